theorem tX8_isOp {E : w_E} {G : w_Sh} {I : w_Mm} {x : Nat} {s : xS} (hX : isX G x (xn s)) (hx : xOK I x s) {op a b : Int} (hop : inR op) (ha : inR a) (hb : inR b) : w_Cb E mX8_isOp 4 [.ref x, iv op, iv a, iv b] G I (opQ s.1 op a b) := by
  have hX0 := hX
  have hx0 := hx
  obtain ⟨hTx, hRx0, hRx1, hRx2, hRx3, hRx4, hTx17, hV, hH, hXm⟩ := hX
  obtain ⟨hxQ, hx5, hx6, hxm, hxr⟩ := hx
  have hK := hV.2.2.2.2.1
  have hC := hK.2.2
  refine w_Ct.of (ls := [some (.ref x), some (iv op), some (iv a), some (iv b)]) (by decide +kernel) (Nat.le_of_ble_eq_true rfl) rfl rfl (fun rng => ?_)
  by_cases hc : 2 ≤ op ∧ op ≤ 19
  · obtain ⟨c1, c2⟩ := hc
    have hcs : op = 2 ∨ op = 3 ∨ op = 4 ∨ op = 5 ∨ op = 6 ∨ op = 7 ∨ op = 8 ∨ op = 9 ∨ op = 10 ∨ op = 11 ∨ op = 12 ∨ op = 13 ∨ op = 14 ∨ op = 15 ∨ op = 16 ∨ op = 17 ∨ op = 18 ∨ op = 19 := by omega
    rcases hcs with rfl | rfl | rfl | rfl | rfl | rfl | rfl | rfl | rfl | rfl | rfl | rfl | rfl | rfl | rfl | rfl | rfl | rfl
    · refine v_iload_n dX8_isOp_0 rfl ?_
      refine v_tswIn (off := 87) (tgt := 88) dX8_isOp_1 ⟨by decide, by decide⟩ (by decide) (by decide) (by decide) (by decide) ?_
      refine v_iload_n dX8_isOp_88 rfl ?_
      refine v_if_lt ha dX8_isOp_89 (fun h1 => ?_) (fun h1 => ?_)
      · refine v_iconst dX8_isOp_102 ?_
        exact v_zret rfl (by decide) (by decide) (Or.inl rfl) dX8_isOp_103 ⟨rfl, rfl, Or.inr ⟨rfl, by omega⟩⟩
      · refine v_iload_n dX8_isOp_92 rfl ?_
        refine v_bipush dX8_isOp_93 (by decide) ?_
        refine v_icmp_ge ha ⟨by decide, by decide⟩ dX8_isOp_95 (fun h2 => ?_) (fun h2 => ?_)
        · refine v_iconst dX8_isOp_102 ?_
          exact v_zret rfl (by decide) (by decide) (Or.inl rfl) dX8_isOp_103 ⟨rfl, rfl, Or.inr ⟨rfl, by omega⟩⟩
        · refine v_iconst dX8_isOp_98 ?_
          refine v_goto dX8_isOp_99 ?_
          exact v_zret rfl (by decide) (by decide) (Or.inr rfl) dX8_isOp_103 ⟨rfl, rfl, Or.inl ⟨rfl, by omega⟩⟩
    · refine v_iload_n dX8_isOp_0 rfl ?_
      refine v_tswIn (off := 87) (tgt := 88) dX8_isOp_1 ⟨by decide, by decide⟩ (by decide) (by decide) (by decide) (by decide) ?_
      refine v_iload_n dX8_isOp_88 rfl ?_
      refine v_if_lt ha dX8_isOp_89 (fun h1 => ?_) (fun h1 => ?_)
      · refine v_iconst dX8_isOp_102 ?_
        exact v_zret rfl (by decide) (by decide) (Or.inl rfl) dX8_isOp_103 ⟨rfl, rfl, Or.inr ⟨rfl, by omega⟩⟩
      · refine v_iload_n dX8_isOp_92 rfl ?_
        refine v_bipush dX8_isOp_93 (by decide) ?_
        refine v_icmp_ge ha ⟨by decide, by decide⟩ dX8_isOp_95 (fun h2 => ?_) (fun h2 => ?_)
        · refine v_iconst dX8_isOp_102 ?_
          exact v_zret rfl (by decide) (by decide) (Or.inl rfl) dX8_isOp_103 ⟨rfl, rfl, Or.inr ⟨rfl, by omega⟩⟩
        · refine v_iconst dX8_isOp_98 ?_
          refine v_goto dX8_isOp_99 ?_
          exact v_zret rfl (by decide) (by decide) (Or.inr rfl) dX8_isOp_103 ⟨rfl, rfl, Or.inl ⟨rfl, by omega⟩⟩
    · refine v_iload_n dX8_isOp_0 rfl ?_
      refine v_tswIn (off := 103) (tgt := 104) dX8_isOp_1 ⟨by decide, by decide⟩ (by decide) (by decide) (by decide) (by decide) ?_
      refine v_iload_n dX8_isOp_104 rfl ?_
      refine v_if_lt ha dX8_isOp_105 (fun h1 => ?_) (fun h1 => ?_)
      · refine v_iconst dX8_isOp_118 ?_
        exact v_zret rfl (by decide) (by decide) (Or.inl rfl) dX8_isOp_119 ⟨rfl, rfl, Or.inr ⟨rfl, by omega⟩⟩
      · refine v_iload_n dX8_isOp_108 rfl ?_
        refine v_bipush dX8_isOp_109 (by decide) ?_
        refine v_icmp_ge ha ⟨by decide, by decide⟩ dX8_isOp_111 (fun h2 => ?_) (fun h2 => ?_)
        · refine v_iconst dX8_isOp_118 ?_
          exact v_zret rfl (by decide) (by decide) (Or.inl rfl) dX8_isOp_119 ⟨rfl, rfl, Or.inr ⟨rfl, by omega⟩⟩
        · refine v_iconst dX8_isOp_114 ?_
          refine v_goto dX8_isOp_115 ?_
          exact v_zret rfl (by decide) (by decide) (Or.inr rfl) dX8_isOp_119 ⟨rfl, rfl, Or.inl ⟨rfl, by omega⟩⟩
    · refine v_iload_n dX8_isOp_0 rfl ?_
      refine v_tswIn (off := 103) (tgt := 104) dX8_isOp_1 ⟨by decide, by decide⟩ (by decide) (by decide) (by decide) (by decide) ?_
      refine v_iload_n dX8_isOp_104 rfl ?_
      refine v_if_lt ha dX8_isOp_105 (fun h1 => ?_) (fun h1 => ?_)
      · refine v_iconst dX8_isOp_118 ?_
        exact v_zret rfl (by decide) (by decide) (Or.inl rfl) dX8_isOp_119 ⟨rfl, rfl, Or.inr ⟨rfl, by omega⟩⟩
      · refine v_iload_n dX8_isOp_108 rfl ?_
        refine v_bipush dX8_isOp_109 (by decide) ?_
        refine v_icmp_ge ha ⟨by decide, by decide⟩ dX8_isOp_111 (fun h2 => ?_) (fun h2 => ?_)
        · refine v_iconst dX8_isOp_118 ?_
          exact v_zret rfl (by decide) (by decide) (Or.inl rfl) dX8_isOp_119 ⟨rfl, rfl, Or.inr ⟨rfl, by omega⟩⟩
        · refine v_iconst dX8_isOp_114 ?_
          refine v_goto dX8_isOp_115 ?_
          exact v_zret rfl (by decide) (by decide) (Or.inr rfl) dX8_isOp_119 ⟨rfl, rfl, Or.inl ⟨rfl, by omega⟩⟩
    · refine v_iload_n dX8_isOp_0 rfl ?_
      refine v_tswIn (off := 87) (tgt := 88) dX8_isOp_1 ⟨by decide, by decide⟩ (by decide) (by decide) (by decide) (by decide) ?_
      refine v_iload_n dX8_isOp_88 rfl ?_
      refine v_if_lt ha dX8_isOp_89 (fun h1 => ?_) (fun h1 => ?_)
      · refine v_iconst dX8_isOp_102 ?_
        exact v_zret rfl (by decide) (by decide) (Or.inl rfl) dX8_isOp_103 ⟨rfl, rfl, Or.inr ⟨rfl, by omega⟩⟩
      · refine v_iload_n dX8_isOp_92 rfl ?_
        refine v_bipush dX8_isOp_93 (by decide) ?_
        refine v_icmp_ge ha ⟨by decide, by decide⟩ dX8_isOp_95 (fun h2 => ?_) (fun h2 => ?_)
        · refine v_iconst dX8_isOp_102 ?_
          exact v_zret rfl (by decide) (by decide) (Or.inl rfl) dX8_isOp_103 ⟨rfl, rfl, Or.inr ⟨rfl, by omega⟩⟩
        · refine v_iconst dX8_isOp_98 ?_
          refine v_goto dX8_isOp_99 ?_
          exact v_zret rfl (by decide) (by decide) (Or.inr rfl) dX8_isOp_103 ⟨rfl, rfl, Or.inl ⟨rfl, by omega⟩⟩
    · refine v_iload_n dX8_isOp_0 rfl ?_
      refine v_tswIn (off := 87) (tgt := 88) dX8_isOp_1 ⟨by decide, by decide⟩ (by decide) (by decide) (by decide) (by decide) ?_
      refine v_iload_n dX8_isOp_88 rfl ?_
      refine v_if_lt ha dX8_isOp_89 (fun h1 => ?_) (fun h1 => ?_)
      · refine v_iconst dX8_isOp_102 ?_
        exact v_zret rfl (by decide) (by decide) (Or.inl rfl) dX8_isOp_103 ⟨rfl, rfl, Or.inr ⟨rfl, by omega⟩⟩
      · refine v_iload_n dX8_isOp_92 rfl ?_
        refine v_bipush dX8_isOp_93 (by decide) ?_
        refine v_icmp_ge ha ⟨by decide, by decide⟩ dX8_isOp_95 (fun h2 => ?_) (fun h2 => ?_)
        · refine v_iconst dX8_isOp_102 ?_
          exact v_zret rfl (by decide) (by decide) (Or.inl rfl) dX8_isOp_103 ⟨rfl, rfl, Or.inr ⟨rfl, by omega⟩⟩
        · refine v_iconst dX8_isOp_98 ?_
          refine v_goto dX8_isOp_99 ?_
          exact v_zret rfl (by decide) (by decide) (Or.inr rfl) dX8_isOp_103 ⟨rfl, rfl, Or.inl ⟨rfl, by omega⟩⟩
    · refine v_iload_n dX8_isOp_0 rfl ?_
      refine v_tswIn (off := 188) (tgt := 189) dX8_isOp_1 ⟨by decide, by decide⟩ (by decide) (by decide) (by decide) (by decide) ?_
      refine v_iload_n dX8_isOp_189 rfl ?_
      refine v_if_lt ⟨by decide, by decide⟩ dX8_isOp_190 (fun h => by exfalso; omega) (fun hb190 => ?_)
      refine v_iload_n dX8_isOp_193 rfl ?_
      refine v_bipush dX8_isOp_194 (by decide) ?_
      refine v_icmp_gt ⟨by decide, by decide⟩ ⟨by decide, by decide⟩ dX8_isOp_196 (fun h => by exfalso; omega) (fun hb196 => ?_)
      refine v_iconst dX8_isOp_199 ?_
      refine v_goto dX8_isOp_200 ?_
      exact v_zret rfl (by decide) (by decide) (Or.inr rfl) dX8_isOp_204 ⟨rfl, rfl, Or.inl ⟨rfl, by omega⟩⟩
    · refine v_iload_n dX8_isOp_0 rfl ?_
      refine v_tswIn (off := 188) (tgt := 189) dX8_isOp_1 ⟨by decide, by decide⟩ (by decide) (by decide) (by decide) (by decide) ?_
      refine v_iload_n dX8_isOp_189 rfl ?_
      refine v_if_lt ⟨by decide, by decide⟩ dX8_isOp_190 (fun h => by exfalso; omega) (fun hb190 => ?_)
      refine v_iload_n dX8_isOp_193 rfl ?_
      refine v_bipush dX8_isOp_194 (by decide) ?_
      refine v_icmp_gt ⟨by decide, by decide⟩ ⟨by decide, by decide⟩ dX8_isOp_196 (fun h => by exfalso; omega) (fun hb196 => ?_)
      refine v_iconst dX8_isOp_199 ?_
      refine v_goto dX8_isOp_200 ?_
      exact v_zret rfl (by decide) (by decide) (Or.inr rfl) dX8_isOp_204 ⟨rfl, rfl, Or.inl ⟨rfl, by omega⟩⟩
    · refine v_iload_n dX8_isOp_0 rfl ?_
      refine v_tswIn (off := 188) (tgt := 189) dX8_isOp_1 ⟨by decide, by decide⟩ (by decide) (by decide) (by decide) (by decide) ?_
      refine v_iload_n dX8_isOp_189 rfl ?_
      refine v_if_lt ⟨by decide, by decide⟩ dX8_isOp_190 (fun h => by exfalso; omega) (fun hb190 => ?_)
      refine v_iload_n dX8_isOp_193 rfl ?_
      refine v_bipush dX8_isOp_194 (by decide) ?_
      refine v_icmp_gt ⟨by decide, by decide⟩ ⟨by decide, by decide⟩ dX8_isOp_196 (fun h => by exfalso; omega) (fun hb196 => ?_)
      refine v_iconst dX8_isOp_199 ?_
      refine v_goto dX8_isOp_200 ?_
      exact v_zret rfl (by decide) (by decide) (Or.inr rfl) dX8_isOp_204 ⟨rfl, rfl, Or.inl ⟨rfl, by omega⟩⟩
    · refine v_iload_n dX8_isOp_0 rfl ?_
      refine v_tswIn (off := 119) (tgt := 120) dX8_isOp_1 ⟨by decide, by decide⟩ (by decide) (by decide) (by decide) (by decide) ?_
      refine v_iload_n dX8_isOp_120 rfl ?_
      refine v_if_lt ha dX8_isOp_121 (fun h1 => ?_) (fun h1 => ?_)
      · refine v_iconst dX8_isOp_128 ?_
        exact v_zret rfl (by decide) (by decide) (Or.inl rfl) dX8_isOp_129 ⟨rfl, rfl, Or.inr ⟨rfl, by omega⟩⟩
      · refine v_iconst dX8_isOp_124 ?_
        refine v_goto dX8_isOp_125 ?_
        exact v_zret rfl (by decide) (by decide) (Or.inr rfl) dX8_isOp_129 ⟨rfl, rfl, Or.inl ⟨rfl, by omega⟩⟩
    · refine v_iload_n dX8_isOp_0 rfl ?_
      refine v_tswIn (off := 119) (tgt := 120) dX8_isOp_1 ⟨by decide, by decide⟩ (by decide) (by decide) (by decide) (by decide) ?_
      refine v_iload_n dX8_isOp_120 rfl ?_
      refine v_if_lt ha dX8_isOp_121 (fun h1 => ?_) (fun h1 => ?_)
      · refine v_iconst dX8_isOp_128 ?_
        exact v_zret rfl (by decide) (by decide) (Or.inl rfl) dX8_isOp_129 ⟨rfl, rfl, Or.inr ⟨rfl, by omega⟩⟩
      · refine v_iconst dX8_isOp_124 ?_
        refine v_goto dX8_isOp_125 ?_
        exact v_zret rfl (by decide) (by decide) (Or.inr rfl) dX8_isOp_129 ⟨rfl, rfl, Or.inl ⟨rfl, by omega⟩⟩
    · refine v_iload_n dX8_isOp_0 rfl ?_
      refine v_tswIn (off := 129) (tgt := 130) dX8_isOp_1 ⟨by decide, by decide⟩ (by decide) (by decide) (by decide) (by decide) ?_
      refine v_aload_n dX8_isOp_130 rfl ?_
      refine v_getR fX8_10 rfl (by assumption) (by assumption) dX8_isOp_131 ?_
      refine v_iload_n dX8_isOp_134 rfl ?_
      refine v_Vb (tX0_has hC hxQ ha) kX8_51 hC.1 rfl rfl ⟨by decide, by decide⟩ ⟨by decide, by decide⟩ (Nat.le_of_ble_eq_true rfl) dX8_isOp_135 (fun h1 => ?_) (fun h1 => ?_)
      · exact v_zret rfl (by decide) (by decide) (Or.inr rfl) dX8_isOp_138 ⟨rfl, rfl, Or.inl ⟨rfl, by omega⟩⟩
      · exact v_zret rfl (by decide) (by decide) (Or.inl rfl) dX8_isOp_138 ⟨rfl, rfl, Or.inr ⟨rfl, by omega⟩⟩
    · refine v_iload_n dX8_isOp_0 rfl ?_
      refine v_tswIn (off := 188) (tgt := 189) dX8_isOp_1 ⟨by decide, by decide⟩ (by decide) (by decide) (by decide) (by decide) ?_
      refine v_iload_n dX8_isOp_189 rfl ?_
      refine v_if_lt ⟨by decide, by decide⟩ dX8_isOp_190 (fun h => by exfalso; omega) (fun hb190 => ?_)
      refine v_iload_n dX8_isOp_193 rfl ?_
      refine v_bipush dX8_isOp_194 (by decide) ?_
      refine v_icmp_gt ⟨by decide, by decide⟩ ⟨by decide, by decide⟩ dX8_isOp_196 (fun h => by exfalso; omega) (fun hb196 => ?_)
      refine v_iconst dX8_isOp_199 ?_
      refine v_goto dX8_isOp_200 ?_
      exact v_zret rfl (by decide) (by decide) (Or.inr rfl) dX8_isOp_204 ⟨rfl, rfl, Or.inl ⟨rfl, by omega⟩⟩
    · refine v_iload_n dX8_isOp_0 rfl ?_
      refine v_tswIn (off := 129) (tgt := 130) dX8_isOp_1 ⟨by decide, by decide⟩ (by decide) (by decide) (by decide) (by decide) ?_
      refine v_aload_n dX8_isOp_130 rfl ?_
      refine v_getR fX8_10 rfl (by assumption) (by assumption) dX8_isOp_131 ?_
      refine v_iload_n dX8_isOp_134 rfl ?_
      refine v_Vb (tX0_has hC hxQ ha) kX8_51 hC.1 rfl rfl ⟨by decide, by decide⟩ ⟨by decide, by decide⟩ (Nat.le_of_ble_eq_true rfl) dX8_isOp_135 (fun h1 => ?_) (fun h1 => ?_)
      · exact v_zret rfl (by decide) (by decide) (Or.inr rfl) dX8_isOp_138 ⟨rfl, rfl, Or.inl ⟨rfl, by omega⟩⟩
      · exact v_zret rfl (by decide) (by decide) (Or.inl rfl) dX8_isOp_138 ⟨rfl, rfl, Or.inr ⟨rfl, by omega⟩⟩
    · refine v_iload_n dX8_isOp_0 rfl ?_
      refine v_tswIn (off := 138) (tgt := 139) dX8_isOp_1 ⟨by decide, by decide⟩ (by decide) (by decide) (by decide) (by decide) ?_
      refine v_aload_n dX8_isOp_139 rfl ?_
      refine v_getR fX8_10 rfl (by assumption) (by assumption) dX8_isOp_140 ?_
      refine v_iload_n dX8_isOp_143 rfl ?_
      refine v_Vb (tX0_has hC hxQ ha) kX8_51 hC.1 rfl rfl ⟨by decide, by decide⟩ ⟨by decide, by decide⟩ (Nat.le_of_ble_eq_true rfl) dX8_isOp_144 (fun h1 => ?_) (fun h1 => ?_)
      · refine v_if_eq ⟨by decide, by decide⟩ dX8_isOp_147 (fun h => by exfalso; omega) (fun hb147 => ?_)
        refine v_aload_n dX8_isOp_150 rfl ?_
        refine v_getR fX8_21 rfl (by assumption) (by assumption) dX8_isOp_151 ?_
        refine v_iload_n dX8_isOp_154 rfl ?_
        refine v_Vb (tX3_isResult hK hxQ hb) kX8_77 hK.1 rfl rfl ⟨by decide, by decide⟩ ⟨by decide, by decide⟩ (Nat.le_of_ble_eq_true rfl) dX8_isOp_155 (fun h2 => ?_) (fun h2 => ?_)
        · refine v_if_eq ⟨by decide, by decide⟩ dX8_isOp_158 (fun h => by exfalso; omega) (fun hb158 => ?_)
          refine v_iconst dX8_isOp_161 ?_
          refine v_goto dX8_isOp_162 ?_
          exact v_zret rfl (by decide) (by decide) (Or.inr rfl) dX8_isOp_166 ⟨rfl, rfl, Or.inl ⟨rfl, by omega⟩⟩
        · refine v_if_eq ⟨by decide, by decide⟩ dX8_isOp_158 (fun hb158 => ?_) (fun h => by exfalso; omega)
          refine v_iconst dX8_isOp_165 ?_
          exact v_zret rfl (by decide) (by decide) (Or.inl rfl) dX8_isOp_166 ⟨rfl, rfl, Or.inr ⟨rfl, by omega⟩⟩
      · refine v_if_eq ⟨by decide, by decide⟩ dX8_isOp_147 (fun hb147 => ?_) (fun h => by exfalso; omega)
        refine v_iconst dX8_isOp_165 ?_
        exact v_zret rfl (by decide) (by decide) (Or.inl rfl) dX8_isOp_166 ⟨rfl, rfl, Or.inr ⟨rfl, by omega⟩⟩
    · refine v_iload_n dX8_isOp_0 rfl ?_
      refine v_tswIn (off := 188) (tgt := 189) dX8_isOp_1 ⟨by decide, by decide⟩ (by decide) (by decide) (by decide) (by decide) ?_
      refine v_iload_n dX8_isOp_189 rfl ?_
      refine v_if_lt ⟨by decide, by decide⟩ dX8_isOp_190 (fun h => by exfalso; omega) (fun hb190 => ?_)
      refine v_iload_n dX8_isOp_193 rfl ?_
      refine v_bipush dX8_isOp_194 (by decide) ?_
      refine v_icmp_gt ⟨by decide, by decide⟩ ⟨by decide, by decide⟩ dX8_isOp_196 (fun h => by exfalso; omega) (fun hb196 => ?_)
      refine v_iconst dX8_isOp_199 ?_
      refine v_goto dX8_isOp_200 ?_
      exact v_zret rfl (by decide) (by decide) (Or.inr rfl) dX8_isOp_204 ⟨rfl, rfl, Or.inl ⟨rfl, by omega⟩⟩
    · refine v_iload_n dX8_isOp_0 rfl ?_
      refine v_tswIn (off := 129) (tgt := 130) dX8_isOp_1 ⟨by decide, by decide⟩ (by decide) (by decide) (by decide) (by decide) ?_
      refine v_aload_n dX8_isOp_130 rfl ?_
      refine v_getR fX8_10 rfl (by assumption) (by assumption) dX8_isOp_131 ?_
      refine v_iload_n dX8_isOp_134 rfl ?_
      refine v_Vb (tX0_has hC hxQ ha) kX8_51 hC.1 rfl rfl ⟨by decide, by decide⟩ ⟨by decide, by decide⟩ (Nat.le_of_ble_eq_true rfl) dX8_isOp_135 (fun h1 => ?_) (fun h1 => ?_)
      · exact v_zret rfl (by decide) (by decide) (Or.inr rfl) dX8_isOp_138 ⟨rfl, rfl, Or.inl ⟨rfl, by omega⟩⟩
      · exact v_zret rfl (by decide) (by decide) (Or.inl rfl) dX8_isOp_138 ⟨rfl, rfl, Or.inr ⟨rfl, by omega⟩⟩
    · refine v_iload_n dX8_isOp_0 rfl ?_
      refine v_tswIn (off := 166) (tgt := 167) dX8_isOp_1 ⟨by decide, by decide⟩ (by decide) (by decide) (by decide) (by decide) ?_
      refine v_iload_n dX8_isOp_167 rfl ?_
      refine v_iconst dX8_isOp_168 ?_
      refine v_icmp_eq ha ⟨by decide, by decide⟩ dX8_isOp_169 (fun h1 => ?_) (fun h1 => ?_)
      · refine v_iconst dX8_isOp_183 ?_
        refine v_goto dX8_isOp_184 ?_
        exact v_zret rfl (by decide) (by decide) (Or.inr rfl) dX8_isOp_188 ⟨rfl, rfl, Or.inl ⟨rfl, by omega⟩⟩
      · refine v_aload_n dX8_isOp_172 rfl ?_
        refine v_getR fX8_10 rfl (by assumption) (by assumption) dX8_isOp_173 ?_
        refine v_iload_n dX8_isOp_176 rfl ?_
        refine v_Vb (tX0_has hC hxQ ha) kX8_51 hC.1 rfl rfl ⟨by decide, by decide⟩ ⟨by decide, by decide⟩ (Nat.le_of_ble_eq_true rfl) dX8_isOp_177 (fun h2 => ?_) (fun h2 => ?_)
        · refine v_if_eq ⟨by decide, by decide⟩ dX8_isOp_180 (fun h => by exfalso; omega) (fun hb180 => ?_)
          refine v_iconst dX8_isOp_183 ?_
          refine v_goto dX8_isOp_184 ?_
          exact v_zret rfl (by decide) (by decide) (Or.inr rfl) dX8_isOp_188 ⟨rfl, rfl, Or.inl ⟨rfl, by omega⟩⟩
        · refine v_if_eq ⟨by decide, by decide⟩ dX8_isOp_180 (fun hb180 => ?_) (fun h => by exfalso; omega)
          refine v_iconst dX8_isOp_187 ?_
          exact v_zret rfl (by decide) (by decide) (Or.inl rfl) dX8_isOp_188 ⟨rfl, rfl, Or.inr ⟨rfl, by omega⟩⟩
  · refine v_iload_n dX8_isOp_0 rfl ?_
    refine v_tswOut (tgt := 189) dX8_isOp_1 hop (by omega) (by decide) ?_
    refine v_iload_n dX8_isOp_189 rfl ?_
    refine v_if_lt hop dX8_isOp_190 (fun h1 => ?_) (fun h1 => ?_)
    · refine v_iconst dX8_isOp_203 ?_
      exact v_zret rfl (by decide) (by decide) (Or.inl rfl) dX8_isOp_204 ⟨rfl, rfl, Or.inr ⟨rfl, by omega⟩⟩
    · refine v_iload_n dX8_isOp_193 rfl ?_
      refine v_bipush dX8_isOp_194 (by decide) ?_
      refine v_icmp_gt hop ⟨by decide, by decide⟩ dX8_isOp_196 (fun h2 => ?_) (fun h2 => ?_)
      · refine v_iconst dX8_isOp_203 ?_
        exact v_zret rfl (by decide) (by decide) (Or.inl rfl) dX8_isOp_204 ⟨rfl, rfl, Or.inr ⟨rfl, by omega⟩⟩
      · refine v_iconst dX8_isOp_199 ?_
        refine v_goto dX8_isOp_200 ?_
        exact v_zret rfl (by decide) (by decide) (Or.inr rfl) dX8_isOp_204 ⟨rfl, rfl, Or.inl ⟨rfl, by omega⟩⟩
