/-! ===== the law: two objects, one state ===== -/
theorem xOK.B {I J : w_Mm} {x : Nat} {s : xS} (h : xOK I x s) (ho : offB I J (x + 18)) : xOK J x s := by
  obtain ⟨h1, h2, h3, h4, h5⟩ := h
  refine ⟨h1.off (fun k => ⟨ho _ _ (by omega), ho _ _ (by omega), ho _ _ (by omega)⟩), (ho _ _ (by omega)).trans h2, h3, fun i hi => ?_, ⟨(ho _ _ (by omega)).trans h5.1, fun k hk => (ho _ _ (by omega)).trans (h5.2.1 k hk), fun k hk => (ho _ _ (by omega)).trans (h5.2.2.1 k hk), h5.2.2.2⟩⟩
  obtain ⟨g1, g2, g3, g4, g5⟩ := h4 i hi
  exact ⟨g1.off (fun a k u1 u2 => ho _ _ (by omega)), g2.off (fun a k u1 u2 => ho _ _ (by omega)), (ho _ _ (by omega)).trans g3, (ho _ _ (by omega)).trans g4, (ho _ _ (by omega)).trans g5⟩
theorem xOK.lw {I : w_Mm} {x : Nat} {s : xS} (h : xOK I x s) : ∀ i j, i < xn s → j < 40 → -1 ≤ ((xκ s i).1 j).1 := fun i j hi hj => ((h.2.2.2.1 i hi).2.1.1 j hj).2.2.2.1
theorem yOK.Y {I J : w_Mm} {x : Nat} {s : xS} (h : yOK I (x + 18) s) (ho : offY I J x) : yOK J (x + 18) s := by
  obtain ⟨h1, h2, h3, h4, h5⟩ := h
  refine ⟨h1.off (ho _ _ (by omega) (by omega)) (funext fun k => ho _ _ (by omega) (by omega)) (funext fun k => ho _ _ (by omega) (by omega)), (ho _ _ (by omega) (by omega)).trans h2, h3, fun i hi => (h4 i hi).off (fun a k u => ho a k (by unfold own at u; omega) (by unfold own at u; omega)), fun i h6 h7 => ?_⟩
  obtain ⟨z1, z2, z3, z4, z5⟩ := h5 i h6 h7
  exact ⟨(ho _ _ (by omega) (by omega)).trans z1, (ho _ _ (by omega) (by omega)).trans z2, (ho _ _ (by omega) (by omega)).trans z3, (ho _ _ (by omega) (by omega)).trans z4, fun k hk => (ho _ _ (by omega) (by omega)).trans (z5 k hk)⟩
theorem samY.y {G G' : w_Sh} {I J : w_Mm} {x : Nat} (h : samY G G' I J x) (hY : isY G (x + 18)) : isY G' (x + 18) ∧ offY I J x :=
  ⟨hY.mv (fun b u1 u2 => ⟨(h b u1 (by omega)).1, (h b u1 (by omega)).2.1⟩), fun a k u1 u2 => congrFun (h a u1 u2).2.2 k⟩
theorem xn_cls {s : xS} {p : Int} : xn (xCls s p).2 = xn s := by
  unfold xCls
  repeat' split
  all_goals rfl
theorem xn_arg {s : xS} {m kd : Int} : xn (xArg s m kd).2 = xn s := by
  unfold xArg
  repeat' split
  all_goals rfl
theorem xn_op {s : xS} {m op a b : Int} : xn (xOp s m op a b).2 = xn s := by
  unfold xOp
  repeat' split
  all_goals rfl
theorem xn_guard {s : xS} {m f t h c : Int} : xn (xGuard s m f t h c).2 = xn s := by
  unfold xGuard
  repeat' split
  all_goals rfl
theorem xn_comp {s : xS} {m : Int} : xn (xComp s m).2 = xn s := by
  unfold xComp
  repeat' split
  all_goals rfl
theorem yOK_0 {J : w_Mm} {y : Nat} (h : ∀ b j, y ≤ b → b < y + 29 → J b j = if b = y ∧ j = 0 then 2 else if b = y + 1 ∧ j = 0 then -1 else 0) : yOK J y xs0 := by
  have z : ∀ b j, y ≤ b → b < y + 29 → ¬ (b = y ∧ j = 0) → ¬ (b = y + 1 ∧ j = 0) → J b j = 0 := fun b j u1 u2 u3 u4 => by rw [h b j u1 u2, if_neg u3, if_neg u4]
  have hc : chn cls0 (J (y + 1)) := by
    refine ⟨rfl, ?_, fun d => bit_pow 0 d, fun c h1 h2 => Or.inr ?_⟩
    · rw [h (y + 1) 0 (by omega) (by omega), if_neg (by omega), if_pos ⟨rfl, rfl⟩]
    · have h3 : c < 2 := h2
      obtain rfl : c = 1 := by omega
      have e : J (y + 1) 1 = 0 := z _ _ (by omega) (by omega) (by omega) (by omega)
      refine ⟨rfl, by rw [e]; decide, by rw [e]; decide, rfl, fun d => ?_⟩
      have h4 := bit_or (2 ^ 1) (2 ^ 0) d
      rw [bit_pow] at h4
      rw [e]
      exact h4
  exact ⟨⟨(h y 0 (by omega) (by omega)).trans (if_pos ⟨rfl, rfl⟩), (show 2 ≤ 2 by decide), (show 2 ≤ 16 by decide), fun j hj => ⟨z _ _ (by omega) (by omega) (by omega) (by omega), Or.inl rfl⟩, hc⟩, z _ _ (by omega) (by omega) (by omega) (by omega), Nat.zero_le _, fun i hi => absurd (show i < 0 from hi) (Nat.not_lt_zero i), fun i _ hi => ⟨z _ _ (by omega) (by omega) (by omega) (by omega), z _ _ (by omega) (by omega) (by omega) (by omega), z _ _ (by omega) (by omega) (by omega) (by omega), z _ _ (by omega) (by omega) (by omega) (by omega), fun k hk => z _ _ (by omega) (by omega) (by omega) (by omega)⟩⟩
/-- both objects of the law hold the state s -/
def lwI (G : w_Sh) (I : w_Mm) (x : Nat) (s : xS) : Prop := isX G x (xn s) ∧ xOK I x s ∧ isY G (x + 18) ∧ yOK I (x + 18) s ∧ zI s ∧ G.2.2 = x + 47 + 132 * xn s
theorem lwI.two {G : w_Sh} {I J K : w_Mm} {x : Nat} {s s' : xS} (h : lwI G I x s) (hn : xn s' = xn s) (hx : xOK J x s') (hy : yOK K (x + 18) s') (ho : offB J K (x + 18)) (hz : zI s') : lwI G K x s' :=
  ⟨by rw [hn]; exact h.1, hx.B ho, h.2.2.1, hy, hz, by rw [hn]; exact h.2.2.2.2.2⟩
theorem lwI.low {G : w_Sh} {I : w_Mm} {x : Nat} {s : xS} (h : lwI G I x s) : (2 ≤ s.1.1 ∧ s.1.1 ≤ 16) ∧ lowQ s.1 := ⟨⟨h.2.2.2.1.1.2.1, h.2.2.2.1.1.2.2.1⟩, h.2.2.2.1.1.2.2.2.2.low⟩
theorem lw_c0 {E : w_E} {G : w_Sh} {I : w_Mm} {x t k n : Nat} {s : xS} (hlen : E.2.2.2.2.2.1 < 2147483648) (hL : E.2.2.2.2.2.1 ≤ 3072) (ht : 6 * t + 6 ≤ E.2.2.2.2.2.1) (hk : k ≤ 47 + 132 * t) (hn : n ≤ 5791 + 1012 * t) (hI : lwI G I x s) (rng : ∀ a k, inR (I a k))
    (kk : ∀ (G1 : w_Sh) (J : w_Mm) (s1 : xS) (k1 n1 : Nat), k1 ≤ 47 + 132 * (t + 1) → n1 ≤ 5791 + 1012 * (t + 1) → lwI G1 J x s1 → (∀ a k, inR (J a k)) → w_V E mL_law room_1 (lw_Zs E.2.2.2.1.size) G1 J k1 n1 559 [some (.ref E.2.2.2.2.1), some (.ref x), some (.ref (x + 18)), some (iv ((6 * t : Nat) : Int))] []) : w_V E mL_law room_1 (lw_Zs E.2.2.2.1.size) G I k n 100 [some (.ref E.2.2.2.2.1), some (.ref x), some (.ref (x + 18)), some (iv ((6 * t : Nat) : Int))] [] := by
  have hcs : k ≤ room_1.cells ∧ n ≤ room_1.slots := ⟨by show k ≤ 600000; omega, by show n ≤ 7302250; omega⟩
  have hcs2 : k + 132 ≤ room_1.cells ∧ n + 1012 ≤ room_1.slots := ⟨by show k + 132 ≤ 600000; omega, by show n + 1012 ≤ 7302250; omega⟩
  refine v_aload_n dL_law_100 rfl ?_
  refine v_aload_n dL_law_101 rfl ?_
  refine v_iload_n dL_law_102 rfl ?_
  refine v_iconst dL_law_103 ?_
  refine v_iadd dL_law_104 ?_
  refine v_sld (i := ((6 * t) + 1)) (by omega) (by omega) hlen dL_law_105 ?_
  refine v_Vi (tX8_cls hI.1 hI.2.1 (inR_of _)) kL_13 hI.1.1 rfl rfl ⟨by decide, by decide⟩ hcs (Nat.le_of_ble_eq_true rfl) dL_law_106 (fun r3 G9 J1 hr3 pJ1 rng2 => ?_)
  obtain ⟨hG9, eJ1, xJ1, oJ1⟩ := pJ1
  obtain rfl := hG9.symm
  obtain rfl := eJ1
  have yJ1 := hI.2.2.2.1.Y oJ1
  refine v_aload_n dL_law_109 rfl ?_
  refine v_aload_n dL_law_110 rfl ?_
  refine v_iload_n dL_law_111 rfl ?_
  refine v_iconst dL_law_112 ?_
  refine v_iadd dL_law_113 ?_
  refine v_sld (i := ((6 * t) + 1)) (by omega) (by omega) hlen dL_law_114 ?_
  refine v_Vi (tX9_cls hI.2.2.1 yJ1 (inR_of _)) kL_17 hI.2.2.1.1 rfl rfl ⟨by decide, by decide⟩ hcs (Nat.le_of_ble_eq_true rfl) dL_law_115 (fun r6 G9 J4 hr6 pJ4 rng5 => ?_)
  obtain ⟨hG9, eJ4, zJ4, oJ4⟩ := pJ4
  obtain rfl := hG9.symm
  obtain rfl := eJ4
  refine v_icmp_eq hr3 hr6 dL_law_118 (fun hb118 => ?_) (fun h => absurd rfl h)
  exact kk G _ _ _ _ (show k ≤ _ by omega) (show n ≤ _ by omega) (hI.two xn_cls xJ1 zJ4 oJ4 (hI.2.2.2.2.1.cls)) rng5
theorem lw_c1 {E : w_E} {G : w_Sh} {I : w_Mm} {x t k n : Nat} {s : xS} (hlen : E.2.2.2.2.2.1 < 2147483648) (hL : E.2.2.2.2.2.1 ≤ 3072) (ht : 6 * t + 6 ≤ E.2.2.2.2.2.1) (hk : k ≤ 47 + 132 * t) (hn : n ≤ 5791 + 1012 * t) (hI : lwI G I x s) (rng : ∀ a k, inR (I a k))
    (kk : ∀ (G1 : w_Sh) (J : w_Mm) (s1 : xS) (k1 n1 : Nat), k1 ≤ 47 + 132 * (t + 1) → n1 ≤ 5791 + 1012 * (t + 1) → lwI G1 J x s1 → (∀ a k, inR (J a k)) → w_V E mL_law room_1 (lw_Zs E.2.2.2.1.size) G1 J k1 n1 559 [some (.ref E.2.2.2.2.1), some (.ref x), some (.ref (x + 18)), some (iv ((6 * t : Nat) : Int))] []) : w_V E mL_law room_1 (lw_Zs E.2.2.2.1.size) G I k n 123 [some (.ref E.2.2.2.2.1), some (.ref x), some (.ref (x + 18)), some (iv ((6 * t : Nat) : Int))] [] := by
  have hcs : k ≤ room_1.cells ∧ n ≤ room_1.slots := ⟨by show k ≤ 600000; omega, by show n ≤ 7302250; omega⟩
  have hcs2 : k + 132 ≤ room_1.cells ∧ n + 1012 ≤ room_1.slots := ⟨by show k + 132 ≤ 600000; omega, by show n + 1012 ≤ 7302250; omega⟩
  refine v_aload_n dL_law_123 rfl ?_
  refine v_aload_n dL_law_124 rfl ?_
  refine v_iload_n dL_law_125 rfl ?_
  refine v_iconst dL_law_126 ?_
  refine v_iadd dL_law_127 ?_
  refine v_sld (i := ((6 * t) + 1)) (by omega) (by omega) hlen dL_law_128 ?_
  refine v_aload_n dL_law_129 rfl ?_
  refine v_iload_n dL_law_130 rfl ?_
  refine v_iconst dL_law_131 ?_
  refine v_iadd dL_law_132 ?_
  refine v_sld (i := ((6 * t) + 2)) (by omega) (by omega) hlen dL_law_133 ?_
  refine v_VmN (tX8_fits hI.1 hI.2.1 (inR_of _) (inR_of _)) kL_18 hI.1.1 rfl rfl ⟨by decide, by decide⟩ hcs (Nat.le_of_ble_eq_true rfl) dL_law_134 (fun r1 er1 hr1 rng2 => ?_)
  subst er1
  refine v_aload_n dL_law_137 rfl ?_
  refine v_aload_n dL_law_138 rfl ?_
  refine v_iload_n dL_law_139 rfl ?_
  refine v_iconst dL_law_140 ?_
  refine v_iadd dL_law_141 ?_
  refine v_sld (i := ((6 * t) + 1)) (by omega) (by omega) hlen dL_law_142 ?_
  refine v_aload_n dL_law_143 rfl ?_
  refine v_iload_n dL_law_144 rfl ?_
  refine v_iconst dL_law_145 ?_
  refine v_iadd dL_law_146 ?_
  refine v_sld (i := ((6 * t) + 2)) (by omega) (by omega) hlen dL_law_147 ?_
  refine v_VmN (tX9_fits hI.2.2.1 hI.2.2.2.1.1 (inR_of _) (inR_of _)) kL_22 hI.2.2.1.1 rfl rfl ⟨by decide, by decide⟩ hcs (Nat.le_of_ble_eq_true rfl) dL_law_148 (fun r3 er3 hr3 rng4 => ?_)
  subst er3
  refine v_icmp_eq hr1 hr3 dL_law_151 (fun hb151 => ?_) (fun h => absurd rfl h)
  exact kk G I s k n (by omega) (by omega) hI rng
theorem lw_c2 {E : w_E} {G : w_Sh} {I : w_Mm} {x t k n : Nat} {s : xS} (hlen : E.2.2.2.2.2.1 < 2147483648) (hL : E.2.2.2.2.2.1 ≤ 3072) (ht : 6 * t + 6 ≤ E.2.2.2.2.2.1) (hk : k ≤ 47 + 132 * t) (hn : n ≤ 5791 + 1012 * t) (hI : lwI G I x s) (rng : ∀ a k, inR (I a k))
    (kk : ∀ (G1 : w_Sh) (J : w_Mm) (s1 : xS) (k1 n1 : Nat), k1 ≤ 47 + 132 * (t + 1) → n1 ≤ 5791 + 1012 * (t + 1) → lwI G1 J x s1 → (∀ a k, inR (J a k)) → w_V E mL_law room_1 (lw_Zs E.2.2.2.1.size) G1 J k1 n1 559 [some (.ref E.2.2.2.2.1), some (.ref x), some (.ref (x + 18)), some (iv ((6 * t : Nat) : Int))] []) : w_V E mL_law room_1 (lw_Zs E.2.2.2.1.size) G I k n 156 [some (.ref E.2.2.2.2.1), some (.ref x), some (.ref (x + 18)), some (iv ((6 * t : Nat) : Int))] [] := by
  have hcs : k ≤ room_1.cells ∧ n ≤ room_1.slots := ⟨by show k ≤ 600000; omega, by show n ≤ 7302250; omega⟩
  have hcs2 : k + 132 ≤ room_1.cells ∧ n + 1012 ≤ room_1.slots := ⟨by show k + 132 ≤ 600000; omega, by show n + 1012 ≤ 7302250; omega⟩
  refine v_aload_n dL_law_156 rfl ?_
  refine v_aload_n dL_law_157 rfl ?_
  refine v_iload_n dL_law_158 rfl ?_
  refine v_iconst dL_law_159 ?_
  refine v_iadd dL_law_160 ?_
  refine v_sld (i := ((6 * t) + 1)) (by omega) (by omega) hlen dL_law_161 ?_
  refine v_aload_n dL_law_162 rfl ?_
  refine v_iload_n dL_law_163 rfl ?_
  refine v_iconst dL_law_164 ?_
  refine v_iadd dL_law_165 ?_
  refine v_sld (i := ((6 * t) + 2)) (by omega) (by omega) hlen dL_law_166 ?_
  refine v_VmN (tX8_join hI.1 hI.2.1 (inR_of _) (inR_of _)) kL_23 hI.1.1 rfl rfl ⟨by decide, by decide⟩ hcs (Nat.le_of_ble_eq_true rfl) dL_law_167 (fun r1 er1 hr1 rng2 => ?_)
  subst er1
  refine v_aload_n dL_law_170 rfl ?_
  refine v_aload_n dL_law_171 rfl ?_
  refine v_iload_n dL_law_172 rfl ?_
  refine v_iconst dL_law_173 ?_
  refine v_iadd dL_law_174 ?_
  refine v_sld (i := ((6 * t) + 1)) (by omega) (by omega) hlen dL_law_175 ?_
  refine v_aload_n dL_law_176 rfl ?_
  refine v_iload_n dL_law_177 rfl ?_
  refine v_iconst dL_law_178 ?_
  refine v_iadd dL_law_179 ?_
  refine v_sld (i := ((6 * t) + 2)) (by omega) (by omega) hlen dL_law_180 ?_
  refine v_VmN (tX9_join hI.2.2.1 hI.2.2.2.1.1 (inR_of _) (inR_of _)) kL_26 hI.2.2.1.1 rfl rfl ⟨by decide, by decide⟩ hcs (Nat.le_of_ble_eq_true rfl) dL_law_181 (fun r3 er3 hr3 rng4 => ?_)
  subst er3
  refine v_icmp_eq hr1 hr3 dL_law_184 (fun hb184 => ?_) (fun h => absurd rfl h)
  exact kk G I s k n (by omega) (by omega) hI rng
theorem lw_c3 {E : w_E} {G : w_Sh} {I : w_Mm} {x t k n : Nat} {s : xS} (hlen : E.2.2.2.2.2.1 < 2147483648) (hL : E.2.2.2.2.2.1 ≤ 3072) (ht : 6 * t + 6 ≤ E.2.2.2.2.2.1) (hk : k ≤ 47 + 132 * t) (hn : n ≤ 5791 + 1012 * t) (hI : lwI G I x s) (rng : ∀ a k, inR (I a k))
    (kk : ∀ (G1 : w_Sh) (J : w_Mm) (s1 : xS) (k1 n1 : Nat), k1 ≤ 47 + 132 * (t + 1) → n1 ≤ 5791 + 1012 * (t + 1) → lwI G1 J x s1 → (∀ a k, inR (J a k)) → w_V E mL_law room_1 (lw_Zs E.2.2.2.1.size) G1 J k1 n1 559 [some (.ref E.2.2.2.2.1), some (.ref x), some (.ref (x + 18)), some (iv ((6 * t : Nat) : Int))] []) : w_V E mL_law room_1 (lw_Zs E.2.2.2.1.size) G I k n 189 [some (.ref E.2.2.2.2.1), some (.ref x), some (.ref (x + 18)), some (iv ((6 * t : Nat) : Int))] [] := by
  have hcs : k ≤ room_1.cells ∧ n ≤ room_1.slots := ⟨by show k ≤ 600000; omega, by show n ≤ 7302250; omega⟩
  have hcs2 : k + 132 ≤ room_1.cells ∧ n + 1012 ≤ room_1.slots := ⟨by show k + 132 ≤ 600000; omega, by show n + 1012 ≤ 7302250; omega⟩
  refine v_aload_n dL_law_189 rfl ?_
  refine v_aload_n dL_law_190 rfl ?_
  refine v_iload_n dL_law_191 rfl ?_
  refine v_iconst dL_law_192 ?_
  refine v_iadd dL_law_193 ?_
  refine v_sld (i := ((6 * t) + 1)) (by omega) (by omega) hlen dL_law_194 ?_
  refine v_Vi (tX8_method hI.1 hI.2.1 (inR_of _) hI.2.2.2.2.2) kL_27 hI.1.1 rfl rfl ⟨by decide, by decide⟩ hcs2 (Nat.le_of_ble_eq_true rfl) dL_law_195 (fun r G1 J hr p1 rng1 => ?_)
  obtain ⟨rfl, x1, i1, t1, s1, _⟩ := p1
  obtain ⟨y1, o1⟩ := s1.y hI.2.2.1
  have z1 := hI.2.2.2.1.Y o1
  refine v_aload_n dL_law_198 rfl ?_
  refine v_aload_n dL_law_199 rfl ?_
  refine v_iload_n dL_law_200 rfl ?_
  refine v_iconst dL_law_201 ?_
  refine v_iadd dL_law_202 ?_
  refine v_sld (i := ((6 * t) + 1)) (by omega) (by omega) hlen dL_law_203 ?_
  refine v_Vi (tX9_method y1 z1 (inR_of _)) kL_30 y1.1 rfl rfl ⟨by decide, by decide⟩ hcs2 (Nat.le_of_ble_eq_true rfl) dL_law_204 (fun r2 G2 K hr2 p2 rng2 => ?_)
  obtain ⟨hG2, e2, z2, o2⟩ := p2
  obtain rfl := hG2.symm
  obtain rfl := e2
  refine v_icmp_eq hr hr2 dL_law_207 (fun hb207 => ?_) (fun h => absurd rfl h)
  exact kk G1 K (xMeth s ((E.2.2.2.2.2.2 ((6 * t) + 1)).toInt)).2 _ _ (show k + 132 ≤ _ by omega) (show n + 1012 ≤ _ by omega) ⟨i1, x1.B o2, y1, z2, hI.2.2.2.2.1.meth, t1⟩ rng2
theorem lw_c4 {E : w_E} {G : w_Sh} {I : w_Mm} {x t k n : Nat} {s : xS} (hlen : E.2.2.2.2.2.1 < 2147483648) (hL : E.2.2.2.2.2.1 ≤ 3072) (ht : 6 * t + 6 ≤ E.2.2.2.2.2.1) (hk : k ≤ 47 + 132 * t) (hn : n ≤ 5791 + 1012 * t) (hI : lwI G I x s) (rng : ∀ a k, inR (I a k))
    (kk : ∀ (G1 : w_Sh) (J : w_Mm) (s1 : xS) (k1 n1 : Nat), k1 ≤ 47 + 132 * (t + 1) → n1 ≤ 5791 + 1012 * (t + 1) → lwI G1 J x s1 → (∀ a k, inR (J a k)) → w_V E mL_law room_1 (lw_Zs E.2.2.2.1.size) G1 J k1 n1 559 [some (.ref E.2.2.2.2.1), some (.ref x), some (.ref (x + 18)), some (iv ((6 * t : Nat) : Int))] []) : w_V E mL_law room_1 (lw_Zs E.2.2.2.1.size) G I k n 212 [some (.ref E.2.2.2.2.1), some (.ref x), some (.ref (x + 18)), some (iv ((6 * t : Nat) : Int))] [] := by
  have hcs : k ≤ room_1.cells ∧ n ≤ room_1.slots := ⟨by show k ≤ 600000; omega, by show n ≤ 7302250; omega⟩
  have hcs2 : k + 132 ≤ room_1.cells ∧ n + 1012 ≤ room_1.slots := ⟨by show k + 132 ≤ 600000; omega, by show n + 1012 ≤ 7302250; omega⟩
  refine v_aload_n dL_law_212 rfl ?_
  refine v_aload_n dL_law_213 rfl ?_
  refine v_iload_n dL_law_214 rfl ?_
  refine v_iconst dL_law_215 ?_
  refine v_iadd dL_law_216 ?_
  refine v_sld (i := ((6 * t) + 1)) (by omega) (by omega) hlen dL_law_217 ?_
  refine v_aload_n dL_law_218 rfl ?_
  refine v_iload_n dL_law_219 rfl ?_
  refine v_iconst dL_law_220 ?_
  refine v_iadd dL_law_221 ?_
  refine v_sld (i := ((6 * t) + 2)) (by omega) (by omega) hlen dL_law_222 ?_
  refine v_Vi (tX8_argument hI.1 hI.2.1 (inR_of _) (inR_of _)) kL_31 hI.1.1 rfl rfl ⟨by decide, by decide⟩ hcs (Nat.le_of_ble_eq_true rfl) dL_law_223 (fun r3 G9 J1 hr3 pJ1 rng2 => ?_)
  obtain ⟨hG9, eJ1, xJ1, oJ1⟩ := pJ1
  obtain rfl := hG9.symm
  obtain rfl := eJ1
  have yJ1 := hI.2.2.2.1.Y oJ1
  refine v_aload_n dL_law_226 rfl ?_
  refine v_aload_n dL_law_227 rfl ?_
  refine v_iload_n dL_law_228 rfl ?_
  refine v_iconst dL_law_229 ?_
  refine v_iadd dL_law_230 ?_
  refine v_sld (i := ((6 * t) + 1)) (by omega) (by omega) hlen dL_law_231 ?_
  refine v_aload_n dL_law_232 rfl ?_
  refine v_iload_n dL_law_233 rfl ?_
  refine v_iconst dL_law_234 ?_
  refine v_iadd dL_law_235 ?_
  refine v_sld (i := ((6 * t) + 2)) (by omega) (by omega) hlen dL_law_236 ?_
  refine v_Vi (tX9_argument hI.2.2.1 yJ1 (inR_of _) (inR_of _)) kL_34 hI.2.2.1.1 rfl rfl ⟨by decide, by decide⟩ hcs (Nat.le_of_ble_eq_true rfl) dL_law_237 (fun r6 G9 J4 hr6 pJ4 rng5 => ?_)
  obtain ⟨hG9, eJ4, zJ4, oJ4⟩ := pJ4
  obtain rfl := hG9.symm
  obtain rfl := eJ4
  refine v_icmp_eq hr3 hr6 dL_law_240 (fun hb240 => ?_) (fun h => absurd rfl h)
  exact kk G _ _ _ _ (show k ≤ _ by omega) (show n ≤ _ by omega) (hI.two xn_arg xJ1 zJ4 oJ4 (hI.2.2.2.2.1.arg)) rng5
theorem lw_c5 {E : w_E} {G : w_Sh} {I : w_Mm} {x t k n : Nat} {s : xS} (hlen : E.2.2.2.2.2.1 < 2147483648) (hL : E.2.2.2.2.2.1 ≤ 3072) (ht : 6 * t + 6 ≤ E.2.2.2.2.2.1) (hk : k ≤ 47 + 132 * t) (hn : n ≤ 5791 + 1012 * t) (hI : lwI G I x s) (rng : ∀ a k, inR (I a k))
    (kk : ∀ (G1 : w_Sh) (J : w_Mm) (s1 : xS) (k1 n1 : Nat), k1 ≤ 47 + 132 * (t + 1) → n1 ≤ 5791 + 1012 * (t + 1) → lwI G1 J x s1 → (∀ a k, inR (J a k)) → w_V E mL_law room_1 (lw_Zs E.2.2.2.1.size) G1 J k1 n1 559 [some (.ref E.2.2.2.2.1), some (.ref x), some (.ref (x + 18)), some (iv ((6 * t : Nat) : Int))] []) : w_V E mL_law room_1 (lw_Zs E.2.2.2.1.size) G I k n 245 [some (.ref E.2.2.2.2.1), some (.ref x), some (.ref (x + 18)), some (iv ((6 * t : Nat) : Int))] [] := by
  have hcs : k ≤ room_1.cells ∧ n ≤ room_1.slots := ⟨by show k ≤ 600000; omega, by show n ≤ 7302250; omega⟩
  have hcs2 : k + 132 ≤ room_1.cells ∧ n + 1012 ≤ room_1.slots := ⟨by show k + 132 ≤ 600000; omega, by show n + 1012 ≤ 7302250; omega⟩
  refine v_aload_n dL_law_245 rfl ?_
  refine v_aload_n dL_law_246 rfl ?_
  refine v_iload_n dL_law_247 rfl ?_
  refine v_iconst dL_law_248 ?_
  refine v_iadd dL_law_249 ?_
  refine v_sld (i := ((6 * t) + 1)) (by omega) (by omega) hlen dL_law_250 ?_
  refine v_aload_n dL_law_251 rfl ?_
  refine v_iload_n dL_law_252 rfl ?_
  refine v_iconst dL_law_253 ?_
  refine v_iadd dL_law_254 ?_
  refine v_sld (i := ((6 * t) + 2)) (by omega) (by omega) hlen dL_law_255 ?_
  refine v_aload_n dL_law_256 rfl ?_
  refine v_iload_n dL_law_257 rfl ?_
  refine v_iconst dL_law_258 ?_
  refine v_iadd dL_law_259 ?_
  refine v_sld (i := ((6 * t) + 3)) (by omega) (by omega) hlen dL_law_260 ?_
  refine v_aload_n dL_law_261 rfl ?_
  refine v_iload_n dL_law_262 rfl ?_
  refine v_iconst dL_law_263 ?_
  refine v_iadd dL_law_264 ?_
  refine v_sld (i := ((6 * t) + 4)) (by omega) (by omega) hlen dL_law_265 ?_
  refine v_Vi (tX8_op hI.1 hI.2.1 (inR_of _) (inR_of _) (inR_of _) (inR_of _)) kL_35 hI.1.1 rfl rfl ⟨by decide, by decide⟩ hcs (Nat.le_of_ble_eq_true rfl) dL_law_266 (fun r3 G9 J1 hr3 pJ1 rng2 => ?_)
  obtain ⟨hG9, eJ1, xJ1, oJ1⟩ := pJ1
  obtain rfl := hG9.symm
  obtain rfl := eJ1
  have yJ1 := hI.2.2.2.1.Y oJ1
  refine v_aload_n dL_law_269 rfl ?_
  refine v_aload_n dL_law_270 rfl ?_
  refine v_iload_n dL_law_271 rfl ?_
  refine v_iconst dL_law_272 ?_
  refine v_iadd dL_law_273 ?_
  refine v_sld (i := ((6 * t) + 1)) (by omega) (by omega) hlen dL_law_274 ?_
  refine v_aload_n dL_law_275 rfl ?_
  refine v_iload_n dL_law_276 rfl ?_
  refine v_iconst dL_law_277 ?_
  refine v_iadd dL_law_278 ?_
  refine v_sld (i := ((6 * t) + 2)) (by omega) (by omega) hlen dL_law_279 ?_
  refine v_aload_n dL_law_280 rfl ?_
  refine v_iload_n dL_law_281 rfl ?_
  refine v_iconst dL_law_282 ?_
  refine v_iadd dL_law_283 ?_
  refine v_sld (i := ((6 * t) + 3)) (by omega) (by omega) hlen dL_law_284 ?_
  refine v_aload_n dL_law_285 rfl ?_
  refine v_iload_n dL_law_286 rfl ?_
  refine v_iconst dL_law_287 ?_
  refine v_iadd dL_law_288 ?_
  refine v_sld (i := ((6 * t) + 4)) (by omega) (by omega) hlen dL_law_289 ?_
  refine v_Vi (tX9_op hI.2.2.1 yJ1 (inR_of _) (inR_of _) (inR_of _) (inR_of _)) kL_39 hI.2.2.1.1 rfl rfl ⟨by decide, by decide⟩ hcs (Nat.le_of_ble_eq_true rfl) dL_law_290 (fun r6 G9 J4 hr6 pJ4 rng5 => ?_)
  obtain ⟨hG9, eJ4, zJ4, oJ4⟩ := pJ4
  obtain rfl := hG9.symm
  obtain rfl := eJ4
  refine v_icmp_eq hr3 hr6 dL_law_293 (fun hb293 => ?_) (fun h => absurd rfl h)
  exact kk G _ _ _ _ (show k ≤ _ by omega) (show n ≤ _ by omega) (hI.two xn_op xJ1 zJ4 oJ4 (hI.2.2.2.2.1.op)) rng5
theorem lw_c6 {E : w_E} {G : w_Sh} {I : w_Mm} {x t k n : Nat} {s : xS} (hlen : E.2.2.2.2.2.1 < 2147483648) (hL : E.2.2.2.2.2.1 ≤ 3072) (ht : 6 * t + 6 ≤ E.2.2.2.2.2.1) (hk : k ≤ 47 + 132 * t) (hn : n ≤ 5791 + 1012 * t) (hI : lwI G I x s) (rng : ∀ a k, inR (I a k))
    (kk : ∀ (G1 : w_Sh) (J : w_Mm) (s1 : xS) (k1 n1 : Nat), k1 ≤ 47 + 132 * (t + 1) → n1 ≤ 5791 + 1012 * (t + 1) → lwI G1 J x s1 → (∀ a k, inR (J a k)) → w_V E mL_law room_1 (lw_Zs E.2.2.2.1.size) G1 J k1 n1 559 [some (.ref E.2.2.2.2.1), some (.ref x), some (.ref (x + 18)), some (iv ((6 * t : Nat) : Int))] []) : w_V E mL_law room_1 (lw_Zs E.2.2.2.1.size) G I k n 298 [some (.ref E.2.2.2.2.1), some (.ref x), some (.ref (x + 18)), some (iv ((6 * t : Nat) : Int))] [] := by
  have hcs : k ≤ room_1.cells ∧ n ≤ room_1.slots := ⟨by show k ≤ 600000; omega, by show n ≤ 7302250; omega⟩
  have hcs2 : k + 132 ≤ room_1.cells ∧ n + 1012 ≤ room_1.slots := ⟨by show k + 132 ≤ 600000; omega, by show n + 1012 ≤ 7302250; omega⟩
  refine v_aload_n dL_law_298 rfl ?_
  refine v_aload_n dL_law_299 rfl ?_
  refine v_iload_n dL_law_300 rfl ?_
  refine v_iconst dL_law_301 ?_
  refine v_iadd dL_law_302 ?_
  refine v_sld (i := ((6 * t) + 1)) (by omega) (by omega) hlen dL_law_303 ?_
  refine v_aload_n dL_law_304 rfl ?_
  refine v_iload_n dL_law_305 rfl ?_
  refine v_iconst dL_law_306 ?_
  refine v_iadd dL_law_307 ?_
  refine v_sld (i := ((6 * t) + 2)) (by omega) (by omega) hlen dL_law_308 ?_
  refine v_aload_n dL_law_309 rfl ?_
  refine v_iload_n dL_law_310 rfl ?_
  refine v_iconst dL_law_311 ?_
  refine v_iadd dL_law_312 ?_
  refine v_sld (i := ((6 * t) + 3)) (by omega) (by omega) hlen dL_law_313 ?_
  refine v_aload_n dL_law_314 rfl ?_
  refine v_iload_n dL_law_315 rfl ?_
  refine v_iconst dL_law_316 ?_
  refine v_iadd dL_law_317 ?_
  refine v_sld (i := ((6 * t) + 4)) (by omega) (by omega) hlen dL_law_318 ?_
  refine v_aload_n dL_law_319 rfl ?_
  refine v_iload_n dL_law_320 rfl ?_
  refine v_iconst dL_law_321 ?_
  refine v_iadd dL_law_322 ?_
  refine v_sld (i := ((6 * t) + 5)) (by omega) (by omega) hlen dL_law_323 ?_
  refine v_Vi (tX8_guard hI.1 hI.2.1 (inR_of _) (inR_of _) (inR_of _) (inR_of _) (inR_of _)) kL_40 hI.1.1 rfl rfl ⟨by decide, by decide⟩ hcs (Nat.le_of_ble_eq_true rfl) dL_law_324 (fun r3 G9 J1 hr3 pJ1 rng2 => ?_)
  obtain ⟨hG9, eJ1, xJ1, oJ1⟩ := pJ1
  obtain rfl := hG9.symm
  obtain rfl := eJ1
  have yJ1 := hI.2.2.2.1.Y oJ1
  refine v_aload_n dL_law_327 rfl ?_
  refine v_aload_n dL_law_328 rfl ?_
  refine v_iload_n dL_law_329 rfl ?_
  refine v_iconst dL_law_330 ?_
  refine v_iadd dL_law_331 ?_
  refine v_sld (i := ((6 * t) + 1)) (by omega) (by omega) hlen dL_law_332 ?_
  refine v_aload_n dL_law_333 rfl ?_
  refine v_iload_n dL_law_334 rfl ?_
  refine v_iconst dL_law_335 ?_
  refine v_iadd dL_law_336 ?_
  refine v_sld (i := ((6 * t) + 2)) (by omega) (by omega) hlen dL_law_337 ?_
  refine v_aload_n dL_law_338 rfl ?_
  refine v_iload_n dL_law_339 rfl ?_
  refine v_iconst dL_law_340 ?_
  refine v_iadd dL_law_341 ?_
  refine v_sld (i := ((6 * t) + 3)) (by omega) (by omega) hlen dL_law_342 ?_
  refine v_aload_n dL_law_343 rfl ?_
  refine v_iload_n dL_law_344 rfl ?_
  refine v_iconst dL_law_345 ?_
  refine v_iadd dL_law_346 ?_
  refine v_sld (i := ((6 * t) + 4)) (by omega) (by omega) hlen dL_law_347 ?_
  refine v_aload_n dL_law_348 rfl ?_
  refine v_iload_n dL_law_349 rfl ?_
  refine v_iconst dL_law_350 ?_
  refine v_iadd dL_law_351 ?_
  refine v_sld (i := ((6 * t) + 5)) (by omega) (by omega) hlen dL_law_352 ?_
  refine v_Vi (tX9_guard hI.2.2.1 yJ1 (inR_of _) (inR_of _) (inR_of _) (inR_of _) (inR_of _)) kL_44 hI.2.2.1.1 rfl rfl ⟨by decide, by decide⟩ hcs (Nat.le_of_ble_eq_true rfl) dL_law_353 (fun r6 G9 J4 hr6 pJ4 rng5 => ?_)
  obtain ⟨hG9, eJ4, zJ4, oJ4⟩ := pJ4
  obtain rfl := hG9.symm
  obtain rfl := eJ4
  refine v_icmp_eq hr3 hr6 dL_law_356 (fun hb356 => ?_) (fun h => absurd rfl h)
  exact kk G _ _ _ _ (show k ≤ _ by omega) (show n ≤ _ by omega) (hI.two xn_guard xJ1 zJ4 oJ4 (hI.2.2.2.2.1.guard)) rng5
theorem lw_c7 {E : w_E} {G : w_Sh} {I : w_Mm} {x t k n : Nat} {s : xS} (hlen : E.2.2.2.2.2.1 < 2147483648) (hL : E.2.2.2.2.2.1 ≤ 3072) (ht : 6 * t + 6 ≤ E.2.2.2.2.2.1) (hk : k ≤ 47 + 132 * t) (hn : n ≤ 5791 + 1012 * t) (hI : lwI G I x s) (rng : ∀ a k, inR (I a k))
    (kk : ∀ (G1 : w_Sh) (J : w_Mm) (s1 : xS) (k1 n1 : Nat), k1 ≤ 47 + 132 * (t + 1) → n1 ≤ 5791 + 1012 * (t + 1) → lwI G1 J x s1 → (∀ a k, inR (J a k)) → w_V E mL_law room_1 (lw_Zs E.2.2.2.1.size) G1 J k1 n1 559 [some (.ref E.2.2.2.2.1), some (.ref x), some (.ref (x + 18)), some (iv ((6 * t : Nat) : Int))] []) : w_V E mL_law room_1 (lw_Zs E.2.2.2.1.size) G I k n 361 [some (.ref E.2.2.2.2.1), some (.ref x), some (.ref (x + 18)), some (iv ((6 * t : Nat) : Int))] [] := by
  have hcs : k ≤ room_1.cells ∧ n ≤ room_1.slots := ⟨by show k ≤ 600000; omega, by show n ≤ 7302250; omega⟩
  have hcs2 : k + 132 ≤ room_1.cells ∧ n + 1012 ≤ room_1.slots := ⟨by show k + 132 ≤ 600000; omega, by show n + 1012 ≤ 7302250; omega⟩
  refine v_aload_n dL_law_361 rfl ?_
  refine v_aload_n dL_law_362 rfl ?_
  refine v_iload_n dL_law_363 rfl ?_
  refine v_iconst dL_law_364 ?_
  refine v_iadd dL_law_365 ?_
  refine v_sld (i := ((6 * t) + 1)) (by omega) (by omega) hlen dL_law_366 ?_
  refine v_Vi (tX8_compute hI.1 hI.2.1 (inR_of _) hI.2.2.2.2.1.x) kL_45 hI.1.1 rfl rfl ⟨by decide, by decide⟩ hcs (Nat.le_of_ble_eq_true rfl) dL_law_367 (fun r3 G9 J1 hr3 pJ1 rng2 => ?_)
  obtain ⟨hG9, eJ1, xJ1, oJ1⟩ := pJ1
  obtain rfl := hG9.symm
  obtain rfl := eJ1
  have yJ1 := hI.2.2.2.1.Y oJ1
  refine v_aload_n dL_law_370 rfl ?_
  refine v_aload_n dL_law_371 rfl ?_
  refine v_iload_n dL_law_372 rfl ?_
  refine v_iconst dL_law_373 ?_
  refine v_iadd dL_law_374 ?_
  refine v_sld (i := ((6 * t) + 1)) (by omega) (by omega) hlen dL_law_375 ?_
  refine v_Vi (tX9_compute hI.2.2.1 yJ1 (inR_of _) hI.2.2.2.2.1) kL_48 hI.2.2.1.1 rfl rfl ⟨by decide, by decide⟩ hcs (Nat.le_of_ble_eq_true rfl) dL_law_376 (fun r6 G9 J4 hr6 pJ4 rng5 => ?_)
  obtain ⟨hG9, eJ4, zJ4, oJ4⟩ := pJ4
  obtain rfl := hG9.symm
  obtain rfl := eJ4
  refine v_icmp_eq hr3 hr6 dL_law_379 (fun hb379 => ?_) (fun h => absurd rfl h)
  exact kk G _ _ _ _ (show k ≤ _ by omega) (show n ≤ _ by omega) (hI.two xn_comp xJ1 zJ4 oJ4 (hI.2.2.2.2.1.comp hI.low.1 hI.low.2)) rng5
theorem lw_c8 {E : w_E} {G : w_Sh} {I : w_Mm} {x t k n : Nat} {s : xS} (hlen : E.2.2.2.2.2.1 < 2147483648) (hL : E.2.2.2.2.2.1 ≤ 3072) (ht : 6 * t + 6 ≤ E.2.2.2.2.2.1) (hk : k ≤ 47 + 132 * t) (hn : n ≤ 5791 + 1012 * t) (hI : lwI G I x s) (rng : ∀ a k, inR (I a k))
    (kk : ∀ (G1 : w_Sh) (J : w_Mm) (s1 : xS) (k1 n1 : Nat), k1 ≤ 47 + 132 * (t + 1) → n1 ≤ 5791 + 1012 * (t + 1) → lwI G1 J x s1 → (∀ a k, inR (J a k)) → w_V E mL_law room_1 (lw_Zs E.2.2.2.1.size) G1 J k1 n1 559 [some (.ref E.2.2.2.2.1), some (.ref x), some (.ref (x + 18)), some (iv ((6 * t : Nat) : Int))] []) : w_V E mL_law room_1 (lw_Zs E.2.2.2.1.size) G I k n 384 [some (.ref E.2.2.2.2.1), some (.ref x), some (.ref (x + 18)), some (iv ((6 * t : Nat) : Int))] [] := by
  have hcs : k ≤ room_1.cells ∧ n ≤ room_1.slots := ⟨by show k ≤ 600000; omega, by show n ≤ 7302250; omega⟩
  have hcs2 : k + 132 ≤ room_1.cells ∧ n + 1012 ≤ room_1.slots := ⟨by show k + 132 ≤ 600000; omega, by show n + 1012 ≤ 7302250; omega⟩
  refine v_aload_n dL_law_384 rfl ?_
  refine v_aload_n dL_law_385 rfl ?_
  refine v_iload_n dL_law_386 rfl ?_
  refine v_iconst dL_law_387 ?_
  refine v_iadd dL_law_388 ?_
  refine v_sld (i := ((6 * t) + 1)) (by omega) (by omega) hlen dL_law_389 ?_
  refine v_aload_n dL_law_390 rfl ?_
  refine v_iload_n dL_law_391 rfl ?_
  refine v_iconst dL_law_392 ?_
  refine v_iadd dL_law_393 ?_
  refine v_sld (i := ((6 * t) + 2)) (by omega) (by omega) hlen dL_law_394 ?_
  refine v_VmN (tX8_told hI.1 hI.2.1 (inR_of _) (inR_of _) (fun i hi => (hI.2.2.2.2.1.1 i hi).1)) kL_49 hI.1.1 rfl rfl ⟨by decide, by decide⟩ hcs (Nat.le_of_ble_eq_true rfl) dL_law_395 (fun r1 er1 hr1 rng2 => ?_)
  subst er1
  refine v_aload_n dL_law_398 rfl ?_
  refine v_aload_n dL_law_399 rfl ?_
  refine v_iload_n dL_law_400 rfl ?_
  refine v_iconst dL_law_401 ?_
  refine v_iadd dL_law_402 ?_
  refine v_sld (i := ((6 * t) + 1)) (by omega) (by omega) hlen dL_law_403 ?_
  refine v_aload_n dL_law_404 rfl ?_
  refine v_iload_n dL_law_405 rfl ?_
  refine v_iconst dL_law_406 ?_
  refine v_iadd dL_law_407 ?_
  refine v_sld (i := ((6 * t) + 2)) (by omega) (by omega) hlen dL_law_408 ?_
  refine v_VmN (tX9_told hI.2.2.1 hI.2.2.2.1 (inR_of _) (inR_of _) hI.2.2.2.2.1) kL_52 hI.2.2.1.1 rfl rfl ⟨by decide, by decide⟩ hcs (Nat.le_of_ble_eq_true rfl) dL_law_409 (fun r3 er3 hr3 rng4 => ?_)
  subst er3
  refine v_icmp_eq hr1 hr3 dL_law_412 (fun hb412 => ?_) (fun h => absurd rfl h)
  exact kk G I s k n (by omega) (by omega) hI rng
theorem lw_c9 {E : w_E} {G : w_Sh} {I : w_Mm} {x t k n : Nat} {s : xS} (hlen : E.2.2.2.2.2.1 < 2147483648) (hL : E.2.2.2.2.2.1 ≤ 3072) (ht : 6 * t + 6 ≤ E.2.2.2.2.2.1) (hk : k ≤ 47 + 132 * t) (hn : n ≤ 5791 + 1012 * t) (hI : lwI G I x s) (rng : ∀ a k, inR (I a k))
    (kk : ∀ (G1 : w_Sh) (J : w_Mm) (s1 : xS) (k1 n1 : Nat), k1 ≤ 47 + 132 * (t + 1) → n1 ≤ 5791 + 1012 * (t + 1) → lwI G1 J x s1 → (∀ a k, inR (J a k)) → w_V E mL_law room_1 (lw_Zs E.2.2.2.1.size) G1 J k1 n1 559 [some (.ref E.2.2.2.2.1), some (.ref x), some (.ref (x + 18)), some (iv ((6 * t : Nat) : Int))] []) : w_V E mL_law room_1 (lw_Zs E.2.2.2.1.size) G I k n 417 [some (.ref E.2.2.2.2.1), some (.ref x), some (.ref (x + 18)), some (iv ((6 * t : Nat) : Int))] [] := by
  have hcs : k ≤ room_1.cells ∧ n ≤ room_1.slots := ⟨by show k ≤ 600000; omega, by show n ≤ 7302250; omega⟩
  have hcs2 : k + 132 ≤ room_1.cells ∧ n + 1012 ≤ room_1.slots := ⟨by show k + 132 ≤ 600000; omega, by show n + 1012 ≤ 7302250; omega⟩
  refine v_aload_n dL_law_417 rfl ?_
  refine v_aload_n dL_law_418 rfl ?_
  refine v_iload_n dL_law_419 rfl ?_
  refine v_iconst dL_law_420 ?_
  refine v_iadd dL_law_421 ?_
  refine v_sld (i := ((6 * t) + 1)) (by omega) (by omega) hlen dL_law_422 ?_
  refine v_aload_n dL_law_423 rfl ?_
  refine v_iload_n dL_law_424 rfl ?_
  refine v_iconst dL_law_425 ?_
  refine v_iadd dL_law_426 ?_
  refine v_sld (i := ((6 * t) + 2)) (by omega) (by omega) hlen dL_law_427 ?_
  refine v_aload_n dL_law_428 rfl ?_
  refine v_iload_n dL_law_429 rfl ?_
  refine v_iconst dL_law_430 ?_
  refine v_iadd dL_law_431 ?_
  refine v_sld (i := ((6 * t) + 3)) (by omega) (by omega) hlen dL_law_432 ?_
  refine v_VmN (tX8_frame hI.1 hI.2.1 (inR_of _) (inR_of _) (inR_of _)) kL_53 hI.1.1 rfl rfl ⟨by decide, by decide⟩ hcs (Nat.le_of_ble_eq_true rfl) dL_law_433 (fun r1 er1 hr1 rng2 => ?_)
  subst er1
  refine v_aload_n dL_law_436 rfl ?_
  refine v_aload_n dL_law_437 rfl ?_
  refine v_iload_n dL_law_438 rfl ?_
  refine v_iconst dL_law_439 ?_
  refine v_iadd dL_law_440 ?_
  refine v_sld (i := ((6 * t) + 1)) (by omega) (by omega) hlen dL_law_441 ?_
  refine v_aload_n dL_law_442 rfl ?_
  refine v_iload_n dL_law_443 rfl ?_
  refine v_iconst dL_law_444 ?_
  refine v_iadd dL_law_445 ?_
  refine v_sld (i := ((6 * t) + 2)) (by omega) (by omega) hlen dL_law_446 ?_
  refine v_aload_n dL_law_447 rfl ?_
  refine v_iload_n dL_law_448 rfl ?_
  refine v_iconst dL_law_449 ?_
  refine v_iadd dL_law_450 ?_
  refine v_sld (i := ((6 * t) + 3)) (by omega) (by omega) hlen dL_law_451 ?_
  refine v_VmN (tX9_frame hI.2.2.1 hI.2.2.2.1 (inR_of _) (inR_of _) (inR_of _)) kL_57 hI.2.2.1.1 rfl rfl ⟨by decide, by decide⟩ hcs (Nat.le_of_ble_eq_true rfl) dL_law_452 (fun r3 er3 hr3 rng4 => ?_)
  subst er3
  refine v_icmp_eq hr1 hr3 dL_law_455 (fun hb455 => ?_) (fun h => absurd rfl h)
  exact kk G I s k n (by omega) (by omega) hI rng
theorem lw_c10 {E : w_E} {G : w_Sh} {I : w_Mm} {x t k n : Nat} {s : xS} (hlen : E.2.2.2.2.2.1 < 2147483648) (hL : E.2.2.2.2.2.1 ≤ 3072) (ht : 6 * t + 6 ≤ E.2.2.2.2.2.1) (hk : k ≤ 47 + 132 * t) (hn : n ≤ 5791 + 1012 * t) (hI : lwI G I x s) (rng : ∀ a k, inR (I a k))
    (kk : ∀ (G1 : w_Sh) (J : w_Mm) (s1 : xS) (k1 n1 : Nat), k1 ≤ 47 + 132 * (t + 1) → n1 ≤ 5791 + 1012 * (t + 1) → lwI G1 J x s1 → (∀ a k, inR (J a k)) → w_V E mL_law room_1 (lw_Zs E.2.2.2.1.size) G1 J k1 n1 559 [some (.ref E.2.2.2.2.1), some (.ref x), some (.ref (x + 18)), some (iv ((6 * t : Nat) : Int))] []) : w_V E mL_law room_1 (lw_Zs E.2.2.2.1.size) G I k n 460 [some (.ref E.2.2.2.2.1), some (.ref x), some (.ref (x + 18)), some (iv ((6 * t : Nat) : Int))] [] := by
  have hcs : k ≤ room_1.cells ∧ n ≤ room_1.slots := ⟨by show k ≤ 600000; omega, by show n ≤ 7302250; omega⟩
  have hcs2 : k + 132 ≤ room_1.cells ∧ n + 1012 ≤ room_1.slots := ⟨by show k + 132 ≤ 600000; omega, by show n + 1012 ≤ 7302250; omega⟩
  refine v_aload_n dL_law_460 rfl ?_
  refine v_aload_n dL_law_461 rfl ?_
  refine v_iload_n dL_law_462 rfl ?_
  refine v_iconst dL_law_463 ?_
  refine v_iadd dL_law_464 ?_
  refine v_sld (i := ((6 * t) + 1)) (by omega) (by omega) hlen dL_law_465 ?_
  refine v_aload_n dL_law_466 rfl ?_
  refine v_iload_n dL_law_467 rfl ?_
  refine v_iconst dL_law_468 ?_
  refine v_iadd dL_law_469 ?_
  refine v_sld (i := ((6 * t) + 2)) (by omega) (by omega) hlen dL_law_470 ?_
  refine v_VmN (tX8_height hI.1 hI.2.1 (inR_of _) (inR_of _)) kL_58 hI.1.1 rfl rfl ⟨by decide, by decide⟩ hcs (Nat.le_of_ble_eq_true rfl) dL_law_471 (fun r1 er1 hr1 rng2 => ?_)
  subst er1
  refine v_aload_n dL_law_474 rfl ?_
  refine v_aload_n dL_law_475 rfl ?_
  refine v_iload_n dL_law_476 rfl ?_
  refine v_iconst dL_law_477 ?_
  refine v_iadd dL_law_478 ?_
  refine v_sld (i := ((6 * t) + 1)) (by omega) (by omega) hlen dL_law_479 ?_
  refine v_aload_n dL_law_480 rfl ?_
  refine v_iload_n dL_law_481 rfl ?_
  refine v_iconst dL_law_482 ?_
  refine v_iadd dL_law_483 ?_
  refine v_sld (i := ((6 * t) + 2)) (by omega) (by omega) hlen dL_law_484 ?_
  refine v_VmN (tX9_height hI.2.2.1 hI.2.2.2.1 (inR_of _) (inR_of _) hI.2.1.lw) kL_61 hI.2.2.1.1 rfl rfl ⟨by decide, by decide⟩ hcs (Nat.le_of_ble_eq_true rfl) dL_law_485 (fun r3 er3 hr3 rng4 => ?_)
  subst er3
  refine v_icmp_eq hr1 hr3 dL_law_488 (fun hb488 => ?_) (fun h => absurd rfl h)
  exact kk G I s k n (by omega) (by omega) hI rng
theorem lw_c11 {E : w_E} {G : w_Sh} {I : w_Mm} {x t k n : Nat} {s : xS} (hlen : E.2.2.2.2.2.1 < 2147483648) (hL : E.2.2.2.2.2.1 ≤ 3072) (ht : 6 * t + 6 ≤ E.2.2.2.2.2.1) (hk : k ≤ 47 + 132 * t) (hn : n ≤ 5791 + 1012 * t) (hI : lwI G I x s) (rng : ∀ a k, inR (I a k))
    (kk : ∀ (G1 : w_Sh) (J : w_Mm) (s1 : xS) (k1 n1 : Nat), k1 ≤ 47 + 132 * (t + 1) → n1 ≤ 5791 + 1012 * (t + 1) → lwI G1 J x s1 → (∀ a k, inR (J a k)) → w_V E mL_law room_1 (lw_Zs E.2.2.2.1.size) G1 J k1 n1 559 [some (.ref E.2.2.2.2.1), some (.ref x), some (.ref (x + 18)), some (iv ((6 * t : Nat) : Int))] []) : w_V E mL_law room_1 (lw_Zs E.2.2.2.1.size) G I k n 493 [some (.ref E.2.2.2.2.1), some (.ref x), some (.ref (x + 18)), some (iv ((6 * t : Nat) : Int))] [] := by
  have hcs : k ≤ room_1.cells ∧ n ≤ room_1.slots := ⟨by show k ≤ 600000; omega, by show n ≤ 7302250; omega⟩
  have hcs2 : k + 132 ≤ room_1.cells ∧ n + 1012 ≤ room_1.slots := ⟨by show k + 132 ≤ 600000; omega, by show n + 1012 ≤ 7302250; omega⟩
  refine v_aload_n dL_law_493 rfl ?_
  refine v_aload_n dL_law_494 rfl ?_
  refine v_iload_n dL_law_495 rfl ?_
  refine v_iconst dL_law_496 ?_
  refine v_iadd dL_law_497 ?_
  refine v_sld (i := ((6 * t) + 1)) (by omega) (by omega) hlen dL_law_498 ?_
  refine v_aload_n dL_law_499 rfl ?_
  refine v_iload_n dL_law_500 rfl ?_
  refine v_iconst dL_law_501 ?_
  refine v_iadd dL_law_502 ?_
  refine v_sld (i := ((6 * t) + 2)) (by omega) (by omega) hlen dL_law_503 ?_
  refine v_Vi (tX8_form hI.1 hI.2.1 (inR_of _) (inR_of _)) kL_62 hI.1.1 rfl rfl ⟨by decide, by decide⟩ hcs (Nat.le_of_ble_eq_true rfl) dL_law_504 (fun r3 G9 J1 hr3 pJ1 rng2 => ?_)
  obtain ⟨hG9, eJ1, xJ1, oJ1⟩ := pJ1
  obtain rfl := hG9.symm
  obtain rfl := eJ1
  have yJ1 := hI.2.2.2.1.Y oJ1
  refine v_aload_n dL_law_507 rfl ?_
  refine v_aload_n dL_law_508 rfl ?_
  refine v_iload_n dL_law_509 rfl ?_
  refine v_iconst dL_law_510 ?_
  refine v_iadd dL_law_511 ?_
  refine v_sld (i := ((6 * t) + 1)) (by omega) (by omega) hlen dL_law_512 ?_
  refine v_aload_n dL_law_513 rfl ?_
  refine v_iload_n dL_law_514 rfl ?_
  refine v_iconst dL_law_515 ?_
  refine v_iadd dL_law_516 ?_
  refine v_sld (i := ((6 * t) + 2)) (by omega) (by omega) hlen dL_law_517 ?_
  refine v_Vi (tX9_form hI.2.2.1 yJ1 (inR_of _) (inR_of _) hI.2.2.2.2.1) kL_65 hI.2.2.1.1 rfl rfl ⟨by decide, by decide⟩ hcs (Nat.le_of_ble_eq_true rfl) dL_law_518 (fun r6 G9 J4 hr6 pJ4 rng5 => ?_)
  obtain ⟨hG9, eJ4, zJ4, oJ4⟩ := pJ4
  obtain rfl := hG9.symm
  obtain rfl := eJ4
  refine v_icmp_eq hr3 hr6 dL_law_521 (fun hb521 => ?_) (fun h => absurd rfl h)
  exact kk G _ s _ _ (show k ≤ _ by omega) (show n ≤ _ by omega) (hI.two rfl xJ1 zJ4 oJ4 hI.2.2.2.2.1) rng5
theorem lw_c12 {E : w_E} {G : w_Sh} {I : w_Mm} {x t k n : Nat} {s : xS} (hlen : E.2.2.2.2.2.1 < 2147483648) (hL : E.2.2.2.2.2.1 ≤ 3072) (ht : 6 * t + 6 ≤ E.2.2.2.2.2.1) (hk : k ≤ 47 + 132 * t) (hn : n ≤ 5791 + 1012 * t) (hI : lwI G I x s) (rng : ∀ a k, inR (I a k))
    (kk : ∀ (G1 : w_Sh) (J : w_Mm) (s1 : xS) (k1 n1 : Nat), k1 ≤ 47 + 132 * (t + 1) → n1 ≤ 5791 + 1012 * (t + 1) → lwI G1 J x s1 → (∀ a k, inR (J a k)) → w_V E mL_law room_1 (lw_Zs E.2.2.2.1.size) G1 J k1 n1 559 [some (.ref E.2.2.2.2.1), some (.ref x), some (.ref (x + 18)), some (iv ((6 * t : Nat) : Int))] []) : w_V E mL_law room_1 (lw_Zs E.2.2.2.1.size) G I k n 526 [some (.ref E.2.2.2.2.1), some (.ref x), some (.ref (x + 18)), some (iv ((6 * t : Nat) : Int))] [] := by
  have hcs : k ≤ room_1.cells ∧ n ≤ room_1.slots := ⟨by show k ≤ 600000; omega, by show n ≤ 7302250; omega⟩
  have hcs2 : k + 132 ≤ room_1.cells ∧ n + 1012 ≤ room_1.slots := ⟨by show k + 132 ≤ 600000; omega, by show n + 1012 ≤ 7302250; omega⟩
  refine v_aload_n dL_law_526 rfl ?_
  refine v_aload_n dL_law_527 rfl ?_
  refine v_iload_n dL_law_528 rfl ?_
  refine v_iconst dL_law_529 ?_
  refine v_iadd dL_law_530 ?_
  refine v_sld (i := ((6 * t) + 1)) (by omega) (by omega) hlen dL_law_531 ?_
  refine v_aload_n dL_law_532 rfl ?_
  refine v_iload_n dL_law_533 rfl ?_
  refine v_iconst dL_law_534 ?_
  refine v_iadd dL_law_535 ?_
  refine v_sld (i := ((6 * t) + 2)) (by omega) (by omega) hlen dL_law_536 ?_
  refine v_VmN (tX8_count hI.1 hI.2.1 (m0 := (E.2.2.2.2.2.2 ((6 * t) + 2)).toInt) (inR_of _) (inR_of _)) kL_66 hI.1.1 rfl rfl ⟨by decide, by decide⟩ hcs (Nat.le_of_ble_eq_true rfl) dL_law_537 (fun r1 er1 hr1 rng2 => ?_)
  subst er1
  refine v_aload_n dL_law_540 rfl ?_
  refine v_aload_n dL_law_541 rfl ?_
  refine v_iload_n dL_law_542 rfl ?_
  refine v_iconst dL_law_543 ?_
  refine v_iadd dL_law_544 ?_
  refine v_sld (i := ((6 * t) + 1)) (by omega) (by omega) hlen dL_law_545 ?_
  refine v_aload_n dL_law_546 rfl ?_
  refine v_iload_n dL_law_547 rfl ?_
  refine v_iconst dL_law_548 ?_
  refine v_iadd dL_law_549 ?_
  refine v_sld (i := ((6 * t) + 2)) (by omega) (by omega) hlen dL_law_550 ?_
  refine v_VmN (tX9_count hI.2.2.1 hI.2.2.2.1 (inR_of _) (inR_of _)) kL_69 hI.2.2.1.1 rfl rfl ⟨by decide, by decide⟩ hcs (Nat.le_of_ble_eq_true rfl) dL_law_551 (fun r3 er3 hr3 rng4 => ?_)
  subst er3
  refine v_icmp_eq hr1 hr3 dL_law_554 (fun hb554 => ?_) (fun h => absurd rfl h)
  exact kk G I s k n (by omega) (by omega) hI rng
