/-! ===== going on ===== -/
def hasUB (φ : fS) : Bool := ((List.range 8).any fun k => decide (100 ≤ φ.2.1 k)) || (List.range φ.1.toNat).any fun k => decide (100 ≤ φ.2.2 k)
theorem hasUB_iff {φ : fS} : hasUB φ = true ↔ hasU φ := by
  unfold hasUB
  simp only [Bool.or_eq_true, List.any_eq_true, List.mem_range, decide_eq_true_eq]
  constructor
  · rintro (⟨k, h1, h2⟩ | ⟨k, h1, h2⟩)
    · exact Or.inl ⟨k, h1, h2⟩
    · exact Or.inr ⟨k, by omega, h2⟩
  · rintro (⟨k, h1, h2⟩ | ⟨k, h1, h2⟩)
    · exact Or.inl ⟨k, h1, h2⟩
    · exact Or.inr ⟨k, by omega, h2⟩
def xJump (π : mS) (ψ : fS) (p : Nat) : Int := if ¬ (0 ≤ mA π p ∧ mA π p < (mN π : Int)) then 6 else if mA π p ≤ (p : Int) ∧ hasUB ψ = true then 7 else 0
def xNext (Q : cS) (π : mS) (κ : kS) (ψ : fS) (p : Nat) : Int × kS := if ¬ p + 1 < mN π then (5, κ) else if (xMeet Q κ (p + 1) ψ).1 = true then (0, (xMeet Q κ (p + 1) ψ).2) else (8, (xMeet Q κ (p + 1) ψ).2)
def xGo (Q : cS) (π : mS) (κ : kS) (ψ : fS) (p : Nat) : Int × kS := if mOp π p = 22 ∨ mOp π p = 23 then (0, κ) else if mOp π p = 11 ∨ mOp π p = 12 then
    (if ¬ xJump π ψ p = 0 then (xJump π ψ p, κ) else if (xMeet Q κ (mA π p).toNat ψ).1 = true then (if mOp π p = 12 then (0, (xMeet Q κ (mA π p).toNat ψ).2) else xNext Q π (xMeet Q κ (mA π p).toNat ψ).2 ψ p) else (8, (xMeet Q κ (mA π p).toNat ψ).2)) else xNext Q π κ ψ p
theorem tX7_jumpRule {E : w_E} {G : w_Sh} {I : w_Mm} {v q c m : Nat} {Q : cS} {π : mS} {σ : sS} (hV : isV G v q c) (hcv : c + 3 ≤ v) (hQ : clsOK I c Q) (hM : isM G m) (hπ : metOK I m π) (hvm : v + 8 ≤ m) (hσ : stOK I (v + 4) σ) {p : Nat} (hp : p < mN π) : w_Ct E mX7_jumpRule 2 [.ref v, .ref m, iv (p : Int)] G I 0 0 (w_Pi (fun r G' I' => r = (xJump π σ.2 p) ∧ G' = G ∧ I' = I)) := by
  have hV0 := hV
  obtain ⟨hTv, hRv0, hRv1, hRv2, hK, hFr, hSt⟩ := hV
  have hM0 := hM
  obtain ⟨hTm, hRm1, hRm3, hRm4, hRm5, hRm7, hRm8, hRm9, hRm10, hRm12, hTm1, hTm2, hTm3, hTm4, hTm5, hTm6, hTm7, hTm8, hWk⟩ := hM
  have hπ0 := hπ
  obtain ⟨hp0, hp2, hpA, hpB, hp6, hpn, hpo, hp11, hpg, hpG⟩ := hπ
  obtain ⟨hTs, hRs0, hRs1, hKs, hFs⟩ := hSt
  refine w_Ct.of (ls := [some (.ref v), some (.ref m), some (iv (p : Int)), none]) (by decide +kernel) (Nat.le_of_ble_eq_true rfl) rfl rfl (fun rng => ?_)
  refine v_aload_n dX7_jumpRule_0 rfl ?_
  refine v_getR fX7_122 rfl hTm (by assumption) dX7_jumpRule_1 ?_
  refine v_iload_n dX7_jumpRule_4 rfl ?_
  refine v_iald' (i := p) (v := mA π (p)) (hpo (p) (by omega)).2.1 (by assumption) rfl (by omega) (by omega) dX7_jumpRule_5 ?_
  refine v_istore_n dX7_jumpRule_6 (by decide) rfl ?_
  refine v_aload_n dX7_jumpRule_7 rfl ?_
  refine v_iload_n dX7_jumpRule_8 rfl ?_
  refine v_Vb (tX4_hasPlace hM0 hπ0 (by rw [← (hpo (p) (by omega)).2.1]; exact rng _ _)) kX7_94 hTm rfl rfl ⟨by decide, by decide⟩ ⟨by decide, by decide⟩ (Nat.le_of_ble_eq_true rfl) dX7_jumpRule_9 (fun h1 => ?_) (fun h1 => ?_)
  · refine v_if_ne ⟨by decide, by decide⟩ dX7_jumpRule_12 (fun hb12 => ?_) (fun h => by exfalso; omega)
    refine v_iload_n dX7_jumpRule_18 rfl ?_
    refine v_iload_n dX7_jumpRule_19 rfl ?_
    refine v_icmp_gt (by rw [← (hpo (p) (by omega)).2.1]; exact rng _ _) ⟨by omega, by omega⟩ dX7_jumpRule_20 (fun h2 => ?_) (fun h2 => ?_)
    · refine v_iconst dX7_jumpRule_41 ?_
      exact v_iret rfl (by decide) (by decide) ⟨by decide, by decide⟩ dX7_jumpRule_42 ⟨(by unfold xJump; rw [if_neg (by omega), if_neg (by omega)]), rfl, rfl⟩
    · refine v_aload_n dX7_jumpRule_23 rfl ?_
      refine v_getR fX7_27 rfl (by assumption) (by assumption) dX7_jumpRule_24 ?_
      refine v_getR fX7_67 rfl hTs hRs1 dX7_jumpRule_27 ?_
      refine v_Vb (tX2_holdsUnmade hFs hσ.2.1) kX7_125 hFs.1 rfl rfl ⟨by decide, by decide⟩ ⟨by decide, by decide⟩ (Nat.le_of_ble_eq_true rfl) dX7_jumpRule_30 (fun h3 => ?_) (fun h3 => ?_)
      · refine v_if_eq ⟨by decide, by decide⟩ dX7_jumpRule_33 (fun h => by exfalso; omega) (fun hb33 => ?_)
        refine v_bipush dX7_jumpRule_36 (by decide) ?_
        refine v_goto dX7_jumpRule_38 ?_
        exact v_iret rfl (by decide) (by decide) ⟨by decide, by decide⟩ dX7_jumpRule_42 ⟨(by unfold xJump; rw [if_neg (by omega), if_pos ⟨by omega, hasUB_iff.mpr h3⟩]), rfl, rfl⟩
      · refine v_if_eq ⟨by decide, by decide⟩ dX7_jumpRule_33 (fun hb33 => ?_) (fun h => by exfalso; omega)
        refine v_iconst dX7_jumpRule_41 ?_
        exact v_iret rfl (by decide) (by decide) ⟨by decide, by decide⟩ dX7_jumpRule_42 ⟨(by unfold xJump; rw [if_neg (by omega), if_neg (fun q => h3 (hasUB_iff.mp q.2))]), rfl, rfl⟩
  · refine v_if_ne ⟨by decide, by decide⟩ dX7_jumpRule_12 (fun h => by exfalso; omega) (fun hb12 => ?_)
    refine v_bipush dX7_jumpRule_15 (by decide) ?_
    exact v_iret rfl (by decide) (by decide) ⟨by decide, by decide⟩ dX7_jumpRule_17 ⟨(by unfold xJump; rw [if_pos (by omega)]), rfl, rfl⟩
theorem tX7_goOn {E : w_E} {G : w_Sh} {I : w_Mm} {v q c m : Nat} {Q : cS} {π : mS} {σ : sS} (hV : isV G v q c) (hcv : c + 3 ≤ v) (hQ : clsOK I c Q) (hM : isM G m) (hπ : metOK I m π) (hvm : v + 8 ≤ m) (hσ : stOK I (v + 4) σ) {p : Nat} (hp : p < mN π) {κ : kS} (hκ : wkOK I (m + 9) κ) : w_Ct E mX7_goOn 4 [.ref v, .ref m, iv (p : Int)] G I 0 0 (w_Pi (fun r G' J => G' = G ∧ r = (xGo Q π κ σ.2 p).1 ∧ wkOK J (m + 9) (xGo Q π κ σ.2 p).2 ∧ offW I J (m + 9))) := by
  have hV0 := hV
  obtain ⟨hTv, hRv0, hRv1, hRv2, hK, hFr, hSt⟩ := hV
  have hM0 := hM
  obtain ⟨hTm, hRm1, hRm3, hRm4, hRm5, hRm7, hRm8, hRm9, hRm10, hRm12, hTm1, hTm2, hTm3, hTm4, hTm5, hTm6, hTm7, hTm8, hWk⟩ := hM
  have hπ0 := hπ
  obtain ⟨hp0, hp2, hpA, hpB, hp6, hpn, hpo, hp11, hpg, hpG⟩ := hπ
  obtain ⟨hTs, hRs0, hRs1, hKs, hFs⟩ := hSt
  refine w_Ct.of (ls := [some (.ref v), some (.ref m), some (iv (p : Int)), none, none]) (by decide +kernel) (Nat.le_of_ble_eq_true rfl) rfl rfl (fun rng => ?_)
  refine v_aload_n dX7_goOn_0 rfl ?_
  refine v_getR fX7_113 rfl hTm (by assumption) dX7_goOn_1 ?_
  refine v_iload_n dX7_goOn_4 rfl ?_
  refine v_iald' (i := p) (v := mOp π (p)) (hpo (p) (by omega)).1 (by assumption) rfl (by omega) (by omega) dX7_goOn_5 ?_
  refine v_istore_n dX7_goOn_6 (by decide) rfl ?_
  refine v_iload_n dX7_goOn_7 rfl ?_
  refine v_bipush dX7_goOn_8 (by decide) ?_
  refine v_icmp_eq (by rw [← (hpo (p) (by omega)).1]; exact rng _ _) ⟨by decide, by decide⟩ dX7_goOn_10 (fun h1 => ?_) (fun h1 => ?_)
  · refine v_iconst dX7_goOn_19 ?_
    rw [show xGo Q π κ σ.2 p = (0, κ) from if_pos (by omega)]
    exact v_iret rfl (by decide) (by decide) ⟨by decide, by decide⟩ dX7_goOn_20 ⟨rfl, rfl, hκ, offW.rf⟩
  · refine v_iload_n dX7_goOn_13 rfl ?_
    refine v_bipush dX7_goOn_14 (by decide) ?_
    refine v_icmp_ne (by rw [← (hpo (p) (by omega)).1]; exact rng _ _) ⟨by decide, by decide⟩ dX7_goOn_16 (fun h2 => ?_) (fun h2 => ?_)
    · refine v_aload_n dX7_goOn_21 rfl ?_
      refine v_iload_n dX7_goOn_22 rfl ?_
      refine v_Vb (tX4_isJump hM0 hπ0 (p := p) (by omega)) kX7_116 hTm rfl rfl ⟨by decide, by decide⟩ ⟨by decide, by decide⟩ (Nat.le_of_ble_eq_true rfl) dX7_goOn_23 (fun h3 => ?_) (fun h3 => ?_)
      · refine v_if_eq ⟨by decide, by decide⟩ dX7_goOn_26 (fun h => by exfalso; omega) (fun hb26 => ?_)
        refine v_aload_n dX7_goOn_29 rfl ?_
        refine v_aload_n dX7_goOn_30 rfl ?_
        refine v_iload_n dX7_goOn_31 rfl ?_
        refine v_VmN (tX7_jumpRule hV0 hcv hQ hM0 hπ0 hvm hσ hp) kX7_119 (by assumption) rfl rfl ⟨by decide, by decide⟩ ⟨by decide, by decide⟩ (Nat.le_of_ble_eq_true rfl) dX7_goOn_32 (fun r4 er4 hr4 rng5 => ?_)
        refine v_istore dX7_goOn_35 (by decide) rfl ?_
        refine v_iload dX7_goOn_37 rfl ?_
        refine v_if_eq hr4 dX7_goOn_39 (fun h6 => ?_) (fun h6 => ?_)
        · have hj0 : xJump π σ.2 p = 0 := by rw [← er4]; exact h6
          have haj : 0 ≤ mA π p ∧ mA π p < (mN π : Int) := by unfold xJump at hj0; by_cases hq : 0 ≤ mA π p ∧ mA π p < (mN π : Int); exact hq; rw [if_pos hq] at hj0; exact absurd hj0 (by decide)
          refine v_aload_n dX7_goOn_45 rfl ?_
          refine v_aload_n dX7_goOn_46 rfl ?_
          refine v_getR fX7_31 rfl hTm (by assumption) dX7_goOn_47 ?_
          refine v_aload_n dX7_goOn_50 rfl ?_
          refine v_getR fX7_122 rfl hTm (by assumption) dX7_goOn_51 ?_
          refine v_iload_n dX7_goOn_54 rfl ?_
          refine v_iald' (i := p) (v := (((mA π p).toNat : Nat) : Int)) ((hpo p (by omega)).2.1.trans (by omega)) (by assumption) rfl (by omega) (by omega) dX7_goOn_55 ?_
          refine v_aload_n dX7_goOn_56 rfl ?_
          refine v_getR fX7_27 rfl (by assumption) (by assumption) dX7_goOn_57 ?_
          refine v_getR fX7_67 rfl hTs hRs1 dX7_goOn_60 ?_
          refine v_Vi (tX7_meet hV0 hQ (p := (mA π p).toNat) hWk hκ (by omega) hFs hσ.2.1 (by omega) (by omega)) kX7_109 (by assumption) rfl rfl ⟨by decide, by decide⟩ ⟨by decide, by decide⟩ (Nat.le_of_ble_eq_true rfl) dX7_goOn_63 (fun r9 G9 J7 hr9 pJ7 rng8 => ?_)
          obtain ⟨rfl, ⟨rfl, xJ7⟩ | ⟨rfl, xJ7⟩, sJ7, oJ7⟩ := pJ7
          · have OJ7 := (offW.rf).tr oJ7
            have SJ7 := hσ.2.1.same (OJ7.1 _ _ (by omega)) (fun k _ => OJ7.1 _ _ (by omega)) (fun k _ => OJ7.1 _ _ (by omega))
            have PJ7 := hπ0.off (fun a k h1 h2 => OJ7.1 a k (by omega))
            have QJ7 := hQ.off (fun k => ⟨OJ7.1 _ _ (by omega), OJ7.1 _ _ (by omega), OJ7.1 _ _ (by omega)⟩)
            refine v_if_ne ⟨by decide, by decide⟩ dX7_goOn_66 (fun hb66 => ?_) (fun h => by exfalso; omega)
            refine v_iload_n dX7_goOn_72 rfl ?_
            refine v_bipush dX7_goOn_73 (by decide) ?_
            refine v_icmp_ne (by rw [← (hpo (p) (by omega)).1]; exact rng _ _) ⟨by decide, by decide⟩ dX7_goOn_75 (fun h10 => ?_) (fun h10 => ?_)
            · refine v_aload_n dX7_goOn_80 rfl ?_
              refine v_iload_n dX7_goOn_81 rfl ?_
              refine v_iconst dX7_goOn_82 ?_
              refine v_iadd dX7_goOn_83 ?_
              refine v_Vb (tX4_hasPlace hM0 PJ7 ⟨by omega, by omega⟩) kX7_94 hTm rfl rfl ⟨by decide, by decide⟩ ⟨by decide, by decide⟩ (Nat.le_of_ble_eq_true rfl) dX7_goOn_84 (fun h11 => ?_) (fun h11 => ?_)
              · refine v_if_ne ⟨by decide, by decide⟩ dX7_goOn_87 (fun hb87 => ?_) (fun h => by exfalso; omega)
                refine v_aload_n dX7_goOn_92 rfl ?_
                refine v_aload_n dX7_goOn_93 rfl ?_
                refine v_getR fX7_31 rfl hTm (by assumption) dX7_goOn_94 ?_
                refine v_iload_n dX7_goOn_97 rfl ?_
                refine v_iconst dX7_goOn_98 ?_
                refine v_iadd dX7_goOn_99 ?_
                refine v_aload_n dX7_goOn_100 rfl ?_
                refine v_getR fX7_27 rfl (by assumption) (by assumption) dX7_goOn_101 ?_
                refine v_getR fX7_67 rfl hTs hRs1 dX7_goOn_104 ?_
                refine v_Vi (tX7_meet hV0 QJ7 (p := (p + 1)) hWk sJ7 (by omega) hFs SJ7 (by omega) (by omega)) kX7_109 (by assumption) rfl rfl ⟨by decide, by decide⟩ ⟨by decide, by decide⟩ (Nat.le_of_ble_eq_true rfl) dX7_goOn_107 (fun r14 G9 J12 hr14 pJ12 rng13 => ?_)
                obtain ⟨rfl, ⟨rfl, xJ12⟩ | ⟨rfl, xJ12⟩, sJ12, oJ12⟩ := pJ12
                · have OJ12 := (OJ7).tr oJ12
                  have SJ12 := hσ.2.1.same (OJ12.1 _ _ (by omega)) (fun k _ => OJ12.1 _ _ (by omega)) (fun k _ => OJ12.1 _ _ (by omega))
                  have PJ12 := hπ0.off (fun a k h1 h2 => OJ12.1 a k (by omega))
                  have QJ12 := hQ.off (fun k => ⟨OJ12.1 _ _ (by omega), OJ12.1 _ _ (by omega), OJ12.1 _ _ (by omega)⟩)
                  refine v_if_eq ⟨by decide, by decide⟩ dX7_goOn_110 (fun h => by exfalso; omega) (fun hb110 => ?_)
                  refine v_iconst dX7_goOn_113 ?_
                  refine v_goto dX7_goOn_114 ?_
                  rw [show xGo Q π κ σ.2 p = (0, (xMeet Q (xMeet Q κ (mA π p).toNat σ.2).2 (p + 1) σ.2).2) by unfold xGo; rw [if_neg (by omega), if_pos (by omega), if_neg (fun q => q hj0), if_pos xJ7, if_neg (by omega)]; unfold xNext; rw [if_neg (by omega), if_pos xJ12]]
                  exact v_iret rfl (by decide) (by decide) ⟨by decide, by decide⟩ dX7_goOn_119 ⟨rfl, rfl, sJ12, OJ12⟩
                · have OJ12 := (OJ7).tr oJ12
                  have SJ12 := hσ.2.1.same (OJ12.1 _ _ (by omega)) (fun k _ => OJ12.1 _ _ (by omega)) (fun k _ => OJ12.1 _ _ (by omega))
                  have PJ12 := hπ0.off (fun a k h1 h2 => OJ12.1 a k (by omega))
                  have QJ12 := hQ.off (fun k => ⟨OJ12.1 _ _ (by omega), OJ12.1 _ _ (by omega), OJ12.1 _ _ (by omega)⟩)
                  refine v_if_eq ⟨by decide, by decide⟩ dX7_goOn_110 (fun hb110 => ?_) (fun h => by exfalso; omega)
                  refine v_bipush dX7_goOn_117 (by decide) ?_
                  rw [show xGo Q π κ σ.2 p = (8, (xMeet Q (xMeet Q κ (mA π p).toNat σ.2).2 (p + 1) σ.2).2) by unfold xGo; rw [if_neg (by omega), if_pos (by omega), if_neg (fun q => q hj0), if_pos xJ7, if_neg (by omega)]; unfold xNext; rw [if_neg (by omega), if_neg (by rw [xJ12]; decide)]]
                  exact v_iret rfl (by decide) (by decide) ⟨by decide, by decide⟩ dX7_goOn_119 ⟨rfl, rfl, sJ12, OJ12⟩
              · refine v_if_ne ⟨by decide, by decide⟩ dX7_goOn_87 (fun h => by exfalso; omega) (fun hb87 => ?_)
                refine v_iconst dX7_goOn_90 ?_
                rw [show xGo Q π κ σ.2 p = (5, (xMeet Q κ (mA π p).toNat σ.2).2) by unfold xGo; rw [if_neg (by omega), if_pos (by omega), if_neg (fun q => q hj0), if_pos xJ7, if_neg (by omega)]; unfold xNext; rw [if_pos (by omega)]]
                exact v_iret rfl (by decide) (by decide) ⟨by decide, by decide⟩ dX7_goOn_91 ⟨rfl, rfl, sJ7, OJ7⟩
            · refine v_iconst dX7_goOn_78 ?_
              rw [show xGo Q π κ σ.2 p = (0, (xMeet Q κ (mA π p).toNat σ.2).2) by unfold xGo; rw [if_neg (by omega), if_pos (by omega), if_neg (fun q => q hj0), if_pos xJ7, if_pos (by omega)]]
              exact v_iret rfl (by decide) (by decide) ⟨by decide, by decide⟩ dX7_goOn_79 ⟨rfl, rfl, sJ7, OJ7⟩
          · have OJ7 := (offW.rf).tr oJ7
            have SJ7 := hσ.2.1.same (OJ7.1 _ _ (by omega)) (fun k _ => OJ7.1 _ _ (by omega)) (fun k _ => OJ7.1 _ _ (by omega))
            have PJ7 := hπ0.off (fun a k h1 h2 => OJ7.1 a k (by omega))
            have QJ7 := hQ.off (fun k => ⟨OJ7.1 _ _ (by omega), OJ7.1 _ _ (by omega), OJ7.1 _ _ (by omega)⟩)
            refine v_if_ne ⟨by decide, by decide⟩ dX7_goOn_66 (fun h => by exfalso; omega) (fun hb66 => ?_)
            refine v_bipush dX7_goOn_69 (by decide) ?_
            rw [show xGo Q π κ σ.2 p = (8, (xMeet Q κ (mA π p).toNat σ.2).2) by unfold xGo; rw [if_neg (by omega), if_pos (by omega), if_neg (fun q => q hj0), if_neg (by rw [xJ7]; decide)]]
            exact v_iret rfl (by decide) (by decide) ⟨by decide, by decide⟩ dX7_goOn_71 ⟨rfl, rfl, sJ7, OJ7⟩
        · refine v_iload dX7_goOn_42 rfl ?_
          rw [show xGo Q π κ σ.2 p = (xJump π σ.2 p, κ) by unfold xGo; rw [if_neg (by omega), if_pos (by omega), if_pos (by rw [← er4]; exact h6)]]
          exact v_iret rfl (by decide) (by decide) hr4 dX7_goOn_44 ⟨rfl, er4, hκ, offW.rf⟩
      · refine v_if_eq ⟨by decide, by decide⟩ dX7_goOn_26 (fun hb26 => ?_) (fun h => by exfalso; omega)
        refine v_iload_n dX7_goOn_72 rfl ?_
        refine v_bipush dX7_goOn_73 (by decide) ?_
        refine v_icmp_ne (by rw [← (hpo (p) (by omega)).1]; exact rng _ _) ⟨by decide, by decide⟩ dX7_goOn_75 (fun hb75 => ?_) (fun h => by exfalso; omega)
        refine v_aload_n dX7_goOn_80 rfl ?_
        refine v_iload_n dX7_goOn_81 rfl ?_
        refine v_iconst dX7_goOn_82 ?_
        refine v_iadd dX7_goOn_83 ?_
        refine v_Vb (tX4_hasPlace hM0 hπ0 ⟨by omega, by omega⟩) kX7_94 hTm rfl rfl ⟨by decide, by decide⟩ ⟨by decide, by decide⟩ (Nat.le_of_ble_eq_true rfl) dX7_goOn_84 (fun h15 => ?_) (fun h15 => ?_)
        · refine v_if_ne ⟨by decide, by decide⟩ dX7_goOn_87 (fun hb87 => ?_) (fun h => by exfalso; omega)
          refine v_aload_n dX7_goOn_92 rfl ?_
          refine v_aload_n dX7_goOn_93 rfl ?_
          refine v_getR fX7_31 rfl hTm (by assumption) dX7_goOn_94 ?_
          refine v_iload_n dX7_goOn_97 rfl ?_
          refine v_iconst dX7_goOn_98 ?_
          refine v_iadd dX7_goOn_99 ?_
          refine v_aload_n dX7_goOn_100 rfl ?_
          refine v_getR fX7_27 rfl (by assumption) (by assumption) dX7_goOn_101 ?_
          refine v_getR fX7_67 rfl hTs hRs1 dX7_goOn_104 ?_
          refine v_Vi (tX7_meet hV0 hQ (p := (p + 1)) hWk hκ (by omega) hFs hσ.2.1 (by omega) (by omega)) kX7_109 (by assumption) rfl rfl ⟨by decide, by decide⟩ ⟨by decide, by decide⟩ (Nat.le_of_ble_eq_true rfl) dX7_goOn_107 (fun r18 G9 J16 hr18 pJ16 rng17 => ?_)
          obtain ⟨rfl, ⟨rfl, xJ16⟩ | ⟨rfl, xJ16⟩, sJ16, oJ16⟩ := pJ16
          · have OJ16 := (offW.rf).tr oJ16
            have SJ16 := hσ.2.1.same (OJ16.1 _ _ (by omega)) (fun k _ => OJ16.1 _ _ (by omega)) (fun k _ => OJ16.1 _ _ (by omega))
            have PJ16 := hπ0.off (fun a k h1 h2 => OJ16.1 a k (by omega))
            have QJ16 := hQ.off (fun k => ⟨OJ16.1 _ _ (by omega), OJ16.1 _ _ (by omega), OJ16.1 _ _ (by omega)⟩)
            refine v_if_eq ⟨by decide, by decide⟩ dX7_goOn_110 (fun h => by exfalso; omega) (fun hb110 => ?_)
            refine v_iconst dX7_goOn_113 ?_
            refine v_goto dX7_goOn_114 ?_
            rw [show xGo Q π κ σ.2 p = (0, (xMeet Q κ (p + 1) σ.2).2) by unfold xGo; rw [if_neg (by omega), if_neg (by omega)]; unfold xNext; rw [if_neg (by omega), if_pos xJ16]]
            exact v_iret rfl (by decide) (by decide) ⟨by decide, by decide⟩ dX7_goOn_119 ⟨rfl, rfl, sJ16, OJ16⟩
          · have OJ16 := (offW.rf).tr oJ16
            have SJ16 := hσ.2.1.same (OJ16.1 _ _ (by omega)) (fun k _ => OJ16.1 _ _ (by omega)) (fun k _ => OJ16.1 _ _ (by omega))
            have PJ16 := hπ0.off (fun a k h1 h2 => OJ16.1 a k (by omega))
            have QJ16 := hQ.off (fun k => ⟨OJ16.1 _ _ (by omega), OJ16.1 _ _ (by omega), OJ16.1 _ _ (by omega)⟩)
            refine v_if_eq ⟨by decide, by decide⟩ dX7_goOn_110 (fun hb110 => ?_) (fun h => by exfalso; omega)
            refine v_bipush dX7_goOn_117 (by decide) ?_
            rw [show xGo Q π κ σ.2 p = (8, (xMeet Q κ (p + 1) σ.2).2) by unfold xGo; rw [if_neg (by omega), if_neg (by omega)]; unfold xNext; rw [if_neg (by omega), if_neg (by rw [xJ16]; decide)]]
            exact v_iret rfl (by decide) (by decide) ⟨by decide, by decide⟩ dX7_goOn_119 ⟨rfl, rfl, sJ16, OJ16⟩
        · refine v_if_ne ⟨by decide, by decide⟩ dX7_goOn_87 (fun h => by exfalso; omega) (fun hb87 => ?_)
          refine v_iconst dX7_goOn_90 ?_
          rw [show xGo Q π κ σ.2 p = (5, κ) by unfold xGo; rw [if_neg (by omega), if_neg (by omega)]; unfold xNext; rw [if_pos (by omega)]]
          exact v_iret rfl (by decide) (by decide) ⟨by decide, by decide⟩ dX7_goOn_91 ⟨rfl, rfl, hκ, offW.rf⟩
    · refine v_iconst dX7_goOn_19 ?_
      rw [show xGo Q π κ σ.2 p = (0, κ) from if_pos (by omega)]
      exact v_iret rfl (by decide) (by decide) ⟨by decide, by decide⟩ dX7_goOn_20 ⟨rfl, rfl, hκ, offW.rf⟩
