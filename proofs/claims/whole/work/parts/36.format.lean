/-! ===== the form at a place ===== -/
section Refs
variable {E : w_E} {M : w_M} {R : Room} {Z : List Frame → Array Value → State → State → Prop} {G G' : w_Sh} {I I' : w_Mm} {k n pc pc' d : Nat} {ls : List (Option Value)} {st : List Value}
theorem v_Vs {M' : w_M} {idx ci nA b a : Nat} {As st0 : List Value} (hC : w_Ct E M' d (.ref b :: As) G I 0 0 (w_Pr (fun o G' I' => o = some a ∧ G' = G ∧ I' = I))) (hw : w_cV M.1.cls idx ci M' nA) (hT : G.1 b = (ci, 0)) (hn : As.length = nA) (hst : st0 = As.reverse ++ .ref b :: st)
    (hro : w_ro R d M') (hcs : k ≤ R.cells ∧ n ≤ R.slots) (hrest : (st.map fun v => v.category).sum ≤ 8) (hd : Dc M pc (.invokevirtual idx) 3 pc')
    (kk : w_V E M R Z G I k n pc' ls (.ref a :: st)) : w_V E M R Z G I k n pc ls st0 :=
  v_Vr hC hw hT hn hst hro hcs hrest hd (fun o G' I' hp hr => by
    obtain ⟨rfl, rfl, rfl⟩ := hp
    exact kk)
theorem v_Vnl {M' : w_M} {idx ci nA b : Nat} {As st0 : List Value} (hC : w_Ct E M' d (.ref b :: As) G I 0 0 (w_Pr (fun o G' I' => o = none ∧ G' = G ∧ I' = I))) (hw : w_cV M.1.cls idx ci M' nA) (hT : G.1 b = (ci, 0)) (hn : As.length = nA) (hst : st0 = As.reverse ++ .ref b :: st)
    (hro : w_ro R d M') (hcs : k ≤ R.cells ∧ n ≤ R.slots) (hrest : (st.map fun v => v.category).sum ≤ 8) (hd : Dc M pc (.invokevirtual idx) 3 pc')
    (kk : w_V E M R Z G I k n pc' ls (.null :: st)) : w_V E M R Z G I k n pc ls st0 :=
  v_Vr hC hw hT hn hst hro hcs hrest hd (fun o G' I' hp hr => by
    obtain ⟨rfl, rfl, rfl⟩ := hp
    exact kk)
end Refs
theorem mkd_tf {J : w_Mm} {h : Nat} {π : mS} {κ : kS} (g : mkd J h (toldP π κ (mN π))) : ∀ i, i < 40 → J (h + 1) i = tfF π κ i := fun i hi => by
  unfold tfF
  rcases g i hi with q | q
  · rw [if_pos (toldB_iff.mpr q.2)]; exact q.1
  · rw [if_neg (fun s => q.2 (toldB_iff.mp s))]; exact q.1
theorem tX1_formAt {E : w_E} {G : w_Sh} {I : w_Mm} {h m p : Nat} {π : mS} {κ : kS} (hH : isH G h) (hM : isM G m) (hπ : metOK I m π) (hκ : wkOK I (m + 9) κ) (hhm : h + 4 ≤ m) (hp : p < mN π) : w_Ct E mX1_formAt 2 [.ref h, .ref m, iv (p : Int)] G I 0 0 (w_Pi (fun r G' J => G' = G ∧ r = formX π κ p ∧ offH I J h)) := by
  have hH0 := hH
  obtain ⟨hTh, hRh0, hRh1, hRh2, hTh1, hTh2, hTh3⟩ := hH
  have hM0 := hM
  obtain ⟨hTm, hRm1, hRm3, hRm4, hRm5, hRm7, hRm8, hRm9, hRm10, hRm12, hTm1, hTm2, hTm3, hTm4, hTm5, hTm6, hTm7, hTm8, hWk⟩ := hM
  have hπ0 := hπ
  have hpn := hπ.2.2.2.2.2.1
  have hW6 := hWk.2.2.2.2.2 p (by omega)
  refine w_Ct.of (ls := [some (.ref h), some (.ref m), some (iv (p : Int)), none, none, none, none, none]) (by decide +kernel) (Nat.le_of_ble_eq_true rfl) rfl rfl (fun rng => ?_)
  refine v_aload_n dX1_formAt_0 rfl ?_
  refine v_aload_n dX1_formAt_1 rfl ?_
  refine v_Vv (tX1_markTold hH0 hM0 hπ0 hκ hhm) kX1_22 (by assumption) rfl rfl ⟨by decide, by decide⟩ ⟨by decide, by decide⟩ (Nat.le_of_ble_eq_true rfl) dX1_formAt_2 (fun G9 J1 pJ1 rng2 => ?_)
  obtain ⟨hG9, mJ1, oJ1⟩ := pJ1
  obtain rfl := hG9.symm
  refine v_aload_n dX1_formAt_5 rfl ?_
  refine v_getR fX1_9 rfl (by assumption) (by assumption) dX1_formAt_6 ?_
  refine v_iload_n dX1_formAt_9 rfl ?_
  refine v_zald' (i := p) (v := tfF π κ p) (mkd_tf mJ1 p (by omega)) (by assumption) rfl (by omega) (by omega) dX1_formAt_10 ?_
  refine v_if_ne (by unfold tfF; split <;> exact ⟨by decide, by decide⟩) dX1_formAt_11 (fun h3 => ?_) (fun h3 => ?_)
  · refine v_aload_n dX1_formAt_16 rfl ?_
    refine v_getR fX1_26 rfl hTm (by assumption) dX1_formAt_17 ?_
    refine v_getR fX1_32 rfl hWk.1 hWk.2.1 dX1_formAt_20 ?_
    refine v_iload_n dX1_formAt_23 rfl ?_
    refine v_aaldF (i := p) hWk.2.2.2.1 hW6.1 rfl (by omega) (by omega) dX1_formAt_24 ?_
    refine v_astore_n dX1_formAt_25 (by decide) rfl ?_
    refine v_aload_n dX1_formAt_26 rfl ?_
    refine v_iload_n dX1_formAt_27 rfl ?_
    refine v_VmN (tX1_toldBefore hH0 (by omega) (mkd_tf mJ1)) kX1_38 (by assumption) rfl rfl ⟨by decide, by decide⟩ ⟨by decide, by decide⟩ (Nat.le_of_ble_eq_true rfl) dX1_formAt_28 (fun r4 er4 hr4 rng5 => ?_)
    rcases beforeF_spec (tfF π κ) p with hb | ⟨b, hbp, hb⟩
    · obtain rfl : r4 = -1 := er4.trans hb
      refine v_istore dX1_formAt_31 (by decide) rfl ?_
      refine v_iload dX1_formAt_33 rfl ?_
      refine v_iconst dX1_formAt_35 ?_
      refine v_icmp_ne ⟨by decide, by decide⟩ ⟨by decide, by decide⟩ dX1_formAt_36 (fun h => by exfalso; omega) (fun hb36 => ?_)
      refine v_aload_n dX1_formAt_39 rfl ?_
      refine v_getR fX1_42 rfl hTm (by assumption) dX1_formAt_40 ?_
      refine v_goto dX1_formAt_43 ?_
      refine v_astore dX1_formAt_59 (by decide) rfl ?_
      refine v_aload dX1_formAt_61 rfl ?_
      refine v_aload_n dX1_formAt_63 rfl ?_
      refine v_getR fX1_15 rfl (by assumption) (by assumption) dX1_formAt_64 ?_
      refine v_Si (tX1_writeRow (L := mBeg π) (R0 := J1 (h + 2)) hTm1 hTh2 (by omega) (fun k hk => (oJ1 _ _ (by omega)).trans (hπ0.2.2.2.1 k hk)) (fun _ _ => rfl)) kX1_50 rfl rfl ⟨by decide, by decide⟩ ⟨by decide, by decide⟩ (Nat.le_of_ble_eq_true rfl) dX1_formAt_67 (fun r8 G9 J6 hr8 pJ6 rng7 => ?_)
      obtain ⟨hG9, rfl, wJ6, xJ6⟩ := pJ6
      obtain rfl := hG9.symm
      refine v_istore dX1_formAt_70 (by decide) rfl ?_
      refine v_aload_n dX1_formAt_72 rfl ?_
      refine v_getR fX1_45 rfl hW6.2.1 hW6.2.2.1 dX1_formAt_73 ?_
      refine v_aload_n dX1_formAt_76 rfl ?_
      refine v_getR fX1_19 rfl (by assumption) (by assumption) dX1_formAt_77 ?_
      refine v_Si (tX1_writeRow (L := (κ.1 p).2.1) (R0 := J6 (h + 3)) hW6.2.2.2.2.1 hTh3 (by omega) (fun k hk => (xJ6 _ _ (by omega)).trans ((oJ1 _ _ (by omega)).trans ((hκ.1 p (by omega)).2.1 k hk))) (fun _ _ => rfl)) kX1_50 rfl rfl ⟨by decide, by decide⟩ ⟨by decide, by decide⟩ (Nat.le_of_ble_eq_true rfl) dX1_formAt_80 (fun r11 G9 J9 hr11 pJ9 rng10 => ?_)
      obtain ⟨hG9, rfl, wJ9, xJ9⟩ := pJ9
      obtain rfl := hG9.symm
      refine v_istore dX1_formAt_83 (by decide) rfl ?_
      have eo : oldL π κ p = mBeg π := by unfold oldL; rw [hb]; exact if_pos rfl
      have l1 := wr0_eq (mBeg π) (J1 (h + 2))
      have l2 := wr0_eq ((κ.1 p).2.1) (J6 (h + 3))
      have l3 := wr0_le (mBeg π)
      have l4 := wr0_le ((κ.1 p).2.1)
      have rA : ∀ k, k < 8 → J9 (h + 2) k = (wrF (mBeg π) 8 0 (0, 0, J1 (h + 2))).2.2 k := fun k hk => (xJ9 _ _ (by omega)).trans (wJ6 k hk)
      have rC : ∀ k, k < 8 → J9 (h + 3) k = (wrF ((κ.1 p).2.1) 8 0 (0, 0, J6 (h + 3))).2.2 k := wJ9
      have oF : offH I J9 h := fun a k ha => (xJ9 _ _ (by omega)).trans ((xJ6 _ _ (by omega)).trans (oJ1 _ _ (by omega)))
      have fP : frOK J9 (m + 9 + 3 + 3 * p) (κ.1 p) := (hκ.1 p (by omega)).same (oF _ _ (by omega)) (fun k _ => oF _ _ (by omega)) (fun k _ => oF _ _ (by omega))
      refine v_aload_n dX1_formAt_85 rfl ?_
      refine v_iload dX1_formAt_86 rfl ?_
      refine v_iload dX1_formAt_88 rfl ?_
      refine v_min ⟨by omega, by omega⟩ ⟨by omega, by omega⟩ kX1_54 wmin2 wmath3 wmin4 (by decide) (Nat.le_of_ble_eq_true rfl) ⟨by decide, by decide⟩ dX1_formAt_90 ?_
      refine v_Vb (tX1_isAlike hH0 (by split <;> first | exact ⟨by omega, by omega⟩ | exact ⟨by omega, by omega⟩) (by split <;> omega) rA rC) kX1_60 (by assumption) rfl rfl ⟨by decide, by decide⟩ ⟨by decide, by decide⟩ (Nat.le_of_ble_eq_true rfl) dX1_formAt_93 (fun h12 => ?_) (fun h12 => ?_)
      · refine v_if_ne ⟨by decide, by decide⟩ dX1_formAt_96 (fun hb96 => ?_) (fun h => by exfalso; omega)
        refine v_aload_n dX1_formAt_102 rfl ?_
        refine v_iload dX1_formAt_103 rfl ?_
        refine v_iload dX1_formAt_105 rfl ?_
        refine v_isub dX1_formAt_107 ?_
        refine v_SmN (tX1_formOf hW6.2 fP ⟨by omega, by omega⟩ (by omega)) kX1_64 rfl rfl ⟨by decide, by decide⟩ ⟨by decide, by decide⟩ (Nat.le_of_ble_eq_true rfl) dX1_formAt_108 (fun r13 er13 hr13 rng14 => ?_)
        have eB : toldB π κ p = true := by
          cases hq : toldB π κ p with
          | true => rfl
          | false =>
            exfalso; apply h3; unfold tfF; rw [hq]; rfl
        have eF : formX π κ p = if alikeB (wr0 (oldL π κ p)) (wr0 (κ.1 p).2.1) = true then formO (κ.1 p) (((wr0 (κ.1 p).2.1).2.1 : Int) - ((wr0 (oldL π κ p)).2.1 : Int)) else 8 := if_pos eB
        have eA : alikeB (wr0 (oldL π κ p)) (wr0 (κ.1 p).2.1) = true := by
          rw [eo]
          exact alikeB_iff.mpr (fun k hk => by
            rw [← l1.2 k (by omega), ← l2.2 k (by omega)]
            exact h12 k (by split <;> omega))
        rw [eF, if_pos eA, eo]
        rw [l1.1, l2.1] at er13
        exact v_iret rfl (by decide) (by decide) hr13 dX1_formAt_111 ⟨rfl, er13, oF⟩
      · refine v_if_ne ⟨by decide, by decide⟩ dX1_formAt_96 (fun h => by exfalso; omega) (fun hb96 => ?_)
        refine v_bipush dX1_formAt_99 (by decide) ?_
        have eB : toldB π κ p = true := by
          cases hq : toldB π κ p with
          | true => rfl
          | false =>
            exfalso; apply h3; unfold tfF; rw [hq]; rfl
        have eF : formX π κ p = if alikeB (wr0 (oldL π κ p)) (wr0 (κ.1 p).2.1) = true then formO (κ.1 p) (((wr0 (κ.1 p).2.1).2.1 : Int) - ((wr0 (oldL π κ p)).2.1 : Int)) else 8 := if_pos eB
        have eA : ¬ alikeB (wr0 (oldL π κ p)) (wr0 (κ.1 p).2.1) = true := fun q => h12 (fun k hk => by
          have hk2 : k < min (wr0 (mBeg π)).2.1 (wr0 (κ.1 p).2.1).2.1 := by split at hk <;> omega
          rw [eo] at q
          rw [l1.2 k (by omega), l2.2 k (by omega)]
          exact alikeB_iff.mp q k hk2)
        rw [eF, if_neg eA]
        exact v_iret rfl (by decide) (by decide) ⟨by decide, by decide⟩ dX1_formAt_101 ⟨rfl, rfl, oF⟩
    · obtain rfl : r4 = ((b : Nat) : Int) := er4.trans hb
      have hW6b := hWk.2.2.2.2.2 b (by omega)
      refine v_istore dX1_formAt_31 (by decide) rfl ?_
      refine v_iload dX1_formAt_33 rfl ?_
      refine v_iconst dX1_formAt_35 ?_
      refine v_icmp_ne ⟨by omega, by omega⟩ ⟨by decide, by decide⟩ dX1_formAt_36 (fun hb36 => ?_) (fun h => by exfalso; omega)
      refine v_aload_n dX1_formAt_46 rfl ?_
      refine v_getR fX1_26 rfl hTm (by assumption) dX1_formAt_47 ?_
      refine v_getR fX1_32 rfl hWk.1 hWk.2.1 dX1_formAt_50 ?_
      refine v_iload dX1_formAt_53 rfl ?_
      refine v_aaldF (i := b) hWk.2.2.2.1 hW6b.1 rfl (by omega) (by omega) dX1_formAt_55 ?_
      refine v_getR fX1_45 rfl hW6b.2.1 hW6b.2.2.1 dX1_formAt_56 ?_
      refine v_astore dX1_formAt_59 (by decide) rfl ?_
      refine v_aload dX1_formAt_61 rfl ?_
      refine v_aload_n dX1_formAt_63 rfl ?_
      refine v_getR fX1_15 rfl (by assumption) (by assumption) dX1_formAt_64 ?_
      refine v_Si (tX1_writeRow (L := (κ.1 b).2.1) (R0 := J1 (h + 2)) hW6b.2.2.2.2.1 hTh2 (by omega) (fun k hk => (oJ1 _ _ (by omega)).trans ((hκ.1 b (by omega)).2.1 k hk)) (fun _ _ => rfl)) kX1_50 rfl rfl ⟨by decide, by decide⟩ ⟨by decide, by decide⟩ (Nat.le_of_ble_eq_true rfl) dX1_formAt_67 (fun r17 G9 J15 hr17 pJ15 rng16 => ?_)
      obtain ⟨hG9, rfl, wJ15, xJ15⟩ := pJ15
      obtain rfl := hG9.symm
      refine v_istore dX1_formAt_70 (by decide) rfl ?_
      refine v_aload_n dX1_formAt_72 rfl ?_
      refine v_getR fX1_45 rfl hW6.2.1 hW6.2.2.1 dX1_formAt_73 ?_
      refine v_aload_n dX1_formAt_76 rfl ?_
      refine v_getR fX1_19 rfl (by assumption) (by assumption) dX1_formAt_77 ?_
      refine v_Si (tX1_writeRow (L := (κ.1 p).2.1) (R0 := J15 (h + 3)) hW6.2.2.2.2.1 hTh3 (by omega) (fun k hk => (xJ15 _ _ (by omega)).trans ((oJ1 _ _ (by omega)).trans ((hκ.1 p (by omega)).2.1 k hk))) (fun _ _ => rfl)) kX1_50 rfl rfl ⟨by decide, by decide⟩ ⟨by decide, by decide⟩ (Nat.le_of_ble_eq_true rfl) dX1_formAt_80 (fun r20 G9 J18 hr20 pJ18 rng19 => ?_)
      obtain ⟨hG9, rfl, wJ18, xJ18⟩ := pJ18
      obtain rfl := hG9.symm
      refine v_istore dX1_formAt_83 (by decide) rfl ?_
      have eo : oldL π κ p = (κ.1 b).2.1 := by unfold oldL; rw [hb]; rw [if_neg (by omega), Int.toNat_natCast]
      have l1 := wr0_eq ((κ.1 b).2.1) (J1 (h + 2))
      have l2 := wr0_eq ((κ.1 p).2.1) (J15 (h + 3))
      have l3 := wr0_le ((κ.1 b).2.1)
      have l4 := wr0_le ((κ.1 p).2.1)
      have rA : ∀ k, k < 8 → J18 (h + 2) k = (wrF ((κ.1 b).2.1) 8 0 (0, 0, J1 (h + 2))).2.2 k := fun k hk => (xJ18 _ _ (by omega)).trans (wJ15 k hk)
      have rC : ∀ k, k < 8 → J18 (h + 3) k = (wrF ((κ.1 p).2.1) 8 0 (0, 0, J15 (h + 3))).2.2 k := wJ18
      have oF : offH I J18 h := fun a k ha => (xJ18 _ _ (by omega)).trans ((xJ15 _ _ (by omega)).trans (oJ1 _ _ (by omega)))
      have fP : frOK J18 (m + 9 + 3 + 3 * p) (κ.1 p) := (hκ.1 p (by omega)).same (oF _ _ (by omega)) (fun k _ => oF _ _ (by omega)) (fun k _ => oF _ _ (by omega))
      refine v_aload_n dX1_formAt_85 rfl ?_
      refine v_iload dX1_formAt_86 rfl ?_
      refine v_iload dX1_formAt_88 rfl ?_
      refine v_min ⟨by omega, by omega⟩ ⟨by omega, by omega⟩ kX1_54 wmin2 wmath3 wmin4 (by decide) (Nat.le_of_ble_eq_true rfl) ⟨by decide, by decide⟩ dX1_formAt_90 ?_
      refine v_Vb (tX1_isAlike hH0 (by split <;> first | exact ⟨by omega, by omega⟩ | exact ⟨by omega, by omega⟩) (by split <;> omega) rA rC) kX1_60 (by assumption) rfl rfl ⟨by decide, by decide⟩ ⟨by decide, by decide⟩ (Nat.le_of_ble_eq_true rfl) dX1_formAt_93 (fun h21 => ?_) (fun h21 => ?_)
      · refine v_if_ne ⟨by decide, by decide⟩ dX1_formAt_96 (fun hb96 => ?_) (fun h => by exfalso; omega)
        refine v_aload_n dX1_formAt_102 rfl ?_
        refine v_iload dX1_formAt_103 rfl ?_
        refine v_iload dX1_formAt_105 rfl ?_
        refine v_isub dX1_formAt_107 ?_
        refine v_SmN (tX1_formOf hW6.2 fP ⟨by omega, by omega⟩ (by omega)) kX1_64 rfl rfl ⟨by decide, by decide⟩ ⟨by decide, by decide⟩ (Nat.le_of_ble_eq_true rfl) dX1_formAt_108 (fun r22 er22 hr22 rng23 => ?_)
        have eB : toldB π κ p = true := by
          cases hq : toldB π κ p with
          | true => rfl
          | false =>
            exfalso; apply h3; unfold tfF; rw [hq]; rfl
        have eF : formX π κ p = if alikeB (wr0 (oldL π κ p)) (wr0 (κ.1 p).2.1) = true then formO (κ.1 p) (((wr0 (κ.1 p).2.1).2.1 : Int) - ((wr0 (oldL π κ p)).2.1 : Int)) else 8 := if_pos eB
        have eA : alikeB (wr0 (oldL π κ p)) (wr0 (κ.1 p).2.1) = true := by
          rw [eo]
          exact alikeB_iff.mpr (fun k hk => by
            rw [← l1.2 k (by omega), ← l2.2 k (by omega)]
            exact h21 k (by split <;> omega))
        rw [eF, if_pos eA, eo]
        rw [l1.1, l2.1] at er22
        exact v_iret rfl (by decide) (by decide) hr22 dX1_formAt_111 ⟨rfl, er22, oF⟩
      · refine v_if_ne ⟨by decide, by decide⟩ dX1_formAt_96 (fun h => by exfalso; omega) (fun hb96 => ?_)
        refine v_bipush dX1_formAt_99 (by decide) ?_
        have eB : toldB π κ p = true := by
          cases hq : toldB π κ p with
          | true => rfl
          | false =>
            exfalso; apply h3; unfold tfF; rw [hq]; rfl
        have eF : formX π κ p = if alikeB (wr0 (oldL π κ p)) (wr0 (κ.1 p).2.1) = true then formO (κ.1 p) (((wr0 (κ.1 p).2.1).2.1 : Int) - ((wr0 (oldL π κ p)).2.1 : Int)) else 8 := if_pos eB
        have eA : ¬ alikeB (wr0 (oldL π κ p)) (wr0 (κ.1 p).2.1) = true := fun q => h21 (fun k hk => by
          have hk2 : k < min (wr0 ((κ.1 b).2.1)).2.1 (wr0 (κ.1 p).2.1).2.1 := by split at hk <;> omega
          rw [eo] at q
          rw [l1.2 k (by omega), l2.2 k (by omega)]
          exact alikeB_iff.mp q k hk2)
        rw [eF, if_neg eA]
        exact v_iret rfl (by decide) (by decide) ⟨by decide, by decide⟩ dX1_formAt_101 ⟨rfl, rfl, oF⟩
  · refine v_iconst dX1_formAt_14 ?_
    have eB : ¬ toldB π κ p = true := fun q => by have h9 := h3; unfold tfF at h9; rw [if_pos q] at h9; exact absurd h9 (by decide)
    exact v_iret rfl (by decide) (by decide) ⟨by decide, by decide⟩ dX1_formAt_15 ⟨rfl, (if_neg eB).symm, fun a k ha => oJ1 a k (by omega)⟩
