/-! ===== steps of the class, second half ===== -/
theorem tX5_layTop {E : w_E} {G : w_Sh} {I : w_Mm} {s q c : Nat} {Q : cS} {σ : sS} (hS : isS G s q c) (hcs : c + 3 ≤ s) (hQ : clsOK I c Q) (hσ : stOK I s σ) : w_Ct E mX5_layTop 2 [.ref s] G I 0 0 (w_Pv (fun G' J => G' = G ∧ stOK J s (xLayTop σ) ∧ offS I J s)) := by
  have hS0 := hS
  obtain ⟨hTs, hRs0, hRs1, hK, hF⟩ := hS
  refine w_Ct.of (ls := [some (.ref s), none]) (by decide +kernel) (Nat.le_of_ble_eq_true rfl) rfl rfl (fun rng => ?_)
  refine v_aload_n dX5_layTop_0 rfl ?_
  refine v_Vi (tX5_takeAny hS0 hcs hQ hσ ) kX5_90 (by assumption) rfl rfl ⟨by decide, by decide⟩ ⟨by decide, by decide⟩ (Nat.le_of_ble_eq_true rfl) dX5_layTop_1 (fun r3 G9 J1 hr3 pJ1 rng2 => ?_)
  obtain ⟨rfl, rfl, sJ1, oJ1⟩ := pJ1
  have OJ1 := (offS.rf).tr oJ1
  have QJ1 := clsOK.offS hQ hcs OJ1
  refine v_istore_n dX5_layTop_4 (by decide) rfl ?_
  refine v_aload_n dX5_layTop_5 rfl ?_
  refine v_iload_n dX5_layTop_6 rfl ?_
  refine v_iconst dX5_layTop_7 ?_
  refine v_icmp_eq hr3 ⟨by decide, by decide⟩ dX5_layTop_8 (fun h4 => ?_) (fun h4 => ?_)
  · refine v_iconst dX5_layTop_15 ?_
    refine v_Vv (tX5_expect_1 hS0 hcs QJ1 sJ1 (Or.inr ⟨rfl, rfl⟩)) kX5_94 (by assumption) rfl rfl ⟨by decide, by decide⟩ ⟨by decide, by decide⟩ (Nat.le_of_ble_eq_true rfl) dX5_layTop_16 (fun G9 J5 pJ5 rng6 => ?_)
    obtain ⟨rfl, sJ5, oJ5⟩ := pJ5
    have OJ5 := (OJ1).tr oJ5
    have QJ5 := clsOK.offS hQ hcs OJ5
    refine v_aload_n dX5_layTop_19 rfl ?_
    refine v_iload_n dX5_layTop_20 rfl ?_
    refine v_Vv (tX5_lay hS0 hcs QJ5 sJ5 hr3) kX5_70 (by assumption) rfl rfl ⟨by decide, by decide⟩ ⟨by decide, by decide⟩ (Nat.le_of_ble_eq_true rfl) dX5_layTop_21 (fun G9 J7 pJ7 rng8 => ?_)
    obtain ⟨rfl, sJ7, oJ7⟩ := pJ7
    have OJ7 := (OJ5).tr oJ7
    have QJ7 := clsOK.offS hQ hcs OJ7
    refine v_aload_n dX5_layTop_24 rfl ?_
    refine v_iload_n dX5_layTop_25 rfl ?_
    refine v_Vv (tX5_lay hS0 hcs QJ7 sJ7 hr3) kX5_70 (by assumption) rfl rfl ⟨by decide, by decide⟩ ⟨by decide, by decide⟩ (Nat.le_of_ble_eq_true rfl) dX5_layTop_26 (fun G9 J9 pJ9 rng10 => ?_)
    obtain ⟨rfl, sJ9, oJ9⟩ := pJ9
    have OJ9 := (OJ7).tr oJ9
    have QJ9 := clsOK.offS hQ hcs OJ9
    refine v_vret rfl (by decide) (by decide) dX5_layTop_29 ⟨rfl, ?_⟩
    rw [show xLayTop σ = xLay (xLay (xBrk ((xTA (σ)).2) 3) ((xTA (σ)).1)) ((xTA (σ)).1) by unfold xLayTop xChk; rw [if_neg (by omega)]]
    exact ⟨sJ9, OJ9⟩
  · refine v_iconst dX5_layTop_11 ?_
    refine v_goto dX5_layTop_12 ?_
    refine v_Vv (tX5_expect_1 hS0 hcs QJ1 sJ1 (Or.inl ⟨rfl, rfl⟩)) kX5_94 (by assumption) rfl rfl ⟨by decide, by decide⟩ ⟨by decide, by decide⟩ (Nat.le_of_ble_eq_true rfl) dX5_layTop_16 (fun G9 J11 pJ11 rng12 => ?_)
    obtain ⟨rfl, sJ11, oJ11⟩ := pJ11
    have OJ11 := (OJ1).tr oJ11
    have QJ11 := clsOK.offS hQ hcs OJ11
    refine v_aload_n dX5_layTop_19 rfl ?_
    refine v_iload_n dX5_layTop_20 rfl ?_
    refine v_Vv (tX5_lay hS0 hcs QJ11 sJ11 hr3) kX5_70 (by assumption) rfl rfl ⟨by decide, by decide⟩ ⟨by decide, by decide⟩ (Nat.le_of_ble_eq_true rfl) dX5_layTop_21 (fun G9 J13 pJ13 rng14 => ?_)
    obtain ⟨rfl, sJ13, oJ13⟩ := pJ13
    have OJ13 := (OJ11).tr oJ13
    have QJ13 := clsOK.offS hQ hcs OJ13
    refine v_aload_n dX5_layTop_24 rfl ?_
    refine v_iload_n dX5_layTop_25 rfl ?_
    refine v_Vv (tX5_lay hS0 hcs QJ13 sJ13 hr3) kX5_70 (by assumption) rfl rfl ⟨by decide, by decide⟩ ⟨by decide, by decide⟩ (Nat.le_of_ble_eq_true rfl) dX5_layTop_26 (fun G9 J15 pJ15 rng16 => ?_)
    obtain ⟨rfl, sJ15, oJ15⟩ := pJ15
    have OJ15 := (OJ13).tr oJ15
    have QJ15 := clsOK.offS hQ hcs OJ15
    refine v_vret rfl (by decide) (by decide) dX5_layTop_29 ⟨rfl, ?_⟩
    rw [show xLayTop σ = xLay (xLay ((xTA (σ)).2) ((xTA (σ)).1)) ((xTA (σ)).1) by unfold xLayTop xChk; rw [if_pos (by omega)]]
    exact ⟨sJ15, OJ15⟩
theorem tX5_make {E : w_E} {G : w_Sh} {I : w_Mm} {s q c : Nat} {Q : cS} {σ : sS} (hS : isS G s q c) (hcs : c + 3 ≤ s) (hQ : clsOK I c Q) (hσ : stOK I s σ) {m : Nat} {π : mS} (hM : isM G m) (hπ : metOK I m π) (hsm : s + 4 ≤ m) {cl : Int} (hcl : inR cl) (hcl2 : 0 ≤ cl ∧ cl < 16) (hu : -1000 ≤ (xTA σ).1) : w_Ct E mX5_make 2 [.ref s, .ref m, iv cl] G I 0 0 (w_Pv (fun G' J => G' = G ∧ stOK J s (xMake π σ cl) ∧ offS I J s)) := by
  have hS0 := hS
  obtain ⟨hTs, hRs0, hRs1, hK, hF⟩ := hS
  have hM0 := hM
  refine w_Ct.of (ls := [some (.ref s), some (.ref m), some (iv cl), none]) (by decide +kernel) (Nat.le_of_ble_eq_true rfl) rfl rfl (fun rng => ?_)
  refine v_aload_n dX5_make_0 rfl ?_
  refine v_Vi (tX5_takeAny hS0 hcs hQ hσ ) kX5_90 (by assumption) rfl rfl ⟨by decide, by decide⟩ ⟨by decide, by decide⟩ (Nat.le_of_ble_eq_true rfl) dX5_make_1 (fun r3 G9 J1 hr3 pJ1 rng2 => ?_)
  obtain ⟨rfl, rfl, sJ1, oJ1⟩ := pJ1
  have OJ1 := (offS.rf).tr oJ1
  have QJ1 := clsOK.offS hQ hcs OJ1
  refine v_istore_n dX5_make_4 (by decide) rfl ?_
  refine v_aload_n dX5_make_5 rfl ?_
  refine v_aload_n dX5_make_6 rfl ?_
  refine v_iload_n dX5_make_7 rfl ?_
  refine v_VmN (tX4_classOfUnmade hM (hπ.off (fun a k h1 h2 => OJ1 a k (by omega) (by omega) (by omega) (by omega))) hr3 hu) kX5_117 hM.1 rfl rfl ⟨by decide, by decide⟩ ⟨by decide, by decide⟩ (Nat.le_of_ble_eq_true rfl) dX5_make_8 (fun r4 er4 hr4 rng5 => ?_)
  refine v_iload_n dX5_make_11 rfl ?_
  refine v_icmp_ne hr4 hcl dX5_make_12 (fun h6 => ?_) (fun h6 => ?_)
  · refine v_iconst dX5_make_19 ?_
    refine v_Vv (tX5_expect_1 hS0 hcs QJ1 sJ1 (Or.inr ⟨rfl, rfl⟩)) kX5_94 (by assumption) rfl rfl ⟨by decide, by decide⟩ ⟨by decide, by decide⟩ (Nat.le_of_ble_eq_true rfl) dX5_make_20 (fun G9 J7 pJ7 rng8 => ?_)
    obtain ⟨rfl, sJ7, oJ7⟩ := pJ7
    have OJ7 := (OJ1).tr oJ7
    have QJ7 := clsOK.offS hQ hcs OJ7
    refine v_aload_n dX5_make_23 rfl ?_
    refine v_getI' (v := (xBrk ((xTA (σ)).2) 3).1) sJ7.1 fX5_38 rfl (by assumption) dX5_make_24 ?_
    refine v_if_ne (by rw [← sJ7.1]; exact rng8 _ _) dX5_make_27 (fun h9 => ?_) (fun h9 => ?_)
    · refine v_vret rfl (by decide) (by decide) dX5_make_42 ⟨rfl, ?_⟩
      have e0 : xMake0 π σ cl = xBrk ((xTA (σ)).2) 3 := by unfold xMake0 xChk; rw [if_neg (by omega)]
      rw [show xMake π σ cl = xMake0 π σ cl from if_neg (by rw [e0]; exact h9)]
      rw [e0]; exact ⟨sJ7, OJ7⟩
    · refine v_aload_n dX5_make_30 rfl ?_
      refine v_getR fX5_12 rfl (by assumption) (by assumption) dX5_make_31 ?_
      refine v_iload_n dX5_make_34 rfl ?_
      refine v_bipush dX5_make_35 (by decide) ?_
      refine v_iload_n dX5_make_37 rfl ?_
      refine v_iadd dX5_make_38 ?_
      refine v_Vv (tX2_replace hF sJ7.2.1 hr3 ⟨by omega, by omega⟩) kX5_121 hF.1 rfl rfl ⟨by decide, by decide⟩ ⟨by decide, by decide⟩ (Nat.le_of_ble_eq_true rfl) dX5_make_39 (fun G9 J10 pJ10 rng11 => ?_)
      obtain ⟨rfl, fJ10, oJ10⟩ := pJ10
      refine v_vret rfl (by decide) (by decide) dX5_make_42 ⟨rfl, ?_⟩
      have e0 : xMake0 π σ cl = xBrk ((xTA (σ)).2) 3 := by unfold xMake0 xChk; rw [if_neg (by omega)]
      rw [show xMake π σ cl = ((xMake0 π σ cl).1, replF (xMake0 π σ cl).2 (xTA σ).1 (10 + cl)) from if_pos (by rw [e0]; exact h9)]
      rw [e0]
      exact ⟨⟨(oJ10 s 2 (by omega) (by omega) (by omega)).trans sJ7.1, fJ10, sJ7.2.2⟩, (OJ7).tr (oJ10).S⟩
  · refine v_iconst dX5_make_15 ?_
    refine v_goto dX5_make_16 ?_
    refine v_Vv (tX5_expect_1 hS0 hcs QJ1 sJ1 (Or.inl ⟨rfl, rfl⟩)) kX5_94 (by assumption) rfl rfl ⟨by decide, by decide⟩ ⟨by decide, by decide⟩ (Nat.le_of_ble_eq_true rfl) dX5_make_20 (fun G9 J12 pJ12 rng13 => ?_)
    obtain ⟨rfl, sJ12, oJ12⟩ := pJ12
    have OJ12 := (OJ1).tr oJ12
    have QJ12 := clsOK.offS hQ hcs OJ12
    refine v_aload_n dX5_make_23 rfl ?_
    refine v_getI' (v := ((xTA (σ)).2).1) sJ12.1 fX5_38 rfl (by assumption) dX5_make_24 ?_
    refine v_if_ne (by rw [← sJ12.1]; exact rng13 _ _) dX5_make_27 (fun h14 => ?_) (fun h14 => ?_)
    · refine v_vret rfl (by decide) (by decide) dX5_make_42 ⟨rfl, ?_⟩
      have e0 : xMake0 π σ cl = (xTA (σ)).2 := by unfold xMake0 xChk; rw [if_pos (by omega)]
      rw [show xMake π σ cl = xMake0 π σ cl from if_neg (by rw [e0]; exact h14)]
      rw [e0]; exact ⟨sJ12, OJ12⟩
    · refine v_aload_n dX5_make_30 rfl ?_
      refine v_getR fX5_12 rfl (by assumption) (by assumption) dX5_make_31 ?_
      refine v_iload_n dX5_make_34 rfl ?_
      refine v_bipush dX5_make_35 (by decide) ?_
      refine v_iload_n dX5_make_37 rfl ?_
      refine v_iadd dX5_make_38 ?_
      refine v_Vv (tX2_replace hF sJ12.2.1 hr3 ⟨by omega, by omega⟩) kX5_121 hF.1 rfl rfl ⟨by decide, by decide⟩ ⟨by decide, by decide⟩ (Nat.le_of_ble_eq_true rfl) dX5_make_39 (fun G9 J15 pJ15 rng16 => ?_)
      obtain ⟨rfl, fJ15, oJ15⟩ := pJ15
      refine v_vret rfl (by decide) (by decide) dX5_make_42 ⟨rfl, ?_⟩
      have e0 : xMake0 π σ cl = (xTA (σ)).2 := by unfold xMake0 xChk; rw [if_pos (by omega)]
      rw [show xMake π σ cl = ((xMake0 π σ cl).1, replF (xMake0 π σ cl).2 (xTA σ).1 (10 + cl)) from if_pos (by rw [e0]; exact h14)]
      rw [e0]
      exact ⟨⟨(oJ15 s 2 (by omega) (by omega) (by omega)).trans sJ12.1, fJ15, sJ12.2.2⟩, (OJ12).tr (oJ15).S⟩
theorem tX5_loadElement {E : w_E} {G : w_Sh} {I : w_Mm} {s q c : Nat} {Q : cS} {σ : sS} (hS : isS G s q c) (hcs : c + 3 ≤ s) (hQ : clsOK I c Q) (hσ : stOK I s σ) : w_Ct E mX5_loadElement 3 [.ref s] G I 0 0 (w_Pv (fun G' J => G' = G ∧ stOK J s (xLoadE Q σ) ∧ offS I J s)) := by
  have hS0 := hS
  obtain ⟨hTs, hRs0, hRs1, hK, hF⟩ := hS
  refine w_Ct.of (ls := [some (.ref s), none]) (by decide +kernel) (Nat.le_of_ble_eq_true rfl) rfl rfl (fun rng => ?_)
  refine v_aload_n dX5_loadElement_0 rfl ?_
  refine v_iconst dX5_loadElement_1 ?_
  refine v_Vv (tX5_take hS0 hcs hQ hσ ⟨by decide, by decide⟩) kX5_74 (by assumption) rfl rfl ⟨by decide, by decide⟩ ⟨by decide, by decide⟩ (Nat.le_of_ble_eq_true rfl) dX5_loadElement_2 (fun G9 J1 pJ1 rng2 => ?_)
  obtain ⟨rfl, sJ1, oJ1⟩ := pJ1
  have OJ1 := (offS.rf).tr oJ1
  have QJ1 := clsOK.offS hQ hcs OJ1
  refine v_aload_n dX5_loadElement_5 rfl ?_
  refine v_Vi (tX5_takeAny hS0 hcs QJ1 sJ1 ) kX5_90 (by assumption) rfl rfl ⟨by decide, by decide⟩ ⟨by decide, by decide⟩ (Nat.le_of_ble_eq_true rfl) dX5_loadElement_6 (fun r5 G9 J3 hr5 pJ3 rng4 => ?_)
  obtain ⟨rfl, rfl, sJ3, oJ3⟩ := pJ3
  have OJ3 := (OJ1).tr oJ3
  have QJ3 := clsOK.offS hQ hcs OJ3
  refine v_istore_n dX5_loadElement_9 (by decide) rfl ?_
  refine v_iload_n dX5_loadElement_10 rfl ?_
  refine v_iconst dX5_loadElement_11 ?_
  refine v_icmp_ne hr5 ⟨by decide, by decide⟩ dX5_loadElement_12 (fun h6 => ?_) (fun h6 => ?_)
  · refine v_iload_n dX5_loadElement_23 rfl ?_
    refine v_Sb (tX3_isThingRow hr5) kX5_124 rfl rfl ⟨by decide, by decide⟩ ⟨by decide, by decide⟩ (Nat.le_of_ble_eq_true rfl) dX5_loadElement_24 (fun h7 => ?_) (fun h7 => ?_)
    · refine v_if_eq ⟨by decide, by decide⟩ dX5_loadElement_27 (fun h => by exfalso; omega) (fun hb27 => ?_)
      refine v_aload_n dX5_loadElement_30 rfl ?_
      refine v_bipush dX5_loadElement_31 (by decide) ?_
      refine v_iload_n dX5_loadElement_33 rfl ?_
      refine v_iadd dX5_loadElement_34 ?_
      refine v_bipush dX5_loadElement_35 (by decide) ?_
      refine v_isub dX5_loadElement_37 ?_
      refine v_Vv (tX5_lay hS0 hcs QJ3 sJ3 ⟨by omega, by omega⟩) kX5_70 (by assumption) rfl rfl ⟨by decide, by decide⟩ ⟨by decide, by decide⟩ (Nat.le_of_ble_eq_true rfl) dX5_loadElement_38 (fun G9 J8 pJ8 rng9 => ?_)
      obtain ⟨rfl, sJ8, oJ8⟩ := pJ8
      have OJ8 := (OJ3).tr oJ8
      have QJ8 := clsOK.offS hQ hcs OJ8
      refine v_goto dX5_loadElement_41 ?_
      refine v_vret rfl (by decide) (by decide) dX5_loadElement_63 ⟨rfl, ?_⟩
      unfold xLoadE; rw [if_neg h6, if_pos h7]
      exact ⟨sJ8, OJ8⟩
    · refine v_if_eq ⟨by decide, by decide⟩ dX5_loadElement_27 (fun hb27 => ?_) (fun h => by exfalso; omega)
      refine v_aload_n dX5_loadElement_44 rfl ?_
      refine v_iload_n dX5_loadElement_45 rfl ?_
      refine v_iconst dX5_loadElement_46 ?_
      refine v_icmp_ne hr5 ⟨by decide, by decide⟩ dX5_loadElement_47 (fun h10 => ?_) (fun h10 => ?_)
      · refine v_iconst dX5_loadElement_54 ?_
        refine v_Vv (tX5_expect_1 hS0 hcs QJ3 sJ3 (Or.inr ⟨rfl, rfl⟩)) kX5_94 (by assumption) rfl rfl ⟨by decide, by decide⟩ ⟨by decide, by decide⟩ (Nat.le_of_ble_eq_true rfl) dX5_loadElement_55 (fun G9 J11 pJ11 rng12 => ?_)
        obtain ⟨rfl, sJ11, oJ11⟩ := pJ11
        have OJ11 := (OJ3).tr oJ11
        have QJ11 := clsOK.offS hQ hcs OJ11
        refine v_aload_n dX5_loadElement_58 rfl ?_
        refine v_iconst dX5_loadElement_59 ?_
        refine v_Vv (tX5_lay hS0 hcs QJ11 sJ11 ⟨by decide, by decide⟩) kX5_70 (by assumption) rfl rfl ⟨by decide, by decide⟩ ⟨by decide, by decide⟩ (Nat.le_of_ble_eq_true rfl) dX5_loadElement_60 (fun G9 J13 pJ13 rng14 => ?_)
        obtain ⟨rfl, sJ13, oJ13⟩ := pJ13
        have OJ13 := (OJ11).tr oJ13
        have QJ13 := clsOK.offS hQ hcs OJ13
        refine v_vret rfl (by decide) (by decide) dX5_loadElement_63 ⟨rfl, ?_⟩
        unfold xLoadE; rw [if_neg h6, if_neg h7, show xChk (xTA (xTake Q σ 1)).2 ((xTA (xTake Q σ 1)).1 = 4) 3 = _ from if_neg h10]
        exact ⟨sJ13, OJ13⟩
      · refine v_iconst dX5_loadElement_50 ?_
        refine v_goto dX5_loadElement_51 ?_
        refine v_Vv (tX5_expect_1 hS0 hcs QJ3 sJ3 (Or.inl ⟨rfl, rfl⟩)) kX5_94 (by assumption) rfl rfl ⟨by decide, by decide⟩ ⟨by decide, by decide⟩ (Nat.le_of_ble_eq_true rfl) dX5_loadElement_55 (fun G9 J15 pJ15 rng16 => ?_)
        obtain ⟨rfl, sJ15, oJ15⟩ := pJ15
        have OJ15 := (OJ3).tr oJ15
        have QJ15 := clsOK.offS hQ hcs OJ15
        refine v_aload_n dX5_loadElement_58 rfl ?_
        refine v_iconst dX5_loadElement_59 ?_
        refine v_Vv (tX5_lay hS0 hcs QJ15 sJ15 ⟨by decide, by decide⟩) kX5_70 (by assumption) rfl rfl ⟨by decide, by decide⟩ ⟨by decide, by decide⟩ (Nat.le_of_ble_eq_true rfl) dX5_loadElement_60 (fun G9 J17 pJ17 rng18 => ?_)
        obtain ⟨rfl, sJ17, oJ17⟩ := pJ17
        have OJ17 := (OJ15).tr oJ17
        have QJ17 := clsOK.offS hQ hcs OJ17
        refine v_vret rfl (by decide) (by decide) dX5_loadElement_63 ⟨rfl, ?_⟩
        unfold xLoadE; rw [if_neg h6, if_neg h7, show xChk (xTA (xTake Q σ 1)).2 ((xTA (xTake Q σ 1)).1 = 4) 3 = _ from if_pos h10]
        exact ⟨sJ17, OJ17⟩
  · refine v_aload_n dX5_loadElement_15 rfl ?_
    refine v_iconst dX5_loadElement_16 ?_
    refine v_Vv (tX5_lay hS0 hcs QJ3 sJ3 ⟨by decide, by decide⟩) kX5_70 (by assumption) rfl rfl ⟨by decide, by decide⟩ ⟨by decide, by decide⟩ (Nat.le_of_ble_eq_true rfl) dX5_loadElement_17 (fun G9 J19 pJ19 rng20 => ?_)
    obtain ⟨rfl, sJ19, oJ19⟩ := pJ19
    have OJ19 := (OJ3).tr oJ19
    have QJ19 := clsOK.offS hQ hcs OJ19
    refine v_goto dX5_loadElement_20 ?_
    refine v_vret rfl (by decide) (by decide) dX5_loadElement_63 ⟨rfl, ?_⟩
    unfold xLoadE; rw [if_pos h6]
    exact ⟨sJ19, OJ19⟩
theorem tX5_storeElement {E : w_E} {G : w_Sh} {I : w_Mm} {s q c : Nat} {Q : cS} {σ : sS} (hS : isS G s q c) (hcs : c + 3 ≤ s) (hQ : clsOK I c Q) (hσ : stOK I s σ) : w_Ct E mX5_storeElement 3 [.ref s] G I 0 0 (w_Pv (fun G' J => G' = G ∧ stOK J s (xStoreE Q σ) ∧ offS I J s)) := by
  have hS0 := hS
  obtain ⟨hTs, hRs0, hRs1, hK, hF⟩ := hS
  refine w_Ct.of (ls := [some (.ref s), none, none]) (by decide +kernel) (Nat.le_of_ble_eq_true rfl) rfl rfl (fun rng => ?_)
  refine v_aload_n dX5_storeElement_0 rfl ?_
  refine v_Vi (tX5_takeAny hS0 hcs hQ hσ ) kX5_90 (by assumption) rfl rfl ⟨by decide, by decide⟩ ⟨by decide, by decide⟩ (Nat.le_of_ble_eq_true rfl) dX5_storeElement_1 (fun r3 G9 J1 hr3 pJ1 rng2 => ?_)
  obtain ⟨rfl, rfl, sJ1, oJ1⟩ := pJ1
  have OJ1 := (offS.rf).tr oJ1
  have QJ1 := clsOK.offS hQ hcs OJ1
  refine v_istore_n dX5_storeElement_4 (by decide) rfl ?_
  refine v_aload_n dX5_storeElement_5 rfl ?_
  refine v_iload_n dX5_storeElement_6 rfl ?_
  refine v_iconst dX5_storeElement_7 ?_
  refine v_icmp_eq hr3 ⟨by decide, by decide⟩ dX5_storeElement_8 (fun h4 => ?_) (fun h4 => ?_)
  · refine v_iconst dX5_storeElement_18 ?_
    refine v_goto dX5_storeElement_19 ?_
    refine v_Vv (tX5_expect_1 hS0 hcs QJ1 sJ1 (Or.inl ⟨rfl, rfl⟩)) kX5_94 (by assumption) rfl rfl ⟨by decide, by decide⟩ ⟨by decide, by decide⟩ (Nat.le_of_ble_eq_true rfl) dX5_storeElement_23 (fun G9 J5 pJ5 rng6 => ?_)
    obtain ⟨rfl, sJ5, oJ5⟩ := pJ5
    have OJ5 := (OJ1).tr oJ5
    have QJ5 := clsOK.offS hQ hcs OJ5
    refine v_aload_n dX5_storeElement_26 rfl ?_
    refine v_iconst dX5_storeElement_27 ?_
    refine v_Vv (tX5_take hS0 hcs QJ5 sJ5 ⟨by decide, by decide⟩) kX5_74 (by assumption) rfl rfl ⟨by decide, by decide⟩ ⟨by decide, by decide⟩ (Nat.le_of_ble_eq_true rfl) dX5_storeElement_28 (fun G9 J7 pJ7 rng8 => ?_)
    obtain ⟨rfl, sJ7, oJ7⟩ := pJ7
    have OJ7 := (OJ5).tr oJ7
    have QJ7 := clsOK.offS hQ hcs OJ7
    refine v_aload_n dX5_storeElement_31 rfl ?_
    refine v_Vi (tX5_takeAny hS0 hcs QJ7 sJ7 ) kX5_90 (by assumption) rfl rfl ⟨by decide, by decide⟩ ⟨by decide, by decide⟩ (Nat.le_of_ble_eq_true rfl) dX5_storeElement_32 (fun r11 G9 J9 hr11 pJ9 rng10 => ?_)
    obtain ⟨rfl, rfl, sJ9, oJ9⟩ := pJ9
    have OJ9 := (OJ7).tr oJ9
    have QJ9 := clsOK.offS hQ hcs OJ9
    refine v_istore_n dX5_storeElement_35 (by decide) rfl ?_
    refine v_aload_n dX5_storeElement_36 rfl ?_
    refine v_iload_n dX5_storeElement_37 rfl ?_
    refine v_iconst dX5_storeElement_38 ?_
    refine v_icmp_eq hr11 ⟨by decide, by decide⟩ dX5_storeElement_39 (fun h12 => ?_) (fun h12 => ?_)
    · refine v_iconst dX5_storeElement_62 ?_
      refine v_goto dX5_storeElement_63 ?_
      refine v_Vv (tX5_expect_1 hS0 hcs QJ9 sJ9 (Or.inl ⟨rfl, rfl⟩)) kX5_94 (by assumption) rfl rfl ⟨by decide, by decide⟩ ⟨by decide, by decide⟩ (Nat.le_of_ble_eq_true rfl) dX5_storeElement_67 (fun G9 J13 pJ13 rng14 => ?_)
      obtain ⟨rfl, sJ13, oJ13⟩ := pJ13
      have OJ13 := (OJ9).tr oJ13
      have QJ13 := clsOK.offS hQ hcs OJ13
      refine v_vret rfl (by decide) (by decide) dX5_storeElement_70 ⟨rfl, ?_⟩
      have e1 : xSt1 Q σ = xTake Q ((xTA (σ)).2) 1 := by unfold xSt1 xChk; rw [if_pos (by omega)]
      have e2 : xStoreE Q σ = (xTA (xTake Q ((xTA (σ)).2) (1))).2 := by unfold xStoreE xChk; rw [e1, if_pos (by omega)]
      rw [e2]; exact ⟨sJ13, OJ13⟩
    · refine v_iload_n dX5_storeElement_42 rfl ?_
      refine v_iconst dX5_storeElement_43 ?_
      refine v_icmp_ne hr3 ⟨by decide, by decide⟩ dX5_storeElement_44 (fun h15 => ?_) (fun h15 => ?_)
      · refine v_iload_n dX5_storeElement_55 rfl ?_
        refine v_Sb (tX3_isThingRow hr11) kX5_124 rfl rfl ⟨by decide, by decide⟩ ⟨by decide, by decide⟩ (Nat.le_of_ble_eq_true rfl) dX5_storeElement_56 (fun h16 => ?_) (fun h16 => ?_)
        · refine v_if_eq ⟨by decide, by decide⟩ dX5_storeElement_59 (fun h => by exfalso; omega) (fun hb59 => ?_)
          refine v_iconst dX5_storeElement_62 ?_
          refine v_goto dX5_storeElement_63 ?_
          refine v_Vv (tX5_expect_1 hS0 hcs QJ9 sJ9 (Or.inl ⟨rfl, rfl⟩)) kX5_94 (by assumption) rfl rfl ⟨by decide, by decide⟩ ⟨by decide, by decide⟩ (Nat.le_of_ble_eq_true rfl) dX5_storeElement_67 (fun G9 J17 pJ17 rng18 => ?_)
          obtain ⟨rfl, sJ17, oJ17⟩ := pJ17
          have OJ17 := (OJ9).tr oJ17
          have QJ17 := clsOK.offS hQ hcs OJ17
          refine v_vret rfl (by decide) (by decide) dX5_storeElement_70 ⟨rfl, ?_⟩
          have e1 : xSt1 Q σ = xTake Q ((xTA (σ)).2) 1 := by unfold xSt1 xChk; rw [if_pos (by omega)]
          have e2 : xStoreE Q σ = (xTA (xTake Q ((xTA (σ)).2) (1))).2 := by unfold xStoreE xChk; rw [e1, if_pos (by omega)]
          rw [e2]; exact ⟨sJ17, OJ17⟩
        · refine v_if_eq ⟨by decide, by decide⟩ dX5_storeElement_59 (fun hb59 => ?_) (fun h => by exfalso; omega)
          refine v_iconst dX5_storeElement_66 ?_
          refine v_Vv (tX5_expect_1 hS0 hcs QJ9 sJ9 (Or.inr ⟨rfl, rfl⟩)) kX5_94 (by assumption) rfl rfl ⟨by decide, by decide⟩ ⟨by decide, by decide⟩ (Nat.le_of_ble_eq_true rfl) dX5_storeElement_67 (fun G9 J19 pJ19 rng20 => ?_)
          obtain ⟨rfl, sJ19, oJ19⟩ := pJ19
          have OJ19 := (OJ9).tr oJ19
          have QJ19 := clsOK.offS hQ hcs OJ19
          refine v_vret rfl (by decide) (by decide) dX5_storeElement_70 ⟨rfl, ?_⟩
          have e1 : xSt1 Q σ = xTake Q ((xTA (σ)).2) 1 := by unfold xSt1 xChk; rw [if_pos (by omega)]
          have e2 : xStoreE Q σ = xBrk ((xTA (xTake Q ((xTA (σ)).2) (1))).2) 3 := by unfold xStoreE xChk; rw [e1, if_neg (by omega)]
          rw [e2]; exact ⟨sJ19, OJ19⟩
      · refine v_iload_n dX5_storeElement_47 rfl ?_
        refine v_iconst dX5_storeElement_48 ?_
        refine v_icmp_ne hr11 ⟨by decide, by decide⟩ dX5_storeElement_49 (fun h21 => ?_) (fun h21 => ?_)
        · refine v_iconst dX5_storeElement_66 ?_
          refine v_Vv (tX5_expect_1 hS0 hcs QJ9 sJ9 (Or.inr ⟨rfl, rfl⟩)) kX5_94 (by assumption) rfl rfl ⟨by decide, by decide⟩ ⟨by decide, by decide⟩ (Nat.le_of_ble_eq_true rfl) dX5_storeElement_67 (fun G9 J22 pJ22 rng23 => ?_)
          obtain ⟨rfl, sJ22, oJ22⟩ := pJ22
          have OJ22 := (OJ9).tr oJ22
          have QJ22 := clsOK.offS hQ hcs OJ22
          refine v_vret rfl (by decide) (by decide) dX5_storeElement_70 ⟨rfl, ?_⟩
          have e1 : xSt1 Q σ = xTake Q ((xTA (σ)).2) 1 := by unfold xSt1 xChk; rw [if_pos (by omega)]
          have e2 : xStoreE Q σ = xBrk ((xTA (xTake Q ((xTA (σ)).2) (1))).2) 3 := by unfold xStoreE xChk; rw [e1, if_neg (by omega)]
          rw [e2]; exact ⟨sJ22, OJ22⟩
        · refine v_goto dX5_storeElement_52 ?_
          refine v_iconst dX5_storeElement_62 ?_
          refine v_goto dX5_storeElement_63 ?_
          refine v_Vv (tX5_expect_1 hS0 hcs QJ9 sJ9 (Or.inl ⟨rfl, rfl⟩)) kX5_94 (by assumption) rfl rfl ⟨by decide, by decide⟩ ⟨by decide, by decide⟩ (Nat.le_of_ble_eq_true rfl) dX5_storeElement_67 (fun G9 J24 pJ24 rng25 => ?_)
          obtain ⟨rfl, sJ24, oJ24⟩ := pJ24
          have OJ24 := (OJ9).tr oJ24
          have QJ24 := clsOK.offS hQ hcs OJ24
          refine v_vret rfl (by decide) (by decide) dX5_storeElement_70 ⟨rfl, ?_⟩
          have e1 : xSt1 Q σ = xTake Q ((xTA (σ)).2) 1 := by unfold xSt1 xChk; rw [if_pos (by omega)]
          have e2 : xStoreE Q σ = (xTA (xTake Q ((xTA (σ)).2) (1))).2 := by unfold xStoreE xChk; rw [e1, if_pos (by omega)]
          rw [e2]; exact ⟨sJ24, OJ24⟩
  · refine v_iload_n dX5_storeElement_11 rfl ?_
    refine v_Sb (tX3_isReference hr3) kX5_106 rfl rfl ⟨by decide, by decide⟩ ⟨by decide, by decide⟩ (Nat.le_of_ble_eq_true rfl) dX5_storeElement_12 (fun h26 => ?_) (fun h26 => ?_)
    · refine v_if_eq ⟨by decide, by decide⟩ dX5_storeElement_15 (fun h => by exfalso; omega) (fun hb15 => ?_)
      refine v_iconst dX5_storeElement_18 ?_
      refine v_goto dX5_storeElement_19 ?_
      refine v_Vv (tX5_expect_1 hS0 hcs QJ1 sJ1 (Or.inl ⟨rfl, rfl⟩)) kX5_94 (by assumption) rfl rfl ⟨by decide, by decide⟩ ⟨by decide, by decide⟩ (Nat.le_of_ble_eq_true rfl) dX5_storeElement_23 (fun G9 J27 pJ27 rng28 => ?_)
      obtain ⟨rfl, sJ27, oJ27⟩ := pJ27
      have OJ27 := (OJ1).tr oJ27
      have QJ27 := clsOK.offS hQ hcs OJ27
      refine v_aload_n dX5_storeElement_26 rfl ?_
      refine v_iconst dX5_storeElement_27 ?_
      refine v_Vv (tX5_take hS0 hcs QJ27 sJ27 ⟨by decide, by decide⟩) kX5_74 (by assumption) rfl rfl ⟨by decide, by decide⟩ ⟨by decide, by decide⟩ (Nat.le_of_ble_eq_true rfl) dX5_storeElement_28 (fun G9 J29 pJ29 rng30 => ?_)
      obtain ⟨rfl, sJ29, oJ29⟩ := pJ29
      have OJ29 := (OJ27).tr oJ29
      have QJ29 := clsOK.offS hQ hcs OJ29
      refine v_aload_n dX5_storeElement_31 rfl ?_
      refine v_Vi (tX5_takeAny hS0 hcs QJ29 sJ29 ) kX5_90 (by assumption) rfl rfl ⟨by decide, by decide⟩ ⟨by decide, by decide⟩ (Nat.le_of_ble_eq_true rfl) dX5_storeElement_32 (fun r33 G9 J31 hr33 pJ31 rng32 => ?_)
      obtain ⟨rfl, rfl, sJ31, oJ31⟩ := pJ31
      have OJ31 := (OJ29).tr oJ31
      have QJ31 := clsOK.offS hQ hcs OJ31
      refine v_istore_n dX5_storeElement_35 (by decide) rfl ?_
      refine v_aload_n dX5_storeElement_36 rfl ?_
      refine v_iload_n dX5_storeElement_37 rfl ?_
      refine v_iconst dX5_storeElement_38 ?_
      refine v_icmp_eq hr33 ⟨by decide, by decide⟩ dX5_storeElement_39 (fun h34 => ?_) (fun h34 => ?_)
      · refine v_iconst dX5_storeElement_62 ?_
        refine v_goto dX5_storeElement_63 ?_
        refine v_Vv (tX5_expect_1 hS0 hcs QJ31 sJ31 (Or.inl ⟨rfl, rfl⟩)) kX5_94 (by assumption) rfl rfl ⟨by decide, by decide⟩ ⟨by decide, by decide⟩ (Nat.le_of_ble_eq_true rfl) dX5_storeElement_67 (fun G9 J35 pJ35 rng36 => ?_)
        obtain ⟨rfl, sJ35, oJ35⟩ := pJ35
        have OJ35 := (OJ31).tr oJ35
        have QJ35 := clsOK.offS hQ hcs OJ35
        refine v_vret rfl (by decide) (by decide) dX5_storeElement_70 ⟨rfl, ?_⟩
        have e1 : xSt1 Q σ = xTake Q ((xTA (σ)).2) 1 := by unfold xSt1 xChk; rw [if_pos (by omega)]
        have e2 : xStoreE Q σ = (xTA (xTake Q ((xTA (σ)).2) (1))).2 := by unfold xStoreE xChk; rw [e1, if_pos (by omega)]
        rw [e2]; exact ⟨sJ35, OJ35⟩
      · refine v_iload_n dX5_storeElement_42 rfl ?_
        refine v_iconst dX5_storeElement_43 ?_
        refine v_icmp_ne hr3 ⟨by decide, by decide⟩ dX5_storeElement_44 (fun h37 => ?_) (fun h37 => ?_)
        · refine v_iload_n dX5_storeElement_55 rfl ?_
          refine v_Sb (tX3_isThingRow hr33) kX5_124 rfl rfl ⟨by decide, by decide⟩ ⟨by decide, by decide⟩ (Nat.le_of_ble_eq_true rfl) dX5_storeElement_56 (fun h38 => ?_) (fun h38 => ?_)
          · refine v_if_eq ⟨by decide, by decide⟩ dX5_storeElement_59 (fun h => by exfalso; omega) (fun hb59 => ?_)
            refine v_iconst dX5_storeElement_62 ?_
            refine v_goto dX5_storeElement_63 ?_
            refine v_Vv (tX5_expect_1 hS0 hcs QJ31 sJ31 (Or.inl ⟨rfl, rfl⟩)) kX5_94 (by assumption) rfl rfl ⟨by decide, by decide⟩ ⟨by decide, by decide⟩ (Nat.le_of_ble_eq_true rfl) dX5_storeElement_67 (fun G9 J39 pJ39 rng40 => ?_)
            obtain ⟨rfl, sJ39, oJ39⟩ := pJ39
            have OJ39 := (OJ31).tr oJ39
            have QJ39 := clsOK.offS hQ hcs OJ39
            refine v_vret rfl (by decide) (by decide) dX5_storeElement_70 ⟨rfl, ?_⟩
            have e1 : xSt1 Q σ = xTake Q ((xTA (σ)).2) 1 := by unfold xSt1 xChk; rw [if_pos (by omega)]
            have e2 : xStoreE Q σ = (xTA (xTake Q ((xTA (σ)).2) (1))).2 := by unfold xStoreE xChk; rw [e1, if_pos (by omega)]
            rw [e2]; exact ⟨sJ39, OJ39⟩
          · refine v_if_eq ⟨by decide, by decide⟩ dX5_storeElement_59 (fun hb59 => ?_) (fun h => by exfalso; omega)
            refine v_iconst dX5_storeElement_66 ?_
            refine v_Vv (tX5_expect_1 hS0 hcs QJ31 sJ31 (Or.inr ⟨rfl, rfl⟩)) kX5_94 (by assumption) rfl rfl ⟨by decide, by decide⟩ ⟨by decide, by decide⟩ (Nat.le_of_ble_eq_true rfl) dX5_storeElement_67 (fun G9 J41 pJ41 rng42 => ?_)
            obtain ⟨rfl, sJ41, oJ41⟩ := pJ41
            have OJ41 := (OJ31).tr oJ41
            have QJ41 := clsOK.offS hQ hcs OJ41
            refine v_vret rfl (by decide) (by decide) dX5_storeElement_70 ⟨rfl, ?_⟩
            have e1 : xSt1 Q σ = xTake Q ((xTA (σ)).2) 1 := by unfold xSt1 xChk; rw [if_pos (by omega)]
            have e2 : xStoreE Q σ = xBrk ((xTA (xTake Q ((xTA (σ)).2) (1))).2) 3 := by unfold xStoreE xChk; rw [e1, if_neg (by omega)]
            rw [e2]; exact ⟨sJ41, OJ41⟩
        · refine v_iload_n dX5_storeElement_47 rfl ?_
          refine v_iconst dX5_storeElement_48 ?_
          refine v_icmp_ne hr33 ⟨by decide, by decide⟩ dX5_storeElement_49 (fun h43 => ?_) (fun h43 => ?_)
          · refine v_iconst dX5_storeElement_66 ?_
            refine v_Vv (tX5_expect_1 hS0 hcs QJ31 sJ31 (Or.inr ⟨rfl, rfl⟩)) kX5_94 (by assumption) rfl rfl ⟨by decide, by decide⟩ ⟨by decide, by decide⟩ (Nat.le_of_ble_eq_true rfl) dX5_storeElement_67 (fun G9 J44 pJ44 rng45 => ?_)
            obtain ⟨rfl, sJ44, oJ44⟩ := pJ44
            have OJ44 := (OJ31).tr oJ44
            have QJ44 := clsOK.offS hQ hcs OJ44
            refine v_vret rfl (by decide) (by decide) dX5_storeElement_70 ⟨rfl, ?_⟩
            have e1 : xSt1 Q σ = xTake Q ((xTA (σ)).2) 1 := by unfold xSt1 xChk; rw [if_pos (by omega)]
            have e2 : xStoreE Q σ = xBrk ((xTA (xTake Q ((xTA (σ)).2) (1))).2) 3 := by unfold xStoreE xChk; rw [e1, if_neg (by omega)]
            rw [e2]; exact ⟨sJ44, OJ44⟩
          · refine v_goto dX5_storeElement_52 ?_
            refine v_iconst dX5_storeElement_62 ?_
            refine v_goto dX5_storeElement_63 ?_
            refine v_Vv (tX5_expect_1 hS0 hcs QJ31 sJ31 (Or.inl ⟨rfl, rfl⟩)) kX5_94 (by assumption) rfl rfl ⟨by decide, by decide⟩ ⟨by decide, by decide⟩ (Nat.le_of_ble_eq_true rfl) dX5_storeElement_67 (fun G9 J46 pJ46 rng47 => ?_)
            obtain ⟨rfl, sJ46, oJ46⟩ := pJ46
            have OJ46 := (OJ31).tr oJ46
            have QJ46 := clsOK.offS hQ hcs OJ46
            refine v_vret rfl (by decide) (by decide) dX5_storeElement_70 ⟨rfl, ?_⟩
            have e1 : xSt1 Q σ = xTake Q ((xTA (σ)).2) 1 := by unfold xSt1 xChk; rw [if_pos (by omega)]
            have e2 : xStoreE Q σ = (xTA (xTake Q ((xTA (σ)).2) (1))).2 := by unfold xStoreE xChk; rw [e1, if_pos (by omega)]
            rw [e2]; exact ⟨sJ46, OJ46⟩
    · refine v_if_eq ⟨by decide, by decide⟩ dX5_storeElement_15 (fun hb15 => ?_) (fun h => by exfalso; omega)
      refine v_iconst dX5_storeElement_22 ?_
      refine v_Vv (tX5_expect_1 hS0 hcs QJ1 sJ1 (Or.inr ⟨rfl, rfl⟩)) kX5_94 (by assumption) rfl rfl ⟨by decide, by decide⟩ ⟨by decide, by decide⟩ (Nat.le_of_ble_eq_true rfl) dX5_storeElement_23 (fun G9 J48 pJ48 rng49 => ?_)
      obtain ⟨rfl, sJ48, oJ48⟩ := pJ48
      have OJ48 := (OJ1).tr oJ48
      have QJ48 := clsOK.offS hQ hcs OJ48
      refine v_aload_n dX5_storeElement_26 rfl ?_
      refine v_iconst dX5_storeElement_27 ?_
      refine v_Vv (tX5_take hS0 hcs QJ48 sJ48 ⟨by decide, by decide⟩) kX5_74 (by assumption) rfl rfl ⟨by decide, by decide⟩ ⟨by decide, by decide⟩ (Nat.le_of_ble_eq_true rfl) dX5_storeElement_28 (fun G9 J50 pJ50 rng51 => ?_)
      obtain ⟨rfl, sJ50, oJ50⟩ := pJ50
      have OJ50 := (OJ48).tr oJ50
      have QJ50 := clsOK.offS hQ hcs OJ50
      refine v_aload_n dX5_storeElement_31 rfl ?_
      refine v_Vi (tX5_takeAny hS0 hcs QJ50 sJ50 ) kX5_90 (by assumption) rfl rfl ⟨by decide, by decide⟩ ⟨by decide, by decide⟩ (Nat.le_of_ble_eq_true rfl) dX5_storeElement_32 (fun r54 G9 J52 hr54 pJ52 rng53 => ?_)
      obtain ⟨rfl, rfl, sJ52, oJ52⟩ := pJ52
      have OJ52 := (OJ50).tr oJ52
      have QJ52 := clsOK.offS hQ hcs OJ52
      refine v_istore_n dX5_storeElement_35 (by decide) rfl ?_
      refine v_aload_n dX5_storeElement_36 rfl ?_
      refine v_iload_n dX5_storeElement_37 rfl ?_
      refine v_iconst dX5_storeElement_38 ?_
      refine v_icmp_eq hr54 ⟨by decide, by decide⟩ dX5_storeElement_39 (fun h55 => ?_) (fun h55 => ?_)
      · refine v_iconst dX5_storeElement_62 ?_
        refine v_goto dX5_storeElement_63 ?_
        refine v_Vv (tX5_expect_1 hS0 hcs QJ52 sJ52 (Or.inl ⟨rfl, rfl⟩)) kX5_94 (by assumption) rfl rfl ⟨by decide, by decide⟩ ⟨by decide, by decide⟩ (Nat.le_of_ble_eq_true rfl) dX5_storeElement_67 (fun G9 J56 pJ56 rng57 => ?_)
        obtain ⟨rfl, sJ56, oJ56⟩ := pJ56
        have OJ56 := (OJ52).tr oJ56
        have QJ56 := clsOK.offS hQ hcs OJ56
        refine v_vret rfl (by decide) (by decide) dX5_storeElement_70 ⟨rfl, ?_⟩
        have e1 : xSt1 Q σ = xTake Q (xBrk ((xTA (σ)).2) 3) 1 := by unfold xSt1 xChk; rw [if_neg (by omega)]
        have e2 : xStoreE Q σ = (xTA (xTake Q (xBrk ((xTA (σ)).2) 3) (1))).2 := by unfold xStoreE xChk; rw [e1, if_pos (by omega)]
        rw [e2]; exact ⟨sJ56, OJ56⟩
      · refine v_iload_n dX5_storeElement_42 rfl ?_
        refine v_iconst dX5_storeElement_43 ?_
        refine v_icmp_ne hr3 ⟨by decide, by decide⟩ dX5_storeElement_44 (fun h58 => ?_) (fun h58 => ?_)
        · refine v_iload_n dX5_storeElement_55 rfl ?_
          refine v_Sb (tX3_isThingRow hr54) kX5_124 rfl rfl ⟨by decide, by decide⟩ ⟨by decide, by decide⟩ (Nat.le_of_ble_eq_true rfl) dX5_storeElement_56 (fun h59 => ?_) (fun h59 => ?_)
          · refine v_if_eq ⟨by decide, by decide⟩ dX5_storeElement_59 (fun h => by exfalso; omega) (fun hb59 => ?_)
            refine v_iconst dX5_storeElement_62 ?_
            refine v_goto dX5_storeElement_63 ?_
            refine v_Vv (tX5_expect_1 hS0 hcs QJ52 sJ52 (Or.inl ⟨rfl, rfl⟩)) kX5_94 (by assumption) rfl rfl ⟨by decide, by decide⟩ ⟨by decide, by decide⟩ (Nat.le_of_ble_eq_true rfl) dX5_storeElement_67 (fun G9 J60 pJ60 rng61 => ?_)
            obtain ⟨rfl, sJ60, oJ60⟩ := pJ60
            have OJ60 := (OJ52).tr oJ60
            have QJ60 := clsOK.offS hQ hcs OJ60
            refine v_vret rfl (by decide) (by decide) dX5_storeElement_70 ⟨rfl, ?_⟩
            have e1 : xSt1 Q σ = xTake Q (xBrk ((xTA (σ)).2) 3) 1 := by unfold xSt1 xChk; rw [if_neg (by omega)]
            have e2 : xStoreE Q σ = (xTA (xTake Q (xBrk ((xTA (σ)).2) 3) (1))).2 := by unfold xStoreE xChk; rw [e1, if_pos (by omega)]
            rw [e2]; exact ⟨sJ60, OJ60⟩
          · refine v_if_eq ⟨by decide, by decide⟩ dX5_storeElement_59 (fun hb59 => ?_) (fun h => by exfalso; omega)
            refine v_iconst dX5_storeElement_66 ?_
            refine v_Vv (tX5_expect_1 hS0 hcs QJ52 sJ52 (Or.inr ⟨rfl, rfl⟩)) kX5_94 (by assumption) rfl rfl ⟨by decide, by decide⟩ ⟨by decide, by decide⟩ (Nat.le_of_ble_eq_true rfl) dX5_storeElement_67 (fun G9 J62 pJ62 rng63 => ?_)
            obtain ⟨rfl, sJ62, oJ62⟩ := pJ62
            have OJ62 := (OJ52).tr oJ62
            have QJ62 := clsOK.offS hQ hcs OJ62
            refine v_vret rfl (by decide) (by decide) dX5_storeElement_70 ⟨rfl, ?_⟩
            have e1 : xSt1 Q σ = xTake Q (xBrk ((xTA (σ)).2) 3) 1 := by unfold xSt1 xChk; rw [if_neg (by omega)]
            have e2 : xStoreE Q σ = xBrk ((xTA (xTake Q (xBrk ((xTA (σ)).2) 3) (1))).2) 3 := by unfold xStoreE xChk; rw [e1, if_neg (by omega)]
            rw [e2]; exact ⟨sJ62, OJ62⟩
        · refine v_iload_n dX5_storeElement_47 rfl ?_
          refine v_iconst dX5_storeElement_48 ?_
          refine v_icmp_ne hr54 ⟨by decide, by decide⟩ dX5_storeElement_49 (fun h64 => ?_) (fun h64 => ?_)
          · refine v_iconst dX5_storeElement_66 ?_
            refine v_Vv (tX5_expect_1 hS0 hcs QJ52 sJ52 (Or.inr ⟨rfl, rfl⟩)) kX5_94 (by assumption) rfl rfl ⟨by decide, by decide⟩ ⟨by decide, by decide⟩ (Nat.le_of_ble_eq_true rfl) dX5_storeElement_67 (fun G9 J65 pJ65 rng66 => ?_)
            obtain ⟨rfl, sJ65, oJ65⟩ := pJ65
            have OJ65 := (OJ52).tr oJ65
            have QJ65 := clsOK.offS hQ hcs OJ65
            refine v_vret rfl (by decide) (by decide) dX5_storeElement_70 ⟨rfl, ?_⟩
            have e1 : xSt1 Q σ = xTake Q (xBrk ((xTA (σ)).2) 3) 1 := by unfold xSt1 xChk; rw [if_neg (by omega)]
            have e2 : xStoreE Q σ = xBrk ((xTA (xTake Q (xBrk ((xTA (σ)).2) 3) (1))).2) 3 := by unfold xStoreE xChk; rw [e1, if_neg (by omega)]
            rw [e2]; exact ⟨sJ65, OJ65⟩
          · refine v_goto dX5_storeElement_52 ?_
            refine v_iconst dX5_storeElement_62 ?_
            refine v_goto dX5_storeElement_63 ?_
            refine v_Vv (tX5_expect_1 hS0 hcs QJ52 sJ52 (Or.inl ⟨rfl, rfl⟩)) kX5_94 (by assumption) rfl rfl ⟨by decide, by decide⟩ ⟨by decide, by decide⟩ (Nat.le_of_ble_eq_true rfl) dX5_storeElement_67 (fun G9 J67 pJ67 rng68 => ?_)
            obtain ⟨rfl, sJ67, oJ67⟩ := pJ67
            have OJ67 := (OJ52).tr oJ67
            have QJ67 := clsOK.offS hQ hcs OJ67
            refine v_vret rfl (by decide) (by decide) dX5_storeElement_70 ⟨rfl, ?_⟩
            have e1 : xSt1 Q σ = xTake Q (xBrk ((xTA (σ)).2) 3) 1 := by unfold xSt1 xChk; rw [if_neg (by omega)]
            have e2 : xStoreE Q σ = (xTA (xTake Q (xBrk ((xTA (σ)).2) 3) (1))).2 := by unfold xStoreE xChk; rw [e1, if_pos (by omega)]
            rw [e2]; exact ⟨sJ67, OJ67⟩
theorem tX5_useLocal {E : w_E} {G : w_Sh} {I : w_Mm} {s q c : Nat} {Q : cS} {σ : sS} (hS : isS G s q c) (hcs : c + 3 ≤ s) (hQ : clsOK I c Q) (hσ : stOK I s σ) {op : Int} {a : Nat} (hop : 2 ≤ op ∧ op ≤ 7) (ha : a < 8) (ha7 : op = 4 ∨ op = 5 → a < 7) : w_Ct E mX5_useLocal 4 [.ref s, iv op, iv (a : Int)] G I 0 0 (w_Pv (fun G' J => G' = G ∧ stOK J s (xUL Q σ op a) ∧ offS I J s)) := by
  have hS0 := hS
  obtain ⟨hTs, hRs0, hRs1, hK, hF⟩ := hS
  have hcase : op = 2 ∨ op = 3 ∨ op = 4 ∨ op = 5 ∨ op = 6 ∨ op = 7 := by omega
  rcases hcase with rfl | rfl | rfl | rfl | rfl | rfl
  · rw [show xUL Q σ 2 a = xLay (xChk σ (σ.2.2.1 a = 1) 4) 1 by unfold xUL; rw [if_pos rfl]]
    refine w_Ct.of (ls := [some (.ref s), some (iv 2), some (iv (a : Int)), none]) (by decide +kernel) (Nat.le_of_ble_eq_true rfl) rfl rfl (fun rng => ?_)
    refine v_iload_n dX5_useLocal_0 rfl ?_
    refine v_tswIn (off := 35) (tgt := 36) dX5_useLocal_1 ⟨by decide, by decide⟩ (by decide) (by decide) (by decide) (by decide) ?_
    refine v_aload_n dX5_useLocal_36 rfl ?_
    refine v_aload_n dX5_useLocal_37 rfl ?_
    refine v_getR fX5_12 rfl (by assumption) (by assumption) dX5_useLocal_38 ?_
    refine v_getR fX5_63 rfl hF.1 hF.2.1 dX5_useLocal_41 ?_
    refine v_iload_n dX5_useLocal_44 rfl ?_
    refine v_iald' (i := a) (v := (σ).2.2.1 (a)) (hσ.2.1.2.1 (a) (by omega)) hF.2.2.2.1 rfl (by omega) (by omega) dX5_useLocal_45 ?_
    refine v_iconst dX5_useLocal_46 ?_
    refine v_icmp_ne (by rw [← hσ.2.1.2.1 (a) (by omega)]; exact rng _ _) ⟨by decide, by decide⟩ dX5_useLocal_47 (fun h1 => ?_) (fun h1 => ?_)
    · refine v_iconst dX5_useLocal_54 ?_
      refine v_Vv (tX5_expectInLocal_1 hS0 hcs hQ hσ (Or.inr ⟨rfl, rfl⟩)) kX5_66 (by assumption) rfl rfl ⟨by decide, by decide⟩ ⟨by decide, by decide⟩ (Nat.le_of_ble_eq_true rfl) dX5_useLocal_55 (fun G9 J2 pJ2 rng3 => ?_)
      obtain ⟨rfl, sJ2, oJ2⟩ := pJ2
      have OJ2 := (offS.rf).tr oJ2
      have QJ2 := clsOK.offS hQ hcs OJ2
      refine v_aload_n dX5_useLocal_58 rfl ?_
      refine v_iconst dX5_useLocal_59 ?_
      refine v_Vv (tX5_lay hS0 hcs QJ2 sJ2 ⟨by decide, by decide⟩) kX5_70 (by assumption) rfl rfl ⟨by decide, by decide⟩ ⟨by decide, by decide⟩ (Nat.le_of_ble_eq_true rfl) dX5_useLocal_60 (fun G9 J4 pJ4 rng5 => ?_)
      obtain ⟨rfl, sJ4, oJ4⟩ := pJ4
      have OJ4 := (OJ2).tr oJ4
      have QJ4 := clsOK.offS hQ hcs OJ4
      refine v_goto dX5_useLocal_63 ?_
      refine v_vret rfl (by decide) (by decide) dX5_useLocal_164 ⟨rfl, ?_⟩
      rw [show xChk _ _ _ = _ from if_neg h1]
      exact ⟨sJ4, OJ4⟩
    · refine v_iconst dX5_useLocal_50 ?_
      refine v_goto dX5_useLocal_51 ?_
      refine v_Vv (tX5_expectInLocal_1 hS0 hcs hQ hσ (Or.inl ⟨rfl, rfl⟩)) kX5_66 (by assumption) rfl rfl ⟨by decide, by decide⟩ ⟨by decide, by decide⟩ (Nat.le_of_ble_eq_true rfl) dX5_useLocal_55 (fun G9 J6 pJ6 rng7 => ?_)
      obtain ⟨rfl, sJ6, oJ6⟩ := pJ6
      have OJ6 := (offS.rf).tr oJ6
      have QJ6 := clsOK.offS hQ hcs OJ6
      refine v_aload_n dX5_useLocal_58 rfl ?_
      refine v_iconst dX5_useLocal_59 ?_
      refine v_Vv (tX5_lay hS0 hcs QJ6 sJ6 ⟨by decide, by decide⟩) kX5_70 (by assumption) rfl rfl ⟨by decide, by decide⟩ ⟨by decide, by decide⟩ (Nat.le_of_ble_eq_true rfl) dX5_useLocal_60 (fun G9 J8 pJ8 rng9 => ?_)
      obtain ⟨rfl, sJ8, oJ8⟩ := pJ8
      have OJ8 := (OJ6).tr oJ8
      have QJ8 := clsOK.offS hQ hcs OJ8
      refine v_goto dX5_useLocal_63 ?_
      refine v_vret rfl (by decide) (by decide) dX5_useLocal_164 ⟨rfl, ?_⟩
      rw [show xChk _ _ _ = _ from if_pos h1]
      exact ⟨sJ8, OJ8⟩
  · rw [show xUL Q σ 3 a = xPut (xTake Q σ 1) a 1 by unfold xUL; rw [if_neg (by decide), if_pos rfl]]
    refine w_Ct.of (ls := [some (.ref s), some (iv 3), some (iv (a : Int)), none]) (by decide +kernel) (Nat.le_of_ble_eq_true rfl) rfl rfl (fun rng => ?_)
    refine v_iload_n dX5_useLocal_0 rfl ?_
    refine v_tswIn (off := 65) (tgt := 66) dX5_useLocal_1 ⟨by decide, by decide⟩ (by decide) (by decide) (by decide) (by decide) ?_
    refine v_aload_n dX5_useLocal_66 rfl ?_
    refine v_iconst dX5_useLocal_67 ?_
    refine v_Vv (tX5_take hS0 hcs hQ hσ ⟨by decide, by decide⟩) kX5_74 (by assumption) rfl rfl ⟨by decide, by decide⟩ ⟨by decide, by decide⟩ (Nat.le_of_ble_eq_true rfl) dX5_useLocal_68 (fun G9 J1 pJ1 rng2 => ?_)
    obtain ⟨rfl, sJ1, oJ1⟩ := pJ1
    have OJ1 := (offS.rf).tr oJ1
    have QJ1 := clsOK.offS hQ hcs OJ1
    refine v_aload_n dX5_useLocal_71 rfl ?_
    refine v_iload_n dX5_useLocal_72 rfl ?_
    refine v_iconst dX5_useLocal_73 ?_
    refine v_Vv (tX5_put hS0 hcs QJ1 sJ1 (i := a) (by omega) ⟨by decide, by decide⟩) kX5_77 (by assumption) rfl rfl ⟨by decide, by decide⟩ ⟨by decide, by decide⟩ (Nat.le_of_ble_eq_true rfl) dX5_useLocal_74 (fun G9 J3 pJ3 rng4 => ?_)
    obtain ⟨rfl, sJ3, oJ3⟩ := pJ3
    have OJ3 := (OJ1).tr oJ3
    have QJ3 := clsOK.offS hQ hcs OJ3
    refine v_goto dX5_useLocal_77 ?_
    refine v_vret rfl (by decide) (by decide) dX5_useLocal_164 ⟨rfl, ?_⟩
    exact ⟨sJ3, OJ3⟩
  · rw [show xUL Q σ 4 a = xLay (xChk σ (lngAt σ.2.2.1 (a : Int)) 4) 2 by unfold xUL; rw [if_neg (by decide), if_neg (by decide), if_pos rfl]]
    refine w_Ct.of (ls := [some (.ref s), some (iv 4), some (iv (a : Int)), none]) (by decide +kernel) (Nat.le_of_ble_eq_true rfl) rfl rfl (fun rng => ?_)
    refine v_iload_n dX5_useLocal_0 rfl ?_
    refine v_tswIn (off := 79) (tgt := 80) dX5_useLocal_1 ⟨by decide, by decide⟩ (by decide) (by decide) (by decide) (by decide) ?_
    refine v_aload_n dX5_useLocal_80 rfl ?_
    refine v_aload_n dX5_useLocal_81 rfl ?_
    refine v_getR fX5_12 rfl (by assumption) (by assumption) dX5_useLocal_82 ?_
    refine v_iload_n dX5_useLocal_85 rfl ?_
    refine v_Vb (tX2_hasLongAt hF hσ.2.1 ⟨by omega, by omega⟩ (by omega)) kX5_80 hF.1 rfl rfl ⟨by decide, by decide⟩ ⟨by decide, by decide⟩ (Nat.le_of_ble_eq_true rfl) dX5_useLocal_86 (fun h1 => ?_) (fun h1 => ?_)
    · refine v_Vv (tX5_expectInLocal_1 hS0 hcs hQ hσ (Or.inl ⟨rfl, rfl⟩)) kX5_66 (by assumption) rfl rfl ⟨by decide, by decide⟩ ⟨by decide, by decide⟩ (Nat.le_of_ble_eq_true rfl) dX5_useLocal_89 (fun G9 J2 pJ2 rng3 => ?_)
      obtain ⟨rfl, sJ2, oJ2⟩ := pJ2
      have OJ2 := (offS.rf).tr oJ2
      have QJ2 := clsOK.offS hQ hcs OJ2
      refine v_aload_n dX5_useLocal_92 rfl ?_
      refine v_iconst dX5_useLocal_93 ?_
      refine v_Vv (tX5_lay hS0 hcs QJ2 sJ2 ⟨by decide, by decide⟩) kX5_70 (by assumption) rfl rfl ⟨by decide, by decide⟩ ⟨by decide, by decide⟩ (Nat.le_of_ble_eq_true rfl) dX5_useLocal_94 (fun G9 J4 pJ4 rng5 => ?_)
      obtain ⟨rfl, sJ4, oJ4⟩ := pJ4
      have OJ4 := (OJ2).tr oJ4
      have QJ4 := clsOK.offS hQ hcs OJ4
      refine v_goto dX5_useLocal_97 ?_
      refine v_vret rfl (by decide) (by decide) dX5_useLocal_164 ⟨rfl, ?_⟩
      rw [show xChk _ _ _ = _ from if_pos h1]
      exact ⟨sJ4, OJ4⟩
    · refine v_Vv (tX5_expectInLocal_1 hS0 hcs hQ hσ (Or.inr ⟨rfl, rfl⟩)) kX5_66 (by assumption) rfl rfl ⟨by decide, by decide⟩ ⟨by decide, by decide⟩ (Nat.le_of_ble_eq_true rfl) dX5_useLocal_89 (fun G9 J6 pJ6 rng7 => ?_)
      obtain ⟨rfl, sJ6, oJ6⟩ := pJ6
      have OJ6 := (offS.rf).tr oJ6
      have QJ6 := clsOK.offS hQ hcs OJ6
      refine v_aload_n dX5_useLocal_92 rfl ?_
      refine v_iconst dX5_useLocal_93 ?_
      refine v_Vv (tX5_lay hS0 hcs QJ6 sJ6 ⟨by decide, by decide⟩) kX5_70 (by assumption) rfl rfl ⟨by decide, by decide⟩ ⟨by decide, by decide⟩ (Nat.le_of_ble_eq_true rfl) dX5_useLocal_94 (fun G9 J8 pJ8 rng9 => ?_)
      obtain ⟨rfl, sJ8, oJ8⟩ := pJ8
      have OJ8 := (OJ6).tr oJ8
      have QJ8 := clsOK.offS hQ hcs OJ8
      refine v_goto dX5_useLocal_97 ?_
      refine v_vret rfl (by decide) (by decide) dX5_useLocal_164 ⟨rfl, ?_⟩
      rw [show xChk _ _ _ = _ from if_neg h1]
      exact ⟨sJ8, OJ8⟩
  · rw [show xUL Q σ 5 a = xPutL (xTake Q σ 2) a by unfold xUL; rw [if_neg (by decide), if_neg (by decide), if_neg (by decide), if_pos rfl]]
    refine w_Ct.of (ls := [some (.ref s), some (iv 5), some (iv (a : Int)), none]) (by decide +kernel) (Nat.le_of_ble_eq_true rfl) rfl rfl (fun rng => ?_)
    refine v_iload_n dX5_useLocal_0 rfl ?_
    refine v_tswIn (off := 99) (tgt := 100) dX5_useLocal_1 ⟨by decide, by decide⟩ (by decide) (by decide) (by decide) (by decide) ?_
    refine v_aload_n dX5_useLocal_100 rfl ?_
    refine v_iconst dX5_useLocal_101 ?_
    refine v_Vv (tX5_take hS0 hcs hQ hσ ⟨by decide, by decide⟩) kX5_74 (by assumption) rfl rfl ⟨by decide, by decide⟩ ⟨by decide, by decide⟩ (Nat.le_of_ble_eq_true rfl) dX5_useLocal_102 (fun G9 J1 pJ1 rng2 => ?_)
    obtain ⟨rfl, sJ1, oJ1⟩ := pJ1
    have OJ1 := (offS.rf).tr oJ1
    have QJ1 := clsOK.offS hQ hcs OJ1
    refine v_aload_n dX5_useLocal_105 rfl ?_
    refine v_iload_n dX5_useLocal_106 rfl ?_
    refine v_Vv (tX5_putLong hS0 hcs QJ1 sJ1 (i := a) (by omega)) kX5_84 (by assumption) rfl rfl ⟨by decide, by decide⟩ ⟨by decide, by decide⟩ (Nat.le_of_ble_eq_true rfl) dX5_useLocal_107 (fun G9 J3 pJ3 rng4 => ?_)
    obtain ⟨rfl, sJ3, oJ3⟩ := pJ3
    have OJ3 := (OJ1).tr oJ3
    have QJ3 := clsOK.offS hQ hcs OJ3
    refine v_goto dX5_useLocal_110 ?_
    refine v_vret rfl (by decide) (by decide) dX5_useLocal_164 ⟨rfl, ?_⟩
    exact ⟨sJ3, OJ3⟩
  · rw [show xUL Q σ 6 a = xLay (xChk σ (kHeld (σ.2.2.1 a)) 4) (σ.2.2.1 a) by unfold xUL; rw [if_neg (by decide), if_neg (by decide), if_neg (by decide), if_neg (by decide), if_pos rfl]]
    refine w_Ct.of (ls := [some (.ref s), some (iv 6), some (iv (a : Int)), none]) (by decide +kernel) (Nat.le_of_ble_eq_true rfl) rfl rfl (fun rng => ?_)
    refine v_iload_n dX5_useLocal_0 rfl ?_
    refine v_tswIn (off := 112) (tgt := 113) dX5_useLocal_1 ⟨by decide, by decide⟩ (by decide) (by decide) (by decide) (by decide) ?_
    refine v_aload_n dX5_useLocal_113 rfl ?_
    refine v_aload_n dX5_useLocal_114 rfl ?_
    refine v_getR fX5_12 rfl (by assumption) (by assumption) dX5_useLocal_115 ?_
    refine v_getR fX5_63 rfl hF.1 hF.2.1 dX5_useLocal_118 ?_
    refine v_iload_n dX5_useLocal_121 rfl ?_
    refine v_iald' (i := a) (v := (σ).2.2.1 (a)) (hσ.2.1.2.1 (a) (by omega)) hF.2.2.2.1 rfl (by omega) (by omega) dX5_useLocal_122 ?_
    refine v_Sb (tX5_isReferenceOrUnmade (by rw [← hσ.2.1.2.1 (a) (by omega)]; exact rng _ _)) kX5_87 rfl rfl ⟨by decide, by decide⟩ ⟨by decide, by decide⟩ (Nat.le_of_ble_eq_true rfl) dX5_useLocal_123 (fun h1 => ?_) (fun h1 => ?_)
    · refine v_Vv (tX5_expectInLocal_1 hS0 hcs hQ hσ (Or.inl ⟨rfl, rfl⟩)) kX5_66 (by assumption) rfl rfl ⟨by decide, by decide⟩ ⟨by decide, by decide⟩ (Nat.le_of_ble_eq_true rfl) dX5_useLocal_126 (fun G9 J2 pJ2 rng3 => ?_)
      obtain ⟨rfl, sJ2, oJ2⟩ := pJ2
      have OJ2 := (offS.rf).tr oJ2
      have QJ2 := clsOK.offS hQ hcs OJ2
      refine v_aload_n dX5_useLocal_129 rfl ?_
      refine v_aload_n dX5_useLocal_130 rfl ?_
      refine v_getR fX5_12 rfl (by assumption) (by assumption) dX5_useLocal_131 ?_
      refine v_getR fX5_63 rfl hF.1 hF.2.1 dX5_useLocal_134 ?_
      refine v_iload_n dX5_useLocal_137 rfl ?_
      refine v_iald' (i := a) (v := (σ).2.2.1 (a)) (sJ2.2.1.2.1 (a) (by omega)) hF.2.2.2.1 rfl (by omega) (by omega) dX5_useLocal_138 ?_
      refine v_Vv (tX5_lay hS0 hcs QJ2 sJ2 (by rw [← sJ2.2.1.2.1 (a) (by omega)]; exact rng3 _ _)) kX5_70 (by assumption) rfl rfl ⟨by decide, by decide⟩ ⟨by decide, by decide⟩ (Nat.le_of_ble_eq_true rfl) dX5_useLocal_139 (fun G9 J4 pJ4 rng5 => ?_)
      obtain ⟨rfl, sJ4, oJ4⟩ := pJ4
      have OJ4 := (OJ2).tr oJ4
      have QJ4 := clsOK.offS hQ hcs OJ4
      refine v_goto dX5_useLocal_142 ?_
      refine v_vret rfl (by decide) (by decide) dX5_useLocal_164 ⟨rfl, ?_⟩
      rw [show xChk _ _ _ = _ from if_pos h1]
      exact ⟨sJ4, OJ4⟩
    · refine v_Vv (tX5_expectInLocal_1 hS0 hcs hQ hσ (Or.inr ⟨rfl, rfl⟩)) kX5_66 (by assumption) rfl rfl ⟨by decide, by decide⟩ ⟨by decide, by decide⟩ (Nat.le_of_ble_eq_true rfl) dX5_useLocal_126 (fun G9 J6 pJ6 rng7 => ?_)
      obtain ⟨rfl, sJ6, oJ6⟩ := pJ6
      have OJ6 := (offS.rf).tr oJ6
      have QJ6 := clsOK.offS hQ hcs OJ6
      refine v_aload_n dX5_useLocal_129 rfl ?_
      refine v_aload_n dX5_useLocal_130 rfl ?_
      refine v_getR fX5_12 rfl (by assumption) (by assumption) dX5_useLocal_131 ?_
      refine v_getR fX5_63 rfl hF.1 hF.2.1 dX5_useLocal_134 ?_
      refine v_iload_n dX5_useLocal_137 rfl ?_
      refine v_iald' (i := a) (v := (xBrk (σ) 4).2.2.1 (a)) (sJ6.2.1.2.1 (a) (by omega)) hF.2.2.2.1 rfl (by omega) (by omega) dX5_useLocal_138 ?_
      refine v_Vv (tX5_lay hS0 hcs QJ6 sJ6 (by rw [← sJ6.2.1.2.1 (a) (by omega)]; exact rng7 _ _)) kX5_70 (by assumption) rfl rfl ⟨by decide, by decide⟩ ⟨by decide, by decide⟩ (Nat.le_of_ble_eq_true rfl) dX5_useLocal_139 (fun G9 J8 pJ8 rng9 => ?_)
      obtain ⟨rfl, sJ8, oJ8⟩ := pJ8
      have OJ8 := (OJ6).tr oJ8
      have QJ8 := clsOK.offS hQ hcs OJ8
      refine v_goto dX5_useLocal_142 ?_
      refine v_vret rfl (by decide) (by decide) dX5_useLocal_164 ⟨rfl, ?_⟩
      rw [show xChk _ _ _ = _ from if_neg h1]
      exact ⟨sJ8, OJ8⟩
  · rw [show xUL Q σ 7 a = xPut (xChk (xTA σ).2 (kHeld (xTA σ).1) 3) a (xTA σ).1 by unfold xUL; rw [if_neg (by decide), if_neg (by decide), if_neg (by decide), if_neg (by decide), if_neg (by decide)]]
    refine w_Ct.of (ls := [some (.ref s), some (iv 7), some (iv (a : Int)), none]) (by decide +kernel) (Nat.le_of_ble_eq_true rfl) rfl rfl (fun rng => ?_)
    refine v_iload_n dX5_useLocal_0 rfl ?_
    refine v_tswOut (tgt := 145) dX5_useLocal_1 ⟨by decide, by decide⟩ (by decide) (by decide) ?_
    refine v_aload_n dX5_useLocal_145 rfl ?_
    refine v_Vi (tX5_takeAny hS0 hcs hQ hσ ) kX5_90 (by assumption) rfl rfl ⟨by decide, by decide⟩ ⟨by decide, by decide⟩ (Nat.le_of_ble_eq_true rfl) dX5_useLocal_146 (fun r3 G9 J1 hr3 pJ1 rng2 => ?_)
    obtain ⟨rfl, rfl, sJ1, oJ1⟩ := pJ1
    have OJ1 := (offS.rf).tr oJ1
    have QJ1 := clsOK.offS hQ hcs OJ1
    refine v_istore_n dX5_useLocal_149 (by decide) rfl ?_
    refine v_aload_n dX5_useLocal_150 rfl ?_
    refine v_iload_n dX5_useLocal_151 rfl ?_
    refine v_Sb (tX5_isReferenceOrUnmade hr3) kX5_87 rfl rfl ⟨by decide, by decide⟩ ⟨by decide, by decide⟩ (Nat.le_of_ble_eq_true rfl) dX5_useLocal_152 (fun h4 => ?_) (fun h4 => ?_)
    · refine v_Vv (tX5_expect_1 hS0 hcs QJ1 sJ1 (Or.inl ⟨rfl, rfl⟩)) kX5_94 (by assumption) rfl rfl ⟨by decide, by decide⟩ ⟨by decide, by decide⟩ (Nat.le_of_ble_eq_true rfl) dX5_useLocal_155 (fun G9 J5 pJ5 rng6 => ?_)
      obtain ⟨rfl, sJ5, oJ5⟩ := pJ5
      have OJ5 := (OJ1).tr oJ5
      have QJ5 := clsOK.offS hQ hcs OJ5
      refine v_aload_n dX5_useLocal_158 rfl ?_
      refine v_iload_n dX5_useLocal_159 rfl ?_
      refine v_iload_n dX5_useLocal_160 rfl ?_
      refine v_Vv (tX5_put hS0 hcs QJ5 sJ5 (i := a) (by omega) hr3) kX5_77 (by assumption) rfl rfl ⟨by decide, by decide⟩ ⟨by decide, by decide⟩ (Nat.le_of_ble_eq_true rfl) dX5_useLocal_161 (fun G9 J7 pJ7 rng8 => ?_)
      obtain ⟨rfl, sJ7, oJ7⟩ := pJ7
      have OJ7 := (OJ5).tr oJ7
      have QJ7 := clsOK.offS hQ hcs OJ7
      refine v_vret rfl (by decide) (by decide) dX5_useLocal_164 ⟨rfl, ?_⟩
      rw [show xChk _ _ _ = _ from if_pos h4]
      exact ⟨sJ7, OJ7⟩
    · refine v_Vv (tX5_expect_1 hS0 hcs QJ1 sJ1 (Or.inr ⟨rfl, rfl⟩)) kX5_94 (by assumption) rfl rfl ⟨by decide, by decide⟩ ⟨by decide, by decide⟩ (Nat.le_of_ble_eq_true rfl) dX5_useLocal_155 (fun G9 J9 pJ9 rng10 => ?_)
      obtain ⟨rfl, sJ9, oJ9⟩ := pJ9
      have OJ9 := (OJ1).tr oJ9
      have QJ9 := clsOK.offS hQ hcs OJ9
      refine v_aload_n dX5_useLocal_158 rfl ?_
      refine v_iload_n dX5_useLocal_159 rfl ?_
      refine v_iload_n dX5_useLocal_160 rfl ?_
      refine v_Vv (tX5_put hS0 hcs QJ9 sJ9 (i := a) (by omega) hr3) kX5_77 (by assumption) rfl rfl ⟨by decide, by decide⟩ ⟨by decide, by decide⟩ (Nat.le_of_ble_eq_true rfl) dX5_useLocal_161 (fun G9 J11 pJ11 rng12 => ?_)
      obtain ⟨rfl, sJ11, oJ11⟩ := pJ11
      have OJ11 := (OJ9).tr oJ11
      have QJ11 := clsOK.offS hQ hcs OJ11
      refine v_vret rfl (by decide) (by decide) dX5_useLocal_164 ⟨rfl, ?_⟩
      rw [show xChk _ _ _ = _ from if_neg h4]
      exact ⟨sJ11, OJ11⟩
theorem tX5_useValue {E : w_E} {G : w_Sh} {I : w_Mm} {s q c : Nat} {Q : cS} {σ : sS} (hS : isS G s q c) (hcs : c + 3 ≤ s) (hQ : clsOK I c Q) (hσ : stOK I s σ) {op res : Int} (hop : 0 ≤ op ∧ op ≤ 25) (hres : inR res) : w_Ct E mX5_useValue 3 [.ref s, iv op, iv res] G I 0 0 (w_Pv (fun G' J => G' = G ∧ stOK J s (xUV Q σ op res) ∧ offS I J s)) := by
  have hS0 := hS
  obtain ⟨hTs, hRs0, hRs1, hK, hF⟩ := hS
  have hcase : op = 0 ∨ op = 1 ∨ op = 2 ∨ op = 3 ∨ op = 4 ∨ op = 5 ∨ op = 6 ∨ op = 7 ∨ op = 8 ∨ op = 9 ∨ op = 10 ∨ op = 11 ∨ op = 12 ∨ op = 13 ∨ op = 14 ∨ op = 15 ∨ op = 16 ∨ op = 17 ∨ op = 18 ∨ op = 19 ∨ op = 20 ∨ op = 21 ∨ op = 22 ∨ op = 23 ∨ op = 24 ∨ op = 25 := by omega
  rcases hcase with rfl | rfl | rfl | rfl | rfl | rfl | rfl | rfl | rfl | rfl | rfl | rfl | rfl | rfl | rfl | rfl | rfl | rfl | rfl | rfl | rfl | rfl | rfl | rfl | rfl | rfl
  · rw [show xUV Q σ 0 res = xLay σ 1 by unfold xUV; rw [if_pos rfl]]
    refine w_Ct.of (ls := [some (.ref s), some (iv 0), some (iv res)]) (by decide +kernel) (Nat.le_of_ble_eq_true rfl) rfl rfl (fun rng => ?_)
    refine v_iload_n dX5_useValue_0 rfl ?_
    refine v_tswIn (off := 119) (tgt := 120) dX5_useValue_1 ⟨by decide, by decide⟩ (by decide) (by decide) (by decide) (by decide) ?_
    refine v_aload_n dX5_useValue_120 rfl ?_
    refine v_iconst dX5_useValue_121 ?_
    refine v_Vv (tX5_lay hS0 hcs hQ hσ ⟨by decide, by decide⟩) kX5_70 (by assumption) rfl rfl ⟨by decide, by decide⟩ ⟨by decide, by decide⟩ (Nat.le_of_ble_eq_true rfl) dX5_useValue_122 (fun G9 J1 pJ1 rng2 => ?_)
    obtain ⟨rfl, sJ1, oJ1⟩ := pJ1
    have OJ1 := (offS.rf).tr oJ1
    have QJ1 := clsOK.offS hQ hcs OJ1
    refine v_goto dX5_useValue_125 ?_
    refine v_vret rfl (by decide) (by decide) dX5_useValue_245 ⟨rfl, ?_⟩
    exact ⟨sJ1, OJ1⟩
  · rw [show xUV Q σ 1 res = xLay σ 2 by unfold xUV; rw [if_neg (by decide), if_pos rfl]]
    refine w_Ct.of (ls := [some (.ref s), some (iv 1), some (iv res)]) (by decide +kernel) (Nat.le_of_ble_eq_true rfl) rfl rfl (fun rng => ?_)
    refine v_iload_n dX5_useValue_0 rfl ?_
    refine v_tswIn (off := 127) (tgt := 128) dX5_useValue_1 ⟨by decide, by decide⟩ (by decide) (by decide) (by decide) (by decide) ?_
    refine v_aload_n dX5_useValue_128 rfl ?_
    refine v_iconst dX5_useValue_129 ?_
    refine v_Vv (tX5_lay hS0 hcs hQ hσ ⟨by decide, by decide⟩) kX5_70 (by assumption) rfl rfl ⟨by decide, by decide⟩ ⟨by decide, by decide⟩ (Nat.le_of_ble_eq_true rfl) dX5_useValue_130 (fun G9 J1 pJ1 rng2 => ?_)
    obtain ⟨rfl, sJ1, oJ1⟩ := pJ1
    have OJ1 := (offS.rf).tr oJ1
    have QJ1 := clsOK.offS hQ hcs OJ1
    refine v_goto dX5_useValue_133 ?_
    refine v_vret rfl (by decide) (by decide) dX5_useValue_245 ⟨rfl, ?_⟩
    exact ⟨sJ1, OJ1⟩
  · rw [show xUV Q σ 2 res = σ by unfold xUV; rw [if_neg (by decide), if_neg (by decide), if_neg (by decide), if_neg (by decide), if_neg (by decide), if_neg (by decide), if_neg (by decide), if_neg (by decide), if_neg (by decide), if_neg (by decide), if_neg (by decide)]]
    refine w_Ct.of (ls := [some (.ref s), some (iv 2), some (iv res)]) (by decide +kernel) (Nat.le_of_ble_eq_true rfl) rfl rfl (fun rng => ?_)
    refine v_iload_n dX5_useValue_0 rfl ?_
    refine v_tswIn (off := 244) (tgt := 245) dX5_useValue_1 ⟨by decide, by decide⟩ (by decide) (by decide) (by decide) (by decide) ?_
    refine v_vret rfl (by decide) (by decide) dX5_useValue_245 ⟨rfl, ?_⟩
    exact ⟨hσ, offS.rf⟩
  · rw [show xUV Q σ 3 res = σ by unfold xUV; rw [if_neg (by decide), if_neg (by decide), if_neg (by decide), if_neg (by decide), if_neg (by decide), if_neg (by decide), if_neg (by decide), if_neg (by decide), if_neg (by decide), if_neg (by decide), if_neg (by decide)]]
    refine w_Ct.of (ls := [some (.ref s), some (iv 3), some (iv res)]) (by decide +kernel) (Nat.le_of_ble_eq_true rfl) rfl rfl (fun rng => ?_)
    refine v_iload_n dX5_useValue_0 rfl ?_
    refine v_tswIn (off := 244) (tgt := 245) dX5_useValue_1 ⟨by decide, by decide⟩ (by decide) (by decide) (by decide) (by decide) ?_
    refine v_vret rfl (by decide) (by decide) dX5_useValue_245 ⟨rfl, ?_⟩
    exact ⟨hσ, offS.rf⟩
  · rw [show xUV Q σ 4 res = σ by unfold xUV; rw [if_neg (by decide), if_neg (by decide), if_neg (by decide), if_neg (by decide), if_neg (by decide), if_neg (by decide), if_neg (by decide), if_neg (by decide), if_neg (by decide), if_neg (by decide), if_neg (by decide)]]
    refine w_Ct.of (ls := [some (.ref s), some (iv 4), some (iv res)]) (by decide +kernel) (Nat.le_of_ble_eq_true rfl) rfl rfl (fun rng => ?_)
    refine v_iload_n dX5_useValue_0 rfl ?_
    refine v_tswIn (off := 244) (tgt := 245) dX5_useValue_1 ⟨by decide, by decide⟩ (by decide) (by decide) (by decide) (by decide) ?_
    refine v_vret rfl (by decide) (by decide) dX5_useValue_245 ⟨rfl, ?_⟩
    exact ⟨hσ, offS.rf⟩
  · rw [show xUV Q σ 5 res = σ by unfold xUV; rw [if_neg (by decide), if_neg (by decide), if_neg (by decide), if_neg (by decide), if_neg (by decide), if_neg (by decide), if_neg (by decide), if_neg (by decide), if_neg (by decide), if_neg (by decide), if_neg (by decide)]]
    refine w_Ct.of (ls := [some (.ref s), some (iv 5), some (iv res)]) (by decide +kernel) (Nat.le_of_ble_eq_true rfl) rfl rfl (fun rng => ?_)
    refine v_iload_n dX5_useValue_0 rfl ?_
    refine v_tswIn (off := 244) (tgt := 245) dX5_useValue_1 ⟨by decide, by decide⟩ (by decide) (by decide) (by decide) (by decide) ?_
    refine v_vret rfl (by decide) (by decide) dX5_useValue_245 ⟨rfl, ?_⟩
    exact ⟨hσ, offS.rf⟩
  · rw [show xUV Q σ 6 res = σ by unfold xUV; rw [if_neg (by decide), if_neg (by decide), if_neg (by decide), if_neg (by decide), if_neg (by decide), if_neg (by decide), if_neg (by decide), if_neg (by decide), if_neg (by decide), if_neg (by decide), if_neg (by decide)]]
    refine w_Ct.of (ls := [some (.ref s), some (iv 6), some (iv res)]) (by decide +kernel) (Nat.le_of_ble_eq_true rfl) rfl rfl (fun rng => ?_)
    refine v_iload_n dX5_useValue_0 rfl ?_
    refine v_tswIn (off := 244) (tgt := 245) dX5_useValue_1 ⟨by decide, by decide⟩ (by decide) (by decide) (by decide) (by decide) ?_
    refine v_vret rfl (by decide) (by decide) dX5_useValue_245 ⟨rfl, ?_⟩
    exact ⟨hσ, offS.rf⟩
  · rw [show xUV Q σ 7 res = σ by unfold xUV; rw [if_neg (by decide), if_neg (by decide), if_neg (by decide), if_neg (by decide), if_neg (by decide), if_neg (by decide), if_neg (by decide), if_neg (by decide), if_neg (by decide), if_neg (by decide), if_neg (by decide)]]
    refine w_Ct.of (ls := [some (.ref s), some (iv 7), some (iv res)]) (by decide +kernel) (Nat.le_of_ble_eq_true rfl) rfl rfl (fun rng => ?_)
    refine v_iload_n dX5_useValue_0 rfl ?_
    refine v_tswIn (off := 244) (tgt := 245) dX5_useValue_1 ⟨by decide, by decide⟩ (by decide) (by decide) (by decide) (by decide) ?_
    refine v_vret rfl (by decide) (by decide) dX5_useValue_245 ⟨rfl, ?_⟩
    exact ⟨hσ, offS.rf⟩
  · rw [show xUV Q σ 8 res = xLay (xTake Q (xTake Q σ 1) 1) 1 by unfold xUV; rw [if_neg (by decide), if_neg (by decide), if_pos rfl]]
    refine w_Ct.of (ls := [some (.ref s), some (iv 8), some (iv res)]) (by decide +kernel) (Nat.le_of_ble_eq_true rfl) rfl rfl (fun rng => ?_)
    refine v_iload_n dX5_useValue_0 rfl ?_
    refine v_tswIn (off := 135) (tgt := 136) dX5_useValue_1 ⟨by decide, by decide⟩ (by decide) (by decide) (by decide) (by decide) ?_
    refine v_aload_n dX5_useValue_136 rfl ?_
    refine v_iconst dX5_useValue_137 ?_
    refine v_Vv (tX5_take hS0 hcs hQ hσ ⟨by decide, by decide⟩) kX5_74 (by assumption) rfl rfl ⟨by decide, by decide⟩ ⟨by decide, by decide⟩ (Nat.le_of_ble_eq_true rfl) dX5_useValue_138 (fun G9 J1 pJ1 rng2 => ?_)
    obtain ⟨rfl, sJ1, oJ1⟩ := pJ1
    have OJ1 := (offS.rf).tr oJ1
    have QJ1 := clsOK.offS hQ hcs OJ1
    refine v_aload_n dX5_useValue_141 rfl ?_
    refine v_iconst dX5_useValue_142 ?_
    refine v_Vv (tX5_take hS0 hcs QJ1 sJ1 ⟨by decide, by decide⟩) kX5_74 (by assumption) rfl rfl ⟨by decide, by decide⟩ ⟨by decide, by decide⟩ (Nat.le_of_ble_eq_true rfl) dX5_useValue_143 (fun G9 J3 pJ3 rng4 => ?_)
    obtain ⟨rfl, sJ3, oJ3⟩ := pJ3
    have OJ3 := (OJ1).tr oJ3
    have QJ3 := clsOK.offS hQ hcs OJ3
    refine v_aload_n dX5_useValue_146 rfl ?_
    refine v_iconst dX5_useValue_147 ?_
    refine v_Vv (tX5_lay hS0 hcs QJ3 sJ3 ⟨by decide, by decide⟩) kX5_70 (by assumption) rfl rfl ⟨by decide, by decide⟩ ⟨by decide, by decide⟩ (Nat.le_of_ble_eq_true rfl) dX5_useValue_148 (fun G9 J5 pJ5 rng6 => ?_)
    obtain ⟨rfl, sJ5, oJ5⟩ := pJ5
    have OJ5 := (OJ3).tr oJ5
    have QJ5 := clsOK.offS hQ hcs OJ5
    refine v_goto dX5_useValue_151 ?_
    refine v_vret rfl (by decide) (by decide) dX5_useValue_245 ⟨rfl, ?_⟩
    exact ⟨sJ5, OJ5⟩
  · rw [show xUV Q σ 9 res = xLay (xTake Q (xTake Q σ 2) 2) 2 by unfold xUV; rw [if_neg (by decide), if_neg (by decide), if_neg (by decide), if_pos rfl]]
    refine w_Ct.of (ls := [some (.ref s), some (iv 9), some (iv res)]) (by decide +kernel) (Nat.le_of_ble_eq_true rfl) rfl rfl (fun rng => ?_)
    refine v_iload_n dX5_useValue_0 rfl ?_
    refine v_tswIn (off := 153) (tgt := 154) dX5_useValue_1 ⟨by decide, by decide⟩ (by decide) (by decide) (by decide) (by decide) ?_
    refine v_aload_n dX5_useValue_154 rfl ?_
    refine v_iconst dX5_useValue_155 ?_
    refine v_Vv (tX5_take hS0 hcs hQ hσ ⟨by decide, by decide⟩) kX5_74 (by assumption) rfl rfl ⟨by decide, by decide⟩ ⟨by decide, by decide⟩ (Nat.le_of_ble_eq_true rfl) dX5_useValue_156 (fun G9 J1 pJ1 rng2 => ?_)
    obtain ⟨rfl, sJ1, oJ1⟩ := pJ1
    have OJ1 := (offS.rf).tr oJ1
    have QJ1 := clsOK.offS hQ hcs OJ1
    refine v_aload_n dX5_useValue_159 rfl ?_
    refine v_iconst dX5_useValue_160 ?_
    refine v_Vv (tX5_take hS0 hcs QJ1 sJ1 ⟨by decide, by decide⟩) kX5_74 (by assumption) rfl rfl ⟨by decide, by decide⟩ ⟨by decide, by decide⟩ (Nat.le_of_ble_eq_true rfl) dX5_useValue_161 (fun G9 J3 pJ3 rng4 => ?_)
    obtain ⟨rfl, sJ3, oJ3⟩ := pJ3
    have OJ3 := (OJ1).tr oJ3
    have QJ3 := clsOK.offS hQ hcs OJ3
    refine v_aload_n dX5_useValue_164 rfl ?_
    refine v_iconst dX5_useValue_165 ?_
    refine v_Vv (tX5_lay hS0 hcs QJ3 sJ3 ⟨by decide, by decide⟩) kX5_70 (by assumption) rfl rfl ⟨by decide, by decide⟩ ⟨by decide, by decide⟩ (Nat.le_of_ble_eq_true rfl) dX5_useValue_166 (fun G9 J5 pJ5 rng6 => ?_)
    obtain ⟨rfl, sJ5, oJ5⟩ := pJ5
    have OJ5 := (OJ3).tr oJ5
    have QJ5 := clsOK.offS hQ hcs OJ5
    refine v_goto dX5_useValue_169 ?_
    refine v_vret rfl (by decide) (by decide) dX5_useValue_245 ⟨rfl, ?_⟩
    exact ⟨sJ5, OJ5⟩
  · rw [show xUV Q σ 10 res = xLay (xTake Q σ 1) 2 by unfold xUV; rw [if_neg (by decide), if_neg (by decide), if_neg (by decide), if_neg (by decide), if_pos rfl]]
    refine w_Ct.of (ls := [some (.ref s), some (iv 10), some (iv res)]) (by decide +kernel) (Nat.le_of_ble_eq_true rfl) rfl rfl (fun rng => ?_)
    refine v_iload_n dX5_useValue_0 rfl ?_
    refine v_tswIn (off := 171) (tgt := 172) dX5_useValue_1 ⟨by decide, by decide⟩ (by decide) (by decide) (by decide) (by decide) ?_
    refine v_aload_n dX5_useValue_172 rfl ?_
    refine v_iconst dX5_useValue_173 ?_
    refine v_Vv (tX5_take hS0 hcs hQ hσ ⟨by decide, by decide⟩) kX5_74 (by assumption) rfl rfl ⟨by decide, by decide⟩ ⟨by decide, by decide⟩ (Nat.le_of_ble_eq_true rfl) dX5_useValue_174 (fun G9 J1 pJ1 rng2 => ?_)
    obtain ⟨rfl, sJ1, oJ1⟩ := pJ1
    have OJ1 := (offS.rf).tr oJ1
    have QJ1 := clsOK.offS hQ hcs OJ1
    refine v_aload_n dX5_useValue_177 rfl ?_
    refine v_iconst dX5_useValue_178 ?_
    refine v_Vv (tX5_lay hS0 hcs QJ1 sJ1 ⟨by decide, by decide⟩) kX5_70 (by assumption) rfl rfl ⟨by decide, by decide⟩ ⟨by decide, by decide⟩ (Nat.le_of_ble_eq_true rfl) dX5_useValue_179 (fun G9 J3 pJ3 rng4 => ?_)
    obtain ⟨rfl, sJ3, oJ3⟩ := pJ3
    have OJ3 := (OJ1).tr oJ3
    have QJ3 := clsOK.offS hQ hcs OJ3
    refine v_goto dX5_useValue_182 ?_
    refine v_vret rfl (by decide) (by decide) dX5_useValue_245 ⟨rfl, ?_⟩
    exact ⟨sJ3, OJ3⟩
  · rw [show xUV Q σ 11 res = xTake Q σ 1 by unfold xUV; rw [if_neg (by decide), if_neg (by decide), if_neg (by decide), if_neg (by decide), if_neg (by decide), if_pos rfl]]
    refine w_Ct.of (ls := [some (.ref s), some (iv 11), some (iv res)]) (by decide +kernel) (Nat.le_of_ble_eq_true rfl) rfl rfl (fun rng => ?_)
    refine v_iload_n dX5_useValue_0 rfl ?_
    refine v_tswIn (off := 184) (tgt := 185) dX5_useValue_1 ⟨by decide, by decide⟩ (by decide) (by decide) (by decide) (by decide) ?_
    refine v_aload_n dX5_useValue_185 rfl ?_
    refine v_iconst dX5_useValue_186 ?_
    refine v_Vv (tX5_take hS0 hcs hQ hσ ⟨by decide, by decide⟩) kX5_74 (by assumption) rfl rfl ⟨by decide, by decide⟩ ⟨by decide, by decide⟩ (Nat.le_of_ble_eq_true rfl) dX5_useValue_187 (fun G9 J1 pJ1 rng2 => ?_)
    obtain ⟨rfl, sJ1, oJ1⟩ := pJ1
    have OJ1 := (offS.rf).tr oJ1
    have QJ1 := clsOK.offS hQ hcs OJ1
    refine v_goto dX5_useValue_190 ?_
    refine v_vret rfl (by decide) (by decide) dX5_useValue_245 ⟨rfl, ?_⟩
    exact ⟨sJ1, OJ1⟩
  · rw [show xUV Q σ 12 res = σ by unfold xUV; rw [if_neg (by decide), if_neg (by decide), if_neg (by decide), if_neg (by decide), if_neg (by decide), if_neg (by decide), if_neg (by decide), if_neg (by decide), if_neg (by decide), if_neg (by decide), if_neg (by decide)]]
    refine w_Ct.of (ls := [some (.ref s), some (iv 12), some (iv res)]) (by decide +kernel) (Nat.le_of_ble_eq_true rfl) rfl rfl (fun rng => ?_)
    refine v_iload_n dX5_useValue_0 rfl ?_
    refine v_tswIn (off := 244) (tgt := 245) dX5_useValue_1 ⟨by decide, by decide⟩ (by decide) (by decide) (by decide) (by decide) ?_
    refine v_vret rfl (by decide) (by decide) dX5_useValue_245 ⟨rfl, ?_⟩
    exact ⟨hσ, offS.rf⟩
  · rw [show xUV Q σ 13 res = σ by unfold xUV; rw [if_neg (by decide), if_neg (by decide), if_neg (by decide), if_neg (by decide), if_neg (by decide), if_neg (by decide), if_neg (by decide), if_neg (by decide), if_neg (by decide), if_neg (by decide), if_neg (by decide)]]
    refine w_Ct.of (ls := [some (.ref s), some (iv 13), some (iv res)]) (by decide +kernel) (Nat.le_of_ble_eq_true rfl) rfl rfl (fun rng => ?_)
    refine v_iload_n dX5_useValue_0 rfl ?_
    refine v_tswIn (off := 244) (tgt := 245) dX5_useValue_1 ⟨by decide, by decide⟩ (by decide) (by decide) (by decide) (by decide) ?_
    refine v_vret rfl (by decide) (by decide) dX5_useValue_245 ⟨rfl, ?_⟩
    exact ⟨hσ, offS.rf⟩
  · rw [show xUV Q σ 14 res = xLayTop σ by unfold xUV; rw [if_neg (by decide), if_neg (by decide), if_neg (by decide), if_neg (by decide), if_neg (by decide), if_neg (by decide), if_pos rfl]]
    refine w_Ct.of (ls := [some (.ref s), some (iv 14), some (iv res)]) (by decide +kernel) (Nat.le_of_ble_eq_true rfl) rfl rfl (fun rng => ?_)
    refine v_iload_n dX5_useValue_0 rfl ?_
    refine v_tswIn (off := 192) (tgt := 193) dX5_useValue_1 ⟨by decide, by decide⟩ (by decide) (by decide) (by decide) (by decide) ?_
    refine v_aload_n dX5_useValue_193 rfl ?_
    refine v_Vv (tX5_layTop hS0 hcs hQ hσ ) kX5_97 (by assumption) rfl rfl ⟨by decide, by decide⟩ ⟨by decide, by decide⟩ (Nat.le_of_ble_eq_true rfl) dX5_useValue_194 (fun G9 J1 pJ1 rng2 => ?_)
    obtain ⟨rfl, sJ1, oJ1⟩ := pJ1
    have OJ1 := (offS.rf).tr oJ1
    have QJ1 := clsOK.offS hQ hcs OJ1
    refine v_goto dX5_useValue_197 ?_
    refine v_vret rfl (by decide) (by decide) dX5_useValue_245 ⟨rfl, ?_⟩
    exact ⟨sJ1, OJ1⟩
  · rw [show xUV Q σ 15 res = σ by unfold xUV; rw [if_neg (by decide), if_neg (by decide), if_neg (by decide), if_neg (by decide), if_neg (by decide), if_neg (by decide), if_neg (by decide), if_neg (by decide), if_neg (by decide), if_neg (by decide), if_neg (by decide)]]
    refine w_Ct.of (ls := [some (.ref s), some (iv 15), some (iv res)]) (by decide +kernel) (Nat.le_of_ble_eq_true rfl) rfl rfl (fun rng => ?_)
    refine v_iload_n dX5_useValue_0 rfl ?_
    refine v_tswIn (off := 244) (tgt := 245) dX5_useValue_1 ⟨by decide, by decide⟩ (by decide) (by decide) (by decide) (by decide) ?_
    refine v_vret rfl (by decide) (by decide) dX5_useValue_245 ⟨rfl, ?_⟩
    exact ⟨hσ, offS.rf⟩
  · rw [show xUV Q σ 16 res = σ by unfold xUV; rw [if_neg (by decide), if_neg (by decide), if_neg (by decide), if_neg (by decide), if_neg (by decide), if_neg (by decide), if_neg (by decide), if_neg (by decide), if_neg (by decide), if_neg (by decide), if_neg (by decide)]]
    refine w_Ct.of (ls := [some (.ref s), some (iv 16), some (iv res)]) (by decide +kernel) (Nat.le_of_ble_eq_true rfl) rfl rfl (fun rng => ?_)
    refine v_iload_n dX5_useValue_0 rfl ?_
    refine v_tswIn (off := 244) (tgt := 245) dX5_useValue_1 ⟨by decide, by decide⟩ (by decide) (by decide) (by decide) (by decide) ?_
    refine v_vret rfl (by decide) (by decide) dX5_useValue_245 ⟨rfl, ?_⟩
    exact ⟨hσ, offS.rf⟩
  · rw [show xUV Q σ 17 res = σ by unfold xUV; rw [if_neg (by decide), if_neg (by decide), if_neg (by decide), if_neg (by decide), if_neg (by decide), if_neg (by decide), if_neg (by decide), if_neg (by decide), if_neg (by decide), if_neg (by decide), if_neg (by decide)]]
    refine w_Ct.of (ls := [some (.ref s), some (iv 17), some (iv res)]) (by decide +kernel) (Nat.le_of_ble_eq_true rfl) rfl rfl (fun rng => ?_)
    refine v_iload_n dX5_useValue_0 rfl ?_
    refine v_tswIn (off := 244) (tgt := 245) dX5_useValue_1 ⟨by decide, by decide⟩ (by decide) (by decide) (by decide) (by decide) ?_
    refine v_vret rfl (by decide) (by decide) dX5_useValue_245 ⟨rfl, ?_⟩
    exact ⟨hσ, offS.rf⟩
  · rw [show xUV Q σ 18 res = σ by unfold xUV; rw [if_neg (by decide), if_neg (by decide), if_neg (by decide), if_neg (by decide), if_neg (by decide), if_neg (by decide), if_neg (by decide), if_neg (by decide), if_neg (by decide), if_neg (by decide), if_neg (by decide)]]
    refine w_Ct.of (ls := [some (.ref s), some (iv 18), some (iv res)]) (by decide +kernel) (Nat.le_of_ble_eq_true rfl) rfl rfl (fun rng => ?_)
    refine v_iload_n dX5_useValue_0 rfl ?_
    refine v_tswIn (off := 244) (tgt := 245) dX5_useValue_1 ⟨by decide, by decide⟩ (by decide) (by decide) (by decide) (by decide) ?_
    refine v_vret rfl (by decide) (by decide) dX5_useValue_245 ⟨rfl, ?_⟩
    exact ⟨hσ, offS.rf⟩
  · rw [show xUV Q σ 19 res = σ by unfold xUV; rw [if_neg (by decide), if_neg (by decide), if_neg (by decide), if_neg (by decide), if_neg (by decide), if_neg (by decide), if_neg (by decide), if_neg (by decide), if_neg (by decide), if_neg (by decide), if_neg (by decide)]]
    refine w_Ct.of (ls := [some (.ref s), some (iv 19), some (iv res)]) (by decide +kernel) (Nat.le_of_ble_eq_true rfl) rfl rfl (fun rng => ?_)
    refine v_iload_n dX5_useValue_0 rfl ?_
    refine v_tswIn (off := 244) (tgt := 245) dX5_useValue_1 ⟨by decide, by decide⟩ (by decide) (by decide) (by decide) (by decide) ?_
    refine v_vret rfl (by decide) (by decide) dX5_useValue_245 ⟨rfl, ?_⟩
    exact ⟨hσ, offS.rf⟩
  · rw [show xUV Q σ 20 res = σ by unfold xUV; rw [if_neg (by decide), if_neg (by decide), if_neg (by decide), if_neg (by decide), if_neg (by decide), if_neg (by decide), if_neg (by decide), if_neg (by decide), if_neg (by decide), if_neg (by decide), if_neg (by decide)]]
    refine w_Ct.of (ls := [some (.ref s), some (iv 20), some (iv res)]) (by decide +kernel) (Nat.le_of_ble_eq_true rfl) rfl rfl (fun rng => ?_)
    refine v_iload_n dX5_useValue_0 rfl ?_
    refine v_tswIn (off := 244) (tgt := 245) dX5_useValue_1 ⟨by decide, by decide⟩ (by decide) (by decide) (by decide) (by decide) ?_
    refine v_vret rfl (by decide) (by decide) dX5_useValue_245 ⟨rfl, ?_⟩
    exact ⟨hσ, offS.rf⟩
  · rw [show xUV Q σ 21 res = σ by unfold xUV; rw [if_neg (by decide), if_neg (by decide), if_neg (by decide), if_neg (by decide), if_neg (by decide), if_neg (by decide), if_neg (by decide), if_neg (by decide), if_neg (by decide), if_neg (by decide), if_neg (by decide)]]
    refine w_Ct.of (ls := [some (.ref s), some (iv 21), some (iv res)]) (by decide +kernel) (Nat.le_of_ble_eq_true rfl) rfl rfl (fun rng => ?_)
    refine v_iload_n dX5_useValue_0 rfl ?_
    refine v_tswIn (off := 244) (tgt := 245) dX5_useValue_1 ⟨by decide, by decide⟩ (by decide) (by decide) (by decide) (by decide) ?_
    refine v_vret rfl (by decide) (by decide) dX5_useValue_245 ⟨rfl, ?_⟩
    exact ⟨hσ, offS.rf⟩
  · rw [show xUV Q σ 22 res = xTake Q σ 11 by unfold xUV; rw [if_neg (by decide), if_neg (by decide), if_neg (by decide), if_neg (by decide), if_neg (by decide), if_neg (by decide), if_neg (by decide), if_pos rfl]]
    refine w_Ct.of (ls := [some (.ref s), some (iv 22), some (iv res)]) (by decide +kernel) (Nat.le_of_ble_eq_true rfl) rfl rfl (fun rng => ?_)
    refine v_iload_n dX5_useValue_0 rfl ?_
    refine v_tswIn (off := 199) (tgt := 200) dX5_useValue_1 ⟨by decide, by decide⟩ (by decide) (by decide) (by decide) (by decide) ?_
    refine v_aload_n dX5_useValue_200 rfl ?_
    refine v_bipush dX5_useValue_201 (by decide) ?_
    refine v_Vv (tX5_take hS0 hcs hQ hσ ⟨by decide, by decide⟩) kX5_74 (by assumption) rfl rfl ⟨by decide, by decide⟩ ⟨by decide, by decide⟩ (Nat.le_of_ble_eq_true rfl) dX5_useValue_203 (fun G9 J1 pJ1 rng2 => ?_)
    obtain ⟨rfl, sJ1, oJ1⟩ := pJ1
    have OJ1 := (offS.rf).tr oJ1
    have QJ1 := clsOK.offS hQ hcs OJ1
    refine v_goto dX5_useValue_206 ?_
    refine v_vret rfl (by decide) (by decide) dX5_useValue_245 ⟨rfl, ?_⟩
    exact ⟨sJ1, OJ1⟩
  · rw [show xUV Q σ 23 res = xTake Q σ res by unfold xUV; rw [if_neg (by decide), if_neg (by decide), if_neg (by decide), if_neg (by decide), if_neg (by decide), if_neg (by decide), if_neg (by decide), if_neg (by decide), if_pos rfl]]
    refine w_Ct.of (ls := [some (.ref s), some (iv 23), some (iv res)]) (by decide +kernel) (Nat.le_of_ble_eq_true rfl) rfl rfl (fun rng => ?_)
    refine v_iload_n dX5_useValue_0 rfl ?_
    refine v_tswIn (off := 208) (tgt := 209) dX5_useValue_1 ⟨by decide, by decide⟩ (by decide) (by decide) (by decide) (by decide) ?_
    refine v_aload_n dX5_useValue_209 rfl ?_
    refine v_iload_n dX5_useValue_210 rfl ?_
    refine v_Vv (tX5_take hS0 hcs hQ hσ hres) kX5_74 (by assumption) rfl rfl ⟨by decide, by decide⟩ ⟨by decide, by decide⟩ (Nat.le_of_ble_eq_true rfl) dX5_useValue_211 (fun G9 J1 pJ1 rng2 => ?_)
    obtain ⟨rfl, sJ1, oJ1⟩ := pJ1
    have OJ1 := (offS.rf).tr oJ1
    have QJ1 := clsOK.offS hQ hcs OJ1
    refine v_goto dX5_useValue_214 ?_
    refine v_vret rfl (by decide) (by decide) dX5_useValue_245 ⟨rfl, ?_⟩
    exact ⟨sJ1, OJ1⟩
  · rw [show xUV Q σ 24 res = xChk (xTA σ).2 (¬ (xTA σ).1 = 3) 3 by unfold xUV; rw [if_neg (by decide), if_neg (by decide), if_neg (by decide), if_neg (by decide), if_neg (by decide), if_neg (by decide), if_neg (by decide), if_neg (by decide), if_neg (by decide), if_pos rfl]]
    refine w_Ct.of (ls := [some (.ref s), some (iv 24), some (iv res)]) (by decide +kernel) (Nat.le_of_ble_eq_true rfl) rfl rfl (fun rng => ?_)
    refine v_iload_n dX5_useValue_0 rfl ?_
    refine v_tswIn (off := 216) (tgt := 217) dX5_useValue_1 ⟨by decide, by decide⟩ (by decide) (by decide) (by decide) (by decide) ?_
    refine v_aload_n dX5_useValue_217 rfl ?_
    refine v_aload_n dX5_useValue_218 rfl ?_
    refine v_Vi (tX5_takeAny hS0 hcs hQ hσ ) kX5_90 (by assumption) rfl rfl ⟨by decide, by decide⟩ ⟨by decide, by decide⟩ (Nat.le_of_ble_eq_true rfl) dX5_useValue_219 (fun r3 G9 J1 hr3 pJ1 rng2 => ?_)
    obtain ⟨rfl, rfl, sJ1, oJ1⟩ := pJ1
    have OJ1 := (offS.rf).tr oJ1
    have QJ1 := clsOK.offS hQ hcs OJ1
    refine v_iconst dX5_useValue_222 ?_
    refine v_icmp_eq hr3 ⟨by decide, by decide⟩ dX5_useValue_223 (fun h4 => ?_) (fun h4 => ?_)
    · refine v_iconst dX5_useValue_230 ?_
      refine v_Vv (tX5_expect_1 hS0 hcs QJ1 sJ1 (Or.inr ⟨rfl, rfl⟩)) kX5_94 (by assumption) rfl rfl ⟨by decide, by decide⟩ ⟨by decide, by decide⟩ (Nat.le_of_ble_eq_true rfl) dX5_useValue_231 (fun G9 J5 pJ5 rng6 => ?_)
      obtain ⟨rfl, sJ5, oJ5⟩ := pJ5
      have OJ5 := (OJ1).tr oJ5
      have QJ5 := clsOK.offS hQ hcs OJ5
      refine v_goto dX5_useValue_234 ?_
      refine v_vret rfl (by decide) (by decide) dX5_useValue_245 ⟨rfl, ?_⟩
      rw [show xChk _ _ _ = _ from if_neg (by omega)]
      exact ⟨sJ5, OJ5⟩
    · refine v_iconst dX5_useValue_226 ?_
      refine v_goto dX5_useValue_227 ?_
      refine v_Vv (tX5_expect_1 hS0 hcs QJ1 sJ1 (Or.inl ⟨rfl, rfl⟩)) kX5_94 (by assumption) rfl rfl ⟨by decide, by decide⟩ ⟨by decide, by decide⟩ (Nat.le_of_ble_eq_true rfl) dX5_useValue_231 (fun G9 J7 pJ7 rng8 => ?_)
      obtain ⟨rfl, sJ7, oJ7⟩ := pJ7
      have OJ7 := (OJ1).tr oJ7
      have QJ7 := clsOK.offS hQ hcs OJ7
      refine v_goto dX5_useValue_234 ?_
      refine v_vret rfl (by decide) (by decide) dX5_useValue_245 ⟨rfl, ?_⟩
      rw [show xChk _ _ _ = _ from if_pos (by omega)]
      exact ⟨sJ7, OJ7⟩
  · rw [show xUV Q σ 25 res = xTake Q σ 2 by unfold xUV; rw [if_neg (by decide), if_neg (by decide), if_neg (by decide), if_neg (by decide), if_neg (by decide), if_neg (by decide), if_neg (by decide), if_neg (by decide), if_neg (by decide), if_neg (by decide), if_pos rfl]]
    refine w_Ct.of (ls := [some (.ref s), some (iv 25), some (iv res)]) (by decide +kernel) (Nat.le_of_ble_eq_true rfl) rfl rfl (fun rng => ?_)
    refine v_iload_n dX5_useValue_0 rfl ?_
    refine v_tswIn (off := 236) (tgt := 237) dX5_useValue_1 ⟨by decide, by decide⟩ (by decide) (by decide) (by decide) (by decide) ?_
    refine v_aload_n dX5_useValue_237 rfl ?_
    refine v_iconst dX5_useValue_238 ?_
    refine v_Vv (tX5_take hS0 hcs hQ hσ ⟨by decide, by decide⟩) kX5_74 (by assumption) rfl rfl ⟨by decide, by decide⟩ ⟨by decide, by decide⟩ (Nat.le_of_ble_eq_true rfl) dX5_useValue_239 (fun G9 J1 pJ1 rng2 => ?_)
    obtain ⟨rfl, sJ1, oJ1⟩ := pJ1
    have OJ1 := (offS.rf).tr oJ1
    have QJ1 := clsOK.offS hQ hcs OJ1
    refine v_goto dX5_useValue_242 ?_
    refine v_vret rfl (by decide) (by decide) dX5_useValue_245 ⟨rfl, ?_⟩
    exact ⟨sJ1, OJ1⟩
