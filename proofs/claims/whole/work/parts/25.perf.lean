/-! ===== a step as a whole ===== -/
theorem xTA_ge {σ : sS} (h0 : 0 ≤ σ.2.1) (h8 : σ.2.1 ≤ 8) (h : ∀ k, k < 8 → -1000 ≤ σ.2.2.2 k) : -1000 ≤ (xTA σ).1 := by
  unfold xTA
  split
  · show -1000 ≤ fTop (xW σ 1 2).2
    have e : (xW σ 1 2).2 = σ.2 := by unfold xW; split <;> rfl
    rw [e]
    unfold fTop
    split
    · exact h _ (by omega)
    · decide
  · show (-1000 : Int) ≤ 0
    decide
theorem tX5_useThing {E : w_E} {G : w_Sh} {I : w_Mm} {s q c : Nat} {Q : cS} {σ : sS} (hS : isS G s q c) (hcs : c + 3 ≤ s) (hQ : clsOK I c Q) (hσ : stOK I s σ) {m : Nat} {π : mS} (hM : isM G m) (hπ : metOK I m π) (hsm : s + 4 ≤ m) {p : Nat} (hp : p < mN π) (hok : opOK Q (mOp π p) (mA π p) (mB π p)) (hop : mOp π p = 13 ∨ (15 ≤ mOp π p ∧ mOp π p ≤ 21)) (hpos : ∀ k, k < 8 → -1000 ≤ σ.2.2.2 k) : w_Ct E mX5_useThing 4 [.ref s, .ref m, iv (p : Int)] G I 0 0 (w_Pv (fun G' J => G' = G ∧ stOK J s (xUT Q π σ p (mOp π p) (mA π p) (mB π p)) ∧ offS I J s)) := by
  have hS0 := hS
  obtain ⟨hTs, hRs0, hRs1, hK, hF⟩ := hS
  have hM0 := hM
  obtain ⟨hTm, hRm1, hRm3, hRm4, hRm5, hRm7, hRm8, hRm9, hRm10, hRm12, hTm1, hTm2, hTm3, hTm4, hTm5, hTm6, hTm7, hTm8, hWk⟩ := hM
  have hπ0 := hπ
  obtain ⟨hp0, hp2, hpA, hpB, hp6, hpn, hpo, hp11, hpg, hpG⟩ := hπ
  have hn16 := hQ.2.2.1
  have hd8 := hσ.2.1.2.2.2.2
  have hu := xTA_ge hσ.2.2 hd8 hpos
  obtain ⟨-, -, hk1, hk2, hk3, hk4, hk5, hk6⟩ := hok
  have hcase : mOp π p = 13 ∨ mOp π p = 15 ∨ mOp π p = 16 ∨ mOp π p = 17 ∨ mOp π p = 18 ∨ mOp π p = 19 ∨ mOp π p = 20 ∨ mOp π p = 21 := by omega
  rcases hcase with hE | hE | hE | hE | hE | hE | hE | hE
  · rw [hE] at hk1 hk2 hk3 hk4 hk5 hk6
    rw [show xUT Q π σ p (mOp π p) (mA π p) (mB π p) = xLay σ (100 + (p : Int)) by rw [hE]; unfold xUT; rw [if_pos rfl]]
    refine w_Ct.of (ls := [some (.ref s), some (.ref m), some (iv (p : Int)), none]) (by decide +kernel) (Nat.le_of_ble_eq_true rfl) rfl rfl (fun rng => ?_)
    refine v_aload_n dX5_useThing_0 rfl ?_
    refine v_getR fX5_46 rfl hTm (by assumption) dX5_useThing_1 ?_
    refine v_iload_n dX5_useThing_4 rfl ?_
    refine v_iald' (i := p) (v := mA π (p)) (hpo (p) (by omega)).2.1 (by assumption) rfl (by omega) (by omega) dX5_useThing_5 ?_
    refine v_istore_n dX5_useThing_6 (by decide) rfl ?_
    refine v_aload_n dX5_useThing_7 rfl ?_
    refine v_getR fX5_42 rfl hTm (by assumption) dX5_useThing_8 ?_
    refine v_iload_n dX5_useThing_11 rfl ?_
    refine v_iald' (i := p) (v := 13) ((hpo p hp).1.trans hE) (by assumption) rfl (by omega) (by omega) dX5_useThing_12 ?_
    refine v_tswIn (off := 47) (tgt := 60) dX5_useThing_13 ⟨by decide, by decide⟩ (by decide) (by decide) (by decide) (by decide) ?_
    refine v_aload_n dX5_useThing_60 rfl ?_
    refine v_bipush dX5_useThing_61 (by decide) ?_
    refine v_iload_n dX5_useThing_63 rfl ?_
    refine v_iadd dX5_useThing_64 ?_
    refine v_Vv (tX5_lay hS0 hcs hQ hσ ⟨by omega, by omega⟩) kX5_70 (by assumption) rfl rfl ⟨by decide, by decide⟩ ⟨by decide, by decide⟩ (Nat.le_of_ble_eq_true rfl) dX5_useThing_65 (fun G9 J1 pJ1 rng2 => ?_)
    obtain ⟨rfl, sJ1, oJ1⟩ := pJ1
    have OJ1 := (offS.rf).tr oJ1
    have QJ1 := clsOK.offS hQ hcs OJ1
    refine v_goto dX5_useThing_68 ?_
    refine v_vret rfl (by decide) (by decide) dX5_useThing_167 ⟨rfl, ?_⟩
    exact ⟨sJ1, OJ1⟩
  · rw [hE] at hk1 hk2 hk3 hk4 hk5 hk6
    rw [show xUT Q π σ p (mOp π p) (mA π p) (mB π p) = xMake π σ (mA π p) by rw [hE]; unfold xUT; rw [if_neg (by decide), if_pos rfl]]
    refine w_Ct.of (ls := [some (.ref s), some (.ref m), some (iv (p : Int)), none]) (by decide +kernel) (Nat.le_of_ble_eq_true rfl) rfl rfl (fun rng => ?_)
    refine v_aload_n dX5_useThing_0 rfl ?_
    refine v_getR fX5_46 rfl hTm (by assumption) dX5_useThing_1 ?_
    refine v_iload_n dX5_useThing_4 rfl ?_
    refine v_iald' (i := p) (v := mA π (p)) (hpo (p) (by omega)).2.1 (by assumption) rfl (by omega) (by omega) dX5_useThing_5 ?_
    refine v_istore_n dX5_useThing_6 (by decide) rfl ?_
    refine v_aload_n dX5_useThing_7 rfl ?_
    refine v_getR fX5_42 rfl hTm (by assumption) dX5_useThing_8 ?_
    refine v_iload_n dX5_useThing_11 rfl ?_
    refine v_iald' (i := p) (v := 15) ((hpo p hp).1.trans hE) (by assumption) rfl (by omega) (by omega) dX5_useThing_12 ?_
    refine v_tswIn (off := 58) (tgt := 71) dX5_useThing_13 ⟨by decide, by decide⟩ (by decide) (by decide) (by decide) (by decide) ?_
    refine v_aload_n dX5_useThing_71 rfl ?_
    refine v_aload_n dX5_useThing_72 rfl ?_
    refine v_iload_n dX5_useThing_73 rfl ?_
    refine v_Vv (tX5_make hS0 hcs hQ hσ hM0 hπ0 hsm (by rw [← (hpo (p) (by omega)).2.1]; exact rng _ _) (by omega) hu) kX5_100 (by assumption) rfl rfl ⟨by decide, by decide⟩ ⟨by decide, by decide⟩ (Nat.le_of_ble_eq_true rfl) dX5_useThing_74 (fun G9 J1 pJ1 rng2 => ?_)
    obtain ⟨rfl, sJ1, oJ1⟩ := pJ1
    have OJ1 := (offS.rf).tr oJ1
    have QJ1 := clsOK.offS hQ hcs OJ1
    refine v_goto dX5_useThing_77 ?_
    refine v_vret rfl (by decide) (by decide) dX5_useThing_167 ⟨rfl, ?_⟩
    exact ⟨sJ1, OJ1⟩
  · rw [hE] at hk1 hk2 hk3 hk4 hk5 hk6
    rw [show xUT Q π σ p (mOp π p) (mA π p) (mB π p) = xLay (xTake Q σ (10 + mA π p)) (mB π p) by rw [hE]; unfold xUT; rw [if_neg (by decide), if_neg (by decide), if_pos rfl]]
    refine w_Ct.of (ls := [some (.ref s), some (.ref m), some (iv (p : Int)), none]) (by decide +kernel) (Nat.le_of_ble_eq_true rfl) rfl rfl (fun rng => ?_)
    refine v_aload_n dX5_useThing_0 rfl ?_
    refine v_getR fX5_46 rfl hTm (by assumption) dX5_useThing_1 ?_
    refine v_iload_n dX5_useThing_4 rfl ?_
    refine v_iald' (i := p) (v := mA π (p)) (hpo (p) (by omega)).2.1 (by assumption) rfl (by omega) (by omega) dX5_useThing_5 ?_
    refine v_istore_n dX5_useThing_6 (by decide) rfl ?_
    refine v_aload_n dX5_useThing_7 rfl ?_
    refine v_getR fX5_42 rfl hTm (by assumption) dX5_useThing_8 ?_
    refine v_iload_n dX5_useThing_11 rfl ?_
    refine v_iald' (i := p) (v := 16) ((hpo p hp).1.trans hE) (by assumption) rfl (by omega) (by omega) dX5_useThing_12 ?_
    refine v_tswIn (off := 67) (tgt := 80) dX5_useThing_13 ⟨by decide, by decide⟩ (by decide) (by decide) (by decide) (by decide) ?_
    refine v_aload_n dX5_useThing_80 rfl ?_
    refine v_bipush dX5_useThing_81 (by decide) ?_
    refine v_iload_n dX5_useThing_83 rfl ?_
    refine v_iadd dX5_useThing_84 ?_
    refine v_Vv (tX5_take hS0 hcs hQ hσ ⟨by omega, by omega⟩) kX5_74 (by assumption) rfl rfl ⟨by decide, by decide⟩ ⟨by decide, by decide⟩ (Nat.le_of_ble_eq_true rfl) dX5_useThing_85 (fun G9 J1 pJ1 rng2 => ?_)
    obtain ⟨rfl, sJ1, oJ1⟩ := pJ1
    have OJ1 := (offS.rf).tr oJ1
    have QJ1 := clsOK.offS hQ hcs OJ1
    refine v_aload_n dX5_useThing_88 rfl ?_
    refine v_aload_n dX5_useThing_89 rfl ?_
    refine v_getR fX5_103 rfl hTm (by assumption) dX5_useThing_90 ?_
    refine v_iload_n dX5_useThing_93 rfl ?_
    refine v_iald' (i := p) (v := mB π (p)) ((OJ1 (m + 4) (p) (by omega) (by omega) (by omega) (by omega)).trans (hpo (p) (by omega)).2.2) (by assumption) rfl (by omega) (by omega) dX5_useThing_94 ?_
    refine v_Vv (tX5_lay hS0 hcs QJ1 sJ1 (by rw [← (hpo (p) (by omega)).2.2]; exact rng _ _)) kX5_70 (by assumption) rfl rfl ⟨by decide, by decide⟩ ⟨by decide, by decide⟩ (Nat.le_of_ble_eq_true rfl) dX5_useThing_95 (fun G9 J3 pJ3 rng4 => ?_)
    obtain ⟨rfl, sJ3, oJ3⟩ := pJ3
    have OJ3 := (OJ1).tr oJ3
    have QJ3 := clsOK.offS hQ hcs OJ3
    refine v_goto dX5_useThing_98 ?_
    refine v_vret rfl (by decide) (by decide) dX5_useThing_167 ⟨rfl, ?_⟩
    exact ⟨sJ3, OJ3⟩
  · rw [hE] at hk1 hk2 hk3 hk4 hk5 hk6
    rw [show xUT Q π σ p (mOp π p) (mA π p) (mB π p) = xLay σ 4 by rw [hE]; unfold xUT; rw [if_neg (by decide), if_neg (by decide), if_neg (by decide), if_pos rfl]]
    refine w_Ct.of (ls := [some (.ref s), some (.ref m), some (iv (p : Int)), none]) (by decide +kernel) (Nat.le_of_ble_eq_true rfl) rfl rfl (fun rng => ?_)
    refine v_aload_n dX5_useThing_0 rfl ?_
    refine v_getR fX5_46 rfl hTm (by assumption) dX5_useThing_1 ?_
    refine v_iload_n dX5_useThing_4 rfl ?_
    refine v_iald' (i := p) (v := mA π (p)) (hpo (p) (by omega)).2.1 (by assumption) rfl (by omega) (by omega) dX5_useThing_5 ?_
    refine v_istore_n dX5_useThing_6 (by decide) rfl ?_
    refine v_aload_n dX5_useThing_7 rfl ?_
    refine v_getR fX5_42 rfl hTm (by assumption) dX5_useThing_8 ?_
    refine v_iload_n dX5_useThing_11 rfl ?_
    refine v_iald' (i := p) (v := 17) ((hpo p hp).1.trans hE) (by assumption) rfl (by omega) (by omega) dX5_useThing_12 ?_
    refine v_tswIn (off := 88) (tgt := 101) dX5_useThing_13 ⟨by decide, by decide⟩ (by decide) (by decide) (by decide) (by decide) ?_
    refine v_aload_n dX5_useThing_101 rfl ?_
    refine v_iconst dX5_useThing_102 ?_
    refine v_Vv (tX5_lay hS0 hcs hQ hσ ⟨by decide, by decide⟩) kX5_70 (by assumption) rfl rfl ⟨by decide, by decide⟩ ⟨by decide, by decide⟩ (Nat.le_of_ble_eq_true rfl) dX5_useThing_103 (fun G9 J1 pJ1 rng2 => ?_)
    obtain ⟨rfl, sJ1, oJ1⟩ := pJ1
    have OJ1 := (offS.rf).tr oJ1
    have QJ1 := clsOK.offS hQ hcs OJ1
    refine v_goto dX5_useThing_106 ?_
    refine v_vret rfl (by decide) (by decide) dX5_useThing_167 ⟨rfl, ?_⟩
    exact ⟨sJ1, OJ1⟩
  · rw [hE] at hk1 hk2 hk3 hk4 hk5 hk6
    rw [show xUT Q π σ p (mOp π p) (mA π p) (mB π p) = xLay (xChk (xTA σ).2 (kRef (xTA σ).1) 3) (10 + mA π p) by rw [hE]; unfold xUT; rw [if_neg (by decide), if_neg (by decide), if_neg (by decide), if_neg (by decide), if_pos rfl]]
    refine w_Ct.of (ls := [some (.ref s), some (.ref m), some (iv (p : Int)), none]) (by decide +kernel) (Nat.le_of_ble_eq_true rfl) rfl rfl (fun rng => ?_)
    refine v_aload_n dX5_useThing_0 rfl ?_
    refine v_getR fX5_46 rfl hTm (by assumption) dX5_useThing_1 ?_
    refine v_iload_n dX5_useThing_4 rfl ?_
    refine v_iald' (i := p) (v := mA π (p)) (hpo (p) (by omega)).2.1 (by assumption) rfl (by omega) (by omega) dX5_useThing_5 ?_
    refine v_istore_n dX5_useThing_6 (by decide) rfl ?_
    refine v_aload_n dX5_useThing_7 rfl ?_
    refine v_getR fX5_42 rfl hTm (by assumption) dX5_useThing_8 ?_
    refine v_iload_n dX5_useThing_11 rfl ?_
    refine v_iald' (i := p) (v := 18) ((hpo p hp).1.trans hE) (by assumption) rfl (by omega) (by omega) dX5_useThing_12 ?_
    refine v_tswIn (off := 96) (tgt := 109) dX5_useThing_13 ⟨by decide, by decide⟩ (by decide) (by decide) (by decide) (by decide) ?_
    refine v_aload_n dX5_useThing_109 rfl ?_
    refine v_aload_n dX5_useThing_110 rfl ?_
    refine v_Vi (tX5_takeAny hS0 hcs hQ hσ ) kX5_90 (by assumption) rfl rfl ⟨by decide, by decide⟩ ⟨by decide, by decide⟩ (Nat.le_of_ble_eq_true rfl) dX5_useThing_111 (fun r3 G9 J1 hr3 pJ1 rng2 => ?_)
    obtain ⟨rfl, rfl, sJ1, oJ1⟩ := pJ1
    have OJ1 := (offS.rf).tr oJ1
    have QJ1 := clsOK.offS hQ hcs OJ1
    refine v_Sb (tX3_isReference hr3) kX5_106 rfl rfl ⟨by decide, by decide⟩ ⟨by decide, by decide⟩ (Nat.le_of_ble_eq_true rfl) dX5_useThing_114 (fun h4 => ?_) (fun h4 => ?_)
    · refine v_Vv (tX5_expect_1 hS0 hcs QJ1 sJ1 (Or.inl ⟨rfl, rfl⟩)) kX5_94 (by assumption) rfl rfl ⟨by decide, by decide⟩ ⟨by decide, by decide⟩ (Nat.le_of_ble_eq_true rfl) dX5_useThing_117 (fun G9 J5 pJ5 rng6 => ?_)
      obtain ⟨rfl, sJ5, oJ5⟩ := pJ5
      have OJ5 := (OJ1).tr oJ5
      have QJ5 := clsOK.offS hQ hcs OJ5
      refine v_aload_n dX5_useThing_120 rfl ?_
      refine v_bipush dX5_useThing_121 (by decide) ?_
      refine v_iload_n dX5_useThing_123 rfl ?_
      refine v_iadd dX5_useThing_124 ?_
      refine v_Vv (tX5_lay hS0 hcs QJ5 sJ5 ⟨by omega, by omega⟩) kX5_70 (by assumption) rfl rfl ⟨by decide, by decide⟩ ⟨by decide, by decide⟩ (Nat.le_of_ble_eq_true rfl) dX5_useThing_125 (fun G9 J7 pJ7 rng8 => ?_)
      obtain ⟨rfl, sJ7, oJ7⟩ := pJ7
      have OJ7 := (OJ5).tr oJ7
      have QJ7 := clsOK.offS hQ hcs OJ7
      refine v_goto dX5_useThing_128 ?_
      refine v_vret rfl (by decide) (by decide) dX5_useThing_167 ⟨rfl, ?_⟩
      rw [show xChk _ _ _ = _ from if_pos h4]
      exact ⟨sJ7, OJ7⟩
    · refine v_Vv (tX5_expect_1 hS0 hcs QJ1 sJ1 (Or.inr ⟨rfl, rfl⟩)) kX5_94 (by assumption) rfl rfl ⟨by decide, by decide⟩ ⟨by decide, by decide⟩ (Nat.le_of_ble_eq_true rfl) dX5_useThing_117 (fun G9 J9 pJ9 rng10 => ?_)
      obtain ⟨rfl, sJ9, oJ9⟩ := pJ9
      have OJ9 := (OJ1).tr oJ9
      have QJ9 := clsOK.offS hQ hcs OJ9
      refine v_aload_n dX5_useThing_120 rfl ?_
      refine v_bipush dX5_useThing_121 (by decide) ?_
      refine v_iload_n dX5_useThing_123 rfl ?_
      refine v_iadd dX5_useThing_124 ?_
      refine v_Vv (tX5_lay hS0 hcs QJ9 sJ9 ⟨by omega, by omega⟩) kX5_70 (by assumption) rfl rfl ⟨by decide, by decide⟩ ⟨by decide, by decide⟩ (Nat.le_of_ble_eq_true rfl) dX5_useThing_125 (fun G9 J11 pJ11 rng12 => ?_)
      obtain ⟨rfl, sJ11, oJ11⟩ := pJ11
      have OJ11 := (OJ9).tr oJ11
      have QJ11 := clsOK.offS hQ hcs OJ11
      refine v_goto dX5_useThing_128 ?_
      refine v_vret rfl (by decide) (by decide) dX5_useThing_167 ⟨rfl, ?_⟩
      rw [show xChk _ _ _ = _ from if_neg h4]
      exact ⟨sJ11, OJ11⟩
  · rw [hE] at hk1 hk2 hk3 hk4 hk5 hk6
    rw [show xUT Q π σ p (mOp π p) (mA π p) (mB π p) = xLay (xTake Q σ 1) (if mA π p = -1 then 5 else 40 + mA π p) by rw [hE]; unfold xUT; rw [if_neg (by decide), if_neg (by decide), if_neg (by decide), if_neg (by decide), if_neg (by decide), if_pos rfl]]
    refine w_Ct.of (ls := [some (.ref s), some (.ref m), some (iv (p : Int)), none]) (by decide +kernel) (Nat.le_of_ble_eq_true rfl) rfl rfl (fun rng => ?_)
    refine v_aload_n dX5_useThing_0 rfl ?_
    refine v_getR fX5_46 rfl hTm (by assumption) dX5_useThing_1 ?_
    refine v_iload_n dX5_useThing_4 rfl ?_
    refine v_iald' (i := p) (v := mA π (p)) (hpo (p) (by omega)).2.1 (by assumption) rfl (by omega) (by omega) dX5_useThing_5 ?_
    refine v_istore_n dX5_useThing_6 (by decide) rfl ?_
    refine v_aload_n dX5_useThing_7 rfl ?_
    refine v_getR fX5_42 rfl hTm (by assumption) dX5_useThing_8 ?_
    refine v_iload_n dX5_useThing_11 rfl ?_
    refine v_iald' (i := p) (v := 19) ((hpo p hp).1.trans hE) (by assumption) rfl (by omega) (by omega) dX5_useThing_12 ?_
    refine v_tswIn (off := 118) (tgt := 131) dX5_useThing_13 ⟨by decide, by decide⟩ (by decide) (by decide) (by decide) (by decide) ?_
    refine v_aload_n dX5_useThing_131 rfl ?_
    refine v_iconst dX5_useThing_132 ?_
    refine v_Vv (tX5_take hS0 hcs hQ hσ ⟨by decide, by decide⟩) kX5_74 (by assumption) rfl rfl ⟨by decide, by decide⟩ ⟨by decide, by decide⟩ (Nat.le_of_ble_eq_true rfl) dX5_useThing_133 (fun G9 J1 pJ1 rng2 => ?_)
    obtain ⟨rfl, sJ1, oJ1⟩ := pJ1
    have OJ1 := (offS.rf).tr oJ1
    have QJ1 := clsOK.offS hQ hcs OJ1
    refine v_aload_n dX5_useThing_136 rfl ?_
    refine v_iload_n dX5_useThing_137 rfl ?_
    refine v_iconst dX5_useThing_138 ?_
    refine v_icmp_ne (by rw [← (hpo (p) (by omega)).2.1]; exact rng _ _) ⟨by decide, by decide⟩ dX5_useThing_139 (fun h3 => ?_) (fun h3 => ?_)
    · refine v_bipush dX5_useThing_146 (by decide) ?_
      refine v_iload_n dX5_useThing_148 rfl ?_
      refine v_iadd dX5_useThing_149 ?_
      refine v_Vv (tX5_lay hS0 hcs QJ1 sJ1 ⟨by omega, by omega⟩) kX5_70 (by assumption) rfl rfl ⟨by decide, by decide⟩ ⟨by decide, by decide⟩ (Nat.le_of_ble_eq_true rfl) dX5_useThing_150 (fun G9 J4 pJ4 rng5 => ?_)
      obtain ⟨rfl, sJ4, oJ4⟩ := pJ4
      have OJ4 := (OJ1).tr oJ4
      have QJ4 := clsOK.offS hQ hcs OJ4
      refine v_goto dX5_useThing_153 ?_
      refine v_vret rfl (by decide) (by decide) dX5_useThing_167 ⟨rfl, ?_⟩
      rw [if_neg h3]
      exact ⟨sJ4, OJ4⟩
    · refine v_iconst dX5_useThing_142 ?_
      refine v_goto dX5_useThing_143 ?_
      refine v_Vv (tX5_lay hS0 hcs QJ1 sJ1 ⟨by decide, by decide⟩) kX5_70 (by assumption) rfl rfl ⟨by decide, by decide⟩ ⟨by decide, by decide⟩ (Nat.le_of_ble_eq_true rfl) dX5_useThing_150 (fun G9 J6 pJ6 rng7 => ?_)
      obtain ⟨rfl, sJ6, oJ6⟩ := pJ6
      have OJ6 := (OJ1).tr oJ6
      have QJ6 := clsOK.offS hQ hcs OJ6
      refine v_goto dX5_useThing_153 ?_
      refine v_vret rfl (by decide) (by decide) dX5_useThing_167 ⟨rfl, ?_⟩
      rw [if_pos h3]
      exact ⟨sJ6, OJ6⟩
  · rw [hE] at hk1 hk2 hk3 hk4 hk5 hk6
    rw [show xUT Q π σ p (mOp π p) (mA π p) (mB π p) = xLoadE Q σ by rw [hE]; unfold xUT; rw [if_neg (by decide), if_neg (by decide), if_neg (by decide), if_neg (by decide), if_neg (by decide), if_neg (by decide), if_pos rfl]]
    refine w_Ct.of (ls := [some (.ref s), some (.ref m), some (iv (p : Int)), none]) (by decide +kernel) (Nat.le_of_ble_eq_true rfl) rfl rfl (fun rng => ?_)
    refine v_aload_n dX5_useThing_0 rfl ?_
    refine v_getR fX5_46 rfl hTm (by assumption) dX5_useThing_1 ?_
    refine v_iload_n dX5_useThing_4 rfl ?_
    refine v_iald' (i := p) (v := mA π (p)) (hpo (p) (by omega)).2.1 (by assumption) rfl (by omega) (by omega) dX5_useThing_5 ?_
    refine v_istore_n dX5_useThing_6 (by decide) rfl ?_
    refine v_aload_n dX5_useThing_7 rfl ?_
    refine v_getR fX5_42 rfl hTm (by assumption) dX5_useThing_8 ?_
    refine v_iload_n dX5_useThing_11 rfl ?_
    refine v_iald' (i := p) (v := 20) ((hpo p hp).1.trans hE) (by assumption) rfl (by omega) (by omega) dX5_useThing_12 ?_
    refine v_tswIn (off := 143) (tgt := 156) dX5_useThing_13 ⟨by decide, by decide⟩ (by decide) (by decide) (by decide) (by decide) ?_
    refine v_aload_n dX5_useThing_156 rfl ?_
    refine v_Vv (tX5_loadElement hS0 hcs hQ hσ ) kX5_111 (by assumption) rfl rfl ⟨by decide, by decide⟩ ⟨by decide, by decide⟩ (Nat.le_of_ble_eq_true rfl) dX5_useThing_157 (fun G9 J1 pJ1 rng2 => ?_)
    obtain ⟨rfl, sJ1, oJ1⟩ := pJ1
    have OJ1 := (offS.rf).tr oJ1
    have QJ1 := clsOK.offS hQ hcs OJ1
    refine v_goto dX5_useThing_160 ?_
    refine v_vret rfl (by decide) (by decide) dX5_useThing_167 ⟨rfl, ?_⟩
    exact ⟨sJ1, OJ1⟩
  · rw [hE] at hk1 hk2 hk3 hk4 hk5 hk6
    rw [show xUT Q π σ p (mOp π p) (mA π p) (mB π p) = xStoreE Q σ by rw [hE]; unfold xUT; rw [if_neg (by decide), if_neg (by decide), if_neg (by decide), if_neg (by decide), if_neg (by decide), if_neg (by decide), if_neg (by decide)]]
    refine w_Ct.of (ls := [some (.ref s), some (.ref m), some (iv (p : Int)), none]) (by decide +kernel) (Nat.le_of_ble_eq_true rfl) rfl rfl (fun rng => ?_)
    refine v_aload_n dX5_useThing_0 rfl ?_
    refine v_getR fX5_46 rfl hTm (by assumption) dX5_useThing_1 ?_
    refine v_iload_n dX5_useThing_4 rfl ?_
    refine v_iald' (i := p) (v := mA π (p)) (hpo (p) (by omega)).2.1 (by assumption) rfl (by omega) (by omega) dX5_useThing_5 ?_
    refine v_istore_n dX5_useThing_6 (by decide) rfl ?_
    refine v_aload_n dX5_useThing_7 rfl ?_
    refine v_getR fX5_42 rfl hTm (by assumption) dX5_useThing_8 ?_
    refine v_iload_n dX5_useThing_11 rfl ?_
    refine v_iald' (i := p) (v := 21) ((hpo p hp).1.trans hE) (by assumption) rfl (by omega) (by omega) dX5_useThing_12 ?_
    refine v_tswOut (tgt := 163) dX5_useThing_13 ⟨by decide, by decide⟩ (by decide) (by decide) ?_
    refine v_aload_n dX5_useThing_163 rfl ?_
    refine v_Vv (tX5_storeElement hS0 hcs hQ hσ ) kX5_114 (by assumption) rfl rfl ⟨by decide, by decide⟩ ⟨by decide, by decide⟩ (Nat.le_of_ble_eq_true rfl) dX5_useThing_164 (fun G9 J1 pJ1 rng2 => ?_)
    obtain ⟨rfl, sJ1, oJ1⟩ := pJ1
    have OJ1 := (offS.rf).tr oJ1
    have QJ1 := clsOK.offS hQ hcs OJ1
    refine v_vret rfl (by decide) (by decide) dX5_useThing_167 ⟨rfl, ?_⟩
    exact ⟨sJ1, OJ1⟩
theorem stOK.start {I J : w_Mm} {s : Nat} {φ : fS} (hJ : frOK J (s + 1) φ) (ho : offF I J (s + 1)) (hd : 0 ≤ φ.1) : stOK (w_up J s 2 0) s (0, φ) ∧ offS I (w_up J s 2 0) s :=
  ⟨⟨w_up_s, ⟨(w_up_n (by omega)).trans hJ.1, fun k hk => (w_up_n (by omega)).trans (hJ.2.1 k hk), fun k hk => (w_up_n (by omega)).trans (hJ.2.2.1 k hk), hJ.2.2.2⟩, hd⟩, fun a k h1 h2 h3 h4 => (w_up_n (by omega)).trans (ho.S a k h1 h2 h3 h4)⟩
theorem tX5_perform {E : w_E} {G : w_Sh} {I : w_Mm} {s q c m p : Nat} {Q : cS} {π : mS} {φ : fS} (hS : isS G s q c) (hcs : c + 3 ≤ s) (hQ : clsOK I c Q) (hM : isM G m) (hπ : metOK I m π) (hsm : s + 4 ≤ m) (hp : p < mN π) (hok : opOK Q (mOp π p) (mA π p) (mB π p)) (hφ : frOK I (m + 9 + 3 + 3 * p) φ) (hd : 0 ≤ φ.1) (hpos : ∀ k, k < 8 → -1000 ≤ φ.2.2 k) : w_Ct E mX5_perform 5 [.ref s, .ref m, iv (p : Int)] G I 0 0 (w_Pi (fun r G' J => G' = G ∧ r = (xPerf Q π (0, φ) p).1 ∧ stOK J s (xPerf Q π (0, φ) p) ∧ offS I J s)) := by
  have hS0 := hS
  obtain ⟨hTs, hRs0, hRs1, hK, hF⟩ := hS
  have hM0 := hM
  obtain ⟨hTm, hRm1, hRm3, hRm4, hRm5, hRm7, hRm8, hRm9, hRm10, hRm12, hTm1, hTm2, hTm3, hTm4, hTm5, hTm6, hTm7, hTm8, hWk⟩ := hM
  have hπ0 := hπ
  obtain ⟨hp0, hp2, hpA, hpB, hp6, hpn, hpo, hp11, hpg, hpG⟩ := hπ
  have hok0 := hok
  obtain ⟨hk01, hk02, hk1, hk2, hk3, hk4, hk5, hk6⟩ := hok
  have hW6 := hWk.2.2.2.2.2 p (by omega)
  refine w_Ct.of (ls := [some (.ref s), some (.ref m), some (iv (p : Int)), none]) (by decide +kernel) (Nat.le_of_ble_eq_true rfl) rfl rfl (fun rng => ?_)
  refine v_aload_n dX5_perform_0 rfl ?_
  refine v_getR fX5_12 rfl (by assumption) (by assumption) dX5_perform_1 ?_
  refine v_aload_n dX5_perform_4 rfl ?_
  refine v_getR fX5_22 rfl hTm (by assumption) dX5_perform_5 ?_
  refine v_getR fX5_28 rfl hWk.1 hWk.2.1 dX5_perform_8 ?_
  refine v_iload_n dX5_perform_11 rfl ?_
  refine v_aaldF (i := p) hWk.2.2.2.1 hW6.1 rfl (by omega) (by omega) dX5_perform_12 ?_
  refine v_Vv (tX2_copyFrom hF hW6.2 hφ (by omega)) kX5_34 hF.1 rfl rfl ⟨by decide, by decide⟩ ⟨by decide, by decide⟩ (Nat.le_of_ble_eq_true rfl) dX5_perform_13 (fun G9 J1 pJ1 rng2 => ?_)
  obtain ⟨rfl, fJ1, oJ1⟩ := pJ1
  refine v_aload_n dX5_perform_16 rfl ?_
  refine v_iconst dX5_perform_17 ?_
  refine v_putI fX5_38 p5_2 rfl ⟨by decide, by decide⟩ (by assumption) dX5_perform_18 ?_
  have rng3 := w_rng (a := s) (f := 2) rng2 (show inR (0) from ⟨by decide, by decide⟩)
  obtain ⟨sK, OK⟩ := stOK.start (I := I) fJ1 oJ1 hd
  have QK := clsOK.offS hQ hcs OK
  have πK := hπ0.off (fun a k h1 h2 => OK a k (by omega) (by omega) (by omega) (by omega))
  generalize w_up J1 s 2 0 = K at sK OK QK πK rng3 ⊢
  refine v_aload_n dX5_perform_21 rfl ?_
  refine v_getR fX5_42 rfl hTm (by assumption) dX5_perform_22 ?_
  refine v_iload_n dX5_perform_25 rfl ?_
  refine v_iald' (i := p) (v := mOp π (p)) ((OK (m + 2) (p) (by omega) (by omega) (by omega) (by omega)).trans (hpo (p) (by omega)).1) (by assumption) rfl (by omega) (by omega) dX5_perform_26 ?_
  refine v_istore_n dX5_perform_27 (by decide) rfl ?_
  refine v_iload_n dX5_perform_28 rfl ?_
  refine v_iconst dX5_perform_29 ?_
  refine v_icmp_lt (by rw [← (hpo (p) (by omega)).1]; exact rng _ _) ⟨by decide, by decide⟩ dX5_perform_30 (fun h4 => ?_) (fun h4 => ?_)
  · refine v_iload_n dX5_perform_53 rfl ?_
    refine v_bipush dX5_perform_54 (by decide) ?_
    refine v_icmp_eq (by rw [← (hpo (p) (by omega)).1]; exact rng _ _) ⟨by decide, by decide⟩ dX5_perform_56 (fun h5 => ?_) (fun h5 => ?_)
    · refine v_aload_n dX5_perform_71 rfl ?_
      refine v_aload_n dX5_perform_72 rfl ?_
      refine v_iload_n dX5_perform_73 rfl ?_
      refine v_Vv (tX5_useThing hS0 hcs QK sK hM0 πK hsm hp hok0 (by omega) hpos) kX5_53 (by assumption) rfl rfl ⟨by decide, by decide⟩ ⟨by decide, by decide⟩ (Nat.le_of_ble_eq_true rfl) dX5_perform_74 (fun G9 J6 pJ6 rng7 => ?_)
      obtain ⟨rfl, sJ6, oJ6⟩ := pJ6
      have OJ6 := (OK).tr oJ6
      have QJ6 := clsOK.offS hQ hcs OJ6
      refine v_goto dX5_perform_77 ?_
      refine v_aload_n dX5_perform_89 rfl ?_
      refine v_getI' (v := (xUT Q π ((0, φ)) p (mOp π p) (mA π p) (mB π p)).1) sJ6.1 fX5_38 rfl (by assumption) dX5_perform_90 ?_
      have eP : xPerf Q π (0, φ) p = xUT Q π ((0, φ)) p (mOp π p) (mA π p) (mB π p) := by unfold xPerf; rw [if_neg (by omega), if_pos (by omega)]
      rw [eP]
      exact v_iret rfl (by decide) (by decide) (by rw [← sJ6.1]; exact rng7 _ _) dX5_perform_93 ⟨rfl, rfl, sJ6, OJ6⟩
    · refine v_iload_n dX5_perform_59 rfl ?_
      refine v_bipush dX5_perform_60 (by decide) ?_
      refine v_icmp_lt (by rw [← (hpo (p) (by omega)).1]; exact rng _ _) ⟨by decide, by decide⟩ dX5_perform_62 (fun h8 => ?_) (fun h8 => ?_)
      · refine v_aload_n dX5_perform_80 rfl ?_
        refine v_iload_n dX5_perform_81 rfl ?_
        refine v_aload_n dX5_perform_82 rfl ?_
        refine v_getI' (v := mRes π) ((OK m 0 (by omega) (by omega) (by omega) (by omega)).trans hp0) fX5_57 rfl hTm dX5_perform_83 ?_
        refine v_Vv (tX5_useValue hS0 hcs QK sK (op := mOp π (p)) (by omega) (by rw [← hp0]; exact rng _ _)) kX5_60 (by assumption) rfl rfl ⟨by decide, by decide⟩ ⟨by decide, by decide⟩ (Nat.le_of_ble_eq_true rfl) dX5_perform_86 (fun G9 J9 pJ9 rng10 => ?_)
        obtain ⟨rfl, sJ9, oJ9⟩ := pJ9
        have OJ9 := (OK).tr oJ9
        have QJ9 := clsOK.offS hQ hcs OJ9
        refine v_aload_n dX5_perform_89 rfl ?_
        refine v_getI' (v := (xUV Q ((0, φ)) (mOp π (p)) (mRes π)).1) sJ9.1 fX5_38 rfl (by assumption) dX5_perform_90 ?_
        have eP : xPerf Q π (0, φ) p = xUV Q ((0, φ)) (mOp π (p)) (mRes π) := by unfold xPerf; rw [if_neg (by omega), if_neg (by omega)]
        rw [eP]
        exact v_iret rfl (by decide) (by decide) (by rw [← sJ9.1]; exact rng10 _ _) dX5_perform_93 ⟨rfl, rfl, sJ9, OJ9⟩
      · refine v_iload_n dX5_perform_65 rfl ?_
        refine v_bipush dX5_perform_66 (by decide) ?_
        refine v_icmp_gt (by rw [← (hpo (p) (by omega)).1]; exact rng _ _) ⟨by decide, by decide⟩ dX5_perform_68 (fun h11 => ?_) (fun h11 => ?_)
        · refine v_aload_n dX5_perform_80 rfl ?_
          refine v_iload_n dX5_perform_81 rfl ?_
          refine v_aload_n dX5_perform_82 rfl ?_
          refine v_getI' (v := mRes π) ((OK m 0 (by omega) (by omega) (by omega) (by omega)).trans hp0) fX5_57 rfl hTm dX5_perform_83 ?_
          refine v_Vv (tX5_useValue hS0 hcs QK sK (op := mOp π (p)) (by omega) (by rw [← hp0]; exact rng _ _)) kX5_60 (by assumption) rfl rfl ⟨by decide, by decide⟩ ⟨by decide, by decide⟩ (Nat.le_of_ble_eq_true rfl) dX5_perform_86 (fun G9 J12 pJ12 rng13 => ?_)
          obtain ⟨rfl, sJ12, oJ12⟩ := pJ12
          have OJ12 := (OK).tr oJ12
          have QJ12 := clsOK.offS hQ hcs OJ12
          refine v_aload_n dX5_perform_89 rfl ?_
          refine v_getI' (v := (xUV Q ((0, φ)) (mOp π (p)) (mRes π)).1) sJ12.1 fX5_38 rfl (by assumption) dX5_perform_90 ?_
          have eP : xPerf Q π (0, φ) p = xUV Q ((0, φ)) (mOp π (p)) (mRes π) := by unfold xPerf; rw [if_neg (by omega), if_neg (by omega)]
          rw [eP]
          exact v_iret rfl (by decide) (by decide) (by rw [← sJ12.1]; exact rng13 _ _) dX5_perform_93 ⟨rfl, rfl, sJ12, OJ12⟩
        · refine v_aload_n dX5_perform_71 rfl ?_
          refine v_aload_n dX5_perform_72 rfl ?_
          refine v_iload_n dX5_perform_73 rfl ?_
          refine v_Vv (tX5_useThing hS0 hcs QK sK hM0 πK hsm hp hok0 (by omega) hpos) kX5_53 (by assumption) rfl rfl ⟨by decide, by decide⟩ ⟨by decide, by decide⟩ (Nat.le_of_ble_eq_true rfl) dX5_perform_74 (fun G9 J14 pJ14 rng15 => ?_)
          obtain ⟨rfl, sJ14, oJ14⟩ := pJ14
          have OJ14 := (OK).tr oJ14
          have QJ14 := clsOK.offS hQ hcs OJ14
          refine v_goto dX5_perform_77 ?_
          refine v_aload_n dX5_perform_89 rfl ?_
          refine v_getI' (v := (xUT Q π ((0, φ)) p (mOp π p) (mA π p) (mB π p)).1) sJ14.1 fX5_38 rfl (by assumption) dX5_perform_90 ?_
          have eP : xPerf Q π (0, φ) p = xUT Q π ((0, φ)) p (mOp π p) (mA π p) (mB π p) := by unfold xPerf; rw [if_neg (by omega), if_pos (by omega)]
          rw [eP]
          exact v_iret rfl (by decide) (by decide) (by rw [← sJ14.1]; exact rng15 _ _) dX5_perform_93 ⟨rfl, rfl, sJ14, OJ14⟩
  · refine v_iload_n dX5_perform_33 rfl ?_
    refine v_bipush dX5_perform_34 (by decide) ?_
    refine v_icmp_gt (by rw [← (hpo (p) (by omega)).1]; exact rng _ _) ⟨by decide, by decide⟩ dX5_perform_36 (fun h16 => ?_) (fun h16 => ?_)
    · refine v_iload_n dX5_perform_53 rfl ?_
      refine v_bipush dX5_perform_54 (by decide) ?_
      refine v_icmp_eq (by rw [← (hpo (p) (by omega)).1]; exact rng _ _) ⟨by decide, by decide⟩ dX5_perform_56 (fun h17 => ?_) (fun h17 => ?_)
      · refine v_aload_n dX5_perform_71 rfl ?_
        refine v_aload_n dX5_perform_72 rfl ?_
        refine v_iload_n dX5_perform_73 rfl ?_
        refine v_Vv (tX5_useThing hS0 hcs QK sK hM0 πK hsm hp hok0 (by omega) hpos) kX5_53 (by assumption) rfl rfl ⟨by decide, by decide⟩ ⟨by decide, by decide⟩ (Nat.le_of_ble_eq_true rfl) dX5_perform_74 (fun G9 J18 pJ18 rng19 => ?_)
        obtain ⟨rfl, sJ18, oJ18⟩ := pJ18
        have OJ18 := (OK).tr oJ18
        have QJ18 := clsOK.offS hQ hcs OJ18
        refine v_goto dX5_perform_77 ?_
        refine v_aload_n dX5_perform_89 rfl ?_
        refine v_getI' (v := (xUT Q π ((0, φ)) p (mOp π p) (mA π p) (mB π p)).1) sJ18.1 fX5_38 rfl (by assumption) dX5_perform_90 ?_
        have eP : xPerf Q π (0, φ) p = xUT Q π ((0, φ)) p (mOp π p) (mA π p) (mB π p) := by unfold xPerf; rw [if_neg (by omega), if_pos (by omega)]
        rw [eP]
        exact v_iret rfl (by decide) (by decide) (by rw [← sJ18.1]; exact rng19 _ _) dX5_perform_93 ⟨rfl, rfl, sJ18, OJ18⟩
      · refine v_iload_n dX5_perform_59 rfl ?_
        refine v_bipush dX5_perform_60 (by decide) ?_
        refine v_icmp_lt (by rw [← (hpo (p) (by omega)).1]; exact rng _ _) ⟨by decide, by decide⟩ dX5_perform_62 (fun h20 => ?_) (fun h20 => ?_)
        · refine v_aload_n dX5_perform_80 rfl ?_
          refine v_iload_n dX5_perform_81 rfl ?_
          refine v_aload_n dX5_perform_82 rfl ?_
          refine v_getI' (v := mRes π) ((OK m 0 (by omega) (by omega) (by omega) (by omega)).trans hp0) fX5_57 rfl hTm dX5_perform_83 ?_
          refine v_Vv (tX5_useValue hS0 hcs QK sK (op := mOp π (p)) (by omega) (by rw [← hp0]; exact rng _ _)) kX5_60 (by assumption) rfl rfl ⟨by decide, by decide⟩ ⟨by decide, by decide⟩ (Nat.le_of_ble_eq_true rfl) dX5_perform_86 (fun G9 J21 pJ21 rng22 => ?_)
          obtain ⟨rfl, sJ21, oJ21⟩ := pJ21
          have OJ21 := (OK).tr oJ21
          have QJ21 := clsOK.offS hQ hcs OJ21
          refine v_aload_n dX5_perform_89 rfl ?_
          refine v_getI' (v := (xUV Q ((0, φ)) (mOp π (p)) (mRes π)).1) sJ21.1 fX5_38 rfl (by assumption) dX5_perform_90 ?_
          have eP : xPerf Q π (0, φ) p = xUV Q ((0, φ)) (mOp π (p)) (mRes π) := by unfold xPerf; rw [if_neg (by omega), if_neg (by omega)]
          rw [eP]
          exact v_iret rfl (by decide) (by decide) (by rw [← sJ21.1]; exact rng22 _ _) dX5_perform_93 ⟨rfl, rfl, sJ21, OJ21⟩
        · refine v_iload_n dX5_perform_65 rfl ?_
          refine v_bipush dX5_perform_66 (by decide) ?_
          refine v_icmp_gt (by rw [← (hpo (p) (by omega)).1]; exact rng _ _) ⟨by decide, by decide⟩ dX5_perform_68 (fun h23 => ?_) (fun h23 => ?_)
          · refine v_aload_n dX5_perform_80 rfl ?_
            refine v_iload_n dX5_perform_81 rfl ?_
            refine v_aload_n dX5_perform_82 rfl ?_
            refine v_getI' (v := mRes π) ((OK m 0 (by omega) (by omega) (by omega) (by omega)).trans hp0) fX5_57 rfl hTm dX5_perform_83 ?_
            refine v_Vv (tX5_useValue hS0 hcs QK sK (op := mOp π (p)) (by omega) (by rw [← hp0]; exact rng _ _)) kX5_60 (by assumption) rfl rfl ⟨by decide, by decide⟩ ⟨by decide, by decide⟩ (Nat.le_of_ble_eq_true rfl) dX5_perform_86 (fun G9 J24 pJ24 rng25 => ?_)
            obtain ⟨rfl, sJ24, oJ24⟩ := pJ24
            have OJ24 := (OK).tr oJ24
            have QJ24 := clsOK.offS hQ hcs OJ24
            refine v_aload_n dX5_perform_89 rfl ?_
            refine v_getI' (v := (xUV Q ((0, φ)) (mOp π (p)) (mRes π)).1) sJ24.1 fX5_38 rfl (by assumption) dX5_perform_90 ?_
            have eP : xPerf Q π (0, φ) p = xUV Q ((0, φ)) (mOp π (p)) (mRes π) := by unfold xPerf; rw [if_neg (by omega), if_neg (by omega)]
            rw [eP]
            exact v_iret rfl (by decide) (by decide) (by rw [← sJ24.1]; exact rng25 _ _) dX5_perform_93 ⟨rfl, rfl, sJ24, OJ24⟩
          · refine v_aload_n dX5_perform_71 rfl ?_
            refine v_aload_n dX5_perform_72 rfl ?_
            refine v_iload_n dX5_perform_73 rfl ?_
            refine v_Vv (tX5_useThing hS0 hcs QK sK hM0 πK hsm hp hok0 (by omega) hpos) kX5_53 (by assumption) rfl rfl ⟨by decide, by decide⟩ ⟨by decide, by decide⟩ (Nat.le_of_ble_eq_true rfl) dX5_perform_74 (fun G9 J26 pJ26 rng27 => ?_)
            obtain ⟨rfl, sJ26, oJ26⟩ := pJ26
            have OJ26 := (OK).tr oJ26
            have QJ26 := clsOK.offS hQ hcs OJ26
            refine v_goto dX5_perform_77 ?_
            refine v_aload_n dX5_perform_89 rfl ?_
            refine v_getI' (v := (xUT Q π ((0, φ)) p (mOp π p) (mA π p) (mB π p)).1) sJ26.1 fX5_38 rfl (by assumption) dX5_perform_90 ?_
            have eP : xPerf Q π (0, φ) p = xUT Q π ((0, φ)) p (mOp π p) (mA π p) (mB π p) := by unfold xPerf; rw [if_neg (by omega), if_pos (by omega)]
            rw [eP]
            exact v_iret rfl (by decide) (by decide) (by rw [← sJ26.1]; exact rng27 _ _) dX5_perform_93 ⟨rfl, rfl, sJ26, OJ26⟩
    · refine v_aload_n dX5_perform_39 rfl ?_
      refine v_iload_n dX5_perform_40 rfl ?_
      refine v_aload_n dX5_perform_41 rfl ?_
      refine v_getR fX5_46 rfl hTm (by assumption) dX5_perform_42 ?_
      refine v_iload_n dX5_perform_45 rfl ?_
      refine v_iald' (i := p) (v := (((mA π p).toNat : Nat) : Int)) ((OK (m + 3) p (by omega) (by omega) (by omega) (by omega)).trans ((hpo p (by omega)).2.1.trans (by omega))) (by assumption) rfl (by omega) (by omega) dX5_perform_46 ?_
      refine v_Vv (tX5_useLocal hS0 hcs QK sK (op := mOp π (p)) (a := (mA π p).toNat) (by omega) (by omega) (by omega)) kX5_49 (by assumption) rfl rfl ⟨by decide, by decide⟩ ⟨by decide, by decide⟩ (Nat.le_of_ble_eq_true rfl) dX5_perform_47 (fun G9 J28 pJ28 rng29 => ?_)
      obtain ⟨rfl, sJ28, oJ28⟩ := pJ28
      have OJ28 := (OK).tr oJ28
      have QJ28 := clsOK.offS hQ hcs OJ28
      refine v_goto dX5_perform_50 ?_
      refine v_aload_n dX5_perform_89 rfl ?_
      refine v_getI' (v := (xUL Q ((0, φ)) (mOp π (p)) ((mA π p).toNat)).1) sJ28.1 fX5_38 rfl (by assumption) dX5_perform_90 ?_
      have eP : xPerf Q π (0, φ) p = xUL Q ((0, φ)) (mOp π (p)) ((mA π p).toNat) := by unfold xPerf; rw [if_pos ⟨h4, h16⟩]
      rw [eP]
      exact v_iret rfl (by decide) (by decide) (by rw [← sJ28.1]; exact rng29 _ _) dX5_perform_93 ⟨rfl, rfl, sJ28, OJ28⟩
