/-! ===== the reference: what an op does, op by op ===== -/
theorem xDo_0 {Q : cS} {π : mS} {σ : sS} {p : Nat} {a b : Int} : xDo Q π σ p 0 a b = xLay σ 1 := (if_neg (by decide)).trans ((if_neg (by decide)).trans (if_pos rfl))
theorem xDo_1 {Q : cS} {π : mS} {σ : sS} {p : Nat} {a b : Int} : xDo Q π σ p 1 a b = xLay σ 2 := (if_neg (by decide)).trans ((if_neg (by decide)).trans ((if_neg (by decide)).trans (if_pos rfl)))
theorem xDo_2 {Q : cS} {π : mS} {σ : sS} {p : Nat} {a b : Int} : xDo Q π σ p 2 a b = xLay (xChk σ (σ.2.2.1 a.toNat = 1) 4) 1 := (if_pos ⟨by decide, by decide⟩).trans (if_pos rfl)
theorem xDo_3 {Q : cS} {π : mS} {σ : sS} {p : Nat} {a b : Int} : xDo Q π σ p 3 a b = xPut (xTake Q σ 1) a.toNat 1 := (if_pos ⟨by decide, by decide⟩).trans ((if_neg (by decide)).trans (if_pos rfl))
theorem xDo_4 {Q : cS} {π : mS} {σ : sS} {p : Nat} {a b : Int} : xDo Q π σ p 4 a b = xLay (xChk σ (lngAt σ.2.2.1 (a.toNat : Int)) 4) 2 := (if_pos ⟨by decide, by decide⟩).trans ((if_neg (by decide)).trans ((if_neg (by decide)).trans (if_pos rfl)))
theorem xDo_5 {Q : cS} {π : mS} {σ : sS} {p : Nat} {a b : Int} : xDo Q π σ p 5 a b = xPutL (xTake Q σ 2) a.toNat := (if_pos ⟨by decide, by decide⟩).trans ((if_neg (by decide)).trans ((if_neg (by decide)).trans ((if_neg (by decide)).trans (if_pos rfl))))
theorem xDo_6 {Q : cS} {π : mS} {σ : sS} {p : Nat} {a b : Int} : xDo Q π σ p 6 a b = xLay (xChk σ (kHeld (σ.2.2.1 a.toNat)) 4) (σ.2.2.1 a.toNat) := (if_pos ⟨by decide, by decide⟩).trans ((if_neg (by decide)).trans ((if_neg (by decide)).trans ((if_neg (by decide)).trans ((if_neg (by decide)).trans (if_pos rfl)))))
theorem xDo_7 {Q : cS} {π : mS} {σ : sS} {p : Nat} {a b : Int} : xDo Q π σ p 7 a b = xPut (xChk (xTA σ).2 (kHeld (xTA σ).1) 3) a.toNat (xTA σ).1 := (if_pos ⟨by decide, by decide⟩).trans ((if_neg (by decide)).trans ((if_neg (by decide)).trans ((if_neg (by decide)).trans ((if_neg (by decide)).trans (if_neg (by decide))))))
theorem xDo_8 {Q : cS} {π : mS} {σ : sS} {p : Nat} {a b : Int} : xDo Q π σ p 8 a b = xLay (xTake Q (xTake Q σ 1) 1) 1 := (if_neg (by decide)).trans ((if_neg (by decide)).trans ((if_neg (by decide)).trans ((if_neg (by decide)).trans (if_pos rfl))))
theorem xDo_9 {Q : cS} {π : mS} {σ : sS} {p : Nat} {a b : Int} : xDo Q π σ p 9 a b = xLay (xTake Q (xTake Q σ 2) 2) 2 := (if_neg (by decide)).trans ((if_neg (by decide)).trans ((if_neg (by decide)).trans ((if_neg (by decide)).trans ((if_neg (by decide)).trans (if_pos rfl)))))
theorem xDo_10 {Q : cS} {π : mS} {σ : sS} {p : Nat} {a b : Int} : xDo Q π σ p 10 a b = xLay (xTake Q σ 1) 2 := (if_neg (by decide)).trans ((if_neg (by decide)).trans ((if_neg (by decide)).trans ((if_neg (by decide)).trans ((if_neg (by decide)).trans ((if_neg (by decide)).trans (if_pos rfl))))))
theorem xDo_11 {Q : cS} {π : mS} {σ : sS} {p : Nat} {a b : Int} : xDo Q π σ p 11 a b = xTake Q σ 1 := (if_neg (by decide)).trans ((if_neg (by decide)).trans ((if_neg (by decide)).trans ((if_neg (by decide)).trans ((if_neg (by decide)).trans ((if_neg (by decide)).trans ((if_neg (by decide)).trans (if_pos rfl)))))))
theorem xDo_12 {Q : cS} {π : mS} {σ : sS} {p : Nat} {a b : Int} : xDo Q π σ p 12 a b = σ := (if_neg (by decide)).trans ((if_neg (by decide)).trans ((if_neg (by decide)).trans ((if_neg (by decide)).trans ((if_neg (by decide)).trans ((if_neg (by decide)).trans ((if_neg (by decide)).trans ((if_neg (by decide)).trans ((if_neg (by decide)).trans ((if_neg (by decide)).trans ((if_neg (by decide)).trans ((if_neg (by decide)).trans (if_neg (by decide)))))))))))))
theorem xDo_13 {Q : cS} {π : mS} {σ : sS} {p : Nat} {a b : Int} : xDo Q π σ p 13 a b = xLay σ (100 + (p : Int)) := (if_neg (by decide)).trans ((if_pos (by decide)).trans (if_pos rfl))
theorem xDo_14 {Q : cS} {π : mS} {σ : sS} {p : Nat} {a b : Int} : xDo Q π σ p 14 a b = xLayTop σ := (if_neg (by decide)).trans ((if_neg (by decide)).trans ((if_neg (by decide)).trans ((if_neg (by decide)).trans ((if_neg (by decide)).trans ((if_neg (by decide)).trans ((if_neg (by decide)).trans ((if_neg (by decide)).trans (if_pos rfl))))))))
theorem xDo_15 {Q : cS} {π : mS} {σ : sS} {p : Nat} {a b : Int} : xDo Q π σ p 15 a b = xMake π σ a := (if_neg (by decide)).trans ((if_pos (by decide)).trans ((if_neg (by decide)).trans (if_pos rfl)))
theorem xDo_16 {Q : cS} {π : mS} {σ : sS} {p : Nat} {a b : Int} : xDo Q π σ p 16 a b = xLay (xTake Q σ (10 + a)) b := (if_neg (by decide)).trans ((if_pos (by decide)).trans ((if_neg (by decide)).trans ((if_neg (by decide)).trans (if_pos rfl))))
theorem xDo_17 {Q : cS} {π : mS} {σ : sS} {p : Nat} {a b : Int} : xDo Q π σ p 17 a b = xLay σ 4 := (if_neg (by decide)).trans ((if_pos (by decide)).trans ((if_neg (by decide)).trans ((if_neg (by decide)).trans ((if_neg (by decide)).trans (if_pos rfl)))))
theorem xDo_18 {Q : cS} {π : mS} {σ : sS} {p : Nat} {a b : Int} : xDo Q π σ p 18 a b = xLay (xChk (xTA σ).2 (kRef (xTA σ).1) 3) (10 + a) := (if_neg (by decide)).trans ((if_pos (by decide)).trans ((if_neg (by decide)).trans ((if_neg (by decide)).trans ((if_neg (by decide)).trans ((if_neg (by decide)).trans (if_pos rfl))))))
theorem xDo_19 {Q : cS} {π : mS} {σ : sS} {p : Nat} {a b : Int} : xDo Q π σ p 19 a b = xLay (xTake Q σ 1) (if a = -1 then 5 else 40 + a) := (if_neg (by decide)).trans ((if_pos (by decide)).trans ((if_neg (by decide)).trans ((if_neg (by decide)).trans ((if_neg (by decide)).trans ((if_neg (by decide)).trans ((if_neg (by decide)).trans (if_pos rfl)))))))
theorem xDo_20 {Q : cS} {π : mS} {σ : sS} {p : Nat} {a b : Int} : xDo Q π σ p 20 a b = xLoadE Q σ := (if_neg (by decide)).trans ((if_pos (by decide)).trans ((if_neg (by decide)).trans ((if_neg (by decide)).trans ((if_neg (by decide)).trans ((if_neg (by decide)).trans ((if_neg (by decide)).trans ((if_neg (by decide)).trans (if_pos rfl))))))))
theorem xDo_21 {Q : cS} {π : mS} {σ : sS} {p : Nat} {a b : Int} : xDo Q π σ p 21 a b = xStoreE Q σ := (if_neg (by decide)).trans ((if_pos (by decide)).trans ((if_neg (by decide)).trans ((if_neg (by decide)).trans ((if_neg (by decide)).trans ((if_neg (by decide)).trans ((if_neg (by decide)).trans ((if_neg (by decide)).trans (if_neg (by decide)))))))))
theorem xDo_22 {Q : cS} {π : mS} {σ : sS} {p : Nat} {a b : Int} : xDo Q π σ p 22 a b = xTake Q σ 11 := (if_neg (by decide)).trans ((if_neg (by decide)).trans ((if_neg (by decide)).trans ((if_neg (by decide)).trans ((if_neg (by decide)).trans ((if_neg (by decide)).trans ((if_neg (by decide)).trans ((if_neg (by decide)).trans ((if_neg (by decide)).trans (if_pos rfl)))))))))
theorem xDo_23 {Q : cS} {π : mS} {σ : sS} {p : Nat} {a b : Int} : xDo Q π σ p 23 a b = xTake Q σ (mRes π) := (if_neg (by decide)).trans ((if_neg (by decide)).trans ((if_neg (by decide)).trans ((if_neg (by decide)).trans ((if_neg (by decide)).trans ((if_neg (by decide)).trans ((if_neg (by decide)).trans ((if_neg (by decide)).trans ((if_neg (by decide)).trans ((if_neg (by decide)).trans (if_pos rfl))))))))))
theorem xDo_24 {Q : cS} {π : mS} {σ : sS} {p : Nat} {a b : Int} : xDo Q π σ p 24 a b = xChk (xTA σ).2 (¬ (xTA σ).1 = 3) 3 := (if_neg (by decide)).trans ((if_neg (by decide)).trans ((if_neg (by decide)).trans ((if_neg (by decide)).trans ((if_neg (by decide)).trans ((if_neg (by decide)).trans ((if_neg (by decide)).trans ((if_neg (by decide)).trans ((if_neg (by decide)).trans ((if_neg (by decide)).trans ((if_neg (by decide)).trans (if_pos rfl)))))))))))
theorem xDo_25 {Q : cS} {π : mS} {σ : sS} {p : Nat} {a b : Int} : xDo Q π σ p 25 a b = xTake Q σ 2 := (if_neg (by decide)).trans ((if_neg (by decide)).trans ((if_neg (by decide)).trans ((if_neg (by decide)).trans ((if_neg (by decide)).trans ((if_neg (by decide)).trans ((if_neg (by decide)).trans ((if_neg (by decide)).trans ((if_neg (by decide)).trans ((if_neg (by decide)).trans ((if_neg (by decide)).trans ((if_neg (by decide)).trans (if_pos rfl))))))))))))
theorem xTake_0 {Q : cS} {σ : sS} : xTake Q σ 0 = σ := by
  unfold xTake; rw [if_neg (by decide), if_pos rfl]
theorem yfr_put {J K : w_Mm} {y a : Nat} {σ : sS} {kd : Int} (h : yfr J y σ.2) (hp : putP J K y (putY σ.2.2.1 a kd)) (hw : pW σ.2.2.1) (ha : a < 8) (h0 : σ.1 = 0) : (xPut σ a kd).1 = 0 ∧ yfr K y (xPut σ a kd).2 ∧ offT J K y ∧ K y 28 = J y 28 := by
  have e : xPut σ a kd = (σ.1, (σ.2.1, uL (brkL σ.2.2.1 (a : Int)) a kd, σ.2.2.2)) := if_pos h0
  obtain ⟨h1, h2, h3, h4, h5⟩ := h
  obtain ⟨g1, g2⟩ := hp
  rw [e, ← putY_eq hw ha]
  exact ⟨h0, ⟨(g2 _ _ (by omega)).trans h1, h2, h3, g1, fun k hk => (g2 _ _ (by omega)).trans (h5 k hk)⟩, fun b k _ u2 _ => g2 _ _ u2, g2 _ _ (by omega)⟩
theorem yfr_putL {J K K2 : w_Mm} {y a : Nat} {σ : sS} (h : yfr J y σ.2) (hp : putP J K y (putY σ.2.2.1 a 2)) (hp2 : putP K K2 y (putY (putY σ.2.2.1 a 2) (a + 1) 3)) (hw : pW σ.2.2.1) (ha : a < 7) (h0 : σ.1 = 0) : (xPutL σ a).1 = 0 ∧ yfr (w_up K2 (y + 24) a 2) y (xPutL σ a).2 ∧ offT J (w_up K2 (y + 24) a 2) y ∧ w_up K2 (y + 24) a 2 y 28 = J y 28 := by
  have e : xPutL σ a = (σ.1, (σ.2.1, uL (brkL (uL (brkL σ.2.2.1 (a : Int)) a 2) ((a + 1 : Nat) : Int)) (a + 1) 3, σ.2.2.2)) := by
    unfold xPutL xPut
    rw [if_pos h0, if_pos h0]
  obtain ⟨h1, h2, h3, h4, h5⟩ := h
  obtain ⟨g1, g2⟩ := hp
  obtain ⟨g3, g4⟩ := hp2
  rw [e, ← (putL_eq hw ha).1]
  have o : ∀ b k, b ≠ y + 24 → w_up K2 (y + 24) a 2 b k = J b k := fun b k u => by rw [w_up_n (by omega), g4 _ _ u, g2 _ _ u]
  refine ⟨h0, ⟨(o _ _ (by omega)).trans h1, h2, h3, fun k hk => ?_, fun k hk => (o _ _ (by omega)).trans (h5 k hk)⟩, fun b k _ u2 _ => o _ _ u2, o _ _ (by omega)⟩
  show w_up K2 (y + 24) a 2 (y + 24) k = uL (putY (putY σ.2.2.1 a 2) (a + 1) 3) a 2 k
  by_cases q : k = a
  · rw [q, w_up_s, uL_s]
  · rw [w_up_n (by omega), uL_n q]; exact g3 k hk
theorem top_pp {σ : sS} (h0 : σ.1 = 0) (h1 : 1 ≤ σ.2.1) (hp : ppP σ.2) : ¬ (xTA σ).1 = 0 ∧ ¬ (xTA σ).1 = 2 := by
  rw [xTA_hi h0 h1]
  have := hp (σ.2.1 - 1).toNat (by omega)
  refine ⟨this.1, fun q => ?_⟩
  have := (this.2 q).1
  omega
theorem tX9_makes {E : w_E} {G : w_Sh} {I : w_Mm} {y : Nat} {Q : cS} {N : Nat} {σ : sS} (hY : isY G y) (hQ : clsY I y Q) (h0 : σ.1 = 0) (hf : yfr I y σ.2) (hkn : knP Q N σ.2) (hN : N ≤ 40) {π : mS} {i : Nat} (hM : yM I y i π) (hi : i < 6) (hnow : I y 29 = (i : Int)) (hNm : N = mN π) {cl : Int} (hcl : hasC Q cl) (hq16 : Q.1 ≤ 16) : w_Ct E mX9_makes 2 [.ref y, iv cl] G I 0 0 (w_Pi (fun r G' J => G' = G ∧ sPost y I J r (xMake π σ cl))) := by
  obtain ⟨hTy, hYr⟩ := hY
  have hQ0 := hQ
  have hf0 := hf
  obtain ⟨hf27, hfh0, hfh8, hfL, hfP⟩ := hf
  have hM0 := hM
  obtain ⟨hm3, hm4, hm4b, hm5, hm6, hm6b, hm7, hm10, hm10b, hm11⟩ := hM
  have hclr : inR cl := ⟨by omega, by omega⟩
  have h10r : inR (10 + cl) := ⟨by omega, by omega⟩
  refine w_Ct.of (ls := [some (.ref y), some (iv cl), none, none, none]) (by decide +kernel) (Nat.le_of_ble_eq_true rfl) rfl rfl (fun rng => ?_)
  refine v_aload_n dX9_makes_0 rfl ?_
  refine v_iconst dX9_makes_1 ?_
  refine v_Vi (tX9_wants (⟨hTy, hYr⟩ : isY G y) (φ := σ.2) hf0 ⟨by decide, by decide⟩) kX9_154 hTy rfl rfl ⟨by decide, by decide⟩ ⟨by decide, by decide⟩ (Nat.le_of_ble_eq_true rfl) dX9_makes_2 (fun r3 G9 J1 hr3 pJ1 rng2 => ?_)
  obtain ⟨hG9, ⟨rfl, wJ1, eJ1⟩ | ⟨rfl, wJ1, rfl⟩⟩ := pJ1
  all_goals obtain rfl := hG9.symm
  · obtain rfl := eJ1.symm
    refine v_if_ne ⟨by decide, by decide⟩ dX9_makes_5 (fun hb5 => ?_) (fun h => by exfalso; omega)
    refine v_aload_n dX9_makes_10 rfl ?_
    refine v_VmN (tX9_top (⟨hTy, hYr⟩ : isY G y) hQ0 (σ := σ) h0 hf0 hkn hN wJ1) kX9_173 hTy rfl rfl ⟨by decide, by decide⟩ ⟨by decide, by decide⟩ (Nat.le_of_ble_eq_true rfl) dX9_makes_11 (fun r4 er4 hr4 rng5 => ?_)
    subst er4
    refine v_istore_n dX9_makes_14 (by decide) rfl ?_
    have kt := (hkn).top
    refine v_iload_n dX9_makes_15 rfl ?_
    refine v_bipush dX9_makes_16 (by decide) ?_
    refine v_icmp_lt hr4 ⟨by decide, by decide⟩ dX9_makes_18 (fun h6 => ?_) (fun h6 => ?_)
    · refine v_iconst dX9_makes_68 ?_
      have hP : ¬ couK π (xTA σ).1 = cl := by unfold couK; rw [if_neg (by omega)]; omega
      refine v_istore_n dX9_makes_69 (by decide) rfl ?_
      refine v_aload_n dX9_makes_70 rfl ?_
      refine v_iload_n dX9_makes_71 rfl ?_
      refine v_Vi (tX9_takesTop (⟨hTy, hYr⟩ : isY G y) hQ0 (σ := σ) h0 hf0 hkn hN wJ1 (P := couK π (xTA σ).1 = cl) (by omega)) kX9_177 hTy rfl rfl ⟨by decide, by decide⟩ ⟨by decide, by decide⟩ (Nat.le_of_ble_eq_true rfl) dX9_makes_72 (fun r9 G9 J7 hr9 pJ7 rng8 => ?_)
      obtain ⟨hG9, oJ7, ⟨rfl, zJ7, fJ7, bJ7⟩ | ⟨rfl, zJ7, bJ7⟩⟩ := pJ7
      all_goals obtain rfl := hG9.symm
      · exact absurd zJ7 (by rw [xChk_n (by omega)]; exact xBrk_ne (by decide))
      · refine v_if_ne ⟨by decide, by decide⟩ dX9_makes_75 (fun h => by exfalso; omega) (fun hb75 => ?_)
        refine v_iconst dX9_makes_78 ?_
        have eF : xMake π σ cl = xChk (xTA σ).2 (couK π (xTA σ).1 = cl) 3 := by unfold xMake; exact if_neg zJ7
        rw [eF]
        exact v_zret rfl (by decide) (by decide) (Or.inl rfl) dX9_makes_79 ⟨rfl, oJ7, Or.inr ⟨rfl, zJ7, bJ7⟩⟩
    · refine v_aload_n dX9_makes_21 rfl ?_
      refine v_getR fX9_33 rfl hTy (hYr 6 _ rfl).2 dX9_makes_22 ?_
      refine v_bipush dX9_makes_25 (by decide) ?_
      refine v_aload_n dX9_makes_27 rfl ?_
      refine v_getI' (v := ((i : Nat) : Int)) hnow fX9_181 rfl hTy dX9_makes_28 ?_
      refine v_imul dX9_makes_31 ?_
      refine v_iload_n dX9_makes_32 rfl ?_
      refine v_iadd dX9_makes_33 ?_
      refine v_bipush dX9_makes_34 (by decide) ?_
      refine v_isub dX9_makes_36 ?_
      refine v_iald' (i := (40 * i + ((xTA σ).1 - 100).toNat)) (v := mOp π ((xTA σ).1 - 100).toNat) ((hm7 ((xTA σ).1 - 100).toNat (by omega)).1) (show G.1 (y + 7) = (10, 240) from (hYr 6 _ rfl).1) (by omega) (by omega) (by omega) dX9_makes_37 ?_
      refine v_bipush dX9_makes_38 (by decide) ?_
      refine v_icmp_ne (by rw [← (hm7 _ (by omega)).1]; exact rng _ _) ⟨by decide, by decide⟩ dX9_makes_40 (fun h10 => ?_) (fun h10 => ?_)
      · refine v_iconst dX9_makes_68 ?_
        have hP : ¬ couK π (xTA σ).1 = cl := by unfold couK; rw [if_neg (fun q => h10 q.2.2)]; omega
        refine v_istore_n dX9_makes_69 (by decide) rfl ?_
        refine v_aload_n dX9_makes_70 rfl ?_
        refine v_iload_n dX9_makes_71 rfl ?_
        refine v_Vi (tX9_takesTop (⟨hTy, hYr⟩ : isY G y) hQ0 (σ := σ) h0 hf0 hkn hN wJ1 (P := couK π (xTA σ).1 = cl) (by omega)) kX9_177 hTy rfl rfl ⟨by decide, by decide⟩ ⟨by decide, by decide⟩ (Nat.le_of_ble_eq_true rfl) dX9_makes_72 (fun r13 G9 J11 hr13 pJ11 rng12 => ?_)
        obtain ⟨hG9, oJ11, ⟨rfl, zJ11, fJ11, bJ11⟩ | ⟨rfl, zJ11, bJ11⟩⟩ := pJ11
        all_goals obtain rfl := hG9.symm
        · exact absurd zJ11 (by rw [xChk_n (by omega)]; exact xBrk_ne (by decide))
        · refine v_if_ne ⟨by decide, by decide⟩ dX9_makes_75 (fun h => by exfalso; omega) (fun hb75 => ?_)
          refine v_iconst dX9_makes_78 ?_
          have eF : xMake π σ cl = xChk (xTA σ).2 (couK π (xTA σ).1 = cl) 3 := by unfold xMake; exact if_neg zJ11
          rw [eF]
          exact v_zret rfl (by decide) (by decide) (Or.inl rfl) dX9_makes_79 ⟨rfl, oJ11, Or.inr ⟨rfl, zJ11, bJ11⟩⟩
      · refine v_aload_n dX9_makes_43 rfl ?_
        refine v_getR fX9_36 rfl hTy (hYr 7 _ rfl).2 dX9_makes_44 ?_
        refine v_bipush dX9_makes_47 (by decide) ?_
        refine v_aload_n dX9_makes_49 rfl ?_
        refine v_getI' (v := ((i : Nat) : Int)) hnow fX9_181 rfl hTy dX9_makes_50 ?_
        refine v_imul dX9_makes_53 ?_
        refine v_iload_n dX9_makes_54 rfl ?_
        refine v_iadd dX9_makes_55 ?_
        refine v_bipush dX9_makes_56 (by decide) ?_
        refine v_isub dX9_makes_58 ?_
        refine v_iald' (i := (40 * i + ((xTA σ).1 - 100).toNat)) (v := mA π ((xTA σ).1 - 100).toNat) ((hm7 ((xTA σ).1 - 100).toNat (by omega)).2.1) (show G.1 (y + 8) = (10, 240) from (hYr 7 _ rfl).1) (by omega) (by omega) (by omega) dX9_makes_59 ?_
        refine v_iload_n dX9_makes_60 rfl ?_
        refine v_icmp_ne (by rw [← (hm7 _ (by omega)).2.1]; exact rng _ _) hclr dX9_makes_61 (fun h14 => ?_) (fun h14 => ?_)
        · refine v_iconst dX9_makes_68 ?_
          have hP : ¬ couK π (xTA σ).1 = cl := by unfold couK; rw [if_pos (show 100 ≤ (xTA σ).1 ∧ (xTA σ).1 - 100 < (mN π : Int) ∧ mOp π ((xTA σ).1 - 100).toNat = 13 from ⟨by omega, by omega, h10⟩)]; exact h14
          refine v_istore_n dX9_makes_69 (by decide) rfl ?_
          refine v_aload_n dX9_makes_70 rfl ?_
          refine v_iload_n dX9_makes_71 rfl ?_
          refine v_Vi (tX9_takesTop (⟨hTy, hYr⟩ : isY G y) hQ0 (σ := σ) h0 hf0 hkn hN wJ1 (P := couK π (xTA σ).1 = cl) (by omega)) kX9_177 hTy rfl rfl ⟨by decide, by decide⟩ ⟨by decide, by decide⟩ (Nat.le_of_ble_eq_true rfl) dX9_makes_72 (fun r17 G9 J15 hr17 pJ15 rng16 => ?_)
          obtain ⟨hG9, oJ15, ⟨rfl, zJ15, fJ15, bJ15⟩ | ⟨rfl, zJ15, bJ15⟩⟩ := pJ15
          all_goals obtain rfl := hG9.symm
          · exact absurd zJ15 (by rw [xChk_n (by omega)]; exact xBrk_ne (by decide))
          · refine v_if_ne ⟨by decide, by decide⟩ dX9_makes_75 (fun h => by exfalso; omega) (fun hb75 => ?_)
            refine v_iconst dX9_makes_78 ?_
            have eF : xMake π σ cl = xChk (xTA σ).2 (couK π (xTA σ).1 = cl) 3 := by unfold xMake; exact if_neg zJ15
            rw [eF]
            exact v_zret rfl (by decide) (by decide) (Or.inl rfl) dX9_makes_79 ⟨rfl, oJ15, Or.inr ⟨rfl, zJ15, bJ15⟩⟩
        · refine v_iconst dX9_makes_64 ?_
          refine v_goto dX9_makes_65 ?_
          have hP : couK π (xTA σ).1 = cl := by unfold couK; rw [if_pos (show 100 ≤ (xTA σ).1 ∧ (xTA σ).1 - 100 < (mN π : Int) ∧ mOp π ((xTA σ).1 - 100).toNat = 13 from ⟨by omega, by omega, h10⟩)]; exact h14
          refine v_istore_n dX9_makes_69 (by decide) rfl ?_
          refine v_aload_n dX9_makes_70 rfl ?_
          refine v_iload_n dX9_makes_71 rfl ?_
          refine v_Vi (tX9_takesTop (⟨hTy, hYr⟩ : isY G y) hQ0 (σ := σ) h0 hf0 hkn hN wJ1 (P := couK π (xTA σ).1 = cl) (by omega)) kX9_177 hTy rfl rfl ⟨by decide, by decide⟩ ⟨by decide, by decide⟩ (Nat.le_of_ble_eq_true rfl) dX9_makes_72 (fun r20 G9 J18 hr20 pJ18 rng19 => ?_)
          obtain ⟨hG9, oJ18, ⟨rfl, zJ18, fJ18, bJ18⟩ | ⟨rfl, zJ18, bJ18⟩⟩ := pJ18
          all_goals obtain rfl := hG9.symm
          · have qJ18 := hQ0.T oJ18
            have kJ18 : knP Q N (xChk (xTA σ).2 (couK π (xTA σ).1 = cl) 3).2 := hkn.ta.chk
            refine v_if_ne ⟨by decide, by decide⟩ dX9_makes_75 (fun hb75 => ?_) (fun h => by exfalso; omega)
            refine v_iconst dX9_makes_80 ?_
            refine v_istore dX9_makes_81 (by decide) rfl ?_
            have hd0 := fJ18.2.1
            have hd8 := fJ18.2.2.1
            have htr : inR (xTA σ).1 := ⟨by omega, by omega⟩
            have hg1 : ∀ k : Nat, k < 8 → inR ((fun k => if (xChk (xTA σ).2 (couK π (xTA σ).1 = cl) 3).2.2.1 k = (xTA σ).1 then 10 + cl else (xChk (xTA σ).2 (couK π (xTA σ).1 = cl) 3).2.2.1 k) k) := fun k hk => by
              show inR (if _ = (xTA σ).1 then 10 + cl else _)
              split
              · exact h10r
              · rw [← fJ18.2.2.2.1 k hk]; exact rng19 _ _
            have hg2 : ∀ k : Nat, (k : Int) < (xChk (xTA σ).2 (couK π (xTA σ).1 = cl) 3).2.1 → inR ((fun k => if (xChk (xTA σ).2 (couK π (xTA σ).1 = cl) 3).2.2.2 k = (xTA σ).1 then 10 + cl else (xChk (xTA σ).2 (couK π (xTA σ).1 = cl) 3).2.2.2 k) k) := fun k hk => by
              show inR (if _ = (xTA σ).1 then 10 + cl else _)
              split
              · exact h10r
              · rw [← fJ18.2.2.2.2 k hk]; exact rng19 _ _
            have rng8 := w_rngm (a := y + 24) (j := 8) rng19 hg1
            have loop2 : ∀ m j : Nat, (j : Int) + m = (xChk (xTA σ).2 (couK π (xTA σ).1 = cl) 3).2.1 → w_V E mX9_makes (w_rm 2 0 0) (w_Z E 0 0 (w_Pi (fun r G' J => G' = G ∧ sPost y I J r (xMake π σ cl)))) G (w_map (w_map J18 (y + 24) 8 (fun k => if (xChk (xTA σ).2 (couK π (xTA σ).1 = cl) 3).2.2.1 k = (xTA σ).1 then 10 + cl else (xChk (xTA σ).2 (couK π (xTA σ).1 = cl) 3).2.2.1 k)) (y + 25) j (fun k => if (xChk (xTA σ).2 (couK π (xTA σ).1 = cl) 3).2.2.2 k = (xTA σ).1 then 10 + cl else (xChk (xTA σ).2 (couK π (xTA σ).1 = cl) 3).2.2.2 k)) 0 0 131 [some (.ref y), some (iv cl), some (iv (xTA σ).1), some (iv 1), some (iv (j : Int))] [] := by
              intro m
              induction m with
              | zero =>
                intro j hj
                refine v_iload dX9_makes_131 rfl ?_
                refine v_aload_n dX9_makes_133 rfl ?_
                refine v_getI' (v := (xChk (xTA σ).2 (couK π (xTA σ).1 = cl) 3).2.1) (by rw [w_map_o (by omega), w_map_o (by omega), fJ18.1]) fX9_148 rfl hTy dX9_makes_134 ?_
                refine v_icmp_ge ⟨by omega, by omega⟩ ⟨by have := fJ18.2.1; have := fJ18.2.2.1; omega, by have := fJ18.2.1; have := fJ18.2.2.1; omega⟩ dX9_makes_137 (fun hb137 => ?_) (fun h => by exfalso; omega)
                refine v_iconst dX9_makes_178 ?_
                obtain ⟨g7, g8, g9⟩ := yfr_repl (ol := (xTA σ).1) (kd := 10 + cl) fJ18 (d := j) (by omega) rfl
                have eF : xMake π σ cl = ((xChk (xTA σ).2 (couK π (xTA σ).1 = cl) 3).1, replF (xChk (xTA σ).2 (couK π (xTA σ).1 = cl) 3).2 (xTA σ).1 (10 + cl)) := if_pos zJ18
                rw [eF]
                exact v_zret rfl (by decide) (by decide) (Or.inr rfl) dX9_makes_179 ⟨rfl, (oJ18).tr g8, Or.inl ⟨rfl, zJ18, g7, g9.trans bJ18⟩⟩
              | succ m ih =>
                intro j hj
                have rngj := w_rngm (a := y + 25) (j := j) rng8 (fun k hk => hg2 k (by omega))
                refine v_iload dX9_makes_131 rfl ?_
                refine v_aload_n dX9_makes_133 rfl ?_
                refine v_getI' (v := (xChk (xTA σ).2 (couK π (xTA σ).1 = cl) 3).2.1) (by rw [w_map_o (by omega), w_map_o (by omega), fJ18.1]) fX9_148 rfl hTy dX9_makes_134 ?_
                refine v_icmp_ge ⟨by omega, by omega⟩ ⟨by have := fJ18.2.1; have := fJ18.2.2.1; omega, by have := fJ18.2.1; have := fJ18.2.2.1; omega⟩ dX9_makes_137 (fun h => by exfalso; omega) (fun hb137 => ?_)
                refine v_aload_n dX9_makes_140 rfl ?_
                refine v_getR fX9_87 rfl hTy (hYr 24 _ rfl).2 dX9_makes_141 ?_
                refine v_iload dX9_makes_144 rfl ?_
                refine v_aload_n dX9_makes_146 rfl ?_
                refine v_getR fX9_87 rfl hTy (hYr 24 _ rfl).2 dX9_makes_147 ?_
                refine v_iload dX9_makes_150 rfl ?_
                refine v_iald' (i := j) (v := (xChk (xTA σ).2 (couK π (xTA σ).1 = cl) 3).2.2.2 (j)) (by rw [w_map_o (by omega), w_map_o (by omega), (fJ18.2.2.2.2 (j) (by omega))]) (show G.1 (y + 25) = (10, 8) from (hYr 24 _ rfl).1) rfl (by omega) (by omega) dX9_makes_152 ?_
                refine v_iload_n dX9_makes_153 rfl ?_
                refine v_icmp_ne (by rw [← fJ18.2.2.2.2 (j) (by omega)]; exact rng19 _ _) htr dX9_makes_154 (fun h1 => ?_) (fun h1 => ?_)
                · refine v_aload_n dX9_makes_164 rfl ?_
                  refine v_getR fX9_87 rfl hTy (hYr 24 _ rfl).2 dX9_makes_165 ?_
                  refine v_iload dX9_makes_168 rfl ?_
                  refine v_iald' (i := j) (v := (xChk (xTA σ).2 (couK π (xTA σ).1 = cl) 3).2.2.2 (j)) (by rw [w_map_o (by omega), w_map_o (by omega), (fJ18.2.2.2.2 (j) (by omega))]) (show G.1 (y + 25) = (10, 8) from (hYr 24 _ rfl).1) rfl (by omega) (by omega) dX9_makes_170 ?_
                  refine v_iast (i := j) (show G.1 (y + 25) = (10, 8) from (hYr 24 _ rfl).1) rfl (by omega) (by omega) (by rw [← fJ18.2.2.2.2 (j) (by omega)]; exact rng19 _ _) dX9_makes_171 ?_
                  have rng2 := w_rng (a := y + 25) (f := j) rngj (show inR ((xChk (xTA σ).2 (couK π (xTA σ).1 = cl) 3).2.2.2 (j)) from (by rw [← fJ18.2.2.2.2 (j) (by omega)]; exact rng19 _ _))
                  refine v_iinc dX9_makes_172 rfl (by decide) rfl rfl ?_
                  refine v_goto dX9_makes_175 ?_
                  refine v_mem (w_map_s (by first | rw [if_pos (by assumption)] | rw [if_neg (by assumption)])) ?_
                  exact ih (j + 1) (by omega)
                · refine v_bipush dX9_makes_157 (by decide) ?_
                  refine v_iload_n dX9_makes_159 rfl ?_
                  refine v_iadd dX9_makes_160 ?_
                  refine v_goto dX9_makes_161 ?_
                  refine v_iast (i := j) (show G.1 (y + 25) = (10, 8) from (hYr 24 _ rfl).1) rfl (by omega) (by omega) ⟨by omega, by omega⟩ dX9_makes_171 ?_
                  have rng3 := w_rng (a := y + 25) (f := j) rngj (show inR ((10 + cl)) from ⟨by omega, by omega⟩)
                  refine v_iinc dX9_makes_172 rfl (by decide) rfl rfl ?_
                  refine v_goto dX9_makes_175 ?_
                  refine v_mem (w_map_s (by first | rw [if_pos (by assumption)] | rw [if_neg (by assumption)])) ?_
                  exact ih (j + 1) (by omega)
            have loop1 : ∀ m j : Nat, j + m = 8 → w_V E mX9_makes (w_rm 2 0 0) (w_Z E 0 0 (w_Pi (fun r G' J => G' = G ∧ sPost y I J r (xMake π σ cl)))) G (w_map J18 (y + 24) j (fun k => if (xChk (xTA σ).2 (couK π (xTA σ).1 = cl) 3).2.2.1 k = (xTA σ).1 then 10 + cl else (xChk (xTA σ).2 (couK π (xTA σ).1 = cl) 3).2.2.1 k)) 0 0 83 [some (.ref y), some (iv cl), some (iv (xTA σ).1), some (iv 1), some (iv (j : Int))] [] := by
              intro m
              induction m with
              | zero =>
                intro j hj
                obtain rfl : j = 8 := by omega
                refine v_iload dX9_makes_83 rfl ?_
                refine v_bipush dX9_makes_85 (by decide) ?_
                refine v_icmp_ge ⟨by omega, by omega⟩ ⟨by decide, by decide⟩ dX9_makes_87 (fun hb87 => ?_) (fun h => by exfalso; omega)
                refine v_iconst dX9_makes_128 ?_
                refine v_istore dX9_makes_129 (by decide) rfl ?_
                exact v_mem w_map_0.symm (loop2 (xChk (xTA σ).2 (couK π (xTA σ).1 = cl) 3).2.1.toNat 0 (by omega))
              | succ m ih =>
                intro j hj
                have rngj := w_rngm (a := y + 24) (j := j) rng19 (fun k hk => hg1 k (by omega))
                refine v_iload dX9_makes_83 rfl ?_
                refine v_bipush dX9_makes_85 (by decide) ?_
                refine v_icmp_ge ⟨by omega, by omega⟩ ⟨by decide, by decide⟩ dX9_makes_87 (fun h => by exfalso; omega) (fun hb87 => ?_)
                refine v_aload_n dX9_makes_90 rfl ?_
                refine v_getR fX9_84 rfl hTy (hYr 23 _ rfl).2 dX9_makes_91 ?_
                refine v_iload dX9_makes_94 rfl ?_
                refine v_aload_n dX9_makes_96 rfl ?_
                refine v_getR fX9_84 rfl hTy (hYr 23 _ rfl).2 dX9_makes_97 ?_
                refine v_iload dX9_makes_100 rfl ?_
                refine v_iald' (i := j) (v := (xChk (xTA σ).2 (couK π (xTA σ).1 = cl) 3).2.2.1 (j)) (by rw [w_map_o (by omega), (fJ18.2.2.2.1 (j) (by omega))]) (show G.1 (y + 24) = (10, 8) from (hYr 23 _ rfl).1) rfl (by omega) (by omega) dX9_makes_102 ?_
                refine v_iload_n dX9_makes_103 rfl ?_
                refine v_icmp_ne (by rw [← fJ18.2.2.2.1 (j) (by omega)]; exact rng19 _ _) htr dX9_makes_104 (fun h1 => ?_) (fun h1 => ?_)
                · refine v_aload_n dX9_makes_114 rfl ?_
                  refine v_getR fX9_84 rfl hTy (hYr 23 _ rfl).2 dX9_makes_115 ?_
                  refine v_iload dX9_makes_118 rfl ?_
                  refine v_iald' (i := j) (v := (xChk (xTA σ).2 (couK π (xTA σ).1 = cl) 3).2.2.1 (j)) (by rw [w_map_o (by omega), (fJ18.2.2.2.1 (j) (by omega))]) (show G.1 (y + 24) = (10, 8) from (hYr 23 _ rfl).1) rfl (by omega) (by omega) dX9_makes_120 ?_
                  refine v_iast (i := j) (show G.1 (y + 24) = (10, 8) from (hYr 23 _ rfl).1) rfl (by omega) (by omega) (by rw [← fJ18.2.2.2.1 (j) (by omega)]; exact rng19 _ _) dX9_makes_121 ?_
                  have rng2 := w_rng (a := y + 24) (f := j) rngj (show inR ((xChk (xTA σ).2 (couK π (xTA σ).1 = cl) 3).2.2.1 (j)) from (by rw [← fJ18.2.2.2.1 (j) (by omega)]; exact rng19 _ _))
                  refine v_iinc dX9_makes_122 rfl (by decide) rfl rfl ?_
                  refine v_goto dX9_makes_125 ?_
                  refine v_mem (w_map_s (by first | rw [if_pos (by assumption)] | rw [if_neg (by assumption)])) ?_
                  exact ih (j + 1) (by omega)
                · refine v_bipush dX9_makes_107 (by decide) ?_
                  refine v_iload_n dX9_makes_109 rfl ?_
                  refine v_iadd dX9_makes_110 ?_
                  refine v_goto dX9_makes_111 ?_
                  refine v_iast (i := j) (show G.1 (y + 24) = (10, 8) from (hYr 23 _ rfl).1) rfl (by omega) (by omega) ⟨by omega, by omega⟩ dX9_makes_121 ?_
                  have rng3 := w_rng (a := y + 24) (f := j) rngj (show inR ((10 + cl)) from ⟨by omega, by omega⟩)
                  refine v_iinc dX9_makes_122 rfl (by decide) rfl rfl ?_
                  refine v_goto dX9_makes_125 ?_
                  refine v_mem (w_map_s (by first | rw [if_pos (by assumption)] | rw [if_neg (by assumption)])) ?_
                  exact ih (j + 1) (by omega)
            exact v_mem w_map_0.symm (loop1 8 0 rfl)
          · exact absurd (by rw [xChk_y (by omega), xTA_hi h0 wJ1]; exact h0) zJ18
  · refine v_if_ne ⟨by decide, by decide⟩ dX9_makes_5 (fun h => by exfalso; omega) (fun hb5 => ?_)
    refine v_iconst dX9_makes_8 ?_
    have eF : (xMake π σ cl).1 = 2 := by have h9 : xTA σ = (0, (2, σ.2)) := xTA_lo h0 (by omega); have n9 : ¬ ((2 : Int), σ.2).1 = 0 := (by decide : ¬ (2 : Int) = 0); unfold xMake xMake0; rw [h9, xChk_st n9, if_neg n9]
    exact v_zret rfl (by decide) (by decide) (Or.inl rfl) dX9_makes_9 ⟨rfl, offT_28, Or.inr ⟨rfl, by rw [eF]; decide, by rw [eF, w_up_s]⟩⟩
theorem tX9_mv0 {E : w_E} {G : w_Sh} {I : w_Mm} {y : Nat} {Q : cS} {N : Nat} {σ : sS} (hY : isY G y) (hQ : clsY I y Q) (h0 : σ.1 = 0) (hf : yfr I y σ.2) (hkn : knP Q N σ.2) (hN : N ≤ 40) (hpw : pW σ.2.2.1) (hkL : ∀ k, k < 8 → knK Q N (σ.2.2.1 k)) {π : mS} {p : Nat} {b : Int} {a : Int} (ha : inR a) : w_Ct E mX9_moves 4 [.ref y, iv 0, iv a] G I 0 0 (w_Pi (fun r G' J => G' = G ∧ sPost y I J r (xDo Q π σ p 0 a b))) := by
  rw [xDo_0]
  obtain ⟨hTy, hYr⟩ := hY
  have hQ0 := hQ
  have hf0 := hf
  obtain ⟨hf27, hfh0, hfh8, hfL, hfP⟩ := hf
  refine w_Ct.of (ls := [some (.ref y), some (iv 0), some (iv a), none]) (by decide +kernel) (Nat.le_of_ble_eq_true rfl) rfl rfl (fun rng => ?_)
  refine v_iload_n dX9_moves_0 rfl ?_
  refine v_tswIn (off := 43) (tgt := 44) dX9_moves_1 ⟨by decide, by decide⟩ (by decide) (by decide) (by decide) (by decide) ?_
  refine v_aload_n dX9_moves_44 rfl ?_
  refine v_iconst dX9_moves_45 ?_
  refine v_Vi (tX9_lays (⟨hTy, hYr⟩ : isY G y) hQ0 (σ := σ) h0 hf0 hkn hN (by first | exact Or.inl ⟨by decide, by decide⟩ | omega) (by omega)) kX9_160 hTy rfl rfl ⟨by decide, by decide⟩ ⟨by decide, by decide⟩ (Nat.le_of_ble_eq_true rfl) dX9_moves_46 (fun r3 G9 J1 hr3 pJ1 rng2 => ?_)
  obtain ⟨hG9, oJ1, ⟨rfl, zJ1, fJ1, bJ1⟩ | ⟨rfl, zJ1, bJ1⟩⟩ := pJ1
  all_goals obtain rfl := hG9.symm
  · have qJ1 := hQ0.T oJ1
    exact v_zret rfl (by decide) (by decide) (Or.inr rfl) dX9_moves_49 ⟨rfl, oJ1, Or.inl ⟨rfl, zJ1, fJ1, bJ1⟩⟩
  · exact v_zret rfl (by decide) (by decide) (Or.inl rfl) dX9_moves_49 ⟨rfl, oJ1, Or.inr ⟨rfl, zJ1, bJ1⟩⟩
theorem tX9_mv1 {E : w_E} {G : w_Sh} {I : w_Mm} {y : Nat} {Q : cS} {N : Nat} {σ : sS} (hY : isY G y) (hQ : clsY I y Q) (h0 : σ.1 = 0) (hf : yfr I y σ.2) (hkn : knP Q N σ.2) (hN : N ≤ 40) (hpw : pW σ.2.2.1) (hkL : ∀ k, k < 8 → knK Q N (σ.2.2.1 k)) {π : mS} {p : Nat} {b : Int} {a : Int} (ha : inR a) : w_Ct E mX9_moves 4 [.ref y, iv 1, iv a] G I 0 0 (w_Pi (fun r G' J => G' = G ∧ sPost y I J r (xDo Q π σ p 1 a b))) := by
  rw [xDo_1]
  obtain ⟨hTy, hYr⟩ := hY
  have hQ0 := hQ
  have hf0 := hf
  obtain ⟨hf27, hfh0, hfh8, hfL, hfP⟩ := hf
  refine w_Ct.of (ls := [some (.ref y), some (iv 1), some (iv a), none]) (by decide +kernel) (Nat.le_of_ble_eq_true rfl) rfl rfl (fun rng => ?_)
  refine v_iload_n dX9_moves_0 rfl ?_
  refine v_tswIn (off := 49) (tgt := 50) dX9_moves_1 ⟨by decide, by decide⟩ (by decide) (by decide) (by decide) (by decide) ?_
  refine v_aload_n dX9_moves_50 rfl ?_
  refine v_iconst dX9_moves_51 ?_
  refine v_Vi (tX9_lays (⟨hTy, hYr⟩ : isY G y) hQ0 (σ := σ) h0 hf0 hkn hN (by first | exact Or.inl ⟨by decide, by decide⟩ | omega) (by omega)) kX9_160 hTy rfl rfl ⟨by decide, by decide⟩ ⟨by decide, by decide⟩ (Nat.le_of_ble_eq_true rfl) dX9_moves_52 (fun r3 G9 J1 hr3 pJ1 rng2 => ?_)
  obtain ⟨hG9, oJ1, ⟨rfl, zJ1, fJ1, bJ1⟩ | ⟨rfl, zJ1, bJ1⟩⟩ := pJ1
  all_goals obtain rfl := hG9.symm
  · have qJ1 := hQ0.T oJ1
    exact v_zret rfl (by decide) (by decide) (Or.inr rfl) dX9_moves_55 ⟨rfl, oJ1, Or.inl ⟨rfl, zJ1, fJ1, bJ1⟩⟩
  · exact v_zret rfl (by decide) (by decide) (Or.inl rfl) dX9_moves_55 ⟨rfl, oJ1, Or.inr ⟨rfl, zJ1, bJ1⟩⟩
theorem tX9_mv2 {E : w_E} {G : w_Sh} {I : w_Mm} {y : Nat} {Q : cS} {N : Nat} {σ : sS} (hY : isY G y) (hQ : clsY I y Q) (h0 : σ.1 = 0) (hf : yfr I y σ.2) (hkn : knP Q N σ.2) (hN : N ≤ 40) (hpw : pW σ.2.2.1) (hkL : ∀ k, k < 8 → knK Q N (σ.2.2.1 k)) {π : mS} {p : Nat} {b : Int} {a : Nat} (ha : a < 8) : w_Ct E mX9_moves 4 [.ref y, iv 2, iv (a : Int)] G I 0 0 (w_Pi (fun r G' J => G' = G ∧ sPost y I J r (xDo Q π σ p 2 (a : Int) b))) := by
  rw [xDo_2]
  rw [show ((a : Nat) : Int).toNat = a from rfl]
  obtain ⟨hTy, hYr⟩ := hY
  have hQ0 := hQ
  have hf0 := hf
  obtain ⟨hf27, hfh0, hfh8, hfL, hfP⟩ := hf
  refine w_Ct.of (ls := [some (.ref y), some (iv 2), some (iv (a : Int)), none]) (by decide +kernel) (Nat.le_of_ble_eq_true rfl) rfl rfl (fun rng => ?_)
  refine v_iload_n dX9_moves_0 rfl ?_
  refine v_tswIn (off := 55) (tgt := 56) dX9_moves_1 ⟨by decide, by decide⟩ (by decide) (by decide) (by decide) (by decide) ?_
  refine v_aload_n dX9_moves_56 rfl ?_
  refine v_getR fX9_84 rfl hTy (hYr 23 _ rfl).2 dX9_moves_57 ?_
  refine v_iload_n dX9_moves_60 rfl ?_
  refine v_iald' (i := a) (v := σ.2.2.1 (a)) (hfL (a) (by omega)) (show G.1 (y + 24) = (10, 8) from (hYr 23 _ rfl).1) rfl (by omega) (by omega) dX9_moves_61 ?_
  refine v_iconst dX9_moves_62 ?_
  refine v_icmp_eq (by rw [← hfL (a) (by omega)]; exact rng _ _) ⟨by decide, by decide⟩ dX9_moves_63 (fun h1 => ?_) (fun h1 => ?_)
  · refine v_aload_n dX9_moves_74 rfl ?_
    refine v_iconst dX9_moves_75 ?_
    refine v_Vi (tX9_lays (⟨hTy, hYr⟩ : isY G y) hQ0 (σ := σ) h0 hf0 hkn hN (by first | exact Or.inl ⟨by decide, by decide⟩ | omega) (by omega)) kX9_160 hTy rfl rfl ⟨by decide, by decide⟩ ⟨by decide, by decide⟩ (Nat.le_of_ble_eq_true rfl) dX9_moves_76 (fun r4 G9 J2 hr4 pJ2 rng3 => ?_)
    obtain ⟨hG9, oJ2, ⟨rfl, zJ2, fJ2, bJ2⟩ | ⟨rfl, zJ2, bJ2⟩⟩ := pJ2
    all_goals obtain rfl := hG9.symm
    · have qJ2 := hQ0.T oJ2
      refine v_if_eq ⟨by decide, by decide⟩ dX9_moves_79 (fun h => by exfalso; omega) (fun hb79 => ?_)
      refine v_iconst dX9_moves_82 ?_
      refine v_goto dX9_moves_83 ?_
      have eF : xLay (xChk σ (σ.2.2.1 a = 1) 4) 1 = (xLay σ (1)) := by rw [xChk_y h1]
      rw [eF]
      exact v_zret rfl (by decide) (by decide) (Or.inr rfl) dX9_moves_87 ⟨rfl, oJ2, Or.inl ⟨rfl, zJ2, fJ2, bJ2⟩⟩
    · refine v_if_eq ⟨by decide, by decide⟩ dX9_moves_79 (fun hb79 => ?_) (fun h => by exfalso; omega)
      refine v_iconst dX9_moves_86 ?_
      have eF : xLay (xChk σ (σ.2.2.1 a = 1) 4) 1 = xLay σ (1) := by rw [xChk_y h1]
      rw [eF]
      exact v_zret rfl (by decide) (by decide) (Or.inl rfl) dX9_moves_87 ⟨rfl, oJ2, Or.inr ⟨rfl, zJ2, bJ2⟩⟩
  · refine v_aload_n dX9_moves_66 rfl ?_
    refine v_iconst dX9_moves_67 ?_
    refine v_VmN (tX9_breaks (⟨hTy, hYr⟩ : isY G y) ⟨by decide, by decide⟩) kX9_151 hTy rfl rfl ⟨by decide, by decide⟩ ⟨by decide, by decide⟩ (Nat.le_of_ble_eq_true rfl) dX9_moves_68 (fun r5 er5 hr5 rng6 => ?_)
    subst er5
    refine v_if_eq ⟨by decide, by decide⟩ dX9_moves_71 (fun hb71 => ?_) (fun h => by exfalso; omega)
    refine v_iconst dX9_moves_86 ?_
    have eF : (xLay (xChk σ (σ.2.2.1 a = 1) 4) 1).1 = 4 := by rw [xChk_n h1, xBrk_0 h0, xLay_st (show ¬ (4 : Int) = 0 by decide)]
    exact v_zret rfl (by decide) (by decide) (Or.inl rfl) dX9_moves_87 ⟨rfl, offT_28, Or.inr ⟨rfl, by rw [eF]; decide, by rw [eF, w_up_s]⟩⟩
theorem tX9_mv3 {E : w_E} {G : w_Sh} {I : w_Mm} {y : Nat} {Q : cS} {N : Nat} {σ : sS} (hY : isY G y) (hQ : clsY I y Q) (h0 : σ.1 = 0) (hf : yfr I y σ.2) (hkn : knP Q N σ.2) (hN : N ≤ 40) (hpw : pW σ.2.2.1) (hkL : ∀ k, k < 8 → knK Q N (σ.2.2.1 k)) {π : mS} {p : Nat} {b : Int} {a : Nat} (ha : a < 8) : w_Ct E mX9_moves 4 [.ref y, iv 3, iv (a : Int)] G I 0 0 (w_Pi (fun r G' J => G' = G ∧ sPost y I J r (xDo Q π σ p 3 (a : Int) b))) := by
  rw [xDo_3]
  rw [show ((a : Nat) : Int).toNat = a from rfl]
  obtain ⟨hTy, hYr⟩ := hY
  have hQ0 := hQ
  have hf0 := hf
  obtain ⟨hf27, hfh0, hfh8, hfL, hfP⟩ := hf
  refine w_Ct.of (ls := [some (.ref y), some (iv 3), some (iv (a : Int)), none]) (by decide +kernel) (Nat.le_of_ble_eq_true rfl) rfl rfl (fun rng => ?_)
  refine v_iload_n dX9_moves_0 rfl ?_
  refine v_tswIn (off := 87) (tgt := 88) dX9_moves_1 ⟨by decide, by decide⟩ (by decide) (by decide) (by decide) (by decide) ?_
  refine v_aload_n dX9_moves_88 rfl ?_
  refine v_iconst dX9_moves_89 ?_
  refine v_Vi (tX9_takes (⟨hTy, hYr⟩ : isY G y) hQ0 (σ := σ) h0 hf0 hkn hN (by first | exact Or.inl ⟨by decide, by decide⟩ | omega) (by omega)) kX9_163 hTy rfl rfl ⟨by decide, by decide⟩ ⟨by decide, by decide⟩ (Nat.le_of_ble_eq_true rfl) dX9_moves_90 (fun r3 G9 J1 hr3 pJ1 rng2 => ?_)
  obtain ⟨hG9, oJ1, ⟨rfl, zJ1, fJ1, bJ1⟩ | ⟨rfl, zJ1, bJ1⟩⟩ := pJ1
  all_goals obtain rfl := hG9.symm
  · have qJ1 := hQ0.T oJ1
    have kJ1 : knP Q N (xTake Q σ (1)).2 := hkn.take
    refine v_if_ne ⟨by decide, by decide⟩ dX9_moves_93 (fun hb93 => ?_) (fun h => by exfalso; omega)
    refine v_aload_n dX9_moves_98 rfl ?_
    refine v_iload_n dX9_moves_99 rfl ?_
    refine v_iconst dX9_moves_100 ?_
    refine v_Vv (tX9_puts (⟨hTy, hYr⟩ : isY G y) (L := (xTake Q σ (1)).2.2.1) fJ1.2.2.2.1 (by omega) (fun q => ((show pW (xTake Q σ (1)).2.2.1 by rw [xTake_2.1]; exact hpw) _ (by omega)).1 q |>.1) (fun q => ((show pW (xTake Q σ (1)).2.2.1 by rw [xTake_2.1]; exact hpw) _ (by omega)).2 q |>.1) ⟨by decide, by decide⟩) kX9_166 hTy rfl rfl ⟨by decide, by decide⟩ ⟨by decide, by decide⟩ (Nat.le_of_ble_eq_true rfl) dX9_moves_101 (fun G9 J4 pJ4 rng5 => ?_)
    obtain ⟨hG9, gJ4⟩ := pJ4
    obtain rfl := hG9.symm
    refine v_iconst dX9_moves_104 ?_
    obtain ⟨q1, q2, q3, q4⟩ := yfr_put (σ := (xTake Q σ (1))) fJ1 gJ4 (show pW (xTake Q σ (1)).2.2.1 by rw [xTake_2.1]; exact hpw) (by omega) zJ1
    exact v_zret rfl (by decide) (by decide) (Or.inr rfl) dX9_moves_105 ⟨rfl, oJ1.tr q3, Or.inl ⟨rfl, q1, q2, q4.trans bJ1⟩⟩
  · refine v_if_ne ⟨by decide, by decide⟩ dX9_moves_93 (fun h => by exfalso; omega) (fun hb93 => ?_)
    refine v_iconst dX9_moves_96 ?_
    have eF : xPut (xTake Q σ 1) a 1 = xTake Q σ (1) := by exact xPut_st zJ1
    rw [eF]
    exact v_zret rfl (by decide) (by decide) (Or.inl rfl) dX9_moves_97 ⟨rfl, oJ1, Or.inr ⟨rfl, zJ1, bJ1⟩⟩
theorem tX9_mv4 {E : w_E} {G : w_Sh} {I : w_Mm} {y : Nat} {Q : cS} {N : Nat} {σ : sS} (hY : isY G y) (hQ : clsY I y Q) (h0 : σ.1 = 0) (hf : yfr I y σ.2) (hkn : knP Q N σ.2) (hN : N ≤ 40) (hpw : pW σ.2.2.1) (hkL : ∀ k, k < 8 → knK Q N (σ.2.2.1 k)) {π : mS} {p : Nat} {b : Int} {a : Nat} (ha : a < 7) : w_Ct E mX9_moves 4 [.ref y, iv 4, iv (a : Int)] G I 0 0 (w_Pi (fun r G' J => G' = G ∧ sPost y I J r (xDo Q π σ p 4 (a : Int) b))) := by
  rw [xDo_4]
  rw [show ((a : Nat) : Int).toNat = a from rfl]
  obtain ⟨hTy, hYr⟩ := hY
  have hQ0 := hQ
  have hf0 := hf
  obtain ⟨hf27, hfh0, hfh8, hfL, hfP⟩ := hf
  refine w_Ct.of (ls := [some (.ref y), some (iv 4), some (iv (a : Int)), none]) (by decide +kernel) (Nat.le_of_ble_eq_true rfl) rfl rfl (fun rng => ?_)
  refine v_iload_n dX9_moves_0 rfl ?_
  refine v_tswIn (off := 105) (tgt := 106) dX9_moves_1 ⟨by decide, by decide⟩ (by decide) (by decide) (by decide) (by decide) ?_
  refine v_aload_n dX9_moves_106 rfl ?_
  refine v_getR fX9_84 rfl hTy (hYr 23 _ rfl).2 dX9_moves_107 ?_
  refine v_iload_n dX9_moves_110 rfl ?_
  refine v_iald' (i := a) (v := σ.2.2.1 (a)) (hfL (a) (by omega)) (show G.1 (y + 24) = (10, 8) from (hYr 23 _ rfl).1) rfl (by omega) (by omega) dX9_moves_111 ?_
  refine v_iconst dX9_moves_112 ?_
  refine v_icmp_ne (by rw [← hfL (a) (by omega)]; exact rng _ _) ⟨by decide, by decide⟩ dX9_moves_113 (fun h1 => ?_) (fun h1 => ?_)
  · refine v_aload_n dX9_moves_128 rfl ?_
    refine v_iconst dX9_moves_129 ?_
    refine v_VmN (tX9_breaks (⟨hTy, hYr⟩ : isY G y) ⟨by decide, by decide⟩) kX9_151 hTy rfl rfl ⟨by decide, by decide⟩ ⟨by decide, by decide⟩ (Nat.le_of_ble_eq_true rfl) dX9_moves_130 (fun r2 er2 hr2 rng3 => ?_)
    subst er2
    refine v_if_eq ⟨by decide, by decide⟩ dX9_moves_133 (fun hb133 => ?_) (fun h => by exfalso; omega)
    refine v_iconst dX9_moves_148 ?_
    have eF : (xLay (xChk σ (lngAt σ.2.2.1 (a : Int)) 4) 2).1 = 4 := by rw [xChk_n (fun q => h1 ((lng_i hpw (by omega)).mp q)), xBrk_0 h0, xLay_st (show ¬ (4 : Int) = 0 by decide)]
    exact v_zret rfl (by decide) (by decide) (Or.inl rfl) dX9_moves_149 ⟨rfl, offT_28, Or.inr ⟨rfl, by rw [eF]; decide, by rw [eF, w_up_s]⟩⟩
  · refine v_aload_n dX9_moves_116 rfl ?_
    refine v_getR fX9_84 rfl hTy (hYr 23 _ rfl).2 dX9_moves_117 ?_
    refine v_iload_n dX9_moves_120 rfl ?_
    refine v_iconst dX9_moves_121 ?_
    refine v_iadd dX9_moves_122 ?_
    refine v_iald' (i := (a + 1)) (v := σ.2.2.1 ((a + 1))) (hfL ((a + 1)) (by omega)) (show G.1 (y + 24) = (10, 8) from (hYr 23 _ rfl).1) (by omega) (by omega) (by omega) dX9_moves_123 ?_
    refine v_iconst dX9_moves_124 ?_
    refine v_icmp_eq (by rw [← hfL ((a + 1)) (by omega)]; exact rng _ _) ⟨by decide, by decide⟩ dX9_moves_125 (fun h4 => ?_) (fun h4 => ?_)
    · refine v_aload_n dX9_moves_136 rfl ?_
      refine v_iconst dX9_moves_137 ?_
      refine v_Vi (tX9_lays (⟨hTy, hYr⟩ : isY G y) hQ0 (σ := σ) h0 hf0 hkn hN (by first | exact Or.inl ⟨by decide, by decide⟩ | omega) (by omega)) kX9_160 hTy rfl rfl ⟨by decide, by decide⟩ ⟨by decide, by decide⟩ (Nat.le_of_ble_eq_true rfl) dX9_moves_138 (fun r7 G9 J5 hr7 pJ5 rng6 => ?_)
      obtain ⟨hG9, oJ5, ⟨rfl, zJ5, fJ5, bJ5⟩ | ⟨rfl, zJ5, bJ5⟩⟩ := pJ5
      all_goals obtain rfl := hG9.symm
      · have qJ5 := hQ0.T oJ5
        refine v_if_eq ⟨by decide, by decide⟩ dX9_moves_141 (fun h => by exfalso; omega) (fun hb141 => ?_)
        refine v_iconst dX9_moves_144 ?_
        refine v_goto dX9_moves_145 ?_
        have eF : xLay (xChk σ (lngAt σ.2.2.1 (a : Int)) 4) 2 = (xLay σ (2)) := by rw [xChk_y ((lng_i hpw (by omega)).mpr h1)]
        rw [eF]
        exact v_zret rfl (by decide) (by decide) (Or.inr rfl) dX9_moves_149 ⟨rfl, oJ5, Or.inl ⟨rfl, zJ5, fJ5, bJ5⟩⟩
      · refine v_if_eq ⟨by decide, by decide⟩ dX9_moves_141 (fun hb141 => ?_) (fun h => by exfalso; omega)
        refine v_iconst dX9_moves_148 ?_
        have eF : xLay (xChk σ (lngAt σ.2.2.1 (a : Int)) 4) 2 = xLay σ (2) := by rw [xChk_y ((lng_i hpw (by omega)).mpr h1)]
        rw [eF]
        exact v_zret rfl (by decide) (by decide) (Or.inl rfl) dX9_moves_149 ⟨rfl, oJ5, Or.inr ⟨rfl, zJ5, bJ5⟩⟩
    · refine v_aload_n dX9_moves_128 rfl ?_
      refine v_iconst dX9_moves_129 ?_
      refine v_VmN (tX9_breaks (⟨hTy, hYr⟩ : isY G y) ⟨by decide, by decide⟩) kX9_151 hTy rfl rfl ⟨by decide, by decide⟩ ⟨by decide, by decide⟩ (Nat.le_of_ble_eq_true rfl) dX9_moves_130 (fun r8 er8 hr8 rng9 => ?_)
      subst er8
      refine v_if_eq ⟨by decide, by decide⟩ dX9_moves_133 (fun hb133 => ?_) (fun h => by exfalso; omega)
      refine v_iconst dX9_moves_148 ?_
      have eF : (xLay (xChk σ (lngAt σ.2.2.1 (a : Int)) 4) 2).1 = 4 := by rw [xChk_n (fun q => h4 (by have u9 := q.2.2.2; rw [show (((a : Nat) : Int) + 1).toNat = a + 1 by omega] at u9; exact u9)), xBrk_0 h0, xLay_st (show ¬ (4 : Int) = 0 by decide)]
      exact v_zret rfl (by decide) (by decide) (Or.inl rfl) dX9_moves_149 ⟨rfl, offT_28, Or.inr ⟨rfl, by rw [eF]; decide, by rw [eF, w_up_s]⟩⟩
theorem tX9_mv5 {E : w_E} {G : w_Sh} {I : w_Mm} {y : Nat} {Q : cS} {N : Nat} {σ : sS} (hY : isY G y) (hQ : clsY I y Q) (h0 : σ.1 = 0) (hf : yfr I y σ.2) (hkn : knP Q N σ.2) (hN : N ≤ 40) (hpw : pW σ.2.2.1) (hkL : ∀ k, k < 8 → knK Q N (σ.2.2.1 k)) {π : mS} {p : Nat} {b : Int} {a : Nat} (ha : a < 7) : w_Ct E mX9_moves 4 [.ref y, iv 5, iv (a : Int)] G I 0 0 (w_Pi (fun r G' J => G' = G ∧ sPost y I J r (xDo Q π σ p 5 (a : Int) b))) := by
  rw [xDo_5]
  rw [show ((a : Nat) : Int).toNat = a from rfl]
  obtain ⟨hTy, hYr⟩ := hY
  have hQ0 := hQ
  have hf0 := hf
  obtain ⟨hf27, hfh0, hfh8, hfL, hfP⟩ := hf
  refine w_Ct.of (ls := [some (.ref y), some (iv 5), some (iv (a : Int)), none]) (by decide +kernel) (Nat.le_of_ble_eq_true rfl) rfl rfl (fun rng => ?_)
  refine v_iload_n dX9_moves_0 rfl ?_
  refine v_tswIn (off := 149) (tgt := 150) dX9_moves_1 ⟨by decide, by decide⟩ (by decide) (by decide) (by decide) (by decide) ?_
  refine v_aload_n dX9_moves_150 rfl ?_
  refine v_iconst dX9_moves_151 ?_
  refine v_Vi (tX9_takes (⟨hTy, hYr⟩ : isY G y) hQ0 (σ := σ) h0 hf0 hkn hN (by first | exact Or.inl ⟨by decide, by decide⟩ | omega) (by omega)) kX9_163 hTy rfl rfl ⟨by decide, by decide⟩ ⟨by decide, by decide⟩ (Nat.le_of_ble_eq_true rfl) dX9_moves_152 (fun r3 G9 J1 hr3 pJ1 rng2 => ?_)
  obtain ⟨hG9, oJ1, ⟨rfl, zJ1, fJ1, bJ1⟩ | ⟨rfl, zJ1, bJ1⟩⟩ := pJ1
  all_goals obtain rfl := hG9.symm
  · have qJ1 := hQ0.T oJ1
    have kJ1 : knP Q N (xTake Q σ (2)).2 := hkn.take
    refine v_if_ne ⟨by decide, by decide⟩ dX9_moves_155 (fun hb155 => ?_) (fun h => by exfalso; omega)
    refine v_aload_n dX9_moves_160 rfl ?_
    refine v_iload_n dX9_moves_161 rfl ?_
    refine v_iconst dX9_moves_162 ?_
    refine v_Vv (tX9_puts (⟨hTy, hYr⟩ : isY G y) (L := (xTake Q σ (2)).2.2.1) fJ1.2.2.2.1 (by omega) (fun q => ((show pW (xTake Q σ (2)).2.2.1 by rw [xTake_2.1]; exact hpw) _ (by omega)).1 q |>.1) (fun q => ((show pW (xTake Q σ (2)).2.2.1 by rw [xTake_2.1]; exact hpw) _ (by omega)).2 q |>.1) ⟨by decide, by decide⟩) kX9_166 hTy rfl rfl ⟨by decide, by decide⟩ ⟨by decide, by decide⟩ (Nat.le_of_ble_eq_true rfl) dX9_moves_163 (fun G9 J4 pJ4 rng5 => ?_)
    obtain ⟨hG9, gJ4⟩ := pJ4
    obtain rfl := hG9.symm
    refine v_aload_n dX9_moves_166 rfl ?_
    refine v_iload_n dX9_moves_167 rfl ?_
    refine v_iconst dX9_moves_168 ?_
    refine v_iadd dX9_moves_169 ?_
    refine v_iconst dX9_moves_170 ?_
    refine v_Vv (tX9_puts (⟨hTy, hYr⟩ : isY G y) (L := putY (xTake Q σ (2)).2.2.1 a 2) gJ4.1 (by omega) (fun q => (putL_eq (show pW (xTake Q σ (2)).2.2.1 by rw [xTake_2.1]; exact hpw) ha).2 q) (fun _ => by omega) ⟨by decide, by decide⟩) kX9_166 hTy rfl rfl ⟨by decide, by decide⟩ ⟨by decide, by decide⟩ (Nat.le_of_ble_eq_true rfl) dX9_moves_171 (fun G9 J6 pJ6 rng7 => ?_)
    obtain ⟨hG9, gJ6⟩ := pJ6
    obtain rfl := hG9.symm
    refine v_aload_n dX9_moves_174 rfl ?_
    refine v_getR fX9_84 rfl hTy (hYr 23 _ rfl).2 dX9_moves_175 ?_
    refine v_iload_n dX9_moves_178 rfl ?_
    refine v_iconst dX9_moves_179 ?_
    refine v_iast (i := a) (show G.1 (y + 24) = (10, 8) from (hYr 23 _ rfl).1) rfl (by omega) (by omega) ⟨by decide, by decide⟩ dX9_moves_180 ?_
    have rng8 := w_rng (a := y + 24) (f := a) rng7 (show inR (2) from ⟨by decide, by decide⟩)
    refine v_iconst dX9_moves_181 ?_
    obtain ⟨q1, q2, q3, q4⟩ := yfr_putL (σ := (xTake Q σ (2))) fJ1 gJ4 gJ6 (show pW (xTake Q σ (2)).2.2.1 by rw [xTake_2.1]; exact hpw) ha zJ1
    exact v_zret rfl (by decide) (by decide) (Or.inr rfl) dX9_moves_182 ⟨rfl, oJ1.tr q3, Or.inl ⟨rfl, q1, q2, q4.trans bJ1⟩⟩
  · refine v_if_ne ⟨by decide, by decide⟩ dX9_moves_155 (fun h => by exfalso; omega) (fun hb155 => ?_)
    refine v_iconst dX9_moves_158 ?_
    have eF : xPutL (xTake Q σ 2) a = xTake Q σ (2) := by unfold xPutL; rw [xPut_st zJ1, xPut_st zJ1]
    rw [eF]
    exact v_zret rfl (by decide) (by decide) (Or.inl rfl) dX9_moves_159 ⟨rfl, oJ1, Or.inr ⟨rfl, zJ1, bJ1⟩⟩
theorem tX9_mv6 {E : w_E} {G : w_Sh} {I : w_Mm} {y : Nat} {Q : cS} {N : Nat} {σ : sS} (hY : isY G y) (hQ : clsY I y Q) (h0 : σ.1 = 0) (hf : yfr I y σ.2) (hkn : knP Q N σ.2) (hN : N ≤ 40) (hpw : pW σ.2.2.1) (hkL : ∀ k, k < 8 → knK Q N (σ.2.2.1 k)) {π : mS} {p : Nat} {b : Int} {a : Nat} (ha : a < 8) : w_Ct E mX9_moves 4 [.ref y, iv 6, iv (a : Int)] G I 0 0 (w_Pi (fun r G' J => G' = G ∧ sPost y I J r (xDo Q π σ p 6 (a : Int) b))) := by
  rw [xDo_6]
  rw [show ((a : Nat) : Int).toNat = a from rfl]
  obtain ⟨hTy, hYr⟩ := hY
  have hQ0 := hQ
  have hf0 := hf
  obtain ⟨hf27, hfh0, hfh8, hfL, hfP⟩ := hf
  refine w_Ct.of (ls := [some (.ref y), some (iv 6), some (iv (a : Int)), none]) (by decide +kernel) (Nat.le_of_ble_eq_true rfl) rfl rfl (fun rng => ?_)
  refine v_iload_n dX9_moves_0 rfl ?_
  refine v_tswIn (off := 182) (tgt := 183) dX9_moves_1 ⟨by decide, by decide⟩ (by decide) (by decide) (by decide) (by decide) ?_
  refine v_aload_n dX9_moves_183 rfl ?_
  refine v_getR fX9_84 rfl hTy (hYr 23 _ rfl).2 dX9_moves_184 ?_
  refine v_iload_n dX9_moves_187 rfl ?_
  refine v_iald' (i := a) (v := σ.2.2.1 (a)) (hfL (a) (by omega)) (show G.1 (y + 24) = (10, 8) from (hYr 23 _ rfl).1) rfl (by omega) (by omega) dX9_moves_188 ?_
  refine v_Sb (tX9_isHeld (by rw [← hfL (a) (by omega)]; exact rng _ _)) kX9_170 rfl rfl ⟨by decide, by decide⟩ ⟨by decide, by decide⟩ (Nat.le_of_ble_eq_true rfl) dX9_moves_189 (fun h1 => ?_) (fun h1 => ?_)
  · refine v_if_ne ⟨by decide, by decide⟩ dX9_moves_192 (fun hb192 => ?_) (fun h => by exfalso; omega)
    refine v_aload_n dX9_moves_203 rfl ?_
    refine v_aload_n dX9_moves_204 rfl ?_
    refine v_getR fX9_84 rfl hTy (hYr 23 _ rfl).2 dX9_moves_205 ?_
    refine v_iload_n dX9_moves_208 rfl ?_
    refine v_iald' (i := a) (v := σ.2.2.1 (a)) (hfL (a) (by omega)) (show G.1 (y + 24) = (10, 8) from (hYr 23 _ rfl).1) rfl (by omega) (by omega) dX9_moves_209 ?_
    refine v_Vi (tX9_lays (⟨hTy, hYr⟩ : isY G y) hQ0 (σ := σ) h0 hf0 hkn hN ((hkL a (by omega)).known hN) (by omega)) kX9_160 hTy rfl rfl ⟨by decide, by decide⟩ ⟨by decide, by decide⟩ (Nat.le_of_ble_eq_true rfl) dX9_moves_210 (fun r4 G9 J2 hr4 pJ2 rng3 => ?_)
    obtain ⟨hG9, oJ2, ⟨rfl, zJ2, fJ2, bJ2⟩ | ⟨rfl, zJ2, bJ2⟩⟩ := pJ2
    all_goals obtain rfl := hG9.symm
    · have qJ2 := hQ0.T oJ2
      refine v_if_eq ⟨by decide, by decide⟩ dX9_moves_213 (fun h => by exfalso; omega) (fun hb213 => ?_)
      refine v_iconst dX9_moves_216 ?_
      refine v_goto dX9_moves_217 ?_
      have eF : xLay (xChk σ (kHeld (σ.2.2.1 a)) 4) (σ.2.2.1 a) = (xLay σ (σ.2.2.1 (a))) := by rw [xChk_y h1]
      rw [eF]
      exact v_zret rfl (by decide) (by decide) (Or.inr rfl) dX9_moves_221 ⟨rfl, oJ2, Or.inl ⟨rfl, zJ2, fJ2, bJ2⟩⟩
    · refine v_if_eq ⟨by decide, by decide⟩ dX9_moves_213 (fun hb213 => ?_) (fun h => by exfalso; omega)
      refine v_iconst dX9_moves_220 ?_
      have eF : xLay (xChk σ (kHeld (σ.2.2.1 a)) 4) (σ.2.2.1 a) = xLay σ (σ.2.2.1 (a)) := by rw [xChk_y h1]
      rw [eF]
      exact v_zret rfl (by decide) (by decide) (Or.inl rfl) dX9_moves_221 ⟨rfl, oJ2, Or.inr ⟨rfl, zJ2, bJ2⟩⟩
  · refine v_if_ne ⟨by decide, by decide⟩ dX9_moves_192 (fun h => by exfalso; omega) (fun hb192 => ?_)
    refine v_aload_n dX9_moves_195 rfl ?_
    refine v_iconst dX9_moves_196 ?_
    refine v_VmN (tX9_breaks (⟨hTy, hYr⟩ : isY G y) ⟨by decide, by decide⟩) kX9_151 hTy rfl rfl ⟨by decide, by decide⟩ ⟨by decide, by decide⟩ (Nat.le_of_ble_eq_true rfl) dX9_moves_197 (fun r5 er5 hr5 rng6 => ?_)
    subst er5
    refine v_if_eq ⟨by decide, by decide⟩ dX9_moves_200 (fun hb200 => ?_) (fun h => by exfalso; omega)
    refine v_iconst dX9_moves_220 ?_
    have eF : (xLay (xChk σ (kHeld (σ.2.2.1 a)) 4) (σ.2.2.1 a)).1 = 4 := by rw [xChk_n h1, xBrk_0 h0, xLay_st (show ¬ (4 : Int) = 0 by decide)]
    exact v_zret rfl (by decide) (by decide) (Or.inl rfl) dX9_moves_221 ⟨rfl, offT_28, Or.inr ⟨rfl, by rw [eF]; decide, by rw [eF, w_up_s]⟩⟩
theorem tX9_mv7 {E : w_E} {G : w_Sh} {I : w_Mm} {y : Nat} {Q : cS} {N : Nat} {σ : sS} (hY : isY G y) (hQ : clsY I y Q) (h0 : σ.1 = 0) (hf : yfr I y σ.2) (hkn : knP Q N σ.2) (hN : N ≤ 40) (hpw : pW σ.2.2.1) (hkL : ∀ k, k < 8 → knK Q N (σ.2.2.1 k)) {π : mS} {p : Nat} {b : Int} {a : Nat} (ha : a < 8) : w_Ct E mX9_moves 4 [.ref y, iv 7, iv (a : Int)] G I 0 0 (w_Pi (fun r G' J => G' = G ∧ sPost y I J r (xDo Q π σ p 7 (a : Int) b))) := by
  rw [xDo_7]
  rw [show ((a : Nat) : Int).toNat = a from rfl]
  obtain ⟨hTy, hYr⟩ := hY
  have hQ0 := hQ
  have hf0 := hf
  obtain ⟨hf27, hfh0, hfh8, hfL, hfP⟩ := hf
  refine w_Ct.of (ls := [some (.ref y), some (iv 7), some (iv (a : Int)), none]) (by decide +kernel) (Nat.le_of_ble_eq_true rfl) rfl rfl (fun rng => ?_)
  refine v_iload_n dX9_moves_0 rfl ?_
  refine v_tswOut (tgt := 222) dX9_moves_1 ⟨by decide, by decide⟩ (by decide) (by decide) ?_
  refine v_aload_n dX9_moves_222 rfl ?_
  refine v_iconst dX9_moves_223 ?_
  refine v_Vi (tX9_wants (⟨hTy, hYr⟩ : isY G y) (φ := σ.2) hf0 ⟨by decide, by decide⟩) kX9_154 hTy rfl rfl ⟨by decide, by decide⟩ ⟨by decide, by decide⟩ (Nat.le_of_ble_eq_true rfl) dX9_moves_224 (fun r3 G9 J1 hr3 pJ1 rng2 => ?_)
  obtain ⟨hG9, ⟨rfl, wJ1, eJ1⟩ | ⟨rfl, wJ1, rfl⟩⟩ := pJ1
  all_goals obtain rfl := hG9.symm
  · obtain rfl := eJ1.symm
    refine v_if_ne ⟨by decide, by decide⟩ dX9_moves_227 (fun hb227 => ?_) (fun h => by exfalso; omega)
    refine v_aload_n dX9_moves_232 rfl ?_
    refine v_VmN (tX9_top (⟨hTy, hYr⟩ : isY G y) hQ0 (σ := σ) h0 hf0 hkn hN wJ1) kX9_173 hTy rfl rfl ⟨by decide, by decide⟩ ⟨by decide, by decide⟩ (Nat.le_of_ble_eq_true rfl) dX9_moves_233 (fun r4 er4 hr4 rng5 => ?_)
    subst er4
    refine v_istore_n dX9_moves_236 (by decide) rfl ?_
    refine v_aload_n dX9_moves_237 rfl ?_
    refine v_iload_n dX9_moves_238 rfl ?_
    refine v_Sb (tX9_isHeld hr4) kX9_170 rfl rfl ⟨by decide, by decide⟩ ⟨by decide, by decide⟩ (Nat.le_of_ble_eq_true rfl) dX9_moves_239 (fun h6 => ?_) (fun h6 => ?_)
    · refine v_Vi (tX9_takesTop (⟨hTy, hYr⟩ : isY G y) hQ0 (σ := σ) h0 hf0 hkn hN wJ1 (P := kHeld (xTA σ).1) (by omega)) kX9_177 hTy rfl rfl ⟨by decide, by decide⟩ ⟨by decide, by decide⟩ (Nat.le_of_ble_eq_true rfl) dX9_moves_242 (fun r9 G9 J7 hr9 pJ7 rng8 => ?_)
      obtain ⟨hG9, oJ7, ⟨rfl, zJ7, fJ7, bJ7⟩ | ⟨rfl, zJ7, bJ7⟩⟩ := pJ7
      all_goals obtain rfl := hG9.symm
      · have qJ7 := hQ0.T oJ7
        have kJ7 : knP Q N (xChk (xTA σ).2 (kHeld (xTA σ).1) 3).2 := hkn.ta.chk
        refine v_if_ne ⟨by decide, by decide⟩ dX9_moves_245 (fun hb245 => ?_) (fun h => by exfalso; omega)
        refine v_aload_n dX9_moves_250 rfl ?_
        refine v_iload_n dX9_moves_251 rfl ?_
        refine v_iload_n dX9_moves_252 rfl ?_
        refine v_Vv (tX9_puts (⟨hTy, hYr⟩ : isY G y) (L := (xChk (xTA σ).2 (kHeld (xTA σ).1) 3).2.2.1) fJ7.2.2.2.1 (by omega) (fun q => ((show pW (xChk (xTA σ).2 (kHeld (xTA σ).1) 3).2.2.1 by rw [xChk_2, xTA_2]; exact hpw) _ (by omega)).1 q |>.1) (fun q => ((show pW (xChk (xTA σ).2 (kHeld (xTA σ).1) 3).2.2.1 by rw [xChk_2, xTA_2]; exact hpw) _ (by omega)).2 q |>.1) hr4) kX9_166 hTy rfl rfl ⟨by decide, by decide⟩ ⟨by decide, by decide⟩ (Nat.le_of_ble_eq_true rfl) dX9_moves_253 (fun G9 J10 pJ10 rng11 => ?_)
        obtain ⟨hG9, gJ10⟩ := pJ10
        obtain rfl := hG9.symm
        refine v_iconst dX9_moves_256 ?_
        obtain ⟨q1, q2, q3, q4⟩ := yfr_put (σ := (xChk (xTA σ).2 (kHeld (xTA σ).1) 3)) fJ7 gJ10 (show pW (xChk (xTA σ).2 (kHeld (xTA σ).1) 3).2.2.1 by rw [xChk_2, xTA_2]; exact hpw) (by omega) zJ7
        exact v_zret rfl (by decide) (by decide) (Or.inr rfl) dX9_moves_257 ⟨rfl, oJ7.tr q3, Or.inl ⟨rfl, q1, q2, q4.trans bJ7⟩⟩
      · exact absurd (by rw [xChk_y (by omega), xTA_hi h0 wJ1]; exact h0) zJ7
    · refine v_Vi (tX9_takesTop (⟨hTy, hYr⟩ : isY G y) hQ0 (σ := σ) h0 hf0 hkn hN wJ1 (P := kHeld (xTA σ).1) (by omega)) kX9_177 hTy rfl rfl ⟨by decide, by decide⟩ ⟨by decide, by decide⟩ (Nat.le_of_ble_eq_true rfl) dX9_moves_242 (fun r14 G9 J12 hr14 pJ12 rng13 => ?_)
      obtain ⟨hG9, oJ12, ⟨rfl, zJ12, fJ12, bJ12⟩ | ⟨rfl, zJ12, bJ12⟩⟩ := pJ12
      all_goals obtain rfl := hG9.symm
      · exact absurd zJ12 (by rw [xChk_n (by omega)]; exact xBrk_ne (by decide))
      · refine v_if_ne ⟨by decide, by decide⟩ dX9_moves_245 (fun h => by exfalso; omega) (fun hb245 => ?_)
        refine v_iconst dX9_moves_248 ?_
        have eF : xPut (xChk (xTA σ).2 (kHeld (xTA σ).1) 3) a (xTA σ).1 = xChk (xTA σ).2 (kHeld (xTA σ).1) 3 := by exact xPut_st zJ12
        rw [eF]
        exact v_zret rfl (by decide) (by decide) (Or.inl rfl) dX9_moves_249 ⟨rfl, oJ12, Or.inr ⟨rfl, zJ12, bJ12⟩⟩
  · refine v_if_ne ⟨by decide, by decide⟩ dX9_moves_227 (fun h => by exfalso; omega) (fun hb227 => ?_)
    refine v_iconst dX9_moves_230 ?_
    have eF : (xPut (xChk (xTA σ).2 (kHeld (xTA σ).1) 3) a (xTA σ).1).1 = 2 := by have h9 : xTA σ = (0, (2, σ.2)) := xTA_lo h0 (by omega); have n9 : ¬ ((2 : Int), σ.2).1 = 0 := (by decide : ¬ (2 : Int) = 0); rw [h9, xChk_st n9, xPut_st n9]
    exact v_zret rfl (by decide) (by decide) (Or.inl rfl) dX9_moves_231 ⟨rfl, offT_28, Or.inr ⟨rfl, by rw [eF]; decide, by rw [eF, w_up_s]⟩⟩
theorem tX9_moves {E : w_E} {G : w_Sh} {I : w_Mm} {y : Nat} {Q : cS} {N : Nat} {σ : sS} (hY : isY G y) (hQ : clsY I y Q) (h0 : σ.1 = 0) (hf : yfr I y σ.2) (hkn : knP Q N σ.2) (hN : N ≤ 40) (hpw : pW σ.2.2.1) (hkL : ∀ k, k < 8 → knK Q N (σ.2.2.1 k)) {π : mS} {p : Nat} {b : Int} {op a : Int} (hop : 0 ≤ op ∧ op ≤ 7) (har : inR a) (ha : 2 ≤ op → 0 ≤ a ∧ a < 8) (ha7 : (op = 4 ∨ op = 5) → a < 7) : w_Ct E mX9_moves 4 [.ref y, iv op, iv a] G I 0 0 (w_Pi (fun r G' J => G' = G ∧ sPost y I J r (xDo Q π σ p op a b))) := by
  have hc : op = 0 ∨ op = 1 ∨ op = 2 ∨ op = 3 ∨ op = 4 ∨ op = 5 ∨ op = 6 ∨ op = 7 := by omega
  rcases hc with rfl | rfl | rfl | rfl | rfl | rfl | rfl | rfl
  · exact tX9_mv0 hY hQ h0 hf hkn hN hpw hkL har
  · exact tX9_mv1 hY hQ h0 hf hkn hN hpw hkL har
  · obtain ⟨n, rfl⟩ := Int.eq_ofNat_of_zero_le (ha (by decide)).1
    exact tX9_mv2 hY hQ h0 hf hkn hN hpw hkL (a := n) (by have := ha (by decide); omega)
  · obtain ⟨n, rfl⟩ := Int.eq_ofNat_of_zero_le (ha (by decide)).1
    exact tX9_mv3 hY hQ h0 hf hkn hN hpw hkL (a := n) (by have := ha (by decide); omega)
  · obtain ⟨n, rfl⟩ := Int.eq_ofNat_of_zero_le (ha (by decide)).1
    exact tX9_mv4 hY hQ h0 hf hkn hN hpw hkL (a := n) (by have := ha7 (by decide); omega)
  · obtain ⟨n, rfl⟩ := Int.eq_ofNat_of_zero_le (ha (by decide)).1
    exact tX9_mv5 hY hQ h0 hf hkn hN hpw hkL (a := n) (by have := ha7 (by decide); omega)
  · obtain ⟨n, rfl⟩ := Int.eq_ofNat_of_zero_le (ha (by decide)).1
    exact tX9_mv6 hY hQ h0 hf hkn hN hpw hkL (a := n) (by have := ha (by decide); omega)
  · obtain ⟨n, rfl⟩ := Int.eq_ofNat_of_zero_le (ha (by decide)).1
    exact tX9_mv7 hY hQ h0 hf hkn hN hpw hkL (a := n) (by have := ha (by decide); omega)
theorem tX9_do8 {E : w_E} {G : w_Sh} {I : w_Mm} {y : Nat} {Q : cS} {N : Nat} {σ : sS} (hY : isY G y) (hQ : clsY I y Q) (h0 : σ.1 = 0) (hf : yfr I y σ.2) (hkn : knP Q N σ.2) (hN : N ≤ 40) (hpw : pW σ.2.2.1) (hkL : ∀ k, k < 8 → knK Q N (σ.2.2.1 k)) (hpp : ppP σ.2) {π : mS} {i : Nat} (hM : yM I y i π) (hi : i < 6) (hnow : I y 29 = (i : Int)) (hNm : N = mN π) {p : Nat} (hat : I y 30 = (p : Int)) (hp : p < N) (hres : resK Q (mRes π)) (hq16 : Q.1 ≤ 16) (hq2 : 2 ≤ Q.1) {a b : Int} (ha : inR a) (hb : inR b) (hok : opOK Q 8 a b) : w_Ct E mX9_does 5 [.ref y, iv 8, iv a, iv b] G I 0 0 (w_Pi (fun r G' J => G' = G ∧ sPost y I J r (xDo Q π σ p 8 a b))) := by
  rw [xDo_8]
  obtain ⟨hTy, hYr⟩ := hY
  have hQ0 := hQ
  have hf0 := hf
  obtain ⟨hf27, hfh0, hfh8, hfL, hfP⟩ := hf
  have hM0 := hM
  obtain ⟨hm3, hm4, hm4b, hm5, hm6, hm6b, hm7, hm10, hm10b, hm11⟩ := hM
  refine w_Ct.of (ls := [some (.ref y), some (iv 8), some (iv a), some (iv b)]) (by decide +kernel) (Nat.le_of_ble_eq_true rfl) rfl rfl (fun rng => ?_)
  refine v_iload_n dX9_does_0 rfl ?_
  refine v_tswIn (off := 87) (tgt := 88) dX9_does_1 ⟨by decide, by decide⟩ (by decide) (by decide) (by decide) (by decide) ?_
  refine v_aload_n dX9_does_88 rfl ?_
  refine v_iconst dX9_does_89 ?_
  refine v_Vi (tX9_takes (⟨hTy, hYr⟩ : isY G y) hQ0 (σ := σ) h0 hf0 hkn hN (by first | exact Or.inl ⟨by decide, by decide⟩ | omega) (by omega)) kX9_163 hTy rfl rfl ⟨by decide, by decide⟩ ⟨by decide, by decide⟩ (Nat.le_of_ble_eq_true rfl) dX9_does_90 (fun r3 G9 J1 hr3 pJ1 rng2 => ?_)
  obtain ⟨hG9, oJ1, ⟨rfl, zJ1, fJ1, bJ1⟩ | ⟨rfl, zJ1, bJ1⟩⟩ := pJ1
  all_goals obtain rfl := hG9.symm
  · have qJ1 := hQ0.T oJ1
    have kJ1 : knP Q N (xTake Q σ (1)).2 := hkn.take
    refine v_if_eq ⟨by decide, by decide⟩ dX9_does_93 (fun h => by exfalso; omega) (fun hb93 => ?_)
    refine v_aload_n dX9_does_96 rfl ?_
    refine v_iconst dX9_does_97 ?_
    refine v_Vi (tX9_takes (⟨hTy, hYr⟩ : isY G y) qJ1 (σ := (xTake Q σ (1))) zJ1 fJ1 kJ1 hN (by first | exact Or.inl ⟨by decide, by decide⟩ | omega) (by omega)) kX9_163 hTy rfl rfl ⟨by decide, by decide⟩ ⟨by decide, by decide⟩ (Nat.le_of_ble_eq_true rfl) dX9_does_98 (fun r6 G9 J4 hr6 pJ4 rng5 => ?_)
    obtain ⟨hG9, oJ4, ⟨rfl, zJ4, fJ4, bJ4⟩ | ⟨rfl, zJ4, bJ4⟩⟩ := pJ4
    all_goals obtain rfl := hG9.symm
    · have qJ4 := qJ1.T oJ4
      have kJ4 : knP Q N (xTake Q (xTake Q σ (1)) (1)).2 := kJ1.take
      refine v_if_eq ⟨by decide, by decide⟩ dX9_does_101 (fun h => by exfalso; omega) (fun hb101 => ?_)
      refine v_aload_n dX9_does_104 rfl ?_
      refine v_iconst dX9_does_105 ?_
      refine v_Vi (tX9_lays (⟨hTy, hYr⟩ : isY G y) qJ4 (σ := (xTake Q (xTake Q σ (1)) (1))) zJ4 fJ4 kJ4 hN (by first | exact Or.inl ⟨by decide, by decide⟩ | omega) (by omega)) kX9_160 hTy rfl rfl ⟨by decide, by decide⟩ ⟨by decide, by decide⟩ (Nat.le_of_ble_eq_true rfl) dX9_does_106 (fun r9 G9 J7 hr9 pJ7 rng8 => ?_)
      obtain ⟨hG9, oJ7, ⟨rfl, zJ7, fJ7, bJ7⟩ | ⟨rfl, zJ7, bJ7⟩⟩ := pJ7
      all_goals obtain rfl := hG9.symm
      · have qJ7 := qJ4.T oJ7
        refine v_if_eq ⟨by decide, by decide⟩ dX9_does_109 (fun h => by exfalso; omega) (fun hb109 => ?_)
        refine v_iconst dX9_does_112 ?_
        refine v_goto dX9_does_113 ?_
        exact v_zret rfl (by decide) (by decide) (Or.inr rfl) dX9_does_117 ⟨rfl, ((oJ1.tr oJ4).tr oJ7), Or.inl ⟨rfl, zJ7, fJ7, (bJ7.trans (bJ4.trans bJ1))⟩⟩
      · refine v_if_eq ⟨by decide, by decide⟩ dX9_does_109 (fun hb109 => ?_) (fun h => by exfalso; omega)
        refine v_iconst dX9_does_116 ?_
        have eF : xLay (xTake Q (xTake Q σ 1) 1) 1 = xLay (xTake Q (xTake Q σ (1)) (1)) (1) := by simp only [xTake_st zJ7, xLay_st zJ7, xChk_st zJ7, xTA_st zJ7, xPut_st zJ7]
        rw [eF]
        exact v_zret rfl (by decide) (by decide) (Or.inl rfl) dX9_does_117 ⟨rfl, ((oJ1.tr oJ4).tr oJ7), Or.inr ⟨rfl, zJ7, bJ7⟩⟩
    · refine v_if_eq ⟨by decide, by decide⟩ dX9_does_101 (fun hb101 => ?_) (fun h => by exfalso; omega)
      refine v_iconst dX9_does_116 ?_
      have eF : xLay (xTake Q (xTake Q σ 1) 1) 1 = xTake Q (xTake Q σ (1)) (1) := by simp only [xTake_st zJ4, xLay_st zJ4, xChk_st zJ4, xTA_st zJ4, xPut_st zJ4]
      rw [eF]
      exact v_zret rfl (by decide) (by decide) (Or.inl rfl) dX9_does_117 ⟨rfl, (oJ1.tr oJ4), Or.inr ⟨rfl, zJ4, bJ4⟩⟩
  · refine v_if_eq ⟨by decide, by decide⟩ dX9_does_93 (fun hb93 => ?_) (fun h => by exfalso; omega)
    refine v_iconst dX9_does_116 ?_
    have eF : xLay (xTake Q (xTake Q σ 1) 1) 1 = xTake Q σ (1) := by simp only [xTake_st zJ1, xLay_st zJ1, xChk_st zJ1, xTA_st zJ1, xPut_st zJ1]
    rw [eF]
    exact v_zret rfl (by decide) (by decide) (Or.inl rfl) dX9_does_117 ⟨rfl, oJ1, Or.inr ⟨rfl, zJ1, bJ1⟩⟩
theorem tX9_do9 {E : w_E} {G : w_Sh} {I : w_Mm} {y : Nat} {Q : cS} {N : Nat} {σ : sS} (hY : isY G y) (hQ : clsY I y Q) (h0 : σ.1 = 0) (hf : yfr I y σ.2) (hkn : knP Q N σ.2) (hN : N ≤ 40) (hpw : pW σ.2.2.1) (hkL : ∀ k, k < 8 → knK Q N (σ.2.2.1 k)) (hpp : ppP σ.2) {π : mS} {i : Nat} (hM : yM I y i π) (hi : i < 6) (hnow : I y 29 = (i : Int)) (hNm : N = mN π) {p : Nat} (hat : I y 30 = (p : Int)) (hp : p < N) (hres : resK Q (mRes π)) (hq16 : Q.1 ≤ 16) (hq2 : 2 ≤ Q.1) {a b : Int} (ha : inR a) (hb : inR b) (hok : opOK Q 9 a b) : w_Ct E mX9_does 5 [.ref y, iv 9, iv a, iv b] G I 0 0 (w_Pi (fun r G' J => G' = G ∧ sPost y I J r (xDo Q π σ p 9 a b))) := by
  rw [xDo_9]
  obtain ⟨hTy, hYr⟩ := hY
  have hQ0 := hQ
  have hf0 := hf
  obtain ⟨hf27, hfh0, hfh8, hfL, hfP⟩ := hf
  have hM0 := hM
  obtain ⟨hm3, hm4, hm4b, hm5, hm6, hm6b, hm7, hm10, hm10b, hm11⟩ := hM
  refine w_Ct.of (ls := [some (.ref y), some (iv 9), some (iv a), some (iv b)]) (by decide +kernel) (Nat.le_of_ble_eq_true rfl) rfl rfl (fun rng => ?_)
  refine v_iload_n dX9_does_0 rfl ?_
  refine v_tswIn (off := 117) (tgt := 118) dX9_does_1 ⟨by decide, by decide⟩ (by decide) (by decide) (by decide) (by decide) ?_
  refine v_aload_n dX9_does_118 rfl ?_
  refine v_iconst dX9_does_119 ?_
  refine v_Vi (tX9_takes (⟨hTy, hYr⟩ : isY G y) hQ0 (σ := σ) h0 hf0 hkn hN (by first | exact Or.inl ⟨by decide, by decide⟩ | omega) (by omega)) kX9_163 hTy rfl rfl ⟨by decide, by decide⟩ ⟨by decide, by decide⟩ (Nat.le_of_ble_eq_true rfl) dX9_does_120 (fun r3 G9 J1 hr3 pJ1 rng2 => ?_)
  obtain ⟨hG9, oJ1, ⟨rfl, zJ1, fJ1, bJ1⟩ | ⟨rfl, zJ1, bJ1⟩⟩ := pJ1
  all_goals obtain rfl := hG9.symm
  · have qJ1 := hQ0.T oJ1
    have kJ1 : knP Q N (xTake Q σ (2)).2 := hkn.take
    refine v_if_eq ⟨by decide, by decide⟩ dX9_does_123 (fun h => by exfalso; omega) (fun hb123 => ?_)
    refine v_aload_n dX9_does_126 rfl ?_
    refine v_iconst dX9_does_127 ?_
    refine v_Vi (tX9_takes (⟨hTy, hYr⟩ : isY G y) qJ1 (σ := (xTake Q σ (2))) zJ1 fJ1 kJ1 hN (by first | exact Or.inl ⟨by decide, by decide⟩ | omega) (by omega)) kX9_163 hTy rfl rfl ⟨by decide, by decide⟩ ⟨by decide, by decide⟩ (Nat.le_of_ble_eq_true rfl) dX9_does_128 (fun r6 G9 J4 hr6 pJ4 rng5 => ?_)
    obtain ⟨hG9, oJ4, ⟨rfl, zJ4, fJ4, bJ4⟩ | ⟨rfl, zJ4, bJ4⟩⟩ := pJ4
    all_goals obtain rfl := hG9.symm
    · have qJ4 := qJ1.T oJ4
      have kJ4 : knP Q N (xTake Q (xTake Q σ (2)) (2)).2 := kJ1.take
      refine v_if_eq ⟨by decide, by decide⟩ dX9_does_131 (fun h => by exfalso; omega) (fun hb131 => ?_)
      refine v_aload_n dX9_does_134 rfl ?_
      refine v_iconst dX9_does_135 ?_
      refine v_Vi (tX9_lays (⟨hTy, hYr⟩ : isY G y) qJ4 (σ := (xTake Q (xTake Q σ (2)) (2))) zJ4 fJ4 kJ4 hN (by first | exact Or.inl ⟨by decide, by decide⟩ | omega) (by omega)) kX9_160 hTy rfl rfl ⟨by decide, by decide⟩ ⟨by decide, by decide⟩ (Nat.le_of_ble_eq_true rfl) dX9_does_136 (fun r9 G9 J7 hr9 pJ7 rng8 => ?_)
      obtain ⟨hG9, oJ7, ⟨rfl, zJ7, fJ7, bJ7⟩ | ⟨rfl, zJ7, bJ7⟩⟩ := pJ7
      all_goals obtain rfl := hG9.symm
      · have qJ7 := qJ4.T oJ7
        refine v_if_eq ⟨by decide, by decide⟩ dX9_does_139 (fun h => by exfalso; omega) (fun hb139 => ?_)
        refine v_iconst dX9_does_142 ?_
        refine v_goto dX9_does_143 ?_
        exact v_zret rfl (by decide) (by decide) (Or.inr rfl) dX9_does_147 ⟨rfl, ((oJ1.tr oJ4).tr oJ7), Or.inl ⟨rfl, zJ7, fJ7, (bJ7.trans (bJ4.trans bJ1))⟩⟩
      · refine v_if_eq ⟨by decide, by decide⟩ dX9_does_139 (fun hb139 => ?_) (fun h => by exfalso; omega)
        refine v_iconst dX9_does_146 ?_
        have eF : xLay (xTake Q (xTake Q σ 2) 2) 2 = xLay (xTake Q (xTake Q σ (2)) (2)) (2) := by simp only [xTake_st zJ7, xLay_st zJ7, xChk_st zJ7, xTA_st zJ7, xPut_st zJ7]
        rw [eF]
        exact v_zret rfl (by decide) (by decide) (Or.inl rfl) dX9_does_147 ⟨rfl, ((oJ1.tr oJ4).tr oJ7), Or.inr ⟨rfl, zJ7, bJ7⟩⟩
    · refine v_if_eq ⟨by decide, by decide⟩ dX9_does_131 (fun hb131 => ?_) (fun h => by exfalso; omega)
      refine v_iconst dX9_does_146 ?_
      have eF : xLay (xTake Q (xTake Q σ 2) 2) 2 = xTake Q (xTake Q σ (2)) (2) := by simp only [xTake_st zJ4, xLay_st zJ4, xChk_st zJ4, xTA_st zJ4, xPut_st zJ4]
      rw [eF]
      exact v_zret rfl (by decide) (by decide) (Or.inl rfl) dX9_does_147 ⟨rfl, (oJ1.tr oJ4), Or.inr ⟨rfl, zJ4, bJ4⟩⟩
  · refine v_if_eq ⟨by decide, by decide⟩ dX9_does_123 (fun hb123 => ?_) (fun h => by exfalso; omega)
    refine v_iconst dX9_does_146 ?_
    have eF : xLay (xTake Q (xTake Q σ 2) 2) 2 = xTake Q σ (2) := by simp only [xTake_st zJ1, xLay_st zJ1, xChk_st zJ1, xTA_st zJ1, xPut_st zJ1]
    rw [eF]
    exact v_zret rfl (by decide) (by decide) (Or.inl rfl) dX9_does_147 ⟨rfl, oJ1, Or.inr ⟨rfl, zJ1, bJ1⟩⟩
theorem tX9_do10 {E : w_E} {G : w_Sh} {I : w_Mm} {y : Nat} {Q : cS} {N : Nat} {σ : sS} (hY : isY G y) (hQ : clsY I y Q) (h0 : σ.1 = 0) (hf : yfr I y σ.2) (hkn : knP Q N σ.2) (hN : N ≤ 40) (hpw : pW σ.2.2.1) (hkL : ∀ k, k < 8 → knK Q N (σ.2.2.1 k)) (hpp : ppP σ.2) {π : mS} {i : Nat} (hM : yM I y i π) (hi : i < 6) (hnow : I y 29 = (i : Int)) (hNm : N = mN π) {p : Nat} (hat : I y 30 = (p : Int)) (hp : p < N) (hres : resK Q (mRes π)) (hq16 : Q.1 ≤ 16) (hq2 : 2 ≤ Q.1) {a b : Int} (ha : inR a) (hb : inR b) (hok : opOK Q 10 a b) : w_Ct E mX9_does 5 [.ref y, iv 10, iv a, iv b] G I 0 0 (w_Pi (fun r G' J => G' = G ∧ sPost y I J r (xDo Q π σ p 10 a b))) := by
  rw [xDo_10]
  obtain ⟨hTy, hYr⟩ := hY
  have hQ0 := hQ
  have hf0 := hf
  obtain ⟨hf27, hfh0, hfh8, hfL, hfP⟩ := hf
  have hM0 := hM
  obtain ⟨hm3, hm4, hm4b, hm5, hm6, hm6b, hm7, hm10, hm10b, hm11⟩ := hM
  refine w_Ct.of (ls := [some (.ref y), some (iv 10), some (iv a), some (iv b)]) (by decide +kernel) (Nat.le_of_ble_eq_true rfl) rfl rfl (fun rng => ?_)
  refine v_iload_n dX9_does_0 rfl ?_
  refine v_tswIn (off := 147) (tgt := 148) dX9_does_1 ⟨by decide, by decide⟩ (by decide) (by decide) (by decide) (by decide) ?_
  refine v_aload_n dX9_does_148 rfl ?_
  refine v_iconst dX9_does_149 ?_
  refine v_Vi (tX9_takes (⟨hTy, hYr⟩ : isY G y) hQ0 (σ := σ) h0 hf0 hkn hN (by first | exact Or.inl ⟨by decide, by decide⟩ | omega) (by omega)) kX9_163 hTy rfl rfl ⟨by decide, by decide⟩ ⟨by decide, by decide⟩ (Nat.le_of_ble_eq_true rfl) dX9_does_150 (fun r3 G9 J1 hr3 pJ1 rng2 => ?_)
  obtain ⟨hG9, oJ1, ⟨rfl, zJ1, fJ1, bJ1⟩ | ⟨rfl, zJ1, bJ1⟩⟩ := pJ1
  all_goals obtain rfl := hG9.symm
  · have qJ1 := hQ0.T oJ1
    have kJ1 : knP Q N (xTake Q σ (1)).2 := hkn.take
    refine v_if_eq ⟨by decide, by decide⟩ dX9_does_153 (fun h => by exfalso; omega) (fun hb153 => ?_)
    refine v_aload_n dX9_does_156 rfl ?_
    refine v_iconst dX9_does_157 ?_
    refine v_Vi (tX9_lays (⟨hTy, hYr⟩ : isY G y) qJ1 (σ := (xTake Q σ (1))) zJ1 fJ1 kJ1 hN (by first | exact Or.inl ⟨by decide, by decide⟩ | omega) (by omega)) kX9_160 hTy rfl rfl ⟨by decide, by decide⟩ ⟨by decide, by decide⟩ (Nat.le_of_ble_eq_true rfl) dX9_does_158 (fun r6 G9 J4 hr6 pJ4 rng5 => ?_)
    obtain ⟨hG9, oJ4, ⟨rfl, zJ4, fJ4, bJ4⟩ | ⟨rfl, zJ4, bJ4⟩⟩ := pJ4
    all_goals obtain rfl := hG9.symm
    · have qJ4 := qJ1.T oJ4
      refine v_if_eq ⟨by decide, by decide⟩ dX9_does_161 (fun h => by exfalso; omega) (fun hb161 => ?_)
      refine v_iconst dX9_does_164 ?_
      refine v_goto dX9_does_165 ?_
      exact v_zret rfl (by decide) (by decide) (Or.inr rfl) dX9_does_169 ⟨rfl, (oJ1.tr oJ4), Or.inl ⟨rfl, zJ4, fJ4, (bJ4.trans bJ1)⟩⟩
    · refine v_if_eq ⟨by decide, by decide⟩ dX9_does_161 (fun hb161 => ?_) (fun h => by exfalso; omega)
      refine v_iconst dX9_does_168 ?_
      have eF : xLay (xTake Q σ 1) 2 = xLay (xTake Q σ (1)) (2) := by simp only [xTake_st zJ4, xLay_st zJ4, xChk_st zJ4, xTA_st zJ4, xPut_st zJ4]
      rw [eF]
      exact v_zret rfl (by decide) (by decide) (Or.inl rfl) dX9_does_169 ⟨rfl, (oJ1.tr oJ4), Or.inr ⟨rfl, zJ4, bJ4⟩⟩
  · refine v_if_eq ⟨by decide, by decide⟩ dX9_does_153 (fun hb153 => ?_) (fun h => by exfalso; omega)
    refine v_iconst dX9_does_168 ?_
    have eF : xLay (xTake Q σ 1) 2 = xTake Q σ (1) := by simp only [xTake_st zJ1, xLay_st zJ1, xChk_st zJ1, xTA_st zJ1, xPut_st zJ1]
    rw [eF]
    exact v_zret rfl (by decide) (by decide) (Or.inl rfl) dX9_does_169 ⟨rfl, oJ1, Or.inr ⟨rfl, zJ1, bJ1⟩⟩
theorem tX9_do11 {E : w_E} {G : w_Sh} {I : w_Mm} {y : Nat} {Q : cS} {N : Nat} {σ : sS} (hY : isY G y) (hQ : clsY I y Q) (h0 : σ.1 = 0) (hf : yfr I y σ.2) (hkn : knP Q N σ.2) (hN : N ≤ 40) (hpw : pW σ.2.2.1) (hkL : ∀ k, k < 8 → knK Q N (σ.2.2.1 k)) (hpp : ppP σ.2) {π : mS} {i : Nat} (hM : yM I y i π) (hi : i < 6) (hnow : I y 29 = (i : Int)) (hNm : N = mN π) {p : Nat} (hat : I y 30 = (p : Int)) (hp : p < N) (hres : resK Q (mRes π)) (hq16 : Q.1 ≤ 16) (hq2 : 2 ≤ Q.1) {a b : Int} (ha : inR a) (hb : inR b) (hok : opOK Q 11 a b) : w_Ct E mX9_does 5 [.ref y, iv 11, iv a, iv b] G I 0 0 (w_Pi (fun r G' J => G' = G ∧ sPost y I J r (xDo Q π σ p 11 a b))) := by
  rw [xDo_11]
  obtain ⟨hTy, hYr⟩ := hY
  have hQ0 := hQ
  have hf0 := hf
  obtain ⟨hf27, hfh0, hfh8, hfL, hfP⟩ := hf
  have hM0 := hM
  obtain ⟨hm3, hm4, hm4b, hm5, hm6, hm6b, hm7, hm10, hm10b, hm11⟩ := hM
  refine w_Ct.of (ls := [some (.ref y), some (iv 11), some (iv a), some (iv b)]) (by decide +kernel) (Nat.le_of_ble_eq_true rfl) rfl rfl (fun rng => ?_)
  refine v_iload_n dX9_does_0 rfl ?_
  refine v_tswIn (off := 169) (tgt := 170) dX9_does_1 ⟨by decide, by decide⟩ (by decide) (by decide) (by decide) (by decide) ?_
  refine v_aload_n dX9_does_170 rfl ?_
  refine v_iconst dX9_does_171 ?_
  refine v_Vi (tX9_takes (⟨hTy, hYr⟩ : isY G y) hQ0 (σ := σ) h0 hf0 hkn hN (by first | exact Or.inl ⟨by decide, by decide⟩ | omega) (by omega)) kX9_163 hTy rfl rfl ⟨by decide, by decide⟩ ⟨by decide, by decide⟩ (Nat.le_of_ble_eq_true rfl) dX9_does_172 (fun r3 G9 J1 hr3 pJ1 rng2 => ?_)
  obtain ⟨hG9, oJ1, ⟨rfl, zJ1, fJ1, bJ1⟩ | ⟨rfl, zJ1, bJ1⟩⟩ := pJ1
  all_goals obtain rfl := hG9.symm
  · have qJ1 := hQ0.T oJ1
    have kJ1 : knP Q N (xTake Q σ (1)).2 := hkn.take
    exact v_zret rfl (by decide) (by decide) (Or.inr rfl) dX9_does_175 ⟨rfl, oJ1, Or.inl ⟨rfl, zJ1, fJ1, bJ1⟩⟩
  · exact v_zret rfl (by decide) (by decide) (Or.inl rfl) dX9_does_175 ⟨rfl, oJ1, Or.inr ⟨rfl, zJ1, bJ1⟩⟩
theorem tX9_do12 {E : w_E} {G : w_Sh} {I : w_Mm} {y : Nat} {Q : cS} {N : Nat} {σ : sS} (hY : isY G y) (hQ : clsY I y Q) (h0 : σ.1 = 0) (hf : yfr I y σ.2) (hkn : knP Q N σ.2) (hN : N ≤ 40) (hpw : pW σ.2.2.1) (hkL : ∀ k, k < 8 → knK Q N (σ.2.2.1 k)) (hpp : ppP σ.2) {π : mS} {i : Nat} (hM : yM I y i π) (hi : i < 6) (hnow : I y 29 = (i : Int)) (hNm : N = mN π) {p : Nat} (hat : I y 30 = (p : Int)) (hp : p < N) (hres : resK Q (mRes π)) (hq16 : Q.1 ≤ 16) (hq2 : 2 ≤ Q.1) {a b : Int} (ha : inR a) (hb : inR b) (hok : opOK Q 12 a b) : w_Ct E mX9_does 5 [.ref y, iv 12, iv a, iv b] G I 0 0 (w_Pi (fun r G' J => G' = G ∧ sPost y I J r (xDo Q π σ p 12 a b))) := by
  rw [xDo_12]
  obtain ⟨hTy, hYr⟩ := hY
  have hQ0 := hQ
  have hf0 := hf
  obtain ⟨hf27, hfh0, hfh8, hfL, hfP⟩ := hf
  have hM0 := hM
  obtain ⟨hm3, hm4, hm4b, hm5, hm6, hm6b, hm7, hm10, hm10b, hm11⟩ := hM
  refine w_Ct.of (ls := [some (.ref y), some (iv 12), some (iv a), some (iv b)]) (by decide +kernel) (Nat.le_of_ble_eq_true rfl) rfl rfl (fun rng => ?_)
  refine v_iload_n dX9_does_0 rfl ?_
  refine v_tswIn (off := 175) (tgt := 176) dX9_does_1 ⟨by decide, by decide⟩ (by decide) (by decide) (by decide) (by decide) ?_
  refine v_iconst dX9_does_176 ?_
  exact v_zret rfl (by decide) (by decide) (Or.inr rfl) dX9_does_177 ⟨rfl, offT.rf, Or.inl ⟨rfl, h0, hf0, rfl⟩⟩
theorem tX9_do13 {E : w_E} {G : w_Sh} {I : w_Mm} {y : Nat} {Q : cS} {N : Nat} {σ : sS} (hY : isY G y) (hQ : clsY I y Q) (h0 : σ.1 = 0) (hf : yfr I y σ.2) (hkn : knP Q N σ.2) (hN : N ≤ 40) (hpw : pW σ.2.2.1) (hkL : ∀ k, k < 8 → knK Q N (σ.2.2.1 k)) (hpp : ppP σ.2) {π : mS} {i : Nat} (hM : yM I y i π) (hi : i < 6) (hnow : I y 29 = (i : Int)) (hNm : N = mN π) {p : Nat} (hat : I y 30 = (p : Int)) (hp : p < N) (hres : resK Q (mRes π)) (hq16 : Q.1 ≤ 16) (hq2 : 2 ≤ Q.1) {a b : Int} (ha : inR a) (hb : inR b) (hok : opOK Q 13 a b) : w_Ct E mX9_does 5 [.ref y, iv 13, iv a, iv b] G I 0 0 (w_Pi (fun r G' J => G' = G ∧ sPost y I J r (xDo Q π σ p 13 a b))) := by
  rw [xDo_13]
  obtain ⟨hTy, hYr⟩ := hY
  have hQ0 := hQ
  have hf0 := hf
  obtain ⟨hf27, hfh0, hfh8, hfL, hfP⟩ := hf
  have hM0 := hM
  obtain ⟨hm3, hm4, hm4b, hm5, hm6, hm6b, hm7, hm10, hm10b, hm11⟩ := hM
  refine w_Ct.of (ls := [some (.ref y), some (iv 13), some (iv a), some (iv b)]) (by decide +kernel) (Nat.le_of_ble_eq_true rfl) rfl rfl (fun rng => ?_)
  refine v_iload_n dX9_does_0 rfl ?_
  refine v_tswIn (off := 177) (tgt := 178) dX9_does_1 ⟨by decide, by decide⟩ (by decide) (by decide) (by decide) (by decide) ?_
  refine v_aload_n dX9_does_178 rfl ?_
  refine v_bipush dX9_does_179 (by decide) ?_
  refine v_aload_n dX9_does_181 rfl ?_
  refine v_getI' (v := ((p : Nat) : Int)) hat fX9_184 rfl hTy dX9_does_182 ?_
  refine v_iadd dX9_does_185 ?_
  refine v_Vi (tX9_lays (⟨hTy, hYr⟩ : isY G y) hQ0 (σ := σ) h0 hf0 hkn hN (Or.inr (Or.inr ⟨by omega, by omega⟩)) (by omega)) kX9_160 hTy rfl rfl ⟨by decide, by decide⟩ ⟨by decide, by decide⟩ (Nat.le_of_ble_eq_true rfl) dX9_does_186 (fun r3 G9 J1 hr3 pJ1 rng2 => ?_)
  obtain ⟨hG9, oJ1, ⟨rfl, zJ1, fJ1, bJ1⟩ | ⟨rfl, zJ1, bJ1⟩⟩ := pJ1
  all_goals obtain rfl := hG9.symm
  · have qJ1 := hQ0.T oJ1
    exact v_zret rfl (by decide) (by decide) (Or.inr rfl) dX9_does_189 ⟨rfl, oJ1, Or.inl ⟨rfl, zJ1, fJ1, bJ1⟩⟩
  · exact v_zret rfl (by decide) (by decide) (Or.inl rfl) dX9_does_189 ⟨rfl, oJ1, Or.inr ⟨rfl, zJ1, bJ1⟩⟩
theorem tX9_do14 {E : w_E} {G : w_Sh} {I : w_Mm} {y : Nat} {Q : cS} {N : Nat} {σ : sS} (hY : isY G y) (hQ : clsY I y Q) (h0 : σ.1 = 0) (hf : yfr I y σ.2) (hkn : knP Q N σ.2) (hN : N ≤ 40) (hpw : pW σ.2.2.1) (hkL : ∀ k, k < 8 → knK Q N (σ.2.2.1 k)) (hpp : ppP σ.2) {π : mS} {i : Nat} (hM : yM I y i π) (hi : i < 6) (hnow : I y 29 = (i : Int)) (hNm : N = mN π) {p : Nat} (hat : I y 30 = (p : Int)) (hp : p < N) (hres : resK Q (mRes π)) (hq16 : Q.1 ≤ 16) (hq2 : 2 ≤ Q.1) {a b : Int} (ha : inR a) (hb : inR b) (hok : opOK Q 14 a b) : w_Ct E mX9_does 5 [.ref y, iv 14, iv a, iv b] G I 0 0 (w_Pi (fun r G' J => G' = G ∧ sPost y I J r (xDo Q π σ p 14 a b))) := by
  rw [xDo_14]
  obtain ⟨hTy, hYr⟩ := hY
  have hQ0 := hQ
  have hf0 := hf
  obtain ⟨hf27, hfh0, hfh8, hfL, hfP⟩ := hf
  have hM0 := hM
  obtain ⟨hm3, hm4, hm4b, hm5, hm6, hm6b, hm7, hm10, hm10b, hm11⟩ := hM
  refine w_Ct.of (ls := [some (.ref y), some (iv 14), some (iv a), some (iv b)]) (by decide +kernel) (Nat.le_of_ble_eq_true rfl) rfl rfl (fun rng => ?_)
  refine v_iload_n dX9_does_0 rfl ?_
  refine v_tswIn (off := 189) (tgt := 190) dX9_does_1 ⟨by decide, by decide⟩ (by decide) (by decide) (by decide) (by decide) ?_
  refine v_aload_n dX9_does_190 rfl ?_
  refine v_iconst dX9_does_191 ?_
  refine v_Vi (tX9_wants (⟨hTy, hYr⟩ : isY G y) (φ := σ.2) hf0 ⟨by decide, by decide⟩) kX9_154 hTy rfl rfl ⟨by decide, by decide⟩ ⟨by decide, by decide⟩ (Nat.le_of_ble_eq_true rfl) dX9_does_192 (fun r3 G9 J1 hr3 pJ1 rng2 => ?_)
  obtain ⟨hG9, ⟨rfl, wJ1, eJ1⟩ | ⟨rfl, wJ1, rfl⟩⟩ := pJ1
  all_goals obtain rfl := hG9.symm
  · obtain rfl := eJ1.symm
    refine v_if_eq ⟨by decide, by decide⟩ dX9_does_195 (fun h => by exfalso; omega) (fun hb195 => ?_)
    refine v_aload_n dX9_does_198 rfl ?_
    refine v_VmN (tX9_top (⟨hTy, hYr⟩ : isY G y) hQ0 (σ := σ) h0 hf0 hkn hN wJ1) kX9_173 hTy rfl rfl ⟨by decide, by decide⟩ ⟨by decide, by decide⟩ (Nat.le_of_ble_eq_true rfl) dX9_does_199 (fun r4 er4 hr4 rng5 => ?_)
    subst er4
    obtain ⟨hn0, hn2⟩ := top_pp h0 wJ1 hpp
    have kt := hkn.top
    refine v_iconst dX9_does_202 ?_
    refine v_icmp_ne hr4 ⟨by decide, by decide⟩ dX9_does_203 (fun h6 => ?_) (fun h6 => ?_)
    · refine v_aload_n dX9_does_214 rfl ?_
      refine v_aload_n dX9_does_215 rfl ?_
      refine v_VmN (tX9_top (⟨hTy, hYr⟩ : isY G y) hQ0 (σ := σ) h0 hf0 hkn hN wJ1) kX9_173 hTy rfl rfl ⟨by decide, by decide⟩ ⟨by decide, by decide⟩ (Nat.le_of_ble_eq_true rfl) dX9_does_216 (fun r7 er7 hr7 rng8 => ?_)
      subst er7
      refine v_Vi (tX9_lays (⟨hTy, hYr⟩ : isY G y) hQ0 (σ := σ) h0 hf0 hkn hN (kt.known hN) (by omega)) kX9_160 hTy rfl rfl ⟨by decide, by decide⟩ ⟨by decide, by decide⟩ (Nat.le_of_ble_eq_true rfl) dX9_does_219 (fun r11 G9 J9 hr11 pJ9 rng10 => ?_)
      obtain ⟨hG9, oJ9, ⟨rfl, zJ9, fJ9, bJ9⟩ | ⟨rfl, zJ9, bJ9⟩⟩ := pJ9
      all_goals obtain rfl := hG9.symm
      · have qJ9 := hQ0.T oJ9
        refine v_if_eq ⟨by decide, by decide⟩ dX9_does_222 (fun h => by exfalso; omega) (fun hb222 => ?_)
        refine v_iconst dX9_does_225 ?_
        refine v_goto dX9_does_226 ?_
        have eF : xLayTop σ = (xLay σ ((xTA σ).1)) := by exact layTop_eq h0 wJ1 hfh8 hn0 hn2 h6
        rw [eF]
        exact v_zret rfl (by decide) (by decide) (Or.inr rfl) dX9_does_230 ⟨rfl, oJ9, Or.inl ⟨rfl, zJ9, fJ9, bJ9⟩⟩
      · refine v_if_eq ⟨by decide, by decide⟩ dX9_does_222 (fun hb222 => ?_) (fun h => by exfalso; omega)
        refine v_iconst dX9_does_229 ?_
        have eF : xLayTop σ = xLay σ ((xTA σ).1) := by exact layTop_eq h0 wJ1 hfh8 hn0 hn2 h6
        rw [eF]
        exact v_zret rfl (by decide) (by decide) (Or.inl rfl) dX9_does_230 ⟨rfl, oJ9, Or.inr ⟨rfl, zJ9, bJ9⟩⟩
    · refine v_aload_n dX9_does_206 rfl ?_
      refine v_iconst dX9_does_207 ?_
      refine v_VmN (tX9_breaks (⟨hTy, hYr⟩ : isY G y) ⟨by decide, by decide⟩) kX9_151 hTy rfl rfl ⟨by decide, by decide⟩ ⟨by decide, by decide⟩ (Nat.le_of_ble_eq_true rfl) dX9_does_208 (fun r12 er12 hr12 rng13 => ?_)
      subst er12
      refine v_if_eq ⟨by decide, by decide⟩ dX9_does_211 (fun hb211 => ?_) (fun h => by exfalso; omega)
      refine v_iconst dX9_does_229 ?_
      have eF : (xLayTop σ).1 = 3 := by have n3 : ¬ ((3 : Int), (xTA σ).2.2).1 = 0 := (by decide : ¬ (3 : Int) = 0); unfold xLayTop; rw [xChk_n (fun q => q h6), xBrk_0 (show (xTA σ).2.1 = 0 by rw [xTA_hi h0 wJ1]; exact h0), xLay_st n3, xLay_st n3]
      exact v_zret rfl (by decide) (by decide) (Or.inl rfl) dX9_does_230 ⟨rfl, offT_28, Or.inr ⟨rfl, by rw [eF]; decide, by rw [eF, w_up_s]⟩⟩
  · refine v_if_eq ⟨by decide, by decide⟩ dX9_does_195 (fun hb195 => ?_) (fun h => by exfalso; omega)
    refine v_iconst dX9_does_229 ?_
    have eF : (xLayTop σ).1 = 2 := by have h9 : xTA σ = (0, (2, σ.2)) := xTA_lo h0 (by omega); have n9 : ¬ ((2 : Int), σ.2).1 = 0 := (by decide : ¬ (2 : Int) = 0); unfold xLayTop; rw [h9, xChk_st n9, xLay_st n9, xLay_st n9]
    exact v_zret rfl (by decide) (by decide) (Or.inl rfl) dX9_does_230 ⟨rfl, offT_28, Or.inr ⟨rfl, by rw [eF]; decide, by rw [eF, w_up_s]⟩⟩
theorem tX9_do15 {E : w_E} {G : w_Sh} {I : w_Mm} {y : Nat} {Q : cS} {N : Nat} {σ : sS} (hY : isY G y) (hQ : clsY I y Q) (h0 : σ.1 = 0) (hf : yfr I y σ.2) (hkn : knP Q N σ.2) (hN : N ≤ 40) (hpw : pW σ.2.2.1) (hkL : ∀ k, k < 8 → knK Q N (σ.2.2.1 k)) (hpp : ppP σ.2) {π : mS} {i : Nat} (hM : yM I y i π) (hi : i < 6) (hnow : I y 29 = (i : Int)) (hNm : N = mN π) {p : Nat} (hat : I y 30 = (p : Int)) (hp : p < N) (hres : resK Q (mRes π)) (hq16 : Q.1 ≤ 16) (hq2 : 2 ≤ Q.1) {a b : Int} (ha : inR a) (hb : inR b) (hok : opOK Q 15 a b) : w_Ct E mX9_does 5 [.ref y, iv 15, iv a, iv b] G I 0 0 (w_Pi (fun r G' J => G' = G ∧ sPost y I J r (xDo Q π σ p 15 a b))) := by
  rw [xDo_15]
  obtain ⟨hTy, hYr⟩ := hY
  have hQ0 := hQ
  have hf0 := hf
  obtain ⟨hf27, hfh0, hfh8, hfL, hfP⟩ := hf
  have hM0 := hM
  obtain ⟨hm3, hm4, hm4b, hm5, hm6, hm6b, hm7, hm10, hm10b, hm11⟩ := hM
  have hcl := hok.2.2.2.2.2.1 (by decide)
  refine w_Ct.of (ls := [some (.ref y), some (iv 15), some (iv a), some (iv b)]) (by decide +kernel) (Nat.le_of_ble_eq_true rfl) rfl rfl (fun rng => ?_)
  refine v_iload_n dX9_does_0 rfl ?_
  refine v_tswIn (off := 230) (tgt := 231) dX9_does_1 ⟨by decide, by decide⟩ (by decide) (by decide) (by decide) (by decide) ?_
  refine v_aload_n dX9_does_231 rfl ?_
  refine v_iload_n dX9_does_232 rfl ?_
  refine v_Vi (tX9_makes (⟨hTy, hYr⟩ : isY G y) hQ0 (σ := σ) h0 hf0 hkn hN hM0 hi hnow hNm hcl hq16) kX9_187 hTy rfl rfl ⟨by decide, by decide⟩ ⟨by decide, by decide⟩ (Nat.le_of_ble_eq_true rfl) dX9_does_233 (fun r3 G9 J1 hr3 pJ1 rng2 => ?_)
  obtain ⟨hG9, oJ1, ⟨rfl, zJ1, fJ1, bJ1⟩ | ⟨rfl, zJ1, bJ1⟩⟩ := pJ1
  all_goals obtain rfl := hG9.symm
  · have qJ1 := hQ0.T oJ1
    exact v_zret rfl (by decide) (by decide) (Or.inr rfl) dX9_does_236 ⟨rfl, oJ1, Or.inl ⟨rfl, zJ1, fJ1, bJ1⟩⟩
  · exact v_zret rfl (by decide) (by decide) (Or.inl rfl) dX9_does_236 ⟨rfl, oJ1, Or.inr ⟨rfl, zJ1, bJ1⟩⟩
theorem tX9_do16 {E : w_E} {G : w_Sh} {I : w_Mm} {y : Nat} {Q : cS} {N : Nat} {σ : sS} (hY : isY G y) (hQ : clsY I y Q) (h0 : σ.1 = 0) (hf : yfr I y σ.2) (hkn : knP Q N σ.2) (hN : N ≤ 40) (hpw : pW σ.2.2.1) (hkL : ∀ k, k < 8 → knK Q N (σ.2.2.1 k)) (hpp : ppP σ.2) {π : mS} {i : Nat} (hM : yM I y i π) (hi : i < 6) (hnow : I y 29 = (i : Int)) (hNm : N = mN π) {p : Nat} (hat : I y 30 = (p : Int)) (hp : p < N) (hres : resK Q (mRes π)) (hq16 : Q.1 ≤ 16) (hq2 : 2 ≤ Q.1) {a b : Int} (ha : inR a) (hb : inR b) (hok : opOK Q 16 a b) : w_Ct E mX9_does 5 [.ref y, iv 16, iv a, iv b] G I 0 0 (w_Pi (fun r G' J => G' = G ∧ sPost y I J r (xDo Q π σ p 16 a b))) := by
  rw [xDo_16]
  obtain ⟨hTy, hYr⟩ := hY
  have hQ0 := hQ
  have hf0 := hf
  obtain ⟨hf27, hfh0, hfh8, hfL, hfP⟩ := hf
  have hM0 := hM
  obtain ⟨hm3, hm4, hm4b, hm5, hm6, hm6b, hm7, hm10, hm10b, hm11⟩ := hM
  have hcl := hok.2.2.2.2.2.1 (by decide); have hrb := hok.2.2.2.2.2.2.1 rfl; have hkb := (knK_res (N := N) hrb).1.known hN
  refine w_Ct.of (ls := [some (.ref y), some (iv 16), some (iv a), some (iv b)]) (by decide +kernel) (Nat.le_of_ble_eq_true rfl) rfl rfl (fun rng => ?_)
  refine v_iload_n dX9_does_0 rfl ?_
  refine v_tswIn (off := 236) (tgt := 237) dX9_does_1 ⟨by decide, by decide⟩ (by decide) (by decide) (by decide) (by decide) ?_
  refine v_aload_n dX9_does_237 rfl ?_
  refine v_bipush dX9_does_238 (by decide) ?_
  refine v_iload_n dX9_does_240 rfl ?_
  refine v_iadd dX9_does_241 ?_
  refine v_Vi (tX9_takes (⟨hTy, hYr⟩ : isY G y) hQ0 (σ := σ) h0 hf0 hkn hN (Or.inr (Or.inl (Or.inl ⟨⟨by omega, by omega⟩, ⟨by omega, by omega⟩⟩))) (by omega)) kX9_163 hTy rfl rfl ⟨by decide, by decide⟩ ⟨by decide, by decide⟩ (Nat.le_of_ble_eq_true rfl) dX9_does_242 (fun r3 G9 J1 hr3 pJ1 rng2 => ?_)
  obtain ⟨hG9, oJ1, ⟨rfl, zJ1, fJ1, bJ1⟩ | ⟨rfl, zJ1, bJ1⟩⟩ := pJ1
  all_goals obtain rfl := hG9.symm
  · have qJ1 := hQ0.T oJ1
    have kJ1 : knP Q N (xTake Q σ ((10 + a))).2 := hkn.take
    refine v_if_eq ⟨by decide, by decide⟩ dX9_does_245 (fun h => by exfalso; omega) (fun hb245 => ?_)
    refine v_iload_n dX9_does_248 rfl ?_
    refine v_if_eq hb dX9_does_249 (fun h4 => ?_) (fun h4 => ?_)
    · refine v_iconst dX9_does_260 ?_
      refine v_goto dX9_does_261 ?_
      have eF : xLay (xTake Q σ (10 + a)) b = (xTake Q σ ((10 + a))) := by rw [h4, xLay_0]
      rw [eF]
      exact v_zret rfl (by decide) (by decide) (Or.inr rfl) dX9_does_265 ⟨rfl, oJ1, Or.inl ⟨rfl, zJ1, fJ1, bJ1⟩⟩
    · refine v_aload_n dX9_does_252 rfl ?_
      refine v_iload_n dX9_does_253 rfl ?_
      refine v_Vi (tX9_lays (⟨hTy, hYr⟩ : isY G y) qJ1 (σ := (xTake Q σ ((10 + a)))) zJ1 fJ1 kJ1 hN hkb (by omega)) kX9_160 hTy rfl rfl ⟨by decide, by decide⟩ ⟨by decide, by decide⟩ (Nat.le_of_ble_eq_true rfl) dX9_does_254 (fun r7 G9 J5 hr7 pJ5 rng6 => ?_)
      obtain ⟨hG9, oJ5, ⟨rfl, zJ5, fJ5, bJ5⟩ | ⟨rfl, zJ5, bJ5⟩⟩ := pJ5
      all_goals obtain rfl := hG9.symm
      · have qJ5 := qJ1.T oJ5
        refine v_if_eq ⟨by decide, by decide⟩ dX9_does_257 (fun h => by exfalso; omega) (fun hb257 => ?_)
        refine v_iconst dX9_does_260 ?_
        refine v_goto dX9_does_261 ?_
        exact v_zret rfl (by decide) (by decide) (Or.inr rfl) dX9_does_265 ⟨rfl, (oJ1.tr oJ5), Or.inl ⟨rfl, zJ5, fJ5, (bJ5.trans bJ1)⟩⟩
      · refine v_if_eq ⟨by decide, by decide⟩ dX9_does_257 (fun hb257 => ?_) (fun h => by exfalso; omega)
        refine v_iconst dX9_does_264 ?_
        have eF : xLay (xTake Q σ (10 + a)) b = xLay (xTake Q σ ((10 + a))) (b) := by simp only [xTake_st zJ5, xLay_st zJ5, xChk_st zJ5, xTA_st zJ5, xPut_st zJ5]
        rw [eF]
        exact v_zret rfl (by decide) (by decide) (Or.inl rfl) dX9_does_265 ⟨rfl, (oJ1.tr oJ5), Or.inr ⟨rfl, zJ5, bJ5⟩⟩
  · refine v_if_eq ⟨by decide, by decide⟩ dX9_does_245 (fun hb245 => ?_) (fun h => by exfalso; omega)
    refine v_iconst dX9_does_264 ?_
    have eF : xLay (xTake Q σ (10 + a)) b = xTake Q σ ((10 + a)) := by simp only [xTake_st zJ1, xLay_st zJ1, xChk_st zJ1, xTA_st zJ1, xPut_st zJ1]
    rw [eF]
    exact v_zret rfl (by decide) (by decide) (Or.inl rfl) dX9_does_265 ⟨rfl, oJ1, Or.inr ⟨rfl, zJ1, bJ1⟩⟩
theorem tX9_do17 {E : w_E} {G : w_Sh} {I : w_Mm} {y : Nat} {Q : cS} {N : Nat} {σ : sS} (hY : isY G y) (hQ : clsY I y Q) (h0 : σ.1 = 0) (hf : yfr I y σ.2) (hkn : knP Q N σ.2) (hN : N ≤ 40) (hpw : pW σ.2.2.1) (hkL : ∀ k, k < 8 → knK Q N (σ.2.2.1 k)) (hpp : ppP σ.2) {π : mS} {i : Nat} (hM : yM I y i π) (hi : i < 6) (hnow : I y 29 = (i : Int)) (hNm : N = mN π) {p : Nat} (hat : I y 30 = (p : Int)) (hp : p < N) (hres : resK Q (mRes π)) (hq16 : Q.1 ≤ 16) (hq2 : 2 ≤ Q.1) {a b : Int} (ha : inR a) (hb : inR b) (hok : opOK Q 17 a b) : w_Ct E mX9_does 5 [.ref y, iv 17, iv a, iv b] G I 0 0 (w_Pi (fun r G' J => G' = G ∧ sPost y I J r (xDo Q π σ p 17 a b))) := by
  rw [xDo_17]
  obtain ⟨hTy, hYr⟩ := hY
  have hQ0 := hQ
  have hf0 := hf
  obtain ⟨hf27, hfh0, hfh8, hfL, hfP⟩ := hf
  have hM0 := hM
  obtain ⟨hm3, hm4, hm4b, hm5, hm6, hm6b, hm7, hm10, hm10b, hm11⟩ := hM
  refine w_Ct.of (ls := [some (.ref y), some (iv 17), some (iv a), some (iv b)]) (by decide +kernel) (Nat.le_of_ble_eq_true rfl) rfl rfl (fun rng => ?_)
  refine v_iload_n dX9_does_0 rfl ?_
  refine v_tswIn (off := 265) (tgt := 266) dX9_does_1 ⟨by decide, by decide⟩ (by decide) (by decide) (by decide) (by decide) ?_
  refine v_aload_n dX9_does_266 rfl ?_
  refine v_iconst dX9_does_267 ?_
  refine v_Vi (tX9_lays (⟨hTy, hYr⟩ : isY G y) hQ0 (σ := σ) h0 hf0 hkn hN (by first | exact Or.inl ⟨by decide, by decide⟩ | omega) (by omega)) kX9_160 hTy rfl rfl ⟨by decide, by decide⟩ ⟨by decide, by decide⟩ (Nat.le_of_ble_eq_true rfl) dX9_does_268 (fun r3 G9 J1 hr3 pJ1 rng2 => ?_)
  obtain ⟨hG9, oJ1, ⟨rfl, zJ1, fJ1, bJ1⟩ | ⟨rfl, zJ1, bJ1⟩⟩ := pJ1
  all_goals obtain rfl := hG9.symm
  · have qJ1 := hQ0.T oJ1
    exact v_zret rfl (by decide) (by decide) (Or.inr rfl) dX9_does_271 ⟨rfl, oJ1, Or.inl ⟨rfl, zJ1, fJ1, bJ1⟩⟩
  · exact v_zret rfl (by decide) (by decide) (Or.inl rfl) dX9_does_271 ⟨rfl, oJ1, Or.inr ⟨rfl, zJ1, bJ1⟩⟩
theorem tX9_do18 {E : w_E} {G : w_Sh} {I : w_Mm} {y : Nat} {Q : cS} {N : Nat} {σ : sS} (hY : isY G y) (hQ : clsY I y Q) (h0 : σ.1 = 0) (hf : yfr I y σ.2) (hkn : knP Q N σ.2) (hN : N ≤ 40) (hpw : pW σ.2.2.1) (hkL : ∀ k, k < 8 → knK Q N (σ.2.2.1 k)) (hpp : ppP σ.2) {π : mS} {i : Nat} (hM : yM I y i π) (hi : i < 6) (hnow : I y 29 = (i : Int)) (hNm : N = mN π) {p : Nat} (hat : I y 30 = (p : Int)) (hp : p < N) (hres : resK Q (mRes π)) (hq16 : Q.1 ≤ 16) (hq2 : 2 ≤ Q.1) {a b : Int} (ha : inR a) (hb : inR b) (hok : opOK Q 18 a b) : w_Ct E mX9_does 5 [.ref y, iv 18, iv a, iv b] G I 0 0 (w_Pi (fun r G' J => G' = G ∧ sPost y I J r (xDo Q π σ p 18 a b))) := by
  rw [xDo_18]
  obtain ⟨hTy, hYr⟩ := hY
  have hQ0 := hQ
  have hf0 := hf
  obtain ⟨hf27, hfh0, hfh8, hfL, hfP⟩ := hf
  have hM0 := hM
  obtain ⟨hm3, hm4, hm4b, hm5, hm6, hm6b, hm7, hm10, hm10b, hm11⟩ := hM
  have hcl := hok.2.2.2.2.2.1 (by decide)
  refine w_Ct.of (ls := [some (.ref y), some (iv 18), some (iv a), some (iv b)]) (by decide +kernel) (Nat.le_of_ble_eq_true rfl) rfl rfl (fun rng => ?_)
  refine v_iload_n dX9_does_0 rfl ?_
  refine v_tswIn (off := 271) (tgt := 272) dX9_does_1 ⟨by decide, by decide⟩ (by decide) (by decide) (by decide) (by decide) ?_
  refine v_aload_n dX9_does_272 rfl ?_
  refine v_iconst dX9_does_273 ?_
  refine v_Vi (tX9_wants (⟨hTy, hYr⟩ : isY G y) (φ := σ.2) hf0 ⟨by decide, by decide⟩) kX9_154 hTy rfl rfl ⟨by decide, by decide⟩ ⟨by decide, by decide⟩ (Nat.le_of_ble_eq_true rfl) dX9_does_274 (fun r3 G9 J1 hr3 pJ1 rng2 => ?_)
  obtain ⟨hG9, ⟨rfl, wJ1, eJ1⟩ | ⟨rfl, wJ1, rfl⟩⟩ := pJ1
  all_goals obtain rfl := hG9.symm
  · obtain rfl := eJ1.symm
    refine v_if_eq ⟨by decide, by decide⟩ dX9_does_277 (fun h => by exfalso; omega) (fun hb277 => ?_)
    refine v_aload_n dX9_does_280 rfl ?_
    refine v_aload_n dX9_does_281 rfl ?_
    refine v_VmN (tX9_top (⟨hTy, hYr⟩ : isY G y) hQ0 (σ := σ) h0 hf0 hkn hN wJ1) kX9_173 hTy rfl rfl ⟨by decide, by decide⟩ ⟨by decide, by decide⟩ (Nat.le_of_ble_eq_true rfl) dX9_does_282 (fun r4 er4 hr4 rng5 => ?_)
    subst er4
    refine v_Sb (tX9_isReference hr4) kX9_114 rfl rfl ⟨by decide, by decide⟩ ⟨by decide, by decide⟩ (Nat.le_of_ble_eq_true rfl) dX9_does_285 (fun h6 => ?_) (fun h6 => ?_)
    · refine v_Vi (tX9_takesTop (⟨hTy, hYr⟩ : isY G y) hQ0 (σ := σ) h0 hf0 hkn hN wJ1 (P := kRef (xTA σ).1) (by omega)) kX9_177 hTy rfl rfl ⟨by decide, by decide⟩ ⟨by decide, by decide⟩ (Nat.le_of_ble_eq_true rfl) dX9_does_288 (fun r9 G9 J7 hr9 pJ7 rng8 => ?_)
      obtain ⟨hG9, oJ7, ⟨rfl, zJ7, fJ7, bJ7⟩ | ⟨rfl, zJ7, bJ7⟩⟩ := pJ7
      all_goals obtain rfl := hG9.symm
      · have qJ7 := hQ0.T oJ7
        have kJ7 : knP Q N (xChk (xTA σ).2 (kRef (xTA σ).1) 3).2 := hkn.ta.chk
        refine v_if_eq ⟨by decide, by decide⟩ dX9_does_291 (fun h => by exfalso; omega) (fun hb291 => ?_)
        refine v_aload_n dX9_does_294 rfl ?_
        refine v_bipush dX9_does_295 (by decide) ?_
        refine v_iload_n dX9_does_297 rfl ?_
        refine v_iadd dX9_does_298 ?_
        refine v_Vi (tX9_lays (⟨hTy, hYr⟩ : isY G y) qJ7 (σ := (xChk (xTA σ).2 (kRef (xTA σ).1) 3)) zJ7 fJ7 kJ7 hN (Or.inr (Or.inl (Or.inl ⟨⟨by omega, by omega⟩, ⟨by omega, by omega⟩⟩))) (by omega)) kX9_160 hTy rfl rfl ⟨by decide, by decide⟩ ⟨by decide, by decide⟩ (Nat.le_of_ble_eq_true rfl) dX9_does_299 (fun r12 G9 J10 hr12 pJ10 rng11 => ?_)
        obtain ⟨hG9, oJ10, ⟨rfl, zJ10, fJ10, bJ10⟩ | ⟨rfl, zJ10, bJ10⟩⟩ := pJ10
        all_goals obtain rfl := hG9.symm
        · have qJ10 := qJ7.T oJ10
          refine v_if_eq ⟨by decide, by decide⟩ dX9_does_302 (fun h => by exfalso; omega) (fun hb302 => ?_)
          refine v_iconst dX9_does_305 ?_
          refine v_goto dX9_does_306 ?_
          exact v_zret rfl (by decide) (by decide) (Or.inr rfl) dX9_does_310 ⟨rfl, (oJ7.tr oJ10), Or.inl ⟨rfl, zJ10, fJ10, (bJ10.trans bJ7)⟩⟩
        · refine v_if_eq ⟨by decide, by decide⟩ dX9_does_302 (fun hb302 => ?_) (fun h => by exfalso; omega)
          refine v_iconst dX9_does_309 ?_
          have eF : xLay (xChk (xTA σ).2 (kRef (xTA σ).1) 3) (10 + a) = xLay (xChk (xTA σ).2 (kRef (xTA σ).1) 3) ((10 + a)) := by simp only [xTake_st zJ10, xLay_st zJ10, xChk_st zJ10, xTA_st zJ10, xPut_st zJ10]
          rw [eF]
          exact v_zret rfl (by decide) (by decide) (Or.inl rfl) dX9_does_310 ⟨rfl, (oJ7.tr oJ10), Or.inr ⟨rfl, zJ10, bJ10⟩⟩
      · exact absurd (by rw [xChk_y (by omega), xTA_hi h0 wJ1]; exact h0) zJ7
    · refine v_Vi (tX9_takesTop (⟨hTy, hYr⟩ : isY G y) hQ0 (σ := σ) h0 hf0 hkn hN wJ1 (P := kRef (xTA σ).1) (by omega)) kX9_177 hTy rfl rfl ⟨by decide, by decide⟩ ⟨by decide, by decide⟩ (Nat.le_of_ble_eq_true rfl) dX9_does_288 (fun r15 G9 J13 hr15 pJ13 rng14 => ?_)
      obtain ⟨hG9, oJ13, ⟨rfl, zJ13, fJ13, bJ13⟩ | ⟨rfl, zJ13, bJ13⟩⟩ := pJ13
      all_goals obtain rfl := hG9.symm
      · exact absurd zJ13 (by rw [xChk_n (by omega)]; exact xBrk_ne (by decide))
      · refine v_if_eq ⟨by decide, by decide⟩ dX9_does_291 (fun hb291 => ?_) (fun h => by exfalso; omega)
        refine v_iconst dX9_does_309 ?_
        have eF : xLay (xChk (xTA σ).2 (kRef (xTA σ).1) 3) (10 + a) = xChk (xTA σ).2 (kRef (xTA σ).1) 3 := by simp only [xTake_st zJ13, xLay_st zJ13, xChk_st zJ13, xTA_st zJ13, xPut_st zJ13]
        rw [eF]
        exact v_zret rfl (by decide) (by decide) (Or.inl rfl) dX9_does_310 ⟨rfl, oJ13, Or.inr ⟨rfl, zJ13, bJ13⟩⟩
  · refine v_if_eq ⟨by decide, by decide⟩ dX9_does_277 (fun hb277 => ?_) (fun h => by exfalso; omega)
    refine v_iconst dX9_does_309 ?_
    have eF : (xLay (xChk (xTA σ).2 (kRef (xTA σ).1) 3) (10 + a)).1 = 2 := by have h9 : xTA σ = (0, (2, σ.2)) := xTA_lo h0 (by omega); have n9 : ¬ ((2 : Int), σ.2).1 = 0 := (by decide : ¬ (2 : Int) = 0); rw [h9, xChk_st n9, xLay_st n9]
    exact v_zret rfl (by decide) (by decide) (Or.inl rfl) dX9_does_310 ⟨rfl, offT_28, Or.inr ⟨rfl, by rw [eF]; decide, by rw [eF, w_up_s]⟩⟩
theorem tX9_do19 {E : w_E} {G : w_Sh} {I : w_Mm} {y : Nat} {Q : cS} {N : Nat} {σ : sS} (hY : isY G y) (hQ : clsY I y Q) (h0 : σ.1 = 0) (hf : yfr I y σ.2) (hkn : knP Q N σ.2) (hN : N ≤ 40) (hpw : pW σ.2.2.1) (hkL : ∀ k, k < 8 → knK Q N (σ.2.2.1 k)) (hpp : ppP σ.2) {π : mS} {i : Nat} (hM : yM I y i π) (hi : i < 6) (hnow : I y 29 = (i : Int)) (hNm : N = mN π) {p : Nat} (hat : I y 30 = (p : Int)) (hp : p < N) (hres : resK Q (mRes π)) (hq16 : Q.1 ≤ 16) (hq2 : 2 ≤ Q.1) {a b : Int} (ha : inR a) (hb : inR b) (hok : opOK Q 19 a b) : w_Ct E mX9_does 5 [.ref y, iv 19, iv a, iv b] G I 0 0 (w_Pi (fun r G' J => G' = G ∧ sPost y I J r (xDo Q π σ p 19 a b))) := by
  rw [xDo_19]
  obtain ⟨hTy, hYr⟩ := hY
  have hQ0 := hQ
  have hf0 := hf
  obtain ⟨hf27, hfh0, hfh8, hfL, hfP⟩ := hf
  have hM0 := hM
  obtain ⟨hm3, hm4, hm4b, hm5, hm6, hm6b, hm7, hm10, hm10b, hm11⟩ := hM
  have hcl := hok.2.2.2.2.2.2.2 rfl
  refine w_Ct.of (ls := [some (.ref y), some (iv 19), some (iv a), some (iv b)]) (by decide +kernel) (Nat.le_of_ble_eq_true rfl) rfl rfl (fun rng => ?_)
  refine v_iload_n dX9_does_0 rfl ?_
  refine v_tswIn (off := 310) (tgt := 311) dX9_does_1 ⟨by decide, by decide⟩ (by decide) (by decide) (by decide) (by decide) ?_
  refine v_aload_n dX9_does_311 rfl ?_
  refine v_iconst dX9_does_312 ?_
  refine v_Vi (tX9_takes (⟨hTy, hYr⟩ : isY G y) hQ0 (σ := σ) h0 hf0 hkn hN (by first | exact Or.inl ⟨by decide, by decide⟩ | omega) (by omega)) kX9_163 hTy rfl rfl ⟨by decide, by decide⟩ ⟨by decide, by decide⟩ (Nat.le_of_ble_eq_true rfl) dX9_does_313 (fun r3 G9 J1 hr3 pJ1 rng2 => ?_)
  obtain ⟨hG9, oJ1, ⟨rfl, zJ1, fJ1, bJ1⟩ | ⟨rfl, zJ1, bJ1⟩⟩ := pJ1
  all_goals obtain rfl := hG9.symm
  · have qJ1 := hQ0.T oJ1
    have kJ1 : knP Q N (xTake Q σ (1)).2 := hkn.take
    refine v_if_eq ⟨by decide, by decide⟩ dX9_does_316 (fun h => by exfalso; omega) (fun hb316 => ?_)
    refine v_aload_n dX9_does_319 rfl ?_
    refine v_iload_n dX9_does_320 rfl ?_
    refine v_iconst dX9_does_321 ?_
    refine v_icmp_ne ha ⟨by decide, by decide⟩ dX9_does_322 (fun h4 => ?_) (fun h4 => ?_)
    · refine v_bipush dX9_does_329 (by decide) ?_
      refine v_iload_n dX9_does_331 rfl ?_
      refine v_iadd dX9_does_332 ?_
      refine v_Vi (tX9_lays (⟨hTy, hYr⟩ : isY G y) qJ1 (σ := (xTake Q σ (1))) zJ1 fJ1 kJ1 hN (by first | exact Or.inl ⟨by decide, by decide⟩ | exact (Or.inr (Or.inl (Or.inr ⟨⟨by omega, by omega⟩, ⟨by omega, by omega⟩⟩)))) (by omega)) kX9_160 hTy rfl rfl ⟨by decide, by decide⟩ ⟨by decide, by decide⟩ (Nat.le_of_ble_eq_true rfl) dX9_does_333 (fun r7 G9 J5 hr7 pJ5 rng6 => ?_)
      obtain ⟨hG9, oJ5, ⟨rfl, zJ5, fJ5, bJ5⟩ | ⟨rfl, zJ5, bJ5⟩⟩ := pJ5
      all_goals obtain rfl := hG9.symm
      · have qJ5 := qJ1.T oJ5
        refine v_if_eq ⟨by decide, by decide⟩ dX9_does_336 (fun h => by exfalso; omega) (fun hb336 => ?_)
        refine v_iconst dX9_does_339 ?_
        refine v_goto dX9_does_340 ?_
        have eF : xLay (xTake Q σ 1) (if a = -1 then 5 else 40 + a) = (xLay (xTake Q σ (1)) ((40 + a))) := by rw [if_neg h4]
        rw [eF]
        exact v_zret rfl (by decide) (by decide) (Or.inr rfl) dX9_does_344 ⟨rfl, (oJ1.tr oJ5), Or.inl ⟨rfl, zJ5, fJ5, (bJ5.trans bJ1)⟩⟩
      · refine v_if_eq ⟨by decide, by decide⟩ dX9_does_336 (fun hb336 => ?_) (fun h => by exfalso; omega)
        refine v_iconst dX9_does_343 ?_
        have eF : xLay (xTake Q σ 1) (if a = -1 then 5 else 40 + a) = xLay (xTake Q σ (1)) ((40 + a)) := by rw [if_neg h4]
        rw [eF]
        exact v_zret rfl (by decide) (by decide) (Or.inl rfl) dX9_does_344 ⟨rfl, (oJ1.tr oJ5), Or.inr ⟨rfl, zJ5, bJ5⟩⟩
    · refine v_iconst dX9_does_325 ?_
      refine v_goto dX9_does_326 ?_
      refine v_Vi (tX9_lays (⟨hTy, hYr⟩ : isY G y) qJ1 (σ := (xTake Q σ (1))) zJ1 fJ1 kJ1 hN (by first | exact Or.inl ⟨by decide, by decide⟩ | exact (Or.inr (Or.inl (Or.inr ⟨⟨by omega, by omega⟩, ⟨by omega, by omega⟩⟩)))) (by omega)) kX9_160 hTy rfl rfl ⟨by decide, by decide⟩ ⟨by decide, by decide⟩ (Nat.le_of_ble_eq_true rfl) dX9_does_333 (fun r10 G9 J8 hr10 pJ8 rng9 => ?_)
      obtain ⟨hG9, oJ8, ⟨rfl, zJ8, fJ8, bJ8⟩ | ⟨rfl, zJ8, bJ8⟩⟩ := pJ8
      all_goals obtain rfl := hG9.symm
      · have qJ8 := qJ1.T oJ8
        refine v_if_eq ⟨by decide, by decide⟩ dX9_does_336 (fun h => by exfalso; omega) (fun hb336 => ?_)
        refine v_iconst dX9_does_339 ?_
        refine v_goto dX9_does_340 ?_
        have eF : xLay (xTake Q σ 1) (if a = -1 then 5 else 40 + a) = (xLay (xTake Q σ (1)) (5)) := by rw [if_pos h4]
        rw [eF]
        exact v_zret rfl (by decide) (by decide) (Or.inr rfl) dX9_does_344 ⟨rfl, (oJ1.tr oJ8), Or.inl ⟨rfl, zJ8, fJ8, (bJ8.trans bJ1)⟩⟩
      · refine v_if_eq ⟨by decide, by decide⟩ dX9_does_336 (fun hb336 => ?_) (fun h => by exfalso; omega)
        refine v_iconst dX9_does_343 ?_
        have eF : xLay (xTake Q σ 1) (if a = -1 then 5 else 40 + a) = xLay (xTake Q σ (1)) (5) := by rw [if_pos h4]
        rw [eF]
        exact v_zret rfl (by decide) (by decide) (Or.inl rfl) dX9_does_344 ⟨rfl, (oJ1.tr oJ8), Or.inr ⟨rfl, zJ8, bJ8⟩⟩
  · refine v_if_eq ⟨by decide, by decide⟩ dX9_does_316 (fun hb316 => ?_) (fun h => by exfalso; omega)
    refine v_iconst dX9_does_343 ?_
    have eF : xLay (xTake Q σ 1) (if a = -1 then 5 else 40 + a) = xTake Q σ (1) := by simp only [xTake_st zJ1, xLay_st zJ1, xChk_st zJ1, xTA_st zJ1, xPut_st zJ1]
    rw [eF]
    exact v_zret rfl (by decide) (by decide) (Or.inl rfl) dX9_does_344 ⟨rfl, oJ1, Or.inr ⟨rfl, zJ1, bJ1⟩⟩
theorem tX9_do20 {E : w_E} {G : w_Sh} {I : w_Mm} {y : Nat} {Q : cS} {N : Nat} {σ : sS} (hY : isY G y) (hQ : clsY I y Q) (h0 : σ.1 = 0) (hf : yfr I y σ.2) (hkn : knP Q N σ.2) (hN : N ≤ 40) (hpw : pW σ.2.2.1) (hkL : ∀ k, k < 8 → knK Q N (σ.2.2.1 k)) (hpp : ppP σ.2) {π : mS} {i : Nat} (hM : yM I y i π) (hi : i < 6) (hnow : I y 29 = (i : Int)) (hNm : N = mN π) {p : Nat} (hat : I y 30 = (p : Int)) (hp : p < N) (hres : resK Q (mRes π)) (hq16 : Q.1 ≤ 16) (hq2 : 2 ≤ Q.1) {a b : Int} (ha : inR a) (hb : inR b) (hok : opOK Q 20 a b) : w_Ct E mX9_does 5 [.ref y, iv 20, iv a, iv b] G I 0 0 (w_Pi (fun r G' J => G' = G ∧ sPost y I J r (xDo Q π σ p 20 a b))) := by
  rw [xDo_20]
  obtain ⟨hTy, hYr⟩ := hY
  have hQ0 := hQ
  have hf0 := hf
  obtain ⟨hf27, hfh0, hfh8, hfL, hfP⟩ := hf
  have hM0 := hM
  obtain ⟨hm3, hm4, hm4b, hm5, hm6, hm6b, hm7, hm10, hm10b, hm11⟩ := hM
  refine w_Ct.of (ls := [some (.ref y), some (iv 20), some (iv a), some (iv b)]) (by decide +kernel) (Nat.le_of_ble_eq_true rfl) rfl rfl (fun rng => ?_)
  refine v_iload_n dX9_does_0 rfl ?_
  refine v_tswIn (off := 344) (tgt := 345) dX9_does_1 ⟨by decide, by decide⟩ (by decide) (by decide) (by decide) (by decide) ?_
  refine v_aload_n dX9_does_345 rfl ?_
  refine v_Vi (tX9_reads (⟨hTy, hYr⟩ : isY G y) hQ0 (σ := σ) h0 hf0 hkn hN) kX9_190 hTy rfl rfl ⟨by decide, by decide⟩ ⟨by decide, by decide⟩ (Nat.le_of_ble_eq_true rfl) dX9_does_346 (fun r3 G9 J1 hr3 pJ1 rng2 => ?_)
  obtain ⟨hG9, oJ1, ⟨rfl, zJ1, fJ1, bJ1⟩ | ⟨rfl, zJ1, bJ1⟩⟩ := pJ1
  all_goals obtain rfl := hG9.symm
  · have qJ1 := hQ0.T oJ1
    exact v_zret rfl (by decide) (by decide) (Or.inr rfl) dX9_does_349 ⟨rfl, oJ1, Or.inl ⟨rfl, zJ1, fJ1, bJ1⟩⟩
  · exact v_zret rfl (by decide) (by decide) (Or.inl rfl) dX9_does_349 ⟨rfl, oJ1, Or.inr ⟨rfl, zJ1, bJ1⟩⟩
theorem tX9_do21 {E : w_E} {G : w_Sh} {I : w_Mm} {y : Nat} {Q : cS} {N : Nat} {σ : sS} (hY : isY G y) (hQ : clsY I y Q) (h0 : σ.1 = 0) (hf : yfr I y σ.2) (hkn : knP Q N σ.2) (hN : N ≤ 40) (hpw : pW σ.2.2.1) (hkL : ∀ k, k < 8 → knK Q N (σ.2.2.1 k)) (hpp : ppP σ.2) {π : mS} {i : Nat} (hM : yM I y i π) (hi : i < 6) (hnow : I y 29 = (i : Int)) (hNm : N = mN π) {p : Nat} (hat : I y 30 = (p : Int)) (hp : p < N) (hres : resK Q (mRes π)) (hq16 : Q.1 ≤ 16) (hq2 : 2 ≤ Q.1) {a b : Int} (ha : inR a) (hb : inR b) (hok : opOK Q 21 a b) : w_Ct E mX9_does 5 [.ref y, iv 21, iv a, iv b] G I 0 0 (w_Pi (fun r G' J => G' = G ∧ sPost y I J r (xDo Q π σ p 21 a b))) := by
  rw [xDo_21]
  obtain ⟨hTy, hYr⟩ := hY
  have hQ0 := hQ
  have hf0 := hf
  obtain ⟨hf27, hfh0, hfh8, hfL, hfP⟩ := hf
  have hM0 := hM
  obtain ⟨hm3, hm4, hm4b, hm5, hm6, hm6b, hm7, hm10, hm10b, hm11⟩ := hM
  refine w_Ct.of (ls := [some (.ref y), some (iv 21), some (iv a), some (iv b)]) (by decide +kernel) (Nat.le_of_ble_eq_true rfl) rfl rfl (fun rng => ?_)
  refine v_iload_n dX9_does_0 rfl ?_
  refine v_tswIn (off := 349) (tgt := 350) dX9_does_1 ⟨by decide, by decide⟩ (by decide) (by decide) (by decide) (by decide) ?_
  refine v_aload_n dX9_does_350 rfl ?_
  refine v_Vi (tX9_writes (⟨hTy, hYr⟩ : isY G y) hQ0 (σ := σ) h0 hf0 hkn hN) kX9_194 hTy rfl rfl ⟨by decide, by decide⟩ ⟨by decide, by decide⟩ (Nat.le_of_ble_eq_true rfl) dX9_does_351 (fun r3 G9 J1 hr3 pJ1 rng2 => ?_)
  obtain ⟨hG9, oJ1, ⟨rfl, zJ1, fJ1, bJ1⟩ | ⟨rfl, zJ1, bJ1⟩⟩ := pJ1
  all_goals obtain rfl := hG9.symm
  · have qJ1 := hQ0.T oJ1
    exact v_zret rfl (by decide) (by decide) (Or.inr rfl) dX9_does_354 ⟨rfl, oJ1, Or.inl ⟨rfl, zJ1, fJ1, bJ1⟩⟩
  · exact v_zret rfl (by decide) (by decide) (Or.inl rfl) dX9_does_354 ⟨rfl, oJ1, Or.inr ⟨rfl, zJ1, bJ1⟩⟩
theorem tX9_do22 {E : w_E} {G : w_Sh} {I : w_Mm} {y : Nat} {Q : cS} {N : Nat} {σ : sS} (hY : isY G y) (hQ : clsY I y Q) (h0 : σ.1 = 0) (hf : yfr I y σ.2) (hkn : knP Q N σ.2) (hN : N ≤ 40) (hpw : pW σ.2.2.1) (hkL : ∀ k, k < 8 → knK Q N (σ.2.2.1 k)) (hpp : ppP σ.2) {π : mS} {i : Nat} (hM : yM I y i π) (hi : i < 6) (hnow : I y 29 = (i : Int)) (hNm : N = mN π) {p : Nat} (hat : I y 30 = (p : Int)) (hp : p < N) (hres : resK Q (mRes π)) (hq16 : Q.1 ≤ 16) (hq2 : 2 ≤ Q.1) {a b : Int} (ha : inR a) (hb : inR b) (hok : opOK Q 22 a b) : w_Ct E mX9_does 5 [.ref y, iv 22, iv a, iv b] G I 0 0 (w_Pi (fun r G' J => G' = G ∧ sPost y I J r (xDo Q π σ p 22 a b))) := by
  rw [xDo_22]
  obtain ⟨hTy, hYr⟩ := hY
  have hQ0 := hQ
  have hf0 := hf
  obtain ⟨hf27, hfh0, hfh8, hfL, hfP⟩ := hf
  have hM0 := hM
  obtain ⟨hm3, hm4, hm4b, hm5, hm6, hm6b, hm7, hm10, hm10b, hm11⟩ := hM
  refine w_Ct.of (ls := [some (.ref y), some (iv 22), some (iv a), some (iv b)]) (by decide +kernel) (Nat.le_of_ble_eq_true rfl) rfl rfl (fun rng => ?_)
  refine v_iload_n dX9_does_0 rfl ?_
  refine v_tswIn (off := 354) (tgt := 355) dX9_does_1 ⟨by decide, by decide⟩ (by decide) (by decide) (by decide) (by decide) ?_
  refine v_aload_n dX9_does_355 rfl ?_
  refine v_bipush dX9_does_356 (by decide) ?_
  refine v_Vi (tX9_takes (⟨hTy, hYr⟩ : isY G y) hQ0 (σ := σ) h0 hf0 hkn hN (Or.inr (Or.inl (Or.inl ⟨⟨by omega, by omega⟩, ⟨by omega, by omega⟩⟩))) (by omega)) kX9_163 hTy rfl rfl ⟨by decide, by decide⟩ ⟨by decide, by decide⟩ (Nat.le_of_ble_eq_true rfl) dX9_does_358 (fun r3 G9 J1 hr3 pJ1 rng2 => ?_)
  obtain ⟨hG9, oJ1, ⟨rfl, zJ1, fJ1, bJ1⟩ | ⟨rfl, zJ1, bJ1⟩⟩ := pJ1
  all_goals obtain rfl := hG9.symm
  · have qJ1 := hQ0.T oJ1
    have kJ1 : knP Q N (xTake Q σ (11)).2 := hkn.take
    exact v_zret rfl (by decide) (by decide) (Or.inr rfl) dX9_does_361 ⟨rfl, oJ1, Or.inl ⟨rfl, zJ1, fJ1, bJ1⟩⟩
  · exact v_zret rfl (by decide) (by decide) (Or.inl rfl) dX9_does_361 ⟨rfl, oJ1, Or.inr ⟨rfl, zJ1, bJ1⟩⟩
theorem tX9_do23 {E : w_E} {G : w_Sh} {I : w_Mm} {y : Nat} {Q : cS} {N : Nat} {σ : sS} (hY : isY G y) (hQ : clsY I y Q) (h0 : σ.1 = 0) (hf : yfr I y σ.2) (hkn : knP Q N σ.2) (hN : N ≤ 40) (hpw : pW σ.2.2.1) (hkL : ∀ k, k < 8 → knK Q N (σ.2.2.1 k)) (hpp : ppP σ.2) {π : mS} {i : Nat} (hM : yM I y i π) (hi : i < 6) (hnow : I y 29 = (i : Int)) (hNm : N = mN π) {p : Nat} (hat : I y 30 = (p : Int)) (hp : p < N) (hres : resK Q (mRes π)) (hq16 : Q.1 ≤ 16) (hq2 : 2 ≤ Q.1) {a b : Int} (ha : inR a) (hb : inR b) (hok : opOK Q 23 a b) : w_Ct E mX9_does 5 [.ref y, iv 23, iv a, iv b] G I 0 0 (w_Pi (fun r G' J => G' = G ∧ sPost y I J r (xDo Q π σ p 23 a b))) := by
  rw [xDo_23]
  obtain ⟨hTy, hYr⟩ := hY
  have hQ0 := hQ
  have hf0 := hf
  obtain ⟨hf27, hfh0, hfh8, hfL, hfP⟩ := hf
  have hM0 := hM
  obtain ⟨hm3, hm4, hm4b, hm5, hm6, hm6b, hm7, hm10, hm10b, hm11⟩ := hM
  have hkb := (knK_res (N := N) hres).1.known hN
  refine w_Ct.of (ls := [some (.ref y), some (iv 23), some (iv a), some (iv b)]) (by decide +kernel) (Nat.le_of_ble_eq_true rfl) rfl rfl (fun rng => ?_)
  refine v_iload_n dX9_does_0 rfl ?_
  refine v_tswIn (off := 361) (tgt := 362) dX9_does_1 ⟨by decide, by decide⟩ (by decide) (by decide) (by decide) (by decide) ?_
  refine v_aload_n dX9_does_362 rfl ?_
  refine v_getR fX9_21 rfl hTy (hYr 2 _ rfl).2 dX9_does_363 ?_
  refine v_aload_n dX9_does_366 rfl ?_
  refine v_getI' (v := ((i : Nat) : Int)) hnow fX9_181 rfl hTy dX9_does_367 ?_
  refine v_iald' (i := i) (v := mRes π) hm3 (show G.1 (y + 3) = (10, 6) from (hYr 2 _ rfl).1) rfl (by omega) (by omega) dX9_does_370 ?_
  refine v_if_eq (by rw [← hm3]; exact rng _ _) dX9_does_371 (fun h1 => ?_) (fun h1 => ?_)
  · refine v_iconst dX9_does_390 ?_
    refine v_goto dX9_does_391 ?_
    have eF : xTake Q σ (mRes π) = σ := by rw [h1, xTake_0]
    rw [eF]
    exact v_zret rfl (by decide) (by decide) (Or.inr rfl) dX9_does_395 ⟨rfl, offT.rf, Or.inl ⟨rfl, h0, hf0, rfl⟩⟩
  · refine v_aload_n dX9_does_374 rfl ?_
    refine v_aload_n dX9_does_375 rfl ?_
    refine v_getR fX9_21 rfl hTy (hYr 2 _ rfl).2 dX9_does_376 ?_
    refine v_aload_n dX9_does_379 rfl ?_
    refine v_getI' (v := ((i : Nat) : Int)) hnow fX9_181 rfl hTy dX9_does_380 ?_
    refine v_iald' (i := i) (v := mRes π) hm3 (show G.1 (y + 3) = (10, 6) from (hYr 2 _ rfl).1) rfl (by omega) (by omega) dX9_does_383 ?_
    refine v_Vi (tX9_takes (⟨hTy, hYr⟩ : isY G y) hQ0 (σ := σ) h0 hf0 hkn hN hkb (by omega)) kX9_163 hTy rfl rfl ⟨by decide, by decide⟩ ⟨by decide, by decide⟩ (Nat.le_of_ble_eq_true rfl) dX9_does_384 (fun r4 G9 J2 hr4 pJ2 rng3 => ?_)
    obtain ⟨hG9, oJ2, ⟨rfl, zJ2, fJ2, bJ2⟩ | ⟨rfl, zJ2, bJ2⟩⟩ := pJ2
    all_goals obtain rfl := hG9.symm
    · have qJ2 := hQ0.T oJ2
      have kJ2 : knP Q N (xTake Q σ (mRes π)).2 := hkn.take
      refine v_if_eq ⟨by decide, by decide⟩ dX9_does_387 (fun h => by exfalso; omega) (fun hb387 => ?_)
      refine v_iconst dX9_does_390 ?_
      refine v_goto dX9_does_391 ?_
      exact v_zret rfl (by decide) (by decide) (Or.inr rfl) dX9_does_395 ⟨rfl, oJ2, Or.inl ⟨rfl, zJ2, fJ2, bJ2⟩⟩
    · refine v_if_eq ⟨by decide, by decide⟩ dX9_does_387 (fun hb387 => ?_) (fun h => by exfalso; omega)
      refine v_iconst dX9_does_394 ?_
      exact v_zret rfl (by decide) (by decide) (Or.inl rfl) dX9_does_395 ⟨rfl, oJ2, Or.inr ⟨rfl, zJ2, bJ2⟩⟩
theorem tX9_do24 {E : w_E} {G : w_Sh} {I : w_Mm} {y : Nat} {Q : cS} {N : Nat} {σ : sS} (hY : isY G y) (hQ : clsY I y Q) (h0 : σ.1 = 0) (hf : yfr I y σ.2) (hkn : knP Q N σ.2) (hN : N ≤ 40) (hpw : pW σ.2.2.1) (hkL : ∀ k, k < 8 → knK Q N (σ.2.2.1 k)) (hpp : ppP σ.2) {π : mS} {i : Nat} (hM : yM I y i π) (hi : i < 6) (hnow : I y 29 = (i : Int)) (hNm : N = mN π) {p : Nat} (hat : I y 30 = (p : Int)) (hp : p < N) (hres : resK Q (mRes π)) (hq16 : Q.1 ≤ 16) (hq2 : 2 ≤ Q.1) {a b : Int} (ha : inR a) (hb : inR b) (hok : opOK Q 24 a b) : w_Ct E mX9_does 5 [.ref y, iv 24, iv a, iv b] G I 0 0 (w_Pi (fun r G' J => G' = G ∧ sPost y I J r (xDo Q π σ p 24 a b))) := by
  rw [xDo_24]
  obtain ⟨hTy, hYr⟩ := hY
  have hQ0 := hQ
  have hf0 := hf
  obtain ⟨hf27, hfh0, hfh8, hfL, hfP⟩ := hf
  have hM0 := hM
  obtain ⟨hm3, hm4, hm4b, hm5, hm6, hm6b, hm7, hm10, hm10b, hm11⟩ := hM
  refine w_Ct.of (ls := [some (.ref y), some (iv 24), some (iv a), some (iv b)]) (by decide +kernel) (Nat.le_of_ble_eq_true rfl) rfl rfl (fun rng => ?_)
  refine v_iload_n dX9_does_0 rfl ?_
  refine v_tswIn (off := 395) (tgt := 396) dX9_does_1 ⟨by decide, by decide⟩ (by decide) (by decide) (by decide) (by decide) ?_
  refine v_aload_n dX9_does_396 rfl ?_
  refine v_iconst dX9_does_397 ?_
  refine v_Vi (tX9_wants (⟨hTy, hYr⟩ : isY G y) (φ := σ.2) hf0 ⟨by decide, by decide⟩) kX9_154 hTy rfl rfl ⟨by decide, by decide⟩ ⟨by decide, by decide⟩ (Nat.le_of_ble_eq_true rfl) dX9_does_398 (fun r3 G9 J1 hr3 pJ1 rng2 => ?_)
  obtain ⟨hG9, ⟨rfl, wJ1, eJ1⟩ | ⟨rfl, wJ1, rfl⟩⟩ := pJ1
  all_goals obtain rfl := hG9.symm
  · obtain rfl := eJ1.symm
    refine v_if_eq ⟨by decide, by decide⟩ dX9_does_401 (fun h => by exfalso; omega) (fun hb401 => ?_)
    refine v_aload_n dX9_does_404 rfl ?_
    refine v_aload_n dX9_does_405 rfl ?_
    refine v_VmN (tX9_top (⟨hTy, hYr⟩ : isY G y) hQ0 (σ := σ) h0 hf0 hkn hN wJ1) kX9_173 hTy rfl rfl ⟨by decide, by decide⟩ ⟨by decide, by decide⟩ (Nat.le_of_ble_eq_true rfl) dX9_does_406 (fun r4 er4 hr4 rng5 => ?_)
    subst er4
    refine v_iconst dX9_does_409 ?_
    refine v_icmp_eq hr4 ⟨by decide, by decide⟩ dX9_does_410 (fun h6 => ?_) (fun h6 => ?_)
    · refine v_iconst dX9_does_417 ?_
      refine v_Vi (tX9_takesTop (⟨hTy, hYr⟩ : isY G y) hQ0 (σ := σ) h0 hf0 hkn hN wJ1 (P := ¬ (xTA σ).1 = 3) (by omega)) kX9_177 hTy rfl rfl ⟨by decide, by decide⟩ ⟨by decide, by decide⟩ (Nat.le_of_ble_eq_true rfl) dX9_does_418 (fun r9 G9 J7 hr9 pJ7 rng8 => ?_)
      obtain ⟨hG9, oJ7, ⟨rfl, zJ7, fJ7, bJ7⟩ | ⟨rfl, zJ7, bJ7⟩⟩ := pJ7
      all_goals obtain rfl := hG9.symm
      · exact absurd zJ7 (by rw [xChk_n (by omega)]; exact xBrk_ne (by decide))
      · refine v_if_eq ⟨by decide, by decide⟩ dX9_does_421 (fun hb421 => ?_) (fun h => by exfalso; omega)
        refine v_iconst dX9_does_428 ?_
        exact v_zret rfl (by decide) (by decide) (Or.inl rfl) dX9_does_429 ⟨rfl, oJ7, Or.inr ⟨rfl, zJ7, bJ7⟩⟩
    · refine v_iconst dX9_does_413 ?_
      refine v_goto dX9_does_414 ?_
      refine v_Vi (tX9_takesTop (⟨hTy, hYr⟩ : isY G y) hQ0 (σ := σ) h0 hf0 hkn hN wJ1 (P := ¬ (xTA σ).1 = 3) (by omega)) kX9_177 hTy rfl rfl ⟨by decide, by decide⟩ ⟨by decide, by decide⟩ (Nat.le_of_ble_eq_true rfl) dX9_does_418 (fun r12 G9 J10 hr12 pJ10 rng11 => ?_)
      obtain ⟨hG9, oJ10, ⟨rfl, zJ10, fJ10, bJ10⟩ | ⟨rfl, zJ10, bJ10⟩⟩ := pJ10
      all_goals obtain rfl := hG9.symm
      · have qJ10 := hQ0.T oJ10
        have kJ10 : knP Q N (xChk (xTA σ).2 (¬ (xTA σ).1 = 3) 3).2 := hkn.ta.chk
        refine v_if_eq ⟨by decide, by decide⟩ dX9_does_421 (fun h => by exfalso; omega) (fun hb421 => ?_)
        refine v_iconst dX9_does_424 ?_
        refine v_goto dX9_does_425 ?_
        exact v_zret rfl (by decide) (by decide) (Or.inr rfl) dX9_does_429 ⟨rfl, oJ10, Or.inl ⟨rfl, zJ10, fJ10, bJ10⟩⟩
      · exact absurd (by rw [xChk_y (by omega), xTA_hi h0 wJ1]; exact h0) zJ10
  · refine v_if_eq ⟨by decide, by decide⟩ dX9_does_401 (fun hb401 => ?_) (fun h => by exfalso; omega)
    refine v_iconst dX9_does_428 ?_
    have eF : (xChk (xTA σ).2 (¬ (xTA σ).1 = 3) 3).1 = 2 := by have h9 : xTA σ = (0, (2, σ.2)) := xTA_lo h0 (by omega); have n9 : ¬ ((2 : Int), σ.2).1 = 0 := (by decide : ¬ (2 : Int) = 0); rw [h9, xChk_st n9]
    exact v_zret rfl (by decide) (by decide) (Or.inl rfl) dX9_does_429 ⟨rfl, offT_28, Or.inr ⟨rfl, by rw [eF]; decide, by rw [eF, w_up_s]⟩⟩
theorem tX9_do25 {E : w_E} {G : w_Sh} {I : w_Mm} {y : Nat} {Q : cS} {N : Nat} {σ : sS} (hY : isY G y) (hQ : clsY I y Q) (h0 : σ.1 = 0) (hf : yfr I y σ.2) (hkn : knP Q N σ.2) (hN : N ≤ 40) (hpw : pW σ.2.2.1) (hkL : ∀ k, k < 8 → knK Q N (σ.2.2.1 k)) (hpp : ppP σ.2) {π : mS} {i : Nat} (hM : yM I y i π) (hi : i < 6) (hnow : I y 29 = (i : Int)) (hNm : N = mN π) {p : Nat} (hat : I y 30 = (p : Int)) (hp : p < N) (hres : resK Q (mRes π)) (hq16 : Q.1 ≤ 16) (hq2 : 2 ≤ Q.1) {a b : Int} (ha : inR a) (hb : inR b) (hok : opOK Q 25 a b) : w_Ct E mX9_does 5 [.ref y, iv 25, iv a, iv b] G I 0 0 (w_Pi (fun r G' J => G' = G ∧ sPost y I J r (xDo Q π σ p 25 a b))) := by
  rw [xDo_25]
  obtain ⟨hTy, hYr⟩ := hY
  have hQ0 := hQ
  have hf0 := hf
  obtain ⟨hf27, hfh0, hfh8, hfL, hfP⟩ := hf
  have hM0 := hM
  obtain ⟨hm3, hm4, hm4b, hm5, hm6, hm6b, hm7, hm10, hm10b, hm11⟩ := hM
  refine w_Ct.of (ls := [some (.ref y), some (iv 25), some (iv a), some (iv b)]) (by decide +kernel) (Nat.le_of_ble_eq_true rfl) rfl rfl (fun rng => ?_)
  refine v_iload_n dX9_does_0 rfl ?_
  refine v_tswIn (off := 429) (tgt := 430) dX9_does_1 ⟨by decide, by decide⟩ (by decide) (by decide) (by decide) (by decide) ?_
  refine v_aload_n dX9_does_430 rfl ?_
  refine v_iconst dX9_does_431 ?_
  refine v_Vi (tX9_takes (⟨hTy, hYr⟩ : isY G y) hQ0 (σ := σ) h0 hf0 hkn hN (by first | exact Or.inl ⟨by decide, by decide⟩ | omega) (by omega)) kX9_163 hTy rfl rfl ⟨by decide, by decide⟩ ⟨by decide, by decide⟩ (Nat.le_of_ble_eq_true rfl) dX9_does_432 (fun r3 G9 J1 hr3 pJ1 rng2 => ?_)
  obtain ⟨hG9, oJ1, ⟨rfl, zJ1, fJ1, bJ1⟩ | ⟨rfl, zJ1, bJ1⟩⟩ := pJ1
  all_goals obtain rfl := hG9.symm
  · have qJ1 := hQ0.T oJ1
    have kJ1 : knP Q N (xTake Q σ (2)).2 := hkn.take
    exact v_zret rfl (by decide) (by decide) (Or.inr rfl) dX9_does_435 ⟨rfl, oJ1, Or.inl ⟨rfl, zJ1, fJ1, bJ1⟩⟩
  · exact v_zret rfl (by decide) (by decide) (Or.inl rfl) dX9_does_435 ⟨rfl, oJ1, Or.inr ⟨rfl, zJ1, bJ1⟩⟩
theorem tX9_doM {E : w_E} {G : w_Sh} {I : w_Mm} {y : Nat} {Q : cS} {N : Nat} {σ : sS} (hY : isY G y) (hQ : clsY I y Q) (h0 : σ.1 = 0) (hf : yfr I y σ.2) (hkn : knP Q N σ.2) (hN : N ≤ 40) (hpw : pW σ.2.2.1) (hkL : ∀ k, k < 8 → knK Q N (σ.2.2.1 k)) (hpp : ppP σ.2) {π : mS} {i : Nat} (hM : yM I y i π) (hi : i < 6) (hnow : I y 29 = (i : Int)) (hNm : N = mN π) {p : Nat} (hat : I y 30 = (p : Int)) (hp : p < N) (hres : resK Q (mRes π)) (hq16 : Q.1 ≤ 16) (hq2 : 2 ≤ Q.1) {op a b : Int} (ha : inR a) (hb : inR b) (hok : opOK Q op a b) (hop : op ≤ 7) : w_Ct E mX9_does 5 [.ref y, iv op, iv a, iv b] G I 0 0 (w_Pi (fun r G' J => G' = G ∧ sPost y I J r (xDo Q π σ p op a b))) := by
  obtain ⟨hTy, hYr⟩ := hY
  have hQ0 := hQ
  have hf0 := hf
  obtain ⟨hf27, hfh0, hfh8, hfL, hfP⟩ := hf
  have hop0 := hok.1
  have ho3 := hok.2.2.1
  have ho4 := hok.2.2.2.1
  refine w_Ct.of (ls := [some (.ref y), some (iv op), some (iv a), some (iv b)]) (by decide +kernel) (Nat.le_of_ble_eq_true rfl) rfl rfl (fun rng => ?_)
  refine v_iload_n dX9_does_0 rfl ?_
  refine v_tswOut (tgt := 436) dX9_does_1 ⟨by omega, by omega⟩ (by omega) (by decide) ?_
  refine v_aload_n dX9_does_436 rfl ?_
  refine v_iload_n dX9_does_437 rfl ?_
  refine v_iload_n dX9_does_438 rfl ?_
  refine v_Vi (tX9_moves (⟨hTy, hYr⟩ : isY G y) hQ0 (σ := σ) h0 hf0 hkn hN hpw hkL (π := π) (p := p) (b := b) ⟨hop0, hop⟩ ha (fun _ => by omega) (fun _ => by omega)) kX9_197 hTy rfl rfl ⟨by decide, by decide⟩ ⟨by decide, by decide⟩ (Nat.le_of_ble_eq_true rfl) dX9_does_439 (fun r3 G9 J1 hr3 pJ1 rng2 => ?_)
  obtain ⟨hG9, oJ1, ⟨rfl, zJ1, fJ1, bJ1⟩ | ⟨rfl, zJ1, bJ1⟩⟩ := pJ1
  all_goals obtain rfl := hG9.symm
  · have qJ1 := hQ0.T oJ1
    exact v_zret rfl (by decide) (by decide) (Or.inr rfl) dX9_does_442 ⟨rfl, oJ1, Or.inl ⟨rfl, zJ1, fJ1, bJ1⟩⟩
  · exact v_zret rfl (by decide) (by decide) (Or.inl rfl) dX9_does_442 ⟨rfl, oJ1, Or.inr ⟨rfl, zJ1, bJ1⟩⟩
theorem tX9_does {E : w_E} {G : w_Sh} {I : w_Mm} {y : Nat} {Q : cS} {N : Nat} {σ : sS} (hY : isY G y) (hQ : clsY I y Q) (h0 : σ.1 = 0) (hf : yfr I y σ.2) (hkn : knP Q N σ.2) (hN : N ≤ 40) (hpw : pW σ.2.2.1) (hkL : ∀ k, k < 8 → knK Q N (σ.2.2.1 k)) (hpp : ppP σ.2) {π : mS} {i : Nat} (hM : yM I y i π) (hi : i < 6) (hnow : I y 29 = (i : Int)) (hNm : N = mN π) {p : Nat} (hat : I y 30 = (p : Int)) (hp : p < N) (hres : resK Q (mRes π)) (hq16 : Q.1 ≤ 16) (hq2 : 2 ≤ Q.1) {op a b : Int} (ha : inR a) (hb : inR b) (hok : opOK Q op a b) : w_Ct E mX9_does 5 [.ref y, iv op, iv a, iv b] G I 0 0 (w_Pi (fun r G' J => G' = G ∧ sPost y I J r (xDo Q π σ p op a b))) := by
  have hop0 := hok.1
  have hop1 := hok.2.1
  have hc : op ≤ 7 ∨ op = 8 ∨ op = 9 ∨ op = 10 ∨ op = 11 ∨ op = 12 ∨ op = 13 ∨ op = 14 ∨ op = 15 ∨ op = 16 ∨ op = 17 ∨ op = 18 ∨ op = 19 ∨ op = 20 ∨ op = 21 ∨ op = 22 ∨ op = 23 ∨ op = 24 ∨ op = 25 := by omega
  rcases hc with hc | rfl | rfl | rfl | rfl | rfl | rfl | rfl | rfl | rfl | rfl | rfl | rfl | rfl | rfl | rfl | rfl | rfl | rfl
  · exact tX9_doM hY hQ h0 hf hkn hN hpw hkL hpp hM hi hnow hNm hat hp hres hq16 hq2 ha hb hok hc
  · exact tX9_do8 hY hQ h0 hf hkn hN hpw hkL hpp hM hi hnow hNm hat hp hres hq16 hq2 ha hb hok
  · exact tX9_do9 hY hQ h0 hf hkn hN hpw hkL hpp hM hi hnow hNm hat hp hres hq16 hq2 ha hb hok
  · exact tX9_do10 hY hQ h0 hf hkn hN hpw hkL hpp hM hi hnow hNm hat hp hres hq16 hq2 ha hb hok
  · exact tX9_do11 hY hQ h0 hf hkn hN hpw hkL hpp hM hi hnow hNm hat hp hres hq16 hq2 ha hb hok
  · exact tX9_do12 hY hQ h0 hf hkn hN hpw hkL hpp hM hi hnow hNm hat hp hres hq16 hq2 ha hb hok
  · exact tX9_do13 hY hQ h0 hf hkn hN hpw hkL hpp hM hi hnow hNm hat hp hres hq16 hq2 ha hb hok
  · exact tX9_do14 hY hQ h0 hf hkn hN hpw hkL hpp hM hi hnow hNm hat hp hres hq16 hq2 ha hb hok
  · exact tX9_do15 hY hQ h0 hf hkn hN hpw hkL hpp hM hi hnow hNm hat hp hres hq16 hq2 ha hb hok
  · exact tX9_do16 hY hQ h0 hf hkn hN hpw hkL hpp hM hi hnow hNm hat hp hres hq16 hq2 ha hb hok
  · exact tX9_do17 hY hQ h0 hf hkn hN hpw hkL hpp hM hi hnow hNm hat hp hres hq16 hq2 ha hb hok
  · exact tX9_do18 hY hQ h0 hf hkn hN hpw hkL hpp hM hi hnow hNm hat hp hres hq16 hq2 ha hb hok
  · exact tX9_do19 hY hQ h0 hf hkn hN hpw hkL hpp hM hi hnow hNm hat hp hres hq16 hq2 ha hb hok
  · exact tX9_do20 hY hQ h0 hf hkn hN hpw hkL hpp hM hi hnow hNm hat hp hres hq16 hq2 ha hb hok
  · exact tX9_do21 hY hQ h0 hf hkn hN hpw hkL hpp hM hi hnow hNm hat hp hres hq16 hq2 ha hb hok
  · exact tX9_do22 hY hQ h0 hf hkn hN hpw hkL hpp hM hi hnow hNm hat hp hres hq16 hq2 ha hb hok
  · exact tX9_do23 hY hQ h0 hf hkn hN hpw hkL hpp hM hi hnow hNm hat hp hres hq16 hq2 ha hb hok
  · exact tX9_do24 hY hQ h0 hf hkn hN hpw hkL hpp hM hi hnow hNm hat hp hres hq16 hq2 ha hb hok
  · exact tX9_do25 hY hQ h0 hf hkn hN hpw hkL hpp hM hi hnow hNm hat hp hres hq16 hq2 ha hb hok
