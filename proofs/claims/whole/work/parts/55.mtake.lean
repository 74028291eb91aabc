/-! ===== the reference: taking and laying ===== -/
theorem offT_27 {I : w_Mm} {y : Nat} {z : Int} : offT I (w_up I y 27 z) y := fun a k h1 h2 h3 => w_up_n (by omega)
theorem offT_28 {I : w_Mm} {y : Nat} {z : Int} : offT I (w_up I y 28 z) y := fun a k h1 h2 h3 => w_up_n (by omega)
theorem yfr.dn {I : w_Mm} {y : Nat} {φ : fS} (h : yfr I y φ) (n : Int) (h0 : 0 ≤ n) (hn : n ≤ φ.1) : yfr (w_up I y 27 (φ.1 - n)) y (φ.1 - n, φ.2) := by
  obtain ⟨h1, h2, h3, h4, h5⟩ := h
  exact ⟨w_up_s, show 0 ≤ φ.1 - n by omega, show φ.1 - n ≤ 8 by omega, fun k hk => (w_up_n (by omega)).trans (h4 k hk), fun k hk => (w_up_n (by omega)).trans (h5 k (by have hk : (k : Int) < φ.1 - n := hk; omega))⟩
theorem xTL_lo {σ : sS} (h : σ.1 = 0) (h1 : σ.2.1 < 2) : (xTL σ).1 = 2 := by
  have e : xTL0 σ = (2, σ.2) := by
    unfold xTL0
    rw [if_neg (by omega), show xW σ 2 2 = (2, σ.2) from (if_pos h1).trans (xBrk_0 h)]
    exact xBrk_st (show ¬ (2 : Int) = 0 by decide)
  unfold xTL; rw [e, if_neg (show ¬ (2 : Int) = 0 by decide)]
theorem xTL_no {σ : sS} (h : σ.1 = 0) (h1 : 2 ≤ σ.2.1) (h2 : ¬ lngTop σ.2) : (xTL σ).1 = 3 := by
  have e : xTL0 σ = (3, σ.2) := by
    unfold xTL0
    rw [if_neg h2, show xW σ 2 2 = σ from if_neg (by omega)]
    exact xBrk_0 h
  unfold xTL; rw [e, if_neg (show ¬ (3 : Int) = 0 by decide)]
theorem xTL_ok {σ : sS} (h : σ.1 = 0) (h2 : lngTop σ.2) : xTL σ = (σ.1, (σ.2.1 - 2, σ.2.2)) := by
  have e : xTL0 σ = σ := by
    unfold xTL0
    rw [if_pos h2, show xW σ 2 2 = σ from if_neg (by omega)]
  unfold xTL; rw [e, if_pos h]; rfl
theorem xTk_lo {Q : cS} {σ : sS} {kd : Int} (h : σ.1 = 0) (h1 : σ.2.1 < 1) (k2 : ¬ kd = 2) (k0 : ¬ kd = 0) : (xTake Q σ kd).1 = 2 := by
  unfold xTake
  rw [if_neg k2, if_neg k0, xTA_lo h h1]
  split
  · rfl
  · rw [xBrk_st (show ¬ ((2 : Int), σ.2).1 = 0 from (by decide : ¬ (2 : Int) = 0))]
theorem xTk_no {Q : cS} {σ : sS} {kd : Int} (h : σ.1 = 0) (h1 : 1 ≤ σ.2.1) (k2 : ¬ kd = 2) (k0 : ¬ kd = 0) (hf : ¬ fitK Q (σ.2.2.2 (σ.2.1 - 1).toNat) kd) : (xTake Q σ kd).1 = 3 := by
  unfold xTake
  rw [if_neg k2, if_neg k0, xTA_hi h h1, if_neg hf]
  exact if_pos h
theorem xTk_ok {Q : cS} {σ : sS} {kd : Int} (h : σ.1 = 0) (h1 : 1 ≤ σ.2.1) (k2 : ¬ kd = 2) (k0 : ¬ kd = 0) (hf : fitK Q (σ.2.2.2 (σ.2.1 - 1).toNat) kd) : xTake Q σ kd = (σ.1, (σ.2.1 - 1, σ.2.2)) := by
  unfold xTake
  rw [if_neg k2, if_neg k0, xTA_hi h h1, if_pos hf]
theorem xLay_hi {σ : sS} {kd : Int} (h : σ.1 = 0) (k0 : ¬ kd = 0) (h8 : 8 < σ.2.1 + (if kd = 2 then 2 else 1)) : (xLay σ kd).1 = 1 := by
  unfold xLay
  rw [if_neg k0, show xLay0 σ kd = (1, σ.2) from (if_pos h8).trans (xBrk_0 h), if_neg (show ¬ (1 : Int) = 0 by decide)]
theorem xLay_ok {σ : sS} {kd : Int} (h : σ.1 = 0) (k0 : ¬ kd = 0) (h8 : ¬ 8 < σ.2.1 + (if kd = 2 then 2 else 1)) : xLay σ kd = xLayP σ kd := by
  unfold xLay
  rw [if_neg k0, show xLay0 σ kd = σ from if_neg h8, if_pos h]
theorem yfr.lay1 {I : w_Mm} {y : Nat} {σ : sS} {kd : Int} (h : yfr I y σ.2) (k2 : ¬ kd = 2) (h8 : σ.2.1 + 1 ≤ 8) {J : w_Mm} (eJ : J = w_up (w_up I (y + 25) (σ.2.1).toNat kd) y 27 (σ.2.1 + 1)) : yfr J y (xLayP σ kd).2 ∧ J y 28 = I y 28 ∧ offT I J y := by
  obtain ⟨h1, h2, h3, h4, h5⟩ := h
  have e : (xLayP σ kd).2 = (σ.2.1 + 1, σ.2.2.1, uL σ.2.2.2 σ.2.1.toNat kd) := by unfold xLayP; rw [if_neg k2, if_neg k2]
  rw [e]
  have o : ∀ a k, ¬ (a = y + 25 ∧ k = (σ.2.1).toNat) → ¬ (a = y ∧ k = 27) → J a k = I a k := fun a k u1 u2 => by rw [eJ, w_up_n u2, w_up_n u1]
  refine ⟨⟨by rw [eJ, w_up_s], show 0 ≤ σ.2.1 + 1 by omega, h8, fun k hk => (o _ _ (by omega) (by omega)).trans (h4 k hk), fun k hk => ?_⟩, o _ _ (by omega) (by omega), fun a k u1 u2 u3 => o _ _ (by omega) (by omega)⟩
  have hk : (k : Int) < σ.2.1 + 1 := hk
  show J (y + 25) k = uL σ.2.2.2 σ.2.1.toNat kd k
  by_cases q : k = σ.2.1.toNat
  · rw [q, uL_s, eJ, w_up_n (by omega), w_up_s]
  · rw [uL_n q]; exact (o _ _ (by omega) (by omega)).trans (h5 k (by omega))
theorem yfr.lay2 {I : w_Mm} {y : Nat} {σ : sS} (h : yfr I y σ.2) (h8 : σ.2.1 + 2 ≤ 8) {J : w_Mm} (eJ : J = w_up (w_up (w_up I (y + 25) (σ.2.1).toNat 2) (y + 25) ((σ.2.1 + 1)).toNat 3) y 27 (σ.2.1 + 2)) : yfr J y (xLayP σ 2).2 ∧ J y 28 = I y 28 ∧ offT I J y := by
  obtain ⟨h1, h2, h3, h4, h5⟩ := h
  have e : (xLayP σ 2).2 = (σ.2.1 + 2, σ.2.2.1, uL (uL σ.2.2.2 σ.2.1.toNat 2) (σ.2.1 + 1).toNat 3) := by unfold xLayP; rw [if_pos rfl, if_pos rfl]
  rw [e]
  have o : ∀ a k, ¬ (a = y + 25 ∧ (k = (σ.2.1).toNat ∨ k = ((σ.2.1 + 1)).toNat)) → ¬ (a = y ∧ k = 27) → J a k = I a k := fun a k u1 u2 => by rw [eJ, w_up_n u2, w_up_n (by omega), w_up_n (by omega)]
  refine ⟨⟨by rw [eJ, w_up_s], show 0 ≤ σ.2.1 + 2 by omega, h8, fun k hk => (o _ _ (by omega) (by omega)).trans (h4 k hk), fun k hk => ?_⟩, o _ _ (by omega) (by omega), fun a k u1 u2 u3 => o _ _ (by omega) (by omega)⟩
  have hk : (k : Int) < σ.2.1 + 2 := hk
  show J (y + 25) k = uL (uL σ.2.2.2 σ.2.1.toNat 2) (σ.2.1 + 1).toNat 3 k
  by_cases q : k = (σ.2.1 + 1).toNat
  · rw [q, uL_s, eJ, w_up_n (by omega), w_up_s]
  · rw [uL_n q]
    by_cases q2 : k = σ.2.1.toNat
    · rw [q2, uL_s, eJ, w_up_n (by omega), w_up_n (by omega), w_up_s]
    · rw [uL_n q2]; exact (o _ _ (by omega) (by omega)).trans (h5 k (by omega))
def putP (I J : w_Mm) (y : Nat) (L : Nat → Int) : Prop := (∀ k, k < 8 → J (y + 24) k = L k) ∧ ∀ a k, a ≠ y + 24 → J a k = I a k
theorem putP.of {I : w_Mm} {y a : Nat} {L : Nat → Int} {kd : Int} (hL : ∀ k, k < 8 → I (y + 24) k = L k) : putP I (w_up I (y + 24) a kd) y (uL L a kd) := by
  refine ⟨fun k hk => ?_, fun b k hb => w_up_n (by omega)⟩
  by_cases e : k = a
  · rw [e, w_up_s, uL_s]
  · rw [w_up_n (by omega), uL_n e]; exact hL k hk
theorem tX9_breaks {E : w_E} {G : w_Sh} {I : w_Mm} {y : Nat} (hY : isY G y) {w : Int} (hw : inR w) : w_Ct E mX9_breaks 0 [.ref y, iv w] G I 0 0 (w_Pi (fun r G' I' => r = (0) ∧ G' = G ∧ I' = (w_up I y 28 w))) := by
  obtain ⟨hTy, hYr⟩ := hY
  refine w_Ct.of (ls := [some (.ref y), some (iv w)]) (by decide +kernel) (Nat.le_of_ble_eq_true rfl) rfl rfl (fun rng => ?_)
  refine v_aload_n dX9_breaks_0 rfl ?_
  refine v_iload_n dX9_breaks_1 rfl ?_
  refine v_putI fX9_145 p9_28 rfl hw hTy dX9_breaks_2 ?_
  have rng1 := w_rng (a := y) (f := 28) rng (show inR (w) from hw)
  refine v_iconst dX9_breaks_5 ?_
  exact v_zret rfl (by decide) (by decide) (Or.inl rfl) dX9_breaks_6 ⟨rfl, rfl, rfl⟩
theorem tX9_wants {E : w_E} {G : w_Sh} {I : w_Mm} {y : Nat} {φ : fS} (hY : isY G y) (hf : yfr I y φ) {n : Int} (hn : inR n) : w_Ct E mX9_wants 1 [.ref y, iv n] G I 0 0 (w_Pi (fun r G' J => G' = G ∧ ((r = 1 ∧ n ≤ φ.1 ∧ J = I) ∨ (r = 0 ∧ φ.1 < n ∧ J = w_up I y 28 2)))) := by
  obtain ⟨hTy, hYr⟩ := hY
  obtain ⟨hf27, hfh0, hfh8, hfL, hfP⟩ := hf
  refine w_Ct.of (ls := [some (.ref y), some (iv n)]) (by decide +kernel) (Nat.le_of_ble_eq_true rfl) rfl rfl (fun rng => ?_)
  refine v_aload_n dX9_wants_0 rfl ?_
  refine v_getI' (v := φ.1) hf27 fX9_148 rfl hTy dX9_wants_1 ?_
  refine v_iload_n dX9_wants_4 rfl ?_
  refine v_icmp_ge ⟨by omega, by omega⟩ hn dX9_wants_5 (fun h1 => ?_) (fun h1 => ?_)
  · refine v_iconst dX9_wants_16 ?_
    refine v_goto dX9_wants_17 ?_
    exact v_zret rfl (by decide) (by decide) (Or.inr rfl) dX9_wants_21 ⟨rfl, Or.inl ⟨rfl, by omega, rfl⟩⟩
  · refine v_aload_n dX9_wants_8 rfl ?_
    refine v_iconst dX9_wants_9 ?_
    refine v_VmN (tX9_breaks (⟨hTy, hYr⟩ : isY G y) ⟨by decide, by decide⟩) kX9_151 hTy rfl rfl ⟨by decide, by decide⟩ ⟨by decide, by decide⟩ (Nat.le_of_ble_eq_true rfl) dX9_wants_10 (fun r2 er2 hr2 rng3 => ?_)
    subst er2
    refine v_if_eq ⟨by decide, by decide⟩ dX9_wants_13 (fun hb13 => ?_) (fun h => by exfalso; omega)
    refine v_iconst dX9_wants_20 ?_
    exact v_zret rfl (by decide) (by decide) (Or.inl rfl) dX9_wants_21 ⟨rfl, Or.inr ⟨rfl, by omega, rfl⟩⟩
theorem tX9_top {E : w_E} {G : w_Sh} {I : w_Mm} {y : Nat} {Q : cS} {N : Nat} {σ : sS} (hY : isY G y) (hQ : clsY I y Q) (h0 : σ.1 = 0) (hf : yfr I y σ.2) (hkn : knP Q N σ.2) (hN : N ≤ 40) (h1 : 1 ≤ σ.2.1) : w_Ct E mX9_top 0 [.ref y] G I 0 0 (w_Pi (fun r G' I' => r = ((xTA σ).1) ∧ G' = G ∧ I' = I)) := by
  obtain ⟨hTy, hYr⟩ := hY
  have hQ0 := hQ
  have hf0 := hf
  obtain ⟨hf27, hfh0, hfh8, hfL, hfP⟩ := hf
  refine w_Ct.of (ls := [some (.ref y)]) (by decide +kernel) (Nat.le_of_ble_eq_true rfl) rfl rfl (fun rng => ?_)
  refine v_aload_n dX9_top_0 rfl ?_
  refine v_getR fX9_87 rfl hTy (hYr 24 _ rfl).2 dX9_top_1 ?_
  refine v_aload_n dX9_top_4 rfl ?_
  refine v_getI' (v := σ.2.1) hf27 fX9_148 rfl hTy dX9_top_5 ?_
  refine v_iconst dX9_top_8 ?_
  refine v_isub dX9_top_9 ?_
  refine v_iald' (i := ((σ.2.1 - 1)).toNat) (v := σ.2.2.2 (((σ.2.1 - 1)).toNat)) (hfP (((σ.2.1 - 1)).toNat) (by omega)) (show G.1 (y + 25) = (10, 8) from (hYr 24 _ rfl).1) (by omega) (by omega) (by omega) dX9_top_10 ?_
  exact v_iret rfl (by decide) (by decide) (by rw [← hfP (((σ.2.1 - 1)).toNat) (by omega)]; exact rng _ _) dX9_top_11 ⟨(by rw [xTA_hi h0 h1]), rfl, rfl⟩
theorem tX9_takesTop {E : w_E} {G : w_Sh} {I : w_Mm} {y : Nat} {Q : cS} {N : Nat} {σ : sS} (hY : isY G y) (hQ : clsY I y Q) (h0 : σ.1 = 0) (hf : yfr I y σ.2) (hkn : knP Q N σ.2) (hN : N ≤ 40) (u1 : 1 ≤ σ.2.1) {b : Int} {P : Prop} [Decidable P] (hb : (b = 1 ∧ P) ∨ (b = 0 ∧ ¬ P)) : w_Ct E mX9_takesTop 1 [.ref y, iv b] G I 0 0 (w_Pi (fun r G' J => G' = G ∧ sPost y I J r (xChk (xTA σ).2 P 3))) := by
  obtain ⟨hTy, hYr⟩ := hY
  have hQ0 := hQ
  have hf0 := hf
  obtain ⟨hf27, hfh0, hfh8, hfL, hfP⟩ := hf
  refine w_Ct.of (ls := [some (.ref y), some (iv b)]) (by decide +kernel) (Nat.le_of_ble_eq_true rfl) rfl rfl (fun rng => ?_)
  refine v_iload_n dX9_takesTop_0 rfl ?_
  refine v_if_ne ⟨by omega, by omega⟩ dX9_takesTop_1 (fun h1 => ?_) (fun h1 => ?_)
  · refine v_aload_n dX9_takesTop_10 rfl ?_
    refine v_dup dX9_takesTop_11 rfl ?_
    refine v_getI' (v := σ.2.1) hf27 fX9_148 rfl hTy dX9_takesTop_12 ?_
    refine v_iconst dX9_takesTop_15 ?_
    refine v_isub dX9_takesTop_16 ?_
    refine v_putI fX9_148 p9_27 rfl ⟨by omega, by omega⟩ hTy dX9_takesTop_17 ?_
    have rng2 := w_rng (a := y) (f := 27) rng (show inR ((σ.2.1 - 1)) from ⟨by omega, by omega⟩)
    refine v_iconst dX9_takesTop_20 ?_
    have hP : P := by rcases hb with q | q; exact q.2; omega
    have e : xChk (xTA σ).2 P 3 = (σ.1, (σ.2.1 - 1, σ.2.2)) := by rw [xChk_y hP, xTA_hi h0 u1]
    rw [e]
    exact v_zret rfl (by decide) (by decide) (Or.inr rfl) dX9_takesTop_21 ⟨rfl, offT_27, Or.inl ⟨rfl, h0, hf0.dn 1 (by decide) u1, w_up_n (by omega)⟩⟩
  · refine v_aload_n dX9_takesTop_4 rfl ?_
    refine v_iconst dX9_takesTop_5 ?_
    refine v_VmN (tX9_breaks (⟨hTy, hYr⟩ : isY G y) ⟨by decide, by decide⟩) kX9_151 hTy rfl rfl ⟨by decide, by decide⟩ ⟨by decide, by decide⟩ (Nat.le_of_ble_eq_true rfl) dX9_takesTop_6 (fun r3 er3 hr3 rng4 => ?_)
    subst er3
    have hP : ¬ P := by rcases hb with q | q; omega; exact q.2
    have e : (xChk (xTA σ).2 P 3).1 = 3 := by rw [xChk_n hP, xTA_hi h0 u1]; exact if_pos h0
    exact v_zret rfl (by decide) (by decide) (Or.inl rfl) dX9_takesTop_9 ⟨rfl, offT_28, Or.inr ⟨rfl, by rw [e]; decide, by rw [e, w_up_s]⟩⟩
theorem tX9_takes {E : w_E} {G : w_Sh} {I : w_Mm} {y : Nat} {Q : cS} {N : Nat} {σ : sS} (hY : isY G y) (hQ : clsY I y Q) (h0 : σ.1 = 0) (hf : yfr I y σ.2) (hkn : knP Q N σ.2) (hN : N ≤ 40) {kd : Int} (hkd : knownK Q kd) (k0 : ¬ kd = 0) : w_Ct E mX9_takes 3 [.ref y, iv kd] G I 0 0 (w_Pi (fun r G' J => G' = G ∧ sPost y I J r (xTake Q σ kd))) := by
  obtain ⟨hTy, hYr⟩ := hY
  have hQ0 := hQ
  have hf0 := hf
  obtain ⟨hf27, hfh0, hfh8, hfL, hfP⟩ := hf
  have hkr : inR kd := ⟨by omega, by omega⟩
  refine w_Ct.of (ls := [some (.ref y), some (iv kd)]) (by decide +kernel) (Nat.le_of_ble_eq_true rfl) rfl rfl (fun rng => ?_)
  refine v_iload_n dX9_takes_0 rfl ?_
  refine v_iconst dX9_takes_1 ?_
  refine v_icmp_ne hkr ⟨by decide, by decide⟩ dX9_takes_2 (fun h1 => ?_) (fun h1 => ?_)
  · refine v_aload_n dX9_takes_63 rfl ?_
    refine v_iconst dX9_takes_64 ?_
    refine v_Vi (tX9_wants (⟨hTy, hYr⟩ : isY G y) (φ := σ.2) hf0 ⟨by decide, by decide⟩) kX9_154 hTy rfl rfl ⟨by decide, by decide⟩ ⟨by decide, by decide⟩ (Nat.le_of_ble_eq_true rfl) dX9_takes_65 (fun r4 G9 J2 hr4 pJ2 rng3 => ?_)
    obtain ⟨hG9, ⟨rfl, wJ2, rfl⟩ | ⟨rfl, wJ2, rfl⟩⟩ := pJ2
    all_goals obtain rfl := hG9.symm
    · refine v_if_ne ⟨by decide, by decide⟩ dX9_takes_68 (fun hb68 => ?_) (fun h => by exfalso; omega)
      refine v_aload_n dX9_takes_73 rfl ?_
      refine v_aload_n dX9_takes_74 rfl ?_
      refine v_getR fX9_87 rfl hTy (hYr 24 _ rfl).2 dX9_takes_75 ?_
      refine v_aload_n dX9_takes_78 rfl ?_
      refine v_getI' (v := σ.2.1) hf27 fX9_148 rfl hTy dX9_takes_79 ?_
      refine v_iconst dX9_takes_82 ?_
      refine v_isub dX9_takes_83 ?_
      refine v_iald' (i := ((σ.2.1 - 1)).toNat) (v := σ.2.2.2 (((σ.2.1 - 1)).toNat)) (hfP (((σ.2.1 - 1)).toNat) (by omega)) (show G.1 (y + 25) = (10, 8) from (hYr 24 _ rfl).1) (by omega) (by omega) (by omega) dX9_takes_84 ?_
      refine v_iload_n dX9_takes_85 rfl ?_
      refine v_Vb (tX9_fitsKind (⟨hTy, hYr⟩ : isY G y) hQ0 ((hkn ((σ.2.1 - 1)).toNat (by omega)).known hN) hkd) kX9_157 hTy rfl rfl ⟨by decide, by decide⟩ ⟨by decide, by decide⟩ (Nat.le_of_ble_eq_true rfl) dX9_takes_86 (fun h5 => ?_) (fun h5 => ?_)
      · refine v_if_ne ⟨by decide, by decide⟩ dX9_takes_89 (fun hb89 => ?_) (fun h => by exfalso; omega)
        refine v_aload_n dX9_takes_98 rfl ?_
        refine v_dup dX9_takes_99 rfl ?_
        refine v_getI' (v := σ.2.1) hf27 fX9_148 rfl hTy dX9_takes_100 ?_
        refine v_iconst dX9_takes_103 ?_
        refine v_isub dX9_takes_104 ?_
        refine v_putI fX9_148 p9_27 rfl ⟨by omega, by omega⟩ hTy dX9_takes_105 ?_
        have rng6 := w_rng (a := y) (f := 27) rng3 (show inR ((σ.2.1 - 1)) from ⟨by omega, by omega⟩)
        refine v_iconst dX9_takes_108 ?_
        rw [xTk_ok h0 (by omega) h1 k0 h5]
        exact v_zret rfl (by decide) (by decide) (Or.inr rfl) dX9_takes_109 ⟨rfl, offT_27, Or.inl ⟨rfl, h0, hf0.dn 1 (by decide) (by omega), w_up_n (by omega)⟩⟩
      · refine v_if_ne ⟨by decide, by decide⟩ dX9_takes_89 (fun h => by exfalso; omega) (fun hb89 => ?_)
        refine v_aload_n dX9_takes_92 rfl ?_
        refine v_iconst dX9_takes_93 ?_
        refine v_VmN (tX9_breaks (⟨hTy, hYr⟩ : isY G y) ⟨by decide, by decide⟩) kX9_151 hTy rfl rfl ⟨by decide, by decide⟩ ⟨by decide, by decide⟩ (Nat.le_of_ble_eq_true rfl) dX9_takes_94 (fun r7 er7 hr7 rng8 => ?_)
        subst er7
        have e : (xTake Q σ kd).1 = 3 := xTk_no h0 (by omega) h1 k0 h5
        exact v_zret rfl (by decide) (by decide) (Or.inl rfl) dX9_takes_97 ⟨rfl, offT_28, Or.inr ⟨rfl, by rw [e]; decide, by rw [e, w_up_s]⟩⟩
    · refine v_if_ne ⟨by decide, by decide⟩ dX9_takes_68 (fun h => by exfalso; omega) (fun hb68 => ?_)
      refine v_iconst dX9_takes_71 ?_
      have e : (xTake Q σ kd).1 = 2 := xTk_lo h0 (by omega) h1 k0
      exact v_zret rfl (by decide) (by decide) (Or.inl rfl) dX9_takes_72 ⟨rfl, offT_28, Or.inr ⟨rfl, by rw [e]; decide, by rw [e, w_up_s]⟩⟩
  · refine v_aload_n dX9_takes_5 rfl ?_
    refine v_iconst dX9_takes_6 ?_
    refine v_Vi (tX9_wants (⟨hTy, hYr⟩ : isY G y) (φ := σ.2) hf0 ⟨by decide, by decide⟩) kX9_154 hTy rfl rfl ⟨by decide, by decide⟩ ⟨by decide, by decide⟩ (Nat.le_of_ble_eq_true rfl) dX9_takes_7 (fun r11 G9 J9 hr11 pJ9 rng10 => ?_)
    obtain ⟨hG9, ⟨rfl, wJ9, rfl⟩ | ⟨rfl, wJ9, rfl⟩⟩ := pJ9
    all_goals obtain rfl := hG9.symm
    · refine v_if_ne ⟨by decide, by decide⟩ dX9_takes_10 (fun hb10 => ?_) (fun h => by exfalso; omega)
      refine v_aload_n dX9_takes_15 rfl ?_
      refine v_getR fX9_87 rfl hTy (hYr 24 _ rfl).2 dX9_takes_16 ?_
      refine v_aload_n dX9_takes_19 rfl ?_
      refine v_getI' (v := σ.2.1) hf27 fX9_148 rfl hTy dX9_takes_20 ?_
      refine v_iconst dX9_takes_23 ?_
      refine v_isub dX9_takes_24 ?_
      refine v_iald' (i := ((σ.2.1 - 1)).toNat) (v := σ.2.2.2 (((σ.2.1 - 1)).toNat)) (hfP (((σ.2.1 - 1)).toNat) (by omega)) (show G.1 (y + 25) = (10, 8) from (hYr 24 _ rfl).1) (by omega) (by omega) (by omega) dX9_takes_25 ?_
      refine v_iconst dX9_takes_26 ?_
      refine v_icmp_ne (by rw [← hfP (((σ.2.1 - 1)).toNat) (by omega)]; exact rng _ _) ⟨by decide, by decide⟩ dX9_takes_27 (fun h12 => ?_) (fun h12 => ?_)
      · refine v_aload_n dX9_takes_45 rfl ?_
        refine v_iconst dX9_takes_46 ?_
        refine v_VmN (tX9_breaks (⟨hTy, hYr⟩ : isY G y) ⟨by decide, by decide⟩) kX9_151 hTy rfl rfl ⟨by decide, by decide⟩ ⟨by decide, by decide⟩ (Nat.le_of_ble_eq_true rfl) dX9_takes_47 (fun r13 er13 hr13 rng14 => ?_)
        subst er13
        obtain rfl : kd = 2 := h1
        have e0 : xTake Q σ 2 = xTL σ := if_pos rfl
        rw [e0]
        have e : (xTL σ).1 = 3 := xTL_no h0 (by omega) (by omega)
        exact v_zret rfl (by decide) (by decide) (Or.inl rfl) dX9_takes_50 ⟨rfl, offT_28, Or.inr ⟨rfl, by rw [e]; decide, by rw [e, w_up_s]⟩⟩
      · refine v_aload_n dX9_takes_30 rfl ?_
        refine v_getR fX9_87 rfl hTy (hYr 24 _ rfl).2 dX9_takes_31 ?_
        refine v_aload_n dX9_takes_34 rfl ?_
        refine v_getI' (v := σ.2.1) hf27 fX9_148 rfl hTy dX9_takes_35 ?_
        refine v_iconst dX9_takes_38 ?_
        refine v_isub dX9_takes_39 ?_
        refine v_iald' (i := ((σ.2.1 - 2)).toNat) (v := σ.2.2.2 (((σ.2.1 - 2)).toNat)) (hfP (((σ.2.1 - 2)).toNat) (by omega)) (show G.1 (y + 25) = (10, 8) from (hYr 24 _ rfl).1) (by omega) (by omega) (by omega) dX9_takes_40 ?_
        refine v_iconst dX9_takes_41 ?_
        refine v_icmp_eq (by rw [← hfP (((σ.2.1 - 2)).toNat) (by omega)]; exact rng _ _) ⟨by decide, by decide⟩ dX9_takes_42 (fun h15 => ?_) (fun h15 => ?_)
        · refine v_aload_n dX9_takes_51 rfl ?_
          refine v_dup dX9_takes_52 rfl ?_
          refine v_getI' (v := σ.2.1) hf27 fX9_148 rfl hTy dX9_takes_53 ?_
          refine v_iconst dX9_takes_56 ?_
          refine v_isub dX9_takes_57 ?_
          refine v_putI fX9_148 p9_27 rfl ⟨by omega, by omega⟩ hTy dX9_takes_58 ?_
          have rng16 := w_rng (a := y) (f := 27) rng10 (show inR ((σ.2.1 - 2)) from ⟨by omega, by omega⟩)
          refine v_iconst dX9_takes_61 ?_
          obtain rfl : kd = 2 := h1
          have e0 : xTake Q σ 2 = xTL σ := if_pos rfl
          rw [e0]
          rw [xTL_ok h0 (by omega)]
          exact v_zret rfl (by decide) (by decide) (Or.inr rfl) dX9_takes_62 ⟨rfl, offT_27, Or.inl ⟨rfl, h0, hf0.dn 2 (by decide) (by omega), w_up_n (by omega)⟩⟩
        · refine v_aload_n dX9_takes_45 rfl ?_
          refine v_iconst dX9_takes_46 ?_
          refine v_VmN (tX9_breaks (⟨hTy, hYr⟩ : isY G y) ⟨by decide, by decide⟩) kX9_151 hTy rfl rfl ⟨by decide, by decide⟩ ⟨by decide, by decide⟩ (Nat.le_of_ble_eq_true rfl) dX9_takes_47 (fun r17 er17 hr17 rng18 => ?_)
          subst er17
          obtain rfl : kd = 2 := h1
          have e0 : xTake Q σ 2 = xTL σ := if_pos rfl
          rw [e0]
          have e : (xTL σ).1 = 3 := xTL_no h0 (by omega) (by omega)
          exact v_zret rfl (by decide) (by decide) (Or.inl rfl) dX9_takes_50 ⟨rfl, offT_28, Or.inr ⟨rfl, by rw [e]; decide, by rw [e, w_up_s]⟩⟩
    · refine v_if_ne ⟨by decide, by decide⟩ dX9_takes_10 (fun h => by exfalso; omega) (fun hb10 => ?_)
      refine v_iconst dX9_takes_13 ?_
      obtain rfl : kd = 2 := h1
      have e0 : xTake Q σ 2 = xTL σ := if_pos rfl
      rw [e0]
      have e : (xTL σ).1 = 2 := xTL_lo h0 (by omega)
      exact v_zret rfl (by decide) (by decide) (Or.inl rfl) dX9_takes_14 ⟨rfl, offT_28, Or.inr ⟨rfl, by rw [e]; decide, by rw [e, w_up_s]⟩⟩
theorem tX9_lays {E : w_E} {G : w_Sh} {I : w_Mm} {y : Nat} {Q : cS} {N : Nat} {σ : sS} (hY : isY G y) (hQ : clsY I y Q) (h0 : σ.1 = 0) (hf : yfr I y σ.2) (hkn : knP Q N σ.2) (hN : N ≤ 40) {kd : Int} (hkd : knownK Q kd) (k0 : ¬ kd = 0) : w_Ct E mX9_lays 1 [.ref y, iv kd] G I 0 0 (w_Pi (fun r G' J => G' = G ∧ sPost y I J r (xLay σ kd))) := by
  obtain ⟨hTy, hYr⟩ := hY
  have hQ0 := hQ
  have hf0 := hf
  obtain ⟨hf27, hfh0, hfh8, hfL, hfP⟩ := hf
  have hkr : inR kd := ⟨by omega, by omega⟩
  refine w_Ct.of (ls := [some (.ref y), some (iv kd), none]) (by decide +kernel) (Nat.le_of_ble_eq_true rfl) rfl rfl (fun rng => ?_)
  refine v_iload_n dX9_lays_0 rfl ?_
  refine v_iconst dX9_lays_1 ?_
  refine v_icmp_ne hkr ⟨by decide, by decide⟩ dX9_lays_2 (fun h1 => ?_) (fun h1 => ?_)
  · refine v_iconst dX9_lays_9 ?_
    refine v_istore_n dX9_lays_10 (by decide) rfl ?_
    refine v_aload_n dX9_lays_11 rfl ?_
    refine v_getI' (v := σ.2.1) hf27 fX9_148 rfl hTy dX9_lays_12 ?_
    refine v_iload_n dX9_lays_15 rfl ?_
    refine v_iadd dX9_lays_16 ?_
    refine v_bipush dX9_lays_17 (by decide) ?_
    refine v_icmp_le ⟨by omega, by omega⟩ ⟨by decide, by decide⟩ dX9_lays_19 (fun h2 => ?_) (fun h2 => ?_)
    · refine v_aload_n dX9_lays_28 rfl ?_
      refine v_getR fX9_87 rfl hTy (hYr 24 _ rfl).2 dX9_lays_29 ?_
      refine v_aload_n dX9_lays_32 rfl ?_
      refine v_getI' (v := σ.2.1) hf27 fX9_148 rfl hTy dX9_lays_33 ?_
      refine v_iload_n dX9_lays_36 rfl ?_
      refine v_iast (i := (σ.2.1).toNat) (show G.1 (y + 25) = (10, 8) from (hYr 24 _ rfl).1) (by omega) (by omega) (by omega) hkr dX9_lays_37 ?_
      have rng3 := w_rng (a := y + 25) (f := (σ.2.1).toNat) rng (show inR (kd) from hkr)
      refine v_iload_n dX9_lays_38 rfl ?_
      refine v_iconst dX9_lays_39 ?_
      refine v_icmp_ne hkr ⟨by decide, by decide⟩ dX9_lays_40 (fun hb40 => ?_) (fun h => by exfalso; omega)
      refine v_aload_n dX9_lays_55 rfl ?_
      refine v_dup dX9_lays_56 rfl ?_
      refine v_getI' (v := σ.2.1) (by rw [w_up_n (by omega), hf27]) fX9_148 rfl hTy dX9_lays_57 ?_
      refine v_iload_n dX9_lays_60 rfl ?_
      refine v_iadd dX9_lays_61 ?_
      refine v_putI fX9_148 p9_27 rfl ⟨by omega, by omega⟩ hTy dX9_lays_62 ?_
      have rng4 := w_rng (a := y) (f := 27) rng3 (show inR ((σ.2.1 + 1)) from ⟨by omega, by omega⟩)
      refine v_iconst dX9_lays_65 ?_
      rw [xLay_ok h0 k0 (by rw [if_neg h1]; omega)]
      obtain ⟨g1, g2, g3⟩ := hf0.lay1 h1 (by omega) rfl
      exact v_zret rfl (by decide) (by decide) (Or.inr rfl) dX9_lays_66 ⟨rfl, g3, Or.inl ⟨rfl, h0, g1, g2⟩⟩
    · refine v_aload_n dX9_lays_22 rfl ?_
      refine v_iconst dX9_lays_23 ?_
      refine v_VmN (tX9_breaks (⟨hTy, hYr⟩ : isY G y) ⟨by decide, by decide⟩) kX9_151 hTy rfl rfl ⟨by decide, by decide⟩ ⟨by decide, by decide⟩ (Nat.le_of_ble_eq_true rfl) dX9_lays_24 (fun r5 er5 hr5 rng6 => ?_)
      subst er5
      have e : (xLay σ kd).1 = 1 := xLay_hi h0 k0 (by rw [if_neg h1]; omega)
      exact v_zret rfl (by decide) (by decide) (Or.inl rfl) dX9_lays_27 ⟨rfl, offT_28, Or.inr ⟨rfl, by rw [e]; decide, by rw [e, w_up_s]⟩⟩
  · refine v_iconst dX9_lays_5 ?_
    refine v_goto dX9_lays_6 ?_
    refine v_istore_n dX9_lays_10 (by decide) rfl ?_
    refine v_aload_n dX9_lays_11 rfl ?_
    refine v_getI' (v := σ.2.1) hf27 fX9_148 rfl hTy dX9_lays_12 ?_
    refine v_iload_n dX9_lays_15 rfl ?_
    refine v_iadd dX9_lays_16 ?_
    refine v_bipush dX9_lays_17 (by decide) ?_
    refine v_icmp_le ⟨by omega, by omega⟩ ⟨by decide, by decide⟩ dX9_lays_19 (fun h7 => ?_) (fun h7 => ?_)
    · refine v_aload_n dX9_lays_28 rfl ?_
      refine v_getR fX9_87 rfl hTy (hYr 24 _ rfl).2 dX9_lays_29 ?_
      refine v_aload_n dX9_lays_32 rfl ?_
      refine v_getI' (v := σ.2.1) hf27 fX9_148 rfl hTy dX9_lays_33 ?_
      refine v_iload_n dX9_lays_36 rfl ?_
      refine v_iast (i := (σ.2.1).toNat) (show G.1 (y + 25) = (10, 8) from (hYr 24 _ rfl).1) (by omega) (by omega) (by omega) hkr dX9_lays_37 ?_
      have rng8 := w_rng (a := y + 25) (f := (σ.2.1).toNat) rng (show inR (kd) from hkr)
      refine v_iload_n dX9_lays_38 rfl ?_
      refine v_iconst dX9_lays_39 ?_
      refine v_icmp_ne hkr ⟨by decide, by decide⟩ dX9_lays_40 (fun h => by exfalso; omega) (fun hb40 => ?_)
      refine v_aload_n dX9_lays_43 rfl ?_
      refine v_getR fX9_87 rfl hTy (hYr 24 _ rfl).2 dX9_lays_44 ?_
      refine v_aload_n dX9_lays_47 rfl ?_
      refine v_getI' (v := σ.2.1) (by rw [w_up_n (by omega), hf27]) fX9_148 rfl hTy dX9_lays_48 ?_
      refine v_iconst dX9_lays_51 ?_
      refine v_iadd dX9_lays_52 ?_
      refine v_iconst dX9_lays_53 ?_
      refine v_iast (i := ((σ.2.1 + 1)).toNat) (show G.1 (y + 25) = (10, 8) from (hYr 24 _ rfl).1) (by omega) (by omega) (by omega) ⟨by decide, by decide⟩ dX9_lays_54 ?_
      have rng9 := w_rng (a := y + 25) (f := ((σ.2.1 + 1)).toNat) rng8 (show inR (3) from ⟨by decide, by decide⟩)
      refine v_aload_n dX9_lays_55 rfl ?_
      refine v_dup dX9_lays_56 rfl ?_
      refine v_getI' (v := σ.2.1) (by rw [w_up_n (by omega), w_up_n (by omega), hf27]) fX9_148 rfl hTy dX9_lays_57 ?_
      refine v_iload_n dX9_lays_60 rfl ?_
      refine v_iadd dX9_lays_61 ?_
      refine v_putI fX9_148 p9_27 rfl ⟨by omega, by omega⟩ hTy dX9_lays_62 ?_
      have rng10 := w_rng (a := y) (f := 27) rng9 (show inR ((σ.2.1 + 2)) from ⟨by omega, by omega⟩)
      refine v_iconst dX9_lays_65 ?_
      obtain rfl : kd = 2 := h1
      rw [xLay_ok h0 k0 (by rw [if_pos rfl]; omega)]
      obtain ⟨g1, g2, g3⟩ := hf0.lay2 (by omega) rfl
      exact v_zret rfl (by decide) (by decide) (Or.inr rfl) dX9_lays_66 ⟨rfl, g3, Or.inl ⟨rfl, h0, g1, g2⟩⟩
    · refine v_aload_n dX9_lays_22 rfl ?_
      refine v_iconst dX9_lays_23 ?_
      refine v_VmN (tX9_breaks (⟨hTy, hYr⟩ : isY G y) ⟨by decide, by decide⟩) kX9_151 hTy rfl rfl ⟨by decide, by decide⟩ ⟨by decide, by decide⟩ (Nat.le_of_ble_eq_true rfl) dX9_lays_24 (fun r11 er11 hr11 rng12 => ?_)
      subst er11
      obtain rfl : kd = 2 := h1
      have e : (xLay σ 2).1 = 1 := xLay_hi h0 k0 (by rw [if_pos rfl]; omega)
      exact v_zret rfl (by decide) (by decide) (Or.inl rfl) dX9_lays_27 ⟨rfl, offT_28, Or.inr ⟨rfl, by rw [e]; decide, by rw [e, w_up_s]⟩⟩
theorem tX9_puts {E : w_E} {G : w_Sh} {I : w_Mm} {y a : Nat} {L : Nat → Int} (hY : isY G y) (hL : ∀ k, k < 8 → I (y + 24) k = L k) (ha : a < 8) (h2 : L a = 2 → a + 1 < 8) (h3 : L a = 3 → 1 ≤ a) {kd : Int} (hkr : inR kd) : w_Ct E mX9_puts 0 [.ref y, iv (a : Int), iv kd] G I 0 0 (w_Pv (fun G' J => G' = G ∧ putP I J y (putY L a kd))) := by
  obtain ⟨hTy, hYr⟩ := hY
  refine w_Ct.of (ls := [some (.ref y), some (iv (a : Int)), some (iv kd)]) (by decide +kernel) (Nat.le_of_ble_eq_true rfl) rfl rfl (fun rng => ?_)
  refine v_aload_n dX9_puts_0 rfl ?_
  refine v_getR fX9_84 rfl hTy (hYr 23 _ rfl).2 dX9_puts_1 ?_
  refine v_iload_n dX9_puts_4 rfl ?_
  refine v_iald' (i := a) (v := L (a)) (hL (a) (by omega)) (show G.1 (y + 24) = (10, 8) from (hYr 23 _ rfl).1) rfl (by omega) (by omega) dX9_puts_5 ?_
  refine v_iconst dX9_puts_6 ?_
  refine v_icmp_ne (by rw [← hL (a) (by omega)]; exact rng _ _) ⟨by decide, by decide⟩ dX9_puts_7 (fun h1 => ?_) (fun h1 => ?_)
  · refine v_aload_n dX9_puts_22 rfl ?_
    refine v_getR fX9_84 rfl hTy (hYr 23 _ rfl).2 dX9_puts_23 ?_
    refine v_iload_n dX9_puts_26 rfl ?_
    refine v_iald' (i := a) (v := L (a)) (hL (a) (by omega)) (show G.1 (y + 24) = (10, 8) from (hYr 23 _ rfl).1) rfl (by omega) (by omega) dX9_puts_27 ?_
    refine v_iconst dX9_puts_28 ?_
    refine v_icmp_ne (by rw [← hL (a) (by omega)]; exact rng _ _) ⟨by decide, by decide⟩ dX9_puts_29 (fun h2 => ?_) (fun h2 => ?_)
    · refine v_aload_n dX9_puts_41 rfl ?_
      refine v_getR fX9_84 rfl hTy (hYr 23 _ rfl).2 dX9_puts_42 ?_
      refine v_iload_n dX9_puts_45 rfl ?_
      refine v_iload_n dX9_puts_46 rfl ?_
      refine v_iast (i := a) (show G.1 (y + 24) = (10, 8) from (hYr 23 _ rfl).1) rfl (by omega) (by omega) hkr dX9_puts_47 ?_
      have rng3 := w_rng (a := y + 24) (f := a) rng (show inR (kd) from hkr)
      have e : putY L a kd = uL L a kd := by unfold putY; rw [if_neg h1, if_neg h2]
      rw [e]
      exact v_vret rfl (by decide) (by decide) dX9_puts_48 ⟨rfl, putP.of hL⟩
    · refine v_aload_n dX9_puts_32 rfl ?_
      refine v_getR fX9_84 rfl hTy (hYr 23 _ rfl).2 dX9_puts_33 ?_
      refine v_iload_n dX9_puts_36 rfl ?_
      refine v_iconst dX9_puts_37 ?_
      refine v_isub dX9_puts_38 ?_
      refine v_iconst dX9_puts_39 ?_
      refine v_iast (i := (((a : Nat) : Int) - 1).toNat) (show G.1 (y + 24) = (10, 8) from (hYr 23 _ rfl).1) (by omega) (by omega) (by omega) ⟨by decide, by decide⟩ dX9_puts_40 ?_
      have rng4 := w_rng (a := y + 24) (f := (((a : Nat) : Int) - 1).toNat) rng (show inR (0) from ⟨by decide, by decide⟩)
      refine v_aload_n dX9_puts_41 rfl ?_
      refine v_getR fX9_84 rfl hTy (hYr 23 _ rfl).2 dX9_puts_42 ?_
      refine v_iload_n dX9_puts_45 rfl ?_
      refine v_iload_n dX9_puts_46 rfl ?_
      refine v_iast (i := a) (show G.1 (y + 24) = (10, 8) from (hYr 23 _ rfl).1) rfl (by omega) (by omega) hkr dX9_puts_47 ?_
      have rng5 := w_rng (a := y + 24) (f := a) rng4 (show inR (kd) from hkr)
      have e : putY L a kd = uL (uL L (((a : Nat) : Int) - 1).toNat 0) a kd := by unfold putY; rw [if_neg h1, if_pos h2, show (((a : Nat) : Int) - 1).toNat = a - 1 by omega]
      rw [e]
      have g1 := putP.of (a := (((a : Nat) : Int) - 1).toNat) (kd := 0) hL
      have g2 := putP.of (a := a) (kd := kd) g1.1
      exact v_vret rfl (by decide) (by decide) dX9_puts_48 ⟨rfl, g2.1, fun b k hb => (g2.2 b k hb).trans (g1.2 b k hb)⟩
  · refine v_aload_n dX9_puts_10 rfl ?_
    refine v_getR fX9_84 rfl hTy (hYr 23 _ rfl).2 dX9_puts_11 ?_
    refine v_iload_n dX9_puts_14 rfl ?_
    refine v_iconst dX9_puts_15 ?_
    refine v_iadd dX9_puts_16 ?_
    refine v_iconst dX9_puts_17 ?_
    refine v_iast (i := (a + 1)) (show G.1 (y + 24) = (10, 8) from (hYr 23 _ rfl).1) (by omega) (by omega) (by omega) ⟨by decide, by decide⟩ dX9_puts_18 ?_
    have rng6 := w_rng (a := y + 24) (f := (a + 1)) rng (show inR (0) from ⟨by decide, by decide⟩)
    refine v_goto dX9_puts_19 ?_
    refine v_aload_n dX9_puts_41 rfl ?_
    refine v_getR fX9_84 rfl hTy (hYr 23 _ rfl).2 dX9_puts_42 ?_
    refine v_iload_n dX9_puts_45 rfl ?_
    refine v_iload_n dX9_puts_46 rfl ?_
    refine v_iast (i := a) (show G.1 (y + 24) = (10, 8) from (hYr 23 _ rfl).1) rfl (by omega) (by omega) hkr dX9_puts_47 ?_
    have rng7 := w_rng (a := y + 24) (f := a) rng6 (show inR (kd) from hkr)
    have e : putY L a kd = uL (uL L (a + 1) 0) a kd := by unfold putY; rw [if_pos h1]
    rw [e]
    have g1 := putP.of (a := a + 1) (kd := 0) hL
    have g2 := putP.of (a := a) (kd := kd) g1.1
    exact v_vret rfl (by decide) (by decide) dX9_puts_48 ⟨rfl, g2.1, fun b k hb => (g2.2 b k hb).trans (g1.2 b k hb)⟩
theorem tX9_isHeld {E : w_E} {G : w_Sh} {I : w_Mm} {k : Int} (hk : inR k) : w_Cb E mX9_isHeld 1 [iv k] G I (kHeld k) := by
  refine w_Ct.of (ls := [some (iv k)]) (by decide +kernel) (Nat.le_of_ble_eq_true rfl) rfl rfl (fun rng => ?_)
  refine v_iload_n dX9_isHeld_0 rfl ?_
  refine v_Sb (tX9_isReference hk) kX9_114 rfl rfl ⟨by decide, by decide⟩ ⟨by decide, by decide⟩ (Nat.le_of_ble_eq_true rfl) dX9_isHeld_1 (fun h1 => ?_) (fun h1 => ?_)
  · refine v_if_ne ⟨by decide, by decide⟩ dX9_isHeld_4 (fun hb4 => ?_) (fun h => by exfalso; omega)
    refine v_iconst dX9_isHeld_13 ?_
    refine v_goto dX9_isHeld_14 ?_
    exact v_zret rfl (by decide) (by decide) (Or.inr rfl) dX9_isHeld_18 ⟨rfl, rfl, Or.inl ⟨rfl, by omega⟩⟩
  · refine v_if_ne ⟨by decide, by decide⟩ dX9_isHeld_4 (fun h => by exfalso; omega) (fun hb4 => ?_)
    refine v_iload_n dX9_isHeld_7 rfl ?_
    refine v_bipush dX9_isHeld_8 (by decide) ?_
    refine v_icmp_lt hk ⟨by decide, by decide⟩ dX9_isHeld_10 (fun h2 => ?_) (fun h2 => ?_)
    · refine v_iconst dX9_isHeld_17 ?_
      exact v_zret rfl (by decide) (by decide) (Or.inl rfl) dX9_isHeld_18 ⟨rfl, rfl, Or.inr ⟨rfl, by omega⟩⟩
    · refine v_iconst dX9_isHeld_13 ?_
      refine v_goto dX9_isHeld_14 ?_
      exact v_zret rfl (by decide) (by decide) (Or.inr rfl) dX9_isHeld_18 ⟨rfl, rfl, Or.inl ⟨rfl, by omega⟩⟩
