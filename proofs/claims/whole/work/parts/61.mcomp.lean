/-! ===== the reference: compute ===== -/
/-- what compute may change -/
def cmpA (y i a k : Nat) : Prop := ((a = y + 15 ∨ a = y + 16 ∨ a = y + 17 ∨ a = y + 18 ∨ a = y + 19) ∧ k = i) ∨ ((a = y + 20 ∨ a = y + 21 ∨ a = y + 22) ∧ 40 * i ≤ k ∧ k < 40 * i + 40) ∨ (a = y + 23 ∧ 640 * i ≤ k ∧ k < 640 * i + 640) ∨ (a = y ∧ 27 ≤ k) ∨ (y + 24 ≤ a ∧ a < y + 29)
def offE (I J : w_Mm) (y i : Nat) : Prop := ∀ a k, ¬ cmpA y i a k → J a k = I a k
theorem offE.tr {I J K : w_Mm} {y i : Nat} (h : offE I J y i) (g : offE J K y i) : offE I K y i := fun a k u => (g a k u).trans (h a k u)
theorem offC.e {I J : w_Mm} {y i : Nat} (h : offC I J y i) : offE I J y i := fun a k u => by
  unfold cmpA at u; exact h a k (by omega) (by omega) (by omega) (by omega) (by omega) (by omega) (by omega)
theorem offV.e {I J : w_Mm} {y i : Nat} (h : offV I J y i) : offE I J y i := h.c.e
theorem offE.up {I J : w_Mm} {y i a k : Nat} {z : Int} (h : offE I J y i) (hc : cmpA y i a k) : offE I (w_up J a k z) y i := fun b l u => by
  rw [w_up_n (fun q => u (by rw [q.1, q.2]; exact hc))]; exact h b l u
theorem offE.rf {I : w_Mm} {y i : Nat} : offE I I y i := fun _ _ _ => rfl
theorem offE.o {I J : w_Mm} {y i : Nat} (h : offE I J y i) : offO I J y i := fun a k u1 u2 => h a k (by
  unfold own at u1; unfold scr at u2; unfold cmpA; omega)
theorem offE.b {I J : w_Mm} {y i : Nat} (h : offE I J y i) : offB I J y := fun a k u => h a k (by unfold cmpA; omega)
theorem clsY.E {I J : w_Mm} {y i : Nat} {Q : cS} (h : clsY I y Q) (o : offE I J y i) : clsY J y Q := h.off (o _ _ (by unfold cmpA; omega)) (funext fun k => o _ _ (by unfold cmpA; omega)) (funext fun k => o _ _ (by unfold cmpA; omega))
theorem yM.E {I J : w_Mm} {y i : Nat} {π : mS} (h : yM I y i π) (o : offE I J y i) : yM J y i π := h.off (fun a k h1 h2 => o a k (by unfold own at h1; unfold cmpA; omega))
def stI (I J : w_Mm) (y i : Nat) : Prop := offE I J y i ∧ J y 29 = (i : Int) ∧ J y 28 = 0 ∧ J (y + 15) i = 1 ∧ J (y + 17) i = -1 ∧ J (y + 18) i = 0 ∧ J (y + 19) i = 0
def clP (I J : w_Mm) (y i j : Nat) : Prop := stI I J y i ∧ ∀ k, k < j → J (y + 20) (40 * i + k) = 0 ∧ J (y + 21) (40 * i + k) = 0
theorem stI.b {I : w_Mm} {y i : Nat} : stI I (w_up (w_up (w_up (w_up (w_up (w_up (w_up I y 29 (i : Int)) (y + 15) i 1) (y + 16) i 0) (y + 17) i (-1)) (y + 18) i 0) (y + 19) i 0) y 28 0) y i := by
  refine ⟨((((((offE.rf.up (by unfold cmpA; omega)).up (by unfold cmpA; omega)).up (by unfold cmpA; omega)).up (by unfold cmpA; omega)).up (by unfold cmpA; omega)).up (by unfold cmpA; omega)).up (by unfold cmpA; omega), ?_, w_up_s, ?_, ?_, ?_, ?_⟩
  · rw [w_up_n (by omega), w_up_n (by omega), w_up_n (by omega), w_up_n (by omega), w_up_n (by omega), w_up_n (by omega), w_up_s]
  · rw [w_up_n (by omega), w_up_n (by omega), w_up_n (by omega), w_up_n (by omega), w_up_n (by omega), w_up_s]
  · rw [w_up_n (by omega), w_up_n (by omega), w_up_n (by omega), w_up_s]
  · rw [w_up_n (by omega), w_up_n (by omega), w_up_s]
  · rw [w_up_n (by omega), w_up_s]
theorem stI.u {I J : w_Mm} {y i a k : Nat} {z : Int} (h : stI I J y i) (hc : cmpA y i a k) (h1 : ¬ (a = y ∧ (k = 28 ∨ k = 29))) (h2 : ¬ ((a = y + 15 ∨ a = y + 17 ∨ a = y + 18 ∨ a = y + 19) ∧ k = i)) : stI I (w_up J a k z) y i := by
  obtain ⟨g1, g2, g3, g4, g5, g6, g7⟩ := h
  exact ⟨g1.up hc, (w_up_n (by omega)).trans g2, (w_up_n (by omega)).trans g3, (w_up_n (by omega)).trans g4, (w_up_n (by omega)).trans g5, (w_up_n (by omega)).trans g6, (w_up_n (by omega)).trans g7⟩
theorem clP.s {I J : w_Mm} {y i j : Nat} (h : clP I J y i j) (hj : j < 40) : clP I (w_up (w_up J (y + 20) (40 * i + j) 0) (y + 21) (40 * i + j) 0) y i (j + 1) := by
  refine ⟨(h.1.u (by unfold cmpA; omega) (by omega) (by omega)).u (by unfold cmpA; omega) (by omega) (by omega), fun k hk => ?_⟩
  by_cases e : k = j
  · subst e; exact ⟨by rw [w_up_n (by omega), w_up_s], by rw [w_up_s]⟩
  · obtain ⟨u1, u2⟩ := h.2 k (by omega)
    exact ⟨by rw [w_up_n (by omega), w_up_n (by omega)]; exact u1, by rw [w_up_n (by omega), w_up_n (by omega)]; exact u2⟩
def bgP (I J : w_Mm) (y i : Nat) (β : Nat → Int) (j : Nat) : Prop := clP I J y i 40 ∧ J y 27 = 0 ∧ ∀ k, k < j → J (y + 24) k = β k
theorem bgP.b {I J : w_Mm} {y i : Nat} {β : Nat → Int} (h : clP I J y i 40) : bgP I (w_up J y 27 0) y i β 0 := ⟨⟨h.1.u (by unfold cmpA; omega) (by omega) (by omega), fun k hk => ⟨(w_up_n (by omega)).trans (h.2 k hk).1, (w_up_n (by omega)).trans (h.2 k hk).2⟩⟩, w_up_s, fun k hk => absurd hk (by omega)⟩
theorem bgP.s {I J : w_Mm} {y i j : Nat} {β : Nat → Int} (h : bgP I J y i β j) : bgP I (w_up J (y + 24) j (β j)) y i β (j + 1) := by
  obtain ⟨h1, h2, h3⟩ := h
  refine ⟨⟨h1.1.u (by unfold cmpA; omega) (by omega) (by omega), fun k hk => ⟨(w_up_n (by omega)).trans (h1.2 k hk).1, (w_up_n (by omega)).trans (h1.2 k hk).2⟩⟩, (w_up_n (by omega)).trans h2, fun k hk => ?_⟩
  by_cases e : k = j
  · subst e; rw [w_up_s]
  · rw [w_up_n (by omega)]; exact h3 k (by omega)
/-- no place has a frame -/
def xNone (κ : kS) : kS := ((xSt0 κ 40).1, (xSt0 κ 40).2.1, 0, 0)
theorem none_v {κ : kS} {q : Nat} (hq : q < 40) : (xNone κ).1 q = (-1, (κ.1 q).2) ∧ (xNone κ).2.1 q = 0 := by
  have e := xSt0_v κ 40 q
  rw [if_pos hq, if_pos hq] at e
  exact e
theorem clP.e {I J : w_Mm} {y i : Nat} {κ : kS} (h : clP I J y i 40) : yK J y i (xNone κ) := by
  obtain ⟨⟨_, _, _, _, _, g6, g7⟩, h2⟩ := h
  refine ⟨fun j hj => ?_, fun j hj => ?_, g6, g7⟩
  · rw [(none_v hj).1]
    exact ⟨(h2 j hj).1.trans (if_neg (show ¬ (0 : Int) ≤ -1 by decide)).symm, fun q => absurd (show (0 : Int) ≤ -1 from q) (by decide)⟩
  · rw [(none_v hj).2]
    exact ⟨(h2 j hj).2, Or.inl rfl⟩
theorem meet_none {Q : cS} {κ : kS} {β : Nat → Int} : xMeet Q (xNone κ) 0 (0, β, ((xNone κ).1 0).2.2) = (true, xStart κ β) := by
  unfold xMeet
  rw [if_pos (by rw [(none_v (κ := κ) (q := 0) (by decide)).1]; show (-1 : Int) < 0; decide)]
  rfl
theorem rI.none {Q : cS} {π : mS} {κ : kS} : rI Q π (xNone κ) := fun i hi h0 => by
  rw [(none_v hi).1] at h0
  exact absurd (show (0 : Int) ≤ -1 from h0) (by decide)
theorem bgP.fr {I J : w_Mm} {y i : Nat} {β P : Nat → Int} (h : bgP I J y i β 8) : yfr J y (0, β, P) := ⟨h.2.1, Int.le_refl 0, (show (0 : Int) ≤ 8 by decide), h.2.2, fun k hk => absurd (show (k : Int) < 0 from hk) (by omega)⟩
theorem okF_beg {Q : cS} {π : mS} {P : Nat → Int} (h : begI Q π) : okF Q (mN π) (0, mBeg π, P) := ⟨fun k hk => knK_up (Nat.le_refl _) (Nat.zero_le _) (h.2.1 k hk), h.2.2.1, fun k hk => absurd (show (k : Int) < 0 from hk) (by omega), fun k hk => absurd (show (k : Int) < 0 from hk) (by omega)⟩
/-- the work under way -/
def cuP (I J : w_Mm) (y i : Nat) (κ : kS) : Prop := offE I J y i ∧ J y 29 = (i : Int) ∧ J (y + 15) i = 1 ∧ yK J y i κ
theorem cuP.at {I J : w_Mm} {y i : Nat} {κ : kS} {z : Int} (h : cuP I J y i κ) : cuP I (w_up J y 30 z) y i κ := by
  obtain ⟨h1, h2, h3, h4⟩ := h
  exact ⟨h1.up (by unfold cmpA; omega), (w_up_n (by omega)).trans h2, (w_up_n (by omega)).trans h3, h4.off (fun a k u1 u2 => w_up_n (by omega))⟩
theorem cuP.pl {I J : w_Mm} {y i : Nat} {κ : kS} {z : Int} (h : cuP I J y i κ) : cuP I (w_up J (y + 17) i z) y i κ := by
  obtain ⟨h1, h2, h3, h4⟩ := h
  exact ⟨h1.up (by unfold cmpA; omega), (w_up_n (by omega)).trans h2, (w_up_n (by omega)).trans h3, h4.off (fun a k u1 u2 => w_up_n (by omega))⟩
theorem cuP.ru {I J : w_Mm} {y i : Nat} {κ : kS} {z : Int} (h : cuP I J y i κ) : cuP I (w_up J (y + 16) i z) y i κ := by
  obtain ⟨h1, h2, h3, h4⟩ := h
  exact ⟨h1.up (by unfold cmpA; omega), (w_up_n (by omega)).trans h2, (w_up_n (by omega)).trans h3, h4.off (fun a k u1 u2 => w_up_n (by omega))⟩
theorem cuP.p0 {I J : w_Mm} {y i p : Nat} {κ : kS} (h : cuP I J y i κ) (hp : p < 40) : cuP I (w_up (w_up J (y + 21) (40 * i + p) 0) (y + 18) i (κ.2.2.1 + 1)) y i (xP0 κ p) := by
  obtain ⟨h1, h2, h3, k1, k2, k3, k4⟩ := h
  refine ⟨(h1.up (by unfold cmpA; omega)).up (by unfold cmpA; omega), by rw [w_up_n (by omega), w_up_n (by omega)]; exact h2, by rw [w_up_n (by omega), w_up_n (by omega)]; exact h3, fun j hj => (k1 j hj).off (by rw [w_up_n (by omega), w_up_n (by omega)]) (by rw [w_up_n (by omega), w_up_n (by omega)]) (fun k hk => by rw [w_up_n (by omega), w_up_n (by omega)]), fun j hj => ?_, w_up_s, by rw [w_up_n (by omega), w_up_n (by omega)]; exact k4⟩
  show _ = uL κ.2.1 p 0 j ∧ (uL κ.2.1 p 0 j = 0 ∨ uL κ.2.1 p 0 j = 1)
  by_cases e : j = p
  · subst e; rw [uL_s, w_up_n (by omega), w_up_s]; exact ⟨rfl, Or.inl rfl⟩
  · rw [uL_n e, w_up_n (by omega), w_up_n (by omega)]; exact k2 j hj
theorem cuP.go {I J K : w_Mm} {y i : Nat} {κ κ' : kS} (h : cuP I J y i κ) (o : offC J K y i) (hk : yK K y i κ') : cuP I K y i κ' :=
  ⟨h.1.tr o.e, (o.n (Or.inl rfl)).trans h.2.1, (o _ _ (by omega) (by omega) (by omega) (by omega) (by omega) (by omega) (by omega)).trans h.2.2.1, hk⟩
theorem cuP.fin {I J : w_Mm} {y i : Nat} {s : xS} {κ : kS} {t : Int × Int} {ρ : fS} (hy : yOK I y s) (hi : i < xn s) (h : cuP I J y i κ) (h16 : J (y + 16) i = t.1) (h17 : J (y + 17) i = t.2) : yOK J y (uM s i (xπ s i) κ (1, t) ρ) ∧ offB I J y :=
  ⟨hy.upd h.1.o hi ⟨(hy.2.2.2.1 i hi).1.E h.1, h.2.2.1, Or.inr rfl, fun _ => ⟨h.2.2.2, h16, h17⟩⟩, h.1.b⟩
theorem cuP.lk {I J : w_Mm} {y i : Nat} {κ : kS} (h : cuP I J y i κ) : ∀ j, j < 40 → J (y + 21) (40 * i + j) = κ.2.1 j := fun j hj => (h.2.2.2.2.1 j hj).1
theorem run_no {Q : cS} {π : mS} {j : Nat} {κ : kS} {ρ : fS} (h : leastW κ.2.1 40 0 = -1) : xRun Q π (j + 1) κ ρ = ((0, -1), κ, ρ) := by
  rw [xRun_s, if_pos h]
theorem run_go {Q : cS} {π : mS} {j p : Nat} {κ : kS} {ρ : fS} (h : leastW κ.2.1 40 0 = (p : Int)) (hz : (xPass Q π κ ρ p).1 = 0) : xRun Q π (j + 1) κ ρ = xRun Q π j (xPass Q π κ ρ p).2.1 (xPass Q π κ ρ p).2.2 := by
  have et : ((p : Nat) : Int).toNat = p := rfl
  rw [xRun_s, if_neg (by omega), h, et, if_pos hz]
theorem run_bad {Q : cS} {π : mS} {j p : Nat} {κ : kS} {ρ : fS} (h : leastW κ.2.1 40 0 = (p : Int)) (hz : ¬ (xPass Q π κ ρ p).1 = 0) : xRun Q π (j + 1) κ ρ = (((xPass Q π κ ρ p).1, (p : Int)), (xPass Q π κ ρ p).2.1, (xPass Q π κ ρ p).2.2) := by
  have et : ((p : Nat) : Int).toNat = p := rfl
  rw [xRun_s, if_neg (by omega), h, et, if_neg hz]
theorem xT_is {s : xS} {i : Nat} : xRun s.1 (xπ s i) 1000000 (xStart (xκ s i) (mBeg (xπ s i))) (xρ s) = xT s i := rfl
theorem xComp_is {s : xS} {i : Nat} (h : i < xn s) (hN : ¬ mN (xπ s i) = 0) : xComp s (i : Int) = ((xT s i).1.1, uM s i (xπ s i) (xT s i).2.1 (1, (xT s i).1) (xT s i).2.2) := by
  unfold xComp
  rw [show ((i : Nat) : Int).toNat = i from rfl, if_neg (fun q => q ⟨by omega, by omega⟩), if_neg hN]
theorem tX9_compute {E : w_E} {G : w_Sh} {I : w_Mm} {y : Nat} {s : xS} (hY : isY G y) (hy : yOK I y s) {m0 : Int} (hm : inR m0) (hz : zI s) : w_Ct E mX9_compute 7 [.ref y, iv m0] G I 0 0 (w_Pi (fun r G' J => G' = G ∧ r = (xComp s m0).1 ∧ yOK J y (xComp s m0).2 ∧ offB I J y)) := by
  obtain ⟨hTy, hYr⟩ := hY
  have hy0 := hy
  obtain ⟨hQ, hy3, hy6, hym, hyz⟩ := hy
  have hQ0 := hQ
  obtain ⟨hq0, hq2, hq16, hqF, hch⟩ := hQ
  refine w_Ct.of (ls := [some (.ref y), some (iv m0), none]) (by decide +kernel) (Nat.le_of_ble_eq_true rfl) rfl rfl (fun rng => ?_)
  by_cases hf : fnd s m0
  · obtain ⟨i, rfl⟩ : ∃ i : Nat, m0 = (i : Int) := ⟨m0.toNat, by omega⟩
    have hi : i < xn s := by omega
    have hi6 : i < 6 := by omega
    have hym0 := hym i hi
    obtain ⟨hmM, hd15, hd01, hdK⟩ := hym0
    have hmM0 := hmM
    obtain ⟨hm3, hm4, hm8, hmB, hm6, hmn, hmo, hm10, hmg, hmG⟩ := hmM
    have hzm := hz.1 i hi
    have hwk : wkI s.1 (xπ s i) := hzm.wk ⟨hq2, hq16⟩ hch.low
    have hres : resK s.1 (xπ s i).1.1 := hzm.2.2.2.1
    refine v_aload_n dX9_compute_0 rfl ?_
    refine v_iload_n dX9_compute_1 rfl ?_
    refine v_Vb (tX9_isMethod (⟨hTy, hYr⟩ : isY G y) hy0 ⟨by omega, by omega⟩) kX9_139 hTy rfl rfl ⟨by decide, by decide⟩ ⟨by decide, by decide⟩ (Nat.le_of_ble_eq_true rfl) dX9_compute_2 (fun h1 => ?_) (fun h1 => by exfalso; omega)
    refine v_if_ne ⟨by decide, by decide⟩ dX9_compute_5 (fun hb5 => ?_) (fun h => by exfalso; omega)
    refine v_aload_n dX9_compute_11 rfl ?_
    refine v_getR fX9_30 rfl hTy (hYr 5 _ rfl).2 dX9_compute_12 ?_
    refine v_iload_n dX9_compute_15 rfl ?_
    refine v_iald' (i := i) (v := ((mN (xπ s i) : Nat) : Int)) hm6 (show G.1 (y + 6) = (10, 6) from (hYr 5 _ rfl).1) rfl (by omega) (by omega) dX9_compute_16 ?_
    refine v_if_ne ⟨by omega, by omega⟩ dX9_compute_17 (fun h2 => ?_) (fun h2 => ?_)
    · refine v_aload_n dX9_compute_23 rfl ?_
      refine v_iload_n dX9_compute_24 rfl ?_
      refine v_putI fX9_181 p9_29 rfl ⟨by omega, by omega⟩ hTy dX9_compute_25 ?_
      have rng3 := w_rng (a := y) (f := 29) rng (show inR (((i : Nat) : Int)) from ⟨by omega, by omega⟩)
      refine v_aload_n dX9_compute_28 rfl ?_
      refine v_getR fX9_57 rfl hTy (hYr 14 _ rfl).2 dX9_compute_29 ?_
      refine v_iload_n dX9_compute_32 rfl ?_
      refine v_iconst dX9_compute_33 ?_
      refine v_zast (i := i) (show G.1 (y + 15) = (11, 6) from (hYr 14 _ rfl).1) rfl (by omega) (by omega) (Or.inr rfl) dX9_compute_34 ?_
      have rng4 := w_rng (a := y + 15) (f := i) rng3 (show inR (1) from ⟨by decide, by decide⟩)
      refine v_aload_n dX9_compute_35 rfl ?_
      refine v_getR fX9_60 rfl hTy (hYr 15 _ rfl).2 dX9_compute_36 ?_
      refine v_iload_n dX9_compute_39 rfl ?_
      refine v_iconst dX9_compute_40 ?_
      refine v_iast (i := i) (show G.1 (y + 16) = (10, 6) from (hYr 15 _ rfl).1) rfl (by omega) (by omega) ⟨by decide, by decide⟩ dX9_compute_41 ?_
      have rng5 := w_rng (a := y + 16) (f := i) rng4 (show inR (0) from ⟨by decide, by decide⟩)
      refine v_aload_n dX9_compute_42 rfl ?_
      refine v_getR fX9_63 rfl hTy (hYr 16 _ rfl).2 dX9_compute_43 ?_
      refine v_iload_n dX9_compute_46 rfl ?_
      refine v_iconst dX9_compute_47 ?_
      refine v_iast (i := i) (show G.1 (y + 17) = (10, 6) from (hYr 16 _ rfl).1) rfl (by omega) (by omega) ⟨by decide, by decide⟩ dX9_compute_48 ?_
      have rng6 := w_rng (a := y + 17) (f := i) rng5 (show inR (-1) from ⟨by decide, by decide⟩)
      refine v_aload_n dX9_compute_49 rfl ?_
      refine v_getR fX9_66 rfl hTy (hYr 17 _ rfl).2 dX9_compute_50 ?_
      refine v_iload_n dX9_compute_53 rfl ?_
      refine v_iconst dX9_compute_54 ?_
      refine v_iast (i := i) (show G.1 (y + 18) = (10, 6) from (hYr 17 _ rfl).1) rfl (by omega) (by omega) ⟨by decide, by decide⟩ dX9_compute_55 ?_
      have rng7 := w_rng (a := y + 18) (f := i) rng6 (show inR (0) from ⟨by decide, by decide⟩)
      refine v_aload_n dX9_compute_56 rfl ?_
      refine v_getR fX9_69 rfl hTy (hYr 18 _ rfl).2 dX9_compute_57 ?_
      refine v_iload_n dX9_compute_60 rfl ?_
      refine v_iconst dX9_compute_61 ?_
      refine v_iast (i := i) (show G.1 (y + 19) = (10, 6) from (hYr 18 _ rfl).1) rfl (by omega) (by omega) ⟨by decide, by decide⟩ dX9_compute_62 ?_
      have rng8 := w_rng (a := y + 19) (f := i) rng7 (show inR (0) from ⟨by decide, by decide⟩)
      refine v_aload_n dX9_compute_63 rfl ?_
      refine v_iconst dX9_compute_64 ?_
      refine v_putI fX9_145 p9_28 rfl ⟨by decide, by decide⟩ hTy dX9_compute_65 ?_
      have rng9 := w_rng (a := y) (f := 28) rng8 (show inR (0) from ⟨by decide, by decide⟩)
      refine v_iconst dX9_compute_68 ?_
      refine v_istore_n dX9_compute_69 (by decide) rfl ?_
      have eX := xComp_is hi (by omega : ¬ mN (xπ s i) = 0)
      have loop : ∀ (j ps : Nat) (κ : kS) (ρ : fS) (J : w_Mm), muK κ < j → κ.2.2.1 = (ps : Int) → ps + j ≤ 1000000 → runI s.1 (xπ s i) κ ρ → cuP I J y i κ → J y 28 = 0 → J y 30 = leastW κ.2.1 40 0 → J (y + 17) i = -1 → xRun s.1 (xπ s i) j κ ρ = xT s i → (∀ a k, inR (J a k)) → w_V E mX9_compute (w_rm 7 0 0) (w_Z E 0 0 (w_Pi (fun r G' J => G' = G ∧ r = (xComp s (i : Int)).1 ∧ yOK J y (xComp s (i : Int)).2 ∧ offB I J y))) G J 0 0 156 [some (.ref y), some (iv (i : Int)), some (iv 1)] [] := by
        intro j
        induction j with
        | zero =>
          intro ps κ ρ J hmu
          exact absurd hmu (Nat.not_lt_zero _)
        | succ j ih =>
          intro ps κ ρ J hmu hps hpj hr hc h28 h30 h17 hE rngJ
          rcases leastW_spec κ.2.1 40 0 with ⟨el, _⟩ | ⟨p, _, hp, el, hwt, _⟩
          · refine v_iload_n dX9_compute_156 rfl ?_
            refine v_if_eq ⟨by decide, by decide⟩ dX9_compute_157 (fun h => by exfalso; omega) (fun hb157 => ?_)
            refine v_aload_n dX9_compute_160 rfl ?_
            refine v_getI' (v := -1) (h30.trans el) fX9_184 rfl hTy dX9_compute_161 ?_
            refine v_iconst dX9_compute_164 ?_
            refine v_icmp_eq ⟨by decide, by decide⟩ ⟨by decide, by decide⟩ dX9_compute_165 (fun hb165 => ?_) (fun h => by exfalso; omega)
            refine v_aload_n dX9_compute_227 rfl ?_
            refine v_getR fX9_60 rfl hTy (hYr 15 _ rfl).2 dX9_compute_228 ?_
            refine v_iload_n dX9_compute_231 rfl ?_
            refine v_aload_n dX9_compute_232 rfl ?_
            refine v_getI' (v := 0) h28 fX9_145 rfl hTy dX9_compute_233 ?_
            refine v_iast (i := i) (show G.1 (y + 16) = (10, 6) from (hYr 15 _ rfl).1) rfl (by omega) (by omega) ⟨by decide, by decide⟩ dX9_compute_236 ?_
            have rng1 := w_rng (a := y + 16) (f := i) rngJ (show inR (0) from ⟨by decide, by decide⟩)
            refine v_aload_n dX9_compute_237 rfl ?_
            refine v_getI' (v := 0) (by rw [w_up_n (by omega), h28]) fX9_145 rfl hTy dX9_compute_238 ?_
            have eR : xT s i = ((0, -1), κ, ρ) := hE.symm.trans (run_no el)
            rw [eX, eR]
            obtain ⟨g1, g2⟩ := cuP.fin (t := (0, -1)) (ρ := ρ) hy0 hi hc.ru w_up_s ((w_up_n (by omega)).trans h17)
            exact v_iret rfl (by decide) (by decide) ⟨by decide, by decide⟩ dX9_compute_241 ⟨rfl, rfl, g1, g2⟩
          · have hp40 : p < 40 := by omega
            obtain ⟨hpN, hpw0⟩ := (hr.1 p hp40).1 hwt
            obtain ⟨u1, u2, u3, u4, u5⟩ := hr.pass hwk hp40 hwt
            obtain ⟨x1, x2⟩ := xPass_bd (Q := s.1) (π := xπ s i) (κ := κ) (ρ := ρ) (p := p)
            have hcK := hc.p0 (p := p) hp40
            have k18 := hc.2.2.2.2.2.1
            refine v_iload_n dX9_compute_156 rfl ?_
            refine v_if_eq ⟨by decide, by decide⟩ dX9_compute_157 (fun h => by exfalso; omega) (fun hb157 => ?_)
            refine v_aload_n dX9_compute_160 rfl ?_
            refine v_getI' (v := ((p : Nat) : Int)) (h30.trans el) fX9_184 rfl hTy dX9_compute_161 ?_
            refine v_iconst dX9_compute_164 ?_
            refine v_icmp_eq ⟨by omega, by omega⟩ ⟨by decide, by decide⟩ dX9_compute_165 (fun h => by exfalso; omega) (fun hb165 => ?_)
            refine v_aload_n dX9_compute_168 rfl ?_
            refine v_getR fX9_75 rfl hTy (hYr 20 _ rfl).2 dX9_compute_169 ?_
            refine v_bipush dX9_compute_172 (by decide) ?_
            refine v_iload_n dX9_compute_174 rfl ?_
            refine v_imul dX9_compute_175 ?_
            refine v_aload_n dX9_compute_176 rfl ?_
            refine v_getI' (v := ((p : Nat) : Int)) (h30.trans el) fX9_184 rfl hTy dX9_compute_177 ?_
            refine v_iadd dX9_compute_180 ?_
            refine v_iconst dX9_compute_181 ?_
            refine v_zast (i := ((40 * i) + p)) (show G.1 (y + 21) = (11, 240) from (hYr 20 _ rfl).1) (by omega) (by omega) (by omega) (Or.inl rfl) dX9_compute_182 ?_
            have rng1 := w_rng (a := y + 21) (f := ((40 * i) + p)) rngJ (show inR (0) from ⟨by decide, by decide⟩)
            refine v_aload_n dX9_compute_183 rfl ?_
            refine v_getR fX9_66 rfl hTy (hYr 17 _ rfl).2 dX9_compute_184 ?_
            refine v_iload_n dX9_compute_187 rfl ?_
            refine v_dup2 dX9_compute_188 rfl rfl ?_
            refine v_iald' (i := i) (v := κ.2.2.1) (by rw [w_up_n (by omega), k18]) (show G.1 (y + 18) = (10, 6) from (hYr 17 _ rfl).1) rfl (by omega) (by omega) dX9_compute_189 ?_
            refine v_iconst dX9_compute_190 ?_
            refine v_iadd dX9_compute_191 ?_
            refine v_iast (i := i) (show G.1 (y + 18) = (10, 6) from (hYr 17 _ rfl).1) rfl (by omega) (by omega) ⟨by omega, by omega⟩ dX9_compute_192 ?_
            have rng2 := w_rng (a := y + 18) (f := i) rng1 (show inR ((κ.2.2.1 + 1)) from ⟨by omega, by omega⟩)
            have aK : w_up (w_up J (y + 21) (40 * i + p) 0) (y + 18) i (κ.2.2.1 + 1) y 30 = (p : Int) := by rw [w_up_n (by omega), w_up_n (by omega)]; exact h30.trans el
            have bK : w_up (w_up J (y + 21) (40 * i + p) 0) (y + 18) i (κ.2.2.1 + 1) y 28 = 0 := by rw [w_up_n (by omega), w_up_n (by omega)]; exact h28
            refine v_aload_n dX9_compute_193 rfl ?_
            refine v_Vi (tX9_goes (⟨hTy, hYr⟩ : isY G y) hi6 hcK.2.1 (κ := xP0 κ p) (p := p) (hQ0.E hcK.1) hcK.2.2.2 (hmM0.E hcK.1) aK hp40 (show rI s.1 (xπ s i) (xP0 κ p) from hr.2.1) hpw0 hwk hpN hres (ρ := ρ)) kX9_231 hTy rfl rfl ⟨by decide, by decide⟩ ⟨by decide, by decide⟩ (Nat.le_of_ble_eq_true rfl) dX9_compute_194 (fun r5 G9 J3 hr5 pJ3 rng4 => ?_)
            obtain ⟨hG9, oJ3, ⟨rfl, zJ3, bJ3, kJ3⟩ | ⟨rfl, zJ3, bJ3, kJ3⟩⟩ := pJ3
            all_goals obtain rfl := hG9.symm
            · have c2 := hcK.go oJ3 kJ3
              rw [← x2] at c2
              rw [← x1] at zJ3
              refine v_istore_n dX9_compute_197 (by decide) rfl ?_
              refine v_aload_n dX9_compute_198 rfl ?_
              refine v_getR fX9_63 rfl hTy (hYr 16 _ rfl).2 dX9_compute_199 ?_
              refine v_iload_n dX9_compute_202 rfl ?_
              refine v_iload_n dX9_compute_203 rfl ?_
              refine v_if_eq ⟨by decide, by decide⟩ dX9_compute_204 (fun h => by exfalso; omega) (fun hb204 => ?_)
              refine v_iconst dX9_compute_207 ?_
              refine v_goto dX9_compute_208 ?_
              refine v_iast (i := i) (show G.1 (y + 17) = (10, 6) from (hYr 16 _ rfl).1) rfl (by omega) (by omega) ⟨by decide, by decide⟩ dX9_compute_215 ?_
              have rng6 := w_rng (a := y + 17) (f := i) rng4 (show inR (-1) from ⟨by decide, by decide⟩)
              refine v_aload_n dX9_compute_216 rfl ?_
              refine v_aload_n dX9_compute_217 rfl ?_
              refine v_VmN (tX9_leastLooked (⟨hTy, hYr⟩ : isY G y) hi6 c2.pl.2.1 (n := mN (xπ s i)) (wt := (xPass s.1 (xπ s i) κ ρ p).2.1.2.1) (hmM0.E c2.pl.1).2.2.2.2.1 hmn c2.pl.lk (fun j hj hw => ((u1 j hj).1 hw).1)) kX9_228 hTy rfl rfl ⟨by decide, by decide⟩ ⟨by decide, by decide⟩ (Nat.le_of_ble_eq_true rfl) dX9_compute_218 (fun r7 er7 hr7 rng8 => ?_)
              subst er7
              refine v_putI fX9_184 p9_30 rfl hr7 hTy dX9_compute_221 ?_
              have rng9 := w_rng (a := y) (f := 30) rng6 (show inR (leastW ((xPass s.1 (xπ s i) κ ρ p).2.1.2.1) 40 0) from hr7)
              refine v_goto dX9_compute_224 ?_
              exact ih (ps + 1) _ _ _ (by omega) (by rw [xPass_ps, hps]; rfl) (by omega) ⟨u1, u2, u4 zJ3, u3⟩ c2.pl.at ((w_up_n (by omega)).trans ((w_up_n (by omega)).trans (bJ3.trans bK))) w_up_s ((w_up_n (by omega)).trans w_up_s) ((run_go el zJ3).symm.trans hE) rng9
            · have c2 := hcK.go oJ3 kJ3
              rw [← x2] at c2
              rw [← x1] at zJ3
              rw [← x1] at bJ3
              refine v_istore_n dX9_compute_197 (by decide) rfl ?_
              refine v_aload_n dX9_compute_198 rfl ?_
              refine v_getR fX9_63 rfl hTy (hYr 16 _ rfl).2 dX9_compute_199 ?_
              refine v_iload_n dX9_compute_202 rfl ?_
              refine v_iload_n dX9_compute_203 rfl ?_
              refine v_if_eq ⟨by decide, by decide⟩ dX9_compute_204 (fun hb204 => ?_) (fun h => by exfalso; omega)
              refine v_aload_n dX9_compute_211 rfl ?_
              refine v_getI' (v := ((p : Nat) : Int)) ((oJ3.n (Or.inr rfl)).trans aK) fX9_184 rfl hTy dX9_compute_212 ?_
              refine v_iast (i := i) (show G.1 (y + 17) = (10, 6) from (hYr 16 _ rfl).1) rfl (by omega) (by omega) ⟨by omega, by omega⟩ dX9_compute_215 ?_
              have rng10 := w_rng (a := y + 17) (f := i) rng4 (show inR (((p : Nat) : Int)) from ⟨by omega, by omega⟩)
              refine v_aload_n dX9_compute_216 rfl ?_
              refine v_aload_n dX9_compute_217 rfl ?_
              refine v_VmN (tX9_leastLooked (⟨hTy, hYr⟩ : isY G y) hi6 c2.pl.2.1 (n := mN (xπ s i)) (wt := (xPass s.1 (xπ s i) κ ρ p).2.1.2.1) (hmM0.E c2.pl.1).2.2.2.2.1 hmn c2.pl.lk (fun j hj hw => ((u1 j hj).1 hw).1)) kX9_228 hTy rfl rfl ⟨by decide, by decide⟩ ⟨by decide, by decide⟩ (Nat.le_of_ble_eq_true rfl) dX9_compute_218 (fun r11 er11 hr11 rng12 => ?_)
              subst er11
              refine v_putI fX9_184 p9_30 rfl hr11 hTy dX9_compute_221 ?_
              have rng13 := w_rng (a := y) (f := 30) rng10 (show inR (leastW ((xPass s.1 (xπ s i) κ ρ p).2.1.2.1) 40 0) from hr11)
              refine v_goto dX9_compute_224 ?_
              refine v_iload_n dX9_compute_156 rfl ?_
              refine v_if_eq ⟨by decide, by decide⟩ dX9_compute_157 (fun hb157 => ?_) (fun h => by exfalso; omega)
              refine v_aload_n dX9_compute_227 rfl ?_
              refine v_getR fX9_60 rfl hTy (hYr 15 _ rfl).2 dX9_compute_228 ?_
              refine v_iload_n dX9_compute_231 rfl ?_
              refine v_aload_n dX9_compute_232 rfl ?_
              refine v_getI' (v := (xPass s.1 (xπ s i) κ ρ p).1) (by rw [w_up_n (by omega), w_up_n (by omega), bJ3]) fX9_145 rfl hTy dX9_compute_233 ?_
              refine v_iast (i := i) (show G.1 (y + 16) = (10, 6) from (hYr 15 _ rfl).1) rfl (by omega) (by omega) (by rw [← bJ3]; exact rng4 _ _) dX9_compute_236 ?_
              have rng14 := w_rng (a := y + 16) (f := i) rng13 (show inR ((xPass s.1 (xπ s i) κ ρ p).1) from (by rw [← bJ3]; exact rng4 _ _))
              refine v_aload_n dX9_compute_237 rfl ?_
              refine v_getI' (v := (xPass s.1 (xπ s i) κ ρ p).1) (by rw [w_up_n (by omega), w_up_n (by omega), w_up_n (by omega), bJ3]) fX9_145 rfl hTy dX9_compute_238 ?_
              have eR : xT s i = (((xPass s.1 (xπ s i) κ ρ p).1, (p : Int)), (xPass s.1 (xπ s i) κ ρ p).2.1, (xPass s.1 (xπ s i) κ ρ p).2.2) := hE.symm.trans (run_bad el zJ3)
              rw [eX, eR]
              obtain ⟨g1, g2⟩ := cuP.fin (t := ((xPass s.1 (xπ s i) κ ρ p).1, (p : Int))) (ρ := (xPass s.1 (xπ s i) κ ρ p).2.2) hy0 hi c2.pl.at.ru w_up_s ((w_up_n (by omega)).trans ((w_up_n (by omega)).trans w_up_s))
              exact v_iret rfl (by decide) (by decide) (by rw [← bJ3]; exact rng4 _ _) dX9_compute_241 ⟨rfl, rfl, g1, g2⟩
      have loopB : ∀ (m j : Nat) (Jb : w_Mm), j + m = 8 → bgP I Jb y i (mBeg (xπ s i)) j → (∀ a k, inR (Jb a k)) → w_V E mX9_compute (w_rm 7 0 0) (w_Z E 0 0 (w_Pi (fun r G' J => G' = G ∧ r = (xComp s (i : Int)).1 ∧ yOK J y (xComp s (i : Int)).2 ∧ offB I J y))) G Jb 0 0 113 [some (.ref y), some (iv (i : Int)), some (iv (j : Int))] [] := by
        intro m
        induction m with
        | zero =>
          intro j Jb hj hb rngB
          obtain rfl : j = 8 := by omega
          have c0 : cuP I Jb y i (xNone (xκ s i)) := ⟨hb.1.1.1, hb.1.1.2.1, hb.1.1.2.2.2.1, hb.1.e⟩
          have hrun : runI s.1 (xπ s i) (xStart (xκ s i) (mBeg (xπ s i))) (xρ s) := hzm.run (by omega) hz.2
          refine v_iload_n dX9_compute_113 rfl ?_
          refine v_bipush dX9_compute_114 (by decide) ?_
          refine v_icmp_ge ⟨by omega, by omega⟩ ⟨by decide, by decide⟩ dX9_compute_116 (fun hb116 => ?_) (fun h => by exfalso; omega)
          refine v_aload_n dX9_compute_142 rfl ?_
          refine v_iconst dX9_compute_143 ?_
          refine v_Vi (tX9_meets (⟨hTy, hYr⟩ : isY G y) hi6 hb.1.1.2.1 (Q := s.1) (κ := xNone (xκ s i)) (ψ := (0, mBeg (xπ s i), ((xNone (xκ s i)).1 0).2.2)) (N := mN (xπ s i)) (p := 0) (hQ0.E hb.1.1.1) hb.1.e (by decide) hmn hb.fr (okF_beg hzm.2.2.2.2.1) (fun u => (rI.none (Q := s.1) (π := (xπ s i)) 0 (by decide) u).1)) kX9_210 hTy rfl rfl ⟨by decide, by decide⟩ ⟨by decide, by decide⟩ (Nat.le_of_ble_eq_true rfl) dX9_compute_144 (fun r3 G9 J1 hr3 pJ1 rng2 => ?_)
          obtain ⟨hG9, mJ1⟩ := pJ1
          obtain rfl := hG9.symm
          obtain ⟨vJ1, gJ1, kJ1⟩ := mJ1
          rw [meet_none] at gJ1 kJ1
          have hr1 : r3 = 1 ∧ J1 y 28 = Jb y 28 := by rcases gJ1 with q | q; exact ⟨q.1, q.2.2⟩; exact absurd rfl q.2.1
          obtain ⟨rfl, bJ1⟩ := hr1
          have c1 := c0.go vJ1.c kJ1
          refine v_istore_n dX9_compute_147 (by decide) rfl ?_
          refine v_aload_n dX9_compute_148 rfl ?_
          refine v_aload_n dX9_compute_149 rfl ?_
          refine v_VmN (tX9_leastLooked (⟨hTy, hYr⟩ : isY G y) hi6 c1.2.1 (n := mN (xπ s i)) (wt := (xStart (xκ s i) (mBeg (xπ s i))).2.1) (hmM0.E c1.1).2.2.2.2.1 hmn c1.lk (fun j hj hw => ((hrun.1 j hj).1 hw).1)) kX9_228 hTy rfl rfl ⟨by decide, by decide⟩ ⟨by decide, by decide⟩ (Nat.le_of_ble_eq_true rfl) dX9_compute_150 (fun r4 er4 hr4 rng5 => ?_)
          subst er4
          refine v_putI fX9_184 p9_30 rfl hr4 hTy dX9_compute_153 ?_
          have rng6 := w_rng (a := y) (f := 30) rng2 (show inR (leastW ((xStart (xκ s i) (mBeg (xπ s i))).2.1) 40 0) from hr4)
          exact loop 1000000 0 _ (xρ s) _ fuel_ok rfl (by decide) hrun c1.at ((w_up_n (by omega)).trans (bJ1.trans hb.1.1.2.2.1)) w_up_s ((w_up_n (by omega)).trans ((vJ1 _ _ (by omega) (by omega) (by omega) (by omega) (by omega)).trans hb.1.1.2.2.2.2.1)) xT_is rng6
        | succ m ih =>
          intro j Jb hj hb rngB
          have hbj : Jb (y + 5) (8 * i + j) = mBeg (xπ s i) j := (hb.1.1.1 _ _ (by unfold cmpA; omega)).trans (hmB j (by omega))
          refine v_iload_n dX9_compute_113 rfl ?_
          refine v_bipush dX9_compute_114 (by decide) ?_
          refine v_icmp_ge ⟨by omega, by omega⟩ ⟨by decide, by decide⟩ dX9_compute_116 (fun h => by exfalso; omega) (fun hb116 => ?_)
          refine v_aload_n dX9_compute_119 rfl ?_
          refine v_getR fX9_84 rfl hTy (hYr 23 _ rfl).2 dX9_compute_120 ?_
          refine v_iload_n dX9_compute_123 rfl ?_
          refine v_aload_n dX9_compute_124 rfl ?_
          refine v_getR fX9_27 rfl hTy (hYr 4 _ rfl).2 dX9_compute_125 ?_
          refine v_bipush dX9_compute_128 (by decide) ?_
          refine v_iload_n dX9_compute_130 rfl ?_
          refine v_imul dX9_compute_131 ?_
          refine v_iload_n dX9_compute_132 rfl ?_
          refine v_iadd dX9_compute_133 ?_
          refine v_iald' (i := ((8 * i) + j)) (v := mBeg (xπ s i) j) hbj (show G.1 (y + 5) = (10, 48) from (hYr 4 _ rfl).1) (by omega) (by omega) (by omega) dX9_compute_134 ?_
          refine v_iast (i := j) (show G.1 (y + 24) = (10, 8) from (hYr 23 _ rfl).1) rfl (by omega) (by omega) (by rw [← hbj]; exact rngB _ _) dX9_compute_135 ?_
          have rng1 := w_rng (a := y + 24) (f := j) rngB (show inR (mBeg (xπ s i) j) from (by rw [← hbj]; exact rngB _ _))
          refine v_iinc dX9_compute_136 rfl (by decide) rfl rfl ?_
          refine v_goto dX9_compute_139 ?_
          exact ih (j + 1) _ (by omega) hb.s rng1
      have loopA : ∀ (m j : Nat) (Ja : w_Mm), j + m = 40 → clP I Ja y i j → (∀ a k, inR (Ja a k)) → w_V E mX9_compute (w_rm 7 0 0) (w_Z E 0 0 (w_Pi (fun r G' J => G' = G ∧ r = (xComp s (i : Int)).1 ∧ yOK J y (xComp s (i : Int)).2 ∧ offB I J y))) G Ja 0 0 70 [some (.ref y), some (iv (i : Int)), some (iv (j : Int))] [] := by
        intro m
        induction m with
        | zero =>
          intro j Ja hj ha rngA
          obtain rfl : j = 40 := by omega
          refine v_iload_n dX9_compute_70 rfl ?_
          refine v_bipush dX9_compute_71 (by decide) ?_
          refine v_icmp_ge ⟨by omega, by omega⟩ ⟨by decide, by decide⟩ dX9_compute_73 (fun hb73 => ?_) (fun h => by exfalso; omega)
          refine v_aload_n dX9_compute_106 rfl ?_
          refine v_iconst dX9_compute_107 ?_
          refine v_putI fX9_148 p9_27 rfl ⟨by decide, by decide⟩ hTy dX9_compute_108 ?_
          have rng1 := w_rng (a := y) (f := 27) rngA (show inR (0) from ⟨by decide, by decide⟩)
          refine v_iconst dX9_compute_111 ?_
          refine v_istore_n dX9_compute_112 (by decide) rfl ?_
          exact loopB 8 0 _ rfl (bgP.b ha) rng1
        | succ m ih =>
          intro j Ja hj ha rngA
          refine v_iload_n dX9_compute_70 rfl ?_
          refine v_bipush dX9_compute_71 (by decide) ?_
          refine v_icmp_ge ⟨by omega, by omega⟩ ⟨by decide, by decide⟩ dX9_compute_73 (fun h => by exfalso; omega) (fun hb73 => ?_)
          refine v_aload_n dX9_compute_76 rfl ?_
          refine v_getR fX9_72 rfl hTy (hYr 19 _ rfl).2 dX9_compute_77 ?_
          refine v_bipush dX9_compute_80 (by decide) ?_
          refine v_iload_n dX9_compute_82 rfl ?_
          refine v_imul dX9_compute_83 ?_
          refine v_iload_n dX9_compute_84 rfl ?_
          refine v_iadd dX9_compute_85 ?_
          refine v_iconst dX9_compute_86 ?_
          refine v_zast (i := ((40 * i) + j)) (show G.1 (y + 20) = (11, 240) from (hYr 19 _ rfl).1) (by omega) (by omega) (by omega) (Or.inl rfl) dX9_compute_87 ?_
          have rng1 := w_rng (a := y + 20) (f := ((40 * i) + j)) rngA (show inR (0) from ⟨by decide, by decide⟩)
          refine v_aload_n dX9_compute_88 rfl ?_
          refine v_getR fX9_75 rfl hTy (hYr 20 _ rfl).2 dX9_compute_89 ?_
          refine v_bipush dX9_compute_92 (by decide) ?_
          refine v_iload_n dX9_compute_94 rfl ?_
          refine v_imul dX9_compute_95 ?_
          refine v_iload_n dX9_compute_96 rfl ?_
          refine v_iadd dX9_compute_97 ?_
          refine v_iconst dX9_compute_98 ?_
          refine v_zast (i := ((40 * i) + j)) (show G.1 (y + 21) = (11, 240) from (hYr 20 _ rfl).1) (by omega) (by omega) (by omega) (Or.inl rfl) dX9_compute_99 ?_
          have rng2 := w_rng (a := y + 21) (f := ((40 * i) + j)) rng1 (show inR (0) from ⟨by decide, by decide⟩)
          refine v_iinc dX9_compute_100 rfl (by decide) rfl rfl ?_
          refine v_goto dX9_compute_103 ?_
          exact ih (j + 1) _ (by omega) (ha.s (by omega)) rng2
      exact loopA 40 0 _ rfl ⟨stI.b, fun k hk => absurd hk (by omega)⟩ rng9
    · refine v_bipush dX9_compute_20 (by decide) ?_
      rw [show xComp s (i : Int) = (-3, s) by unfold xComp; (try simp only [Int.toNat_natCast]); rw [if_neg (fun q => q hf), if_pos (by omega)]]
      exact v_iret rfl (by decide) (by decide) ⟨by decide, by decide⟩ dX9_compute_22 ⟨rfl, rfl, hy0, fun _ _ _ => rfl⟩
  · refine v_aload_n dX9_compute_0 rfl ?_
    refine v_iload_n dX9_compute_1 rfl ?_
    refine v_Vb (tX9_isMethod (⟨hTy, hYr⟩ : isY G y) hy0 hm) kX9_139 hTy rfl rfl ⟨by decide, by decide⟩ ⟨by decide, by decide⟩ (Nat.le_of_ble_eq_true rfl) dX9_compute_2 (fun h1 => by exact absurd h1 hf) (fun h1 => ?_)
    refine v_if_ne ⟨by decide, by decide⟩ dX9_compute_5 (fun h => by exfalso; omega) (fun hb5 => ?_)
    refine v_bipush dX9_compute_8 (by decide) ?_
    rw [show xComp s m0 = (-2, s) by unfold xComp; (try simp only [Int.toNat_natCast]); rw [if_pos hf]]
    exact v_iret rfl (by decide) (by decide) ⟨by decide, by decide⟩ dX9_compute_10 ⟨rfl, rfl, hy0, fun _ _ _ => rfl⟩
