/-! ===== the work ===== -/
def xSt0 (κ : kS) : Nat → kS
  | 0 => κ
  | j + 1 => (uF (xSt0 κ j).1 j (-1, ((xSt0 κ j).1 j).2), uL (xSt0 κ j).2.1 j 0, (xSt0 κ j).2.2)
def xStart (κ : kS) (β : Nat → Int) : kS := (uF (xSt0 κ 40).1 0 (0, β, ((xSt0 κ 40).1 0).2.2), uL (xSt0 κ 40).2.1 0 1, 0, 0)
def xP0 (κ : kS) (p : Nat) : kS := (κ.1, uL κ.2.1 p 0, κ.2.2.1 + 1, κ.2.2.2)
def xHi (κ : kS) (d : Int) : kS := (κ.1, κ.2.1, κ.2.2.1, if κ.2.2.2 < d then d else κ.2.2.2)
def xPass (Q : cS) (π : mS) (κ : kS) (ρ : fS) (p : Nat) : Int × kS × fS :=
  if ¬ (xHands Q π p (mNG π) 0 (xP0 κ p) ρ).1 = 0 then xHands Q π p (mNG π) 0 (xP0 κ p) ρ
  else if ¬ (xPerf Q π (0, (xHands Q π p (mNG π) 0 (xP0 κ p) ρ).2.1.1 p) p).1 = 0 then ((xPerf Q π (0, (xHands Q π p (mNG π) 0 (xP0 κ p) ρ).2.1.1 p) p).1, (xHands Q π p (mNG π) 0 (xP0 κ p) ρ).2)
  else ((xGo Q π (xHi (xHands Q π p (mNG π) 0 (xP0 κ p) ρ).2.1 (xPerf Q π (0, (xHands Q π p (mNG π) 0 (xP0 κ p) ρ).2.1.1 p) p).2.1) (xPerf Q π (0, (xHands Q π p (mNG π) 0 (xP0 κ p) ρ).2.1.1 p) p).2 p).1,
    (xGo Q π (xHi (xHands Q π p (mNG π) 0 (xP0 κ p) ρ).2.1 (xPerf Q π (0, (xHands Q π p (mNG π) 0 (xP0 κ p) ρ).2.1.1 p) p).2.1) (xPerf Q π (0, (xHands Q π p (mNG π) 0 (xP0 κ p) ρ).2.1.1 p) p).2 p).2, (xHands Q π p (mNG π) 0 (xP0 κ p) ρ).2.2)
def xRun (Q : cS) (π : mS) : Nat → kS → fS → (Int × Int) × kS × fS
  | 0, κ, ρ => ((0, -1), κ, ρ)
  | j + 1, κ, ρ => if leastW κ.2.1 40 0 = -1 then ((0, -1), κ, ρ) else if (xPass Q π κ ρ (leastW κ.2.1 40 0).toNat).1 = 0 then xRun Q π j (xPass Q π κ ρ (leastW κ.2.1 40 0).toNat).2.1 (xPass Q π κ ρ (leastW κ.2.1 40 0).toNat).2.2 else (((xPass Q π κ ρ (leastW κ.2.1 40 0).toNat).1, leastW κ.2.1 40 0), (xPass Q π κ ρ (leastW κ.2.1 40 0).toNat).2.1, (xPass Q π κ ρ (leastW κ.2.1 40 0).toNat).2.2)
theorem xRun_s {Q : cS} {π : mS} {j : Nat} {κ : kS} {ρ : fS} : xRun Q π (j + 1) κ ρ = if leastW κ.2.1 40 0 = -1 then ((0, -1), κ, ρ) else if (xPass Q π κ ρ (leastW κ.2.1 40 0).toNat).1 = 0 then xRun Q π j (xPass Q π κ ρ (leastW κ.2.1 40 0).toNat).2.1 (xPass Q π κ ρ (leastW κ.2.1 40 0).toNat).2.2 else (((xPass Q π κ ρ (leastW κ.2.1 40 0).toNat).1, leastW κ.2.1 40 0), (xPass Q π κ ρ (leastW κ.2.1 40 0).toNat).2.1, (xPass Q π κ ρ (leastW κ.2.1 40 0).toNat).2.2) := rfl
theorem leastW_spec (wt : Nat → Int) : ∀ m j, leastW wt m j = -1 ∧ (∀ i, j ≤ i → i < j + m → wt i = 0) ∨ ∃ p, j ≤ p ∧ p < j + m ∧ leastW wt m j = (p : Int) ∧ ¬ wt p = 0 ∧ ∀ i, j ≤ i → i < p → wt i = 0
  | 0, j => Or.inl ⟨rfl, fun i h1 h2 => by omega⟩
  | m + 1, j => by
    unfold leastW
    by_cases h : wt j = 0
    · rw [if_pos h]
      rcases leastW_spec wt m (j + 1) with ⟨h1, h2⟩ | ⟨p, h1, h2, h3, h4, h5⟩
      · refine Or.inl ⟨h1, fun i a b => ?_⟩
        by_cases e : i = j
        · subst e; exact h
        · exact h2 i (by omega) (by omega)
      · refine Or.inr ⟨p, by omega, by omega, h3, h4, fun i a b => ?_⟩
        by_cases e : i = j
        · subst e; exact h
        · exact h5 i (by omega) b
    · rw [if_neg h]
      exact Or.inr ⟨j, by omega, by omega, rfl, h, fun i a b => by omega⟩
theorem frOK.to {I : w_Mm} {f : Nat} {φ ψ : fS} (h : frOK I f φ) (h0 : φ.1 = ψ.1) (h1 : ∀ k, k < 8 → φ.2.1 k = ψ.2.1 k) (h2 : ∀ k, k < 8 → φ.2.2 k = ψ.2.2 k) : frOK I f ψ :=
  ⟨h.1.trans h0, fun k hk => (h.2.1 k hk).trans (h1 k hk), fun k hk => (h.2.2.1 k hk).trans (h2 k hk), by rw [← h0]; exact h.2.2.2.1, by rw [← h0]; exact h.2.2.2.2⟩
theorem wkOK.noFr {I : w_Mm} {w p : Nat} {κ : kS} (h : wkOK I w κ) (hp : p < 40) : wkOK (w_up I (w + 3 + 3 * p) 2 (-1)) w (uF κ.1 p (-1, (κ.1 p).2), κ.2) ∧ ∀ a k, (a < w ∨ w + 123 ≤ a) → w_up I (w + 3 + 3 * p) 2 (-1) a k = I a k := by
  refine ⟨⟨fun i hi => ?_, fun i hi => ⟨(w_up_n (by omega)).trans (h.2.1 i hi).1, (h.2.1 i hi).2⟩, (w_up_n (by omega)).trans h.2.2.1, (w_up_n (by omega)).trans h.2.2.2⟩, fun a k ha => w_up_n (by omega)⟩
  by_cases e : i = p
  · subst e
    rw [show (uF κ.1 i (-1, (κ.1 i).2), κ.2).1 i = (-1, (κ.1 i).2) from uF_s]
    have g := h.1 i hi
    exact ⟨w_up_s, fun k hk => (w_up_n (by omega)).trans (g.2.1 k hk), fun k hk => (w_up_n (by omega)).trans (g.2.2.1 k hk), by show (-1 : Int) ≤ -1; decide, by show (-1 : Int) ≤ 8; decide⟩
  · rw [show (uF κ.1 p (-1, (κ.1 p).2), κ.2).1 i = κ.1 i from uF_n e]
    exact (h.1 i hi).same (w_up_n (by omega)) (fun k _ => w_up_n (by omega)) (fun k _ => w_up_n (by omega))
theorem wkOK.setF {I J : w_Mm} {w p : Nat} {κ : kS} {φ : fS} (h : wkOK I w κ) (hp : p < 40) (hJ : frOK J (w + 3 + 3 * p) φ) (ho : offF I J (w + 3 + 3 * p)) : wkOK J w (uF κ.1 p φ, κ.2) := by
  refine ⟨fun i hi => ?_, fun i hi => ⟨(ho _ _ (by omega) (by omega) (by omega)).trans (h.2.1 i hi).1, (h.2.1 i hi).2⟩, (ho _ _ (by omega) (by omega) (by omega)).trans h.2.2.1, (ho _ _ (by omega) (by omega) (by omega)).trans h.2.2.2⟩
  by_cases e : i = p
  · subst e
    rw [show (uF κ.1 i φ, κ.2).1 i = φ from uF_s]; exact hJ
  · rw [show (uF κ.1 p φ, κ.2).1 i = κ.1 i from uF_n e]
    exact (h.1 i hi).same (ho _ _ (by omega) (by omega) (by omega)) (fun k _ => ho _ _ (by omega) (by omega) (by omega)) (fun k _ => ho _ _ (by omega) (by omega) (by omega))
/-- a number of the work itself -/
theorem wkOK.num {I : w_Mm} {w f : Nat} {κ κ' : kS} {z : Int} (h : wkOK I w κ) (h1 : κ'.1 = κ.1) (h2 : κ'.2.1 = κ.2.1) (h5 : (f = 5 ∧ κ'.2.2.1 = z) ∨ (¬ f = 5 ∧ κ'.2.2.1 = κ.2.2.1)) (h6 : (f = 6 ∧ κ'.2.2.2 = z) ∨ (¬ f = 6 ∧ κ'.2.2.2 = κ.2.2.2)) : wkOK (w_up I w f z) w κ' := by
  refine ⟨fun i hi => ?_, fun i hi => ?_, ?_, ?_⟩
  · rw [h1]; exact (h.1 i hi).same (w_up_n (by omega)) (fun k _ => w_up_n (by omega)) (fun k _ => w_up_n (by omega))
  · rw [h2]; exact ⟨(w_up_n (by omega)).trans (h.2.1 i hi).1, (h.2.1 i hi).2⟩
  · rcases h5 with ⟨rfl, e⟩ | ⟨hn, e⟩
    · rw [e]; exact w_up_s
    · rw [e, w_up_n (by omega)]; exact h.2.2.1
  · rcases h6 with ⟨rfl, e⟩ | ⟨hn, e⟩
    · rw [e]; exact w_up_s
    · rw [e, w_up_n (by omega)]; exact h.2.2.2
theorem xHands_there {Q : cS} {π : mS} {p : Nat} : ∀ (j g : Nat) (κ : kS) (ρ : fS) (i : Nat), 0 ≤ (κ.1 i).1 → 0 ≤ ((xHands Q π p j g κ ρ).2.1.1 i).1
  | 0, _, κ, ρ, i, h => h
  | j + 1, g, κ, ρ, i, h => by
    unfold xHands
    split
    · exact xHands_there j (g + 1) κ ρ i h
    · split
      · exact h
      · split
        · exact xHands_there j (g + 1) _ _ i (xMeet_there (show (0 : Int) ≤ 1 by decide) i h)
        · exact xMeet_there (show (0 : Int) ≤ 1 by decide) i h
theorem xHands_kI {Q : cS} {π : mS} {p : Nat} (hgd : gdOK Q π) (hp : p < 40) : ∀ (j g : Nat) (κ : kS) (ρ : fS), g + j ≤ mNG π → kI π κ → (∀ k, k < 8 → 0 ≤ ρ.2.2 k) → kI π (xHands Q π p j g κ ρ).2.1 ∧ ∀ k, k < 8 → 0 ≤ (xHands Q π p j g κ ρ).2.2.2.2 k
  | 0, _, κ, ρ, _, h, hr => ⟨h, hr⟩
  | j + 1, g, κ, ρ, hg, h, hr => by
    have hgg := hgd g (by omega)
    have hn := nnF_rais (kd := 10 + mGc π g) (h p hp).2 hr (by omega)
    unfold xHands
    split
    · exact xHands_kI hgd hp j (g + 1) κ ρ (by omega) h hr
    · split
      · exact ⟨h, hr⟩
      · split
        · exact xHands_kI hgd hp j (g + 1) _ _ (by omega) (kI_meet h (by omega) hn (show (0 : Int) ≤ 1 by decide)) (fun k hk => (hn k hk).2)
        · exact ⟨kI_meet h (by omega) hn (show (0 : Int) ≤ 1 by decide), fun k hk => (hn k hk).2⟩
theorem kI_next {Q : cS} {π : mS} {κ : kS} {p : Nat} {ψ : fS} (h : kI π κ) (hψ : nnF ψ) (hd : 0 ≤ ψ.1) : kI π (xNext Q π κ ψ p).2 := by
  unfold xNext
  split
  · exact h
  · split
    · exact kI_meet h (by omega) hψ hd
    · exact kI_meet h (by omega) hψ hd
theorem kI_go {Q : cS} {π : mS} {κ : kS} {p : Nat} {ψ : fS} (h : kI π κ) (hψ : nnF ψ) (hd : 0 ≤ ψ.1) : kI π (xGo Q π κ ψ p).2 := by
  unfold xGo
  split
  · exact h
  · split
    · split
      · exact h
      · rename_i hj
        have ha : 0 ≤ mA π p ∧ mA π p < (mN π : Int) := by
          by_cases q : 0 ≤ mA π p ∧ mA π p < (mN π : Int)
          · exact q
          · exfalso; apply hj; unfold xJump; rw [if_pos q]; decide
        have g := kI_meet (Q := Q) (p := (mA π p).toNat) h (by omega) hψ hd
        split
        · split
          · exact g
          · exact kI_next g hψ hd
        · exact g
    · exact kI_next h hψ hd
theorem kI_P0 {π : mS} {κ : kS} {p : Nat} (h : kI π κ) : kI π (xP0 κ p) := fun i hi => by
  refine ⟨fun hw => (h i hi).1 ?_, (h i hi).2⟩
  intro q
  apply hw
  show uL κ.2.1 p 0 i = 0
  unfold uL
  split
  · rfl
  · exact q
def opsOK (Q : cS) (π : mS) : Prop := ∀ p, p < mN π → opOK Q (mOp π p) (mA π p) (mB π p)
theorem tX6_startWith {E : w_E} {G : w_Sh} {I : w_Mm} {w b : Nat} {κ : kS} {β : Nat → Int} (hW : isW G w) (hκ : wkOK I w κ) (hTb : G.1 b = (10, 8)) (hbw : b < w) (hβ : ∀ k, k < 8 → I b k = β k) : w_Ct E mX6_startWith 2 [.ref w, .ref b] G I 0 0 (w_Pv (fun G' J => G' = G ∧ wkOK J w (xStart κ β) ∧ J w 2 = 1 ∧ J w 3 = 0 ∧ J w 4 = -1 ∧ ∀ a k, (a < w ∨ w + 123 ≤ a) → J a k = I a k)) := by
  have hW0 := hW
  obtain ⟨hTw, hRw0, hRw1, hTw1, hTw2, hWf⟩ := hW
  refine w_Ct.of (ls := [some (.ref w), some (.ref b), none]) (by decide +kernel) (Nat.le_of_ble_eq_true rfl) rfl rfl (fun rng => ?_)
  refine v_iconst dX6_startWith_0 ?_
  refine v_istore_n dX6_startWith_1 (by decide) rfl ?_
  have loop : ∀ (mm j : Nat) (J : w_Mm), j + mm = 40 → wkOK J w (xSt0 κ j) → (∀ a k, (a < w ∨ w + 123 ≤ a) → J a k = I a k) → (∀ a k, inR (J a k)) → w_V E mX6_startWith (w_rm 2 0 0) (w_Z E 0 0 (w_Pv (fun G' J => G' = G ∧ wkOK J w (xStart κ β) ∧ J w 2 = 1 ∧ J w 3 = 0 ∧ J w 4 = -1 ∧ ∀ a k, (a < w ∨ w + 123 ≤ a) → J a k = I a k))) G J 0 0 2 [some (.ref w), some (.ref b), some (iv (j : Int))] [] := by
    intro mm
    induction mm with
    | zero =>
      intro j J hj hκJ hO rngJ
      obtain rfl : j = 40 := by omega
      have h0 := hWf 0 (by decide)
      refine v_iload_n dX6_startWith_2 rfl ?_
      refine v_bipush dX6_startWith_3 (by decide) ?_
      refine v_icmp_ge ⟨by omega, by omega⟩ ⟨by decide, by decide⟩ dX6_startWith_5 (fun hb5 => ?_) (fun h => by exfalso; omega)
      refine v_aload_n dX6_startWith_31 rfl ?_
      refine v_getR fX6_11 rfl (by assumption) (by assumption) dX6_startWith_32 ?_
      refine v_iconst dX6_startWith_35 ?_
      refine v_aaldF (i := 0) (by assumption) h0.1 rfl (by omega) (by omega) dX6_startWith_36 ?_
      refine v_aload_n dX6_startWith_37 rfl ?_
      refine v_Vv (tX2_startWith h0.2 (hκJ.1 0 (by decide)) hTb (by omega) (by omega) (by omega)) kX6_26 h0.2.1 rfl rfl ⟨by decide, by decide⟩ ⟨by decide, by decide⟩ (Nat.le_of_ble_eq_true rfl) dX6_startWith_38 (fun G9 J1 pJ1 rng2 => ?_)
      obtain ⟨rfl, fJ1, oJ1⟩ := pJ1
      refine v_aload_n dX6_startWith_41 rfl ?_
      refine v_getR fX6_17 rfl (by assumption) (by assumption) dX6_startWith_42 ?_
      refine v_iconst dX6_startWith_45 ?_
      refine v_iconst dX6_startWith_46 ?_
      refine v_zast (i := 0) (by assumption) rfl (by omega) (by omega) (Or.inr rfl) dX6_startWith_47 ?_
      have rng3 := w_rng (a := w + 2) (f := 0) rng2 (show inR (1) from ⟨by decide, by decide⟩)
      refine v_aload_n dX6_startWith_48 rfl ?_
      refine v_iconst dX6_startWith_49 ?_
      refine v_putZ fX6_30 p6_2 rfl (Or.inr rfl) (by assumption) dX6_startWith_50 ?_
      have rng4 := w_rng (a := w) (f := 2) rng3 (show inR (1) from ⟨by decide, by decide⟩)
      refine v_aload_n dX6_startWith_53 rfl ?_
      refine v_iconst dX6_startWith_54 ?_
      refine v_putI fX6_34 p6_3 rfl ⟨by decide, by decide⟩ (by assumption) dX6_startWith_55 ?_
      have rng5 := w_rng (a := w) (f := 3) rng4 (show inR (0) from ⟨by decide, by decide⟩)
      refine v_aload_n dX6_startWith_58 rfl ?_
      refine v_iconst dX6_startWith_59 ?_
      refine v_putI fX6_37 p6_4 rfl ⟨by decide, by decide⟩ (by assumption) dX6_startWith_60 ?_
      have rng6 := w_rng (a := w) (f := 4) rng5 (show inR (-1) from ⟨by decide, by decide⟩)
      refine v_aload_n dX6_startWith_63 rfl ?_
      refine v_iconst dX6_startWith_64 ?_
      refine v_putI fX6_40 p6_5 rfl ⟨by decide, by decide⟩ (by assumption) dX6_startWith_65 ?_
      have rng7 := w_rng (a := w) (f := 5) rng6 (show inR (0) from ⟨by decide, by decide⟩)
      refine v_aload_n dX6_startWith_68 rfl ?_
      refine v_iconst dX6_startWith_69 ?_
      refine v_putI fX6_43 p6_6 rfl ⟨by decide, by decide⟩ (by assumption) dX6_startWith_70 ?_
      have rng8 := w_rng (a := w) (f := 6) rng7 (show inR (0) from ⟨by decide, by decide⟩)
      have g0 := (fJ1).to (ψ := (0, β, ((xSt0 κ 40).1 0).2.2)) rfl (fun k hk => (hO b k (by omega)).trans (hβ k hk)) (fun k _ => rfl)
      have g1 := hκJ.setF (by decide) g0 oJ1
      have g2 := (wkOK.wait (p := 0) (z := 1) g1 (Or.inr rfl)).1
      have g3 := g2.num (f := 2) (z := 1) (κ' := (uF (xSt0 κ 40).1 0 (0, β, ((xSt0 κ 40).1 0).2.2), uL (xSt0 κ 40).2.1 0 1, (xSt0 κ 40).2.2)) rfl rfl (Or.inr ⟨by decide, rfl⟩) (Or.inr ⟨by decide, rfl⟩)
      have g4 := g3.num (f := 3) (z := 0) rfl rfl (Or.inr ⟨by decide, rfl⟩) (Or.inr ⟨by decide, rfl⟩)
      have g5 := g4.num (f := 4) (z := -1) rfl rfl (Or.inr ⟨by decide, rfl⟩) (Or.inr ⟨by decide, rfl⟩)
      have g6 := g5.num (f := 5) (z := 0) (κ' := (uF (xSt0 κ 40).1 0 (0, β, ((xSt0 κ 40).1 0).2.2), uL (xSt0 κ 40).2.1 0 1, 0, (xSt0 κ 40).2.2.2)) rfl rfl (Or.inl ⟨rfl, rfl⟩) (Or.inr ⟨by decide, rfl⟩)
      have g7 := g6.num (f := 6) (z := 0) (κ' := xStart κ β) rfl rfl (Or.inr ⟨by decide, rfl⟩) (Or.inl ⟨rfl, rfl⟩)
      refine v_vret rfl (by decide) (by decide) dX6_startWith_73 ⟨rfl, g7, ?_, ?_, ?_, fun a k ha => ?_⟩
      · rw [w_up_n (by omega), w_up_n (by omega), w_up_n (by omega), w_up_n (by omega), w_up_s]
      · rw [w_up_n (by omega), w_up_n (by omega), w_up_n (by omega), w_up_s]
      · rw [w_up_n (by omega), w_up_n (by omega), w_up_s]
      · rw [w_up_n (by omega), w_up_n (by omega), w_up_n (by omega), w_up_n (by omega), w_up_n (by omega), w_up_n (by omega), oJ1 _ _ (by omega) (by omega) (by omega)]; exact hO a k ha
    | succ mm ih =>
      intro j J hj hκJ hO rngJ
      have h0 := hWf j (by omega)
      refine v_iload_n dX6_startWith_2 rfl ?_
      refine v_bipush dX6_startWith_3 (by decide) ?_
      refine v_icmp_ge ⟨by omega, by omega⟩ ⟨by decide, by decide⟩ dX6_startWith_5 (fun h => by exfalso; omega) (fun hb5 => ?_)
      refine v_aload_n dX6_startWith_8 rfl ?_
      refine v_getR fX6_11 rfl (by assumption) (by assumption) dX6_startWith_9 ?_
      refine v_iload_n dX6_startWith_12 rfl ?_
      refine v_aaldF (i := j) (by assumption) h0.1 rfl (by omega) (by omega) dX6_startWith_13 ?_
      refine v_iconst dX6_startWith_14 ?_
      refine v_putI fX6_22 p2_2 rfl ⟨by decide, by decide⟩ h0.2.1 dX6_startWith_15 ?_
      have rng1 := w_rng (a := w + 3 + 3 * j) (f := 2) rngJ (show inR (-1) from ⟨by decide, by decide⟩)
      refine v_aload_n dX6_startWith_18 rfl ?_
      refine v_getR fX6_17 rfl (by assumption) (by assumption) dX6_startWith_19 ?_
      refine v_iload_n dX6_startWith_22 rfl ?_
      refine v_iconst dX6_startWith_23 ?_
      refine v_zast (i := j) (by assumption) rfl (by omega) (by omega) (Or.inl rfl) dX6_startWith_24 ?_
      have rng2 := w_rng (a := w + 2) (f := j) rng1 (show inR (0) from ⟨by decide, by decide⟩)
      refine v_iinc dX6_startWith_25 rfl (by decide) rfl rfl ?_
      refine v_goto dX6_startWith_28 ?_
      obtain ⟨g1, g2⟩ := hκJ.noFr (p := j) (by omega)
      obtain ⟨g3, g4⟩ := wkOK.wait (p := j) (z := 0) g1 (Or.inl rfl)
      exact ih (j + 1) _ (by omega) g3 (fun a k ha => (g4.1 a k ha).trans ((g2 a k ha).trans (hO a k ha))) rng2
  exact loop 40 0 I rfl hκ (fun _ _ _ => rfl) rng
