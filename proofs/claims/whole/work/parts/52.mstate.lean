/-! ===== the reference: its state ===== -/
def yM (I : w_Mm) (y i : Nat) (π : mS) : Prop := I (y + 3) i = mRes π ∧ I (y + 4) i = (mNA π : Int) ∧ mNA π ≤ 8 ∧ (∀ k, k < 8 → I (y + 5) (8 * i + k) = mBeg π k) ∧ I (y + 6) i = (mN π : Int) ∧ mN π ≤ 40 ∧ (∀ p, p < mN π → I (y + 7) (40 * i + p) = mOp π p ∧ I (y + 8) (40 * i + p) = mA π p ∧ I (y + 9) (40 * i + p) = mB π p) ∧ I (y + 10) i = (mNG π : Int) ∧ mNG π ≤ 6 ∧ ∀ g, g < mNG π → I (y + 11) (6 * i + g) = mGf π g ∧ I (y + 12) (6 * i + g) = mGt π g ∧ I (y + 13) (6 * i + g) = mGh π g ∧ I (y + 14) (6 * i + g) = mGc π g
def yF (I : w_Mm) (y f : Nat) (φ : fS) : Prop := I (y + 20) f = (if 0 ≤ φ.1 then 1 else 0) ∧ (0 ≤ φ.1 → I (y + 22) f = φ.1 ∧ φ.1 ≤ 8 ∧ (∀ k, k < 8 → I (y + 23) (16 * f + k) = φ.2.1 k) ∧ ∀ k : Nat, (k : Int) < φ.1 → I (y + 23) (16 * f + 8 + k) = φ.2.2 k)
def yK (I : w_Mm) (y i : Nat) (κ : kS) : Prop := (∀ j, j < 40 → yF I y (40 * i + j) (κ.1 j)) ∧ (∀ j, j < 40 → I (y + 21) (40 * i + j) = κ.2.1 j ∧ (κ.2.1 j = 0 ∨ κ.2.1 j = 1)) ∧ I (y + 18) i = κ.2.2.1 ∧ I (y + 19) i = κ.2.2.2
def yOKm (I : w_Mm) (y i : Nat) (π : mS) (κ : kS) (t : Int × Int × Int) : Prop := yM I y i π ∧ I (y + 15) i = t.1 ∧ (t.1 = 0 ∨ t.1 = 1) ∧ (t.1 = 1 → yK I y i κ ∧ I (y + 16) i = t.2.1 ∧ I (y + 17) i = t.2.2)
abbrev yZ (I : w_Mm) (y i : Nat) : Prop := I (y + 4) i = 0 ∧ I (y + 6) i = 0 ∧ I (y + 10) i = 0 ∧ I (y + 15) i = 0 ∧ ∀ k, k < 8 → I (y + 5) (8 * i + k) = 0
def yOK (I : w_Mm) (y : Nat) (s : xS) : Prop := clsY I y s.1 ∧ I y 3 = (xn s : Int) ∧ xn s ≤ 6 ∧ (∀ i, i < xn s → yOKm I y i (xπ s i) (xκ s i) (xst s i)) ∧ ∀ i, xn s ≤ i → i < 6 → yZ I y i
/-- what is of method i, in the reference's rows; what is written anew in each call -/
def own (y i a k : Nat) : Prop := ((a = y + 3 ∨ a = y + 4 ∨ a = y + 6 ∨ a = y + 10 ∨ a = y + 15 ∨ a = y + 16 ∨ a = y + 17 ∨ a = y + 18 ∨ a = y + 19) ∧ k = i) ∨ (a = y + 5 ∧ 8 * i ≤ k ∧ k < 8 * i + 8) ∨ ((a = y + 7 ∨ a = y + 8 ∨ a = y + 9 ∨ a = y + 20 ∨ a = y + 21 ∨ a = y + 22) ∧ 40 * i ≤ k ∧ k < 40 * i + 40) ∨ ((a = y + 11 ∨ a = y + 12 ∨ a = y + 13 ∨ a = y + 14) ∧ 6 * i ≤ k ∧ k < 6 * i + 6) ∨ (a = y + 23 ∧ 640 * i ≤ k ∧ k < 640 * i + 640)
def scr (y a k : Nat) : Prop := (a = y ∧ 27 ≤ k) ∨ (y + 24 ≤ a ∧ a < y + 29)
theorem own_no {y i j a k : Nat} (h : own y j a k) (e : j ≠ i) : ¬ own y i a k ∧ ¬ scr y a k := by
  unfold own at h ⊢
  unfold scr
  omega
theorem yM.off {I J : w_Mm} {y i : Nat} {π : mS} (h : yM I y i π) (ho : ∀ a k, own y i a k → a < y + 15 → J a k = I a k) : yM J y i π := by
  obtain ⟨h1, h2, h3, h4, h5, h6, h7, h8, h9, h10⟩ := h
  refine ⟨(ho _ _ (by unfold own; omega) (by omega)).trans h1, (ho _ _ (by unfold own; omega) (by omega)).trans h2, h3, fun k hk => (ho _ _ (by unfold own; omega) (by omega)).trans (h4 k hk), (ho _ _ (by unfold own; omega) (by omega)).trans h5, h6, fun p hp => ⟨(ho _ _ (by unfold own; omega) (by omega)).trans (h7 p hp).1, (ho _ _ (by unfold own; omega) (by omega)).trans (h7 p hp).2.1, (ho _ _ (by unfold own; omega) (by omega)).trans (h7 p hp).2.2⟩, (ho _ _ (by unfold own; omega) (by omega)).trans h8, h9, fun g hg => ⟨(ho _ _ (by unfold own; omega) (by omega)).trans (h10 g hg).1, (ho _ _ (by unfold own; omega) (by omega)).trans (h10 g hg).2.1, (ho _ _ (by unfold own; omega) (by omega)).trans (h10 g hg).2.2.1, (ho _ _ (by unfold own; omega) (by omega)).trans (h10 g hg).2.2.2⟩⟩
theorem yF.off {I J : w_Mm} {y f : Nat} {φ : fS} (h : yF I y f φ) (h1 : J (y + 20) f = I (y + 20) f) (h2 : J (y + 22) f = I (y + 22) f) (h3 : ∀ k, k < 16 → J (y + 23) (16 * f + k) = I (y + 23) (16 * f + k)) : yF J y f φ := by
  refine ⟨h1.trans h.1, fun q => ?_⟩
  obtain ⟨g1, g2, g3, g4⟩ := h.2 q
  refine ⟨h2.trans g1, g2, fun k hk => (h3 k (by omega)).trans (g3 k hk), fun k hk => ?_⟩
  rw [Nat.add_assoc, h3 (8 + k) (by omega), ← Nat.add_assoc]
  exact g4 k hk
theorem yK.off {I J : w_Mm} {y i : Nat} {κ : kS} (h : yK I y i κ) (ho : ∀ a k, own y i a k → y + 18 ≤ a → J a k = I a k) : yK J y i κ := by
  obtain ⟨h1, h2, h3, h4⟩ := h
  refine ⟨fun j hj => (h1 j hj).off (ho _ _ (by unfold own; omega) (by omega)) (ho _ _ (by unfold own; omega) (by omega)) (fun k hk => ho _ _ (by unfold own; omega) (by omega)), fun j hj => ⟨(ho _ _ (by unfold own; omega) (by omega)).trans (h2 j hj).1, (h2 j hj).2⟩, (ho _ _ (by unfold own; omega) (by omega)).trans h3, (ho _ _ (by unfold own; omega) (by omega)).trans h4⟩
theorem yOKm.off {I J : w_Mm} {y i : Nat} {π : mS} {κ : kS} {t : Int × Int × Int} (h : yOKm I y i π κ t) (ho : ∀ a k, own y i a k → J a k = I a k) : yOKm J y i π κ t :=
  ⟨h.1.off (fun a k h1 _ => ho a k h1), (ho _ _ (by unfold own; omega)).trans h.2.1, h.2.2.1, fun q => ⟨(h.2.2.2 q).1.off (fun a k h1 _ => ho a k h1), (ho _ _ (by unfold own; omega)).trans (h.2.2.2 q).2.1, (ho _ _ (by unfold own; omega)).trans (h.2.2.2 q).2.2⟩⟩
def offO (I J : w_Mm) (y i : Nat) : Prop := ∀ a k, ¬ own y i a k → ¬ scr y a k → J a k = I a k
theorem yOK.upd {I J : w_Mm} {y i : Nat} {s : xS} {π : mS} {κ : kS} {t : Int × Int × Int} {ρ : fS} (h : yOK I y s) (ho : offO I J y i) (hi : i < xn s) (hm : yOKm J y i π κ t) : yOK J y (uM s i π κ t ρ) := by
  obtain ⟨h1, h2, h3, h4, h5⟩ := h
  refine ⟨h1.off (ho _ _ (by unfold own; omega) (by unfold scr; omega)) (funext fun k => ho _ _ (by unfold own; omega) (by unfold scr; omega)) (funext fun k => ho _ _ (by unfold own; omega) (by unfold scr; omega)), (ho _ _ (by unfold own; omega) (by unfold scr; omega)).trans h2, h3, fun j hj => ?_, fun j hj hj6 => ?_⟩
  · by_cases e : j = i
    · subst e
      show yOKm J y j (uN (xπ s) j π j) (uN (xκ s) j κ j) (uN (xst s) j t j)
      rw [uN_s, uN_s, uN_s]; exact hm
    · show yOKm J y j (uN (xπ s) i π j) (uN (xκ s) i κ j) (uN (xst s) i t j)
      rw [uN_n e, uN_n e, uN_n e]
      exact (h4 j hj).off (fun a k q => ho a k (own_no q e).1 (own_no q e).2)
  · obtain ⟨z1, z2, z3, z4, z5⟩ := h5 j hj hj6
    have hj2 : xn s ≤ j := hj
    have e : j ≠ i := by omega
    exact ⟨(ho _ _ (by unfold own; omega) (by unfold scr; omega)).trans z1, (ho _ _ (by unfold own; omega) (by unfold scr; omega)).trans z2, (ho _ _ (by unfold own; omega) (by unfold scr; omega)).trans z3, (ho _ _ (by unfold own; omega) (by unfold scr; omega)).trans z4, fun k hk => (ho _ _ (by unfold own; omega) (by unfold scr; omega)).trans (z5 k hk)⟩
theorem yOK.sc {I J : w_Mm} {y : Nat} {s : xS} (h : yOK I y s) (ho : ∀ a k, ¬ scr y a k → J a k = I a k) : yOK J y s := by
  obtain ⟨h1, h2, h3, h4, h5⟩ := h
  refine ⟨h1.off (ho _ _ (by unfold scr; omega)) (funext fun k => ho _ _ (by unfold scr; omega)) (funext fun k => ho _ _ (by unfold scr; omega)), (ho _ _ (by unfold scr; omega)).trans h2, h3, fun j hj => (h4 j hj).off (fun a k q => ho a k ?_), fun j hj hj6 => ?_⟩
  · have := (own_no (i := j + 1) q (by omega)).2
    exact this
  · obtain ⟨z1, z2, z3, z4, z5⟩ := h5 j hj hj6
    exact ⟨(ho _ _ (by unfold scr; omega)).trans z1, (ho _ _ (by unfold scr; omega)).trans z2, (ho _ _ (by unfold scr; omega)).trans z3, (ho _ _ (by unfold scr; omega)).trans z4, fun k hk => (ho _ _ (by unfold scr; omega)).trans (z5 k hk)⟩
theorem y_arg1 {I : w_Mm} {y i : Nat} {π : mS} {kd : Int} (h : yM I y i π) (h2 : ¬ kd = 2) (h8 : mNA π + 1 ≤ 8) {J : w_Mm} (eJ : J = w_up (w_up (w_up I (y + 5) (8 * i + mNA π) kd) (y + 4) i ((mNA π : Int) + 1)) (y + 15) i 0) : yM J y i (aArg π kd) ∧ offO I J y i ∧ J (y + 15) i = 0 := by
  have o : ∀ a k, ¬ (a = y + 5 ∧ k = 8 * i + mNA π) → ¬ (a = y + 4 ∧ k = i) → ¬ (a = y + 15 ∧ k = i) → J a k = I a k := fun a k u1 u2 u3 => by rw [eJ, w_up_n u3, w_up_n u2, w_up_n u1]
  have e : aArg π kd = ((mRes π, mNA π + 1, uL (mBeg π) (mNA π) kd), π.2) := by unfold aArg; rw [if_neg h2, if_neg h2]
  obtain ⟨g1, g2, g3, g4, g5, g6, g7, g8, g9, g10⟩ := h
  rw [e]
  refine ⟨⟨(o _ _ (by omega) (by omega) (by omega)).trans g1, by rw [eJ, w_up_n (by omega), w_up_s]; rfl, h8, fun k hk => ?_, (o _ _ (by omega) (by omega) (by omega)).trans g5, g6, fun p hp => ⟨(o _ _ (by omega) (by omega) (by omega)).trans (g7 p hp).1, (o _ _ (by omega) (by omega) (by omega)).trans (g7 p hp).2.1, (o _ _ (by omega) (by omega) (by omega)).trans (g7 p hp).2.2⟩, (o _ _ (by omega) (by omega) (by omega)).trans g8, g9, fun g hg => ⟨(o _ _ (by omega) (by omega) (by omega)).trans (g10 g hg).1, (o _ _ (by omega) (by omega) (by omega)).trans (g10 g hg).2.1, (o _ _ (by omega) (by omega) (by omega)).trans (g10 g hg).2.2.1, (o _ _ (by omega) (by omega) (by omega)).trans (g10 g hg).2.2.2⟩⟩, fun a k u1 u2 => ?_, by rw [eJ, w_up_s]⟩
  · show J (y + 5) (8 * i + k) = uL (mBeg π) (mNA π) kd k
    by_cases e1 : k = mNA π
    · subst e1; rw [eJ, w_up_n (by omega), w_up_n (by omega), w_up_s, uL_s]
    · rw [uL_n e1]; exact (o _ _ (by omega) (by omega) (by omega)).trans (g4 k hk)
  · unfold own at u1
    exact o _ _ (by omega) (by omega) (by omega)
theorem y_arg2 {I : w_Mm} {y i : Nat} {π : mS} (h : yM I y i π) (h8 : mNA π + 2 ≤ 8) {J : w_Mm} (eJ : J = w_up (w_up (w_up (w_up I (y + 5) (8 * i + mNA π) 2) (y + 5) (8 * i + mNA π + 1) 3) (y + 4) i ((mNA π : Int) + 2)) (y + 15) i 0) : yM J y i (aArg π 2) ∧ offO I J y i ∧ J (y + 15) i = 0 := by
  have o : ∀ a k, ¬ (a = y + 5 ∧ k = 8 * i + mNA π) → ¬ (a = y + 5 ∧ k = 8 * i + mNA π + 1) → ¬ (a = y + 4 ∧ k = i) → ¬ (a = y + 15 ∧ k = i) → J a k = I a k := fun a k u1 u2 u3 u4 => by rw [eJ, w_up_n u4, w_up_n u3, w_up_n u2, w_up_n u1]
  have e : aArg π 2 = ((mRes π, mNA π + 2, uL (uL (mBeg π) (mNA π) 2) (mNA π + 1) 3), π.2) := by unfold aArg; rw [if_pos rfl, if_pos rfl]
  obtain ⟨g1, g2, g3, g4, g5, g6, g7, g8, g9, g10⟩ := h
  rw [e]
  refine ⟨⟨(o _ _ (by omega) (by omega) (by omega) (by omega)).trans g1, by rw [eJ, w_up_n (by omega), w_up_s]; rfl, h8, fun k hk => ?_, (o _ _ (by omega) (by omega) (by omega) (by omega)).trans g5, g6, fun p hp => ⟨(o _ _ (by omega) (by omega) (by omega) (by omega)).trans (g7 p hp).1, (o _ _ (by omega) (by omega) (by omega) (by omega)).trans (g7 p hp).2.1, (o _ _ (by omega) (by omega) (by omega) (by omega)).trans (g7 p hp).2.2⟩, (o _ _ (by omega) (by omega) (by omega) (by omega)).trans g8, g9, fun g hg => ⟨(o _ _ (by omega) (by omega) (by omega) (by omega)).trans (g10 g hg).1, (o _ _ (by omega) (by omega) (by omega) (by omega)).trans (g10 g hg).2.1, (o _ _ (by omega) (by omega) (by omega) (by omega)).trans (g10 g hg).2.2.1, (o _ _ (by omega) (by omega) (by omega) (by omega)).trans (g10 g hg).2.2.2⟩⟩, fun a k u1 u2 => ?_, by rw [eJ, w_up_s]⟩
  · show J (y + 5) (8 * i + k) = uL (uL (mBeg π) (mNA π) 2) (mNA π + 1) 3 k
    by_cases e2 : k = mNA π + 1
    · subst e2; rw [eJ, w_up_n (by omega), w_up_n (by omega), ← Nat.add_assoc, w_up_s, uL_s]
    · rw [uL_n e2]
      by_cases e1 : k = mNA π
      · subst e1; rw [eJ, w_up_n (by omega), w_up_n (by omega), w_up_n (by omega), w_up_s, uL_s]
      · rw [uL_n e1]; exact (o _ _ (by omega) (by omega) (by omega) (by omega)).trans (g4 k hk)
  · unfold own at u1
    exact o _ _ (by omega) (by omega) (by omega) (by omega)
theorem y_op {I : w_Mm} {y i : Nat} {π : mS} {op a0 b0 : Int} (h : yM I y i π) (h4 : mN π < 40) {J : w_Mm} (eJ : J = w_up (w_up (w_up (w_up (w_up I (y + 7) (40 * i + mN π) op) (y + 8) (40 * i + mN π) a0) (y + 9) (40 * i + mN π) b0) (y + 6) i ((mN π : Int) + 1)) (y + 15) i 0) : yM J y i (aOp π op a0 b0) ∧ offO I J y i ∧ J (y + 15) i = 0 := by
  have o : ∀ a k, ¬ ((a = y + 7 ∨ a = y + 8 ∨ a = y + 9) ∧ k = 40 * i + mN π) → ¬ (a = y + 6 ∧ k = i) → ¬ (a = y + 15 ∧ k = i) → J a k = I a k := fun a k u1 u2 u3 => by rw [eJ, w_up_n u3, w_up_n u2, w_up_n (by omega), w_up_n (by omega), w_up_n (by omega)]
  obtain ⟨g1, g2, g3, g4, g5, g6, g7, g8, g9, g10⟩ := h
  refine ⟨⟨(o _ _ (by omega) (by omega) (by omega)).trans g1, (o _ _ (by omega) (by omega) (by omega)).trans g2, g3, fun k hk => (o _ _ (by omega) (by omega) (by omega)).trans (g4 k hk), by rw [eJ, w_up_n (by omega), w_up_s]; rfl, h4, fun p hp => ?_, (o _ _ (by omega) (by omega) (by omega)).trans g8, g9, fun g hg => ⟨(o _ _ (by omega) (by omega) (by omega)).trans (g10 g hg).1, (o _ _ (by omega) (by omega) (by omega)).trans (g10 g hg).2.1, (o _ _ (by omega) (by omega) (by omega)).trans (g10 g hg).2.2.1, (o _ _ (by omega) (by omega) (by omega)).trans (g10 g hg).2.2.2⟩⟩, fun a k u1 u2 => ?_, by rw [eJ, w_up_s]⟩
  · show J _ _ = uL (mOp π) (mN π) op p ∧ J _ _ = uL (mA π) (mN π) a0 p ∧ J _ _ = uL (mB π) (mN π) b0 p
    by_cases e1 : p = mN π
    · subst e1
      rw [uL_s, uL_s, uL_s]
      refine ⟨?_, ?_, ?_⟩
      · rw [eJ, w_up_n (by omega), w_up_n (by omega), w_up_n (by omega), w_up_n (by omega), w_up_s]
      · rw [eJ, w_up_n (by omega), w_up_n (by omega), w_up_n (by omega), w_up_s]
      · rw [eJ, w_up_n (by omega), w_up_n (by omega), w_up_s]
    · rw [uL_n e1, uL_n e1, uL_n e1]
      have hp' : p < mN π + 1 := hp
      obtain ⟨a, b, c⟩ := g7 p (by omega)
      exact ⟨(o _ _ (by omega) (by omega) (by omega)).trans a, (o _ _ (by omega) (by omega) (by omega)).trans b, (o _ _ (by omega) (by omega) (by omega)).trans c⟩
  · unfold own at u1
    exact o _ _ (by omega) (by omega) (by omega)
theorem y_gd {I : w_Mm} {y i : Nat} {π : mS} {f t h0 c0 : Int} (h : yM I y i π) (h4 : mNG π < 6) {J : w_Mm} (eJ : J = w_up (w_up (w_up (w_up (w_up (w_up I (y + 11) (6 * i + mNG π) f) (y + 12) (6 * i + mNG π) t) (y + 13) (6 * i + mNG π) h0) (y + 14) (6 * i + mNG π) c0) (y + 10) i ((mNG π : Int) + 1)) (y + 15) i 0) : yM J y i (aGd π f t h0 c0) ∧ offO I J y i ∧ J (y + 15) i = 0 := by
  have o : ∀ a k, ¬ ((a = y + 11 ∨ a = y + 12 ∨ a = y + 13 ∨ a = y + 14) ∧ k = 6 * i + mNG π) → ¬ (a = y + 10 ∧ k = i) → ¬ (a = y + 15 ∧ k = i) → J a k = I a k := fun a k u1 u2 u3 => by rw [eJ, w_up_n u3, w_up_n u2, w_up_n (by omega), w_up_n (by omega), w_up_n (by omega), w_up_n (by omega)]
  obtain ⟨g1, g2, g3, g4, g5, g6, g7, g8, g9, g10⟩ := h
  refine ⟨⟨(o _ _ (by omega) (by omega) (by omega)).trans g1, (o _ _ (by omega) (by omega) (by omega)).trans g2, g3, fun k hk => (o _ _ (by omega) (by omega) (by omega)).trans (g4 k hk), (o _ _ (by omega) (by omega) (by omega)).trans g5, g6, fun p hp => ⟨(o _ _ (by omega) (by omega) (by omega)).trans (g7 p hp).1, (o _ _ (by omega) (by omega) (by omega)).trans (g7 p hp).2.1, (o _ _ (by omega) (by omega) (by omega)).trans (g7 p hp).2.2⟩, by rw [eJ, w_up_n (by omega), w_up_s]; rfl, h4, fun g hg => ?_⟩, fun a k u1 u2 => ?_, by rw [eJ, w_up_s]⟩
  · show J _ _ = uL (mGf π) (mNG π) f g ∧ J _ _ = uL (mGt π) (mNG π) t g ∧ J _ _ = uL (mGh π) (mNG π) h0 g ∧ J _ _ = uL (mGc π) (mNG π) c0 g
    by_cases e1 : g = mNG π
    · subst e1
      rw [uL_s, uL_s, uL_s, uL_s]
      refine ⟨?_, ?_, ?_, ?_⟩
      · rw [eJ, w_up_n (by omega), w_up_n (by omega), w_up_n (by omega), w_up_n (by omega), w_up_n (by omega), w_up_s]
      · rw [eJ, w_up_n (by omega), w_up_n (by omega), w_up_n (by omega), w_up_n (by omega), w_up_s]
      · rw [eJ, w_up_n (by omega), w_up_n (by omega), w_up_n (by omega), w_up_s]
      · rw [eJ, w_up_n (by omega), w_up_n (by omega), w_up_s]
    · rw [uL_n e1, uL_n e1, uL_n e1, uL_n e1]
      have hg' : g < mNG π + 1 := hg
      obtain ⟨a, b, c, d⟩ := g10 g (by omega)
      exact ⟨(o _ _ (by omega) (by omega) (by omega)).trans a, (o _ _ (by omega) (by omega) (by omega)).trans b, (o _ _ (by omega) (by omega) (by omega)).trans c, (o _ _ (by omega) (by omega) (by omega)).trans d⟩
  · unfold own at u1
    exact o _ _ (by omega) (by omega) (by omega)
/-- below and above the reference nothing changes -/
def offB (I J : w_Mm) (y : Nat) : Prop := ∀ a k, (a < y ∨ y + 29 ≤ a) → J a k = I a k
theorem offO.B {I J : w_Mm} {y i : Nat} (h : offO I J y i) : offB I J y := fun a k u => h a k (by unfold own; omega) (by unfold scr; omega)
