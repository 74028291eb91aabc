/-! ===== the reference: a place's pass ===== -/
/-- what a pass may change -/
def offC (I J : w_Mm) (y i : Nat) : Prop := ∀ a k, ¬ (a = y ∧ (k = 27 ∨ k = 28)) → ¬ (a = y + 19 ∧ k = i) → ¬ ((a = y + 20 ∨ a = y + 21 ∨ a = y + 22) ∧ 40 * i ≤ k ∧ k < 40 * i + 40) → ¬ (a = y + 23 ∧ 640 * i ≤ k ∧ k < 640 * i + 640) → a ≠ y + 24 → a ≠ y + 25 → a ≠ y + 26 → J a k = I a k
theorem offC.rf {I : w_Mm} {y i : Nat} : offC I I y i := fun _ _ _ _ _ _ _ _ _ => rfl
theorem offC.tr {I J K : w_Mm} {y i : Nat} (h : offC I J y i) (g : offC J K y i) : offC I K y i := fun a k u1 u2 u3 u4 u5 u6 u7 => (g a k u1 u2 u3 u4 u5 u6 u7).trans (h a k u1 u2 u3 u4 u5 u6 u7)
theorem offT.c {I J : w_Mm} {y i : Nat} (h : offT I J y) : offC I J y i := fun a k u1 _ _ _ u5 u6 _ => h a k u1 u5 u6
theorem offV.c {I J : w_Mm} {y i : Nat} (h : offV I J y i) : offC I J y i := fun a k u1 u2 u3 u4 _ _ u7 => h a k (by omega) u2 u3 u4 u7
theorem offV.rf {I : w_Mm} {y i : Nat} : offV I I y i := fun _ _ _ _ _ _ _ => rfl
theorem offV.tr {I J K : w_Mm} {y i : Nat} (h : offV I J y i) (g : offV J K y i) : offV I K y i := fun a k u1 u2 u3 u4 u5 => (g a k u1 u2 u3 u4 u5).trans (h a k u1 u2 u3 u4 u5)
theorem clsY.C {I J : w_Mm} {y i : Nat} {Q : cS} (h : clsY I y Q) (o : offC I J y i) : clsY J y Q := h.off (o _ _ (by omega) (by omega) (by omega) (by omega) (by omega) (by omega) (by omega)) (funext fun k => o _ _ (by omega) (by omega) (by omega) (by omega) (by omega) (by omega) (by omega)) (funext fun k => o _ _ (by omega) (by omega) (by omega) (by omega) (by omega) (by omega) (by omega))
theorem yM.C {I J : w_Mm} {y i : Nat} {π : mS} (h : yM I y i π) (o : offC I J y i) : yM J y i π := h.off (fun a k h1 h2 => o a k (by unfold own at h1; omega) (by omega) (by omega) (by omega) (by omega) (by omega) (by omega))
theorem yK.T {I J : w_Mm} {y i : Nat} {κ : kS} (h : yK I y i κ) (o : offT I J y) : yK J y i κ := h.off (fun a k h1 h2 => o a k (by omega) (by unfold own at h1; omega) (by unfold own at h1; omega))
theorem yfr.V {I J : w_Mm} {y i : Nat} {ψ : fS} (h : yfr I y ψ) (o : offV I J y i) : yfr J y ψ := by
  obtain ⟨h1, h2, h3, h4, h5⟩ := h
  exact ⟨(o _ _ (by omega) (by omega) (by omega) (by omega) (by omega)).trans h1, h2, h3, fun k hk => (o _ _ (by omega) (by omega) (by omega) (by omega) (by omega)).trans (h4 k hk), fun k hk => (o _ _ (by omega) (by omega) (by omega) (by omega) (by omega)).trans (h5 k hk)⟩
theorem offC.n {I J : w_Mm} {y i k : Nat} (o : offC I J y i) (hk : k = 29 ∨ k = 30) : J y k = I y k := o _ _ (by omega) (by omega) (by omega) (by omega) (by omega) (by omega) (by omega)
/-- a pass, or a part of it, ends as R says -/
def goP (I J : w_Mm) (y i : Nat) (R : Int × kS) (r : Int) : Prop := (r = 1 ∧ R.1 = 0 ∧ J y 28 = I y 28 ∧ yK J y i R.2) ∨ (r = 0 ∧ ¬ R.1 = 0 ∧ J y 28 = R.1 ∧ yK J y i R.2)
def xMt (Q : cS) (κ : kS) (t : Nat) (ψ : fS) : Int × kS := if (xMeet Q κ t ψ).1 = true then (0, (xMeet Q κ t ψ).2) else (8, (xMeet Q κ t ψ).2)
theorem meP.go {I J : w_Mm} {y i t : Nat} {Q : cS} {κ : kS} {ψ : fS} {r : Int} (h : meP I J y i Q κ t ψ r) : offV I J y i ∧ goP I J y i (xMt Q κ t ψ) r := by
  obtain ⟨h1, h2, h3⟩ := h
  refine ⟨h1, ?_⟩
  unfold goP xMt
  rcases h2 with ⟨e, u1, u2⟩ | ⟨e, u1, u2⟩
  · rw [if_pos u1]; exact Or.inl ⟨e, rfl, u2, h3⟩
  · rw [if_neg u1]; exact Or.inr ⟨e, (show ¬ (8 : Int) = 0 by decide), u2, h3⟩
theorem goP.brk {I K : w_Mm} {y i : Nat} {κ : kS} {n : Int} (hK : yK I y i κ) (ho : ∀ a k, ¬ (a = y) → a ≠ y + 24 → a ≠ y + 25 → K a k = I a k) (hn : ¬ n = 0) : goP I (w_up K y 28 n) y i (n, κ) 0 := Or.inr ⟨rfl, hn, w_up_s, hK.off (fun a k h1 h2 => by
  rw [w_up_n (by omega)]; exact ho a k (by omega) (by unfold own at h1; omega) (by unfold own at h1; omega))⟩
theorem offV_28 {I : w_Mm} {y i : Nat} {z : Int} : offV I (w_up I y 28 z) y i := fun a k u1 _ _ _ _ => w_up_n u1
def xJm (Q : cS) (π : mS) (κ : kS) (ψ : fS) (p : Nat) : Int × kS := if ¬ xJump π ψ p = 0 then (xJump π ψ p, κ) else xMt Q κ (mA π p).toNat ψ
theorem xNext_mt {Q : cS} {π : mS} {κ : kS} {ψ : fS} {p : Nat} : xNext Q π κ ψ p = if ¬ p + 1 < mN π then (5, κ) else xMt Q κ (p + 1) ψ := rfl
theorem xGo_11 {Q : cS} {π : mS} {κ : kS} {ψ : fS} {p : Nat} (h : mOp π p = 11) : xGo Q π κ ψ p = if (xJm Q π κ ψ p).1 = 0 then xNext Q π (xJm Q π κ ψ p).2 ψ p else xJm Q π κ ψ p := by
  unfold xGo xJm xMt
  rw [if_neg (by omega), if_pos (Or.inl h)]
  by_cases c : ¬ xJump π ψ p = 0
  · rw [if_pos c, if_pos c, if_neg c]
  · rw [if_neg c, if_neg c]
    by_cases d : (xMeet Q κ (mA π p).toNat ψ).1 = true
    · rw [if_pos d, if_pos d, if_neg (by omega), if_pos rfl]
    · rw [if_neg d, if_neg d, if_neg (show ¬ (8 : Int) = 0 by decide)]
theorem xGo_12 {Q : cS} {π : mS} {κ : kS} {ψ : fS} {p : Nat} (h : mOp π p = 12) : xGo Q π κ ψ p = xJm Q π κ ψ p := by
  unfold xGo xJm xMt
  rw [if_neg (by omega), if_pos (Or.inr h)]
  by_cases c : ¬ xJump π ψ p = 0
  · rw [if_pos c, if_pos c]
  · rw [if_neg c, if_neg c]
    by_cases d : (xMeet Q κ (mA π p).toNat ψ).1 = true
    · rw [if_pos d, if_pos d, if_pos h]
    · rw [if_neg d, if_neg d]
theorem xGo_22 {Q : cS} {π : mS} {κ : kS} {ψ : fS} {p : Nat} (h : mOp π p = 22 ∨ mOp π p = 23) : xGo Q π κ ψ p = (0, κ) := by
  unfold xGo; rw [if_pos h]
theorem xGo_on {Q : cS} {π : mS} {κ : kS} {ψ : fS} {p : Nat} (h : ¬ (mOp π p = 11 ∨ mOp π p = 12 ∨ mOp π p = 22 ∨ mOp π p = 23)) : xGo Q π κ ψ p = xNext Q π κ ψ p := by
  unfold xGo; rw [if_neg (by omega), if_neg (by omega)]
def xHd (Q : cS) (π : mS) (κ : kS) (ρ : fS) (p g : Nat) : Int × kS := if ¬ mGh π g < (mN π : Int) then (6, κ) else xMt Q κ (mGh π g).toNat (raisF (κ.1 p) ρ.2.2 (10 + mGc π g))
theorem hands_no {Q : cS} {π : mS} {p j g : Nat} {κ : kS} {ρ : fS} (h : ¬ (mGf π g ≤ (p : Int) ∧ (p : Int) < mGt π g)) : xHands Q π p (j + 1) g κ ρ = xHands Q π p j (g + 1) κ ρ := by
  rw [xHands]; rw [if_pos h]
theorem hands_ok {Q : cS} {π : mS} {p j g : Nat} {κ : kS} {ρ : fS} (h : mGf π g ≤ (p : Int) ∧ (p : Int) < mGt π g) (h0 : 0 ≤ mGh π g) (hz : (xHd Q π κ ρ p g).1 = 0) : xHands Q π p (j + 1) g κ ρ = xHands Q π p j (g + 1) (xHd Q π κ ρ p g).2 (raisF (κ.1 p) ρ.2.2 (10 + mGc π g)) := by
  unfold xHd xMt at hz ⊢
  rw [xHands, if_neg (fun q => q h)]
  by_cases c : ¬ mGh π g < (mN π : Int)
  · rw [if_pos c] at hz; exact absurd hz (show ¬ (6 : Int) = 0 by decide)
  · rw [if_neg c] at hz ⊢
    rw [if_neg (by omega)]
    by_cases d : (xMeet Q κ (mGh π g).toNat (raisF (κ.1 p) ρ.2.2 (10 + mGc π g))).1 = true
    · rw [if_pos d, if_pos d]
    · rw [if_neg d] at hz; exact absurd hz (show ¬ (8 : Int) = 0 by decide)
theorem hands_bad {Q : cS} {π : mS} {p j g : Nat} {κ : kS} {ρ : fS} (h : mGf π g ≤ (p : Int) ∧ (p : Int) < mGt π g) (h0 : 0 ≤ mGh π g) (hz : ¬ (xHd Q π κ ρ p g).1 = 0) : (xHands Q π p (j + 1) g κ ρ).1 = (xHd Q π κ ρ p g).1 ∧ (xHands Q π p (j + 1) g κ ρ).2.1 = (xHd Q π κ ρ p g).2 := by
  unfold xHd xMt at hz ⊢
  rw [xHands, if_neg (fun q => q h)]
  by_cases c : ¬ mGh π g < (mN π : Int)
  · rw [if_pos c, if_pos (by omega)]; exact ⟨rfl, rfl⟩
  · rw [if_neg c] at hz ⊢
    rw [if_neg (by omega)]
    by_cases d : (xMeet Q κ (mGh π g).toNat (raisF (κ.1 p) ρ.2.2 (10 + mGc π g))).1 = true
    · rw [if_pos d] at hz; exact absurd rfl hz
    · rw [if_neg d, if_neg d]; exact ⟨rfl, rfl⟩
def xBd (Q : cS) (π : mS) (p : Nat) (H : Int × kS × fS) : Int × kS := if ¬ H.1 = 0 then (H.1, H.2.1) else if ¬ (xPerf Q π (0, H.2.1.1 p) p).1 = 0 then ((xPerf Q π (0, H.2.1.1 p) p).1, H.2.1) else xGo Q π (xHi H.2.1 (xPerf Q π (0, H.2.1.1 p) p).2.1) (xPerf Q π (0, H.2.1.1 p) p).2 p
theorem xPass_bd {Q : cS} {π : mS} {κ : kS} {ρ : fS} {p : Nat} : (xPass Q π κ ρ p).1 = (xBd Q π p (xHands Q π p (mNG π) 0 (xP0 κ p) ρ)).1 ∧ (xPass Q π κ ρ p).2.1 = (xBd Q π p (xHands Q π p (mNG π) 0 (xP0 κ p) ρ)).2 := by
  unfold xPass xBd
  split
  · exact ⟨rfl, rfl⟩
  · split
    · exact ⟨rfl, rfl⟩
    · exact ⟨rfl, rfl⟩
theorem yK.hi {I : w_Mm} {y i : Nat} {κ : kS} {d : Int} (h : yK I y i κ) : yK (w_up I (y + 19) i (if I (y + 19) i < d then d else I (y + 19) i)) y i (xHi κ d) := by
  obtain ⟨h1, h2, h3, h4⟩ := h
  refine ⟨fun j hj => (h1 j hj).off (w_up_n (by omega)) (w_up_n (by omega)) (fun k hk => w_up_n (by omega)), fun j hj => ⟨(w_up_n (by omega)).trans (h2 j hj).1, (h2 j hj).2⟩, (w_up_n (by omega)).trans h3, ?_⟩
  rw [w_up_s, h4]; rfl
theorem offC_19 {I : w_Mm} {y i : Nat} {z : Int} : offC I (w_up I (y + 19) i z) y i := fun a k _ u2 _ _ _ _ _ => w_up_n u2
/-- the frame that a handler gets -/
def rsP (I J : w_Mm) (y : Nat) (φ : fS) (j : Nat) : Prop := (∀ k, k < j → J (y + 24) k = if 100 ≤ φ.2.1 k then 0 else φ.2.1 k) ∧ (∀ k, j ≤ k → k < 8 → J (y + 24) k = φ.2.1 k) ∧ ∀ a k, a ≠ y + 24 → J a k = I a k
theorem rsP.s {I J : w_Mm} {y j : Nat} {φ : fS} {z : Int} (h : rsP I J y φ j) (hz : z = if 100 ≤ φ.2.1 j then 0 else φ.2.1 j) : rsP I (w_up J (y + 24) j z) y φ (j + 1) := by
  obtain ⟨h1, h2, h3⟩ := h
  refine ⟨fun k hk => ?_, fun k hk hk8 => by rw [w_up_n (by omega)]; exact h2 k (by omega) hk8, fun a k ha => by rw [w_up_n (by omega)]; exact h3 a k ha⟩
  by_cases e : k = j
  · subst e; rw [w_up_s]; exact hz
  · rw [w_up_n (by omega)]; exact h1 k (by omega)
theorem rsP.e {I J : w_Mm} {y : Nat} {φ : fS} {kd : Int} {P : Nat → Int} (h : rsP I J y φ 8) : yfr (w_up (w_up J y 27 1) (y + 25) 0 kd) y (raisF φ P kd) ∧ offT I (w_up (w_up J y 27 1) (y + 25) 0 kd) y ∧ w_up (w_up J y 27 1) (y + 25) 0 kd y 28 = I y 28 := by
  obtain ⟨h1, h2, h3⟩ := h
  refine ⟨⟨by rw [w_up_n (by omega), w_up_s]; rfl, (show (0 : Int) ≤ 1 by decide), (show (1 : Int) ≤ 8 by decide), fun k hk => by rw [w_up_n (by omega), w_up_n (by omega), h1 k hk]; rfl, fun k hk => ?_⟩, fun a k u1 u2 u3 => by rw [w_up_n (by omega), w_up_n (by omega)]; exact h3 a k u2, by rw [w_up_n (by omega), w_up_n (by omega)]; exact h3 _ _ (by omega)⟩
  have hk' : (k : Int) < 1 := hk
  obtain rfl : k = 0 := by omega
  rw [w_up_s]
  exact (uL_s (L := P) (p := 0)).symm
/-- has any place an unmade thing -/
def huP (φ : fS) (j : Nat) (b : Int) : Prop := (b = 1 ∧ ∃ k, k < j ∧ (100 ≤ φ.2.1 k ∨ ((k : Int) < φ.1 ∧ 100 ≤ φ.2.2 k))) ∨ (b = 0 ∧ ∀ k, k < j → ¬ 100 ≤ φ.2.1 k ∧ ¬ ((k : Int) < φ.1 ∧ 100 ≤ φ.2.2 k))
theorem huP.one {φ : fS} {j : Nat} {b : Int} (h : huP φ j b) (hb : ¬ b = 0 ∨ 100 ≤ φ.2.1 j ∨ ((j : Int) < φ.1 ∧ 100 ≤ φ.2.2 j)) : huP φ (j + 1) 1 := by
  refine Or.inl ⟨rfl, ?_⟩
  rcases hb with hb | hb
  · rcases h with ⟨_, k, h1, h2⟩ | ⟨h1, _⟩
    · exact ⟨k, by omega, h2⟩
    · exact absurd h1 hb
  · exact ⟨j, by omega, hb⟩
theorem huP.non {φ : fS} {j : Nat} {b : Int} (h : huP φ j b) (hb : b = 0) (h1 : ¬ 100 ≤ φ.2.1 j) (h2 : ¬ ((j : Int) < φ.1 ∧ 100 ≤ φ.2.2 j)) : huP φ (j + 1) 0 := by
  refine Or.inr ⟨rfl, fun k hk => ?_⟩
  rcases h with ⟨u, _⟩ | ⟨_, h3⟩
  · omega
  · by_cases e : k = j
    · subst e; exact ⟨h1, h2⟩
    · exact h3 k (by omega)
theorem huP.e {φ : fS} {b : Int} (h : huP φ 8 b) (h8 : φ.1 ≤ 8) : (b = 1 ∧ hasUB φ = true) ∨ (b = 0 ∧ ¬ hasUB φ = true) := by
  rw [hasUB_iff]
  rcases h with ⟨e, k, h1, h2 | h2⟩ | ⟨e, h1⟩
  · exact Or.inl ⟨e, Or.inl ⟨k, h1, h2⟩⟩
  · exact Or.inl ⟨e, Or.inr ⟨k, h2.1, h2.2⟩⟩
  · refine Or.inr ⟨e, ?_⟩
    rintro (⟨k, u1, u2⟩ | ⟨k, u1, u2⟩)
    · exact (h1 k u1).1 u2
    · exact (h1 k (by omega)).2 ⟨u1, u2⟩
theorem goP.pre {I K J : w_Mm} {y i : Nat} {R : Int × kS} {r : Int} (h : goP K J y i R r) (e : K y 28 = I y 28) : goP I J y i R r := by
  rcases h with ⟨h1, h2, h3, h4⟩ | h
  · exact Or.inl ⟨h1, h2, h3.trans e, h4⟩
  · exact Or.inr h
theorem goP.r {I J : w_Mm} {y i : Nat} {R : Int × kS} {r : Int} (h : goP I J y i R r) : r = 0 ∨ r = 1 := by
  rcases h with h | h
  · exact Or.inr h.1
  · exact Or.inl h.1
theorem least_mN {wt : Nat → Int} {n : Nat} (hn : n ≤ 40) (h : ∀ j, j < 40 → ¬ wt j = 0 → j < n) : leastW wt 40 0 = leastW wt n 0 := by
  rcases leastW_spec wt 40 0 with ⟨e, hz⟩ | ⟨p, _, hp, e, hw, hb⟩
  · rcases leastW_spec wt n 0 with ⟨e2, _⟩ | ⟨q, _, hq, _, hw2, _⟩
    · rw [e, e2]
    · exact absurd (hz q (by omega) (by omega)) hw2
  · have hpn := h p (by omega) hw
    rcases leastW_spec wt n 0 with ⟨_, hz⟩ | ⟨q, _, hq, e2, hw2, hb2⟩
    · exact absurd (hz p (by omega) (by omega)) hw
    · rw [e, e2]
      by_cases c : p < q
      · exact absurd (hb2 p (by omega) c) hw
      · by_cases c2 : q < p
        · exact absurd (hb q (by omega) c2) hw2
        · have : p = q := by omega
          rw [this]
theorem leastW_s {wt : Nat → Int} {m j : Nat} : leastW wt (m + 1) j = if wt j = 0 then leastW wt m (j + 1) else (j : Int) := rfl
theorem offV_19 {I : w_Mm} {y i : Nat} {z : Int} : offV I (w_up I (y + 19) i z) y i := fun a k _ u2 _ _ _ => w_up_n u2
theorem bd_bad {Q : cS} {π : mS} {p : Nat} {H : Int × kS × fS} {R : Int × kS} (h : H.1 = R.1 ∧ H.2.1 = R.2) (hz : ¬ R.1 = 0) : xBd Q π p H = R := by
  unfold xBd
  rw [if_pos (by rw [h.1]; exact hz), h.1, h.2]
theorem xMt_2 {Q : cS} {κ : kS} {t : Nat} {ψ : fS} : (xMt Q κ t ψ).2 = (xMeet Q κ t ψ).2 := by
  unfold xMt; split <;> rfl
theorem rI.hd {Q : cS} {π : mS} {κ : kS} {ρ : fS} {p g : Nat} (hQ : 2 ≤ Q.1 ∧ Q.1 ≤ 16) (hgd : gdOK Q π) (hg : g < mNG π) (hp : p < 40) (h : rI Q π κ) (h0 : 0 ≤ (κ.1 p).1) : rI Q π (xHd Q π κ ρ p g).2 ∧ 0 ≤ ((xHd Q π κ ρ p g).2.1 p).1 := by
  unfold xHd
  split
  · exact ⟨h, h0⟩
  · rw [xMt_2]
    have hg3 := hgd g hg
    have hk := gd_10 hgd (g := g) hg
    exact ⟨h.meet hQ (by omega) ((h p hp h0).1.rais (knK_t hg3.2.2 hQ.2) hk.1 hk.2) (show (1 : Int) ≤ 8 by decide), xMeet_there (show (0 : Int) ≤ 1 by decide) p h0⟩
theorem rI.jm {Q : cS} {π : mS} {κ : kS} {ψ : fS} {p : Nat} (hQ : 2 ≤ Q.1 ∧ Q.1 ≤ 16) (hN : mN π ≤ 40) (h : rI Q π κ) (hψ : okF Q (mN π) ψ) (h8 : ψ.1 ≤ 8) : rI Q π (xJm Q π κ ψ p).2 := by
  unfold xJm
  split
  · exact h
  · rename_i hj
    rw [xMt_2]
    refine h.meet hQ ?_ hψ h8
    unfold xJump at hj
    by_cases c : ¬ (0 ≤ mA π p ∧ mA π p < (mN π : Int))
    · rw [if_pos c] at hj; exact absurd (show ¬ (6 : Int) = 0 by decide) hj
    · omega
theorem tX9_hasUnmade {E : w_E} {G : w_Sh} {I : w_Mm} {y : Nat} {φ : fS} (hY : isY G y) (hfr : yfr I y φ) : w_Cb E mX9_hasUnmade 0 [.ref y] G I (hasUB φ = true) := by
  obtain ⟨hTy, hYr⟩ := hY
  obtain ⟨hf27, hfh0, hfh8, hfL, hfP⟩ := hfr
  refine w_Ct.of (ls := [some (.ref y), none, none]) (by decide +kernel) (Nat.le_of_ble_eq_true rfl) rfl rfl (fun rng => ?_)
  refine v_iconst dX9_hasUnmade_0 ?_
  refine v_istore_n dX9_hasUnmade_1 (by decide) rfl ?_
  refine v_iconst dX9_hasUnmade_2 ?_
  refine v_istore_n dX9_hasUnmade_3 (by decide) rfl ?_
  have loop : ∀ (m j : Nat) (b : Int), j + m = 8 → huP φ j b → w_V E mX9_hasUnmade (w_rm 0 0 0) (w_Z E 0 0 (w_Pi (fun r G' I' => G' = G ∧ I' = I ∧ ((r = 1 ∧ (hasUB φ = true)) ∨ (r = 0 ∧ ¬ (hasUB φ = true)))))) G I 0 0 4 [some (.ref y), some (iv b), some (iv (j : Int))] [] := by
    intro m
    induction m with
    | zero =>
      intro j b hj hl
      obtain rfl : j = 8 := by omega
      rcases hl.e hfh8 with ⟨rfl, q⟩ | ⟨rfl, q⟩
      · refine v_iload_n dX9_hasUnmade_4 rfl ?_
        refine v_bipush dX9_hasUnmade_5 (by decide) ?_
        refine v_icmp_ge ⟨by omega, by omega⟩ ⟨by decide, by decide⟩ dX9_hasUnmade_7 (fun hb7 => ?_) (fun h => by exfalso; omega)
        refine v_iload_n dX9_hasUnmade_56 rfl ?_
        exact v_zret rfl (by decide) (by decide) (Or.inr rfl) dX9_hasUnmade_57 ⟨rfl, rfl, Or.inl ⟨rfl, q⟩⟩
      · refine v_iload_n dX9_hasUnmade_4 rfl ?_
        refine v_bipush dX9_hasUnmade_5 (by decide) ?_
        refine v_icmp_ge ⟨by omega, by omega⟩ ⟨by decide, by decide⟩ dX9_hasUnmade_7 (fun hb7 => ?_) (fun h => by exfalso; omega)
        refine v_iload_n dX9_hasUnmade_56 rfl ?_
        exact v_zret rfl (by decide) (by decide) (Or.inl rfl) dX9_hasUnmade_57 ⟨rfl, rfl, Or.inr ⟨rfl, q⟩⟩
    | succ m ih =>
      intro j b hj hl
      have hb01 : b = 1 ∨ b = 0 := by rcases hl with q | q; exact Or.inl q.1; exact Or.inr q.1
      refine v_iload_n dX9_hasUnmade_4 rfl ?_
      refine v_bipush dX9_hasUnmade_5 (by decide) ?_
      refine v_icmp_ge ⟨by omega, by omega⟩ ⟨by decide, by decide⟩ dX9_hasUnmade_7 (fun h => by exfalso; omega) (fun hb7 => ?_)
      refine v_iload_n dX9_hasUnmade_10 rfl ?_
      refine v_if_ne ⟨by omega, by omega⟩ dX9_hasUnmade_11 (fun h1 => ?_) (fun h1 => ?_)
      · refine v_iconst dX9_hasUnmade_44 ?_
        refine v_goto dX9_hasUnmade_45 ?_
        refine v_istore_n dX9_hasUnmade_49 (by decide) rfl ?_
        refine v_iinc dX9_hasUnmade_50 rfl (by decide) rfl rfl ?_
        refine v_goto dX9_hasUnmade_53 ?_
        exact ih (j + 1) 1 (by omega) (hl.one (Or.inl h1))
      · refine v_aload_n dX9_hasUnmade_14 rfl ?_
        refine v_getR fX9_84 rfl hTy (hYr 23 _ rfl).2 dX9_hasUnmade_15 ?_
        refine v_iload_n dX9_hasUnmade_18 rfl ?_
        refine v_iald' (i := j) (v := φ.2.1 j) (hfL j (by omega)) (show G.1 (y + 24) = (10, 8) from (hYr 23 _ rfl).1) rfl (by omega) (by omega) dX9_hasUnmade_19 ?_
        refine v_bipush dX9_hasUnmade_20 (by decide) ?_
        refine v_icmp_ge (by rw [← hfL j (by omega)]; exact rng _ _) ⟨by decide, by decide⟩ dX9_hasUnmade_22 (fun h2 => ?_) (fun h2 => ?_)
        · refine v_iconst dX9_hasUnmade_44 ?_
          refine v_goto dX9_hasUnmade_45 ?_
          refine v_istore_n dX9_hasUnmade_49 (by decide) rfl ?_
          refine v_iinc dX9_hasUnmade_50 rfl (by decide) rfl rfl ?_
          refine v_goto dX9_hasUnmade_53 ?_
          exact ih (j + 1) 1 (by omega) (hl.one (Or.inr (Or.inl (by omega))))
        · refine v_iload_n dX9_hasUnmade_25 rfl ?_
          refine v_aload_n dX9_hasUnmade_26 rfl ?_
          refine v_getI' (v := φ.1) hf27 fX9_148 rfl hTy dX9_hasUnmade_27 ?_
          refine v_icmp_ge ⟨by omega, by omega⟩ ⟨by omega, by omega⟩ dX9_hasUnmade_30 (fun h3 => ?_) (fun h3 => ?_)
          · refine v_iconst dX9_hasUnmade_48 ?_
            refine v_istore_n dX9_hasUnmade_49 (by decide) rfl ?_
            refine v_iinc dX9_hasUnmade_50 rfl (by decide) rfl rfl ?_
            refine v_goto dX9_hasUnmade_53 ?_
            exact ih (j + 1) 0 (by omega) (hl.non (by omega) (by omega) (by omega))
          · refine v_aload_n dX9_hasUnmade_33 rfl ?_
            refine v_getR fX9_87 rfl hTy (hYr 24 _ rfl).2 dX9_hasUnmade_34 ?_
            refine v_iload_n dX9_hasUnmade_37 rfl ?_
            refine v_iald' (i := j) (v := φ.2.2 j) (hfP j (by omega)) (show G.1 (y + 25) = (10, 8) from (hYr 24 _ rfl).1) rfl (by omega) (by omega) dX9_hasUnmade_38 ?_
            refine v_bipush dX9_hasUnmade_39 (by decide) ?_
            refine v_icmp_lt (by rw [← hfP j (by omega)]; exact rng _ _) ⟨by decide, by decide⟩ dX9_hasUnmade_41 (fun h4 => ?_) (fun h4 => ?_)
            · refine v_iconst dX9_hasUnmade_48 ?_
              refine v_istore_n dX9_hasUnmade_49 (by decide) rfl ?_
              refine v_iinc dX9_hasUnmade_50 rfl (by decide) rfl rfl ?_
              refine v_goto dX9_hasUnmade_53 ?_
              exact ih (j + 1) 0 (by omega) (hl.non (by omega) (by omega) (by omega))
            · refine v_iconst dX9_hasUnmade_44 ?_
              refine v_goto dX9_hasUnmade_45 ?_
              refine v_istore_n dX9_hasUnmade_49 (by decide) rfl ?_
              refine v_iinc dX9_hasUnmade_50 rfl (by decide) rfl rfl ?_
              refine v_goto dX9_hasUnmade_53 ?_
              exact ih (j + 1) 1 (by omega) (hl.one (Or.inr (Or.inr ⟨by omega, by omega⟩)))
  exact loop 8 0 0 rfl (Or.inr ⟨rfl, fun k hk => absurd hk (by omega)⟩)
theorem tX9_goesOn {E : w_E} {G : w_Sh} {I : w_Mm} {y i : Nat} (hY : isY G y) (hi : i < 6) (hnow : I y 29 = (i : Int)) {Q : cS} {κ : kS} {π : mS} {p : Nat} (hQ : clsY I y Q) (hK : yK I y i κ) (hM : yM I y i π) (hat : I y 30 = (p : Int)) (hp : p < 40) (hR : rI Q π κ) {ψ : fS} (hfr : yfr I y ψ) (hψ : okF Q (mN π) ψ) : w_Ct E mX9_goesOn 4 [.ref y] G I 0 0 (w_Pi (fun r G' J => G' = G ∧ offV I J y i ∧ goP I J y i (xNext Q π κ ψ p) r)) := by
  obtain ⟨hTy, hYr⟩ := hY
  have hQ0 := hQ
  have hM0 := hM
  obtain ⟨hm3, hm4, hm4b, hm5, hm6, hm6b, hm7, hm10, hm10b, hm11⟩ := hM
  refine w_Ct.of (ls := [some (.ref y)]) (by decide +kernel) (Nat.le_of_ble_eq_true rfl) rfl rfl (fun rng => ?_)
  refine v_aload_n dX9_goesOn_0 rfl ?_
  refine v_getI' (v := ((p : Nat) : Int)) hat fX9_184 rfl hTy dX9_goesOn_1 ?_
  refine v_iconst dX9_goesOn_4 ?_
  refine v_iadd dX9_goesOn_5 ?_
  refine v_aload_n dX9_goesOn_6 rfl ?_
  refine v_getR fX9_30 rfl hTy (hYr 5 _ rfl).2 dX9_goesOn_7 ?_
  refine v_aload_n dX9_goesOn_10 rfl ?_
  refine v_getI' (v := ((i : Nat) : Int)) hnow fX9_181 rfl hTy dX9_goesOn_11 ?_
  refine v_iald' (i := i) (v := ((mN π : Nat) : Int)) hm6 (show G.1 (y + 6) = (10, 6) from (hYr 5 _ rfl).1) rfl (by omega) (by omega) dX9_goesOn_14 ?_
  refine v_icmp_ge ⟨by omega, by omega⟩ ⟨by omega, by omega⟩ dX9_goesOn_15 (fun h1 => ?_) (fun h1 => ?_)
  · refine v_aload_n dX9_goesOn_31 rfl ?_
    refine v_iconst dX9_goesOn_32 ?_
    refine v_VmN (tX9_breaks (⟨hTy, hYr⟩ : isY G y) ⟨by decide, by decide⟩) kX9_151 hTy rfl rfl ⟨by decide, by decide⟩ ⟨by decide, by decide⟩ (Nat.le_of_ble_eq_true rfl) dX9_goesOn_33 (fun r2 er2 hr2 rng3 => ?_)
    subst er2
    rw [show xNext Q π κ ψ p = (5, κ) from xNext_mt.trans (if_pos (by omega))]
    exact v_zret rfl (by decide) (by decide) (Or.inl rfl) dX9_goesOn_36 ⟨rfl, offV_28, goP.brk hK (fun _ _ _ _ _ => rfl) (by decide)⟩
  · refine v_aload_n dX9_goesOn_18 rfl ?_
    refine v_aload_n dX9_goesOn_19 rfl ?_
    refine v_getI' (v := ((p : Nat) : Int)) hat fX9_184 rfl hTy dX9_goesOn_20 ?_
    refine v_iconst dX9_goesOn_23 ?_
    refine v_iadd dX9_goesOn_24 ?_
    rw [show ((p : Nat) : Int) + 1 = ((p + 1 : Nat) : Int) from rfl]
    refine v_Vi (tX9_meets (⟨hTy, hYr⟩ : isY G y) hi hnow (N := mN π) hQ0 hK (by omega) hm6b hfr hψ (fun u => (hR (p + 1) (by omega) u).1)) kX9_210 hTy rfl rfl ⟨by decide, by decide⟩ ⟨by decide, by decide⟩ (Nat.le_of_ble_eq_true rfl) dX9_goesOn_25 (fun r6 G9 J4 hr6 pJ4 rng5 => ?_)
    obtain ⟨hG9, mJ4⟩ := pJ4
    obtain rfl := hG9.symm
    refine v_goto dX9_goesOn_28 ?_
    obtain ⟨vJ4, gJ4⟩ := mJ4.go
    rw [show xNext Q π κ ψ p = xMt Q κ (p + 1) ψ from xNext_mt.trans (if_neg (by omega))]
    exact v_zret rfl (by decide) (by decide) gJ4.r dX9_goesOn_36 ⟨rfl, vJ4, gJ4⟩
theorem tX9_jumps {E : w_E} {G : w_Sh} {I : w_Mm} {y i : Nat} (hY : isY G y) (hi : i < 6) (hnow : I y 29 = (i : Int)) {Q : cS} {κ : kS} {π : mS} {p : Nat} (hQ : clsY I y Q) (hK : yK I y i κ) (hM : yM I y i π) (hat : I y 30 = (p : Int)) (hp : p < 40) (hR : rI Q π κ) {ψ : fS} (hfr : yfr I y ψ) (hψ : okF Q (mN π) ψ) (ha0 : 0 ≤ mA π p) (har : inR (mA π p)) : w_Ct E mX9_jumps 4 [.ref y, iv (mA π p)] G I 0 0 (w_Pi (fun r G' J => G' = G ∧ offV I J y i ∧ goP I J y i (xJm Q π κ ψ p) r)) := by
  obtain ⟨hTy, hYr⟩ := hY
  have hQ0 := hQ
  have hM0 := hM
  obtain ⟨hm3, hm4, hm4b, hm5, hm6, hm6b, hm7, hm10, hm10b, hm11⟩ := hM
  obtain ⟨t, ht⟩ := Int.eq_ofNat_of_zero_le ha0
  refine w_Ct.of (ls := [some (.ref y), some (iv (mA π p))]) (by decide +kernel) (Nat.le_of_ble_eq_true rfl) rfl rfl (fun rng => ?_)
  refine v_iload_n dX9_jumps_0 rfl ?_
  refine v_aload_n dX9_jumps_1 rfl ?_
  refine v_getR fX9_30 rfl hTy (hYr 5 _ rfl).2 dX9_jumps_2 ?_
  refine v_aload_n dX9_jumps_5 rfl ?_
  refine v_getI' (v := ((i : Nat) : Int)) hnow fX9_181 rfl hTy dX9_jumps_6 ?_
  refine v_iald' (i := i) (v := ((mN π : Nat) : Int)) hm6 (show G.1 (y + 6) = (10, 6) from (hYr 5 _ rfl).1) rfl (by omega) (by omega) dX9_jumps_9 ?_
  refine v_icmp_lt har ⟨by omega, by omega⟩ dX9_jumps_10 (fun h1 => ?_) (fun h1 => ?_)
  · refine v_iload_n dX9_jumps_20 rfl ?_
    refine v_aload_n dX9_jumps_21 rfl ?_
    refine v_getI' (v := ((p : Nat) : Int)) hat fX9_184 rfl hTy dX9_jumps_22 ?_
    refine v_icmp_gt har ⟨by omega, by omega⟩ dX9_jumps_25 (fun h2 => ?_) (fun h2 => ?_)
    · refine v_aload_n dX9_jumps_42 rfl ?_
      refine v_iload_n dX9_jumps_43 rfl ?_
      have eJ : xJm Q π κ ψ p = xMt Q κ t ψ := by have e : xJump π ψ p = 0 := (if_neg (by omega)).trans (if_neg (fun q => absurd q.1 (by omega))); unfold xJm; rw [e, if_neg (fun q => q rfl), ht]; rfl
      rw [ht]
      refine v_Vi (tX9_meets (⟨hTy, hYr⟩ : isY G y) hi hnow (N := mN π) (p := t) hQ0 hK (by omega) hm6b hfr hψ (fun u => (hR t (by omega) u).1)) kX9_210 hTy rfl rfl ⟨by decide, by decide⟩ ⟨by decide, by decide⟩ (Nat.le_of_ble_eq_true rfl) dX9_jumps_44 (fun r5 G9 J3 hr5 pJ3 rng4 => ?_)
      obtain ⟨hG9, mJ3⟩ := pJ3
      obtain rfl := hG9.symm
      obtain ⟨vJ3, gJ3⟩ := mJ3.go
      rw [eJ]
      exact v_zret rfl (by decide) (by decide) gJ3.r dX9_jumps_47 ⟨rfl, vJ3, gJ3⟩
    · refine v_aload_n dX9_jumps_28 rfl ?_
      refine v_Vb (tX9_hasUnmade (⟨hTy, hYr⟩ : isY G y) hfr) kX9_213 hTy rfl rfl ⟨by decide, by decide⟩ ⟨by decide, by decide⟩ (Nat.le_of_ble_eq_true rfl) dX9_jumps_29 (fun h6 => ?_) (fun h6 => ?_)
      · refine v_if_eq ⟨by decide, by decide⟩ dX9_jumps_32 (fun h => by exfalso; omega) (fun hb32 => ?_)
        refine v_aload_n dX9_jumps_35 rfl ?_
        refine v_bipush dX9_jumps_36 (by decide) ?_
        refine v_VmN (tX9_breaks (⟨hTy, hYr⟩ : isY G y) ⟨by decide, by decide⟩) kX9_151 hTy rfl rfl ⟨by decide, by decide⟩ ⟨by decide, by decide⟩ (Nat.le_of_ble_eq_true rfl) dX9_jumps_38 (fun r7 er7 hr7 rng8 => ?_)
        subst er7
        rw [show xJm Q π κ ψ p = (7, κ) from by have e : xJump π ψ p = 7 := (if_neg (by omega)).trans (if_pos ⟨by omega, h6⟩); unfold xJm; rw [e, if_pos (by decide)]]
        exact v_zret rfl (by decide) (by decide) (Or.inl rfl) dX9_jumps_41 ⟨rfl, offV_28, goP.brk hK (fun _ _ _ _ _ => rfl) (by decide)⟩
      · refine v_if_eq ⟨by decide, by decide⟩ dX9_jumps_32 (fun hb32 => ?_) (fun h => by exfalso; omega)
        refine v_aload_n dX9_jumps_42 rfl ?_
        refine v_iload_n dX9_jumps_43 rfl ?_
        have eJ : xJm Q π κ ψ p = xMt Q κ t ψ := by have e : xJump π ψ p = 0 := (if_neg (by omega)).trans (if_neg (fun q => h6 q.2)); unfold xJm; rw [e, if_neg (fun q => q rfl), ht]; rfl
        rw [ht]
        refine v_Vi (tX9_meets (⟨hTy, hYr⟩ : isY G y) hi hnow (N := mN π) (p := t) hQ0 hK (by omega) hm6b hfr hψ (fun u => (hR t (by omega) u).1)) kX9_210 hTy rfl rfl ⟨by decide, by decide⟩ ⟨by decide, by decide⟩ (Nat.le_of_ble_eq_true rfl) dX9_jumps_44 (fun r11 G9 J9 hr11 pJ9 rng10 => ?_)
        obtain ⟨hG9, mJ9⟩ := pJ9
        obtain rfl := hG9.symm
        obtain ⟨vJ9, gJ9⟩ := mJ9.go
        rw [eJ]
        exact v_zret rfl (by decide) (by decide) gJ9.r dX9_jumps_47 ⟨rfl, vJ9, gJ9⟩
  · refine v_aload_n dX9_jumps_13 rfl ?_
    refine v_bipush dX9_jumps_14 (by decide) ?_
    refine v_VmN (tX9_breaks (⟨hTy, hYr⟩ : isY G y) ⟨by decide, by decide⟩) kX9_151 hTy rfl rfl ⟨by decide, by decide⟩ ⟨by decide, by decide⟩ (Nat.le_of_ble_eq_true rfl) dX9_jumps_16 (fun r12 er12 hr12 rng13 => ?_)
    subst er12
    rw [show xJm Q π κ ψ p = (6, κ) from by have e : xJump π ψ p = 6 := if_pos (by omega); unfold xJm; rw [e, if_pos (by decide)]]
    exact v_zret rfl (by decide) (by decide) (Or.inl rfl) dX9_jumps_19 ⟨rfl, offV_28, goP.brk hK (fun _ _ _ _ _ => rfl) (by decide)⟩
theorem tX9_leastLooked {E : w_E} {G : w_Sh} {I : w_Mm} {y i : Nat} (hY : isY G y) (hi : i < 6) (hnow : I y 29 = (i : Int)) {n : Nat} {wt : Nat → Int} (hn : I (y + 6) i = (n : Int)) (hn40 : n ≤ 40) (hw : ∀ j, j < 40 → I (y + 21) (40 * i + j) = wt j) (hwn : ∀ j, j < 40 → ¬ wt j = 0 → j < n) : w_Ct E mX9_leastLooked 0 [.ref y] G I 0 0 (w_Pi (fun r G' I' => r = (leastW wt 40 0) ∧ G' = G ∧ I' = I)) := by
  obtain ⟨hTy, hYr⟩ := hY
  refine w_Ct.of (ls := [some (.ref y), none]) (by decide +kernel) (Nat.le_of_ble_eq_true rfl) rfl rfl (fun rng => ?_)
  refine v_iconst dX9_leastLooked_0 ?_
  refine v_istore_n dX9_leastLooked_1 (by decide) rfl ?_
  rw [least_mN hn40 hwn]
  have loop : ∀ (m j : Nat) (z : Int), j + m = n → z = leastW wt m j → w_V E mX9_leastLooked (w_rm 0 0 0) (w_Z E 0 0 (w_Pi (fun r G' I' => r = (z) ∧ G' = G ∧ I' = I))) G I 0 0 2 [some (.ref y), some (iv (j : Int))] [] := by
    intro m
    induction m with
    | zero =>
      intro j z hj hz
      refine v_iload_n dX9_leastLooked_2 rfl ?_
      refine v_aload_n dX9_leastLooked_3 rfl ?_
      refine v_getR fX9_30 rfl hTy (hYr 5 _ rfl).2 dX9_leastLooked_4 ?_
      refine v_aload_n dX9_leastLooked_7 rfl ?_
      refine v_getI' (v := ((i : Nat) : Int)) hnow fX9_181 rfl hTy dX9_leastLooked_8 ?_
      refine v_iald' (i := i) (v := ((n : Nat) : Int)) hn (show G.1 (y + 6) = (10, 6) from (hYr 5 _ rfl).1) rfl (by omega) (by omega) dX9_leastLooked_11 ?_
      refine v_icmp_ge ⟨by omega, by omega⟩ ⟨by omega, by omega⟩ dX9_leastLooked_12 (fun hb12 => ?_) (fun h => by exfalso; omega)
      refine v_iload_n dX9_leastLooked_38 rfl ?_
      refine v_aload_n dX9_leastLooked_39 rfl ?_
      refine v_getR fX9_30 rfl hTy (hYr 5 _ rfl).2 dX9_leastLooked_40 ?_
      refine v_aload_n dX9_leastLooked_43 rfl ?_
      refine v_getI' (v := ((i : Nat) : Int)) hnow fX9_181 rfl hTy dX9_leastLooked_44 ?_
      refine v_iald' (i := i) (v := ((n : Nat) : Int)) hn (show G.1 (y + 6) = (10, 6) from (hYr 5 _ rfl).1) rfl (by omega) (by omega) dX9_leastLooked_47 ?_
      refine v_icmp_ge ⟨by omega, by omega⟩ ⟨by omega, by omega⟩ dX9_leastLooked_48 (fun hb48 => ?_) (fun h => by exfalso; omega)
      refine v_iconst dX9_leastLooked_55 ?_
      exact v_iret rfl (by decide) (by decide) ⟨by decide, by decide⟩ dX9_leastLooked_56 ⟨hz.symm, rfl, rfl⟩
    | succ m ih =>
      intro j z hj hz
      rw [leastW_s] at hz
      refine v_iload_n dX9_leastLooked_2 rfl ?_
      refine v_aload_n dX9_leastLooked_3 rfl ?_
      refine v_getR fX9_30 rfl hTy (hYr 5 _ rfl).2 dX9_leastLooked_4 ?_
      refine v_aload_n dX9_leastLooked_7 rfl ?_
      refine v_getI' (v := ((i : Nat) : Int)) hnow fX9_181 rfl hTy dX9_leastLooked_8 ?_
      refine v_iald' (i := i) (v := ((n : Nat) : Int)) hn (show G.1 (y + 6) = (10, 6) from (hYr 5 _ rfl).1) rfl (by omega) (by omega) dX9_leastLooked_11 ?_
      refine v_icmp_ge ⟨by omega, by omega⟩ ⟨by omega, by omega⟩ dX9_leastLooked_12 (fun h => by exfalso; omega) (fun hb12 => ?_)
      refine v_aload_n dX9_leastLooked_15 rfl ?_
      refine v_getR fX9_75 rfl hTy (hYr 20 _ rfl).2 dX9_leastLooked_16 ?_
      refine v_bipush dX9_leastLooked_19 (by decide) ?_
      refine v_aload_n dX9_leastLooked_21 rfl ?_
      refine v_getI' (v := ((i : Nat) : Int)) hnow fX9_181 rfl hTy dX9_leastLooked_22 ?_
      refine v_imul dX9_leastLooked_25 ?_
      refine v_iload_n dX9_leastLooked_26 rfl ?_
      refine v_iadd dX9_leastLooked_27 ?_
      refine v_zald' (i := ((40 * i) + j)) (v := wt j) (hw j (by omega)) (show G.1 (y + 21) = (11, 240) from (hYr 20 _ rfl).1) (by omega) (by omega) (by omega) dX9_leastLooked_28 ?_
      refine v_if_ne (by rw [← hw j (by omega)]; exact rng _ _) dX9_leastLooked_29 (fun h1 => ?_) (fun h1 => ?_)
      · refine v_iload_n dX9_leastLooked_38 rfl ?_
        refine v_aload_n dX9_leastLooked_39 rfl ?_
        refine v_getR fX9_30 rfl hTy (hYr 5 _ rfl).2 dX9_leastLooked_40 ?_
        refine v_aload_n dX9_leastLooked_43 rfl ?_
        refine v_getI' (v := ((i : Nat) : Int)) hnow fX9_181 rfl hTy dX9_leastLooked_44 ?_
        refine v_iald' (i := i) (v := ((n : Nat) : Int)) hn (show G.1 (y + 6) = (10, 6) from (hYr 5 _ rfl).1) rfl (by omega) (by omega) dX9_leastLooked_47 ?_
        refine v_icmp_ge ⟨by omega, by omega⟩ ⟨by omega, by omega⟩ dX9_leastLooked_48 (fun h => by exfalso; omega) (fun hb48 => ?_)
        refine v_iload_n dX9_leastLooked_51 rfl ?_
        refine v_goto dX9_leastLooked_52 ?_
        exact v_iret rfl (by decide) (by decide) ⟨by omega, by omega⟩ dX9_leastLooked_56 ⟨(by rw [if_neg h1] at hz; exact hz.symm), rfl, rfl⟩
      · refine v_iinc dX9_leastLooked_32 rfl (by decide) rfl rfl ?_
        refine v_goto dX9_leastLooked_35 ?_
        exact ih (j + 1) z (by omega) (by rw [if_pos h1] at hz; exact hz)
  exact loop n 0 _ (by omega) rfl
theorem tX9_hands {E : w_E} {G : w_Sh} {I : w_Mm} {y i : Nat} (hY : isY G y) (hi : i < 6) (hnow : I y 29 = (i : Int)) {Q : cS} {κ : kS} {π : mS} {p : Nat} (hQ : clsY I y Q) (hK : yK I y i κ) (hM : yM I y i π) (hat : I y 30 = (p : Int)) (hp : p < 40) (hR : rI Q π κ) {ρ : fS} (hφ0 : 0 ≤ (κ.1 p).1) (hgd : gdOK Q π) {g h : Nat} (hg : g < mNG π) (hh : h = 6 * i + g) : w_Ct E mX9_hands 4 [.ref y, iv (h : Int)] G I 0 0 (w_Pi (fun r G' J => G' = G ∧ offC I J y i ∧ goP I J y i (xHd Q π κ ρ p g) r)) := by
  obtain ⟨hTy, hYr⟩ := hY
  have hQ0 := hQ
  have hM0 := hM
  obtain ⟨hm3, hm4, hm4b, hm5, hm6, hm6b, hm7, hm10, hm10b, hm11⟩ := hM
  obtain ⟨hg1, hg2, hg3⟩ := hgd g hg
  obtain ⟨t, ht⟩ := Int.eq_ofNat_of_zero_le hg1
  have hgr := hm11 g hg
  rw [← hh] at hgr
  obtain ⟨hr11, hr12, hr13, hr14⟩ := hgr
  have hq16 := hQ0.2.2.1
  refine w_Ct.of (ls := [some (.ref y), some (iv (h : Int)), none]) (by decide +kernel) (Nat.le_of_ble_eq_true rfl) rfl rfl (fun rng => ?_)
  refine v_aload_n dX9_hands_0 rfl ?_
  refine v_getR fX9_51 rfl hTy (hYr 12 _ rfl).2 dX9_hands_1 ?_
  refine v_iload_n dX9_hands_4 rfl ?_
  refine v_iald' (i := h) (v := ((t : Nat) : Int)) (hr13.trans ht) (show G.1 (y + 13) = (10, 36) from (hYr 12 _ rfl).1) rfl (by omega) (by omega) dX9_hands_5 ?_
  refine v_aload_n dX9_hands_6 rfl ?_
  refine v_getR fX9_30 rfl hTy (hYr 5 _ rfl).2 dX9_hands_7 ?_
  refine v_aload_n dX9_hands_10 rfl ?_
  refine v_getI' (v := ((i : Nat) : Int)) hnow fX9_181 rfl hTy dX9_hands_11 ?_
  refine v_iald' (i := i) (v := ((mN π : Nat) : Int)) hm6 (show G.1 (y + 6) = (10, 6) from (hYr 5 _ rfl).1) rfl (by omega) (by omega) dX9_hands_14 ?_
  refine v_icmp_lt ⟨by omega, by omega⟩ ⟨by omega, by omega⟩ dX9_hands_15 (fun h1 => ?_) (fun h1 => ?_)
  · refine v_aload_n dX9_hands_25 rfl ?_
    refine v_bipush dX9_hands_26 (by decide) ?_
    refine v_aload_n dX9_hands_28 rfl ?_
    refine v_getI' (v := ((i : Nat) : Int)) hnow fX9_181 rfl hTy dX9_hands_29 ?_
    refine v_imul dX9_hands_32 ?_
    refine v_aload_n dX9_hands_33 rfl ?_
    refine v_getI' (v := ((p : Nat) : Int)) hat fX9_184 rfl hTy dX9_hands_34 ?_
    refine v_iadd dX9_hands_37 ?_
    rw [show (40 * ((i : Nat) : Int) + ((p : Nat) : Int)) = ((40 * i + p : Nat) : Int) by omega]
    refine v_Vv (tX9_load (⟨hTy, hYr⟩ : isY G y) (f := 40 * i + p) (φ := κ.1 p) (by omega) (hK.1 p hp) hφ0) kX9_207 hTy rfl rfl ⟨by decide, by decide⟩ ⟨by decide, by decide⟩ (Nat.le_of_ble_eq_true rfl) dX9_hands_38 (fun G9 J2 pJ2 rng3 => ?_)
    obtain ⟨hG9, fJ2, oJ2, bJ2⟩ := pJ2
    obtain rfl := hG9.symm
    refine v_iconst dX9_hands_41 ?_
    refine v_istore_n dX9_hands_42 (by decide) rfl ?_
    obtain ⟨fl1, fl2, fl3, fl4, fl5⟩ := fJ2
    have loop : ∀ (m j : Nat) (J : w_Mm), j + m = 8 → rsP J2 J y (κ.1 p) j → (∀ a k, inR (J a k)) → w_V E mX9_hands (w_rm 4 0 0) (w_Z E 0 0 (w_Pi (fun r G' J => G' = G ∧ offC I J y i ∧ goP I J y i (xHd Q π κ ρ p g) r))) G J 0 0 43 [some (.ref y), some (iv (h : Int)), some (iv (j : Int))] [] := by
      intro m
      induction m with
      | zero =>
        intro j J hj hl rngJ
        obtain rfl : j = 8 := by omega
        have oJ : ∀ a k, ¬ (a = y ∧ (k = 27 ∨ k = 28)) → a ≠ y + 24 → a ≠ y + 25 → J a k = I a k := fun a k u1 u2 u3 => (hl.2.2 a k u2).trans (oJ2 a k u1 u2 u3)
        obtain ⟨e1, e2, e3⟩ := hl.e (kd := 10 + mGc π g) (P := ρ.2.2)
        have o2 : offT I _ y := oJ2.tr e2
        refine v_iload_n dX9_hands_43 rfl ?_
        refine v_bipush dX9_hands_44 (by decide) ?_
        refine v_icmp_ge ⟨by omega, by omega⟩ ⟨by decide, by decide⟩ dX9_hands_46 (fun hb46 => ?_) (fun h => by exfalso; omega)
        have eH : xHd Q π κ ρ p g = xMt Q κ t (raisF (κ.1 p) ρ.2.2 (10 + mGc π g)) := by unfold xHd; rw [if_neg (fun q => q (by omega)), ht]; rfl
        refine v_aload_n dX9_hands_82 rfl ?_
        refine v_iconst dX9_hands_83 ?_
        refine v_putI fX9_148 p9_27 rfl ⟨by decide, by decide⟩ hTy dX9_hands_84 ?_
        have rng1 := w_rng (a := y) (f := 27) rngJ (show inR (1) from ⟨by decide, by decide⟩)
        refine v_aload_n dX9_hands_87 rfl ?_
        refine v_getR fX9_87 rfl hTy (hYr 24 _ rfl).2 dX9_hands_88 ?_
        refine v_iconst dX9_hands_91 ?_
        refine v_bipush dX9_hands_92 (by decide) ?_
        refine v_aload_n dX9_hands_94 rfl ?_
        refine v_getR fX9_54 rfl hTy (hYr 13 _ rfl).2 dX9_hands_95 ?_
        refine v_iload_n dX9_hands_98 rfl ?_
        refine v_iald' (i := h) (v := mGc π g) (by rw [w_up_n (by omega), ((oJ _ _ (by omega) (by omega) (by omega)).trans hr14)]) (show G.1 (y + 14) = (10, 36) from (hYr 13 _ rfl).1) rfl (by omega) (by omega) dX9_hands_99 ?_
        refine v_iadd dX9_hands_100 ?_
        refine v_iast (i := 0) (show G.1 (y + 25) = (10, 8) from (hYr 24 _ rfl).1) rfl (by omega) (by omega) ⟨by omega, by omega⟩ dX9_hands_101 ?_
        have rng2 := w_rng (a := y + 25) (f := 0) rng1 (show inR ((10 + mGc π g)) from ⟨by omega, by omega⟩)
        refine v_aload_n dX9_hands_102 rfl ?_
        refine v_aload_n dX9_hands_103 rfl ?_
        refine v_getR fX9_51 rfl hTy (hYr 12 _ rfl).2 dX9_hands_104 ?_
        refine v_iload_n dX9_hands_107 rfl ?_
        refine v_iald' (i := h) (v := ((t : Nat) : Int)) (by rw [w_up_n (by omega), w_up_n (by omega), ((oJ _ _ (by omega) (by omega) (by omega)).trans (hr13.trans ht))]) (show G.1 (y + 13) = (10, 36) from (hYr 12 _ rfl).1) rfl (by omega) (by omega) dX9_hands_108 ?_
        refine v_Vi (tX9_meets (⟨hTy, hYr⟩ : isY G y) hi ((o2 y 29 (by omega) (by omega) (by omega)).trans hnow) (N := mN π) (p := t) (hQ0.T o2) (hK.T o2) (by omega) hm6b e1 (((hR p hp hφ0).1).rais (knK_t hg3 hq16) (by omega) (by omega)) (fun u => (hR t (by omega) u).1)) kX9_210 hTy rfl rfl ⟨by decide, by decide⟩ ⟨by decide, by decide⟩ (Nat.le_of_ble_eq_true rfl) dX9_hands_109 (fun r5 G9 J3 hr5 pJ3 rng4 => ?_)
        obtain ⟨hG9, mJ3⟩ := pJ3
        obtain rfl := hG9.symm
        obtain ⟨vJ3, gJ3⟩ := mJ3.go
        rw [eH]
        exact v_zret rfl (by decide) (by decide) gJ3.r dX9_hands_112 ⟨rfl, o2.c.tr vJ3.c, gJ3.pre (e3.trans bJ2)⟩
      | succ m ih =>
        intro j J hj hl rngJ
        have hlj := hl.2.1 j (Nat.le_refl _) (by omega)
        refine v_iload_n dX9_hands_43 rfl ?_
        refine v_bipush dX9_hands_44 (by decide) ?_
        refine v_icmp_ge ⟨by omega, by omega⟩ ⟨by decide, by decide⟩ dX9_hands_46 (fun h => by exfalso; omega) (fun hb46 => ?_)
        refine v_aload_n dX9_hands_49 rfl ?_
        refine v_getR fX9_84 rfl hTy (hYr 23 _ rfl).2 dX9_hands_50 ?_
        refine v_iload_n dX9_hands_53 rfl ?_
        refine v_aload_n dX9_hands_54 rfl ?_
        refine v_getR fX9_84 rfl hTy (hYr 23 _ rfl).2 dX9_hands_55 ?_
        refine v_iload_n dX9_hands_58 rfl ?_
        refine v_iald' (i := j) (v := (κ.1 p).2.1 j) hlj (show G.1 (y + 24) = (10, 8) from (hYr 23 _ rfl).1) rfl (by omega) (by omega) dX9_hands_59 ?_
        refine v_bipush dX9_hands_60 (by decide) ?_
        refine v_icmp_lt (by rw [← hlj]; exact rngJ _ _) ⟨by decide, by decide⟩ dX9_hands_62 (fun h1 => ?_) (fun h1 => ?_)
        · refine v_aload_n dX9_hands_69 rfl ?_
          refine v_getR fX9_84 rfl hTy (hYr 23 _ rfl).2 dX9_hands_70 ?_
          refine v_iload_n dX9_hands_73 rfl ?_
          refine v_iald' (i := j) (v := (κ.1 p).2.1 j) hlj (show G.1 (y + 24) = (10, 8) from (hYr 23 _ rfl).1) rfl (by omega) (by omega) dX9_hands_74 ?_
          refine v_iast (i := j) (show G.1 (y + 24) = (10, 8) from (hYr 23 _ rfl).1) rfl (by omega) (by omega) (by rw [← hlj]; exact rngJ _ _) dX9_hands_75 ?_
          have rng2 := w_rng (a := y + 24) (f := j) rngJ (show inR ((κ.1 p).2.1 j) from (by rw [← hlj]; exact rngJ _ _))
          refine v_iinc dX9_hands_76 rfl (by decide) rfl rfl ?_
          refine v_goto dX9_hands_79 ?_
          exact ih (j + 1) _ (by omega) (hl.s (by rw [if_neg (by omega)])) rng2
        · refine v_iconst dX9_hands_65 ?_
          refine v_goto dX9_hands_66 ?_
          refine v_iast (i := j) (show G.1 (y + 24) = (10, 8) from (hYr 23 _ rfl).1) rfl (by omega) (by omega) ⟨by decide, by decide⟩ dX9_hands_75 ?_
          have rng3 := w_rng (a := y + 24) (f := j) rngJ (show inR (0) from ⟨by decide, by decide⟩)
          refine v_iinc dX9_hands_76 rfl (by decide) rfl rfl ?_
          refine v_goto dX9_hands_79 ?_
          exact ih (j + 1) _ (by omega) (hl.s (by rw [if_pos (by omega)])) rng3
    exact loop 8 0 _ rfl ⟨fun k hk => absurd hk (by omega), fun k _ hk => fl4 k hk, fun _ _ _ => rfl⟩ rng3
  · refine v_aload_n dX9_hands_18 rfl ?_
    refine v_bipush dX9_hands_19 (by decide) ?_
    refine v_VmN (tX9_breaks (⟨hTy, hYr⟩ : isY G y) ⟨by decide, by decide⟩) kX9_151 hTy rfl rfl ⟨by decide, by decide⟩ ⟨by decide, by decide⟩ (Nat.le_of_ble_eq_true rfl) dX9_hands_21 (fun r4 er4 hr4 rng5 => ?_)
    subst er4
    rw [show xHd Q π κ ρ p g = (6, κ) from if_pos (by omega)]
    exact v_zret rfl (by decide) (by decide) (Or.inl rfl) dX9_hands_24 ⟨rfl, offV_28.c, goP.brk hK (fun _ _ _ _ _ => rfl) (by decide)⟩
theorem tX9_goes {E : w_E} {G : w_Sh} {I : w_Mm} {y i : Nat} (hY : isY G y) (hi : i < 6) (hnow : I y 29 = (i : Int)) {Q : cS} {κ : kS} {π : mS} {p : Nat} (hQ : clsY I y Q) (hK : yK I y i κ) (hM : yM I y i π) (hat : I y 30 = (p : Int)) (hp : p < 40) (hR : rI Q π κ) (hφ0 : 0 ≤ (κ.1 p).1) (hw : wkI Q π) (hpN : p < mN π) (hres : resK Q (mRes π)) {ρ : fS} : w_Ct E mX9_goes 6 [.ref y] G I 0 0 (w_Pi (fun r G' J => G' = G ∧ offC I J y i ∧ goP I J y i (xBd Q π p (xHands Q π p (mNG π) 0 κ ρ)) r)) := by
  obtain ⟨hTy, hYr⟩ := hY
  have hQ0 := hQ
  have hM0 := hM
  obtain ⟨hm3, hm4, hm4b, hm5, hm6, hm6b, hm7, hm10, hm10b, hm11⟩ := hM
  obtain ⟨hq, hlo, hN40, hops, hgd, hr3, hgt⟩ := hw
  refine w_Ct.of (ls := [some (.ref y), none, none]) (by decide +kernel) (Nat.le_of_ble_eq_true rfl) rfl rfl (fun rng => ?_)
  refine v_iconst dX9_goes_0 ?_
  refine v_istore_n dX9_goes_1 (by decide) rfl ?_
  have loop : ∀ (mm g : Nat) (κ1 : kS) (ρ1 : fS) (J : w_Mm) (o2 : Option Value), g + mm = mNG π → yK J y i κ1 → offC I J y i → J y 28 = I y 28 → rI Q π κ1 → 0 ≤ (κ1.1 p).1 → xHands Q π p mm g κ1 ρ1 = (xHands Q π p (mNG π) 0 κ ρ) → (∀ a k, inR (J a k)) → w_V E mX9_goes (w_rm 6 0 0) (w_Z E 0 0 (w_Pi (fun r G' J => G' = G ∧ offC I J y i ∧ goP I J y i (xBd Q π p (xHands Q π p (mNG π) 0 κ ρ)) r))) G J 0 0 2 [some (.ref y), some (iv (g : Int)), o2] [] := by
    intro mm
    induction mm with
    | zero =>
      intro g κ1 ρ1 J o2 hgm hKJ hoJ h28 hRJ hφJ hE rngJ
      have nJ : J y 29 = (i : Int) := (hoJ.n (Or.inl rfl)).trans hnow
      have aJ : J y 30 = (p : Int) := (hoJ.n (Or.inr rfl)).trans hat
      have qJ : clsY J y Q := hQ0.C hoJ
      have hMJ : yM J y i π := hM0.C hoJ
      obtain ⟨j3, j4, j4b, j5, j6, j6b, j7, j10, j10b, j11⟩ := id hMJ
      have hE0 : (xHands Q π p (mNG π) 0 κ ρ) = (0, κ1, ρ1) := hE.symm
      refine v_iload_n dX9_goes_2 rfl ?_
      refine v_aload_n dX9_goes_3 rfl ?_
      refine v_getR fX9_42 rfl hTy (hYr 9 _ rfl).2 dX9_goes_4 ?_
      refine v_aload_n dX9_goes_7 rfl ?_
      refine v_getI' (v := ((i : Nat) : Int)) nJ fX9_181 rfl hTy dX9_goes_8 ?_
      refine v_iald' (i := i) (v := ((mNG π : Nat) : Int)) j10 (show G.1 (y + 10) = (10, 6) from (hYr 9 _ rfl).1) rfl (by omega) (by omega) dX9_goes_11 ?_
      refine v_icmp_ge ⟨by omega, by omega⟩ ⟨by omega, by omega⟩ dX9_goes_12 (fun hb12 => ?_) (fun h => by exfalso; omega)
      refine v_bipush dX9_goes_65 (by decide) ?_
      refine v_aload_n dX9_goes_67 rfl ?_
      refine v_getI' (v := ((i : Nat) : Int)) nJ fX9_181 rfl hTy dX9_goes_68 ?_
      refine v_imul dX9_goes_71 ?_
      refine v_aload_n dX9_goes_72 rfl ?_
      refine v_getI' (v := ((p : Nat) : Int)) aJ fX9_184 rfl hTy dX9_goes_73 ?_
      refine v_iadd dX9_goes_76 ?_
      refine v_istore_n dX9_goes_77 (by decide) rfl ?_
      rw [show (40 * ((i : Nat) : Int) + ((p : Nat) : Int)) = ((40 * i + p : Nat) : Int) by omega]
      obtain ⟨f, hf⟩ : ∃ f, f = 40 * i + p := ⟨_, rfl⟩
      rw [← hf]
      have hFp := hKJ.1 p hp
      rw [← hf] at hFp
      refine v_aload_n dX9_goes_78 rfl ?_
      refine v_iload_n dX9_goes_79 rfl ?_
      refine v_Vv (tX9_load (⟨hTy, hYr⟩ : isY G y) (f := f) (φ := κ1.1 p) (by omega) hFp hφJ) kX9_207 hTy rfl rfl ⟨by decide, by decide⟩ ⟨by decide, by decide⟩ (Nat.le_of_ble_eq_true rfl) dX9_goes_80 (fun G9 J1 pJ1 rng2 => ?_)
      obtain ⟨hG9, fJ1, oJ1, bJ1⟩ := pJ1
      obtain rfl := hG9.symm
      have hM1 : yM J1 y i π := hMJ.T oJ1
      have hop := hM1.2.2.2.2.2.2.1 p hpN
      rw [← hf] at hop
      obtain ⟨p7, p8, p9⟩ := hop
      have q1 : clsY J1 y Q := qJ.T oJ1
      have ok1 := (hRJ p hp hφJ).1
      have n1 : J1 y 29 = (i : Int) := (oJ1 y 29 (by omega) (by omega) (by omega)).trans nJ
      have a1 : J1 y 30 = (p : Int) := (oJ1 y 30 (by omega) (by omega) (by omega)).trans aJ
      have hor : inR (mOp π p) := by rw [← p7]; exact rng2 _ _
      have hmr : inR (mA π p) := by rw [← p8]; exact rng2 _ _
      have hbr : inR (mB π p) := by rw [← p9]; exact rng2 _ _
      refine v_aload_n dX9_goes_83 rfl ?_
      refine v_aload_n dX9_goes_84 rfl ?_
      refine v_getR fX9_33 rfl hTy (hYr 6 _ rfl).2 dX9_goes_85 ?_
      refine v_iload_n dX9_goes_88 rfl ?_
      refine v_iald' (i := f) (v := mOp π p) p7 (show G.1 (y + 7) = (10, 240) from (hYr 6 _ rfl).1) rfl (by omega) (by omega) dX9_goes_89 ?_
      refine v_aload_n dX9_goes_90 rfl ?_
      refine v_getR fX9_36 rfl hTy (hYr 7 _ rfl).2 dX9_goes_91 ?_
      refine v_iload_n dX9_goes_94 rfl ?_
      refine v_iald' (i := f) (v := mA π p) p8 (show G.1 (y + 8) = (10, 240) from (hYr 7 _ rfl).1) rfl (by omega) (by omega) dX9_goes_95 ?_
      refine v_aload_n dX9_goes_96 rfl ?_
      refine v_getR fX9_39 rfl hTy (hYr 8 _ rfl).2 dX9_goes_97 ?_
      refine v_iload_n dX9_goes_100 rfl ?_
      refine v_iald' (i := f) (v := mB π p) p9 (show G.1 (y + 9) = (10, 240) from (hYr 8 _ rfl).1) rfl (by omega) (by omega) dX9_goes_101 ?_
      refine v_Vi (tX9_does (⟨hTy, hYr⟩ : isY G y) q1 (σ := (0, κ1.1 p)) (N := mN π) rfl fJ1 ok1.2.2.1 j6b ok1.2.1 ok1.1 ok1.2.2.2 hM1 hi n1 rfl a1 hpN hres hq.2 hq.1 hmr hbr (hops p hpN)) kX9_219 hTy rfl rfl ⟨by decide, by decide⟩ ⟨by decide, by decide⟩ (Nat.le_of_ble_eq_true rfl) dX9_goes_102 (fun r5 G9 J3 hr5 pJ3 rng4 => ?_)
      obtain ⟨hG9, oJ3, ⟨rfl, zJ3, fJ3, bJ3⟩ | ⟨rfl, zJ3, bJ3⟩⟩ := pJ3
      all_goals obtain rfl := hG9.symm
      · refine v_if_ne ⟨by decide, by decide⟩ dX9_goes_105 (fun hb105 => ?_) (fun h => by exfalso; omega)
        refine v_aload_n dX9_goes_110 rfl ?_
        refine v_aload_n dX9_goes_111 rfl ?_
        refine v_getI' (v := (xDo Q π (0, κ1.1 p) p (mOp π p) (mA π p) (mB π p)).2.1) fJ3.1 fX9_148 rfl hTy dX9_goes_112 ?_
        refine v_Vn (tX9_keepMost (⟨hTy, hYr⟩ : isY G y) hi ((oJ3 y 29 (by omega) (by omega) (by omega)).trans n1) ⟨by have := fJ3.2.1; omega, by have := fJ3.2.2.1; omega⟩) kX9_200 hTy rfl rfl ⟨by decide, by decide⟩ ⟨by decide, by decide⟩ (Nat.le_of_ble_eq_true rfl) dX9_goes_115 (fun rng6 => ?_)
        have eB : xBd Q π p (xHands Q π p (mNG π) 0 κ ρ) = xGo Q π (xHi κ1 (xDo Q π (0, κ1.1 p) p (mOp π p) (mA π p) (mB π p)).2.1) (xDo Q π (0, κ1.1 p) p (mOp π p) (mA π p) (mB π p)).2 p := by rw [hE0]; exact (if_neg (fun q => q rfl)).trans (if_neg (fun q => q zJ3))
        have kK := ((hKJ.T oJ1).T oJ3).hi (d := (xDo Q π (0, κ1.1 p) p (mOp π p) (mA π p) (mB π p)).2.1)
        have o12 : offC J J3 y i := (oJ1.tr oJ3).c
        have oJK := o12.tr (offC_19 (I := J3) (y := y) (i := i) (z := if J3 (y + 19) i < (xDo Q π (0, κ1.1 p) p (mOp π p) (mA π p) (mB π p)).2.1 then (xDo Q π (0, κ1.1 p) p (mOp π p) (mA π p) (mB π p)).2.1 else J3 (y + 19) i))
        have fK := fJ3.V (offV_19 (I := J3) (y := y) (i := i) (z := if J3 (y + 19) i < (xDo Q π (0, κ1.1 p) p (mOp π p) (mA π p) (mB π p)).2.1 then (xDo Q π (0, κ1.1 p) p (mOp π p) (mA π p) (mB π p)).2.1 else J3 (y + 19) i))
        have nK := (oJK.n (Or.inl rfl)).trans nJ
        have aK := (oJK.n (Or.inr rfl)).trans aJ
        have qK := qJ.C oJK
        have mK := hMJ.C oJK
        have bK : w_up J3 (y + 19) i (if J3 (y + 19) i < (xDo Q π (0, κ1.1 p) p (mOp π p) (mA π p) (mB π p)).2.1 then (xDo Q π (0, κ1.1 p) p (mOp π p) (mA π p) (mB π p)).2.1 else J3 (y + 19) i) y 28 = I y 28 := (w_up_n (by omega)).trans (bJ3.trans (bJ1.trans h28))
        have gP := (gO.perf (π := π) (p := p) hq.2 (σ := (0, κ1.1 p)) (fun _ => ⟨ok1, hφJ, (hRJ p hp hφJ).2⟩) hpN (hops p hpN) hr3) zJ3
        have rK : rI Q π (xHi κ1 (xDo Q π (0, κ1.1 p) p (mOp π p) (mA π p) (mB π p)).2.1) := hRJ
        refine v_aload_n dX9_goes_118 rfl ?_
        refine v_getR fX9_33 rfl hTy (hYr 6 _ rfl).2 dX9_goes_119 ?_
        refine v_iload_n dX9_goes_122 rfl ?_
        refine v_iald' (i := f) (v := mOp π p) (by rw [w_up_n (by omega), ((oJ3 _ _ (by omega) (by omega) (by omega)).trans p7)]) (show G.1 (y + 7) = (10, 240) from (hYr 6 _ rfl).1) rfl (by omega) (by omega) dX9_goes_123 ?_
        by_cases c11 : mOp π p = 11
        · have ha0 : 0 ≤ mA π p := (hops p hpN).2.2.2.2.1 (by omega)
          refine v_lsw (off := 44) (tgt := 168) dX9_goes_124 (by decide) hor (if_pos c11.symm) (by decide) ?_
          refine v_aload_n dX9_goes_168 rfl ?_
          refine v_aload_n dX9_goes_169 rfl ?_
          refine v_getR fX9_36 rfl hTy (hYr 7 _ rfl).2 dX9_goes_170 ?_
          refine v_iload_n dX9_goes_173 rfl ?_
          refine v_iald' (i := f) (v := mA π p) (by rw [w_up_n (by omega), ((oJ3 _ _ (by omega) (by omega) (by omega)).trans p8)]) (show G.1 (y + 8) = (10, 240) from (hYr 7 _ rfl).1) rfl (by omega) (by omega) dX9_goes_174 ?_
          refine v_Vi (tX9_jumps (⟨hTy, hYr⟩ : isY G y) hi nK qK kK mK aK hp rK fK gP.1 ha0 hmr) kX9_222 hTy rfl rfl ⟨by decide, by decide⟩ ⟨by decide, by decide⟩ (Nat.le_of_ble_eq_true rfl) dX9_goes_175 (fun r9 G9 J7 hr9 pJ7 rng8 => ?_)
          obtain ⟨hG9, oJ7, ⟨rfl, zJ7, bJ7, kJ7⟩ | ⟨rfl, zJ7, bJ7, kJ7⟩⟩ := pJ7
          all_goals obtain rfl := hG9.symm
          · refine v_if_eq ⟨by decide, by decide⟩ dX9_goes_178 (fun h => by exfalso; omega) (fun hb178 => ?_)
            refine v_aload_n dX9_goes_181 rfl ?_
            refine v_Vi (tX9_goesOn (⟨hTy, hYr⟩ : isY G y) hi ((oJ7.c.n (Or.inl rfl)).trans nK) (qK.C oJ7.c) kJ7 (mK.C oJ7.c) ((oJ7.c.n (Or.inr rfl)).trans aK) hp (rK.jm hq hN40 gP.1 gP.2.2) (fK.V oJ7) gP.1) kX9_225 hTy rfl rfl ⟨by decide, by decide⟩ ⟨by decide, by decide⟩ (Nat.le_of_ble_eq_true rfl) dX9_goes_182 (fun r12 G9 J10 hr12 pJ10 rng11 => ?_)
            obtain ⟨hG9, oJ10, ⟨rfl, zJ10, bJ10, kJ10⟩ | ⟨rfl, zJ10, bJ10, kJ10⟩⟩ := pJ10
            all_goals obtain rfl := hG9.symm
            · refine v_if_eq ⟨by decide, by decide⟩ dX9_goes_185 (fun h => by exfalso; omega) (fun hb185 => ?_)
              refine v_iconst dX9_goes_188 ?_
              refine v_goto dX9_goes_189 ?_
              rw [eB, xGo_11 c11, if_pos zJ7]
              exact v_zret rfl (by decide) (by decide) (Or.inr rfl) dX9_goes_193 ⟨rfl, ((hoJ.tr oJK).tr oJ7.c).tr oJ10.c, Or.inl ⟨rfl, zJ10, bJ10.trans (bJ7.trans bK), kJ10⟩⟩
            · refine v_if_eq ⟨by decide, by decide⟩ dX9_goes_185 (fun hb185 => ?_) (fun h => by exfalso; omega)
              refine v_iconst dX9_goes_192 ?_
              rw [eB, xGo_11 c11, if_pos zJ7]
              exact v_zret rfl (by decide) (by decide) (Or.inl rfl) dX9_goes_193 ⟨rfl, ((hoJ.tr oJK).tr oJ7.c).tr oJ10.c, Or.inr ⟨rfl, zJ10, bJ10, kJ10⟩⟩
          · refine v_if_eq ⟨by decide, by decide⟩ dX9_goes_178 (fun hb178 => ?_) (fun h => by exfalso; omega)
            refine v_iconst dX9_goes_192 ?_
            rw [eB, xGo_11 c11, if_neg zJ7]
            exact v_zret rfl (by decide) (by decide) (Or.inl rfl) dX9_goes_193 ⟨rfl, (hoJ.tr oJK).tr oJ7.c, Or.inr ⟨rfl, zJ7, bJ7, kJ7⟩⟩
        · by_cases c12 : mOp π p = 12
          · have ha0 : 0 ≤ mA π p := (hops p hpN).2.2.2.2.1 (by omega)
            refine v_lsw (off := 70) (tgt := 194) dX9_goes_124 (by decide) hor ((if_neg (fun q => c11 q.symm)).trans (if_pos c12.symm)) (by decide) ?_
            refine v_aload_n dX9_goes_194 rfl ?_
            refine v_aload_n dX9_goes_195 rfl ?_
            refine v_getR fX9_36 rfl hTy (hYr 7 _ rfl).2 dX9_goes_196 ?_
            refine v_iload_n dX9_goes_199 rfl ?_
            refine v_iald' (i := f) (v := mA π p) (by rw [w_up_n (by omega), ((oJ3 _ _ (by omega) (by omega) (by omega)).trans p8)]) (show G.1 (y + 8) = (10, 240) from (hYr 7 _ rfl).1) rfl (by omega) (by omega) dX9_goes_200 ?_
            refine v_Vi (tX9_jumps (⟨hTy, hYr⟩ : isY G y) hi nK qK kK mK aK hp rK fK gP.1 ha0 hmr) kX9_222 hTy rfl rfl ⟨by decide, by decide⟩ ⟨by decide, by decide⟩ (Nat.le_of_ble_eq_true rfl) dX9_goes_201 (fun r15 G9 J13 hr15 pJ13 rng14 => ?_)
            obtain ⟨hG9, oJ13, ⟨rfl, zJ13, bJ13, kJ13⟩ | ⟨rfl, zJ13, bJ13, kJ13⟩⟩ := pJ13
            all_goals obtain rfl := hG9.symm
            · rw [eB, xGo_12 c12]
              exact v_zret rfl (by decide) (by decide) (Or.inr rfl) dX9_goes_204 ⟨rfl, (hoJ.tr oJK).tr oJ13.c, Or.inl ⟨rfl, zJ13, bJ13.trans bK, kJ13⟩⟩
            · rw [eB, xGo_12 c12]
              exact v_zret rfl (by decide) (by decide) (Or.inl rfl) dX9_goes_204 ⟨rfl, (hoJ.tr oJK).tr oJ13.c, Or.inr ⟨rfl, zJ13, bJ13, kJ13⟩⟩
          · by_cases c22 : mOp π p = 22
            · refine v_lsw (off := 81) (tgt := 205) dX9_goes_124 (by decide) hor ((if_neg (fun q => c11 q.symm)).trans ((if_neg (fun q => c12 q.symm)).trans (if_pos c22.symm))) (by decide) ?_
              refine v_iconst dX9_goes_205 ?_
              rw [eB, xGo_22 (by omega)]
              exact v_zret rfl (by decide) (by decide) (Or.inr rfl) dX9_goes_206 ⟨rfl, hoJ.tr oJK, Or.inl ⟨rfl, rfl, bK, kK⟩⟩
            · by_cases c23 : mOp π p = 23
              · refine v_lsw (off := 81) (tgt := 205) dX9_goes_124 (by decide) hor ((if_neg (fun q => c11 q.symm)).trans ((if_neg (fun q => c12 q.symm)).trans ((if_neg (fun q => c22 q.symm)).trans (if_pos c23.symm)))) (by decide) ?_
                refine v_iconst dX9_goes_205 ?_
                rw [eB, xGo_22 (by omega)]
                exact v_zret rfl (by decide) (by decide) (Or.inr rfl) dX9_goes_206 ⟨rfl, hoJ.tr oJK, Or.inl ⟨rfl, rfl, bK, kK⟩⟩
              · refine v_lsw (off := 83) (tgt := 207) dX9_goes_124 (by decide) hor ((if_neg (fun q => c11 q.symm)).trans ((if_neg (fun q => c12 q.symm)).trans ((if_neg (fun q => c22 q.symm)).trans (if_neg (fun q => c23 q.symm))))) (by decide) ?_
                refine v_aload_n dX9_goes_207 rfl ?_
                refine v_Vi (tX9_goesOn (⟨hTy, hYr⟩ : isY G y) hi nK qK kK mK aK hp rK fK gP.1) kX9_225 hTy rfl rfl ⟨by decide, by decide⟩ ⟨by decide, by decide⟩ (Nat.le_of_ble_eq_true rfl) dX9_goes_208 (fun r18 G9 J16 hr18 pJ16 rng17 => ?_)
                obtain ⟨hG9, oJ16, ⟨rfl, zJ16, bJ16, kJ16⟩ | ⟨rfl, zJ16, bJ16, kJ16⟩⟩ := pJ16
                all_goals obtain rfl := hG9.symm
                · rw [eB, xGo_on (by omega)]
                  exact v_zret rfl (by decide) (by decide) (Or.inr rfl) dX9_goes_211 ⟨rfl, (hoJ.tr oJK).tr oJ16.c, Or.inl ⟨rfl, zJ16, bJ16.trans bK, kJ16⟩⟩
                · rw [eB, xGo_on (by omega)]
                  exact v_zret rfl (by decide) (by decide) (Or.inl rfl) dX9_goes_211 ⟨rfl, (hoJ.tr oJK).tr oJ16.c, Or.inr ⟨rfl, zJ16, bJ16, kJ16⟩⟩
      · refine v_if_ne ⟨by decide, by decide⟩ dX9_goes_105 (fun h => by exfalso; omega) (fun hb105 => ?_)
        refine v_iconst dX9_goes_108 ?_
        have eB : xBd Q π p (xHands Q π p (mNG π) 0 κ ρ) = ((xDo Q π (0, κ1.1 p) p (mOp π p) (mA π p) (mB π p)).1, κ1) := by rw [hE0]; exact (if_neg (fun q => q rfl)).trans (if_pos zJ3)
        rw [eB]
        exact v_zret rfl (by decide) (by decide) (Or.inl rfl) dX9_goes_109 ⟨rfl, hoJ.tr (oJ1.tr oJ3).c, Or.inr ⟨rfl, zJ3, bJ3, (hKJ.T oJ1).T oJ3⟩⟩
    | succ mm ih =>
      intro g κ1 ρ1 J o2 hgm hKJ hoJ h28 hRJ hφJ hE rngJ
      have nJ : J y 29 = (i : Int) := (hoJ.n (Or.inl rfl)).trans hnow
      have aJ : J y 30 = (p : Int) := (hoJ.n (Or.inr rfl)).trans hat
      have qJ : clsY J y Q := hQ0.C hoJ
      have hMJ : yM J y i π := hM0.C hoJ
      obtain ⟨j3, j4, j4b, j5, j6, j6b, j7, j10, j10b, j11⟩ := id hMJ
      have hg : g < mNG π := by omega
      have hgt1 := hgt g hg
      have hgh0 := (hgd g hg).1
      refine v_iload_n dX9_goes_2 rfl ?_
      refine v_aload_n dX9_goes_3 rfl ?_
      refine v_getR fX9_42 rfl hTy (hYr 9 _ rfl).2 dX9_goes_4 ?_
      refine v_aload_n dX9_goes_7 rfl ?_
      refine v_getI' (v := ((i : Nat) : Int)) nJ fX9_181 rfl hTy dX9_goes_8 ?_
      refine v_iald' (i := i) (v := ((mNG π : Nat) : Int)) j10 (show G.1 (y + 10) = (10, 6) from (hYr 9 _ rfl).1) rfl (by omega) (by omega) dX9_goes_11 ?_
      refine v_icmp_ge ⟨by omega, by omega⟩ ⟨by omega, by omega⟩ dX9_goes_12 (fun h => by exfalso; omega) (fun hb12 => ?_)
      refine v_bipush dX9_goes_15 (by decide) ?_
      refine v_aload_n dX9_goes_17 rfl ?_
      refine v_getI' (v := ((i : Nat) : Int)) nJ fX9_181 rfl hTy dX9_goes_18 ?_
      refine v_imul dX9_goes_21 ?_
      refine v_iload_n dX9_goes_22 rfl ?_
      refine v_iadd dX9_goes_23 ?_
      refine v_istore_n dX9_goes_24 (by decide) rfl ?_
      rw [show (6 * ((i : Nat) : Int) + ((g : Nat) : Int)) = ((6 * i + g : Nat) : Int) by omega]
      obtain ⟨h, hh⟩ : ∃ h, h = 6 * i + g := ⟨_, rfl⟩
      rw [← hh]
      have hgr := j11 g hg
      rw [← hh] at hgr
      obtain ⟨r11, r12, r13, r14⟩ := hgr
      refine v_aload_n dX9_goes_25 rfl ?_
      refine v_getI' (v := ((p : Nat) : Int)) aJ fX9_184 rfl hTy dX9_goes_26 ?_
      refine v_aload_n dX9_goes_29 rfl ?_
      refine v_getR fX9_45 rfl hTy (hYr 10 _ rfl).2 dX9_goes_30 ?_
      refine v_iload_n dX9_goes_33 rfl ?_
      refine v_iald' (i := h) (v := mGf π g) r11 (show G.1 (y + 11) = (10, 36) from (hYr 10 _ rfl).1) rfl (by omega) (by omega) dX9_goes_34 ?_
      refine v_aload_n dX9_goes_35 rfl ?_
      refine v_getR fX9_48 rfl hTy (hYr 11 _ rfl).2 dX9_goes_36 ?_
      refine v_iload_n dX9_goes_39 rfl ?_
      refine v_iald' (i := h) (v := mGt π g) r12 (show G.1 (y + 12) = (10, 36) from (hYr 11 _ rfl).1) rfl (by omega) (by omega) dX9_goes_40 ?_
      refine v_iconst dX9_goes_41 ?_
      refine v_isub dX9_goes_42 ?_
      refine v_Sb (tX9_in ⟨by omega, by omega⟩ ⟨by omega, by omega⟩ ⟨by omega, by omega⟩) kX9_99 rfl rfl ⟨by decide, by decide⟩ ⟨by decide, by decide⟩ (Nat.le_of_ble_eq_true rfl) dX9_goes_43 (fun h1 => ?_) (fun h1 => ?_)
      · refine v_if_eq ⟨by decide, by decide⟩ dX9_goes_46 (fun h => by exfalso; omega) (fun hb46 => ?_)
        refine v_aload_n dX9_goes_49 rfl ?_
        refine v_iload_n dX9_goes_50 rfl ?_
        refine v_Vi (tX9_hands (⟨hTy, hYr⟩ : isY G y) hi nJ (κ := κ1) (p := p) qJ hKJ hMJ aJ hp hRJ (ρ := ρ1) hφJ hgd hg hh) kX9_216 hTy rfl rfl ⟨by decide, by decide⟩ ⟨by decide, by decide⟩ (Nat.le_of_ble_eq_true rfl) dX9_goes_51 (fun r4 G9 J2 hr4 pJ2 rng3 => ?_)
        obtain ⟨hG9, oJ2, ⟨rfl, zJ2, bJ2, kJ2⟩ | ⟨rfl, zJ2, bJ2, kJ2⟩⟩ := pJ2
        all_goals obtain rfl := hG9.symm
        · refine v_if_ne ⟨by decide, by decide⟩ dX9_goes_54 (fun hb54 => ?_) (fun h => by exfalso; omega)
          refine v_iinc dX9_goes_59 rfl (by decide) rfl rfl ?_
          refine v_goto dX9_goes_62 ?_
          have hR2 := hRJ.hd (ρ := ρ1) hq hgd hg hp hφJ
          exact ih (g + 1) _ _ J2 _ (by omega) kJ2 (hoJ.tr oJ2) (bJ2.trans h28) hR2.1 hR2.2 ((hands_ok (by omega) hgh0 zJ2).symm.trans hE) rng3
        · refine v_if_ne ⟨by decide, by decide⟩ dX9_goes_54 (fun h => by exfalso; omega) (fun hb54 => ?_)
          refine v_iconst dX9_goes_57 ?_
          have qb := hands_bad (j := mm) (by omega) hgh0 zJ2
          rw [hE] at qb
          rw [bd_bad qb zJ2]
          exact v_zret rfl (by decide) (by decide) (Or.inl rfl) dX9_goes_58 ⟨rfl, hoJ.tr oJ2, Or.inr ⟨rfl, zJ2, bJ2, kJ2⟩⟩
      · refine v_if_eq ⟨by decide, by decide⟩ dX9_goes_46 (fun hb46 => ?_) (fun h => by exfalso; omega)
        refine v_iinc dX9_goes_59 rfl (by decide) rfl rfl ?_
        refine v_goto dX9_goes_62 ?_
        exact ih (g + 1) κ1 ρ1 J _ (by omega) hKJ hoJ h28 hRJ hφJ ((hands_no (by omega)).symm.trans hE) rngJ
  exact loop (mNG π) 0 κ ρ I _ (by omega) hK offC.rf rfl hR hφ0 rfl rng
