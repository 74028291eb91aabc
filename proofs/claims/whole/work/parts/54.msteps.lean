/-! ===== the reference: steps ===== -/
def yfr (I : w_Mm) (y : Nat) (φ : fS) : Prop := I y 27 = φ.1 ∧ 0 ≤ φ.1 ∧ φ.1 ≤ 8 ∧ (∀ k, k < 8 → I (y + 24) k = φ.2.1 k) ∧ ∀ k : Nat, (k : Int) < φ.1 → I (y + 25) k = φ.2.2 k
def offT (I J : w_Mm) (y : Nat) : Prop := ∀ a k, ¬ (a = y ∧ (k = 27 ∨ k = 28)) → a ≠ y + 24 → a ≠ y + 25 → J a k = I a k
theorem offT.rf {I : w_Mm} {y : Nat} : offT I I y := fun _ _ _ _ _ => rfl
theorem offT.tr {I J K : w_Mm} {y : Nat} (h : offT I J y) (g : offT J K y) : offT I K y := fun a k h1 h2 h3 => (g a k h1 h2 h3).trans (h a k h1 h2 h3)
theorem clsY.T {I J : w_Mm} {y : Nat} {Q : cS} (h : clsY I y Q) (o : offT I J y) : clsY J y Q := h.off (o _ _ (by omega) (by omega) (by omega)) (funext fun k => o _ _ (by omega) (by omega) (by omega)) (funext fun k => o _ _ (by omega) (by omega) (by omega))
theorem yM.T {I J : w_Mm} {y i : Nat} {π : mS} (h : yM I y i π) (o : offT I J y) : yM J y i π := h.off (fun a k h1 h2 => o a k (by unfold own at h1; omega) (by omega) (by omega))
def sPost (y : Nat) (I J : w_Mm) (r : Int) (σ : sS) : Prop := offT I J y ∧ ((r = 1 ∧ σ.1 = 0 ∧ yfr J y σ.2 ∧ J y 28 = I y 28) ∨ (r = 0 ∧ ¬ σ.1 = 0 ∧ J y 28 = σ.1))
/-- a kind of a method with N places -/
abbrev knK (Q : cS) (N : Nat) (k : Int) : Prop := (0 ≤ k ∧ k ≤ 5) ∨ ofC Q k ∨ (100 ≤ k ∧ k < 100 + (N : Int))
theorem knK.known {Q : cS} {N : Nat} {k : Int} (h : knK Q N k) (hN : N ≤ 40) : knownK Q k := by
  rcases h with h | h | h
  · exact Or.inl h
  · exact Or.inr (Or.inl h)
  · exact Or.inr (Or.inr ⟨h.1, by omega⟩)
def knP (Q : cS) (N : Nat) (φ : fS) : Prop := ∀ k : Nat, (k : Int) < φ.1 → knK Q N (φ.2.2 k)
theorem xBrk_st {σ : sS} {n : Int} (h : ¬ σ.1 = 0) : xBrk σ n = σ := by
  unfold xBrk; rw [if_neg h]
theorem xBrk_0 {σ : sS} {n : Int} (h : σ.1 = 0) : xBrk σ n = (n, σ.2) := by
  unfold xBrk; rw [if_pos h]
theorem xW_st {σ : sS} {n r : Int} (h : ¬ σ.1 = 0) : xW σ n r = σ := by
  unfold xW; split
  · exact xBrk_st h
  · rfl
theorem xTA_st {σ : sS} (h : ¬ σ.1 = 0) : xTA σ = (0, σ) := by
  unfold xTA; rw [xW_st h, if_neg h]
theorem xTA_lo {σ : sS} (h : σ.1 = 0) (h1 : σ.2.1 < 1) : xTA σ = (0, (2, σ.2)) := by
  unfold xTA
  rw [show xW σ 1 2 = (2, σ.2) from (if_pos h1).trans (xBrk_0 h), if_neg (show ¬ (2 : Int) = 0 by decide)]
theorem xTA_hi {σ : sS} (h : σ.1 = 0) (h1 : 1 ≤ σ.2.1) : xTA σ = (σ.2.2.2 (σ.2.1 - 1).toNat, (σ.1, (σ.2.1 - 1, σ.2.2))) := by
  unfold xTA
  rw [show xW σ 1 2 = σ from if_neg (by omega), if_pos h]
  unfold fTop xDn
  rw [if_pos (by omega)]
theorem xTL_st {σ : sS} (h : ¬ σ.1 = 0) : xTL σ = σ := by
  have e : xTL0 σ = σ := by
    unfold xTL0; rw [xW_st h, xBrk_st h]; split <;> rfl
  unfold xTL; rw [e, if_neg h]
theorem xTake_st {Q : cS} {σ : sS} {kd : Int} (h : ¬ σ.1 = 0) : xTake Q σ kd = σ := by
  unfold xTake
  rw [xTL_st h, xTA_st h, xBrk_st h]
  split
  · rfl
  · split
    · rfl
    · split <;> rfl
theorem xLay0_2 {σ : sS} {kd : Int} : (xLay0 σ kd).2 = σ.2 := by
  by_cases q : 8 < σ.2.1 + (if kd = 2 then 2 else 1)
  · rw [show xLay0 σ kd = xBrk σ 1 from if_pos q]; rfl
  · rw [show xLay0 σ kd = σ from if_neg q]
theorem xLay_st {σ : sS} {kd : Int} (h : ¬ σ.1 = 0) : xLay σ kd = σ := by
  have e : xLay0 σ kd = σ := by
    by_cases q : 8 < σ.2.1 + (if kd = 2 then 2 else 1)
    · exact (if_pos q).trans (xBrk_st h)
    · exact if_neg q
  unfold xLay; rw [e, if_neg h]; split <;> rfl
theorem xChk_st {σ : sS} {P : Prop} [Decidable P] {n : Int} (h : ¬ σ.1 = 0) : xChk σ P n = σ := by
  unfold xChk; rw [xBrk_st h]; split <;> rfl
theorem xPut_st {σ : sS} {i : Nat} {kd : Int} (h : ¬ σ.1 = 0) : xPut σ i kd = σ := by
  unfold xPut; rw [if_neg h]
theorem xChk_y {σ : sS} {P : Prop} [Decidable P] {n : Int} (h : P) : xChk σ P n = σ := by
  unfold xChk; rw [if_pos h]
theorem xChk_n {σ : sS} {P : Prop} [Decidable P] {n : Int} (h : ¬ P) : xChk σ P n = xBrk σ n := by
  unfold xChk; rw [if_neg h]
/-- what a step leaves of height, locals, pile -/
theorem xTA_2 {σ : sS} : (xTA σ).2.2.2 = σ.2.2 := by
  by_cases h : σ.1 = 0
  · by_cases h1 : σ.2.1 < 1
    · rw [xTA_lo h h1]
    · rw [xTA_hi h (by omega)]
  · rw [xTA_st h]
theorem xTA_h {σ : sS} : (xTA σ).2.2.1 ≤ σ.2.1 := by
  by_cases h : σ.1 = 0
  · by_cases h1 : σ.2.1 < 1
    · rw [xTA_lo h h1]; exact Int.le_refl _
    · rw [xTA_hi h (by omega)]; show σ.2.1 - 1 ≤ σ.2.1; omega
  · rw [xTA_st h]; exact Int.le_refl _
theorem xBrk_2 {σ : sS} {n : Int} : (xBrk σ n).2 = σ.2 := rfl
theorem xChk_2 {σ : sS} {P : Prop} [Decidable P] {n : Int} : (xChk σ P n).2 = σ.2 := by
  unfold xChk; split <;> rfl
theorem xTL_2 {σ : sS} : (xTL σ).2.2 = σ.2.2 ∧ (xTL σ).2.1 ≤ σ.2.1 := by
  have e : (xTL0 σ).2 = σ.2 := by
    unfold xTL0; split
    · exact xW_2
    · exact xW_2
  unfold xTL xDn
  split
  · rw [e]; exact ⟨rfl, show σ.2.1 - 2 ≤ σ.2.1 by omega⟩
  · rw [e]; exact ⟨rfl, Int.le_refl _⟩
theorem xTake_2 {Q : cS} {σ : sS} {kd : Int} : (xTake Q σ kd).2.2 = σ.2.2 ∧ (xTake Q σ kd).2.1 ≤ σ.2.1 := by
  unfold xTake
  split
  · exact xTL_2
  · split
    · exact ⟨rfl, Int.le_refl _⟩
    · split
      · exact ⟨xTA_2, xTA_h⟩
      · exact ⟨xTA_2, xTA_h⟩
theorem xLay_L {σ : sS} {kd : Int} : (xLay σ kd).2.2.1 = σ.2.2.1 := by
  unfold xLay
  split
  · rfl
  · have e : (xLay0 σ kd).2 = σ.2 := xLay0_2
    split
    · show (xLay0 σ kd).2.2.1 = _
      rw [e]
    · rw [e]
section Kn
variable {Q : cS} {N : Nat}
theorem knP.le {φ ψ : fS} (h : knP Q N φ) (h1 : ψ.2.2 = φ.2.2) (h2 : ψ.1 ≤ φ.1) : knP Q N ψ := fun k hk => by
  rw [h1]; exact h k (by omega)
theorem knP.take {σ : sS} {kd : Int} (h : knP Q N σ.2) : knP Q N (xTake Q σ kd).2 := h.le (by rw [xTake_2.1]) xTake_2.2
theorem knP.ta {σ : sS} (h : knP Q N σ.2) : knP Q N (xTA σ).2.2 := h.le (by rw [xTA_2]) xTA_h
theorem knP.chk {σ : sS} {P : Prop} [Decidable P] {n : Int} (h : knP Q N σ.2) : knP Q N (xChk σ P n).2 := by rw [xChk_2]; exact h
theorem knP.top {σ : sS} (h : knP Q N σ.2) : knK Q N (xTA σ).1 := by
  by_cases h0 : σ.1 = 0
  · by_cases h1 : σ.2.1 < 1
    · rw [xTA_lo h0 h1]; exact Or.inl ⟨Int.le_refl (0 : Int), show (0 : Int) ≤ 5 by decide⟩
    · rw [xTA_hi h0 (by omega)]; exact h _ (by omega)
  · rw [xTA_st h0]; exact Or.inl ⟨Int.le_refl (0 : Int), show (0 : Int) ≤ 5 by decide⟩
theorem knP.lay {σ : sS} {kd : Int} (h : knP Q N σ.2) (h0 : 0 ≤ σ.2.1) (hk : knK Q N kd) : knP Q N (xLay σ kd).2 := by
  unfold xLay
  split
  · exact h
  · have e : (xLay0 σ kd).2 = σ.2 := xLay0_2
    split
    · intro k hq
      have hq : (k : Int) < (xLay0 σ kd).2.1 + (if kd = 2 then 2 else 1) := hq
      show knK Q N ((if kd = 2 then uL (uL (xLay0 σ kd).2.2.2 (xLay0 σ kd).2.1.toNat kd) ((xLay0 σ kd).2.1 + 1).toNat 3 else uL (xLay0 σ kd).2.2.2 (xLay0 σ kd).2.1.toNat kd) k)
      rw [e] at hq ⊢
      have h2 := h k
      split
      · rename_i e2
        rw [if_pos e2] at hq
        unfold uL
        split
        · exact Or.inl ⟨by decide, by decide⟩
        · split
          · exact hk
          · exact h2 (by omega)
      · rename_i e2
        rw [if_neg e2] at hq
        unfold uL
        split
        · exact hk
        · exact h2 (by omega)
    · rw [e]; exact h
end Kn
/-- LONGS in locals are whole -/
def pW (L : Nat → Int) : Prop := ∀ k, k < 8 → (L k = 2 → k + 1 < 8 ∧ L (k + 1) = 3) ∧ (L k = 3 → 1 ≤ k ∧ L (k - 1) = 2)
def putY (L : Nat → Int) (a : Nat) (kd : Int) : Nat → Int := uL (if L a = 2 then uL L (a + 1) 0 else if L a = 3 then uL L (a - 1) 0 else L) a kd
theorem lng_i {L : Nat → Int} {a : Nat} (h : pW L) (ha : a < 8) : lngAt L (a : Int) ↔ L a = 2 := by
  constructor
  · intro q; exact q.2.2.1
  · intro q
    have := (h a ha).1 q
    exact ⟨by omega, by omega, q, by rw [show ((a : Int) + 1).toNat = a + 1 by omega]; exact this.2⟩
theorem lng_p {L : Nat → Int} {a : Nat} (h : pW L) (ha : a < 8) : lngAt L ((a : Int) - 1) ↔ L a = 3 := by
  constructor
  · intro q
    have := q.2.2.2
    rw [show ((a : Int) - 1 + 1).toNat = a by omega] at this
    exact this
  · intro q
    have := (h a ha).2 q
    exact ⟨by omega, by omega, by rw [show ((a : Int) - 1).toNat = a - 1 by omega]; exact this.2, by rw [show ((a : Int) - 1 + 1).toNat = a by omega]; exact q⟩
theorem putY_eq {L : Nat → Int} {a : Nat} {kd : Int} (h : pW L) (ha : a < 8) : putY L a kd = uL (brkL L (a : Int)) a kd := by
  unfold putY brkL
  by_cases h2 : L a = 2
  · rw [if_pos h2, if_pos ((lng_i h ha).mpr h2)]; rfl
  · rw [if_neg h2, if_neg (fun q => h2 ((lng_i h ha).mp q))]
    by_cases h3 : L a = 3
    · rw [if_pos h3, if_pos ((lng_p h ha).mpr h3), show ((a : Int) - 1).toNat = a - 1 by omega]
    · rw [if_neg h3, if_neg (fun q => h3 ((lng_p h ha).mp q))]
theorem pW.put {L : Nat → Int} {a : Nat} {kd : Int} (h : pW L) (ha : a < 8) (h2 : ¬ kd = 2) (h3 : ¬ kd = 3) : pW (putY L a kd) := by
  intro k hk
  have e : ∀ j, putY L a kd j = if j = a then kd else if L a = 2 ∧ j = a + 1 then 0 else if L a = 3 ∧ j = a - 1 then 0 else L j := fun j => by
    unfold putY uL
    by_cases q : j = a
    · simp [q]
    · by_cases q2 : L a = 2
      · by_cases q3 : j = a + 1
        · simp [q2, q3]
        · simp [q, q2, q3]
      · by_cases q4 : L a = 3
        · by_cases q3 : j = a - 1
          · have u1 : ¬ (L a = 2 ∧ j = a + 1) := fun r => q2 r.1
            have u2 : L a = 3 ∧ j = a - 1 := ⟨q4, q3⟩
            rw [if_neg q, if_neg q, if_neg u1, if_pos u2, if_neg q2, if_pos q4, if_pos q3]
          · simp [q, q4, q3]
        · simp [q, q2, q4]
  have ha2 := h a ha
  have hk2 := h k hk
  by_cases c1 : k = a
  · have ek : putY L a kd k = kd := by rw [e k, if_pos c1]
    exact ⟨fun q => absurd (ek.symm.trans q) h2, fun q => absurd (ek.symm.trans q) h3⟩
  · by_cases c2 : L a = 2 ∧ k = a + 1
    · have ek : putY L a kd k = 0 := by rw [e k, if_neg c1, if_pos c2]
      exact ⟨fun q => absurd (ek.symm.trans q) (by decide), fun q => absurd (ek.symm.trans q) (by decide)⟩
    · by_cases c3 : L a = 3 ∧ k = a - 1
      · have ek : putY L a kd k = 0 := by rw [e k, if_neg c1, if_neg c2, if_pos c3]
        exact ⟨fun q => absurd (ek.symm.trans q) (by decide), fun q => absurd (ek.symm.trans q) (by decide)⟩
      · have ek : putY L a kd k = L k := by rw [e k, if_neg c1, if_neg c2, if_neg c3]
        refine ⟨fun q => ?_, fun q => ?_⟩
        · have g := hk2.1 (ek.symm.trans q)
          refine ⟨g.1, ?_⟩
          rw [e (k + 1), if_neg (fun r : k + 1 = a => c3 ⟨by rw [← r]; exact g.2, by omega⟩), if_neg (fun r => c1 (by omega)), if_neg (fun r => by
            have e6 := (ha2.2 r.1).2
            rw [← r.2, g.2] at e6
            exact absurd e6 (by decide))]
          exact g.2
        · have g := hk2.2 (ek.symm.trans q)
          refine ⟨g.1, ?_⟩
          rw [e (k - 1), if_neg (fun r : k - 1 = a => c2 ⟨by rw [← r]; exact g.2, by omega⟩), if_neg (fun r => by
            have e6 := (ha2.1 r.1).2
            rw [← r.2, g.2] at e6
            exact absurd e6 (by decide)), if_neg (fun r => by
            have e6 := (ha2.2 r.1).1
            exact c1 (by omega))]
          exact g.2
/-- a LONG into a and a + 1 -/
theorem putL_eq {L : Nat → Int} {a : Nat} (h : pW L) (ha : a < 7) : uL (putY (putY L a 2) (a + 1) 3) a 2 = uL (brkL (uL (brkL L (a : Int)) a 2) ((a + 1 : Nat) : Int)) (a + 1) 3 ∧ (putY L a 2 (a + 1) = 2 → a + 2 < 8) := by
  rw [← putY_eq h (by omega)]
  have ha2 := h a (by omega)
  have hb2 := h (a + 1) (by omega)
  have e0 : putY L a 2 a = 2 := uL_s
  have e1 : putY L a 2 (a + 1) = if L a = 2 then 0 else L (a + 1) := by
    unfold putY
    rw [uL_n (by omega)]
    by_cases q : L a = 2
    · rw [if_pos q, if_pos q, uL_s]
    · rw [if_neg q, if_neg q]
      split
      · rw [uL_n (by omega)]
      · rfl
  have e2 : ∀ j, a + 2 ≤ j → putY L a 2 j = L j := fun j hj => by
    unfold putY
    rw [uL_n (by omega)]
    split
    · rw [uL_n (by omega)]
    · split
      · rw [uL_n (by omega)]
      · rfl
  have n3 : ¬ putY L a 2 (a + 1) = 3 := by
    rw [e1]
    split
    · decide
    · rename_i q
      intro r
      have := hb2.2 r
      exact q this.2
  refine ⟨?_, fun q => ?_⟩
  · have hx : ¬ lngAt (putY L a 2) (((a + 1 : Nat) : Int) - 1) := fun q => by
      have := q.2.2.2
      rw [show (((a + 1 : Nat) : Int) - 1 + 1).toNat = a + 1 by omega] at this
      exact n3 this
    have hy : lngAt (putY L a 2) ((a + 1 : Nat) : Int) ↔ putY L a 2 (a + 1) = 2 := by
      constructor
      · intro q; exact q.2.2.1
      · intro q
        have q2 : L (a + 1) = 2 := by
          rw [e1] at q
          split at q
          · exact absurd q (by decide)
          · exact q
        have g := hb2.1 q2
        refine ⟨by omega, by omega, q, ?_⟩
        rw [show (((a + 1 : Nat) : Int) + 1).toNat = a + 2 by omega, e2 (a + 2) (by omega)]
        exact g.2
    funext j
    unfold brkL
    rw [if_neg hx]
    by_cases q : putY L a 2 (a + 1) = 2
    · rw [if_pos (hy.mpr q)]
      show uL (uL (if putY L a 2 (a + 1) = 2 then uL (putY L a 2) (a + 1 + 1) 0 else if putY L a 2 (a + 1) = 3 then uL (putY L a 2) (a + 1 - 1) 0 else putY L a 2) (a + 1) 3) a 2 j = _
      rw [if_pos q]
      by_cases j0 : j = a
      · subst j0
        rw [uL_s, uL_n (by omega), uL_n (by omega)]; exact e0.symm
      · rw [uL_n j0]; rfl
    · rw [if_neg (fun r => q (hy.mp r))]
      show uL (uL (if putY L a 2 (a + 1) = 2 then uL (putY L a 2) (a + 1 + 1) 0 else if putY L a 2 (a + 1) = 3 then uL (putY L a 2) (a + 1 - 1) 0 else putY L a 2) (a + 1) 3) a 2 j = _
      rw [if_neg q, if_neg n3]
      by_cases j0 : j = a
      · subst j0
        rw [uL_s, uL_n (by omega)]; exact e0.symm
      · rw [uL_n j0]
  · rw [e1] at q
    split at q
    · exact absurd q (by decide)
    · have := (hb2.1 q).1
      omega
