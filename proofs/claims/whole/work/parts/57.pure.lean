/-- while no rule is broken, the frame is one as THE WORK makes it -/
def gO (Q : cS) (N : Nat) (σ : sS) : Prop := σ.1 = 0 → okF Q N σ.2 ∧ 0 ≤ σ.2.1 ∧ σ.2.1 ≤ 8
theorem gO.st {Q : cS} {N : Nat} {σ : sS} (h : ¬ σ.1 = 0) : gO Q N σ := fun e => absurd e h
theorem okF.pop {Q : cS} {N : Nat} {φ : fS} (h : okF Q N φ) (h3 : ¬ φ.2.2 (φ.1 - 1).toNat = 3) : okF Q N (φ.1 - 1, φ.2) := by
  obtain ⟨h1, h2, h4, h5⟩ := h
  refine ⟨h1, h2, fun k hk => h4 k (by have : (k : Int) < φ.1 - 1 := hk; omega), fun k hk => ?_⟩
  have hk' : (k : Int) < φ.1 - 1 := hk
  obtain ⟨u1, u2⟩ := h5 k (by omega)
  refine ⟨u1, fun q => ?_⟩
  obtain ⟨v1, v2⟩ := u2 q
  refine ⟨?_, v2⟩
  show (k : Int) + 1 < φ.1 - 1
  by_cases e : (k : Int) + 1 = φ.1 - 1
  · have e2 : (φ.1 - 1).toNat = k + 1 := by omega
    rw [e2] at h3
    exact absurd v2 h3
  · omega
theorem okF.pop2 {Q : cS} {N : Nat} {φ : fS} (h : okF Q N φ) (hl : lngTop φ) : okF Q N (φ.1 - 2, φ.2) := by
  obtain ⟨h1, h2, h4, h5⟩ := h
  obtain ⟨l1, l2, l3⟩ := hl
  refine ⟨h1, h2, fun k hk => h4 k (by have : (k : Int) < φ.1 - 2 := hk; omega), fun k hk => ?_⟩
  have hk' : (k : Int) < φ.1 - 2 := hk
  obtain ⟨u1, u2⟩ := h5 k (by omega)
  refine ⟨u1, fun q => ?_⟩
  obtain ⟨v1, v2⟩ := u2 q
  refine ⟨?_, v2⟩
  show (k : Int) + 1 < φ.1 - 2
  by_cases e : (k : Int) + 1 = φ.1 - 2
  · have e2 : (φ.1 - 2).toNat = k + 1 := by omega
    rw [e2, v2] at l3
    exact absurd l3 (by decide)
  · omega
theorem xBrk_no {σ : sS} {n : Int} (h : ¬ n = 0) : ¬ (xBrk σ n).1 = 0 := xBrk_ne h
theorem gO.chk {Q : cS} {N : Nat} {σ : sS} {P : Prop} [Decidable P] {n : Int} (h : gO Q N σ) (hn : ¬ n = 0) : gO Q N (xChk σ P n) := by
  unfold xChk
  split
  · exact h
  · exact gO.st (xBrk_ne hn)
theorem gO.ta {Q : cS} {N : Nat} {σ : sS} {P : Prop} [Decidable P] {n : Int} (h : gO Q N σ) (hn : ¬ n = 0) (hP : P → ¬ (xTA σ).1 = 3) : gO Q N (xChk (xTA σ).2 P n) := by
  unfold xChk
  split
  · rename_i hp
    have h3 := hP hp
    by_cases h0 : σ.1 = 0
    · by_cases h1 : 1 ≤ σ.2.1
      · rw [xTA_hi h0 h1] at h3 ⊢
        intro _
        obtain ⟨g1, g2, g3⟩ := h h0
        exact ⟨g1.pop h3, show 0 ≤ σ.2.1 - 1 by omega, show σ.2.1 - 1 ≤ 8 by omega⟩
      · rw [xTA_lo h0 (by omega)]
        exact gO.st (show ¬ (2 : Int) = 0 by decide)
    · rw [xTA_st h0]; exact gO.st h0
  · exact gO.st (xBrk_ne hn)
theorem gO.take {Q : cS} {N : Nat} {σ : sS} {kd : Int} (h : gO Q N σ) (h3 : ¬ kd = 3) : gO Q N (xTake Q σ kd) := by
  by_cases h0 : σ.1 = 0
  · by_cases k2 : kd = 2
    · subst k2
      have e : xTake Q σ 2 = xTL σ := by unfold xTake; rw [if_pos rfl]
      rw [e]
      obtain ⟨g1, g2, g3⟩ := h h0
      by_cases hl : lngTop σ.2
      · rw [xTL_ok h0 hl]
        exact fun _ => ⟨g1.pop2 hl, show 0 ≤ σ.2.1 - 2 by have := hl.1; omega, show σ.2.1 - 2 ≤ 8 by omega⟩
      · by_cases h1 : 2 ≤ σ.2.1
        · exact gO.st (by rw [xTL_no h0 h1 hl]; decide)
        · exact gO.st (by rw [xTL_lo h0 (by omega)]; decide)
    · by_cases k0 : kd = 0
      · subst k0
        have e : xTake Q σ 0 = σ := by unfold xTake; rw [if_neg (by decide), if_pos rfl]
        rw [e]; exact h
      · have e : xTake Q σ kd = xChk (xTA σ).2 (fitK Q (xTA σ).1 kd) 3 := by unfold xTake xChk; rw [if_neg k2, if_neg k0]
        rw [e]
        refine h.ta (by decide) (fun hf e3 => ?_)
        rw [e3] at hf
        unfold fitK kThing kRow kRef at hf
        omega
  · rw [xTake_st h0]; exact h
theorem uL_v {L : Nat → Int} {i k : Nat} {z : Int} : uL L i z k = if k = i then z else L k := rfl
theorem gO.lay {Q : cS} {N : Nat} {σ : sS} {kd : Int} (h : gO Q N σ) (hk : knK Q N kd) (h3 : ¬ kd = 3) : gO Q N (xLay σ kd) := by
  by_cases h0 : σ.1 = 0
  · by_cases k0 : kd = 0
    · subst k0; rw [xLay_0]; exact h
    · by_cases h8 : 8 < σ.2.1 + (if kd = 2 then 2 else 1)
      · exact gO.st (by rw [xLay_hi h0 k0 h8]; decide)
      · rw [xLay_ok h0 k0 h8]
        obtain ⟨⟨g1, g2, g3, g4⟩, g5, g6⟩ := h h0
        intro _
        have hh : ((σ.2.1.toNat : Nat) : Int) = σ.2.1 := by omega
        by_cases k2 : kd = 2
        · subst k2
          rw [if_pos rfl] at h8
          have e1 : (σ.2.1 + 1).toNat = σ.2.1.toNat + 1 := by omega
          have e : xLayP σ 2 = (σ.1, (σ.2.1 + 2, σ.2.2.1, uL (uL σ.2.2.2 σ.2.1.toNat 2) (σ.2.1.toNat + 1) 3)) := by unfold xLayP; rw [if_pos rfl, if_pos rfl, e1]
          rw [e]
          refine ⟨⟨g1, g2, fun k hk' => ?_, fun k hk' => ?_⟩, show 0 ≤ σ.2.1 + 2 by omega, show σ.2.1 + 2 ≤ 8 by omega⟩
          · have hk2 : (k : Int) < σ.2.1 + 2 := hk'
            show knK Q N (uL (uL σ.2.2.2 σ.2.1.toNat 2) (σ.2.1.toNat + 1) 3 k)
            rw [uL_v, uL_v]
            split
            · exact Or.inl ⟨by decide, by decide⟩
            · split
              · exact Or.inl ⟨by decide, by decide⟩
              · exact g3 k (by omega)
          · have hk2 : (k : Int) < σ.2.1 + 2 := hk'
            show ¬ uL (uL σ.2.2.2 σ.2.1.toNat 2) (σ.2.1.toNat + 1) 3 k = 0 ∧ (uL (uL σ.2.2.2 σ.2.1.toNat 2) (σ.2.1.toNat + 1) 3 k = 2 → (k : Int) + 1 < σ.2.1 + 2 ∧ uL (uL σ.2.2.2 σ.2.1.toNat 2) (σ.2.1.toNat + 1) 3 (k + 1) = 3)
            rw [uL_v, uL_v, uL_v, uL_v]
            by_cases c1 : k = σ.2.1.toNat + 1
            · rw [if_pos c1]; exact ⟨by decide, fun q => absurd q (by decide)⟩
            · rw [if_neg c1]
              by_cases c2 : k = σ.2.1.toNat
              · rw [if_pos c2, if_pos (by omega)]; exact ⟨by decide, fun _ => ⟨by omega, rfl⟩⟩
              · obtain ⟨u1, u2⟩ := g4 k (by omega)
                rw [if_neg c2, if_neg (by omega)]
                refine ⟨u1, fun q => ?_⟩
                obtain ⟨v1, v2⟩ := u2 q
                rw [if_neg (by omega)]
                exact ⟨by omega, v2⟩
        · rw [if_neg k2] at h8
          have e : xLayP σ kd = (σ.1, (σ.2.1 + 1, σ.2.2.1, uL σ.2.2.2 σ.2.1.toNat kd)) := by unfold xLayP; rw [if_neg k2, if_neg k2]
          rw [e]
          refine ⟨⟨g1, g2, fun k hk' => ?_, fun k hk' => ?_⟩, show 0 ≤ σ.2.1 + 1 by omega, show σ.2.1 + 1 ≤ 8 by omega⟩
          · have hk2 : (k : Int) < σ.2.1 + 1 := hk'
            show knK Q N (uL σ.2.2.2 σ.2.1.toNat kd k)
            rw [uL_v]
            split
            · exact hk
            · exact g3 k (by omega)
          · have hk2 : (k : Int) < σ.2.1 + 1 := hk'
            show ¬ uL σ.2.2.2 σ.2.1.toNat kd k = 0 ∧ (uL σ.2.2.2 σ.2.1.toNat kd k = 2 → (k : Int) + 1 < σ.2.1 + 1 ∧ uL σ.2.2.2 σ.2.1.toNat kd (k + 1) = 3)
            rw [uL_v, uL_v]
            by_cases c2 : k = σ.2.1.toNat
            · rw [if_pos c2]; exact ⟨k0, fun q => absurd q k2⟩
            · obtain ⟨u1, u2⟩ := g4 k (by omega)
              rw [if_neg c2]
              refine ⟨u1, fun q => ?_⟩
              obtain ⟨v1, v2⟩ := u2 q
              rw [if_neg (by omega)]
              exact ⟨by omega, v2⟩
  · rw [xLay_st h0]; exact h
theorem kn_putY {Q : cS} {N : Nat} {L : Nat → Int} {a : Nat} {kd : Int} (h : ∀ k, k < 8 → knK Q N (L k)) (hk : knK Q N kd) : ∀ k, k < 8 → knK Q N (putY L a kd k) := by
  intro k h8
  unfold putY
  rw [uL_v]
  split
  · exact hk
  · split
    · rw [uL_v]; split
      · exact Or.inl ⟨by decide, by decide⟩
      · exact h k h8
    · split
      · rw [uL_v]; split
        · exact Or.inl ⟨by decide, by decide⟩
        · exact h k h8
      · exact h k h8
theorem okF.loc {Q : cS} {N : Nat} {φ : fS} {L : Nat → Int} (h : okF Q N φ) (h1 : ∀ k, k < 8 → knK Q N (L k)) (h2 : pW L) : okF Q N (φ.1, L, φ.2.2) := ⟨h1, h2, h.2.2.1, h.2.2.2⟩
theorem gO.put {Q : cS} {N : Nat} {σ : sS} {i : Nat} {kd : Int} (h : gO Q N σ) (hi : i < 8) (hk : knK Q N kd) (h2 : ¬ kd = 2) (h3 : ¬ kd = 3) : gO Q N (xPut σ i kd) := by
  unfold xPut
  split
  · rename_i h0
    intro _
    obtain ⟨g1, g5, g6⟩ := h h0
    refine ⟨?_, g5, g6⟩
    show okF Q N (σ.2.1, uL (brkL σ.2.2.1 (i : Int)) i kd, σ.2.2.2)
    rw [← putY_eq g1.2.1 hi]
    exact g1.loc (kn_putY g1.1 hk) (g1.2.1.put hi h2 h3)
  · exact h
theorem pW_putL {L : Nat → Int} {a : Nat} (h : pW L) (ha : a < 7) : pW (uL (putY (putY L a 2) (a + 1) 3) a 2) := by
  have p2 : ∀ j, j < 8 → (L j = 2 → j + 1 < 8 ∧ L (j + 1) = 3) ∧ (L j = 3 → 1 ≤ j ∧ L (j - 1) = 2) := h
  have e : ∀ j, uL (putY (putY L a 2) (a + 1) 3) a 2 j = if j = a then 2 else if j = a + 1 then 3 else if L a = 3 ∧ j + 1 = a then 0 else if L (a + 1) = 2 ∧ j = a + 2 then 0 else L j := by
    intro j
    have f0 : putY L a 2 (a + 1) = if L a = 2 then 0 else L (a + 1) := by
      unfold putY
      rw [uL_n (by omega)]
      by_cases q : L a = 2
      · rw [if_pos q, if_pos q, uL_s]
      · rw [if_neg q, if_neg q]
        split
        · rw [uL_n (by omega)]
        · rfl
    have n3 : ¬ putY L a 2 (a + 1) = 3 := by
      rw [f0]
      split
      · decide
      · rename_i q
        intro r
        exact q ((p2 (a + 1) (by omega)).2 r).2
    have f1 : ∀ i, i ≠ a → i ≠ a + 1 → putY L a 2 i = if L a = 3 ∧ i + 1 = a then 0 else L i := fun i h1 h2 => by
      unfold putY
      rw [uL_n h1]
      by_cases q : L a = 2
      · rw [if_pos q, uL_n h2, if_neg (by omega)]
      · rw [if_neg q]
        by_cases q3 : L a = 3
        · have := ((p2 a (by omega)).2 q3).1
          rw [if_pos q3, uL_v]
          by_cases c : i + 1 = a
          · rw [if_pos (by omega), if_pos ⟨q3, c⟩]
          · rw [if_neg (by omega), if_neg (by omega)]
        · rw [if_neg q3, if_neg (fun r => q3 r.1)]
    rw [uL_v]
    by_cases c1 : j = a
    · rw [if_pos c1, if_pos c1]
    · rw [if_neg c1, if_neg c1]
      have f2 : putY (putY L a 2) (a + 1) 3 j = if j = a + 1 then 3 else if putY L a 2 (a + 1) = 2 ∧ j = a + 2 then 0 else putY L a 2 j := by
        show uL (if putY L a 2 (a + 1) = 2 then uL (putY L a 2) (a + 1 + 1) 0 else if putY L a 2 (a + 1) = 3 then uL (putY L a 2) (a + 1 - 1) 0 else putY L a 2) (a + 1) 3 j = _
        rw [uL_v, if_neg n3]
        by_cases c2 : j = a + 1
        · rw [if_pos c2, if_pos c2]
        · rw [if_neg c2, if_neg c2]
          by_cases c3 : putY L a 2 (a + 1) = 2
          · rw [if_pos c3, uL_v]
            by_cases c4 : j = a + 2
            · rw [if_pos c4, if_pos ⟨c3, c4⟩]
            · rw [if_neg c4, if_neg (fun r => c4 r.2)]
          · rw [if_neg c3, if_neg (fun r => c3 r.1)]
      rw [f2]
      by_cases c2 : j = a + 1
      · rw [if_pos c2, if_pos c2]
      · rw [if_neg c2, if_neg c2, f1 j c1 c2, f0]
        by_cases c3 : L a = 3 ∧ j + 1 = a
        · rw [if_pos c3, if_pos c3]
          exact ite_self _
        · rw [if_neg c3]
          by_cases q : L a = 2
          · have := ((p2 a (by omega)).1 q).2
            rw [if_pos q, if_neg (by omega), if_neg c3, if_neg (by omega)]
          · rw [if_neg q, if_neg c3]
  intro k hk
  have hk2 := p2 k hk
  have ha2 := p2 a (by omega)
  have hb2 := p2 (a + 1) (by omega)
  rw [e k, e (k + 1), e (k - 1)]
  refine ⟨fun q => ?_, fun q => ?_⟩
  · by_cases c1 : k = a
    · refine ⟨by omega, ?_⟩
      rw [if_neg (by omega), if_pos (by omega)]
    · rw [if_neg c1] at q
      by_cases c2 : k = a + 1
      · rw [if_pos c2] at q; exact absurd q (by decide)
      · rw [if_neg c2] at q
        by_cases c3 : L a = 3 ∧ k + 1 = a
        · rw [if_pos c3] at q; exact absurd q (by decide)
        · rw [if_neg c3] at q
          by_cases c4 : L (a + 1) = 2 ∧ k = a + 2
          · rw [if_pos c4] at q; exact absurd q (by decide)
          · rw [if_neg c4] at q
            obtain ⟨v1, v2⟩ := hk2.1 q
            have d1 : ¬ k + 1 = a := fun r => c3 ⟨by rw [← r]; exact v2, r⟩
            refine ⟨v1, ?_⟩
            rw [if_neg d1, if_neg (by omega)]
            by_cases d3 : L a = 3 ∧ k + 1 + 1 = a
            · have := (ha2.2 d3.1).2
              rw [show a - 1 = k + 1 by omega, v2] at this
              exact absurd this (by decide)
            · rw [if_neg d3]
              by_cases d4 : L (a + 1) = 2 ∧ k + 1 = a + 2
              · exact absurd (show k = a + 1 by omega) c2
              · rw [if_neg d4]; exact v2
  · by_cases c1 : k = a
    · rw [if_pos c1] at q; exact absurd q (by decide)
    · rw [if_neg c1] at q
      by_cases c2 : k = a + 1
      · exact ⟨by omega, by rw [if_pos (by omega)]⟩
      · rw [if_neg c2] at q
        by_cases c3 : L a = 3 ∧ k + 1 = a
        · rw [if_pos c3] at q; exact absurd q (by decide)
        · rw [if_neg c3] at q
          by_cases c4 : L (a + 1) = 2 ∧ k = a + 2
          · rw [if_pos c4] at q; exact absurd q (by decide)
          · rw [if_neg c4] at q
            obtain ⟨v1, v2⟩ := hk2.2 q
            refine ⟨v1, ?_⟩
            have d1 : ¬ k - 1 = a := fun r => c2 (by omega)
            have d2 : ¬ k - 1 = a + 1 := fun r => c4 ⟨by rw [← r]; exact v2, by omega⟩
            rw [if_neg d1, if_neg d2]
            by_cases d3 : L a = 3 ∧ k - 1 + 1 = a
            · exact absurd (show k = a by omega) c1
            · rw [if_neg d3]
              by_cases d4 : L (a + 1) = 2 ∧ k - 1 = a + 2
              · have := (hb2.1 d4.1).2
                rw [show a + 1 + 1 = k - 1 by omega, v2] at this
                exact absurd this (by decide)
              · rw [if_neg d4]; exact v2
theorem gO.putL {Q : cS} {N : Nat} {σ : sS} {i : Nat} (h : gO Q N σ) (hi : i < 7) : gO Q N (xPutL σ i) := by
  by_cases h0 : σ.1 = 0
  · obtain ⟨g1, g5, g6⟩ := h h0
    have e : xPutL σ i = (σ.1, (σ.2.1, uL (brkL (uL (brkL σ.2.2.1 (i : Int)) i 2) ((i + 1 : Nat) : Int)) (i + 1) 3, σ.2.2.2)) := by
      unfold xPutL xPut
      rw [if_pos h0, if_pos h0]
    rw [e, ← (putL_eq g1.2.1 hi).1]
    intro _
    refine ⟨g1.loc (fun k hk => ?_) (pW_putL g1.2.1 hi), g5, g6⟩
    rw [uL_v]
    split
    · exact Or.inl ⟨by decide, by decide⟩
    · exact kn_putY (kn_putY g1.1 (Or.inl ⟨by decide, by decide⟩)) (Or.inl ⟨by decide, by decide⟩) k hk
  · have e : xPutL σ i = σ := by unfold xPutL; rw [xPut_st h0, xPut_st h0]
    rw [e]; exact h
theorem knK_0 {Q : cS} {N : Nat} {z : Int} (h : 0 ≤ z ∧ z ≤ 5) : knK Q N z := Or.inl h
theorem knK_t {Q : cS} {N : Nat} {c : Int} (h : hasC Q c) (hQ : Q.1 ≤ 16) : knK Q N (10 + c) := by
  unfold hasC at h
  refine Or.inr (Or.inl (Or.inl ⟨⟨by omega, by omega⟩, ?_⟩))
  unfold hasC
  omega
theorem knK_r {Q : cS} {N : Nat} {c : Int} (h : hasC Q c) (hQ : Q.1 ≤ 16) : knK Q N (40 + c) := by
  unfold hasC at h
  refine Or.inr (Or.inl (Or.inr ⟨⟨by omega, by omega⟩, ?_⟩))
  unfold hasC
  omega
theorem knK_res {Q : cS} {N : Nat} {b : Int} (h : resK Q b) : knK Q N b ∧ ¬ b = 3 := by
  rcases h with h | h | h | h | h
  · exact ⟨Or.inl (by omega), by omega⟩
  · exact ⟨Or.inl (by omega), by omega⟩
  · exact ⟨Or.inl (by omega), by omega⟩
  · exact ⟨Or.inl (by omega), by omega⟩
  · exact ⟨Or.inr (Or.inl h), by unfold ofC kThing kRow at h; omega⟩
theorem gO.top {Q : cS} {N : Nat} {σ : sS} (h : gO Q N σ) : knK Q N (xTA σ).1 := by
  by_cases h0 : σ.1 = 0
  · exact (h h0).1.2.2.1.top
  · rw [xTA_st h0]; exact knK_0 (z := 0) ⟨by decide, by decide⟩
theorem gO.lay' {Q : cS} {N : Nat} {σ : sS} {kd : Int} (h : gO Q N σ) (hk : σ.1 = 0 → knK Q N kd ∧ ¬ kd = 3) : gO Q N (xLay σ kd) := by
  by_cases h0 : σ.1 = 0
  · exact h.lay (hk h0).1 (hk h0).2
  · rw [xLay_st h0]; exact h
theorem xChk_z {σ : sS} {P : Prop} [Decidable P] {n : Int} (hn : ¬ n = 0) (h : (xChk σ P n).1 = 0) : P ∧ σ.1 = 0 := by
  unfold xChk at h
  split at h
  · rename_i p; exact ⟨p, h⟩
  · exact absurd h (xBrk_ne hn)
theorem gO.layTop {Q : cS} {N : Nat} {σ : sS} (h : gO Q N σ) : gO Q N (xLayTop σ) := by
  unfold xLayTop
  have g1 : gO Q N (xChk (xTA σ).2 (¬ (xTA σ).1 = 3) 3) := h.ta (by decide) (fun q => q)
  by_cases h3 : (xTA σ).1 = 3
  · rw [xChk_n (fun q => q h3)]
    have := @xBrk_ne (xTA σ).2 3 (by decide)
    rw [xLay_st this, xLay_st this]
    exact gO.st this
  · exact (g1.lay h.top h3).lay h.top h3
theorem gO.make {Q : cS} {π : mS} {N : Nat} {σ : sS} {cl : Int} (hQ : Q.1 ≤ 16) (h : gO Q N σ) (hc : hasC Q cl) : gO Q N (xMake π σ cl) := by
  unfold xMake
  have c0 : ¬ (10 + cl = 2) ∧ ¬ (10 + cl = 3) ∧ ¬ (10 + cl = 0) := by unfold hasC at hc; omega
  split
  · rename_i z
    unfold xMake0 at z ⊢
    obtain ⟨hp, _⟩ := xChk_z (by decide) z
    have ht : 100 ≤ (xTA σ).1 := by
      unfold couK at hp
      split at hp
      · rename_i u; exact u.1
      · unfold hasC at hc; omega
    obtain ⟨⟨g1, g2, g3, g4⟩, g5, g6⟩ := h.ta (P := couK π (xTA σ).1 = cl) (n := 3) (by decide) (fun _ => by omega) z
    intro _
    generalize (xChk (xTA σ).2 (couK π (xTA σ).1 = cl) 3).2 = φ at *
    generalize (xTA σ).1 = t at *
    have hL : ∀ k, (replF φ t (10 + cl)).2.1 k = if φ.2.1 k = t then 10 + cl else φ.2.1 k := fun _ => rfl
    have hP : ∀ k, (replF φ t (10 + cl)).2.2 k = if (k : Int) < φ.1 ∧ φ.2.2 k = t then 10 + cl else φ.2.2 k := fun _ => rfl
    refine ⟨⟨fun k hk => ?_, fun k hk => ?_, fun k hk => ?_, fun k hk => ?_⟩, g5, g6⟩
    · rw [hL]; split
      · exact knK_t hc hQ
      · exact g1 k hk
    · rw [hL, hL, hL]
      obtain ⟨u1, u2⟩ := g2 k hk
      refine ⟨fun q => ?_, fun q => ?_⟩
      · split at q
        · exact absurd q c0.1
        · obtain ⟨v1, v2⟩ := u1 q
          exact ⟨v1, by rw [if_neg (by omega)]; exact v2⟩
      · split at q
        · exact absurd q c0.2.1
        · obtain ⟨v1, v2⟩ := u2 q
          exact ⟨v1, by rw [if_neg (by omega)]; exact v2⟩
    · rw [hP]; split
      · exact knK_t hc hQ
      · exact g3 k hk
    · rw [hP, hP]
      obtain ⟨u1, u2⟩ := g4 k hk
      refine ⟨?_, fun q => ?_⟩
      · split
        · exact c0.2.2
        · exact u1
      · split at q
        · exact absurd q c0.1
        · obtain ⟨v1, v2⟩ := u2 q
          exact ⟨v1, by rw [if_neg (by omega)]; exact v2⟩
  · rename_i z; exact gO.st z
theorem gO.UL {Q : cS} {N : Nat} {σ : sS} {op : Int} {a : Nat} (h : gO Q N σ) (ha : a < 8) (ha7 : op = 4 ∨ op = 5 → a < 7) : gO Q N (xUL Q σ op a) := by
  unfold xUL
  split
  · exact (h.chk (by decide)).lay (knK_0 ⟨by decide, by decide⟩) (by decide)
  · split
    · exact (h.take (by decide)).put ha (knK_0 ⟨by decide, by decide⟩) (by decide) (by decide)
    · split
      · exact (h.chk (by decide)).lay (knK_0 ⟨by decide, by decide⟩) (by decide)
      · split
        · exact (h.take (by decide)).putL (ha7 (by omega))
        · split
          · refine (h.chk (by decide)).lay' (fun z => ?_)
            obtain ⟨u1, u2⟩ := xChk_z (by decide) z
            exact ⟨(h u2).1.1 a ha, by unfold kHeld kRef at u1; omega⟩
          · have g := h.ta (P := kHeld (xTA σ).1) (n := 3) (by decide) (fun q => by unfold kHeld kRef at q; omega)
            by_cases z : (xChk (xTA σ).2 (kHeld (xTA σ).1) 3).1 = 0
            · obtain ⟨u1, u2⟩ := xChk_z (by decide) z
              exact g.put ha h.top (by unfold kHeld kRef at u1; omega) (by unfold kHeld kRef at u1; omega)
            · rw [xPut_st z]; exact gO.st z
theorem gO.UV {Q : cS} {N : Nat} {σ : sS} {op res : Int} (h : gO Q N σ) (hr : ¬ res = 3) : gO Q N (xUV Q σ op res) := by
  have k1 : knK Q N 1 := knK_0 ⟨by decide, by decide⟩
  have k2 : knK Q N 2 := knK_0 ⟨by decide, by decide⟩
  unfold xUV
  repeat' split
  · exact h.lay k1 (by decide)
  · exact h.lay k2 (by decide)
  · exact ((h.take (by decide)).take (by decide)).lay k1 (by decide)
  · exact ((h.take (by decide)).take (by decide)).lay k2 (by decide)
  · exact (h.take (by decide)).lay k2 (by decide)
  · exact h.take (by decide)
  · exact h.layTop
  · exact h.take (by decide)
  · exact h.take hr
  · exact h.ta (by decide) (fun q => q)
  · exact h.take (by decide)
  · exact h
theorem gO.loadE {Q : cS} {N : Nat} {σ : sS} (hQ : Q.1 ≤ 16) (h : gO Q N σ) : gO Q N (xLoadE Q σ) := by
  unfold xLoadE
  have g := h.take (Q := Q) (kd := 1) (by decide)
  have gt : ∀ {P : Prop} [Decidable P], (P → ¬ (xTA (xTake Q σ 1)).1 = 3) → P → gO Q N (xTA (xTake Q σ 1)).2 := fun {P} _ u p => by
    have := g.ta (P := P) (n := 3) (by decide) u
    rw [xChk_y p] at this
    exact this
  split
  · rename_i e
    exact (gt (P := (xTA (xTake Q σ 1)).1 = 5) (fun q => by omega) e).lay (knK_0 ⟨by decide, by decide⟩) (by decide)
  · split
    · rename_i e
      refine (gt (P := kRow (xTA (xTake Q σ 1)).1) (fun q => by unfold kRow at q; omega) e).lay ?_ (by unfold kRow at e; omega)
      have kt := g.top
      have kt2 : hasC Q ((xTA (xTake Q σ 1)).1 - 40) := by
        rcases kt with u | (u | u) | u
        · unfold kRow at e; omega
        · unfold kRow at e; unfold kThing at u; omega
        · exact u.2
        · unfold kRow at e; omega
      have := knK_t (N := N) kt2 hQ
      rw [show 10 + (xTA (xTake Q σ 1)).1 - 40 = 10 + ((xTA (xTake Q σ 1)).1 - 40) by omega]
      exact this
    · exact (g.ta (by decide) (fun q => by omega)).lay (knK_0 ⟨by decide, by decide⟩) (by decide)
theorem gO.storeE {Q : cS} {N : Nat} {σ : sS} (h : gO Q N σ) : gO Q N (xStoreE Q σ) := by
  unfold xStoreE xSt1
  refine ((h.ta (by decide) (fun q => by unfold kRef at q; omega)).take (by decide)).ta (by decide) (fun q => ?_)
  unfold kRow at q; omega
theorem gO.UT {Q : cS} {π : mS} {N : Nat} {σ : sS} {p : Nat} {op a b : Int} (hQ : Q.1 ≤ 16) (h : gO Q N σ) (hp : p < N) (hok : opOK Q op a b) : gO Q N (xUT Q π σ p op a b) := by
  obtain ⟨o1, o2, o3, o4, o5, o6, o7, o8⟩ := hok
  unfold xUT
  split
  · exact h.lay (Or.inr (Or.inr ⟨by omega, by omega⟩)) (by omega)
  · split
    · exact h.make hQ (o6 (by omega))
    · split
      · rename_i e
        have hb := knK_res (N := N) (o7 e)
        have ha := o6 (by omega)
        exact (h.take (by unfold hasC at ha; omega)).lay hb.1 hb.2
      · split
        · exact h.lay (knK_0 ⟨by decide, by decide⟩) (by decide)
        · split
          · have ha := o6 (by omega)
            exact (h.ta (by decide) (fun q => by unfold kRef at q; omega)).lay (knK_t ha hQ) (by unfold hasC at ha; omega)
          · split
            · rename_i e
              refine (h.take (by decide)).lay ?_ ?_
              · split
                · exact knK_0 ⟨by decide, by decide⟩
                · rename_i e2
                  rcases o8 e with u | u
                  · exact absurd u e2
                  · exact knK_r u hQ
              · split
                · decide
                · rename_i e2
                  rcases o8 e with u | u
                  · exact absurd u e2
                  · unfold hasC at u; omega
            · split
              · exact h.loadE hQ
              · exact h.storeE
theorem gO.perf {Q : cS} {π : mS} {N : Nat} {σ : sS} {p : Nat} (hQ : Q.1 ≤ 16) (h : gO Q N σ) (hp : p < N) (hok : opOK Q (mOp π p) (mA π p) (mB π p)) (hr : ¬ mRes π = 3) : gO Q N (xPerf Q π σ p) := by
  unfold xPerf
  split
  · rename_i e
    have u1 := hok.2.2.1
    have u2 := hok.2.2.2.1
    exact h.UL (by omega) (fun q => by omega)
  · split
    · exact h.UT hQ hp hok
    · exact h.UV hr
theorem okF.rais {Q : cS} {N : Nat} {φ : fS} {P : Nat → Int} {kd : Int} (h : okF Q N φ) (hk : knK Q N kd) (h0 : ¬ kd = 0) (h2 : ¬ kd = 2) : okF Q N (raisF φ P kd) := by
  obtain ⟨g1, g2, g3, g4⟩ := h
  have hL : ∀ k, (raisF φ P kd).2.1 k = if 100 ≤ φ.2.1 k then 0 else φ.2.1 k := fun _ => rfl
  have hP : (raisF φ P kd).2.2 0 = kd := uL_s (L := P) (p := 0)
  refine ⟨fun k hk => ?_, fun k hk => ?_, fun k hk' => ?_, fun k hk' => ?_⟩
  · rw [hL]; split
    · exact knK_0 ⟨by decide, by decide⟩
    · exact g1 k hk
  · rw [hL, hL, hL]
    obtain ⟨u1, u2⟩ := g2 k hk
    refine ⟨fun q => ?_, fun q => ?_⟩
    · split at q
      · exact absurd q (by decide)
      · obtain ⟨v1, v2⟩ := u1 q
        exact ⟨v1, by rw [if_neg (by omega)]; exact v2⟩
    · split at q
      · exact absurd q (by decide)
      · obtain ⟨v1, v2⟩ := u2 q
        exact ⟨v1, by rw [if_neg (by omega)]; exact v2⟩
  · have : (k : Int) < 1 := hk'
    obtain rfl : k = 0 := by omega
    rw [hP]; exact hk
  · have : (k : Int) < 1 := hk'
    obtain rfl : k = 0 := by omega
    rw [hP]
    exact ⟨h0, fun q => absurd q h2⟩
theorem nearC_has {Q : cS} {x y : Int} (h : hasC Q x) : hasC Q (nearC Q x y) := by
  unfold nearC
  unfold hasC at h ⊢
  split
  · have := nearF_le (Q.2.1 x.toNat &&& Q.2.1 y.toNat) (Q.1 - 1)
    omega
  · omega
theorem knK_join {Q : cS} {N : Nat} {k l : Int} (hQ : 2 ≤ Q.1 ∧ Q.1 ≤ 16) (hk : knK Q N k) (hl : knK Q N l) : knK Q N (joinK Q k l) := by
  unfold joinK
  split
  · exact hk
  · split
    · exact knK_0 ⟨by decide, by decide⟩
    · rename_i hr
      split
      · exact hl
      · split
        · exact hk
        · split
          · rename_i c
            refine knK_t (nearC_has ?_) hQ.2
            rcases hk with u | (u | u) | u
            · unfold kThing at c; omega
            · exact u.2
            · unfold kThing at c; unfold kRow at u; omega
            · unfold kThing at c; omega
          · split
            · rename_i c
              refine knK_r (nearC_has ?_) hQ.2
              rcases hk with u | (u | u) | u
              · unfold kRow at c; omega
              · unfold kRow at c; unfold kThing at u; omega
              · exact u.2
              · unfold kRow at c; omega
            · exact knK_t (c := 0) (by unfold hasC; omega) hQ.2
theorem join_23 {Q : cS} {k l : Int} (h : joinK Q k l = 2 ∨ joinK Q k l = 3) : k = l := by
  unfold joinK at h
  have n1 := @nearC_nn Q (k - 10) (l - 10)
  have n2 := @nearC_nn Q (k - 40) (l - 40)
  split at h
  · assumption
  · split at h
    · omega
    · rename_i r
      have r2 : kRef k ∧ kRef l := Decidable.not_not.mp r
      unfold kRef at r2
      split at h
      · omega
      · split at h
        · omega
        · split at h
          · omega
          · split at h <;> omega
theorem join_self {Q : cS} {k : Int} : joinK Q k k = k := if_pos rfl
theorem okF.mrg {Q : cS} {N : Nat} {φ ψ : fS} (hQ : 2 ≤ Q.1 ∧ Q.1 ≤ 16) (h : okF Q N φ) (g : okF Q N ψ) (hc : canM Q φ ψ) : okF Q N (mrgF Q φ ψ) := by
  obtain ⟨g1, g2, g3, g4⟩ := g
  obtain ⟨h1, h2, h3, h4⟩ := h
  obtain ⟨c1, c2⟩ := hc
  have hL : ∀ k, (mrgF Q φ ψ).2.1 k = joinK Q (φ.2.1 k) (ψ.2.1 k) := fun _ => rfl
  have hP : ∀ k : Nat, (k : Int) < φ.1 → (mrgF Q φ ψ).2.2 k = joinK Q (φ.2.2 k) (ψ.2.2 k) := fun _ u => if_pos u
  refine ⟨fun k hk => ?_, fun k hk => ?_, fun k hk => ?_, fun k hk => ?_⟩
  · rw [hL]; exact knK_join hQ (h1 k hk) (g1 k hk)
  · rw [hL, hL, hL]
    obtain ⟨u1, u2⟩ := h2 k hk
    obtain ⟨v1, v2⟩ := g2 k hk
    refine ⟨fun q => ?_, fun q => ?_⟩
    · have e := join_23 (Or.inl q)
      rw [e, join_self] at q
      obtain ⟨w1, w2⟩ := v1 q
      rw [w2, (u1 (e.trans q)).2, join_self]
      exact ⟨w1, rfl⟩
    · have e := join_23 (Or.inr q)
      rw [e, join_self] at q
      obtain ⟨w1, w2⟩ := v2 q
      rw [w2, (u2 (e.trans q)).2, join_self]
      exact ⟨w1, rfl⟩
  · have hk' : (k : Int) < φ.1 := hk
    rw [hP k hk']; exact knK_join hQ (h3 k hk') (g3 k (by omega))
  · have hk' : (k : Int) < φ.1 := hk
    rw [hP k hk']
    refine ⟨c2 k hk', fun q => ?_⟩
    have e := join_23 (Or.inl q)
    rw [e, join_self] at q
    obtain ⟨v1, v2⟩ := (h4 k hk').2 (e.trans q)
    obtain ⟨w1, w2⟩ := (g4 k (by omega)).2 q
    refine ⟨v1, ?_⟩
    rw [hP (k + 1) (by omega), v2, w2, join_self]
/-- the frames of a work under way -/
def rI (Q : cS) (π : mS) (κ : kS) : Prop := ∀ i, i < 40 → 0 ≤ (κ.1 i).1 → okF Q (mN π) (κ.1 i) ∧ (κ.1 i).1 ≤ 8
theorem rI.meet {Q : cS} {π : mS} {κ : kS} {p : Nat} {ψ : fS} (hQ : 2 ≤ Q.1 ∧ Q.1 ≤ 16) (h : rI Q π κ) (hp : p < 40) (hψ : okF Q (mN π) ψ) (h8 : ψ.1 ≤ 8) : rI Q π (xMeet Q κ p ψ).2 := by
  unfold xMeet
  split
  · intro i hi h0
    by_cases e : i = p
    · subst e
      have e2 : uF κ.1 i ψ i = ψ := uF_s
      show okF Q (mN π) (uF κ.1 i ψ i) ∧ (uF κ.1 i ψ i).1 ≤ 8
      rw [e2]; exact ⟨hψ, h8⟩
    · have e2 : uF κ.1 p ψ i = κ.1 i := uF_n e
      have h0' : 0 ≤ (uF κ.1 p ψ i).1 := h0
      show okF Q (mN π) (uF κ.1 p ψ i) ∧ (uF κ.1 p ψ i).1 ≤ 8
      rw [e2] at h0' ⊢; exact h i hi h0'
  · rename_i hn
    split
    · rename_i hc
      intro i hi h0
      have hc' := canB_iff.mp hc
      by_cases e : i = p
      · subst e
        have e2 : uF κ.1 i (mrgF Q (κ.1 i) ψ) i = mrgF Q (κ.1 i) ψ := uF_s
        show okF Q (mN π) (uF κ.1 i (mrgF Q (κ.1 i) ψ) i) ∧ (uF κ.1 i (mrgF Q (κ.1 i) ψ) i).1 ≤ 8
        have hi' := h i hi (by omega)
        rw [e2]; exact ⟨hi'.1.mrg hQ hψ hc', hi'.2⟩
      · have e2 : uF κ.1 p (mrgF Q (κ.1 p) ψ) i = κ.1 i := uF_n e
        have h0' : 0 ≤ (uF κ.1 p (mrgF Q (κ.1 p) ψ) i).1 := h0
        show okF Q (mN π) (uF κ.1 p (mrgF Q (κ.1 p) ψ) i) ∧ (uF κ.1 p (mrgF Q (κ.1 p) ψ) i).1 ≤ 8
        rw [e2] at h0' ⊢; exact h i hi h0'
    · exact h
theorem gd_10 {Q : cS} {π : mS} (hgd : gdOK Q π) {g : Nat} (hg : g < mNG π) : ¬ 10 + mGc π g = 0 ∧ ¬ 10 + mGc π g = 2 := by
  have := (hgd g hg).2.2
  unfold hasC at this; omega
theorem rI.hands {Q : cS} {π : mS} {p : Nat} (hQ : 2 ≤ Q.1 ∧ Q.1 ≤ 16) (hgd : gdOK Q π) (hp : p < 40) : ∀ (j g : Nat) (κ : kS) (ρ : fS), g + j ≤ mNG π → rI Q π κ → 0 ≤ (κ.1 p).1 → rI Q π (xHands Q π p j g κ ρ).2.1
  | 0, _, _, _, _, h, _ => h
  | j + 1, g, κ, ρ, hj, h, h0 => by
    unfold xHands
    split
    · exact rI.hands hQ hgd hp j (g + 1) κ ρ (by omega) h h0
    · split
      · exact h
      · have hg := hgd g (by omega)
        have hk := gd_10 hgd (g := g) (by omega)
        have hr : okF Q (mN π) (raisF (κ.1 p) ρ.2.2 (10 + mGc π g)) := (h p hp h0).1.rais (knK_t hg.2.2 hQ.2) hk.1 hk.2
        have hm := h.meet hQ (p := (mGh π g).toNat) (by omega) hr (show (1 : Int) ≤ 8 by decide)
        split
        · exact rI.hands hQ hgd hp j (g + 1) _ _ (by omega) hm (xMeet_there (show (0 : Int) ≤ 1 by decide) p h0)
        · exact hm
theorem rI.next {Q : cS} {π : mS} {κ : kS} {p : Nat} {ψ : fS} (hQ : 2 ≤ Q.1 ∧ Q.1 ≤ 16) (hN : mN π ≤ 40) (h : rI Q π κ) (hψ : okF Q (mN π) ψ) (h8 : ψ.1 ≤ 8) : rI Q π (xNext Q π κ ψ p).2 := by
  unfold xNext
  split
  · exact h
  · split <;> exact h.meet hQ (by omega) hψ h8
theorem rI.go {Q : cS} {π : mS} {κ : kS} {p : Nat} {ψ : fS} (hQ : 2 ≤ Q.1 ∧ Q.1 ≤ 16) (hN : mN π ≤ 40) (h : rI Q π κ) (hψ : okF Q (mN π) ψ) (h8 : ψ.1 ≤ 8) : rI Q π (xGo Q π κ ψ p).2 := by
  unfold xGo
  split
  · exact h
  · split
    · split
      · exact h
      · rename_i hj
        have ht : (mA π p).toNat < 40 := by
          unfold xJump at hj
          by_cases c : ¬ (0 ≤ mA π p ∧ mA π p < (mN π : Int))
          · rw [if_pos c] at hj; exact absurd (show ¬ (6 : Int) = 0 by decide) hj
          · omega
        have hm := h.meet hQ ht hψ h8
        split
        · split
          · exact hm
          · exact hm.next hQ hN hψ h8
        · exact hm
    · exact h.next hQ hN hψ h8
theorem xP0_1 {κ : kS} {p : Nat} : (xP0 κ p).1 = κ.1 := rfl
theorem rI.pass {Q : cS} {π : mS} {κ : kS} {ρ : fS} {p : Nat} (hQ : 2 ≤ Q.1 ∧ Q.1 ≤ 16) (hN : mN π ≤ 40) (hgd : gdOK Q π) (hops : opsOK Q π) (hr : ¬ mRes π = 3) (hp : p < mN π) (h : rI Q π κ) (h0 : 0 ≤ (κ.1 p).1) : rI Q π (xPass Q π κ ρ p).2.1 := by
  have h1 : rI Q π (xP0 κ p) := h
  have hh := rI.hands hQ hgd (p := p) (by omega) (mNG π) 0 (xP0 κ p) ρ (by omega) h1 h0
  have ht : 0 ≤ ((xHands Q π p (mNG π) 0 (xP0 κ p) ρ).2.1.1 p).1 := xHands_there (mNG π) 0 (xP0 κ p) ρ p h0
  unfold xPass
  generalize xHands Q π p (mNG π) 0 (xP0 κ p) ρ = H at *
  split
  · exact hh
  · have hp' := hh p (by omega) ht
    have hg : gO Q (mN π) (xPerf Q π (0, H.2.1.1 p) p) := gO.perf hQ.2 (fun _ => ⟨hp'.1, ht, hp'.2⟩) hp (hops p hp) hr
    split
    · exact hh
    · rename_i z
      obtain ⟨u1, u2, u3⟩ := hg (Decidable.not_not.mp z)
      exact rI.go hQ hN (κ := xHi H.2.1 (xPerf Q π (0, H.2.1.1 p) p).2.1) hh u1 u3
/-- how far a kind can still fall -/
def rkK (k : Int) : Nat := if k = 0 then 0 else if 10 ≤ k ∧ k < 100 then (k - 9).toNat else if k = 5 then 91 else if k = 4 then 92 else 1
theorem rkK_le (k : Int) : rkK k ≤ 92 := by
  unfold rkK
  repeat' split
  all_goals omega
def lowQ (Q : cS) : Prop := ∀ c, c < Q.1 → ∀ d, bitC Q c d → d ≤ c
theorem chn.low {Q : cS} {P : Nat → Int} (h : chn Q P) : lowQ Q := h.le
theorem nearF_bit (m : Nat) : ∀ t, nearF m t = 0 ∨ m / 2 ^ (nearF m t) % 2 = 1
  | 0 => Or.inl rfl
  | t + 1 => by
    rw [nearF_s]
    split
    · rename_i e; exact Or.inr e
    · exact nearF_bit m t
theorem near_le {Q : cS} {x y : Int} (hQ : lowQ Q) (h : hasC Q x) : nearC Q x y ≤ x := by
  unfold hasC at h
  unfold nearC
  split
  · rcases nearF_bit (Q.2.1 x.toNat &&& Q.2.1 y.toNat) (Q.1 - 1) with e | e
    · rw [e]; omega
    · have := hQ x.toNat (by omega) _ ((bit_and _ _ _).mp e).1
      omega
  · omega
theorem join_rk {Q : cS} {N : Nat} {k l : Int} (hQ : lowQ Q) (hk : knK Q N k) (hn : ¬ joinK Q k l = k) : rkK (joinK Q k l) < rkK k := by
  unfold joinK at hn ⊢
  have n1 := @nearC_nn Q (k - 10) (l - 10)
  have n2 := @nearC_nn Q (k - 40) (l - 40)
  split at hn
  · exact absurd rfl hn
  · rename_i c1
    rw [if_neg c1]
    split at hn
    · rename_i c2
      rw [if_pos c2]
      have : ¬ k = 0 := fun q => hn q.symm
      unfold rkK
      rw [if_pos rfl, if_neg this]
      repeat' split
      all_goals omega
    · rename_i c2
      rw [if_neg c2]
      have r2 : kRef k ∧ kRef l := Decidable.not_not.mp c2
      unfold kRef at r2
      split at hn
      · rename_i c3
        rw [if_pos c3]
        unfold rkK
        subst c3
        rw [if_neg (show ¬ (4 : Int) = 0 by decide), if_neg (show ¬ (10 ≤ (4 : Int) ∧ (4 : Int) < 100) by decide), if_neg (show ¬ (4 : Int) = 5 by decide), if_pos rfl]
        rw [if_neg (by omega)]
        by_cases c : 10 ≤ l ∧ l < 100
        · rw [if_pos c]; omega
        · rw [if_neg c, if_pos (by omega)]; omega
      · rename_i c3
        rw [if_neg c3]
        split at hn
        · exact absurd rfl hn
        · rename_i c4
          rw [if_neg c4]
          split at hn
          · rename_i c5
            rw [if_pos c5]
            unfold kThing at c5
            have hc : hasC Q (k - 10) := by
              rcases hk with u | (u | u) | u
              · omega
              · exact u.2
              · unfold kRow at u; omega
              · omega
            have hl := near_le (y := l - 10) hQ hc
            generalize nearC Q (k - 10) (l - 10) = z at *
            unfold rkK
            rw [if_neg (by omega), if_pos (by omega), if_neg (by omega), if_pos (by omega)]
            omega
          · rename_i c5
            rw [if_neg c5]
            split at hn
            · rename_i c6
              rw [if_pos c6]
              unfold kRow at c6
              have hc : hasC Q (k - 40) := by
                rcases hk with u | (u | u) | u
                · omega
                · unfold kThing at u; omega
                · exact u.2
                · omega
              have hl := near_le (y := l - 40) hQ hc
              generalize nearC Q (k - 40) (l - 40) = z at *
              unfold rkK
              rw [if_neg (by omega), if_pos (by omega), if_neg (by omega), if_pos (by omega)]
              omega
            · rename_i c6
              rw [if_neg c6]
              unfold rkK
              rw [if_neg (show ¬ (10 : Int) = 0 by decide), if_pos (show 10 ≤ (10 : Int) ∧ (10 : Int) < 100 by decide), if_neg (by omega)]
              by_cases c : 10 ≤ k ∧ k < 100
              · rw [if_pos c]; omega
              · rw [if_neg c, if_pos (by omega)]; decide
theorem join_rk_le {Q : cS} {N : Nat} {k l : Int} (hQ : lowQ Q) (hk : knK Q N k) : rkK (joinK Q k l) ≤ rkK k := by
  by_cases h : joinK Q k l = k
  · rw [h]; exact Nat.le_refl _
  · exact Nat.le_of_lt (join_rk hQ hk h)
def sumR (f : Nat → Nat) : Nat → Nat
  | 0 => 0
  | n + 1 => sumR f n + f n
theorem sumR_le {f g : Nat → Nat} : ∀ n, (∀ i, i < n → f i ≤ g i) → sumR f n ≤ sumR g n
  | 0, _ => Nat.le_refl _
  | n + 1, h => Nat.add_le_add (sumR_le n (fun i hi => h i (by omega))) (h n (by omega))
theorem sumR_lt {f g : Nat → Nat} : ∀ n, (∀ i, i < n → f i ≤ g i) → (∃ i, i < n ∧ f i < g i) → sumR f n < sumR g n
  | 0, _, ⟨i, hi, _⟩ => absurd hi (by omega)
  | n + 1, h, ⟨i, hi, hl⟩ => by
    show sumR f n + f n < sumR g n + g n
    by_cases e : i = n
    · subst e
      have := sumR_le i (fun j hj => h j (by omega))
      omega
    · have := sumR_lt n (fun j hj => h j (by omega)) ⟨i, by omega, hl⟩
      have := h n (by omega)
      omega
theorem sumR_top {f : Nat → Nat} {c : Nat} : ∀ n, (∀ i, i < n → f i ≤ c) → sumR f n ≤ n * c
  | 0, _ => Nat.zero_le _
  | n + 1, h => by
    have := sumR_top n (fun i hi => h i (by omega))
    have := h n (by omega)
    show sumR f n + f n ≤ (n + 1) * c
    rw [Nat.add_mul]
    omega
def rkF (φ : fS) : Nat := sumR (fun k => rkK (φ.2.1 k)) 8 + sumR (fun k => if (k : Int) < φ.1 then rkK (φ.2.2 k) else 0) 8
theorem rkF_le (φ : fS) : rkF φ ≤ 1472 := by
  unfold rkF
  have h1 := sumR_top (f := fun k => rkK (φ.2.1 k)) (c := 92) 8 (fun i _ => rkK_le _)
  have h2 := sumR_top (f := fun k => if (k : Int) < φ.1 then rkK (φ.2.2 k) else 0) (c := 92) 8 (fun i _ => by
    show (if (i : Int) < φ.1 then rkK (φ.2.2 i) else 0) ≤ 92
    split
    · exact rkK_le _
    · omega)
  omega
def wtP (κ : kS) (i : Nat) : Nat := (if (κ.1 i).1 < 0 then 2946 else 2 * rkF (κ.1 i)) + (if κ.2.1 i = 0 then 0 else 1)
def muK (κ : kS) : Nat := sumR (wtP κ) 40
theorem wtP_le (κ : kS) (i : Nat) : wtP κ i ≤ 2947 := by
  unfold wtP
  have := rkF_le (κ.1 i)
  split <;> split <;> omega
theorem muK_le (κ : kS) : muK κ ≤ 117880 := sumR_top (c := 2947) 40 (fun i _ => wtP_le κ i)
theorem rkF_mrg {Q : cS} {N : Nat} {φ ψ : fS} (hQ : lowQ Q) (h : okF Q N φ) : rkF (mrgF Q φ ψ) ≤ rkF φ := by
  unfold rkF
  refine Nat.add_le_add (sumR_le 8 (fun i hi => join_rk_le hQ (h.1 i hi))) (sumR_le 8 (fun i hi => ?_))
  show (if (i : Int) < φ.1 then rkK (if (i : Int) < φ.1 then joinK Q (φ.2.2 i) (ψ.2.2 i) else φ.2.2 i) else 0) ≤ if (i : Int) < φ.1 then rkK (φ.2.2 i) else 0
  by_cases c : (i : Int) < φ.1
  · rw [if_pos c, if_pos c, if_pos c]; exact join_rk_le hQ (h.2.2.1 i c)
  · rw [if_neg c, if_neg c]; exact Nat.le_refl _
theorem rkF_chg {Q : cS} {N : Nat} {φ ψ : fS} (hQ : lowQ Q) (h : okF Q N φ) (h8 : φ.1 ≤ 8) (hc : chgB Q φ ψ = true) : rkF (mrgF Q φ ψ) < rkF φ := by
  have a1 : ∀ i, i < 8 → (fun k => rkK ((mrgF Q φ ψ).2.1 k)) i ≤ (fun k => rkK (φ.2.1 k)) i := fun i hi => join_rk_le hQ (h.1 i hi)
  have a2 : ∀ i, i < 8 → (fun k : Nat => if (k : Int) < (mrgF Q φ ψ).1 then rkK ((mrgF Q φ ψ).2.2 k) else 0) i ≤ (fun k : Nat => if (k : Int) < φ.1 then rkK (φ.2.2 k) else 0) i := fun i hi => by
    show (if (i : Int) < φ.1 then rkK (if (i : Int) < φ.1 then joinK Q (φ.2.2 i) (ψ.2.2 i) else φ.2.2 i) else 0) ≤ if (i : Int) < φ.1 then rkK (φ.2.2 i) else 0
    by_cases c : (i : Int) < φ.1
    · rw [if_pos c, if_pos c, if_pos c]; exact join_rk_le hQ (h.2.2.1 i c)
    · rw [if_neg c, if_neg c]; exact Nat.le_refl _
  unfold rkF
  rcases chgB_iff.mp hc with ⟨k, hk, hn⟩ | ⟨k, hk, hn⟩
  · exact Nat.add_lt_add_of_lt_of_le (sumR_lt 8 a1 ⟨k, hk, join_rk hQ (h.1 k hk) hn⟩) (sumR_le 8 a2)
  · refine Nat.add_lt_add_of_le_of_lt (sumR_le 8 a1) (sumR_lt 8 a2 ⟨k, by omega, ?_⟩)
    show (if (k : Int) < φ.1 then rkK (if (k : Int) < φ.1 then joinK Q (φ.2.2 k) (ψ.2.2 k) else φ.2.2 k) else 0) < if (k : Int) < φ.1 then rkK (φ.2.2 k) else 0
    rw [if_pos hk, if_pos hk, if_pos hk]
    exact join_rk hQ (h.2.2.1 k hk) hn
theorem mu_meet {Q : cS} {π : mS} {κ : kS} {p : Nat} {ψ : fS} (hQ : lowQ Q) (h : rI Q π κ) (hp : p < 40) (hψ : 0 ≤ ψ.1) : muK (xMeet Q κ p ψ).2 ≤ muK κ := by
  refine sumR_le 40 (fun i hi => ?_)
  unfold xMeet
  split
  · rename_i c
    by_cases e : i = p
    · subst e
      show (if (uF κ.1 i ψ i).1 < 0 then 2946 else 2 * rkF (uF κ.1 i ψ i)) + (if uL κ.2.1 i 1 i = 0 then 0 else 1) ≤ wtP κ i
      rw [uF_s, uL_s, if_neg (by omega), if_neg (by decide)]
      unfold wtP
      rw [if_pos c]
      have := rkF_le ψ
      omega
    · show (if (uF κ.1 p ψ i).1 < 0 then 2946 else 2 * rkF (uF κ.1 p ψ i)) + (if uL κ.2.1 p 1 i = 0 then 0 else 1) ≤ wtP κ i
      rw [uF_n e, uL_n e]
      exact Nat.le_refl _
  · rename_i c
    split
    · by_cases e : i = p
      · subst e
        have hi2 := h i hi (by omega)
        have hm : (mrgF Q (κ.1 i) ψ).1 = (κ.1 i).1 := rfl
        show (if (uF κ.1 i (mrgF Q (κ.1 i) ψ) i).1 < 0 then 2946 else 2 * rkF (uF κ.1 i (mrgF Q (κ.1 i) ψ) i)) + (if (if chgB Q (κ.1 i) ψ = true then uL κ.2.1 i 1 else κ.2.1) i = 0 then 0 else 1) ≤ wtP κ i
        unfold wtP
        rw [uF_s, hm, if_neg c, if_neg c]
        by_cases g : chgB Q (κ.1 i) ψ = true
        · have := rkF_chg hQ hi2.1 hi2.2 g
          rw [if_pos g, uL_s, if_neg (show ¬ (1 : Int) = 0 by decide)]
          omega
        · have := rkF_mrg (ψ := ψ) hQ hi2.1
          rw [if_neg g]
          omega
      · show (if (uF κ.1 p (mrgF Q (κ.1 p) ψ) i).1 < 0 then 2946 else 2 * rkF (uF κ.1 p (mrgF Q (κ.1 p) ψ) i)) + (if (if chgB Q (κ.1 p) ψ = true then uL κ.2.1 p 1 else κ.2.1) i = 0 then 0 else 1) ≤ wtP κ i
        unfold wtP
        rw [uF_n e]
        by_cases g : chgB Q (κ.1 p) ψ = true
        · rw [if_pos g, uL_n e]; exact Nat.le_refl _
        · rw [if_neg g]; exact Nat.le_refl _
    · exact Nat.le_refl _
theorem mu_hands {Q : cS} {π : mS} {p : Nat} (hL : lowQ Q) (hQ : 2 ≤ Q.1 ∧ Q.1 ≤ 16) (hgd : gdOK Q π) (hp : p < 40) : ∀ (j g : Nat) (κ : kS) (ρ : fS), g + j ≤ mNG π → rI Q π κ → 0 ≤ (κ.1 p).1 → muK (xHands Q π p j g κ ρ).2.1 ≤ muK κ
  | 0, _, _, _, _, _, _ => Nat.le_refl _
  | j + 1, g, κ, ρ, hj, h, h0 => by
    unfold xHands
    split
    · exact mu_hands hL hQ hgd hp j (g + 1) κ ρ (by omega) h h0
    · split
      · exact Nat.le_refl _
      · have hg := hgd g (by omega)
        have hk := gd_10 hgd (g := g) (by omega)
        have hr : okF Q (mN π) (raisF (κ.1 p) ρ.2.2 (10 + mGc π g)) := (h p hp h0).1.rais (knK_t hg.2.2 hQ.2) hk.1 hk.2
        have hm := h.meet hQ (p := (mGh π g).toNat) (by omega) hr (show (1 : Int) ≤ 8 by decide)
        have hu := mu_meet hL h (p := (mGh π g).toNat) (ψ := raisF (κ.1 p) ρ.2.2 (10 + mGc π g)) (by omega) (show (0 : Int) ≤ 1 by decide)
        split
        · exact Nat.le_trans (mu_hands hL hQ hgd hp j (g + 1) _ _ (by omega) hm (xMeet_there (show (0 : Int) ≤ 1 by decide) p h0)) hu
        · exact hu
theorem mu_next {Q : cS} {π : mS} {κ : kS} {p : Nat} {ψ : fS} (hL : lowQ Q) (hN : mN π ≤ 40) (h : rI Q π κ) (h0 : 0 ≤ ψ.1) : muK (xNext Q π κ ψ p).2 ≤ muK κ := by
  unfold xNext
  split
  · exact Nat.le_refl _
  · split <;> exact mu_meet hL h (by omega) h0
theorem mu_go {Q : cS} {π : mS} {κ : kS} {p : Nat} {ψ : fS} (hL : lowQ Q) (hQ : 2 ≤ Q.1 ∧ Q.1 ≤ 16) (hN : mN π ≤ 40) (h : rI Q π κ) (hψ : okF Q (mN π) ψ) (h0 : 0 ≤ ψ.1) (h8 : ψ.1 ≤ 8) : muK (xGo Q π κ ψ p).2 ≤ muK κ := by
  unfold xGo
  split
  · exact Nat.le_refl _
  · split
    · split
      · exact Nat.le_refl _
      · rename_i hj
        have ht : (mA π p).toNat < 40 := by
          unfold xJump at hj
          by_cases c : ¬ (0 ≤ mA π p ∧ mA π p < (mN π : Int))
          · rw [if_pos c] at hj; exact absurd (show ¬ (6 : Int) = 0 by decide) hj
          · omega
        have hm := h.meet hQ ht hψ h8
        have hu := mu_meet hL h ht h0
        split
        · split
          · exact hu
          · exact Nat.le_trans (mu_next hL hN hm h0) hu
        · exact hu
    · exact mu_next hL hN h h0
theorem mu_P0 {κ : kS} {p : Nat} (hp : p < 40) (hw : ¬ κ.2.1 p = 0) : muK (xP0 κ p) < muK κ := by
  refine sumR_lt 40 (fun i hi => ?_) ⟨p, hp, ?_⟩
  · unfold wtP
    show (if (κ.1 i).1 < 0 then 2946 else 2 * rkF (κ.1 i)) + (if uL κ.2.1 p 0 i = 0 then 0 else 1) ≤ _
    rw [uL_v]
    by_cases e : i = p
    · rw [if_pos e, if_pos rfl]; omega
    · rw [if_neg e]; exact Nat.le_refl _
  · unfold wtP
    show (if (κ.1 p).1 < 0 then 2946 else 2 * rkF (κ.1 p)) + (if uL κ.2.1 p 0 p = 0 then 0 else 1) < _
    rw [uL_s, if_pos rfl, if_neg hw]
    omega
theorem mu_pass {Q : cS} {π : mS} {κ : kS} {ρ : fS} {p : Nat} (hL : lowQ Q) (hQ : 2 ≤ Q.1 ∧ Q.1 ≤ 16) (hN : mN π ≤ 40) (hgd : gdOK Q π) (hops : opsOK Q π) (hr : ¬ mRes π = 3) (hp : p < mN π) (h : rI Q π κ) (h0 : 0 ≤ (κ.1 p).1) (hw : ¬ κ.2.1 p = 0) : muK (xPass Q π κ ρ p).2.1 < muK κ := by
  have h1 : rI Q π (xP0 κ p) := h
  have hh := rI.hands hQ hgd (p := p) (by omega) (mNG π) 0 (xP0 κ p) ρ (by omega) h1 h0
  have ht : 0 ≤ ((xHands Q π p (mNG π) 0 (xP0 κ p) ρ).2.1.1 p).1 := xHands_there (mNG π) 0 (xP0 κ p) ρ p h0
  have hu := mu_hands hL hQ hgd (p := p) (by omega) (mNG π) 0 (xP0 κ p) ρ (by omega) h1 h0
  have hu2 := Nat.lt_of_le_of_lt hu (mu_P0 (by omega) hw)
  unfold xPass
  generalize xHands Q π p (mNG π) 0 (xP0 κ p) ρ = H at *
  split
  · exact hu2
  · have hp' := hh p (by omega) ht
    have hg : gO Q (mN π) (xPerf Q π (0, H.2.1.1 p) p) := gO.perf hQ.2 (fun _ => ⟨hp'.1, ht, hp'.2⟩) hp (hops p hp) hr
    split
    · exact hu2
    · rename_i z
      obtain ⟨u1, u2, u3⟩ := hg (Decidable.not_not.mp z)
      exact Nat.lt_of_le_of_lt (mu_go hL hQ hN (κ := xHi H.2.1 (xPerf Q π (0, H.2.1.1 p) p).2.1) hh u1 u2 u3) hu2
/-- where place p can hand a frame to by a jump or a guard -/
abbrev seesP (π : mS) (p i : Nat) : Prop := jP π p i ∨ gP π p (mNG π) i
/-- all but p: what is done with has handed its frames on -/
def dI (π : mS) (κ : kS) (p : Nat) : Prop := ∀ q, q < 40 → q ≠ p → 0 ≤ (κ.1 q).1 → κ.2.1 q = 0 → ∀ i, seesP π q i → 0 ≤ (κ.1 i).1
theorem xMeet_wt {Q : cS} {κ : kS} {p : Nat} {ψ : fS} (q : Nat) (h0 : 0 ≤ ((xMeet Q κ p ψ).2.1 q).1) (hw : (xMeet Q κ p ψ).2.2.1 q = 0) : 0 ≤ (κ.1 q).1 ∧ κ.2.1 q = 0 := by
  unfold xMeet at h0 hw
  split at h0
  · rename_i c
    rw [if_pos c] at hw
    have h0' : 0 ≤ (uF κ.1 p ψ q).1 := h0
    have hw' : uL κ.2.1 p 1 q = 0 := hw
    by_cases e : q = p
    · subst e; rw [uL_s] at hw'; exact absurd hw' (by decide)
    · rw [uF_n e] at h0'; rw [uL_n e] at hw'; exact ⟨h0', hw'⟩
  · rename_i c
    rw [if_neg c] at hw
    split at h0
    · rename_i c2
      rw [if_pos c2] at hw
      have h0' : 0 ≤ (uF κ.1 p (mrgF Q (κ.1 p) ψ) q).1 := h0
      have hw' : (if chgB Q (κ.1 p) ψ = true then uL κ.2.1 p 1 else κ.2.1) q = 0 := hw
      by_cases e : q = p
      · subst e
        refine ⟨by omega, ?_⟩
        split at hw'
        · rw [uL_s] at hw'; exact absurd hw' (by decide)
        · exact hw'
      · rw [uF_n e] at h0'
        refine ⟨h0', ?_⟩
        split at hw'
        · rw [uL_n e] at hw'; exact hw'
        · exact hw'
    · rename_i c2
      rw [if_neg c2] at hw
      exact ⟨h0, hw⟩
theorem dI.meet {Q : cS} {π : mS} {κ : kS} {p t : Nat} {ψ : fS} (h : dI π κ p) (hψ : 0 ≤ ψ.1) : dI π (xMeet Q κ t ψ).2 p := fun q hq hqp h0 hw i hs => by
  obtain ⟨u1, u2⟩ := xMeet_wt q h0 hw
  exact xMeet_there hψ i (h q hq hqp u1 u2 i hs)
theorem xMeet_at {Q : cS} {κ : kS} {t : Nat} {ψ : fS} (hψ : 0 ≤ ψ.1) (h : (xMeet Q κ t ψ).1 = true) : 0 ≤ ((xMeet Q κ t ψ).2.1 t).1 := by
  unfold xMeet at h ⊢
  split at h
  · rename_i c
    rw [if_pos c]
    show 0 ≤ (uF κ.1 t ψ t).1
    rw [uF_s]; exact hψ
  · rename_i c
    rw [if_neg c]
    split at h
    · rename_i c2
      rw [if_pos c2]
      show 0 ≤ (uF κ.1 t (mrgF Q (κ.1 t) ψ) t).1
      rw [uF_s]
      show 0 ≤ (κ.1 t).1
      omega
    · exact absurd h (show ¬ false = true by decide)
theorem dI.hands {Q : cS} {π : mS} {p : Nat} : ∀ (j g : Nat) (κ : kS) (ρ : fS), dI π κ p → dI π (xHands Q π p j g κ ρ).2.1 p
  | 0, _, _, _, h => h
  | j + 1, g, κ, ρ, h => by
    unfold xHands
    split
    · exact dI.hands j (g + 1) κ ρ h
    · split
      · exact h
      · have hm := h.meet (Q := Q) (t := (mGh π g).toNat) (ψ := raisF (κ.1 p) ρ.2.2 (10 + mGc π g)) (show (0 : Int) ≤ 1 by decide)
        split
        · exact dI.hands j (g + 1) _ _ hm
        · exact hm
theorem hands_at {Q : cS} {π : mS} {p : Nat} : ∀ (j g : Nat) (κ : kS) (ρ : fS), (xHands Q π p j g κ ρ).1 = 0 → ∀ g', g ≤ g' → g' < g + j → (mGf π g' ≤ (p : Int) ∧ (p : Int) < mGt π g') → 0 ≤ ((xHands Q π p j g κ ρ).2.1.1 (mGh π g').toNat).1
  | 0, _, _, _, _ => fun g' h1 h2 _ => by omega
  | j + 1, g, κ, ρ, h => fun g' h1 h2 hc => by
    unfold xHands at h ⊢
    split at h
    · rename_i c
      rw [if_pos c]
      refine hands_at j (g + 1) κ ρ h g' ?_ (by omega) hc
      by_cases e : g' = g
      · subst e; exact absurd hc c
      · omega
    · rename_i c
      rw [if_neg c]
      split at h
      · exact absurd h (show ¬ (6 : Int) = 0 by decide)
      · rename_i c2
        rw [if_neg c2]
        split at h
        · rename_i c3
          rw [if_pos c3]
          by_cases e : g' = g
          · subst e
            exact xHands_there j (g' + 1) _ _ _ (xMeet_at (show (0 : Int) ≤ 1 by decide) c3)
          · exact hands_at j (g + 1) _ _ h g' (by omega) (by omega) hc
        · exact absurd h (show ¬ (8 : Int) = 0 by decide)
theorem xNext_there {Q : cS} {π : mS} {κ : kS} {p : Nat} {ψ : fS} (hψ : 0 ≤ ψ.1) (i : Nat) (h : 0 ≤ (κ.1 i).1) : 0 ≤ ((xNext Q π κ ψ p).2.1 i).1 := by
  unfold xNext
  split
  · exact h
  · split <;> exact xMeet_there hψ i h
theorem dI.next {Q : cS} {π : mS} {κ : kS} {p : Nat} {ψ : fS} (h : dI π κ p) (hψ : 0 ≤ ψ.1) : dI π (xNext Q π κ ψ p).2 p := by
  unfold xNext
  split
  · exact h
  · split <;> exact h.meet hψ
theorem dI.go {Q : cS} {π : mS} {κ : kS} {p : Nat} {ψ : fS} (h : dI π κ p) (hψ : 0 ≤ ψ.1) : dI π (xGo Q π κ ψ p).2 p := by
  unfold xGo
  split
  · exact h
  · split
    · split
      · exact h
      · have hm := h.meet (Q := Q) (t := (mA π p).toNat) hψ
        split
        · split
          · exact hm
          · exact hm.next hψ
        · exact hm
    · exact h.next hψ
theorem xGo_there {Q : cS} {π : mS} {κ : kS} {p : Nat} {ψ : fS} (hψ : 0 ≤ ψ.1) (i : Nat) (h : 0 ≤ (κ.1 i).1) : 0 ≤ ((xGo Q π κ ψ p).2.1 i).1 := by
  unfold xGo
  split
  · exact h
  · split
    · split
      · exact h
      · have hm := xMeet_there (Q := Q) (p := (mA π p).toNat) hψ i h
        split
        · split
          · exact hm
          · exact xNext_there hψ i hm
        · exact hm
    · exact xNext_there hψ i h
theorem go_at {Q : cS} {π : mS} {κ : kS} {p : Nat} {ψ : fS} (hψ : 0 ≤ ψ.1) (h : (xGo Q π κ ψ p).1 = 0) (hj : mOp π p = 11 ∨ mOp π p = 12) : 0 ≤ ((xGo Q π κ ψ p).2.1 (mA π p).toNat).1 := by
  unfold xGo at h ⊢
  have c0 : ¬ (mOp π p = 22 ∨ mOp π p = 23) := by omega
  rw [if_neg c0, if_pos hj] at h ⊢
  split at h
  · rename_i c; exact absurd h c
  · rename_i c
    rw [if_neg c]
    split at h
    · rename_i c2
      rw [if_pos c2]
      have hm := xMeet_at hψ c2
      split
      · exact hm
      · exact xNext_there hψ _ hm
    · exact absurd h (show ¬ (8 : Int) = 0 by decide)
theorem pass_dI {Q : cS} {π : mS} {κ : kS} {ρ : fS} {p : Nat} (hN : mN π ≤ 40) (hops : opsOK Q π) (hgd : gdOK Q π) (hQ : 2 ≤ Q.1 ∧ Q.1 ≤ 16) (hr : ¬ mRes π = 3) (hp : p < mN π) (hR : rI Q π κ) (h : dI π κ 40) (h0 : 0 ≤ (κ.1 p).1) (hz : (xPass Q π κ ρ p).1 = 0) : dI π (xPass Q π κ ρ p).2.1 40 := by
  have d1 : dI π (xP0 κ p) p := fun q hq hqp u1 u2 i hs => by
    have u2' : uL κ.2.1 p 0 q = 0 := u2
    rw [uL_n hqp] at u2'
    exact h q hq (by omega) u1 u2' i hs
  have d2 := dI.hands (Q := Q) (mNG π) 0 (xP0 κ p) ρ d1
  have h1 : rI Q π (xP0 κ p) := hR
  have hh := rI.hands hQ hgd (p := p) (by omega) (mNG π) 0 (xP0 κ p) ρ (by omega) h1 h0
  have ht : 0 ≤ ((xHands Q π p (mNG π) 0 (xP0 κ p) ρ).2.1.1 p).1 := xHands_there (mNG π) 0 (xP0 κ p) ρ p h0
  have ha := hands_at (Q := Q) (π := π) (p := p) (mNG π) 0 (xP0 κ p) ρ
  unfold xPass at hz ⊢
  generalize xHands Q π p (mNG π) 0 (xP0 κ p) ρ = H at *
  split at hz
  · rename_i c; exact absurd hz c
  · rename_i c
    rw [if_neg c]
    have ha2 := ha (Decidable.not_not.mp c)
    split at hz
    · rename_i c2; exact absurd hz c2
    · rename_i c2
      rw [if_neg c2]
      have hp' := hh p (by omega) ht
      have hg : gO Q (mN π) (xPerf Q π (0, H.2.1.1 p) p) := gO.perf hQ.2 (fun _ => ⟨hp'.1, ht, hp'.2⟩) hp (hops p hp) hr
      obtain ⟨u1, u2, u3⟩ := hg (Decidable.not_not.mp c2)
      have d3 : dI π (xHi H.2.1 (xPerf Q π (0, H.2.1.1 p) p).2.1) p := d2
      have d4 := d3.go (Q := Q) (ψ := (xPerf Q π (0, H.2.1.1 p) p).2) u2
      intro q hq hq40 w1 w2 i hs
      by_cases e : q = p
      · subst e
        rcases hs with hs | hs
        · have := go_at (Q := Q) (π := π) (κ := xHi H.2.1 (xPerf Q π (0, H.2.1.1 q) q).2.1) u2 hz hs.1
          rw [hs.2] at this
          exact this
        · obtain ⟨g, g1, g2, g3⟩ := hs
          have := ha2 g (by omega) (by omega) g2
          rw [g3] at this
          exact xGo_there u2 i (κ := xHi H.2.1 (xPerf Q π (0, H.2.1.1 q) q).2.1) this
      · exact d4 q hq e w1 w2 i hs
/-- what guard() has let in -/
def gtOK (π : mS) : Prop := ∀ g, g < mNG π → 0 ≤ mGf π g ∧ mGf π g < mGt π g ∧ mGt π g ≤ 40
/-- what a method as told is to the work -/
def wkI (Q : cS) (π : mS) : Prop := (2 ≤ Q.1 ∧ Q.1 ≤ 16) ∧ lowQ Q ∧ mN π ≤ 40 ∧ opsOK Q π ∧ gdOK Q π ∧ ¬ mRes π = 3 ∧ gtOK π
/-- all that stays so while a method's work runs -/
def runI (Q : cS) (π : mS) (κ : kS) (ρ : fS) : Prop := kI π κ ∧ rI Q π κ ∧ dI π κ 40 ∧ ∀ k, k < 8 → 0 ≤ ρ.2.2 k
theorem runI.pass {Q : cS} {π : mS} {κ : kS} {ρ : fS} {p : Nat} (hw : wkI Q π) (h : runI Q π κ ρ) (hp : p < 40) (hwt : ¬ κ.2.1 p = 0) : kI π (xPass Q π κ ρ p).2.1 ∧ rI Q π (xPass Q π κ ρ p).2.1 ∧ (∀ k, k < 8 → 0 ≤ (xPass Q π κ ρ p).2.2.2.2 k) ∧ ((xPass Q π κ ρ p).1 = 0 → dI π (xPass Q π κ ρ p).2.1 40) ∧ muK (xPass Q π κ ρ p).2.1 < muK κ := by
  obtain ⟨w1, w2, w3, w4, w5, w6, _⟩ := hw
  obtain ⟨h1, h2, h3, h4⟩ := h
  obtain ⟨hpN, hp0⟩ := (h1 p hp).1 hwt
  have hh := rI.hands w1 w5 (p := p) hp (mNG π) 0 (xP0 κ p) ρ (by omega) (show rI Q π (xP0 κ p) from h2) hp0
  have ht : 0 ≤ ((xHands Q π p (mNG π) 0 (xP0 κ p) ρ).2.1.1 p).1 := xHands_there (mNG π) 0 (xP0 κ p) ρ p hp0
  have hk := xPass_kI w5 w4 hpN hp h1 hp0 (hh p hp ht).2 h4
  exact ⟨hk.1, rI.pass w1 w3 w5 w4 w6 hpN h2 hp0, hk.2, fun z => pass_dI w3 w4 w5 w1 w6 hpN h2 h3 hp0 z, mu_pass w2 w1 w3 w5 w4 w6 hpN h2 hp0 hwt⟩
theorem run_end {Q : cS} {π : mS} (hw : wkI Q π) : ∀ (j : Nat) (κ : kS) (ρ : fS), muK κ < j → runI Q π κ ρ → kI π (xRun Q π j κ ρ).2.1 ∧ rI Q π (xRun Q π j κ ρ).2.1 ∧ (∀ k, k < 8 → 0 ≤ (xRun Q π j κ ρ).2.2.2.2 k) ∧ ((xRun Q π j κ ρ).1.1 = 0 → ∀ p i, p < 40 → 0 ≤ ((xRun Q π j κ ρ).2.1.1 p).1 → seesP π p i → 0 ≤ ((xRun Q π j κ ρ).2.1.1 i).1)
  | 0, _, _, h, _ => absurd h (by omega)
  | j + 1, κ, ρ, h, hr => by
    rw [xRun_s]
    rcases leastW_spec κ.2.1 40 0 with ⟨e, hz⟩ | ⟨p, _, hp, e, hwt, _⟩
    · rw [if_pos e]
      exact ⟨hr.1, hr.2.1, hr.2.2.2, fun _ q i hq h0 hs => hr.2.2.1 q hq (by omega) h0 (hz q (by omega) (by omega)) i hs⟩
    · have et : ((p : Nat) : Int).toNat = p := rfl
      rw [if_neg (by omega), e, et]
      obtain ⟨u1, u2, u3, u4, u5⟩ := hr.pass hw (p := p) (by omega) hwt
      split
      · rename_i c
        exact run_end hw j _ _ (by omega) ⟨u1, u2, u4 c, u3⟩
      · rename_i c
        exact ⟨u1, u2, u3, fun z => absurd z c⟩
theorem start_wt {κ : kS} {β : Nat → Int} {q : Nat} (hq : q < 40) : (xStart κ β).1 q = (if q = 0 then (0, β, (κ.1 0).2.2) else (-1, (κ.1 q).2)) ∧ (xStart κ β).2.1 q = if q = 0 then 1 else 0 := by
  have e := xSt0_v κ 40 q
  have e0 := xSt0_v κ 40 0
  rw [if_pos (show 0 < 40 by decide), if_pos (show 0 < 40 by decide)] at e0
  rw [if_pos hq, if_pos hq] at e
  refine ⟨?_, ?_⟩
  · show uF (xSt0 κ 40).1 0 (0, β, ((xSt0 κ 40).1 0).2.2) q = _
    by_cases c : q = 0
    · subst c; rw [uF_s, if_pos rfl, e0.1]
    · rw [uF_n c, if_neg c, e.1]
  · show uL (xSt0 κ 40).2.1 0 1 q = _
    by_cases c : q = 0
    · subst c; rw [uL_s, if_pos rfl]
    · rw [uL_n c, if_neg c, e.2]
theorem runI.start {Q : cS} {π : mS} {κ : kS} {ρ : fS} (h1 : 1 ≤ mN π) (hn : ∀ i, i < 40 → nnF (κ.1 i)) (hb : ∀ k, k < 8 → knK Q (mN π) (mBeg π k)) (hb0 : ∀ k, k < 8 → 0 ≤ mBeg π k) (hp : pW (mBeg π)) (hr : ∀ k, k < 8 → 0 ≤ ρ.2.2 k) : runI Q π (xStart κ (mBeg π)) ρ := by
  refine ⟨kI_start hn hb0 h1, fun i hi h0 => ?_, fun q hq _ h0 hw => ?_, hr⟩
  · have e := (start_wt (κ := κ) (β := mBeg π) hi).1
    by_cases c : i = 0
    · subst c
      rw [if_pos rfl] at e
      rw [e]
      exact ⟨⟨hb, hp, fun k hk => absurd (show (k : Int) < 0 from hk) (by omega), fun k hk => absurd (show (k : Int) < 0 from hk) (by omega)⟩, show (0 : Int) ≤ 8 by decide⟩
    · rw [if_neg c] at e
      rw [e] at h0
      exact absurd (show (0 : Int) ≤ -1 from h0) (by decide)
  · have e := start_wt (κ := κ) (β := mBeg π) hq
    by_cases c : q = 0
    · rw [if_pos c, if_pos c] at e
      rw [e.2] at hw
      exact absurd hw (by decide)
    · rw [if_neg c, if_neg c] at e
      rw [e.1] at h0
      exact absurd (show (0 : Int) ≤ -1 from h0) (by decide)
theorem fuel_ok {κ : kS} : muK κ < 1000000 := Nat.lt_of_le_of_lt (muK_le κ) (by decide)
theorem hasC_up {Q Q' : cS} {x : Int} (hq : Q.1 ≤ Q'.1) (h : hasC Q x) : hasC Q' x := by unfold hasC at h ⊢; omega
theorem ofC_up {Q Q' : cS} {x : Int} (hq : Q.1 ≤ Q'.1) (h : ofC Q x) : ofC Q' x := by
  rcases h with h | h
  · exact Or.inl ⟨h.1, hasC_up hq h.2⟩
  · exact Or.inr ⟨h.1, hasC_up hq h.2⟩
theorem argK_up {Q Q' : cS} {x : Int} (hq : Q.1 ≤ Q'.1) (h : argK Q x) : argK Q' x := by
  rcases h with h | h | h | h
  · exact Or.inl h
  · exact Or.inr (Or.inl h)
  · exact Or.inr (Or.inr (Or.inl h))
  · exact Or.inr (Or.inr (Or.inr (ofC_up hq h)))
theorem resK_up {Q Q' : cS} {x : Int} (hq : Q.1 ≤ Q'.1) (h : resK Q x) : resK Q' x := by
  rcases h with h | h
  · exact Or.inl h
  · exact Or.inr (argK_up hq h)
theorem knK_up {Q Q' : cS} {N N' : Nat} {x : Int} (hq : Q.1 ≤ Q'.1) (hN : N ≤ N') (h : knK Q N x) : knK Q' N' x := by
  rcases h with h | h | h
  · exact Or.inl h
  · exact Or.inr (Or.inl (ofC_up hq h))
  · exact Or.inr (Or.inr (by omega))
theorem opOK_up {Q Q' : cS} {op a b : Int} (hq : Q.1 ≤ Q'.1) (h : opOK Q op a b) : opOK Q' op a b := by
  obtain ⟨h1, h2, h3, h4, h5, h6, h7, h8⟩ := h
  refine ⟨h1, h2, h3, h4, h5, fun q => hasC_up hq (h6 q), fun q => resK_up hq (h7 q), fun q => ?_⟩
  rcases h8 q with u | u
  · exact Or.inl u
  · exact Or.inr (hasC_up hq u)
/-- the frame that a method begins with -/
def begI (Q : cS) (π : mS) : Prop := mNA π ≤ 8 ∧ (∀ k, k < 8 → knK Q 0 (mBeg π k)) ∧ pW (mBeg π) ∧ ∀ k, mNA π ≤ k → k < 8 → mBeg π k = 0
/-- what stays so of a method, told, done -/
def zIm (Q : cS) (π : mS) (κ : kS) (t : Int × Int × Int) : Prop := opsOK Q π ∧ gdOK Q π ∧ (∀ j, j < 40 → nnF (κ.1 j)) ∧ resK Q (mRes π) ∧ begI Q π ∧ mN π ≤ 40 ∧ mNG π ≤ 6 ∧ gtOK π ∧ (t.1 = 1 → (∀ j, j < 40 → 0 ≤ (κ.1 j).1 → ppP (κ.1 j)) ∧ (t.2.1 = 0 → ∀ p q, p < 40 → 0 ≤ (κ.1 p).1 → seesP π p q → 0 ≤ (κ.1 q).1))
def zI (s : xS) : Prop := (∀ i, i < xn s → zIm s.1 (xπ s i) (xκ s i) (xst s i)) ∧ ∀ k, k < 8 → 0 ≤ (xρ s).2.2 k
theorem knK_nn {Q : cS} {N : Nat} {k : Int} (h : knK Q N k) : 0 ≤ k := by
  unfold knK ofC kThing kRow at h; omega
theorem zI.x {s : xS} (h : zI s) : xI s := ⟨fun i hi => by
  obtain ⟨h1, h2, h3, _, h5, _⟩ := h.1 i hi
  exact ⟨h1, h2, h3, fun k hk => knK_nn (h5.2.1 k hk)⟩, h.2⟩
theorem zIm.up {Q Q' : cS} {π : mS} {κ : kS} {t : Int × Int × Int} (hq : Q.1 ≤ Q'.1) (h : zIm Q π κ t) : zIm Q' π κ t := by
  obtain ⟨h1, h2, h3, h4, h5, h6, h7, hg9, h8⟩ := h
  exact ⟨fun p hp => opOK_up hq (h1 p hp), fun g hg => ⟨(h2 g hg).1, (h2 g hg).2.1, hasC_up hq (h2 g hg).2.2⟩, h3, resK_up hq h4, ⟨h5.1, fun k hk => knK_up hq (Nat.le_refl _) (h5.2.1 k hk), h5.2.2⟩, h6, h7, hg9, h8⟩
theorem zI.cls {s : xS} {p : Int} (h : zI s) : zI (xCls s p).2 := by
  unfold xCls
  split
  · exact h
  · split
    · exact h
    · exact ⟨fun i hi => (h.1 i hi).up (show s.1.1 ≤ s.1.1 + 1 by omega), h.2⟩
theorem zI.uM {s : xS} {i : Nat} {π : mS} {κ : kS} {t : Int × Int × Int} {ρ : fS} (h : zI s) (hm : zIm s.1 π κ t) (hr : ∀ k, k < 8 → 0 ≤ ρ.2.2 k) : zI (uM s i π κ t ρ) := by
  refine ⟨fun j hj => ?_, hr⟩
  show zIm s.1 (uN (xπ s) i π j) (uN (xκ s) i κ j) (uN (xst s) i t j)
  by_cases e : j = i
  · subst e; rw [uN_s, uN_s, uN_s]; exact hm
  · rw [uN_n e, uN_n e, uN_n e]; exact h.1 j hj
theorem zI.meth {s : xS} {r : Int} (h : zI s) : zI (xMeth s r).2 := by
  unfold xMeth
  split
  · exact h
  · rename_i c
    split
    · exact h
    · refine ⟨fun j hj => ?_, h.2⟩
      show zIm s.1 (uN (xπ s) (xn s) (mt0 r) j) (uN (xκ s) (xn s) wk0 j) (uN (xst s) (xn s) (0, 0, 0) j)
      have hj' : j < xn s + 1 := hj
      by_cases e : j = xn s
      · subst e
        rw [uN_s, uN_s, uN_s]
        refine ⟨fun p hp => absurd (show p < 0 from hp) (by omega), fun g hg => absurd (show g < 0 from hg) (by omega), fun _ _ k _ => ⟨Int.le_refl 0, Int.le_refl 0⟩, Decidable.not_not.mp c, ⟨Nat.zero_le _, fun k _ => Or.inl ⟨Int.le_refl 0, show (0 : Int) ≤ 5 by decide⟩, fun k _ => ⟨fun q => absurd (show (0 : Int) = 2 from q) (by decide), fun q => absurd (show (0 : Int) = 3 from q) (by decide)⟩, fun _ _ _ => rfl⟩, Nat.zero_le _, Nat.zero_le _, fun g hg => absurd (show g < 0 from hg) (by omega), fun q => absurd (show (0 : Int) = 1 from q) (by decide)⟩
      · rw [uN_n e, uN_n e, uN_n e]; exact h.1 j (by omega)
theorem t0_no {t : Int × Int} {X : Prop} : ((0, t) : Int × Int × Int).1 = 1 → X := fun q => absurd (show (0 : Int) = 1 from q) (by decide)
theorem begI.arg {Q : cS} {π : mS} {kd : Int} (h : begI Q π) (hk : argK Q kd) (h8 : ¬ 8 < (mNA π : Int) + (if kd = 2 then 2 else 1)) : begI Q (aArg π kd) := by
  obtain ⟨h1, h2, h3, h4⟩ := h
  have hkn : knK Q 0 kd := (knK_res (N := 0) (Or.inr hk)).1
  have hk3 : ¬ kd = 3 := (knK_res (Q := Q) (N := 0) (Or.inr hk)).2
  by_cases c : kd = 2
  · subst c
    rw [if_pos rfl] at h8
    have e : aArg π 2 = ((mRes π, mNA π + 2, uL (uL (mBeg π) (mNA π) 2) (mNA π + 1) 3), π.2) := by unfold aArg; rw [if_pos rfl, if_pos rfl]
    rw [e]
    have v : ∀ k, mBeg ((mRes π, mNA π + 2, uL (uL (mBeg π) (mNA π) 2) (mNA π + 1) 3), π.2) k = if k = mNA π + 1 then 3 else if k = mNA π then 2 else mBeg π k := fun _ => rfl
    refine ⟨show mNA π + 2 ≤ 8 by omega, fun k hk8 => ?_, fun k hk8 => ?_, fun k u1 u2 => ?_⟩
    · rw [v]; split
      · exact knK_0 ⟨by decide, by decide⟩
      · split
        · exact knK_0 ⟨by decide, by decide⟩
        · exact h2 k hk8
    · rw [v, v, v]
      obtain ⟨u1, u2⟩ := h3 k hk8
      have z0 := h4 k
      refine ⟨fun q => ?_, fun q => ?_⟩
      · by_cases c1 : k = mNA π + 1
        · rw [if_pos c1] at q; exact absurd q (by decide)
        · rw [if_neg c1] at q
          by_cases c2 : k = mNA π
          · exact ⟨by omega, by rw [if_pos (by omega)]⟩
          · rw [if_neg c2] at q
            obtain ⟨v1, v2⟩ := u1 q
            have c3 : k < mNA π := by
              by_cases c4 : k < mNA π
              · exact c4
              · have := z0 (by omega) hk8; omega
            have c5 : ¬ k + 1 = mNA π := fun r => by
              have := h4 (k + 1) (by omega) v1; omega
            exact ⟨v1, by rw [if_neg (by omega), if_neg c5]; exact v2⟩
      · by_cases c1 : k = mNA π + 1
        · exact ⟨by omega, by rw [if_neg (by omega), if_pos (by omega)]⟩
        · rw [if_neg c1] at q
          by_cases c2 : k = mNA π
          · rw [if_pos c2] at q; exact absurd q (by decide)
          · rw [if_neg c2] at q
            obtain ⟨v1, v2⟩ := u2 q
            have c3 : k < mNA π := by
              by_cases c4 : k < mNA π
              · exact c4
              · have := z0 (by omega) hk8; omega
            exact ⟨v1, by rw [if_neg (by omega), if_neg (by omega)]; exact v2⟩
    · have u1' : mNA π + 2 ≤ k := u1
      rw [v, if_neg (by omega), if_neg (by omega)]
      exact h4 k (by omega) u2
  · rw [if_neg c] at h8
    have e : aArg π kd = ((mRes π, mNA π + 1, uL (mBeg π) (mNA π) kd), π.2) := by unfold aArg; rw [if_neg c, if_neg c]
    rw [e]
    have v : ∀ k, mBeg ((mRes π, mNA π + 1, uL (mBeg π) (mNA π) kd), π.2) k = if k = mNA π then kd else mBeg π k := fun _ => rfl
    refine ⟨show mNA π + 1 ≤ 8 by omega, fun k hk8 => ?_, fun k hk8 => ?_, fun k u1 u2 => ?_⟩
    · rw [v]; split
      · exact hkn
      · exact h2 k hk8
    · rw [v, v, v]
      obtain ⟨u1, u2⟩ := h3 k hk8
      have z0 := h4 k
      refine ⟨fun q => ?_, fun q => ?_⟩
      · by_cases c2 : k = mNA π
        · rw [if_pos c2] at q; exact absurd q c
        · rw [if_neg c2] at q
          obtain ⟨v1, v2⟩ := u1 q
          have c5 : ¬ k + 1 = mNA π := fun r => by
            have := h4 (k + 1) (by omega) v1; omega
          exact ⟨v1, by rw [if_neg c5]; exact v2⟩
      · by_cases c2 : k = mNA π
        · rw [if_pos c2] at q; exact absurd q hk3
        · rw [if_neg c2] at q
          obtain ⟨v1, v2⟩ := u2 q
          have c3 : k < mNA π := by
            by_cases c4 : k < mNA π
            · exact c4
            · have := z0 (by omega) hk8; omega
          exact ⟨v1, by rw [if_neg (by omega)]; exact v2⟩
    · have u1' : mNA π + 1 ≤ k := u1
      rw [v, if_neg (by omega)]
      exact h4 k (by omega) u2
theorem zI.arg {s : xS} {m kd : Int} (h : zI s) : zI (xArg s m kd).2 := by
  unfold xArg
  split
  · exact h
  · rename_i c
    by_cases c2 : 8 < (mNA (xπ s m.toNat) : Int) + (if kd = 2 then 2 else 1)
    · rw [if_pos c2]; exact h
    · rw [if_neg c2]
      have hf : fnd s m := by
        by_cases q : fnd s m
        · exact q
        · exact absurd (Or.inl q) c
      have hk : argK s.1 kd := by
        by_cases q : argK s.1 kd
        · exact q
        · exact absurd (Or.inr q) c
      obtain ⟨h1, h2, h3, h4, h5, h6, h7, hg9, h8⟩ := h.1 m.toNat (by unfold fnd at hf; omega)
      exact h.uM ⟨h1, h2, h3, h4, h5.arg hk c2, h6, h7, hg9, t0_no⟩ h.2
theorem zI.op {s : xS} {m op a b : Int} (h : zI s) : zI (xOp s m op a b).2 := by
  unfold xOp
  split
  · exact h
  · rename_i c
    split
    · exact h
    · rename_i c2
      have hf : fnd s m := by
        by_cases q : fnd s m
        · exact q
        · exact absurd (Or.inl q) c
      have hk : opQ s.1 op a b := by
        by_cases q : opQ s.1 op a b
        · exact q
        · exact absurd (Or.inr q) c
      obtain ⟨h1, h2, h3, h4, h5, h6, h7, hg9, h8⟩ := h.1 m.toNat (by unfold fnd at hf; omega)
      refine h.uM ⟨fun p hp => ?_, h2, h3, h4, h5, ?_, h7, hg9, t0_no⟩ h.2
      · show opOK s.1 (uL (mOp (xπ s m.toNat)) (mN (xπ s m.toNat)) op p) (uL (mA (xπ s m.toNat)) (mN (xπ s m.toNat)) a p) (uL (mB (xπ s m.toNat)) (mN (xπ s m.toNat)) b p)
        have hp' : p < mN (xπ s m.toNat) + 1 := hp
        by_cases e : p = mN (xπ s m.toNat)
        · rw [e, uL_s, uL_s, uL_s]; exact hk
        · rw [uL_n e, uL_n e, uL_n e]; exact h1 p (Nat.lt_of_le_of_ne (Nat.le_of_lt_succ hp') e)
      · exact Nat.lt_of_le_of_ne h6 c2
theorem zI.guard {s : xS} {m f t h' c : Int} (h : zI s) : zI (xGuard s m f t h' c).2 := by
  unfold xGuard
  split
  · exact h
  · rename_i cc
    split
    · exact h
    · rename_i c2
      have hf : fnd s m := by
        by_cases q : fnd s m
        · exact q
        · exact absurd (Or.inl q) cc
      have hh : 0 ≤ h' ∧ h' < 40 := by
        by_cases q : 0 ≤ h' ∧ h' < 40
        · exact q
        · exact absurd (Or.inr (Or.inr (Or.inr (Or.inr (Or.inl q))))) cc
      have hk : hasC s.1 c := by
        by_cases q : hasC s.1 c
        · exact q
        · exact absurd (Or.inr (Or.inr (Or.inr (Or.inr (Or.inr q))))) cc
      obtain ⟨h1, h2, h3, h4, h5, h6, h7, hg9, h8⟩ := h.1 m.toNat (by unfold fnd at hf; omega)
      have hft : 0 ≤ f ∧ f < t ∧ t ≤ 40 := by
        by_cases q : 0 ≤ f ∧ f < t ∧ t ≤ 40
        · exact q
        · exfalso; exact cc (by omega)
      refine h.uM ⟨h1, fun g hg => ?_, h3, h4, h5, h6, ?_, fun g hg => ?_, t0_no⟩ h.2
      · show 0 ≤ uL (mGh (xπ s m.toNat)) (mNG (xπ s m.toNat)) h' g ∧ uL (mGh (xπ s m.toNat)) (mNG (xπ s m.toNat)) h' g < 40 ∧ hasC s.1 (uL (mGc (xπ s m.toNat)) (mNG (xπ s m.toNat)) c g)
        have hg' : g < mNG (xπ s m.toNat) + 1 := hg
        by_cases e : g = mNG (xπ s m.toNat)
        · rw [e, uL_s, uL_s]; exact ⟨hh.1, hh.2, hk⟩
        · rw [uL_n e, uL_n e]; exact h2 g (Nat.lt_of_le_of_ne (Nat.le_of_lt_succ hg') e)
      · exact Nat.lt_of_le_of_ne h7 c2
      · show 0 ≤ uL (mGf (xπ s m.toNat)) (mNG (xπ s m.toNat)) f g ∧ uL (mGf (xπ s m.toNat)) (mNG (xπ s m.toNat)) f g < uL (mGt (xπ s m.toNat)) (mNG (xπ s m.toNat)) t g ∧ uL (mGt (xπ s m.toNat)) (mNG (xπ s m.toNat)) t g ≤ 40
        have hg' : g < mNG (xπ s m.toNat) + 1 := hg
        by_cases e : g = mNG (xπ s m.toNat)
        · rw [e, uL_s, uL_s]; exact hft
        · rw [uL_n e, uL_n e]; exact hg9 g (Nat.lt_of_le_of_ne (Nat.le_of_lt_succ hg') e)
theorem zIm.wk {Q : cS} {π : mS} {κ : kS} {t : Int × Int × Int} (hQ : 2 ≤ Q.1 ∧ Q.1 ≤ 16) (hl : lowQ Q) (h : zIm Q π κ t) : wkI Q π := ⟨hQ, hl, h.2.2.2.2.2.1, h.1, h.2.1, (knK_res (N := 0) h.2.2.2.1).2, h.2.2.2.2.2.2.2.1⟩
theorem zIm.run {Q : cS} {π : mS} {κ : kS} {t : Int × Int × Int} {ρ : fS} (h : zIm Q π κ t) (h1 : 1 ≤ mN π) (hr : ∀ k, k < 8 → 0 ≤ ρ.2.2 k) : runI Q π (xStart κ (mBeg π)) ρ := by
  obtain ⟨_, _, h3, _, h5, _⟩ := h
  exact runI.start h1 h3 (fun k hk => knK_up (Nat.le_refl _) (Nat.zero_le _) (h5.2.1 k hk)) (fun k hk => knK_nn (h5.2.1 k hk)) h5.2.2.1 hr
theorem zI.comp {s : xS} {m : Int} (h : zI s) (hQ : 2 ≤ s.1.1 ∧ s.1.1 ≤ 16) (hl : lowQ s.1) : zI (xComp s m).2 := by
  unfold xComp
  split
  · exact h
  · rename_i c
    split
    · exact h
    · rename_i c2
      have hf : fnd s m := Decidable.not_not.mp c
      have hm := h.1 m.toNat (by unfold fnd at hf; omega)
      have hr := run_end (hm.wk hQ hl) 1000000 _ _ fuel_ok (hm.run (by omega) h.2)
      obtain ⟨h1, h2, h3, h4, h5, h6, h7, hg9, h8⟩ := hm
      exact h.uM ⟨h1, h2, fun j hj => (hr.1 j hj).2, h4, h5, h6, h7, hg9, fun _ => ⟨fun j hj h0 => (hr.2.1 j hj h0).1.2.2.2, fun z p q hp h0 hs => hr.2.2.2 z p q hp h0 hs⟩⟩ hr.2.2.1
theorem zI_0 : zI xs0 := ⟨fun i hi => absurd (show i < 0 from hi) (by omega), fun k _ => Int.le_refl 0⟩
