/-! ===== steps keep what is not below 0 ===== -/
def gS (σ : sS) : Prop := nnF σ.2 ∧ 0 ≤ σ.2.1 ∧ σ.2.1 ≤ 8
theorem gS_brk {σ : sS} {n : Int} (h : gS σ) : gS (xBrk σ n) := h
theorem gS_chk {σ : sS} {P : Prop} [Decidable P] {n : Int} (h : gS σ) : gS (xChk σ P n) := by
  unfold xChk
  split
  · exact h
  · exact h
theorem gS_W {σ : sS} {n r : Int} (h : gS σ) : gS (xW σ n r) := by
  unfold xW
  split
  · exact h
  · exact h
theorem xW_2 {σ : sS} {n r : Int} : (xW σ n r).2 = σ.2 := by
  unfold xW
  split <;> rfl
theorem gS_TA {σ : sS} (h : gS σ) : gS (xTA σ).2 ∧ 0 ≤ (xTA σ).1 := by
  unfold xTA
  have h2 := h.2
  split
  · rename_i hr
    have h1 : ¬ σ.2.1 < 1 := by
      intro q
      rw [show xW σ 1 2 = xBrk σ 2 from if_pos q] at hr
      exact xBrk_ne (by decide) hr
    have e : xW σ 1 2 = σ := if_neg h1
    rw [e]
    refine ⟨⟨h.1, show 0 ≤ σ.2.1 - 1 by omega, show σ.2.1 - 1 ≤ 8 by omega⟩, ?_⟩
    show 0 ≤ fTop σ.2
    unfold fTop
    rw [if_pos (by omega)]
    exact (h.1 _ (by omega)).2
  · exact ⟨gS_W h, show (0 : Int) ≤ 0 by decide⟩
theorem gS_TL {σ : sS} (h : gS σ) : gS (xTL σ) := by
  unfold xTL
  have h2 := h.2
  have h0 : gS (xTL0 σ) := by
    unfold xTL0
    split
    · exact gS_W h
    · exact gS_brk (gS_W h)
  split
  · rename_i hr
    unfold xTL0 at hr
    split at hr
    · rename_i hl
      have e : xTL0 σ = xW σ 2 2 := if_pos hl
      rw [e]
      refine ⟨?_, ?_, ?_⟩
      · show nnF (_, (xW σ 2 2).2.2); rw [xW_2]; exact h.1
      · show 0 ≤ (xW σ 2 2).2.1 - 2; rw [xW_2]; omega
      · show (xW σ 2 2).2.1 - 2 ≤ 8; rw [xW_2]; omega
    · exact absurd hr (xBrk_ne (by decide))
  · exact h0
theorem gS_take {Q : cS} {σ : sS} {kd : Int} (h : gS σ) : gS (xTake Q σ kd) := by
  unfold xTake
  split
  · exact gS_TL h
  · split
    · exact h
    · split
      · exact (gS_TA h).1
      · exact gS_brk (gS_TA h).1
theorem gS_lay {σ : sS} {kd : Int} (h : gS σ) (hk : 0 ≤ kd) : gS (xLay σ kd) := by
  have h2 := h.2
  unfold xLay
  split
  · exact h
  · have h0 : gS (xLay0 σ kd) := by
      by_cases q : 8 < σ.2.1 + (if kd = 2 then 2 else 1)
      · rw [show xLay0 σ kd = xBrk σ 1 from if_pos q]; exact gS_brk h
      · rw [show xLay0 σ kd = σ from if_neg q]; exact h
    split
    · rename_i hr
      have h8 : ¬ 8 < σ.2.1 + (if kd = 2 then 2 else 1) := by
        intro q
        rw [show xLay0 σ kd = xBrk σ 1 from if_pos q] at hr
        exact xBrk_ne (by decide) hr
      have e : xLay0 σ kd = σ := if_neg h8
      rw [e]
      refine ⟨fun k hk8 => ⟨(h.1 k hk8).1, ?_⟩, ?_, ?_⟩
      · show 0 ≤ (if kd = 2 then uL (uL σ.2.2.2 σ.2.1.toNat kd) (σ.2.1 + 1).toNat 3 else uL σ.2.2.2 σ.2.1.toNat kd) k
        have hP := (h.1 k hk8).2
        split
        · unfold uL; split; decide; split; exact hk; exact hP
        · unfold uL; split; exact hk; exact hP
      · show 0 ≤ σ.2.1 + (if kd = 2 then 2 else 1); split <;> omega
      · show σ.2.1 + (if kd = 2 then 2 else 1) ≤ 8; omega
    · exact h0
theorem nn_brkL {L : Nat → Int} {i : Int} {k : Nat} (h : 0 ≤ L k) : 0 ≤ brkL L i k := by
  unfold brkL
  split
  · unfold uL; split; decide; exact h
  · split
    · unfold uL; split; decide; exact h
    · exact h
theorem gS_put {σ : sS} {i : Nat} {kd : Int} (h : gS σ) (hk : 0 ≤ kd) : gS (xPut σ i kd) := by
  unfold xPut
  split
  · refine ⟨fun k hk8 => ⟨?_, (h.1 k hk8).2⟩, h.2⟩
    show 0 ≤ uL (brkL σ.2.2.1 (i : Int)) i kd k
    unfold uL
    split
    · exact hk
    · exact nn_brkL (h.1 k hk8).1
  · exact h
theorem gS_repl {σ : sS} {ol kd : Int} (h : gS σ) (hk : 0 ≤ kd) : gS (σ.1, replF σ.2 ol kd) := by
  refine ⟨fun k hk8 => ⟨?_, ?_⟩, h.2⟩
  · show 0 ≤ if σ.2.2.1 k = ol then kd else σ.2.2.1 k
    split; exact hk; exact (h.1 k hk8).1
  · show 0 ≤ if (k : Int) < σ.2.1 ∧ σ.2.2.2 k = ol then kd else σ.2.2.2 k
    split; exact hk; exact (h.1 k hk8).2
theorem gS_UL {Q : cS} {σ : sS} {op : Int} {a : Nat} (h : gS σ) (ha : a < 8) : gS (xUL Q σ op a) := by
  unfold xUL
  split
  · exact gS_lay (gS_chk h) (by decide)
  · split
    · exact gS_put (gS_take h) (by decide)
    · split
      · exact gS_lay (gS_chk h) (by decide)
      · split
        · exact gS_put (gS_put (gS_take h) (by decide)) (by decide)
        · split
          · exact gS_lay (gS_chk h) (h.1 a ha).1
          · exact gS_put (gS_chk (gS_TA h).1) (gS_TA h).2
theorem gS_UV {Q : cS} {σ : sS} {op res : Int} (h : gS σ) : gS (xUV Q σ op res) := by
  unfold xUV
  split
  · exact gS_lay h (by decide)
  · split
    · exact gS_lay h (by decide)
    · split
      · exact gS_lay (gS_take (gS_take h)) (by decide)
      · split
        · exact gS_lay (gS_take (gS_take h)) (by decide)
        · split
          · exact gS_lay (gS_take h) (by decide)
          · split
            · exact gS_take h
            · split
              · exact gS_lay (gS_lay (gS_chk (gS_TA h).1) (gS_TA h).2) (gS_TA h).2
              · split
                · exact gS_take h
                · split
                  · exact gS_take h
                  · split
                    · exact gS_chk (gS_TA h).1
                    · split
                      · exact gS_take h
                      · exact h
theorem gS_UT {Q : cS} {π : mS} {σ : sS} {p : Nat} {op a b : Int} (h : gS σ) (hok : opOK Q op a b) : gS (xUT Q π σ p op a b) := by
  obtain ⟨-, -, -, -, -, h4, h5, h6⟩ := hok
  unfold xUT
  split
  · exact gS_lay h (by omega)
  · split
    · rename_i hop
      have := h4 (by omega)
      unfold xMake
      have h0 : gS (xMake0 π σ a) := gS_chk (gS_TA h).1
      split
      · exact gS_repl h0 (by omega)
      · exact h0
    · split
      · rename_i hop
        have := h5 hop
        exact gS_lay (gS_take h) (by omega)
      · split
        · exact gS_lay h (by decide)
        · split
          · rename_i hop
            have := h4 (by omega)
            exact gS_lay (gS_chk (gS_TA h).1) (by omega)
          · split
            · rename_i hop
              have := h6 hop
              exact gS_lay (gS_take h) (by split <;> omega)
            · split
              · unfold xLoadE
                have g := gS_TA (gS_take (Q := Q) (kd := 1) h)
                split
                · exact gS_lay g.1 (by decide)
                · split
                  · exact gS_lay g.1 (by omega)
                  · exact gS_lay (gS_chk g.1) (by decide)
              · exact gS_chk (gS_TA (gS_take (gS_chk (gS_TA h).1))).1
theorem gS_perf {Q : cS} {π : mS} {σ : sS} {p : Nat} (h : gS σ) (hok : opOK Q (mOp π p) (mA π p) (mB π p)) : gS (xPerf Q π σ p) := by
  unfold xPerf
  have h0 := hok
  obtain ⟨-, -, h1, h2, -⟩ := hok
  split
  · exact gS_UL h (by omega)
  · split
    · exact gS_UT h h0
    · exact gS_UV h
