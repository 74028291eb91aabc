/-! ===== the reference: frames met ===== -/
/-- the frame of place f is being loaded: j of its eight places are -/
def ldP (I J : w_Mm) (y f : Nat) (φ : fS) (j : Nat) : Prop := J y 27 = φ.1 ∧ (∀ k, k < j → J (y + 24) k = φ.2.1 k) ∧ (∀ k, k < j → J (y + 25) k = I (y + 23) (16 * f + 8 + k)) ∧ ∀ a k, ¬ (a = y ∧ k = 27) → a ≠ y + 24 → a ≠ y + 25 → J a k = I a k
theorem ldP.s {I J : w_Mm} {y f j : Nat} {φ : fS} (h : ldP I J y f φ j) : ldP I (w_up (w_up J (y + 24) j (φ.2.1 j)) (y + 25) j (I (y + 23) (16 * f + 8 + j))) y f φ (j + 1) := by
  obtain ⟨h1, h2, h3, h4⟩ := h
  refine ⟨by rw [w_up_n (by omega), w_up_n (by omega)]; exact h1, fun k hk => ?_, fun k hk => ?_, fun a k u1 u2 u3 => by rw [w_up_n (by omega), w_up_n (by omega)]; exact h4 a k u1 u2 u3⟩
  · by_cases e : k = j
    · subst e; rw [w_up_n (by omega), w_up_s]
    · rw [w_up_n (by omega), w_up_n (by omega)]; exact h2 k (by omega)
  · by_cases e : k = j
    · subst e; rw [w_up_s]
    · rw [w_up_n (by omega), w_up_n (by omega)]; exact h3 k (by omega)
theorem ldP.e {I J : w_Mm} {y f : Nat} {φ : fS} (h : ldP I J y f φ 8) (hF : yF I y f φ) (h0 : 0 ≤ φ.1) : yfr J y φ ∧ offT I J y ∧ J y 28 = I y 28 := by
  obtain ⟨h1, h2, h3, h4⟩ := h
  obtain ⟨g1, g2, g3, g4⟩ := hF.2 h0
  exact ⟨⟨h1, h0, g2, h2, fun k hk => (h3 k (by omega)).trans (g4 k hk)⟩, fun a k u1 u2 u3 => h4 a k (by omega) u2 u3, h4 _ _ (by omega) (by omega) (by omega)⟩
/-- place f gets its first frame -/
def ofM (I J : w_Mm) (y i f : Nat) : Prop := ∀ a k, ¬ ((a = y + 20 ∨ a = y + 21 ∨ a = y + 22) ∧ k = f) → ¬ (a = y + 23 ∧ 16 * f ≤ k ∧ k < 16 * f + 16) → ¬ (a = y + 19 ∧ k = i) → J a k = I a k
def mfP (I J : w_Mm) (y i f : Nat) (φ : fS) (j : Nat) : Prop := J (y + 20) f = 1 ∧ J (y + 21) f = 1 ∧ J (y + 22) f = φ.1 ∧ (∀ k, k < j → J (y + 23) (16 * f + k) = φ.2.1 k) ∧ (∀ k : Nat, k < j → (k : Int) < φ.1 → J (y + 23) (16 * f + 8 + k) = φ.2.2 k) ∧ J (y + 19) i = I (y + 19) i ∧ ofM I J y i f
theorem mfP.s {I J : w_Mm} {y i f j : Nat} {φ : fS} {z : Int} (h : mfP I J y i f φ j) (hj : j < 8) (hz : (j : Int) < φ.1 → z = φ.2.2 j) : mfP I (w_up (w_up J (y + 23) (16 * f + j) (φ.2.1 j)) (y + 23) (16 * f + 8 + j) z) y i f φ (j + 1) := by
  obtain ⟨h1, h2, h3, h4, h5, h6, h7⟩ := h
  refine ⟨by rw [w_up_n (by omega), w_up_n (by omega)]; exact h1, by rw [w_up_n (by omega), w_up_n (by omega)]; exact h2, by rw [w_up_n (by omega), w_up_n (by omega)]; exact h3, fun k hk => ?_, fun k hk hk2 => ?_, by rw [w_up_n (by omega), w_up_n (by omega)]; exact h6, fun a k u1 u2 u3 => by rw [w_up_n (by omega), w_up_n (by omega)]; exact h7 a k u1 u2 u3⟩
  · by_cases e : k = j
    · subst e; rw [w_up_n (by omega), w_up_s]
    · rw [w_up_n (by omega), w_up_n (by omega)]; exact h4 k (by omega)
  · by_cases e : k = j
    · subst e; rw [w_up_s]; exact hz hk2
    · rw [w_up_n (by omega), w_up_n (by omega)]; exact h5 k (by omega) hk2
def mfQ (I J : w_Mm) (y i f : Nat) (φ : fS) : Prop := yF J y f φ ∧ J (y + 21) f = 1 ∧ J (y + 19) i = (if I (y + 19) i < φ.1 then φ.1 else I (y + 19) i) ∧ ofM I J y i f
theorem mfP.e {I J : w_Mm} {y i f : Nat} {φ : fS} (h : mfP I J y i f φ 8) (h0 : 0 ≤ φ.1) (h8 : φ.1 ≤ 8) : mfQ I (w_up J (y + 19) i (if J (y + 19) i < φ.1 then φ.1 else J (y + 19) i)) y i f φ := by
  obtain ⟨h1, h2, h3, h4, h5, h6, h7⟩ := h
  rw [h6]
  exact ⟨⟨by rw [w_up_n (by omega), if_pos h0]; exact h1, fun _ => ⟨by rw [w_up_n (by omega)]; exact h3, h8, fun k hk => by rw [w_up_n (by omega)]; exact h4 k hk, fun k hk => by rw [w_up_n (by omega)]; exact h5 k (by omega) hk⟩⟩, by rw [w_up_n (by omega)]; exact h2, w_up_s, fun a k u1 u2 u3 => by rw [w_up_n (by omega)]; exact h7 a k u1 u2 u3⟩
theorem tX9_keepMost {E : w_E} {G : w_Sh} {I : w_Mm} {y i : Nat} (hY : isY G y) (hi : i < 6) (hnow : I y 29 = (i : Int)) {h : Int} (hh : inR h) : w_Ct E mX9_keepMost 0 [.ref y, iv h] G I 0 0 (w_Pv (fun G' I' => G' = G ∧ I' = w_up I (y + 19) i (if I (y + 19) i < h then h else I (y + 19) i))) := by
  obtain ⟨hTy, hYr⟩ := hY
  refine w_Ct.of (ls := [some (.ref y), some (iv h)]) (by decide +kernel) (Nat.le_of_ble_eq_true rfl) rfl rfl (fun rng => ?_)
  refine v_aload_n dX9_keepMost_0 rfl ?_
  refine v_getR fX9_69 rfl hTy (hYr 18 _ rfl).2 dX9_keepMost_1 ?_
  refine v_aload_n dX9_keepMost_4 rfl ?_
  refine v_getI' (v := ((i : Nat) : Int)) hnow fX9_181 rfl hTy dX9_keepMost_5 ?_
  refine v_iload_n dX9_keepMost_8 rfl ?_
  refine v_aload_n dX9_keepMost_9 rfl ?_
  refine v_getR fX9_69 rfl hTy (hYr 18 _ rfl).2 dX9_keepMost_10 ?_
  refine v_aload_n dX9_keepMost_13 rfl ?_
  refine v_getI' (v := ((i : Nat) : Int)) hnow fX9_181 rfl hTy dX9_keepMost_14 ?_
  refine v_iald' (i := i) (v := I (y + 19) i) (Eq.refl (I (y + 19) i)) (show G.1 (y + 19) = (10, 6) from (hYr 18 _ rfl).1) rfl (by omega) (by omega) dX9_keepMost_17 ?_
  refine v_icmp_le hh (rng _ _) dX9_keepMost_18 (fun h1 => ?_) (fun h1 => ?_)
  · refine v_aload_n dX9_keepMost_25 rfl ?_
    refine v_getR fX9_69 rfl hTy (hYr 18 _ rfl).2 dX9_keepMost_26 ?_
    refine v_aload_n dX9_keepMost_29 rfl ?_
    refine v_getI' (v := ((i : Nat) : Int)) hnow fX9_181 rfl hTy dX9_keepMost_30 ?_
    refine v_iald' (i := i) (v := I (y + 19) i) (Eq.refl (I (y + 19) i)) (show G.1 (y + 19) = (10, 6) from (hYr 18 _ rfl).1) rfl (by omega) (by omega) dX9_keepMost_33 ?_
    refine v_iast (i := i) (show G.1 (y + 19) = (10, 6) from (hYr 18 _ rfl).1) rfl (by omega) (by omega) (rng _ _) dX9_keepMost_34 ?_
    have rng2 := w_rng (a := y + 19) (f := i) rng (show inR (I (y + 19) i) from (rng _ _))
    exact v_vret rfl (by decide) (by decide) dX9_keepMost_35 ⟨rfl, by rw [if_neg (show ¬ I (y + 19) i < h by omega)]⟩
  · refine v_iload_n dX9_keepMost_21 rfl ?_
    refine v_goto dX9_keepMost_22 ?_
    refine v_iast (i := i) (show G.1 (y + 19) = (10, 6) from (hYr 18 _ rfl).1) rfl (by omega) (by omega) hh dX9_keepMost_34 ?_
    have rng3 := w_rng (a := y + 19) (f := i) rng (show inR (h) from hh)
    exact v_vret rfl (by decide) (by decide) dX9_keepMost_35 ⟨rfl, by rw [if_pos (show I (y + 19) i < h by omega)]⟩
theorem tX9_load {E : w_E} {G : w_Sh} {I : w_Mm} {y f : Nat} {φ : fS} (hY : isY G y) (hf : f < 240) (hF : yF I y f φ) (h0 : 0 ≤ φ.1) : w_Ct E mX9_load 0 [.ref y, iv (f : Int)] G I 0 0 (w_Pv (fun G' J => G' = G ∧ yfr J y φ ∧ offT I J y ∧ J y 28 = I y 28)) := by
  obtain ⟨hTy, hYr⟩ := hY
  obtain ⟨hF1, hF2, hF3, hF4⟩ := hF.2 h0
  refine w_Ct.of (ls := [some (.ref y), some (iv (f : Int)), none]) (by decide +kernel) (Nat.le_of_ble_eq_true rfl) rfl rfl (fun rng => ?_)
  refine v_aload_n dX9_load_0 rfl ?_
  refine v_aload_n dX9_load_1 rfl ?_
  refine v_getR fX9_78 rfl hTy (hYr 21 _ rfl).2 dX9_load_2 ?_
  refine v_iload_n dX9_load_5 rfl ?_
  refine v_iald' (i := f) (v := φ.1) hF1 (show G.1 (y + 22) = (10, 240) from (hYr 21 _ rfl).1) rfl (by omega) (by omega) dX9_load_6 ?_
  refine v_putI fX9_148 p9_27 rfl ⟨by omega, by omega⟩ hTy dX9_load_7 ?_
  have rng1 := w_rng (a := y) (f := 27) rng (show inR (φ.1) from ⟨by omega, by omega⟩)
  refine v_iconst dX9_load_10 ?_
  refine v_istore_n dX9_load_11 (by decide) rfl ?_
  have loop : ∀ (m j : Nat) (J : w_Mm), j + m = 8 → ldP I J y f φ j → (∀ a k, inR (J a k)) → w_V E mX9_load (w_rm 0 0 0) (w_Z E 0 0 (w_Pv (fun G' J => G' = G ∧ yfr J y φ ∧ offT I J y ∧ J y 28 = I y 28))) G J 0 0 12 [some (.ref y), some (iv (f : Int)), some (iv (j : Int))] [] := by
    intro m
    induction m with
    | zero =>
      intro j J hj hl rngJ
      obtain rfl : j = 8 := by omega
      refine v_iload_n dX9_load_12 rfl ?_
      refine v_bipush dX9_load_13 (by decide) ?_
      refine v_icmp_ge ⟨by omega, by omega⟩ ⟨by decide, by decide⟩ dX9_load_15 (fun hb15 => ?_) (fun h => by exfalso; omega)
      exact v_vret rfl (by decide) (by decide) dX9_load_61 ⟨rfl, hl.e hF h0⟩
    | succ m ih =>
      intro j J hj hl rngJ
      have hlo := hl.2.2.2
      refine v_iload_n dX9_load_12 rfl ?_
      refine v_bipush dX9_load_13 (by decide) ?_
      refine v_icmp_ge ⟨by omega, by omega⟩ ⟨by decide, by decide⟩ dX9_load_15 (fun h => by exfalso; omega) (fun hb15 => ?_)
      refine v_aload_n dX9_load_18 rfl ?_
      refine v_getR fX9_84 rfl hTy (hYr 23 _ rfl).2 dX9_load_19 ?_
      refine v_iload_n dX9_load_22 rfl ?_
      refine v_aload_n dX9_load_23 rfl ?_
      refine v_getR fX9_81 rfl hTy (hYr 22 _ rfl).2 dX9_load_24 ?_
      refine v_bipush dX9_load_27 (by decide) ?_
      refine v_iload_n dX9_load_29 rfl ?_
      refine v_imul dX9_load_30 ?_
      refine v_iload_n dX9_load_31 rfl ?_
      refine v_iadd dX9_load_32 ?_
      refine v_iald' (i := ((16 * f) + j)) (v := φ.2.1 j) ((hlo (y + 23) (16 * f + j) (by omega) (by omega) (by omega)).trans (hF3 j (by omega))) (show G.1 (y + 23) = (10, 3840) from (hYr 22 _ rfl).1) (by omega) (by omega) (by omega) dX9_load_33 ?_
      refine v_iast (i := j) (show G.1 (y + 24) = (10, 8) from (hYr 23 _ rfl).1) rfl (by omega) (by omega) (by rw [← hF3 j (by omega)]; exact rng _ _) dX9_load_34 ?_
      have rng1 := w_rng (a := y + 24) (f := j) rngJ (show inR (φ.2.1 j) from (by rw [← hF3 j (by omega)]; exact rng _ _))
      refine v_aload_n dX9_load_35 rfl ?_
      refine v_getR fX9_87 rfl hTy (hYr 24 _ rfl).2 dX9_load_36 ?_
      refine v_iload_n dX9_load_39 rfl ?_
      refine v_aload_n dX9_load_40 rfl ?_
      refine v_getR fX9_81 rfl hTy (hYr 22 _ rfl).2 dX9_load_41 ?_
      refine v_bipush dX9_load_44 (by decide) ?_
      refine v_iload_n dX9_load_46 rfl ?_
      refine v_imul dX9_load_47 ?_
      refine v_bipush dX9_load_48 (by decide) ?_
      refine v_iadd dX9_load_50 ?_
      refine v_iload_n dX9_load_51 rfl ?_
      refine v_iadd dX9_load_52 ?_
      refine v_iald' (i := (((16 * f) + 8) + j)) (v := I (y + 23) (16 * f + 8 + j)) (by rw [w_up_n (by omega), (hlo (y + 23) (16 * f + 8 + j) (by omega) (by omega) (by omega))]) (show G.1 (y + 23) = (10, 3840) from (hYr 22 _ rfl).1) (by omega) (by omega) (by omega) dX9_load_53 ?_
      refine v_iast (i := j) (show G.1 (y + 25) = (10, 8) from (hYr 24 _ rfl).1) rfl (by omega) (by omega) (rng _ _) dX9_load_54 ?_
      have rng2 := w_rng (a := y + 25) (f := j) rng1 (show inR (I (y + 23) (16 * f + 8 + j)) from (rng _ _))
      refine v_iinc dX9_load_55 rfl (by decide) rfl rfl ?_
      refine v_goto dX9_load_58 ?_
      exact ih (j + 1) _ (by omega) hl.s rng2
  exact loop 8 0 _ rfl ⟨w_up_s, fun k hk => by omega, fun k hk => by omega, fun a k u1 _ _ => w_up_n (by omega)⟩ rng1
theorem tX9_meetsFirst {E : w_E} {G : w_Sh} {I : w_Mm} {y i : Nat} (hY : isY G y) (hi : i < 6) (hnow : I y 29 = (i : Int)) {f : Nat} {φ : fS} (hf : f < 240) (hfr : yfr I y φ) : w_Ct E mX9_meetsFirst 1 [.ref y, iv (f : Int)] G I 0 0 (w_Pi (fun r G' J => G' = G ∧ r = 1 ∧ mfQ I J y i f φ)) := by
  obtain ⟨hTy, hYr⟩ := hY
  obtain ⟨hf27, hfh0, hfh8, hfL, hfP⟩ := hfr
  refine w_Ct.of (ls := [some (.ref y), some (iv (f : Int)), none]) (by decide +kernel) (Nat.le_of_ble_eq_true rfl) rfl rfl (fun rng => ?_)
  refine v_aload_n dX9_meetsFirst_0 rfl ?_
  refine v_getR fX9_72 rfl hTy (hYr 19 _ rfl).2 dX9_meetsFirst_1 ?_
  refine v_iload_n dX9_meetsFirst_4 rfl ?_
  refine v_iconst dX9_meetsFirst_5 ?_
  refine v_zast (i := f) (show G.1 (y + 20) = (11, 240) from (hYr 19 _ rfl).1) rfl (by omega) (by omega) (Or.inr rfl) dX9_meetsFirst_6 ?_
  have rng1 := w_rng (a := y + 20) (f := f) rng (show inR (1) from ⟨by decide, by decide⟩)
  refine v_aload_n dX9_meetsFirst_7 rfl ?_
  refine v_getR fX9_75 rfl hTy (hYr 20 _ rfl).2 dX9_meetsFirst_8 ?_
  refine v_iload_n dX9_meetsFirst_11 rfl ?_
  refine v_iconst dX9_meetsFirst_12 ?_
  refine v_zast (i := f) (show G.1 (y + 21) = (11, 240) from (hYr 20 _ rfl).1) rfl (by omega) (by omega) (Or.inr rfl) dX9_meetsFirst_13 ?_
  have rng2 := w_rng (a := y + 21) (f := f) rng1 (show inR (1) from ⟨by decide, by decide⟩)
  refine v_aload_n dX9_meetsFirst_14 rfl ?_
  refine v_getR fX9_78 rfl hTy (hYr 21 _ rfl).2 dX9_meetsFirst_15 ?_
  refine v_iload_n dX9_meetsFirst_18 rfl ?_
  refine v_aload_n dX9_meetsFirst_19 rfl ?_
  refine v_getI' (v := φ.1) (by rw [w_up_n (by omega), w_up_n (by omega), hf27]) fX9_148 rfl hTy dX9_meetsFirst_20 ?_
  refine v_iast (i := f) (show G.1 (y + 22) = (10, 240) from (hYr 21 _ rfl).1) rfl (by omega) (by omega) ⟨by omega, by omega⟩ dX9_meetsFirst_23 ?_
  have rng3 := w_rng (a := y + 22) (f := f) rng2 (show inR (φ.1) from ⟨by omega, by omega⟩)
  refine v_iconst dX9_meetsFirst_24 ?_
  refine v_istore_n dX9_meetsFirst_25 (by decide) rfl ?_
  have loop : ∀ (m j : Nat) (J : w_Mm), j + m = 8 → mfP I J y i f φ j → (∀ a k, inR (J a k)) → w_V E mX9_meetsFirst (w_rm 1 0 0) (w_Z E 0 0 (w_Pi (fun r G' J => G' = G ∧ r = 1 ∧ mfQ I J y i f φ))) G J 0 0 26 [some (.ref y), some (iv (f : Int)), some (iv (j : Int))] [] := by
    intro m
    induction m with
    | zero =>
      intro j J hj hl rngJ
      obtain rfl : j = 8 := by omega
      have hlo := hl.2.2.2.2.2.2
      refine v_iload_n dX9_meetsFirst_26 rfl ?_
      refine v_bipush dX9_meetsFirst_27 (by decide) ?_
      refine v_icmp_ge ⟨by omega, by omega⟩ ⟨by decide, by decide⟩ dX9_meetsFirst_29 (fun hb29 => ?_) (fun h => by exfalso; omega)
      refine v_aload_n dX9_meetsFirst_87 rfl ?_
      refine v_aload_n dX9_meetsFirst_88 rfl ?_
      refine v_getI' (v := φ.1) ((hlo y 27 (by omega) (by omega) (by omega)).trans hf27) fX9_148 rfl hTy dX9_meetsFirst_89 ?_
      refine v_Vn (tX9_keepMost (⟨hTy, hYr⟩ : isY G y) hi ((hlo y 29 (by omega) (by omega) (by omega)).trans hnow) ⟨by omega, by omega⟩) kX9_200 hTy rfl rfl ⟨by decide, by decide⟩ ⟨by decide, by decide⟩ (Nat.le_of_ble_eq_true rfl) dX9_meetsFirst_92 (fun rng1 => ?_)
      refine v_iconst dX9_meetsFirst_95 ?_
      exact v_zret rfl (by decide) (by decide) (Or.inr rfl) dX9_meetsFirst_96 ⟨rfl, rfl, hl.e hfh0 hfh8⟩
    | succ m ih =>
      intro j J hj hl rngJ
      have hlo := hl.2.2.2.2.2.2
      refine v_iload_n dX9_meetsFirst_26 rfl ?_
      refine v_bipush dX9_meetsFirst_27 (by decide) ?_
      refine v_icmp_ge ⟨by omega, by omega⟩ ⟨by decide, by decide⟩ dX9_meetsFirst_29 (fun h => by exfalso; omega) (fun hb29 => ?_)
      refine v_aload_n dX9_meetsFirst_32 rfl ?_
      refine v_getR fX9_81 rfl hTy (hYr 22 _ rfl).2 dX9_meetsFirst_33 ?_
      refine v_bipush dX9_meetsFirst_36 (by decide) ?_
      refine v_iload_n dX9_meetsFirst_38 rfl ?_
      refine v_imul dX9_meetsFirst_39 ?_
      refine v_iload_n dX9_meetsFirst_40 rfl ?_
      refine v_iadd dX9_meetsFirst_41 ?_
      refine v_aload_n dX9_meetsFirst_42 rfl ?_
      refine v_getR fX9_84 rfl hTy (hYr 23 _ rfl).2 dX9_meetsFirst_43 ?_
      refine v_iload_n dX9_meetsFirst_46 rfl ?_
      refine v_iald' (i := j) (v := φ.2.1 j) ((hlo (y + 24) j (by omega) (by omega) (by omega)).trans (hfL j (by omega))) (show G.1 (y + 24) = (10, 8) from (hYr 23 _ rfl).1) rfl (by omega) (by omega) dX9_meetsFirst_47 ?_
      refine v_iast (i := ((16 * f) + j)) (show G.1 (y + 23) = (10, 3840) from (hYr 22 _ rfl).1) (by omega) (by omega) (by omega) (by rw [← hfL j (by omega)]; exact rng _ _) dX9_meetsFirst_48 ?_
      have rng1 := w_rng (a := y + 23) (f := ((16 * f) + j)) rngJ (show inR (φ.2.1 j) from (by rw [← hfL j (by omega)]; exact rng _ _))
      refine v_aload_n dX9_meetsFirst_49 rfl ?_
      refine v_getR fX9_81 rfl hTy (hYr 22 _ rfl).2 dX9_meetsFirst_50 ?_
      refine v_bipush dX9_meetsFirst_53 (by decide) ?_
      refine v_iload_n dX9_meetsFirst_55 rfl ?_
      refine v_imul dX9_meetsFirst_56 ?_
      refine v_bipush dX9_meetsFirst_57 (by decide) ?_
      refine v_iadd dX9_meetsFirst_59 ?_
      refine v_iload_n dX9_meetsFirst_60 rfl ?_
      refine v_iadd dX9_meetsFirst_61 ?_
      refine v_iload_n dX9_meetsFirst_62 rfl ?_
      refine v_aload_n dX9_meetsFirst_63 rfl ?_
      refine v_getI' (v := φ.1) (by rw [w_up_n (by omega), ((hlo y 27 (by omega) (by omega) (by omega)).trans hf27)]) fX9_148 rfl hTy dX9_meetsFirst_64 ?_
      refine v_icmp_ge ⟨by omega, by omega⟩ ⟨by omega, by omega⟩ dX9_meetsFirst_67 (fun h2 => ?_) (fun h2 => ?_)
      · refine v_iconst dX9_meetsFirst_79 ?_
        refine v_iast (i := (((16 * f) + 8) + j)) (show G.1 (y + 23) = (10, 3840) from (hYr 22 _ rfl).1) (by omega) (by omega) (by omega) ⟨by decide, by decide⟩ dX9_meetsFirst_80 ?_
        have rng3 := w_rng (a := y + 23) (f := (((16 * f) + 8) + j)) rng1 (show inR (0) from ⟨by decide, by decide⟩)
        refine v_iinc dX9_meetsFirst_81 rfl (by decide) rfl rfl ?_
        refine v_goto dX9_meetsFirst_84 ?_
        exact ih (j + 1) _ (by omega) (hl.s (by omega) (fun q => absurd q (by omega))) rng3
      · refine v_aload_n dX9_meetsFirst_70 rfl ?_
        refine v_getR fX9_87 rfl hTy (hYr 24 _ rfl).2 dX9_meetsFirst_71 ?_
        refine v_iload_n dX9_meetsFirst_74 rfl ?_
        refine v_iald' (i := j) (v := φ.2.2 j) (by rw [w_up_n (by omega), ((hlo (y + 25) j (by omega) (by omega) (by omega)).trans (hfP j (by omega)))]) (show G.1 (y + 25) = (10, 8) from (hYr 24 _ rfl).1) rfl (by omega) (by omega) dX9_meetsFirst_75 ?_
        refine v_goto dX9_meetsFirst_76 ?_
        refine v_iast (i := (((16 * f) + 8) + j)) (show G.1 (y + 23) = (10, 3840) from (hYr 22 _ rfl).1) (by omega) (by omega) (by omega) (by rw [← hfP j (by omega)]; exact rng _ _) dX9_meetsFirst_80 ?_
        have rng4 := w_rng (a := y + 23) (f := (((16 * f) + 8) + j)) rng1 (show inR (φ.2.2 j) from (by rw [← hfP j (by omega)]; exact rng _ _))
        refine v_iinc dX9_meetsFirst_81 rfl (by decide) rfl rfl ?_
        refine v_goto dX9_meetsFirst_84 ?_
        exact ih (j + 1) _ (by omega) (hl.s (by omega) (fun _ => rfl)) rng4
  refine loop 8 0 _ rfl ⟨?_, ?_, w_up_s, fun k hk => by omega, fun k hk => by omega, ?_, fun a k u1 u2 u3 => ?_⟩ rng3
  · rw [w_up_n (by omega), w_up_n (by omega), w_up_s]
  · rw [w_up_n (by omega), w_up_s]
  · rw [w_up_n (by omega), w_up_n (by omega), w_up_n (by omega)]
  · rw [w_up_n (by omega), w_up_n (by omega), w_up_n (by omega)]
/-- what meeting may change: the rule, the work of method i, the row of what is met -/
def offV (I J : w_Mm) (y i : Nat) : Prop := ∀ a k, ¬ (a = y ∧ k = 28) → ¬ (a = y + 19 ∧ k = i) → ¬ ((a = y + 20 ∨ a = y + 21 ∨ a = y + 22) ∧ 40 * i ≤ k ∧ k < 40 * i + 40) → ¬ (a = y + 23 ∧ 640 * i ≤ k ∧ k < 640 * i + 640) → a ≠ y + 26 → J a k = I a k
def meP (I J : w_Mm) (y i : Nat) (Q : cS) (κ : kS) (p : Nat) (ψ : fS) (r : Int) : Prop := offV I J y i ∧ ((r = 1 ∧ (xMeet Q κ p ψ).1 = true ∧ J y 28 = I y 28) ∨ (r = 0 ∧ ¬ (xMeet Q κ p ψ).1 = true ∧ J y 28 = 8)) ∧ yK J y i (xMeet Q κ p ψ).2
theorem me_first {I J : w_Mm} {y i p : Nat} {Q : cS} {κ : kS} {ψ : fS} (hK : yK I y i κ) (hp : p < 40) (h : mfQ I J y i (40 * i + p) ψ) (hc : (κ.1 p).1 < 0) : meP I J y i Q κ p ψ 1 := by
  obtain ⟨h1, h2, h3, h4⟩ := h
  obtain ⟨k1, k2, k3, k4⟩ := hK
  unfold ofM at h4
  have e : xMeet Q κ p ψ = (true, (uF κ.1 p ψ, uL κ.2.1 p 1, κ.2.2.1, if κ.2.2.2 < ψ.1 then ψ.1 else κ.2.2.2)) := by unfold xMeet; rw [if_pos hc]
  unfold meP
  rw [e]
  refine ⟨fun a k u1 u2 u3 u4 u5 => h4 a k (by omega) (by omega) (by omega), Or.inl ⟨rfl, rfl, h4 _ _ (by omega) (by omega) (by omega)⟩, fun j hj => ?_, fun j hj => ?_, (h4 _ _ (by omega) (by omega) (by omega)).trans k3, ?_⟩
  · show yF J y (40 * i + j) (uF κ.1 p ψ j)
    by_cases q : j = p
    · subst q; rw [uF_s]; exact h1
    · rw [uF_n q]
      exact (k1 j hj).off (h4 _ _ (by omega) (by omega) (by omega)) (h4 _ _ (by omega) (by omega) (by omega)) (fun k hk => h4 _ _ (by omega) (by omega) (by omega))
  · show J (y + 21) (40 * i + j) = uL κ.2.1 p 1 j ∧ (uL κ.2.1 p 1 j = 0 ∨ uL κ.2.1 p 1 j = 1)
    by_cases q : j = p
    · subst q; rw [uL_s]; exact ⟨h2, Or.inr rfl⟩
    · rw [uL_n q]; exact ⟨(h4 _ _ (by omega) (by omega) (by omega)).trans (k2 j hj).1, (k2 j hj).2⟩
  · show J (y + 19) i = if κ.2.2.2 < ψ.1 then ψ.1 else κ.2.2.2
    rw [h3, k4]
theorem me_no {I K : w_Mm} {y i p : Nat} {Q : cS} {κ : kS} {ψ : fS} (hK : yK I y i κ) (ho : ∀ a k, a ≠ y + 26 → K a k = I a k) (hc : ¬ (κ.1 p).1 < 0) (hb : ¬ canM Q (κ.1 p) ψ) : meP I (w_up K y 28 8) y i Q κ p ψ 0 := by
  have e : xMeet Q κ p ψ = (false, κ) := by unfold xMeet; rw [if_neg hc, if_neg (fun q => hb (canB_iff.mp q))]
  unfold meP
  rw [e]
  have o : ∀ a k, ¬ (a = y ∧ k = 28) → a ≠ y + 26 → w_up K y 28 8 a k = I a k := fun a k u1 u2 => by rw [w_up_n u1]; exact ho a k u2
  exact ⟨fun a k u1 u2 u3 u4 u5 => o a k u1 u5, Or.inr ⟨rfl, (show ¬ false = true by decide), w_up_s⟩, hK.off (fun a k u1 u2 => o a k (by omega) (by unfold own at u1; omega))⟩
/-- j of the pile's joins are made -/
def m1P (I J : w_Mm) (y : Nat) (Q : cS) (φ ψ : fS) (j : Nat) : Prop := (∀ k, k < j → J (y + 26) (8 + k) = joinK Q (φ.2.2 k) (ψ.2.2 k) ∧ ¬ joinK Q (φ.2.2 k) (ψ.2.2 k) = 0) ∧ ∀ a k, a ≠ y + 26 → J a k = I a k
theorem m1P.s {I J : w_Mm} {y j : Nat} {Q : cS} {φ ψ : fS} (h : m1P I J y Q φ ψ j) (hz : ¬ joinK Q (φ.2.2 j) (ψ.2.2 j) = 0) : m1P I (w_up J (y + 26) (8 + j) (joinK Q (φ.2.2 j) (ψ.2.2 j))) y Q φ ψ (j + 1) := by
  refine ⟨fun k hk => ?_, fun a k ha => by rw [w_up_n (by omega)]; exact h.2 a k ha⟩
  by_cases e : k = j
  · subst e; rw [w_up_s]; exact ⟨rfl, hz⟩
  · rw [w_up_n (by omega)]; exact h.1 k (by omega)
/-- the pile's joins are made, and j of the locals' -/
def m2P (I J : w_Mm) (y : Nat) (Q : cS) (φ ψ : fS) (j : Nat) : Prop := (∀ k : Nat, (k : Int) < φ.1 → J (y + 26) (8 + k) = joinK Q (φ.2.2 k) (ψ.2.2 k)) ∧ (∀ k, k < j → J (y + 26) k = joinK Q (φ.2.1 k) (ψ.2.1 k)) ∧ ∀ a k, a ≠ y + 26 → J a k = I a k
theorem m2P.s {I J : w_Mm} {y j : Nat} {Q : cS} {φ ψ : fS} (h : m2P I J y Q φ ψ j) (hj : j < 8) : m2P I (w_up J (y + 26) j (joinK Q (φ.2.1 j) (ψ.2.1 j))) y Q φ ψ (j + 1) := by
  refine ⟨fun k hk => by rw [w_up_n (by omega)]; exact h.1 k hk, fun k hk => ?_, fun a k ha => by rw [w_up_n (by omega)]; exact h.2.2 a k ha⟩
  by_cases e : k = j
  · subst e; rw [w_up_s]
  · rw [w_up_n (by omega)]; exact h.2.1 k (by omega)
theorem m2P.k {I J : w_Mm} {y j : Nat} {Q : cS} {φ ψ : fS} (h : m2P I J y Q φ ψ 8) (hj : j < 8) : m2P I (w_up J (y + 26) j (joinK Q (φ.2.1 j) (ψ.2.1 j))) y Q φ ψ 8 := by
  refine ⟨fun k hk => by rw [w_up_n (by omega)]; exact h.1 k hk, fun k hk => ?_, fun a k ha => by rw [w_up_n (by omega)]; exact h.2.2 a k ha⟩
  by_cases e : k = j
  · subst e; rw [w_up_s]
  · rw [w_up_n (by omega)]; exact h.2.1 k (by omega)
def mgM (Q : cS) (φ ψ : fS) (k : Nat) : Int := if k < 8 then joinK Q (φ.2.1 k) (ψ.2.1 k) else joinK Q (φ.2.2 (k - 8)) (ψ.2.2 (k - 8))
def mgC (φ : fS) (k : Nat) : Int := if k < 8 then φ.2.1 k else φ.2.2 (k - 8)
/-- j of the places hold what is met -/
def m4P (I J : w_Mm) (y f : Nat) (Q : cS) (φ ψ : fS) (j : Nat) : Prop := (∀ k, k < j → J (y + 23) (16 * f + k) = mgM Q φ ψ k) ∧ (∀ k : Nat, j ≤ k → (k : Int) < 8 + φ.1 → J (y + 23) (16 * f + k) = mgC φ k) ∧ (∀ k : Nat, (k : Int) < 8 + φ.1 → J (y + 26) k = mgM Q φ ψ k) ∧ ((J (y + 21) f = 1 ∧ (I (y + 21) f = 1 ∨ ∃ k, k < j ∧ ¬ mgM Q φ ψ k = mgC φ k)) ∨ (J (y + 21) f = 0 ∧ I (y + 21) f = 0 ∧ ∀ k, k < j → mgM Q φ ψ k = mgC φ k)) ∧ ∀ a k, ¬ (a = y + 21 ∧ k = f) → ¬ (a = y + 23 ∧ 16 * f ≤ k ∧ k < 16 * f + 16) → a ≠ y + 26 → J a k = I a k
theorem m4P.b {I J : w_Mm} {y f : Nat} {Q : cS} {φ ψ : fS} (h : m2P I J y Q φ ψ 8) (hF : yF I y f φ) (h0 : 0 ≤ φ.1) (hw : I (y + 21) f = 0 ∨ I (y + 21) f = 1) : m4P I J y f Q φ ψ 0 := by
  obtain ⟨h1, h2, h3⟩ := h
  obtain ⟨g1, g2, g3, g4⟩ := hF.2 h0
  refine ⟨fun k hk => absurd hk (by omega), fun k _ hk => ?_, fun k hk => ?_, ?_, fun a k _ _ u => h3 a k u⟩
  · rw [h3 _ _ (by omega)]
    unfold mgC
    by_cases c : k < 8
    · rw [if_pos c]; exact g3 k c
    · rw [if_neg c, show 16 * f + k = 16 * f + 8 + (k - 8) by omega]; exact g4 (k - 8) (by omega)
  · unfold mgM
    by_cases c : k < 8
    · rw [if_pos c]; exact h2 k c
    · rw [if_neg c]
      have := h1 (k - 8) (by omega)
      rw [show 8 + (k - 8) = k by omega] at this
      exact this
  · rw [h3 _ _ (by omega)]
    rcases hw with u | u
    · exact Or.inr ⟨u, u, fun k hk => absurd hk (by omega)⟩
    · exact Or.inl ⟨u, Or.inl u⟩
theorem m4P.s {I J : w_Mm} {y f j : Nat} {Q : cS} {φ ψ : fS} {b : Int} (h : m4P I J y f Q φ ψ j) (hj : (j : Int) < 8 + φ.1) (h8 : φ.1 ≤ 8) (hb : (b = 1 ∧ (¬ J (y + 21) f = 0 ∨ ¬ mgC φ j = mgM Q φ ψ j)) ∨ (b = 0 ∧ J (y + 21) f = 0 ∧ mgC φ j = mgM Q φ ψ j)) : m4P I (w_up (w_up J (y + 21) f b) (y + 23) (16 * f + j) (mgM Q φ ψ j)) y f Q φ ψ (j + 1) := by
  obtain ⟨h1, h2, h3, h4, h5⟩ := h
  refine ⟨fun k hk => ?_, fun k hk hk2 => by rw [w_up_n (by omega), w_up_n (by omega)]; exact h2 k (by omega) hk2, fun k hk => by rw [w_up_n (by omega), w_up_n (by omega)]; exact h3 k hk, ?_, fun a k u1 u2 u3 => by rw [w_up_n (by omega), w_up_n (by omega)]; exact h5 a k u1 u2 u3⟩
  · by_cases e : k = j
    · subst e; rw [w_up_s]
    · rw [w_up_n (by omega), w_up_n (by omega)]; exact h1 k (by omega)
  · rw [w_up_n (by omega), w_up_s]
    rcases hb with ⟨rfl, hb⟩ | ⟨rfl, hb1, hb2⟩
    · refine Or.inl ⟨rfl, ?_⟩
      rcases hb with hb | hb
      · rcases h4 with ⟨u1, u2⟩ | ⟨u1, _⟩
        · rcases u2 with u2 | ⟨k, u3, u4⟩
          · exact Or.inl u2
          · exact Or.inr ⟨k, by omega, u4⟩
        · exact absurd u1 hb
      · exact Or.inr ⟨j, by omega, fun q => hb q.symm⟩
    · refine Or.inr ⟨rfl, ?_⟩
      rcases h4 with ⟨u1, _⟩ | ⟨u1, u2, u3⟩
      · omega
      · refine ⟨u2, fun k hk => ?_⟩
        by_cases e : k = j
        · subst e; exact hb2.symm
        · exact u3 k (by omega)
theorem me_ok {I J : w_Mm} {y i p n : Nat} {Q : cS} {κ : kS} {ψ : fS} (hK : yK I y i κ) (hp : p < 40) (hc : ¬ (κ.1 p).1 < 0) (hb : canM Q (κ.1 p) ψ) (hn : (n : Int) = 8 + (κ.1 p).1) (h : m4P I J y (40 * i + p) Q (κ.1 p) ψ n) : meP I J y i Q κ p ψ 1 := by
  have e : xMeet Q κ p ψ = (true, (uF κ.1 p (mrgF Q (κ.1 p) ψ), if chgB Q (κ.1 p) ψ = true then uL κ.2.1 p 1 else κ.2.1, κ.2.2)) := by unfold xMeet; rw [if_neg hc, if_pos (canB_iff.mpr hb)]
  obtain ⟨h1, h2, h3, h4, h5⟩ := h
  obtain ⟨k1, k2, k3, k4⟩ := hK
  obtain ⟨f1, f2⟩ := k1 p hp
  obtain ⟨g1, g2, g3, g4⟩ := f2 (by omega)
  unfold meP
  rw [e]
  have hchg : chgB Q (κ.1 p) ψ = true ↔ ∃ k, k < n ∧ ¬ mgM Q (κ.1 p) ψ k = mgC (κ.1 p) k := by
    rw [chgB_iff]
    constructor
    · rintro (⟨k, hk, hz⟩ | ⟨k, hk, hz⟩)
      · refine ⟨k, by omega, ?_⟩
        unfold mgM mgC
        rw [if_pos hk, if_pos hk]; exact hz
      · refine ⟨k + 8, by omega, ?_⟩
        unfold mgM mgC
        rw [if_neg (by omega), if_neg (by omega), Nat.add_sub_cancel]; exact hz
    · rintro ⟨k, hk, hz⟩
      unfold mgM mgC at hz
      by_cases c : k < 8
      · rw [if_pos c, if_pos c] at hz; exact Or.inl ⟨k, c, hz⟩
      · rw [if_neg c, if_neg c] at hz; exact Or.inr ⟨k - 8, by omega, hz⟩
  refine ⟨fun a k u1 u2 u3 u4 u5 => h5 a k (by omega) (by omega) u5, Or.inl ⟨rfl, rfl, h5 _ _ (by omega) (by omega) (by omega)⟩, fun j hj => ?_, fun j hj => ?_, (h5 _ _ (by omega) (by omega) (by omega)).trans k3, (h5 _ _ (by omega) (by omega) (by omega)).trans k4⟩
  · show yF J y (40 * i + j) (uF κ.1 p (mrgF Q (κ.1 p) ψ) j)
    by_cases q : j = p
    · subst q
      rw [uF_s]
      refine ⟨(h5 _ _ (by omega) (by omega) (by omega)).trans f1, fun _ => ⟨(h5 _ _ (by omega) (by omega) (by omega)).trans g1, g2, fun k hk => ?_, fun k hk => ?_⟩⟩
      · rw [h1 k (by omega)]
        unfold mgM
        rw [if_pos hk]; rfl
      · have hk' : (k : Int) < (κ.1 j).1 := hk
        rw [Nat.add_assoc, h1 (8 + k) (by omega)]
        unfold mgM
        rw [if_neg (by omega), Nat.add_sub_cancel_left]
        show _ = if (k : Int) < (κ.1 j).1 then joinK Q ((κ.1 j).2.2 k) (ψ.2.2 k) else (κ.1 j).2.2 k
        rw [if_pos hk']
    · rw [uF_n q]
      exact (k1 j hj).off (h5 _ _ (by omega) (by omega) (by omega)) (h5 _ _ (by omega) (by omega) (by omega)) (fun k hk => h5 _ _ (by omega) (by omega) (by omega))
  · show J (y + 21) (40 * i + j) = (if chgB Q (κ.1 p) ψ = true then uL κ.2.1 p 1 else κ.2.1) j ∧ ((if chgB Q (κ.1 p) ψ = true then uL κ.2.1 p 1 else κ.2.1) j = 0 ∨ (if chgB Q (κ.1 p) ψ = true then uL κ.2.1 p 1 else κ.2.1) j = 1)
    obtain ⟨w1, w2⟩ := k2 j hj
    by_cases q : j = p
    · subst q
      by_cases c : chgB Q (κ.1 j) ψ = true
      · rw [if_pos c, uL_s]
        refine ⟨?_, Or.inr rfl⟩
        rcases h4 with ⟨u1, _⟩ | ⟨_, _, u3⟩
        · exact u1
        · obtain ⟨k, v1, v2⟩ := hchg.mp c
          exact absurd (u3 k v1) v2
      · rw [if_neg c]
        refine ⟨?_, w2⟩
        rw [← w1]
        rcases h4 with ⟨u1, u2 | u2⟩ | ⟨u1, u2, _⟩
        · rw [u1, u2]
        · exact absurd (hchg.mpr u2) c
        · rw [u1, u2]
    · have e2 : (if chgB Q (κ.1 p) ψ = true then uL κ.2.1 p 1 else κ.2.1) j = κ.2.1 j := by
        split
        · rw [uL_n q]
        · rfl
      rw [e2]
      exact ⟨(h5 _ _ (by omega) (by omega) (by omega)).trans w1, w2⟩
theorem tX9_meets {E : w_E} {G : w_Sh} {I : w_Mm} {y i : Nat} (hY : isY G y) (hi : i < 6) (hnow : I y 29 = (i : Int)) {Q : cS} {κ : kS} {ψ : fS} {N p : Nat} (hQ : clsY I y Q) (hK : yK I y i κ) (hp : p < 40) (hN : N ≤ 40) (hfr : yfr I y ψ) (hψ : okF Q N ψ) (hφ : 0 ≤ (κ.1 p).1 → okF Q N (κ.1 p)) : w_Ct E mX9_meets 3 [.ref y, iv (p : Int)] G I 0 0 (w_Pi (fun r G' J => G' = G ∧ meP I J y i Q κ p ψ r)) := by
  obtain ⟨hTy, hYr⟩ := hY
  have hfr0 := hfr
  obtain ⟨hf27, hfh0, hfh8, hfL, hfP⟩ := hfr
  have hQ0 := hQ
  refine w_Ct.of (ls := [some (.ref y), some (iv (p : Int)), none, none, none]) (by decide +kernel) (Nat.le_of_ble_eq_true rfl) rfl rfl (fun rng => ?_)
  refine v_bipush dX9_meets_0 (by decide) ?_
  refine v_aload_n dX9_meets_2 rfl ?_
  refine v_getI' (v := ((i : Nat) : Int)) hnow fX9_181 rfl hTy dX9_meets_3 ?_
  refine v_imul dX9_meets_6 ?_
  refine v_iload_n dX9_meets_7 rfl ?_
  refine v_iadd dX9_meets_8 ?_
  refine v_istore_n dX9_meets_9 (by decide) rfl ?_
  have ef : (40 * ((i : Nat) : Int) + ((p : Nat) : Int)) = ((40 * i + p : Nat) : Int) := by omega
  rw [ef]
  obtain ⟨f, hf⟩ : ∃ f, f = 40 * i + p := ⟨_, rfl⟩
  rw [← hf]
  have hF := hK.1 p hp
  have hWt := hK.2.1 p hp
  rw [← hf] at hF hWt
  by_cases hc : (κ.1 p).1 < 0
  · refine v_aload_n dX9_meets_10 rfl ?_
    refine v_getR fX9_72 rfl hTy (hYr 19 _ rfl).2 dX9_meets_11 ?_
    refine v_iload_n dX9_meets_14 rfl ?_
    refine v_zald' (i := f) (v := 0) (hF.1.trans (if_neg (by omega))) (show G.1 (y + 20) = (11, 240) from (hYr 19 _ rfl).1) rfl (by omega) (by omega) dX9_meets_15 ?_
    refine v_if_ne ⟨by decide, by decide⟩ dX9_meets_16 (fun h => by exfalso; omega) (fun hb16 => ?_)
    refine v_aload_n dX9_meets_19 rfl ?_
    refine v_iload_n dX9_meets_20 rfl ?_
    refine v_Vi (tX9_meetsFirst (⟨hTy, hYr⟩ : isY G y) hi hnow (f := f) (φ := ψ) (by omega) hfr0) kX9_204 hTy rfl rfl ⟨by decide, by decide⟩ ⟨by decide, by decide⟩ (Nat.le_of_ble_eq_true rfl) dX9_meets_21 (fun r3 G9 J1 hr3 pJ1 rng2 => ?_)
    obtain ⟨hG9, rfl, gJ1⟩ := pJ1
    obtain rfl := hG9.symm
    exact v_zret rfl (by decide) (by decide) (Or.inr rfl) dX9_meets_24 ⟨rfl, me_first hK hp (hf ▸ gJ1) hc⟩
  · obtain ⟨hF1, hF2, hF3, hF4⟩ := hF.2 (by omega)
    have hφ1 := hφ (by omega)
    have kl : ∀ k, k < 8 → knownK Q ((κ.1 p).2.1 k) ∧ knownK Q (ψ.2.1 k) := fun k hk => ⟨(hφ1.1 k hk).known hN, (hψ.1 k hk).known hN⟩
    have hrC : ∀ k, k < 8 → inR ((κ.1 p).2.1 k) := fun k hk => by rw [← hF3 k hk]; exact rng _ _
    have hrD : ∀ k : Nat, (k : Int) < (κ.1 p).1 → inR ((κ.1 p).2.2 k) := fun k hk => by rw [← hF4 k hk]; exact rng _ _
    have hrL : ∀ k, k < 8 → inR (ψ.2.1 k) := fun k hk => by rw [← hfL k hk]; exact rng _ _
    have hrP : ∀ k : Nat, (k : Int) < ψ.1 → inR (ψ.2.2 k) := fun k hk => by rw [← hfP k hk]; exact rng _ _
    refine v_aload_n dX9_meets_10 rfl ?_
    refine v_getR fX9_72 rfl hTy (hYr 19 _ rfl).2 dX9_meets_11 ?_
    refine v_iload_n dX9_meets_14 rfl ?_
    refine v_zald' (i := f) (v := 1) (hF.1.trans (if_pos (by omega))) (show G.1 (y + 20) = (11, 240) from (hYr 19 _ rfl).1) rfl (by omega) (by omega) dX9_meets_15 ?_
    refine v_if_ne ⟨by decide, by decide⟩ dX9_meets_16 (fun hb16 => ?_) (fun h => by exfalso; omega)
    refine v_aload_n dX9_meets_25 rfl ?_
    refine v_getR fX9_78 rfl hTy (hYr 21 _ rfl).2 dX9_meets_26 ?_
    refine v_iload_n dX9_meets_29 rfl ?_
    refine v_iald' (i := f) (v := (κ.1 p).1) hF1 (show G.1 (y + 22) = (10, 240) from (hYr 21 _ rfl).1) rfl (by omega) (by omega) dX9_meets_30 ?_
    refine v_aload_n dX9_meets_31 rfl ?_
    refine v_getI' (v := ψ.1) hf27 fX9_148 rfl hTy dX9_meets_32 ?_
    refine v_icmp_eq ⟨by omega, by omega⟩ ⟨by omega, by omega⟩ dX9_meets_35 (fun h1 => ?_) (fun h1 => ?_)
    · refine v_iconst dX9_meets_45 ?_
      refine v_istore_n dX9_meets_46 (by decide) rfl ?_
      have loop4 : ∀ (m j : Nat) (J : w_Mm) (o4 : Option Value), ((j + m : Nat) : Int) = 8 + (κ.1 p).1 → canM Q (κ.1 p) ψ → m4P I J y f Q (κ.1 p) ψ j → (∀ a k, inR (J a k)) → w_V E mX9_meets (w_rm 3 0 0) (w_Z E 0 0 (w_Pi (fun r G' J => G' = G ∧ meP I J y i Q κ p ψ r))) G J 0 0 252 [some (.ref y), some (iv (p : Int)), some (iv (f : Int)), some (iv (j : Int)), o4] [] := by
        intro m
        induction m with
        | zero =>
          intro j J o4 hj hcm hl rngJ
          have ho := hl.2.2.2.2
          refine v_iload_n dX9_meets_252 rfl ?_
          refine v_bipush dX9_meets_253 (by decide) ?_
          refine v_aload_n dX9_meets_255 rfl ?_
          refine v_getI' (v := ψ.1) ((ho y 27 (by omega) (by omega) (by omega)).trans hf27) fX9_148 rfl hTy dX9_meets_256 ?_
          refine v_iadd dX9_meets_259 ?_
          refine v_icmp_ge ⟨by omega, by omega⟩ ⟨by omega, by omega⟩ dX9_meets_260 (fun hb260 => ?_) (fun h => by exfalso; omega)
          refine v_iconst dX9_meets_326 ?_
          exact v_zret rfl (by decide) (by decide) (Or.inr rfl) dX9_meets_327 ⟨rfl, me_ok hK hp hc hcm (n := j) (by omega) (hf ▸ hl)⟩
        | succ m ih =>
          intro j J o4 hj hcm hl rngJ
          have ho := hl.2.2.2.2
          have hme := hl.2.2.1 j (by omega)
          have hce := hl.2.1 j (Nat.le_refl _) (by omega)
          refine v_iload_n dX9_meets_252 rfl ?_
          refine v_bipush dX9_meets_253 (by decide) ?_
          refine v_aload_n dX9_meets_255 rfl ?_
          refine v_getI' (v := ψ.1) ((ho y 27 (by omega) (by omega) (by omega)).trans hf27) fX9_148 rfl hTy dX9_meets_256 ?_
          refine v_iadd dX9_meets_259 ?_
          refine v_icmp_ge ⟨by omega, by omega⟩ ⟨by omega, by omega⟩ dX9_meets_260 (fun h => by exfalso; omega) (fun hb260 => ?_)
          refine v_aload_n dX9_meets_263 rfl ?_
          refine v_getR fX9_75 rfl hTy (hYr 20 _ rfl).2 dX9_meets_264 ?_
          refine v_iload_n dX9_meets_267 rfl ?_
          refine v_aload_n dX9_meets_268 rfl ?_
          refine v_getR fX9_75 rfl hTy (hYr 20 _ rfl).2 dX9_meets_269 ?_
          refine v_iload_n dX9_meets_272 rfl ?_
          refine v_zald (i := f) (show G.1 (y + 21) = (11, 240) from (hYr 20 _ rfl).1) rfl (by omega) (by omega) dX9_meets_273 ?_
          refine v_if_ne (rngJ _ _) dX9_meets_274 (fun h1 => ?_) (fun h1 => ?_)
          · refine v_iconst dX9_meets_297 ?_
            refine v_goto dX9_meets_298 ?_
            refine v_zast (i := f) (show G.1 (y + 21) = (11, 240) from (hYr 20 _ rfl).1) rfl (by omega) (by omega) (Or.inr rfl) dX9_meets_302 ?_
            have rng2 := w_rng (a := y + 21) (f := f) rngJ (show inR (1) from ⟨by decide, by decide⟩)
            refine v_aload_n dX9_meets_303 rfl ?_
            refine v_getR fX9_81 rfl hTy (hYr 22 _ rfl).2 dX9_meets_304 ?_
            refine v_bipush dX9_meets_307 (by decide) ?_
            refine v_iload_n dX9_meets_309 rfl ?_
            refine v_imul dX9_meets_310 ?_
            refine v_iload_n dX9_meets_311 rfl ?_
            refine v_iadd dX9_meets_312 ?_
            refine v_aload_n dX9_meets_313 rfl ?_
            refine v_getR fX9_90 rfl hTy (hYr 25 _ rfl).2 dX9_meets_314 ?_
            refine v_iload_n dX9_meets_317 rfl ?_
            refine v_iald' (i := j) (v := mgM Q (κ.1 p) ψ j) (by rw [w_up_n (by omega), hme]) (show G.1 (y + 26) = (10, 16) from (hYr 25 _ rfl).1) rfl (by omega) (by omega) dX9_meets_318 ?_
            refine v_iast (i := ((16 * f) + j)) (show G.1 (y + 23) = (10, 3840) from (hYr 22 _ rfl).1) (by omega) (by omega) (by omega) (by rw [← hme]; exact rngJ _ _) dX9_meets_319 ?_
            have rng3 := w_rng (a := y + 23) (f := ((16 * f) + j)) rng2 (show inR (mgM Q (κ.1 p) ψ j) from (by rw [← hme]; exact rngJ _ _))
            refine v_iinc dX9_meets_320 rfl (by decide) rfl rfl ?_
            refine v_goto dX9_meets_323 ?_
            exact ih (j + 1) _ _ (by omega) hcm (hl.s (by omega) hF2 (Or.inl ⟨rfl, Or.inl h1⟩)) rng3
          · refine v_aload_n dX9_meets_277 rfl ?_
            refine v_getR fX9_81 rfl hTy (hYr 22 _ rfl).2 dX9_meets_278 ?_
            refine v_bipush dX9_meets_281 (by decide) ?_
            refine v_iload_n dX9_meets_283 rfl ?_
            refine v_imul dX9_meets_284 ?_
            refine v_iload_n dX9_meets_285 rfl ?_
            refine v_iadd dX9_meets_286 ?_
            refine v_iald' (i := ((16 * f) + j)) (v := mgC (κ.1 p) j) hce (show G.1 (y + 23) = (10, 3840) from (hYr 22 _ rfl).1) (by omega) (by omega) (by omega) dX9_meets_287 ?_
            refine v_aload_n dX9_meets_288 rfl ?_
            refine v_getR fX9_90 rfl hTy (hYr 25 _ rfl).2 dX9_meets_289 ?_
            refine v_iload_n dX9_meets_292 rfl ?_
            refine v_iald' (i := j) (v := mgM Q (κ.1 p) ψ j) hme (show G.1 (y + 26) = (10, 16) from (hYr 25 _ rfl).1) rfl (by omega) (by omega) dX9_meets_293 ?_
            refine v_icmp_eq (by rw [← hce]; exact rngJ _ _) (by rw [← hme]; exact rngJ _ _) dX9_meets_294 (fun h4 => ?_) (fun h4 => ?_)
            · refine v_iconst dX9_meets_301 ?_
              refine v_zast (i := f) (show G.1 (y + 21) = (11, 240) from (hYr 20 _ rfl).1) rfl (by omega) (by omega) (Or.inl rfl) dX9_meets_302 ?_
              have rng5 := w_rng (a := y + 21) (f := f) rngJ (show inR (0) from ⟨by decide, by decide⟩)
              refine v_aload_n dX9_meets_303 rfl ?_
              refine v_getR fX9_81 rfl hTy (hYr 22 _ rfl).2 dX9_meets_304 ?_
              refine v_bipush dX9_meets_307 (by decide) ?_
              refine v_iload_n dX9_meets_309 rfl ?_
              refine v_imul dX9_meets_310 ?_
              refine v_iload_n dX9_meets_311 rfl ?_
              refine v_iadd dX9_meets_312 ?_
              refine v_aload_n dX9_meets_313 rfl ?_
              refine v_getR fX9_90 rfl hTy (hYr 25 _ rfl).2 dX9_meets_314 ?_
              refine v_iload_n dX9_meets_317 rfl ?_
              refine v_iald' (i := j) (v := mgM Q (κ.1 p) ψ j) (by rw [w_up_n (by omega), hme]) (show G.1 (y + 26) = (10, 16) from (hYr 25 _ rfl).1) rfl (by omega) (by omega) dX9_meets_318 ?_
              refine v_iast (i := ((16 * f) + j)) (show G.1 (y + 23) = (10, 3840) from (hYr 22 _ rfl).1) (by omega) (by omega) (by omega) (by rw [← hme]; exact rngJ _ _) dX9_meets_319 ?_
              have rng6 := w_rng (a := y + 23) (f := ((16 * f) + j)) rng5 (show inR (mgM Q (κ.1 p) ψ j) from (by rw [← hme]; exact rngJ _ _))
              refine v_iinc dX9_meets_320 rfl (by decide) rfl rfl ?_
              refine v_goto dX9_meets_323 ?_
              exact ih (j + 1) _ _ (by omega) hcm (hl.s (by omega) hF2 (Or.inr ⟨rfl, h1, h4⟩)) rng6
            · refine v_iconst dX9_meets_297 ?_
              refine v_goto dX9_meets_298 ?_
              refine v_zast (i := f) (show G.1 (y + 21) = (11, 240) from (hYr 20 _ rfl).1) rfl (by omega) (by omega) (Or.inr rfl) dX9_meets_302 ?_
              have rng7 := w_rng (a := y + 21) (f := f) rngJ (show inR (1) from ⟨by decide, by decide⟩)
              refine v_aload_n dX9_meets_303 rfl ?_
              refine v_getR fX9_81 rfl hTy (hYr 22 _ rfl).2 dX9_meets_304 ?_
              refine v_bipush dX9_meets_307 (by decide) ?_
              refine v_iload_n dX9_meets_309 rfl ?_
              refine v_imul dX9_meets_310 ?_
              refine v_iload_n dX9_meets_311 rfl ?_
              refine v_iadd dX9_meets_312 ?_
              refine v_aload_n dX9_meets_313 rfl ?_
              refine v_getR fX9_90 rfl hTy (hYr 25 _ rfl).2 dX9_meets_314 ?_
              refine v_iload_n dX9_meets_317 rfl ?_
              refine v_iald' (i := j) (v := mgM Q (κ.1 p) ψ j) (by rw [w_up_n (by omega), hme]) (show G.1 (y + 26) = (10, 16) from (hYr 25 _ rfl).1) rfl (by omega) (by omega) dX9_meets_318 ?_
              refine v_iast (i := ((16 * f) + j)) (show G.1 (y + 23) = (10, 3840) from (hYr 22 _ rfl).1) (by omega) (by omega) (by omega) (by rw [← hme]; exact rngJ _ _) dX9_meets_319 ?_
              have rng8 := w_rng (a := y + 23) (f := ((16 * f) + j)) rng7 (show inR (mgM Q (κ.1 p) ψ j) from (by rw [← hme]; exact rngJ _ _))
              refine v_iinc dX9_meets_320 rfl (by decide) rfl rfl ?_
              refine v_goto dX9_meets_323 ?_
              exact ih (j + 1) _ _ (by omega) hcm (hl.s (by omega) hF2 (Or.inl ⟨rfl, Or.inr h4⟩)) rng8
      have loop3 : ∀ (m j : Nat) (J : w_Mm) (o4 : Option Value), j + m = 8 → canM Q (κ.1 p) ψ → m2P I J y Q (κ.1 p) ψ 8 → (∀ a k, inR (J a k)) → w_V E mX9_meets (w_rm 3 0 0) (w_Z E 0 0 (w_Pi (fun r G' J => G' = G ∧ meP I J y i Q κ p ψ r))) G J 0 0 156 [some (.ref y), some (iv (p : Int)), some (iv (f : Int)), some (iv (j : Int)), o4] [] := by
        intro m
        induction m with
        | zero =>
          intro j J o4 hj hcm hl rngJ
          obtain rfl : j = 8 := by omega
          refine v_iload_n dX9_meets_156 rfl ?_
          refine v_bipush dX9_meets_157 (by decide) ?_
          refine v_icmp_ge ⟨by omega, by omega⟩ ⟨by decide, by decide⟩ dX9_meets_159 (fun hb159 => ?_) (fun h => by exfalso; omega)
          refine v_iconst dX9_meets_250 ?_
          refine v_istore_n dX9_meets_251 (by decide) rfl ?_
          exact loop4 (8 + (κ.1 p).1.toNat) 0 _ _ (by omega) hcm (m4P.b hl hF (by omega) (by rw [hWt.1]; exact hWt.2)) rngJ
        | succ m ih =>
          intro j J o4 hj hcm hl rngJ
          have hpm : pW (mrgG Q (κ.1 p).2.1 ψ.2.1) := (hφ1.mrg ⟨hQ0.2.1, hQ0.2.2.1⟩ hψ hcm).2.1
          have hpj := hpm j (by omega)
          have hmj : J (y + 26) j = mrgG Q (κ.1 p).2.1 ψ.2.1 j := hl.2.1 j (by omega)
          have hrj : inR (mrgG Q (κ.1 p).2.1 ψ.2.1 j) := by rw [← hmj]; exact rngJ _ _
          have hm1 : j + 1 < 8 → J (y + 26) (j + 1) = mrgG Q (κ.1 p).2.1 ψ.2.1 (j + 1) := fun q => hl.2.1 (j + 1) q
          have hm0 : 1 ≤ j → J (y + 26) (j - 1) = mrgG Q (κ.1 p).2.1 ψ.2.1 (j - 1) := fun q => hl.2.1 (j - 1) (by omega)
          refine v_iload_n dX9_meets_156 rfl ?_
          refine v_bipush dX9_meets_157 (by decide) ?_
          refine v_icmp_ge ⟨by omega, by omega⟩ ⟨by decide, by decide⟩ dX9_meets_159 (fun h => by exfalso; omega) (fun hb159 => ?_)
          refine v_aload_n dX9_meets_162 rfl ?_
          refine v_getR fX9_90 rfl hTy (hYr 25 _ rfl).2 dX9_meets_163 ?_
          refine v_iload_n dX9_meets_166 rfl ?_
          refine v_iald' (i := j) (v := mrgG Q (κ.1 p).2.1 ψ.2.1 j) hmj (show G.1 (y + 26) = (10, 16) from (hYr 25 _ rfl).1) rfl (by omega) (by omega) dX9_meets_167 ?_
          refine v_iconst dX9_meets_168 ?_
          refine v_icmp_ne hrj ⟨by decide, by decide⟩ dX9_meets_169 (fun h1 => ?_) (fun h1 => ?_)
          · refine v_aload_n dX9_meets_190 rfl ?_
            refine v_getR fX9_90 rfl hTy (hYr 25 _ rfl).2 dX9_meets_191 ?_
            refine v_iload_n dX9_meets_194 rfl ?_
            refine v_iald' (i := j) (v := mrgG Q (κ.1 p).2.1 ψ.2.1 j) hmj (show G.1 (y + 26) = (10, 16) from (hYr 25 _ rfl).1) rfl (by omega) (by omega) dX9_meets_195 ?_
            refine v_iconst dX9_meets_196 ?_
            refine v_icmp_ne hrj ⟨by decide, by decide⟩ dX9_meets_197 (fun h2 => ?_) (fun h2 => ?_)
            · refine v_iconst dX9_meets_220 ?_
              refine v_istore dX9_meets_221 (by decide) rfl ?_
              refine v_aload_n dX9_meets_223 rfl ?_
              refine v_getR fX9_90 rfl hTy (hYr 25 _ rfl).2 dX9_meets_224 ?_
              refine v_iload_n dX9_meets_227 rfl ?_
              refine v_iload dX9_meets_228 rfl ?_
              refine v_if_eq ⟨by decide, by decide⟩ dX9_meets_230 (fun hb230 => ?_) (fun h => by exfalso; omega)
              refine v_aload_n dX9_meets_237 rfl ?_
              refine v_getR fX9_90 rfl hTy (hYr 25 _ rfl).2 dX9_meets_238 ?_
              refine v_iload_n dX9_meets_241 rfl ?_
              refine v_iald' (i := j) (v := mrgG Q (κ.1 p).2.1 ψ.2.1 j) hmj (show G.1 (y + 26) = (10, 16) from (hYr 25 _ rfl).1) rfl (by omega) (by omega) dX9_meets_242 ?_
              refine v_iast (i := j) (show G.1 (y + 26) = (10, 16) from (hYr 25 _ rfl).1) rfl (by omega) (by omega) hrj dX9_meets_243 ?_
              have rng3 := w_rng (a := y + 26) (f := j) rngJ (show inR (mrgG Q (κ.1 p).2.1 ψ.2.1 j) from hrj)
              refine v_iinc dX9_meets_244 rfl (by decide) rfl rfl ?_
              refine v_goto dX9_meets_247 ?_
              exact ih (j + 1) _ _ (by omega) hcm (hl.k (by omega)) rng3
            · refine v_iload_n dX9_meets_200 rfl ?_
              refine v_if_eq ⟨by omega, by omega⟩ dX9_meets_201 (fun h4 => ?_) (fun h4 => ?_)
              · exfalso
                omega
              · refine v_aload_n dX9_meets_204 rfl ?_
                refine v_getR fX9_90 rfl hTy (hYr 25 _ rfl).2 dX9_meets_205 ?_
                refine v_iload_n dX9_meets_208 rfl ?_
                refine v_iconst dX9_meets_209 ?_
                refine v_isub dX9_meets_210 ?_
                refine v_iald' (i := (j - 1)) (v := mrgG Q (κ.1 p).2.1 ψ.2.1 (j - 1)) (hm0 (by omega)) (show G.1 (y + 26) = (10, 16) from (hYr 25 _ rfl).1) (by omega) (by omega) (by omega) dX9_meets_211 ?_
                refine v_iconst dX9_meets_212 ?_
                refine v_icmp_eq (by rw [← hm0 (by omega)]; exact rngJ _ _) ⟨by decide, by decide⟩ dX9_meets_213 (fun h5 => ?_) (fun h5 => ?_)
                · refine v_iconst dX9_meets_220 ?_
                  refine v_istore dX9_meets_221 (by decide) rfl ?_
                  refine v_aload_n dX9_meets_223 rfl ?_
                  refine v_getR fX9_90 rfl hTy (hYr 25 _ rfl).2 dX9_meets_224 ?_
                  refine v_iload_n dX9_meets_227 rfl ?_
                  refine v_iload dX9_meets_228 rfl ?_
                  refine v_if_eq ⟨by decide, by decide⟩ dX9_meets_230 (fun hb230 => ?_) (fun h => by exfalso; omega)
                  refine v_aload_n dX9_meets_237 rfl ?_
                  refine v_getR fX9_90 rfl hTy (hYr 25 _ rfl).2 dX9_meets_238 ?_
                  refine v_iload_n dX9_meets_241 rfl ?_
                  refine v_iald' (i := j) (v := mrgG Q (κ.1 p).2.1 ψ.2.1 j) hmj (show G.1 (y + 26) = (10, 16) from (hYr 25 _ rfl).1) rfl (by omega) (by omega) dX9_meets_242 ?_
                  refine v_iast (i := j) (show G.1 (y + 26) = (10, 16) from (hYr 25 _ rfl).1) rfl (by omega) (by omega) hrj dX9_meets_243 ?_
                  have rng6 := w_rng (a := y + 26) (f := j) rngJ (show inR (mrgG Q (κ.1 p).2.1 ψ.2.1 j) from hrj)
                  refine v_iinc dX9_meets_244 rfl (by decide) rfl rfl ?_
                  refine v_goto dX9_meets_247 ?_
                  exact ih (j + 1) _ _ (by omega) hcm (hl.k (by omega)) rng6
                · exfalso
                  omega
          · refine v_iload_n dX9_meets_172 rfl ?_
            refine v_bipush dX9_meets_173 (by decide) ?_
            refine v_icmp_eq ⟨by omega, by omega⟩ ⟨by decide, by decide⟩ dX9_meets_175 (fun h7 => ?_) (fun h7 => ?_)
            · exfalso
              omega
            · refine v_aload_n dX9_meets_178 rfl ?_
              refine v_getR fX9_90 rfl hTy (hYr 25 _ rfl).2 dX9_meets_179 ?_
              refine v_iload_n dX9_meets_182 rfl ?_
              refine v_iconst dX9_meets_183 ?_
              refine v_iadd dX9_meets_184 ?_
              refine v_iald' (i := (j + 1)) (v := mrgG Q (κ.1 p).2.1 ψ.2.1 (j + 1)) (hm1 (by omega)) (show G.1 (y + 26) = (10, 16) from (hYr 25 _ rfl).1) (by omega) (by omega) (by omega) dX9_meets_185 ?_
              refine v_iconst dX9_meets_186 ?_
              refine v_icmp_ne (by rw [← hm1 (by omega)]; exact rngJ _ _) ⟨by decide, by decide⟩ dX9_meets_187 (fun h8 => ?_) (fun h8 => ?_)
              · exfalso
                omega
              · refine v_aload_n dX9_meets_190 rfl ?_
                refine v_getR fX9_90 rfl hTy (hYr 25 _ rfl).2 dX9_meets_191 ?_
                refine v_iload_n dX9_meets_194 rfl ?_
                refine v_iald' (i := j) (v := mrgG Q (κ.1 p).2.1 ψ.2.1 j) hmj (show G.1 (y + 26) = (10, 16) from (hYr 25 _ rfl).1) rfl (by omega) (by omega) dX9_meets_195 ?_
                refine v_iconst dX9_meets_196 ?_
                refine v_icmp_ne hrj ⟨by decide, by decide⟩ dX9_meets_197 (fun h9 => ?_) (fun h9 => ?_)
                · refine v_iconst dX9_meets_220 ?_
                  refine v_istore dX9_meets_221 (by decide) rfl ?_
                  refine v_aload_n dX9_meets_223 rfl ?_
                  refine v_getR fX9_90 rfl hTy (hYr 25 _ rfl).2 dX9_meets_224 ?_
                  refine v_iload_n dX9_meets_227 rfl ?_
                  refine v_iload dX9_meets_228 rfl ?_
                  refine v_if_eq ⟨by decide, by decide⟩ dX9_meets_230 (fun hb230 => ?_) (fun h => by exfalso; omega)
                  refine v_aload_n dX9_meets_237 rfl ?_
                  refine v_getR fX9_90 rfl hTy (hYr 25 _ rfl).2 dX9_meets_238 ?_
                  refine v_iload_n dX9_meets_241 rfl ?_
                  refine v_iald' (i := j) (v := mrgG Q (κ.1 p).2.1 ψ.2.1 j) hmj (show G.1 (y + 26) = (10, 16) from (hYr 25 _ rfl).1) rfl (by omega) (by omega) dX9_meets_242 ?_
                  refine v_iast (i := j) (show G.1 (y + 26) = (10, 16) from (hYr 25 _ rfl).1) rfl (by omega) (by omega) hrj dX9_meets_243 ?_
                  have rng10 := w_rng (a := y + 26) (f := j) rngJ (show inR (mrgG Q (κ.1 p).2.1 ψ.2.1 j) from hrj)
                  refine v_iinc dX9_meets_244 rfl (by decide) rfl rfl ?_
                  refine v_goto dX9_meets_247 ?_
                  exact ih (j + 1) _ _ (by omega) hcm (hl.k (by omega)) rng10
                · refine v_iload_n dX9_meets_200 rfl ?_
                  refine v_if_eq ⟨by omega, by omega⟩ dX9_meets_201 (fun h11 => ?_) (fun h11 => ?_)
                  · exfalso
                    omega
                  · refine v_aload_n dX9_meets_204 rfl ?_
                    refine v_getR fX9_90 rfl hTy (hYr 25 _ rfl).2 dX9_meets_205 ?_
                    refine v_iload_n dX9_meets_208 rfl ?_
                    refine v_iconst dX9_meets_209 ?_
                    refine v_isub dX9_meets_210 ?_
                    refine v_iald' (i := (j - 1)) (v := mrgG Q (κ.1 p).2.1 ψ.2.1 (j - 1)) (hm0 (by omega)) (show G.1 (y + 26) = (10, 16) from (hYr 25 _ rfl).1) (by omega) (by omega) (by omega) dX9_meets_211 ?_
                    refine v_iconst dX9_meets_212 ?_
                    refine v_icmp_eq (by rw [← hm0 (by omega)]; exact rngJ _ _) ⟨by decide, by decide⟩ dX9_meets_213 (fun h12 => ?_) (fun h12 => ?_)
                    · refine v_iconst dX9_meets_220 ?_
                      refine v_istore dX9_meets_221 (by decide) rfl ?_
                      refine v_aload_n dX9_meets_223 rfl ?_
                      refine v_getR fX9_90 rfl hTy (hYr 25 _ rfl).2 dX9_meets_224 ?_
                      refine v_iload_n dX9_meets_227 rfl ?_
                      refine v_iload dX9_meets_228 rfl ?_
                      refine v_if_eq ⟨by decide, by decide⟩ dX9_meets_230 (fun hb230 => ?_) (fun h => by exfalso; omega)
                      refine v_aload_n dX9_meets_237 rfl ?_
                      refine v_getR fX9_90 rfl hTy (hYr 25 _ rfl).2 dX9_meets_238 ?_
                      refine v_iload_n dX9_meets_241 rfl ?_
                      refine v_iald' (i := j) (v := mrgG Q (κ.1 p).2.1 ψ.2.1 j) hmj (show G.1 (y + 26) = (10, 16) from (hYr 25 _ rfl).1) rfl (by omega) (by omega) dX9_meets_242 ?_
                      refine v_iast (i := j) (show G.1 (y + 26) = (10, 16) from (hYr 25 _ rfl).1) rfl (by omega) (by omega) hrj dX9_meets_243 ?_
                      have rng13 := w_rng (a := y + 26) (f := j) rngJ (show inR (mrgG Q (κ.1 p).2.1 ψ.2.1 j) from hrj)
                      refine v_iinc dX9_meets_244 rfl (by decide) rfl rfl ?_
                      refine v_goto dX9_meets_247 ?_
                      exact ih (j + 1) _ _ (by omega) hcm (hl.k (by omega)) rng13
                    · exfalso
                      omega
      have loop2 : ∀ (m j : Nat) (J : w_Mm) (o4 : Option Value), j + m = 8 → canM Q (κ.1 p) ψ → m2P I J y Q (κ.1 p) ψ j → (∀ a k, inR (J a k)) → w_V E mX9_meets (w_rm 3 0 0) (w_Z E 0 0 (w_Pi (fun r G' J => G' = G ∧ meP I J y i Q κ p ψ r))) G J 0 0 115 [some (.ref y), some (iv (p : Int)), some (iv (f : Int)), some (iv (j : Int)), o4] [] := by
        intro m
        induction m with
        | zero =>
          intro j J o4 hj hcm hl rngJ
          obtain rfl : j = 8 := by omega
          refine v_iload_n dX9_meets_115 rfl ?_
          refine v_bipush dX9_meets_116 (by decide) ?_
          refine v_icmp_ge ⟨by omega, by omega⟩ ⟨by decide, by decide⟩ dX9_meets_118 (fun hb118 => ?_) (fun h => by exfalso; omega)
          refine v_iconst dX9_meets_154 ?_
          refine v_istore_n dX9_meets_155 (by decide) rfl ?_
          exact loop3 8 0 _ _ rfl hcm hl rngJ
        | succ m ih =>
          intro j J o4 hj hcm hl rngJ
          have ho := hl.2.2
          have qJ : clsY J y Q := hQ0.off (ho _ _ (by omega)) (funext fun k => ho _ _ (by omega)) (funext fun k => ho _ _ (by omega))
          refine v_iload_n dX9_meets_115 rfl ?_
          refine v_bipush dX9_meets_116 (by decide) ?_
          refine v_icmp_ge ⟨by omega, by omega⟩ ⟨by decide, by decide⟩ dX9_meets_118 (fun h => by exfalso; omega) (fun hb118 => ?_)
          refine v_aload_n dX9_meets_121 rfl ?_
          refine v_getR fX9_90 rfl hTy (hYr 25 _ rfl).2 dX9_meets_122 ?_
          refine v_iload_n dX9_meets_125 rfl ?_
          refine v_aload_n dX9_meets_126 rfl ?_
          refine v_aload_n dX9_meets_127 rfl ?_
          refine v_getR fX9_81 rfl hTy (hYr 22 _ rfl).2 dX9_meets_128 ?_
          refine v_bipush dX9_meets_131 (by decide) ?_
          refine v_iload_n dX9_meets_133 rfl ?_
          refine v_imul dX9_meets_134 ?_
          refine v_iload_n dX9_meets_135 rfl ?_
          refine v_iadd dX9_meets_136 ?_
          refine v_iald' (i := ((16 * f) + j)) (v := (κ.1 p).2.1 j) ((ho _ _ (by omega)).trans (hF3 j (by omega))) (show G.1 (y + 23) = (10, 3840) from (hYr 22 _ rfl).1) (by omega) (by omega) (by omega) dX9_meets_137 ?_
          refine v_aload_n dX9_meets_138 rfl ?_
          refine v_getR fX9_84 rfl hTy (hYr 23 _ rfl).2 dX9_meets_139 ?_
          refine v_iload_n dX9_meets_142 rfl ?_
          refine v_iald' (i := j) (v := ψ.2.1 j) ((ho _ _ (by omega)).trans (hfL j (by omega))) (show G.1 (y + 24) = (10, 8) from (hYr 23 _ rfl).1) rfl (by omega) (by omega) dX9_meets_143 ?_
          refine v_VmN (tX9_joined (⟨hTy, hYr⟩ : isY G y) qJ (kl j (by omega)).1 (kl j (by omega)).2) kX9_130 hTy rfl rfl ⟨by decide, by decide⟩ ⟨by decide, by decide⟩ (Nat.le_of_ble_eq_true rfl) dX9_meets_144 (fun r1 er1 hr1 rng2 => ?_)
          subst er1
          refine v_iast (i := j) (show G.1 (y + 26) = (10, 16) from (hYr 25 _ rfl).1) rfl (by omega) (by omega) hr1 dX9_meets_147 ?_
          have rng3 := w_rng (a := y + 26) (f := j) rngJ (show inR (joinK Q ((κ.1 p).2.1 j) (ψ.2.1 j)) from hr1)
          refine v_iinc dX9_meets_148 rfl (by decide) rfl rfl ?_
          refine v_goto dX9_meets_151 ?_
          exact ih (j + 1) _ _ (by omega) hcm (hl.s (by omega)) rng3
      have loop1 : ∀ (m j : Nat) (J : w_Mm) (o4 : Option Value), ((j + m : Nat) : Int) = (κ.1 p).1 → m1P I J y Q (κ.1 p) ψ j → (∀ a k, inR (J a k)) → w_V E mX9_meets (w_rm 3 0 0) (w_Z E 0 0 (w_Pi (fun r G' J => G' = G ∧ meP I J y i Q κ p ψ r))) G J 0 0 47 [some (.ref y), some (iv (p : Int)), some (iv (f : Int)), some (iv (j : Int)), o4] [] := by
        intro m
        induction m with
        | zero =>
          intro j J o4 hj hl rngJ
          have ho := hl.2
          refine v_iload_n dX9_meets_47 rfl ?_
          refine v_aload_n dX9_meets_48 rfl ?_
          refine v_getI' (v := ψ.1) ((ho y 27 (by omega)).trans hf27) fX9_148 rfl hTy dX9_meets_49 ?_
          refine v_icmp_ge ⟨by omega, by omega⟩ ⟨by omega, by omega⟩ dX9_meets_52 (fun hb52 => ?_) (fun h => by exfalso; omega)
          refine v_iconst dX9_meets_113 ?_
          refine v_istore_n dX9_meets_114 (by decide) rfl ?_
          exact loop2 8 0 _ _ rfl ⟨h1, fun k hk => (hl.1 k (by omega)).2⟩ ⟨fun k hk => (hl.1 k (by omega)).1, fun k hk => absurd hk (by omega), ho⟩ rngJ
        | succ m ih =>
          intro j J o4 hj hl rngJ
          have ho := hl.2
          have qJ : clsY J y Q := hQ0.off (ho _ _ (by omega)) (funext fun k => ho _ _ (by omega)) (funext fun k => ho _ _ (by omega))
          refine v_iload_n dX9_meets_47 rfl ?_
          refine v_aload_n dX9_meets_48 rfl ?_
          refine v_getI' (v := ψ.1) ((ho y 27 (by omega)).trans hf27) fX9_148 rfl hTy dX9_meets_49 ?_
          refine v_icmp_ge ⟨by omega, by omega⟩ ⟨by omega, by omega⟩ dX9_meets_52 (fun h => by exfalso; omega) (fun hb52 => ?_)
          refine v_aload_n dX9_meets_55 rfl ?_
          refine v_getR fX9_90 rfl hTy (hYr 25 _ rfl).2 dX9_meets_56 ?_
          refine v_bipush dX9_meets_59 (by decide) ?_
          refine v_iload_n dX9_meets_61 rfl ?_
          refine v_iadd dX9_meets_62 ?_
          refine v_aload_n dX9_meets_63 rfl ?_
          refine v_aload_n dX9_meets_64 rfl ?_
          refine v_getR fX9_81 rfl hTy (hYr 22 _ rfl).2 dX9_meets_65 ?_
          refine v_bipush dX9_meets_68 (by decide) ?_
          refine v_iload_n dX9_meets_70 rfl ?_
          refine v_imul dX9_meets_71 ?_
          refine v_bipush dX9_meets_72 (by decide) ?_
          refine v_iadd dX9_meets_74 ?_
          refine v_iload_n dX9_meets_75 rfl ?_
          refine v_iadd dX9_meets_76 ?_
          refine v_iald' (i := (((16 * f) + 8) + j)) (v := (κ.1 p).2.2 j) ((ho _ _ (by omega)).trans (hF4 j (by omega))) (show G.1 (y + 23) = (10, 3840) from (hYr 22 _ rfl).1) (by omega) (by omega) (by omega) dX9_meets_77 ?_
          refine v_aload_n dX9_meets_78 rfl ?_
          refine v_getR fX9_87 rfl hTy (hYr 24 _ rfl).2 dX9_meets_79 ?_
          refine v_iload_n dX9_meets_82 rfl ?_
          refine v_iald' (i := j) (v := ψ.2.2 j) ((ho _ _ (by omega)).trans (hfP j (by omega))) (show G.1 (y + 25) = (10, 8) from (hYr 24 _ rfl).1) rfl (by omega) (by omega) dX9_meets_83 ?_
          refine v_VmN (tX9_joined (⟨hTy, hYr⟩ : isY G y) qJ ((hφ1.2.2.1 j (by omega)).known hN) ((hψ.2.2.1 j (by omega)).known hN)) kX9_130 hTy rfl rfl ⟨by decide, by decide⟩ ⟨by decide, by decide⟩ (Nat.le_of_ble_eq_true rfl) dX9_meets_84 (fun r1 er1 hr1 rng2 => ?_)
          subst er1
          refine v_iast (i := (8 + j)) (show G.1 (y + 26) = (10, 16) from (hYr 25 _ rfl).1) (by omega) (by omega) (by omega) hr1 dX9_meets_87 ?_
          have rng3 := w_rng (a := y + 26) (f := (8 + j)) rngJ (show inR (joinK Q ((κ.1 p).2.2 j) (ψ.2.2 j)) from hr1)
          refine v_aload_n dX9_meets_88 rfl ?_
          refine v_getR fX9_90 rfl hTy (hYr 25 _ rfl).2 dX9_meets_89 ?_
          refine v_bipush dX9_meets_92 (by decide) ?_
          refine v_iload_n dX9_meets_94 rfl ?_
          refine v_iadd dX9_meets_95 ?_
          refine v_iald' (i := (8 + j)) (v := joinK Q ((κ.1 p).2.2 j) (ψ.2.2 j)) (by rw [w_up_s]) (show G.1 (y + 26) = (10, 16) from (hYr 25 _ rfl).1) (by omega) (by omega) (by omega) dX9_meets_96 ?_
          refine v_if_ne hr1 dX9_meets_97 (fun h4 => ?_) (fun h4 => ?_)
          · refine v_iinc dX9_meets_107 rfl (by decide) rfl rfl ?_
            refine v_goto dX9_meets_110 ?_
            exact ih (j + 1) _ _ (by omega) (hl.s h4) rng3
          · refine v_aload_n dX9_meets_100 rfl ?_
            refine v_bipush dX9_meets_101 (by decide) ?_
            refine v_VmN (tX9_breaks (⟨hTy, hYr⟩ : isY G y) ⟨by decide, by decide⟩) kX9_151 hTy rfl rfl ⟨by decide, by decide⟩ ⟨by decide, by decide⟩ (Nat.le_of_ble_eq_true rfl) dX9_meets_103 (fun r5 er5 hr5 rng6 => ?_)
            subst er5
            have ho2 : ∀ a k, a ≠ y + 26 → w_up J (y + 26) (8 + j) (joinK Q ((κ.1 p).2.2 j) (ψ.2.2 j)) a k = I a k := fun a k u => by rw [w_up_n (by omega)]; exact ho a k u
            exact v_zret rfl (by decide) (by decide) (Or.inl rfl) dX9_meets_106 ⟨rfl, me_no hK ho2 hc (fun q => q.2 j (by omega) h4)⟩
      exact loop1 (κ.1 p).1.toNat 0 _ _ (by omega) ⟨fun k hk => absurd hk (by omega), fun _ _ _ => rfl⟩ rng
    · refine v_aload_n dX9_meets_38 rfl ?_
      refine v_bipush dX9_meets_39 (by decide) ?_
      refine v_VmN (tX9_breaks (⟨hTy, hYr⟩ : isY G y) ⟨by decide, by decide⟩) kX9_151 hTy rfl rfl ⟨by decide, by decide⟩ ⟨by decide, by decide⟩ (Nat.le_of_ble_eq_true rfl) dX9_meets_41 (fun r2 er2 hr2 rng3 => ?_)
      subst er2
      exact v_zret rfl (by decide) (by decide) (Or.inl rfl) dX9_meets_44 ⟨rfl, me_no hK (fun _ _ _ => rfl) hc (fun q => h1 q.1)⟩
