/-! ===== the reference: what it tells ===== -/
def tdP (π : mS) (κ : kS) (t j : Nat) (b : Int) : Prop := (b = 1 ∧ toldP π κ j t) ∨ (b = 0 ∧ ¬ toldP π κ j t)
def tiP (π : mS) (κ : kS) (t j g : Nat) (b : Int) : Prop := (b = 1 ∧ (toldP π κ j t ∨ (0 ≤ (κ.1 j).1 ∧ (jP π j t ∨ gP π j g t)))) ∨ (b = 0 ∧ ¬ (toldP π κ j t ∨ (0 ≤ (κ.1 j).1 ∧ (jP π j t ∨ gP π j g t))))
theorem tiP.r {π : mS} {κ : kS} {t j g : Nat} {b : Int} (h : tiP π κ t j g b) : b = 0 ∨ b = 1 := by
  rcases h with h | h
  · exact Or.inr h.1
  · exact Or.inl h.1
theorem tdP.r {π : mS} {κ : kS} {t j : Nat} {b : Int} (h : tdP π κ t j b) : b = 0 ∨ b = 1 := by
  rcases h with h | h
  · exact Or.inr h.1
  · exact Or.inl h.1
theorem gP_0 {π : mS} {p i : Nat} : ¬ gP π p 0 i := fun ⟨g, h, _⟩ => absurd h (Nat.not_lt_zero g)
theorem gP_s {π : mS} {p g i : Nat} : gP π p (g + 1) i ↔ gP π p g i ∨ ((mGf π g ≤ (p : Int) ∧ (p : Int) < mGt π g) ∧ mGh π g = (i : Int)) := by
  constructor
  · rintro ⟨x, h1, h2⟩
    by_cases e : x = g
    · subst e; exact Or.inr h2
    · exact Or.inl ⟨x, by omega, h2⟩
  · rintro (⟨x, h1, h2⟩ | h)
    · exact ⟨x, by omega, h2⟩
    · exact ⟨g, by omega, h⟩
theorem told_s {π : mS} {κ : kS} {j t : Nat} : toldP π κ (j + 1) t ↔ toldP π κ j t ∨ (0 ≤ (κ.1 j).1 ∧ (jP π j t ∨ gP π j (mNG π) t)) := by
  constructor
  · rintro ⟨x, h1, h2⟩
    by_cases e : x = j
    · subst e; exact Or.inr h2
    · exact Or.inl ⟨x, by omega, h2⟩
  · rintro (⟨x, h1, h2⟩ | h)
    · exact ⟨x, by omega, h2⟩
    · exact ⟨j, by omega, h⟩
theorem tiP.b {π : mS} {κ : kS} {t j : Nat} {b c : Int} (h : tdP π κ t j b) (hc : (c = 1 ∧ (¬ b = 0 ∨ (0 ≤ (κ.1 j).1 ∧ jP π j t))) ∨ (c = 0 ∧ b = 0 ∧ ¬ (0 ≤ (κ.1 j).1 ∧ jP π j t))) : tiP π κ t j 0 c := by
  rcases hc with ⟨rfl, hc⟩ | ⟨rfl, hb, hc⟩
  · refine Or.inl ⟨rfl, ?_⟩
    rcases hc with hc | hc
    · rcases h with h | h
      · exact Or.inl h.2
      · exact absurd h.1 hc
    · exact Or.inr ⟨hc.1, Or.inl hc.2⟩
  · refine Or.inr ⟨rfl, ?_⟩
    rcases h with h | h
    · omega
    · rintro (q | ⟨q1, q2 | q2⟩)
      · exact h.2 q
      · exact hc ⟨q1, q2⟩
      · exact gP_0 q2
theorem tiP.s {π : mS} {κ : kS} {t j g : Nat} {b c : Int} (h : tiP π κ t j g b) (hc : (c = 1 ∧ (¬ b = 0 ∨ (0 ≤ (κ.1 j).1 ∧ (mGf π g ≤ (j : Int) ∧ (j : Int) < mGt π g) ∧ mGh π g = (t : Int)))) ∨ (c = 0 ∧ b = 0 ∧ ¬ (0 ≤ (κ.1 j).1 ∧ (mGf π g ≤ (j : Int) ∧ (j : Int) < mGt π g) ∧ mGh π g = (t : Int)))) : tiP π κ t j (g + 1) c := by
  unfold tiP
  rw [gP_s]
  rcases hc with ⟨rfl, hc⟩ | ⟨rfl, hb, hc⟩
  · refine Or.inl ⟨rfl, ?_⟩
    rcases hc with hc | hc
    · rcases h with ⟨_, h | ⟨h1, h2 | h2⟩⟩ | h
      · exact Or.inl h
      · exact Or.inr ⟨h1, Or.inl h2⟩
      · exact Or.inr ⟨h1, Or.inr (Or.inl h2)⟩
      · exact absurd h.1 hc
    · exact Or.inr ⟨hc.1, Or.inr (Or.inr hc.2)⟩
  · refine Or.inr ⟨rfl, ?_⟩
    rcases h with h | h
    · omega
    · rintro (q | ⟨q1, q2 | q2 | q2⟩)
      · exact h.2 (Or.inl q)
      · exact h.2 (Or.inr ⟨q1, Or.inl q2⟩)
      · exact h.2 (Or.inr ⟨q1, Or.inr q2⟩)
      · exact hc ⟨q1, q2⟩
theorem tiP.e {π : mS} {κ : kS} {t j : Nat} {b : Int} (h : tiP π κ t j (mNG π) b) : tdP π κ t (j + 1) b := by
  unfold tdP; rw [told_s]; exact h
theorem tdP_0 {π : mS} {κ : kS} {t : Nat} : tdP π κ t 0 0 := Or.inr ⟨rfl, fun ⟨x, h, _⟩ => absurd h (Nat.not_lt_zero x)⟩
theorem wrF_s {L : Nat → Int} {m i : Nat} {s : Nat × Nat × (Nat → Int)} : wrF L (m + 1) i s = wrF L m (i + 1) (if L i = 3 then s else (s.1 + 1, (if L i = 0 then s.2.1 else s.1 + 1), uL s.2.2 s.1 (L i))) := rfl
theorem wantL_s {π : mS} {κ : kS} {j p : Nat} {z : Int} : wantL π κ (j + 1) p z = wantL π κ j (p + 1) (if 0 ≤ (κ.1 p).1 then (if z < locOp (mOp π p) (mA π p) then locOp (mOp π p) (mA π p) else z) else z) := rfl
theorem want_no {π : mS} {κ : kS} {p : Nat} {z : Int} (hz : 0 ≤ z) (h : ¬ 0 ≤ (κ.1 p).1 ∨ ¬ (2 ≤ mOp π p ∧ mOp π p ≤ 7)) : (if 0 ≤ (κ.1 p).1 then (if z < locOp (mOp π p) (mA π p) then locOp (mOp π p) (mA π p) else z) else z) = z := by
  by_cases c : 0 ≤ (κ.1 p).1
  · rw [if_pos c]
    have e : locOp (mOp π p) (mA π p) = 0 := if_pos (by omega)
    rw [e, if_neg (by omega)]
  · rw [if_neg c]
theorem want_yes {π : mS} {κ : kS} {p : Nat} {z l : Int} (hc : 0 ≤ (κ.1 p).1) (h : 2 ≤ mOp π p ∧ mOp π p ≤ 7) (hl : l = mA π p + (if mOp π p = 4 ∨ mOp π p = 5 then 2 else 1)) : (if 0 ≤ (κ.1 p).1 then (if z < locOp (mOp π p) (mA π p) then locOp (mOp π p) (mA π p) else z) else z) = if z < l then l else z := by
  have e : locOp (mOp π p) (mA π p) = l := by
    unfold locOp; rw [if_neg (by omega), hl]
  rw [if_pos hc, e]
theorem slot_no {φ : fS} {k : Int} (h : φ.1 < 0 ∨ 8 + φ.1 ≤ k) : slotF φ k = -1 := if_pos (by omega)
theorem slot_lo {φ : fS} {k : Nat} (h0 : 0 ≤ φ.1) (h : k < 8) : slotF φ (k : Int) = φ.2.1 k := (if_neg (by omega)).trans (if_pos (by omega))
theorem slot_hi {φ : fS} {k : Nat} (h0 : 0 ≤ φ.1) (h : ¬ k < 8) (h2 : (k : Int) < 8 + φ.1) : slotF φ (k : Int) = φ.2.2 (k - 8) := by
  refine (if_neg (by omega)).trans ((if_neg (by omega)).trans ?_)
  rw [show ((k : Nat) : Int) - 8 = ((k - 8 : Nat) : Int) by omega]; rfl
theorem tX9_wanted {E : w_E} {G : w_Sh} {I : w_Mm} {y i : Nat} {π : mS} {κ : kS} (hY : isY G y) (hi : i < 6) (hM : yM I y i π) (hK : yK I y i κ) (hops : ∀ p, p < mN π → 2 ≤ mOp π p ∧ mOp π p ≤ 7 → 0 ≤ mA π p ∧ mA π p < 8) : w_Ct E mX9_wanted 1 [.ref y, iv (i : Int)] G I 0 0 (w_Pi (fun r G' I' => r = (wantL π κ (mN π) 0 (mNA π : Int)) ∧ G' = G ∧ I' = I)) := by
  obtain ⟨hTy, hYr⟩ := hY
  have hM0 := hM
  obtain ⟨hm3, hm4, hm4b, hm5, hm6, hm6b, hm7, hm10, hm10b, hm11⟩ := hM
  refine w_Ct.of (ls := [some (.ref y), some (iv (i : Int)), none, none, none, none]) (by decide +kernel) (Nat.le_of_ble_eq_true rfl) rfl rfl (fun rng => ?_)
  refine v_aload_n dX9_wanted_0 rfl ?_
  refine v_getR fX9_24 rfl hTy (hYr 3 _ rfl).2 dX9_wanted_1 ?_
  refine v_iload_n dX9_wanted_4 rfl ?_
  refine v_iald' (i := i) (v := ((mNA π : Nat) : Int)) hm4 (show G.1 (y + 4) = (10, 6) from (hYr 3 _ rfl).1) rfl (by omega) (by omega) dX9_wanted_5 ?_
  refine v_istore_n dX9_wanted_6 (by decide) rfl ?_
  refine v_iconst dX9_wanted_7 ?_
  refine v_istore_n dX9_wanted_8 (by decide) rfl ?_
  have loop : ∀ (mm j : Nat) (zz : Int) (o4 o5 : Option Value), j + mm = mN π → 0 ≤ zz → zz ≤ 9 → ∀ T, T = wantL π κ mm j zz → w_V E mX9_wanted (w_rm 1 0 0) (w_Z E 0 0 (w_Pi (fun r G' I' => r = T ∧ G' = G ∧ I' = I))) G I 0 0 9 [some (.ref y), some (iv (i : Int)), some (iv zz), some (iv (j : Int)), o4, o5] [] := by
    intro mm
    induction mm with
    | zero =>
      intro j zz o4 o5 hj h0 h9 T hT
      refine v_iload_n dX9_wanted_9 rfl ?_
      refine v_aload_n dX9_wanted_10 rfl ?_
      refine v_getR fX9_30 rfl hTy (hYr 5 _ rfl).2 dX9_wanted_11 ?_
      refine v_iload_n dX9_wanted_14 rfl ?_
      refine v_iald' (i := i) (v := ((mN π : Nat) : Int)) hm6 (show G.1 (y + 6) = (10, 6) from (hYr 5 _ rfl).1) rfl (by omega) (by omega) dX9_wanted_15 ?_
      refine v_icmp_ge ⟨by omega, by omega⟩ ⟨by omega, by omega⟩ dX9_wanted_16 (fun hb16 => ?_) (fun h => by exfalso; omega)
      refine v_iload_n dX9_wanted_109 rfl ?_
      exact v_iret rfl (by decide) (by decide) ⟨by omega, by omega⟩ dX9_wanted_110 ⟨hT.symm, rfl, rfl⟩
    | succ mm ih =>
      intro j zz o4 o5 hj h0 h9 T hT
      rw [wantL_s] at hT
      have hF := hK.1 j (by omega)
      obtain ⟨p7, p8, p9⟩ := hm7 j (by omega)
      have hoj := hops j (by omega)
      have hor : inR (mOp π j) := by rw [← p7]; exact rng _ _
      by_cases hc : 0 ≤ (κ.1 j).1
      · refine v_iload_n dX9_wanted_9 rfl ?_
        refine v_aload_n dX9_wanted_10 rfl ?_
        refine v_getR fX9_30 rfl hTy (hYr 5 _ rfl).2 dX9_wanted_11 ?_
        refine v_iload_n dX9_wanted_14 rfl ?_
        refine v_iald' (i := i) (v := ((mN π : Nat) : Int)) hm6 (show G.1 (y + 6) = (10, 6) from (hYr 5 _ rfl).1) rfl (by omega) (by omega) dX9_wanted_15 ?_
        refine v_icmp_ge ⟨by omega, by omega⟩ ⟨by omega, by omega⟩ dX9_wanted_16 (fun h => by exfalso; omega) (fun hb16 => ?_)
        refine v_bipush dX9_wanted_19 (by decide) ?_
        refine v_iload_n dX9_wanted_21 rfl ?_
        refine v_imul dX9_wanted_22 ?_
        refine v_iload_n dX9_wanted_23 rfl ?_
        refine v_iadd dX9_wanted_24 ?_
        refine v_istore dX9_wanted_25 (by decide) rfl ?_
        refine v_aload_n dX9_wanted_27 rfl ?_
        refine v_getR fX9_72 rfl hTy (hYr 19 _ rfl).2 dX9_wanted_28 ?_
        refine v_iload dX9_wanted_31 rfl ?_
        refine v_zald' (i := ((40 * i) + j)) (v := 1) (hF.1.trans (if_pos hc)) (show G.1 (y + 20) = (11, 240) from (hYr 19 _ rfl).1) (by omega) (by omega) (by omega) dX9_wanted_33 ?_
        refine v_if_eq ⟨by decide, by decide⟩ dX9_wanted_34 (fun h => by exfalso; omega) (fun hb34 => ?_)
        refine v_aload_n dX9_wanted_37 rfl ?_
        refine v_getR fX9_33 rfl hTy (hYr 6 _ rfl).2 dX9_wanted_38 ?_
        refine v_iload dX9_wanted_41 rfl ?_
        refine v_iald' (i := ((40 * i) + j)) (v := mOp π j) p7 (show G.1 (y + 7) = (10, 240) from (hYr 6 _ rfl).1) (by omega) (by omega) (by omega) dX9_wanted_43 ?_
        refine v_iconst dX9_wanted_44 ?_
        refine v_bipush dX9_wanted_45 (by decide) ?_
        refine v_Sb (tX9_in hor ⟨by decide, by decide⟩ ⟨by decide, by decide⟩) kX9_99 rfl rfl ⟨by decide, by decide⟩ ⟨by decide, by decide⟩ (Nat.le_of_ble_eq_true rfl) dX9_wanted_47 (fun h1 => ?_) (fun h1 => ?_)
        · refine v_if_eq ⟨by decide, by decide⟩ dX9_wanted_50 (fun h => by exfalso; omega) (fun hb50 => ?_)
          refine v_aload_n dX9_wanted_53 rfl ?_
          refine v_getR fX9_36 rfl hTy (hYr 7 _ rfl).2 dX9_wanted_54 ?_
          refine v_iload dX9_wanted_57 rfl ?_
          refine v_iald' (i := ((40 * i) + j)) (v := mA π j) p8 (show G.1 (y + 8) = (10, 240) from (hYr 7 _ rfl).1) (by omega) (by omega) (by omega) dX9_wanted_59 ?_
          refine v_aload_n dX9_wanted_60 rfl ?_
          refine v_getR fX9_33 rfl hTy (hYr 6 _ rfl).2 dX9_wanted_61 ?_
          refine v_iload dX9_wanted_64 rfl ?_
          refine v_iald' (i := ((40 * i) + j)) (v := mOp π j) p7 (show G.1 (y + 7) = (10, 240) from (hYr 6 _ rfl).1) (by omega) (by omega) (by omega) dX9_wanted_66 ?_
          refine v_iconst dX9_wanted_67 ?_
          refine v_icmp_eq hor ⟨by decide, by decide⟩ dX9_wanted_68 (fun h2 => ?_) (fun h2 => ?_)
          · refine v_iconst dX9_wanted_82 ?_
            refine v_goto dX9_wanted_83 ?_
            refine v_iadd dX9_wanted_87 ?_
            refine v_istore dX9_wanted_88 (by decide) rfl ?_
            refine v_iload dX9_wanted_90 rfl ?_
            refine v_iload_n dX9_wanted_92 rfl ?_
            refine v_icmp_le ⟨by omega, by omega⟩ ⟨by omega, by omega⟩ dX9_wanted_93 (fun h3 => ?_) (fun h3 => ?_)
            · refine v_iload_n dX9_wanted_101 rfl ?_
              refine v_istore_n dX9_wanted_102 (by decide) rfl ?_
              refine v_iinc dX9_wanted_103 rfl (by decide) rfl rfl ?_
              refine v_goto dX9_wanted_106 ?_
              exact ih (j + 1) zz _ _ (by omega) (by omega) (by omega) T (hT.trans (by rw [want_yes (l := (mA π j + 2)) hc h1 (by rw [if_pos (by omega)]), if_neg (by omega)]))
            · refine v_iload dX9_wanted_96 rfl ?_
              refine v_goto dX9_wanted_98 ?_
              refine v_istore_n dX9_wanted_102 (by decide) rfl ?_
              refine v_iinc dX9_wanted_103 rfl (by decide) rfl rfl ?_
              refine v_goto dX9_wanted_106 ?_
              exact ih (j + 1) (mA π j + 2) _ _ (by omega) (by omega) (by omega) T (hT.trans (by rw [want_yes (l := (mA π j + 2)) hc h1 (by rw [if_pos (by omega)]), if_pos (by omega)]))
          · refine v_aload_n dX9_wanted_71 rfl ?_
            refine v_getR fX9_33 rfl hTy (hYr 6 _ rfl).2 dX9_wanted_72 ?_
            refine v_iload dX9_wanted_75 rfl ?_
            refine v_iald' (i := ((40 * i) + j)) (v := mOp π j) p7 (show G.1 (y + 7) = (10, 240) from (hYr 6 _ rfl).1) (by omega) (by omega) (by omega) dX9_wanted_77 ?_
            refine v_iconst dX9_wanted_78 ?_
            refine v_icmp_ne hor ⟨by decide, by decide⟩ dX9_wanted_79 (fun h4 => ?_) (fun h4 => ?_)
            · refine v_iconst dX9_wanted_86 ?_
              refine v_iadd dX9_wanted_87 ?_
              refine v_istore dX9_wanted_88 (by decide) rfl ?_
              refine v_iload dX9_wanted_90 rfl ?_
              refine v_iload_n dX9_wanted_92 rfl ?_
              refine v_icmp_le ⟨by omega, by omega⟩ ⟨by omega, by omega⟩ dX9_wanted_93 (fun h5 => ?_) (fun h5 => ?_)
              · refine v_iload_n dX9_wanted_101 rfl ?_
                refine v_istore_n dX9_wanted_102 (by decide) rfl ?_
                refine v_iinc dX9_wanted_103 rfl (by decide) rfl rfl ?_
                refine v_goto dX9_wanted_106 ?_
                exact ih (j + 1) zz _ _ (by omega) (by omega) (by omega) T (hT.trans (by rw [want_yes (l := (mA π j + 1)) hc h1 (by rw [if_neg (by omega)]), if_neg (by omega)]))
              · refine v_iload dX9_wanted_96 rfl ?_
                refine v_goto dX9_wanted_98 ?_
                refine v_istore_n dX9_wanted_102 (by decide) rfl ?_
                refine v_iinc dX9_wanted_103 rfl (by decide) rfl rfl ?_
                refine v_goto dX9_wanted_106 ?_
                exact ih (j + 1) (mA π j + 1) _ _ (by omega) (by omega) (by omega) T (hT.trans (by rw [want_yes (l := (mA π j + 1)) hc h1 (by rw [if_neg (by omega)]), if_pos (by omega)]))
            · refine v_iconst dX9_wanted_82 ?_
              refine v_goto dX9_wanted_83 ?_
              refine v_iadd dX9_wanted_87 ?_
              refine v_istore dX9_wanted_88 (by decide) rfl ?_
              refine v_iload dX9_wanted_90 rfl ?_
              refine v_iload_n dX9_wanted_92 rfl ?_
              refine v_icmp_le ⟨by omega, by omega⟩ ⟨by omega, by omega⟩ dX9_wanted_93 (fun h6 => ?_) (fun h6 => ?_)
              · refine v_iload_n dX9_wanted_101 rfl ?_
                refine v_istore_n dX9_wanted_102 (by decide) rfl ?_
                refine v_iinc dX9_wanted_103 rfl (by decide) rfl rfl ?_
                refine v_goto dX9_wanted_106 ?_
                exact ih (j + 1) zz _ _ (by omega) (by omega) (by omega) T (hT.trans (by rw [want_yes (l := (mA π j + 2)) hc h1 (by rw [if_pos (by omega)]), if_neg (by omega)]))
              · refine v_iload dX9_wanted_96 rfl ?_
                refine v_goto dX9_wanted_98 ?_
                refine v_istore_n dX9_wanted_102 (by decide) rfl ?_
                refine v_iinc dX9_wanted_103 rfl (by decide) rfl rfl ?_
                refine v_goto dX9_wanted_106 ?_
                exact ih (j + 1) (mA π j + 2) _ _ (by omega) (by omega) (by omega) T (hT.trans (by rw [want_yes (l := (mA π j + 2)) hc h1 (by rw [if_pos (by omega)]), if_pos (by omega)]))
        · refine v_if_eq ⟨by decide, by decide⟩ dX9_wanted_50 (fun hb50 => ?_) (fun h => by exfalso; omega)
          refine v_iinc dX9_wanted_103 rfl (by decide) rfl rfl ?_
          refine v_goto dX9_wanted_106 ?_
          exact ih (j + 1) zz _ _ (by omega) h0 h9 T (hT.trans (by rw [want_no h0 (Or.inr h1)]))
      · refine v_iload_n dX9_wanted_9 rfl ?_
        refine v_aload_n dX9_wanted_10 rfl ?_
        refine v_getR fX9_30 rfl hTy (hYr 5 _ rfl).2 dX9_wanted_11 ?_
        refine v_iload_n dX9_wanted_14 rfl ?_
        refine v_iald' (i := i) (v := ((mN π : Nat) : Int)) hm6 (show G.1 (y + 6) = (10, 6) from (hYr 5 _ rfl).1) rfl (by omega) (by omega) dX9_wanted_15 ?_
        refine v_icmp_ge ⟨by omega, by omega⟩ ⟨by omega, by omega⟩ dX9_wanted_16 (fun h => by exfalso; omega) (fun hb16 => ?_)
        refine v_bipush dX9_wanted_19 (by decide) ?_
        refine v_iload_n dX9_wanted_21 rfl ?_
        refine v_imul dX9_wanted_22 ?_
        refine v_iload_n dX9_wanted_23 rfl ?_
        refine v_iadd dX9_wanted_24 ?_
        refine v_istore dX9_wanted_25 (by decide) rfl ?_
        refine v_aload_n dX9_wanted_27 rfl ?_
        refine v_getR fX9_72 rfl hTy (hYr 19 _ rfl).2 dX9_wanted_28 ?_
        refine v_iload dX9_wanted_31 rfl ?_
        refine v_zald' (i := ((40 * i) + j)) (v := 0) (hF.1.trans (if_neg hc)) (show G.1 (y + 20) = (11, 240) from (hYr 19 _ rfl).1) (by omega) (by omega) (by omega) dX9_wanted_33 ?_
        refine v_if_eq ⟨by decide, by decide⟩ dX9_wanted_34 (fun hb34 => ?_) (fun h => by exfalso; omega)
        refine v_iinc dX9_wanted_103 rfl (by decide) rfl rfl ?_
        refine v_goto dX9_wanted_106 ?_
        exact ih (j + 1) zz _ _ (by omega) h0 h9 T (hT.trans (by rw [want_no h0 (Or.inl hc)]))
  exact loop (mN π) 0 _ _ _ (by omega) (by omega) (by omega) _ rfl
theorem tX9_isTold {E : w_E} {G : w_Sh} {I : w_Mm} {y i : Nat} {π : mS} {κ : kS} (hY : isY G y) (hi : i < 6) (hM : yM I y i π) (hK : yK I y i κ) (hgt : gtOK π) {t : Nat} (ht : t < 40) : w_Cb E mX9_isTold 1 [.ref y, iv (i : Int), iv (t : Int)] G I (toldB π κ t = true) := by
  obtain ⟨hTy, hYr⟩ := hY
  have hM0 := hM
  obtain ⟨hm3, hm4, hm4b, hm5, hm6, hm6b, hm7, hm10, hm10b, hm11⟩ := hM
  refine w_Ct.of (ls := [some (.ref y), some (iv (i : Int)), some (iv (t : Int)), none, none, none, none]) (by decide +kernel) (Nat.le_of_ble_eq_true rfl) rfl rfl (fun rng => ?_)
  refine v_iconst dX9_isTold_0 ?_
  refine v_istore_n dX9_isTold_1 (by decide) rfl ?_
  refine v_iconst dX9_isTold_2 ?_
  refine v_istore dX9_isTold_3 (by decide) rfl ?_
  have outer : ∀ (mm j : Nat) (b : Int) (o5 o6 : Option Value), j + mm = mN π → tdP π κ t j b → w_V E mX9_isTold (w_rm 1 0 0) (w_Z E 0 0 (w_Pi (fun r G' I' => G' = G ∧ I' = I ∧ ((r = 1 ∧ (toldB π κ t = true)) ∨ (r = 0 ∧ ¬ (toldB π κ t = true)))))) G I 0 0 5 [some (.ref y), some (iv (i : Int)), some (iv (t : Int)), some (iv b), some (iv (j : Int)), o5, o6] [] := by
    intro mm
    induction mm with
    | zero =>
      intro j b o5 o6 hj hb
      obtain rfl : j = mN π := by omega
      rcases hb with ⟨rfl, hb⟩ | ⟨rfl, hb⟩
      · refine v_iload dX9_isTold_5 rfl ?_
        refine v_aload_n dX9_isTold_7 rfl ?_
        refine v_getR fX9_30 rfl hTy (hYr 5 _ rfl).2 dX9_isTold_8 ?_
        refine v_iload_n dX9_isTold_11 rfl ?_
        refine v_iald' (i := i) (v := ((mN π : Nat) : Int)) hm6 (show G.1 (y + 6) = (10, 6) from (hYr 5 _ rfl).1) rfl (by omega) (by omega) dX9_isTold_12 ?_
        refine v_icmp_ge ⟨by omega, by omega⟩ ⟨by omega, by omega⟩ dX9_isTold_13 (fun hb13 => ?_) (fun h => by exfalso; omega)
        refine v_iload_n dX9_isTold_162 rfl ?_
        exact v_zret rfl (by decide) (by decide) (Or.inr rfl) dX9_isTold_163 ⟨rfl, rfl, Or.inl ⟨rfl, toldB_iff.mpr hb⟩⟩
      · refine v_iload dX9_isTold_5 rfl ?_
        refine v_aload_n dX9_isTold_7 rfl ?_
        refine v_getR fX9_30 rfl hTy (hYr 5 _ rfl).2 dX9_isTold_8 ?_
        refine v_iload_n dX9_isTold_11 rfl ?_
        refine v_iald' (i := i) (v := ((mN π : Nat) : Int)) hm6 (show G.1 (y + 6) = (10, 6) from (hYr 5 _ rfl).1) rfl (by omega) (by omega) dX9_isTold_12 ?_
        refine v_icmp_ge ⟨by omega, by omega⟩ ⟨by omega, by omega⟩ dX9_isTold_13 (fun hb13 => ?_) (fun h => by exfalso; omega)
        refine v_iload_n dX9_isTold_162 rfl ?_
        exact v_zret rfl (by decide) (by decide) (Or.inl rfl) dX9_isTold_163 ⟨rfl, rfl, Or.inr ⟨rfl, fun q => hb (toldB_iff.mp q)⟩⟩
    | succ mm ih =>
      intro j b o5 o6 hj hb
      have hF := hK.1 j (by omega)
      obtain ⟨p7, p8, p9⟩ := hm7 j (by omega)
      have hor : inR (mOp π j) := by rw [← p7]; exact rng _ _
      have hb01 := hb.r
      have ef : (40 * ((i : Nat) : Int) + ((j : Nat) : Int)) = ((40 * i + j : Nat) : Int) := by omega
      obtain ⟨f, hf⟩ : ∃ f, f = 40 * i + j := ⟨_, rfl⟩
      rw [← hf] at hF p7 p8 p9 ef
      have inner : ∀ (qq g : Nat) (c : Int), g + qq = mNG π → tiP π κ t j g c → w_V E mX9_isTold (w_rm 1 0 0) (w_Z E 0 0 (w_Pi (fun r G' I' => G' = G ∧ I' = I ∧ ((r = 1 ∧ (toldB π κ t = true)) ∨ (r = 0 ∧ ¬ (toldB π κ t = true)))))) G I 0 0 79 [some (.ref y), some (iv (i : Int)), some (iv (t : Int)), some (iv c), some (iv (j : Int)), some (iv (f : Int)), some (iv ((6 * i + g : Nat) : Int))] [] := by
        intro qq
        induction qq with
        | zero =>
          intro g c hg hcc
          obtain rfl : g = mNG π := by omega
          have hc01 := hcc.r
          refine v_iload dX9_isTold_79 rfl ?_
          refine v_bipush dX9_isTold_81 (by decide) ?_
          refine v_iload_n dX9_isTold_83 rfl ?_
          refine v_imul dX9_isTold_84 ?_
          refine v_aload_n dX9_isTold_85 rfl ?_
          refine v_getR fX9_42 rfl hTy (hYr 9 _ rfl).2 dX9_isTold_86 ?_
          refine v_iload_n dX9_isTold_89 rfl ?_
          refine v_iald' (i := i) (v := ((mNG π : Nat) : Int)) hm10 (show G.1 (y + 10) = (10, 6) from (hYr 9 _ rfl).1) rfl (by omega) (by omega) dX9_isTold_90 ?_
          refine v_iadd dX9_isTold_91 ?_
          refine v_icmp_ge ⟨by omega, by omega⟩ ⟨by omega, by omega⟩ dX9_isTold_92 (fun hb92 => ?_) (fun h => by exfalso; omega)
          refine v_iinc dX9_isTold_156 rfl (by decide) rfl rfl ?_
          refine v_goto dX9_isTold_159 ?_
          exact ih (j + 1) c _ _ (by omega) hcc.e
        | succ qq ih2 =>
          intro g c hg hcc
          have hc01 := hcc.r
          obtain ⟨r11, r12, r13, r14⟩ := hm11 g (by omega)
          have hgt1 := hgt g (by omega)
          have hhr : inR (mGh π g) := by rw [← r13]; exact rng _ _
          by_cases hc : 0 ≤ (κ.1 j).1
          · refine v_iload dX9_isTold_79 rfl ?_
            refine v_bipush dX9_isTold_81 (by decide) ?_
            refine v_iload_n dX9_isTold_83 rfl ?_
            refine v_imul dX9_isTold_84 ?_
            refine v_aload_n dX9_isTold_85 rfl ?_
            refine v_getR fX9_42 rfl hTy (hYr 9 _ rfl).2 dX9_isTold_86 ?_
            refine v_iload_n dX9_isTold_89 rfl ?_
            refine v_iald' (i := i) (v := ((mNG π : Nat) : Int)) hm10 (show G.1 (y + 10) = (10, 6) from (hYr 9 _ rfl).1) rfl (by omega) (by omega) dX9_isTold_90 ?_
            refine v_iadd dX9_isTold_91 ?_
            refine v_icmp_ge ⟨by omega, by omega⟩ ⟨by omega, by omega⟩ dX9_isTold_92 (fun h => by exfalso; omega) (fun hb92 => ?_)
            refine v_iload_n dX9_isTold_95 rfl ?_
            refine v_if_ne ⟨by omega, by omega⟩ dX9_isTold_96 (fun h1 => ?_) (fun h1 => ?_)
            · refine v_iconst dX9_isTold_144 ?_
              refine v_goto dX9_isTold_145 ?_
              refine v_istore_n dX9_isTold_149 (by decide) rfl ?_
              refine v_iinc dX9_isTold_150 rfl (by decide) rfl rfl ?_
              refine v_goto dX9_isTold_153 ?_
              exact ih2 (g + 1) 1 (by omega) (hcc.s (Or.inl ⟨rfl, Or.inl h1⟩))
            · refine v_aload_n dX9_isTold_99 rfl ?_
              refine v_getR fX9_72 rfl hTy (hYr 19 _ rfl).2 dX9_isTold_100 ?_
              refine v_iload dX9_isTold_103 rfl ?_
              refine v_zald' (i := f) (v := 1) (hF.1.trans (if_pos hc)) (show G.1 (y + 20) = (11, 240) from (hYr 19 _ rfl).1) rfl (by omega) (by omega) dX9_isTold_105 ?_
              refine v_if_eq ⟨by decide, by decide⟩ dX9_isTold_106 (fun h => by exfalso; omega) (fun hb106 => ?_)
              refine v_iload dX9_isTold_109 rfl ?_
              refine v_aload_n dX9_isTold_111 rfl ?_
              refine v_getR fX9_45 rfl hTy (hYr 10 _ rfl).2 dX9_isTold_112 ?_
              refine v_iload dX9_isTold_115 rfl ?_
              refine v_iald' (i := (6 * i + g)) (v := mGf π g) r11 (show G.1 (y + 11) = (10, 36) from (hYr 10 _ rfl).1) (by omega) (by omega) (by omega) dX9_isTold_117 ?_
              refine v_aload_n dX9_isTold_118 rfl ?_
              refine v_getR fX9_48 rfl hTy (hYr 11 _ rfl).2 dX9_isTold_119 ?_
              refine v_iload dX9_isTold_122 rfl ?_
              refine v_iald' (i := (6 * i + g)) (v := mGt π g) r12 (show G.1 (y + 12) = (10, 36) from (hYr 11 _ rfl).1) (by omega) (by omega) (by omega) dX9_isTold_124 ?_
              refine v_iconst dX9_isTold_125 ?_
              refine v_isub dX9_isTold_126 ?_
              refine v_Sb (tX9_in ⟨by omega, by omega⟩ ⟨by omega, by omega⟩ ⟨by omega, by omega⟩) kX9_99 rfl rfl ⟨by decide, by decide⟩ ⟨by decide, by decide⟩ (Nat.le_of_ble_eq_true rfl) dX9_isTold_127 (fun h2 => ?_) (fun h2 => ?_)
              · refine v_if_eq ⟨by decide, by decide⟩ dX9_isTold_130 (fun h => by exfalso; omega) (fun hb130 => ?_)
                refine v_aload_n dX9_isTold_133 rfl ?_
                refine v_getR fX9_51 rfl hTy (hYr 12 _ rfl).2 dX9_isTold_134 ?_
                refine v_iload dX9_isTold_137 rfl ?_
                refine v_iald' (i := (6 * i + g)) (v := mGh π g) r13 (show G.1 (y + 13) = (10, 36) from (hYr 12 _ rfl).1) (by omega) (by omega) (by omega) dX9_isTold_139 ?_
                refine v_iload_n dX9_isTold_140 rfl ?_
                refine v_icmp_ne hhr ⟨by omega, by omega⟩ dX9_isTold_141 (fun h3 => ?_) (fun h3 => ?_)
                · refine v_iconst dX9_isTold_148 ?_
                  refine v_istore_n dX9_isTold_149 (by decide) rfl ?_
                  refine v_iinc dX9_isTold_150 rfl (by decide) rfl rfl ?_
                  refine v_goto dX9_isTold_153 ?_
                  exact ih2 (g + 1) 0 (by omega) (hcc.s (Or.inr ⟨rfl, by omega, fun q => by have q1 := q.2.1.1; have q2 := q.2.1.2; have q3 := q.2.2; omega⟩))
                · refine v_iconst dX9_isTold_144 ?_
                  refine v_goto dX9_isTold_145 ?_
                  refine v_istore_n dX9_isTold_149 (by decide) rfl ?_
                  refine v_iinc dX9_isTold_150 rfl (by decide) rfl rfl ?_
                  refine v_goto dX9_isTold_153 ?_
                  exact ih2 (g + 1) 1 (by omega) (hcc.s (Or.inl ⟨rfl, Or.inr ⟨hc, ⟨by omega, by omega⟩, by omega⟩⟩))
              · refine v_if_eq ⟨by decide, by decide⟩ dX9_isTold_130 (fun hb130 => ?_) (fun h => by exfalso; omega)
                refine v_iconst dX9_isTold_148 ?_
                refine v_istore_n dX9_isTold_149 (by decide) rfl ?_
                refine v_iinc dX9_isTold_150 rfl (by decide) rfl rfl ?_
                refine v_goto dX9_isTold_153 ?_
                exact ih2 (g + 1) 0 (by omega) (hcc.s (Or.inr ⟨rfl, by omega, fun q => by have q1 := q.2.1.1; have q2 := q.2.1.2; have q3 := q.2.2; omega⟩))
          · refine v_iload dX9_isTold_79 rfl ?_
            refine v_bipush dX9_isTold_81 (by decide) ?_
            refine v_iload_n dX9_isTold_83 rfl ?_
            refine v_imul dX9_isTold_84 ?_
            refine v_aload_n dX9_isTold_85 rfl ?_
            refine v_getR fX9_42 rfl hTy (hYr 9 _ rfl).2 dX9_isTold_86 ?_
            refine v_iload_n dX9_isTold_89 rfl ?_
            refine v_iald' (i := i) (v := ((mNG π : Nat) : Int)) hm10 (show G.1 (y + 10) = (10, 6) from (hYr 9 _ rfl).1) rfl (by omega) (by omega) dX9_isTold_90 ?_
            refine v_iadd dX9_isTold_91 ?_
            refine v_icmp_ge ⟨by omega, by omega⟩ ⟨by omega, by omega⟩ dX9_isTold_92 (fun h => by exfalso; omega) (fun hb92 => ?_)
            refine v_iload_n dX9_isTold_95 rfl ?_
            refine v_if_ne ⟨by omega, by omega⟩ dX9_isTold_96 (fun h1 => ?_) (fun h1 => ?_)
            · refine v_iconst dX9_isTold_144 ?_
              refine v_goto dX9_isTold_145 ?_
              refine v_istore_n dX9_isTold_149 (by decide) rfl ?_
              refine v_iinc dX9_isTold_150 rfl (by decide) rfl rfl ?_
              refine v_goto dX9_isTold_153 ?_
              exact ih2 (g + 1) 1 (by omega) (hcc.s (Or.inl ⟨rfl, Or.inl h1⟩))
            · refine v_aload_n dX9_isTold_99 rfl ?_
              refine v_getR fX9_72 rfl hTy (hYr 19 _ rfl).2 dX9_isTold_100 ?_
              refine v_iload dX9_isTold_103 rfl ?_
              refine v_zald' (i := f) (v := 0) (hF.1.trans (if_neg hc)) (show G.1 (y + 20) = (11, 240) from (hYr 19 _ rfl).1) rfl (by omega) (by omega) dX9_isTold_105 ?_
              refine v_if_eq ⟨by decide, by decide⟩ dX9_isTold_106 (fun hb106 => ?_) (fun h => by exfalso; omega)
              refine v_iconst dX9_isTold_148 ?_
              refine v_istore_n dX9_isTold_149 (by decide) rfl ?_
              refine v_iinc dX9_isTold_150 rfl (by decide) rfl rfl ?_
              refine v_goto dX9_isTold_153 ?_
              exact ih2 (g + 1) 0 (by omega) (hcc.s (Or.inr ⟨rfl, by omega, fun q => absurd q.1 hc⟩))
      by_cases hc : 0 ≤ (κ.1 j).1
      · refine v_iload dX9_isTold_5 rfl ?_
        refine v_aload_n dX9_isTold_7 rfl ?_
        refine v_getR fX9_30 rfl hTy (hYr 5 _ rfl).2 dX9_isTold_8 ?_
        refine v_iload_n dX9_isTold_11 rfl ?_
        refine v_iald' (i := i) (v := ((mN π : Nat) : Int)) hm6 (show G.1 (y + 6) = (10, 6) from (hYr 5 _ rfl).1) rfl (by omega) (by omega) dX9_isTold_12 ?_
        refine v_icmp_ge ⟨by omega, by omega⟩ ⟨by omega, by omega⟩ dX9_isTold_13 (fun h => by exfalso; omega) (fun hb13 => ?_)
        refine v_bipush dX9_isTold_16 (by decide) ?_
        refine v_iload_n dX9_isTold_18 rfl ?_
        refine v_imul dX9_isTold_19 ?_
        refine v_iload dX9_isTold_20 rfl ?_
        refine v_iadd dX9_isTold_22 ?_
        refine v_istore dX9_isTold_23 (by decide) rfl ?_
        rw [ef]
        refine v_iload_n dX9_isTold_25 rfl ?_
        refine v_if_ne ⟨by omega, by omega⟩ dX9_isTold_26 (fun h1 => ?_) (fun h1 => ?_)
        · refine v_iconst dX9_isTold_67 ?_
          refine v_goto dX9_isTold_68 ?_
          refine v_istore_n dX9_isTold_72 (by decide) rfl ?_
          refine v_bipush dX9_isTold_73 (by decide) ?_
          refine v_iload_n dX9_isTold_75 rfl ?_
          refine v_imul dX9_isTold_76 ?_
          refine v_istore dX9_isTold_77 (by decide) rfl ?_
          rw [show (6 * ((i : Nat) : Int)) = ((6 * i + 0 : Nat) : Int) by omega]
          exact inner (mNG π) 0 1 (by omega) (tiP.b hb (Or.inl ⟨rfl, Or.inl h1⟩))
        · refine v_aload_n dX9_isTold_29 rfl ?_
          refine v_getR fX9_72 rfl hTy (hYr 19 _ rfl).2 dX9_isTold_30 ?_
          refine v_iload dX9_isTold_33 rfl ?_
          refine v_zald' (i := f) (v := 1) (hF.1.trans (if_pos hc)) (show G.1 (y + 20) = (11, 240) from (hYr 19 _ rfl).1) rfl (by omega) (by omega) dX9_isTold_35 ?_
          refine v_if_eq ⟨by decide, by decide⟩ dX9_isTold_36 (fun h => by exfalso; omega) (fun hb36 => ?_)
          refine v_aload_n dX9_isTold_39 rfl ?_
          refine v_getR fX9_33 rfl hTy (hYr 6 _ rfl).2 dX9_isTold_40 ?_
          refine v_iload dX9_isTold_43 rfl ?_
          refine v_iald' (i := f) (v := mOp π j) p7 (show G.1 (y + 7) = (10, 240) from (hYr 6 _ rfl).1) rfl (by omega) (by omega) dX9_isTold_45 ?_
          refine v_bipush dX9_isTold_46 (by decide) ?_
          refine v_bipush dX9_isTold_48 (by decide) ?_
          refine v_Sb (tX9_in hor ⟨by decide, by decide⟩ ⟨by decide, by decide⟩) kX9_99 rfl rfl ⟨by decide, by decide⟩ ⟨by decide, by decide⟩ (Nat.le_of_ble_eq_true rfl) dX9_isTold_50 (fun h2 => ?_) (fun h2 => ?_)
          · refine v_if_eq ⟨by decide, by decide⟩ dX9_isTold_53 (fun h => by exfalso; omega) (fun hb53 => ?_)
            refine v_aload_n dX9_isTold_56 rfl ?_
            refine v_getR fX9_36 rfl hTy (hYr 7 _ rfl).2 dX9_isTold_57 ?_
            refine v_iload dX9_isTold_60 rfl ?_
            refine v_iald' (i := f) (v := mA π j) p8 (show G.1 (y + 8) = (10, 240) from (hYr 7 _ rfl).1) rfl (by omega) (by omega) dX9_isTold_62 ?_
            refine v_iload_n dX9_isTold_63 rfl ?_
            refine v_icmp_ne (by rw [← p8]; exact rng _ _) ⟨by omega, by omega⟩ dX9_isTold_64 (fun h3 => ?_) (fun h3 => ?_)
            · refine v_iconst dX9_isTold_71 ?_
              refine v_istore_n dX9_isTold_72 (by decide) rfl ?_
              refine v_bipush dX9_isTold_73 (by decide) ?_
              refine v_iload_n dX9_isTold_75 rfl ?_
              refine v_imul dX9_isTold_76 ?_
              refine v_istore dX9_isTold_77 (by decide) rfl ?_
              rw [show (6 * ((i : Nat) : Int)) = ((6 * i + 0 : Nat) : Int) by omega]
              exact inner (mNG π) 0 0 (by omega) (tiP.b hb (Or.inr ⟨rfl, by omega, fun q => by have q1 := q.2.1; have q2 := q.2.2; omega⟩))
            · refine v_iconst dX9_isTold_67 ?_
              refine v_goto dX9_isTold_68 ?_
              refine v_istore_n dX9_isTold_72 (by decide) rfl ?_
              refine v_bipush dX9_isTold_73 (by decide) ?_
              refine v_iload_n dX9_isTold_75 rfl ?_
              refine v_imul dX9_isTold_76 ?_
              refine v_istore dX9_isTold_77 (by decide) rfl ?_
              rw [show (6 * ((i : Nat) : Int)) = ((6 * i + 0 : Nat) : Int) by omega]
              exact inner (mNG π) 0 1 (by omega) (tiP.b hb (Or.inl ⟨rfl, Or.inr ⟨hc, by omega, by omega⟩⟩))
          · refine v_if_eq ⟨by decide, by decide⟩ dX9_isTold_53 (fun hb53 => ?_) (fun h => by exfalso; omega)
            refine v_iconst dX9_isTold_71 ?_
            refine v_istore_n dX9_isTold_72 (by decide) rfl ?_
            refine v_bipush dX9_isTold_73 (by decide) ?_
            refine v_iload_n dX9_isTold_75 rfl ?_
            refine v_imul dX9_isTold_76 ?_
            refine v_istore dX9_isTold_77 (by decide) rfl ?_
            rw [show (6 * ((i : Nat) : Int)) = ((6 * i + 0 : Nat) : Int) by omega]
            exact inner (mNG π) 0 0 (by omega) (tiP.b hb (Or.inr ⟨rfl, by omega, fun q => by have q1 := q.2.1; have q2 := q.2.2; omega⟩))
      · refine v_iload dX9_isTold_5 rfl ?_
        refine v_aload_n dX9_isTold_7 rfl ?_
        refine v_getR fX9_30 rfl hTy (hYr 5 _ rfl).2 dX9_isTold_8 ?_
        refine v_iload_n dX9_isTold_11 rfl ?_
        refine v_iald' (i := i) (v := ((mN π : Nat) : Int)) hm6 (show G.1 (y + 6) = (10, 6) from (hYr 5 _ rfl).1) rfl (by omega) (by omega) dX9_isTold_12 ?_
        refine v_icmp_ge ⟨by omega, by omega⟩ ⟨by omega, by omega⟩ dX9_isTold_13 (fun h => by exfalso; omega) (fun hb13 => ?_)
        refine v_bipush dX9_isTold_16 (by decide) ?_
        refine v_iload_n dX9_isTold_18 rfl ?_
        refine v_imul dX9_isTold_19 ?_
        refine v_iload dX9_isTold_20 rfl ?_
        refine v_iadd dX9_isTold_22 ?_
        refine v_istore dX9_isTold_23 (by decide) rfl ?_
        rw [ef]
        refine v_iload_n dX9_isTold_25 rfl ?_
        refine v_if_ne ⟨by omega, by omega⟩ dX9_isTold_26 (fun h1 => ?_) (fun h1 => ?_)
        · refine v_iconst dX9_isTold_67 ?_
          refine v_goto dX9_isTold_68 ?_
          refine v_istore_n dX9_isTold_72 (by decide) rfl ?_
          refine v_bipush dX9_isTold_73 (by decide) ?_
          refine v_iload_n dX9_isTold_75 rfl ?_
          refine v_imul dX9_isTold_76 ?_
          refine v_istore dX9_isTold_77 (by decide) rfl ?_
          rw [show (6 * ((i : Nat) : Int)) = ((6 * i + 0 : Nat) : Int) by omega]
          exact inner (mNG π) 0 1 (by omega) (tiP.b hb (Or.inl ⟨rfl, Or.inl h1⟩))
        · refine v_aload_n dX9_isTold_29 rfl ?_
          refine v_getR fX9_72 rfl hTy (hYr 19 _ rfl).2 dX9_isTold_30 ?_
          refine v_iload dX9_isTold_33 rfl ?_
          refine v_zald' (i := f) (v := 0) (hF.1.trans (if_neg hc)) (show G.1 (y + 20) = (11, 240) from (hYr 19 _ rfl).1) rfl (by omega) (by omega) dX9_isTold_35 ?_
          refine v_if_eq ⟨by decide, by decide⟩ dX9_isTold_36 (fun hb36 => ?_) (fun h => by exfalso; omega)
          refine v_iconst dX9_isTold_71 ?_
          refine v_istore_n dX9_isTold_72 (by decide) rfl ?_
          refine v_bipush dX9_isTold_73 (by decide) ?_
          refine v_iload_n dX9_isTold_75 rfl ?_
          refine v_imul dX9_isTold_76 ?_
          refine v_istore dX9_isTold_77 (by decide) rfl ?_
          rw [show (6 * ((i : Nat) : Int)) = ((6 * i + 0 : Nat) : Int) by omega]
          exact inner (mNG π) 0 0 (by omega) (tiP.b hb (Or.inr ⟨rfl, by omega, fun q => absurd q.1 hc⟩))
  exact outer (mN π) 0 0 _ _ (by omega) tdP_0
theorem tX9_written {E : w_E} {G : w_Sh} {I : w_Mm} {a b la st : Nat} {L R0 : Nat → Int} (hTa : G.1 a = (10, la)) (hTb : G.1 b = (10, 8)) (hab : a ≠ b) (hla : st + 8 ≤ la) (hl2 : la < 10000) (hL : ∀ k, k < 8 → I a (st + k) = L k) (hR0 : ∀ k, k < 8 → I b k = R0 k) : w_Ct E mX9_written 0 [.ref a, iv (st : Int), .ref b] G I 0 0 (w_Pi (fun r G' J => G' = G ∧ r = ((wrF L 8 0 (0, 0, R0)).2.1 : Int) ∧ (∀ k, k < 8 → J b k = (wrF L 8 0 (0, 0, R0)).2.2 k) ∧ ∀ c k, c ≠ b → J c k = I c k)) := by
  refine w_Ct.of (ls := [some (.ref a), some (iv (st : Int)), some (.ref b), none, none, none]) (by decide +kernel) (Nat.le_of_ble_eq_true rfl) rfl rfl (fun rng => ?_)
  refine v_iconst dX9_written_0 ?_
  refine v_istore_n dX9_written_1 (by decide) rfl ?_
  refine v_iconst dX9_written_2 ?_
  refine v_istore dX9_written_3 (by decide) rfl ?_
  refine v_iconst dX9_written_5 ?_
  refine v_istore dX9_written_6 (by decide) rfl ?_
  have loop : ∀ (mm i : Nat) (s : Nat × Nat × (Nat → Int)) (J : w_Mm), i + mm = 8 → s.1 ≤ i → s.2.1 ≤ s.1 → (∀ k, k < 8 → J b k = s.2.2 k) → (∀ c k, c ≠ b → J c k = I c k) → (∀ a k, inR (J a k)) → ∀ T, T = wrF L mm i s → w_V E mX9_written (w_rm 0 0 0) (w_Z E 0 0 (w_Pi (fun r G' J => G' = G ∧ r = (T.2.1 : Int) ∧ (∀ k, k < 8 → J b k = T.2.2 k) ∧ ∀ c k, c ≠ b → J c k = I c k))) G J 0 0 8 [some (.ref a), some (iv (st : Int)), some (.ref b), some (iv (s.1 : Int)), some (iv (s.2.1 : Int)), some (iv (i : Int))] [] := by
    intro mm
    induction mm with
    | zero =>
      intro i s J hi hs hs2 hJb hO rngJ T hT
      refine v_iload dX9_written_8 rfl ?_
      refine v_bipush dX9_written_10 (by decide) ?_
      refine v_icmp_ge ⟨by omega, by omega⟩ ⟨by decide, by decide⟩ dX9_written_12 (fun hb12 => ?_) (fun h => by exfalso; omega)
      refine v_iload dX9_written_63 rfl ?_
      subst hT
      exact v_iret rfl (by decide) (by decide) ⟨by omega, by omega⟩ dX9_written_65 ⟨rfl, rfl, hJb, hO⟩
    | succ mm ih =>
      intro i s J hi hs hs2 hJb hO rngJ T hT
      rw [wrF_s] at hT
      have hLi : J a (st + i) = L i := (hO a (st + i) hab).trans (hL i (by omega))
      have hLR : inR (L i) := by rw [← hLi]; exact rngJ _ _
      refine v_iload dX9_written_8 rfl ?_
      refine v_bipush dX9_written_10 (by decide) ?_
      refine v_icmp_ge ⟨by omega, by omega⟩ ⟨by decide, by decide⟩ dX9_written_12 (fun h => by exfalso; omega) (fun hb12 => ?_)
      refine v_aload_n dX9_written_15 rfl ?_
      refine v_iload_n dX9_written_16 rfl ?_
      refine v_iload dX9_written_17 rfl ?_
      refine v_iadd dX9_written_19 ?_
      refine v_iald' (i := (st + i)) (v := L i) hLi hTa (by omega) (by omega) (by omega) dX9_written_20 ?_
      refine v_iconst dX9_written_21 ?_
      refine v_icmp_ne hLR ⟨by decide, by decide⟩ dX9_written_22 (fun h1 => ?_) (fun h1 => ?_)
      · refine v_aload_n dX9_written_28 rfl ?_
        refine v_iload_n dX9_written_29 rfl ?_
        refine v_aload_n dX9_written_30 rfl ?_
        refine v_iload_n dX9_written_31 rfl ?_
        refine v_iload dX9_written_32 rfl ?_
        refine v_iadd dX9_written_34 ?_
        refine v_iald' (i := (st + i)) (v := L i) hLi hTa (by omega) (by omega) (by omega) dX9_written_35 ?_
        refine v_iast (i := s.1) hTb (by omega) (by omega) (by omega) hLR dX9_written_36 ?_
        have rng2 := w_rng (a := b) (f := s.1) rngJ (show inR (L i) from hLR)
        refine v_iinc dX9_written_37 rfl (by decide) rfl rfl ?_
        refine v_aload_n dX9_written_40 rfl ?_
        refine v_iload_n dX9_written_41 rfl ?_
        refine v_iload dX9_written_42 rfl ?_
        refine v_iadd dX9_written_44 ?_
        refine v_iald' (i := (st + i)) (v := L i) (by rw [w_up_n (by omega), hLi]) hTa (by omega) (by omega) (by omega) dX9_written_45 ?_
        refine v_if_eq hLR dX9_written_46 (fun h3 => ?_) (fun h3 => ?_)
        · refine v_iload dX9_written_53 rfl ?_
          refine v_istore dX9_written_55 (by decide) rfl ?_
          refine v_iinc dX9_written_57 rfl (by decide) rfl rfl ?_
          refine v_goto dX9_written_60 ?_
          exact ih (i + 1) (s.1 + 1, s.2.1, uL s.2.2 s.1 (L i)) _ (by omega) (show s.1 + 1 ≤ i + 1 by omega) (show s.2.1 ≤ s.1 + 1 by omega) (fun k hk => by
            show w_up J b s.1 (L i) b k = uL s.2.2 s.1 (L i) k
            by_cases e : k = s.1
            · subst e; rw [w_up_s, uL_s]
            · rw [w_up_n (by omega), uL_n e]; exact hJb k hk) (fun c k ha => (w_up_n (by omega)).trans (hO c k ha)) rng2 T (by rw [hT, if_neg h1, if_pos h3])
        · refine v_iload_n dX9_written_49 rfl ?_
          refine v_goto dX9_written_50 ?_
          refine v_istore dX9_written_55 (by decide) rfl ?_
          refine v_iinc dX9_written_57 rfl (by decide) rfl rfl ?_
          refine v_goto dX9_written_60 ?_
          exact ih (i + 1) (s.1 + 1, s.1 + 1, uL s.2.2 s.1 (L i)) _ (by omega) (show s.1 + 1 ≤ i + 1 by omega) (show s.1 + 1 ≤ s.1 + 1 by omega) (fun k hk => by
            show w_up J b s.1 (L i) b k = uL s.2.2 s.1 (L i) k
            by_cases e : k = s.1
            · subst e; rw [w_up_s, uL_s]
            · rw [w_up_n (by omega), uL_n e]; exact hJb k hk) (fun c k ha => (w_up_n (by omega)).trans (hO c k ha)) rng2 T (by rw [hT, if_neg h1, if_neg h3])
      · refine v_goto dX9_written_25 ?_
        refine v_iinc dX9_written_57 rfl (by decide) rfl rfl ?_
        refine v_goto dX9_written_60 ?_
        exact ih (i + 1) s J (by omega) (by omega) hs2 hJb hO rngJ T (by rw [hT, if_pos h1])
  exact loop 8 0 (0, 0, R0) I rfl (Nat.le_refl _) (Nat.le_refl _) hR0 (fun _ _ _ => rfl) rng _ rfl
