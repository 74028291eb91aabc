/-! ===== told places, and the form at one ===== -/
def toldB (π : mS) (κ : kS) (i : Nat) : Bool := (List.range (mN π)).any fun p => decide (0 ≤ (κ.1 p).1) && (decide (jP π p i) || (List.range (mNG π)).any fun g => decide ((mGf π g ≤ (p : Int) ∧ (p : Int) < mGt π g) ∧ mGh π g = (i : Int)))
theorem toldB_iff {π : mS} {κ : kS} {i : Nat} : toldB π κ i = true ↔ toldP π κ (mN π) i := by
  unfold toldB
  simp only [List.any_eq_true, List.mem_range, Bool.and_eq_true, Bool.or_eq_true, decide_eq_true_eq]
def tfF (π : mS) (κ : kS) : Nat → Int := fun i => if toldB π κ i = true then 1 else 0
def oldL (π : mS) (κ : kS) (p : Nat) : Nat → Int := if beforeF (tfF π κ) p = -1 then mBeg π else (κ.1 (beforeF (tfF π κ) p).toNat).2.1
def wr0 (L : Nat → Int) : Nat × Nat × (Nat → Int) := wrF L 8 0 (0, 0, fun _ => 0)
def alikeB (A B : Nat × Nat × (Nat → Int)) : Bool := (List.range (min A.2.1 B.2.1)).all fun k => decide (A.2.2 k = B.2.2 k)
def formX (π : mS) (κ : kS) (p : Nat) : Int := if toldB π κ p = true then (if alikeB (wr0 (oldL π κ p)) (wr0 (κ.1 p).2.1) = true then formO (κ.1 p) (((wr0 (κ.1 p).2.1).2.1 : Int) - ((wr0 (oldL π κ p)).2.1 : Int)) else 8) else -1
theorem wrF_eq (L : Nat → Int) : ∀ (m i n l : Nat) (R R' : Nat → Int), (∀ k, k < n → R k = R' k) → (wrF L m i (n, l, R)).1 = (wrF L m i (n, l, R')).1 ∧ (wrF L m i (n, l, R)).2.1 = (wrF L m i (n, l, R')).2.1 ∧ ∀ k, k < (wrF L m i (n, l, R)).1 → (wrF L m i (n, l, R)).2.2 k = (wrF L m i (n, l, R')).2.2 k
  | 0, i, n, l, R, R', h => ⟨rfl, rfl, h⟩
  | m + 1, i, n, l, R, R', h => by
    unfold wrF
    by_cases e : L i = 3
    · rw [if_pos e, if_pos e]; exact wrF_eq L m (i + 1) n l R R' h
    · rw [if_neg e, if_neg e]
      refine wrF_eq L m (i + 1) (n + 1) _ _ _ (fun k hk => ?_)
      show uL R n (L i) k = uL R' n (L i) k
      by_cases q : k = n
      · subst q; rw [uL_s, uL_s]
      · rw [uL_n q, uL_n q]; exact h k (by omega)
theorem wrF_le (L : Nat → Int) : ∀ (m i : Nat) (s : Nat × Nat × (Nat → Int)), s.2.1 ≤ s.1 → s.1 ≤ i → (wrF L m i s).2.1 ≤ (wrF L m i s).1 ∧ (wrF L m i s).1 ≤ i + m
  | 0, i, s, h, h2 => ⟨h, h2⟩
  | m + 1, i, s, h, h2 => by
    unfold wrF
    by_cases e : L i = 3
    · rw [if_pos e]
      have := wrF_le L m (i + 1) s h (by omega)
      omega
    · rw [if_neg e]
      have := wrF_le L m (i + 1) (s.1 + 1, (if L i = 0 then s.2.1 else s.1 + 1), uL s.2.2 s.1 (L i)) (by show (if L i = 0 then s.2.1 else s.1 + 1) ≤ s.1 + 1; split <;> omega) (show s.1 + 1 ≤ i + 1 by omega)
      omega
theorem wr0_eq (L R : Nat → Int) : (wrF L 8 0 (0, 0, R)).2.1 = (wr0 L).2.1 ∧ ∀ k, k < (wr0 L).2.1 → (wrF L 8 0 (0, 0, R)).2.2 k = (wr0 L).2.2 k := by
  obtain ⟨h1, h2, h3⟩ := wrF_eq L 8 0 0 0 R (fun _ => 0) (fun k hk => absurd hk (Nat.not_lt_zero k))
  have h4 := wrF_le L 8 0 (0, 0, R) (Nat.le_refl _) (Nat.le_refl _)
  exact ⟨h2, fun k hk => h3 k (by have : (wr0 L).2.1 = (wrF L 8 0 (0, 0, R)).2.1 := h2.symm; omega)⟩
theorem wr0_le (L : Nat → Int) : (wr0 L).2.1 ≤ 8 := by
  have := wrF_le L 8 0 (0, 0, fun _ => 0) (Nat.le_refl _) (Nat.le_refl _)
  unfold wr0
  omega
theorem alikeB_iff {A B : Nat × Nat × (Nat → Int)} : alikeB A B = true ↔ ∀ k, k < min A.2.1 B.2.1 → A.2.2 k = B.2.2 k := by
  unfold alikeB
  simp only [List.all_eq_true, List.mem_range, decide_eq_true_eq]
theorem beforeF_spec (tf : Nat → Int) : ∀ j, beforeF tf j = -1 ∨ ∃ b, b < j ∧ beforeF tf j = (b : Int)
  | 0 => Or.inl rfl
  | j + 1 => by
    unfold beforeF
    by_cases e : tf j = 0
    · rw [if_pos e]
      rcases beforeF_spec tf j with h | ⟨b, h1, h2⟩
      · exact Or.inl h
      · exact Or.inr ⟨b, by omega, h2⟩
    · rw [if_neg e]; exact Or.inr ⟨j, by omega, rfl⟩
theorem tX1_markTold {E : w_E} {G : w_Sh} {I : w_Mm} {h m : Nat} {π : mS} {κ : kS} (hH : isH G h) (hM : isM G m) (hπ : metOK I m π) (hκ : wkOK I (m + 9) κ) (hhm : h + 4 ≤ m) : w_Ct E mX1_markTold 1 [.ref h, .ref m] G I 0 0 (w_Pv (fun G' J => G' = G ∧ mkd J h (toldP π κ (mN π)) ∧ ∀ a k, a ≠ h + 1 → J a k = I a k)) := by
  have hH0 := hH
  obtain ⟨hTh, hRh0, hRh1, hRh2, hTh1, hTh2, hTh3⟩ := hH
  have hM0 := hM
  obtain ⟨hTm, hRm1, hRm3, hRm4, hRm5, hRm7, hRm8, hRm9, hRm10, hRm12, hTm1, hTm2, hTm3, hTm4, hTm5, hTm6, hTm7, hTm8, hWk⟩ := hM
  have hπ0 := hπ
  have hκ0 := hκ
  have hpn := hπ.2.2.2.2.2.1
  have hpg := hπ.2.2.2.2.2.2.2.2.1
  refine w_Ct.of (ls := [some (.ref h), some (.ref m), none, none]) (by decide +kernel) (Nat.le_of_ble_eq_true rfl) rfl rfl (fun rng => ?_)
  refine v_iconst dX1_markTold_0 ?_
  refine v_istore_n dX1_markTold_1 (by decide) rfl ?_
  have outer : ∀ (mm j : Nat) (J : w_Mm) (o3 : Option Value), j + mm = mN π → mkd J h (toldP π κ j) → (∀ a k, a ≠ h + 1 → J a k = I a k) → (∀ a k, inR (J a k)) → w_V E mX1_markTold (w_rm 1 0 0) (w_Z E 0 0 (w_Pv (fun G' J => G' = G ∧ mkd J h (toldP π κ (mN π)) ∧ ∀ a k, a ≠ h + 1 → J a k = I a k))) G J 0 0 23 [some (.ref h), some (.ref m), some (iv (j : Int)), o3] [] := by
    intro mm
    induction mm with
    | zero =>
      intro j J o3 hj hmk hO rngJ
      obtain rfl : j = mN π := by omega
      have hπJ := hπ0.off (fun a k h1 h2 => hO a k (by omega))
      have hκJ := hκ0.off (fun a k h1 h2 => hO a k (by omega))
      have hπJ0 := hπJ
      obtain ⟨hp0, hp2, hpA, hpB, hp6, -, hpo, hp11, -, hpG⟩ := hπJ
      refine v_iload_n dX1_markTold_23 rfl ?_
      refine v_aload_n dX1_markTold_24 rfl ?_
      refine v_getI' (v := ((mN π : Nat) : Int)) hp6 fX1_68 rfl hTm dX1_markTold_25 ?_
      refine v_icmp_ge ⟨by omega, by omega⟩ ⟨by omega, by omega⟩ dX1_markTold_28 (fun hb28 => ?_) (fun h => by exfalso; omega)
      exact v_vret rfl (by decide) (by decide) dX1_markTold_108 ⟨rfl, hmk, hO⟩
    | succ mm ih =>
      intro j J o3 hj hmk hO rngJ
      have inner : ∀ (qq g : Nat) (J : w_Mm), g + qq = mNG π → mkd J h (fun i => toldP π κ j i ∨ jP π j i ∨ gP π j g i) → 0 ≤ (κ.1 j).1 → (∀ a k, a ≠ h + 1 → J a k = I a k) → (∀ a k, inR (J a k)) → w_V E mX1_markTold (w_rm 1 0 0) (w_Z E 0 0 (w_Pv (fun G' J => G' = G ∧ mkd J h (toldP π κ (mN π)) ∧ ∀ a k, a ≠ h + 1 → J a k = I a k))) G J 0 0 69 [some (.ref h), some (.ref m), some (iv (j : Int)), some (iv (g : Int))] [] := by
        clear hmk hO rngJ
        intro qq
        induction qq with
        | zero =>
          intro g J hg hmk hdp hO rngJ
          obtain rfl : g = mNG π := by omega
          have hπJ := hπ0.off (fun a k h1 h2 => hO a k (by omega))
          have hκJ := hκ0.off (fun a k h1 h2 => hO a k (by omega))
          have hπJ0 := hπJ
          obtain ⟨hp0, hp2, hpA, hpB, hp6, -, hpo, hp11, -, hpG⟩ := hπJ
          refine v_iload_n dX1_markTold_69 rfl ?_
          refine v_aload_n dX1_markTold_70 rfl ?_
          refine v_getI' (v := ((mNG π : Nat) : Int)) hp11 fX1_86 rfl hTm dX1_markTold_71 ?_
          refine v_icmp_ge ⟨by omega, by omega⟩ ⟨by omega, by omega⟩ dX1_markTold_74 (fun hb74 => ?_) (fun h => by exfalso; omega)
          refine v_iinc dX1_markTold_102 rfl (by decide) rfl rfl ?_
          refine v_goto dX1_markTold_105 ?_
          exact ih (j + 1) J _ (by omega) (hmk.congr (fun i hi => by
            constructor
            · rintro (⟨p, u1, u2⟩ | h)
              · exact ⟨p, by omega, u2⟩
              · exact ⟨j, by omega, hdp, h⟩
            · rintro ⟨p, u1, u2⟩
              by_cases e : p = j
              · subst e; exact Or.inr u2.2
              · exact Or.inl ⟨p, by omega, u2⟩)) hO rngJ
        | succ qq iq =>
          intro g J hg hmk hdp hO rngJ
          have hπJ := hπ0.off (fun a k h1 h2 => hO a k (by omega))
          have hκJ := hκ0.off (fun a k h1 h2 => hO a k (by omega))
          have hπJ0 := hπJ
          obtain ⟨hp0, hp2, hpA, hpB, hp6, -, hpo, hp11, -, hpG⟩ := hπJ
          refine v_iload_n dX1_markTold_69 rfl ?_
          refine v_aload_n dX1_markTold_70 rfl ?_
          refine v_getI' (v := ((mNG π : Nat) : Int)) hp11 fX1_86 rfl hTm dX1_markTold_71 ?_
          refine v_icmp_ge ⟨by omega, by omega⟩ ⟨by omega, by omega⟩ dX1_markTold_74 (fun h => by exfalso; omega) (fun hb74 => ?_)
          refine v_aload_n dX1_markTold_77 rfl ?_
          refine v_iload_n dX1_markTold_78 rfl ?_
          refine v_iload_n dX1_markTold_79 rfl ?_
          refine v_Vb (tX4_isGuarded hM0 hπJ0 ⟨by omega, by omega⟩ (g := g) (by omega)) kX1_89 hTm rfl rfl ⟨by decide, by decide⟩ ⟨by decide, by decide⟩ (Nat.le_of_ble_eq_true rfl) dX1_markTold_80 (fun h1 => ?_) (fun h1 => ?_)
          · refine v_if_eq ⟨by decide, by decide⟩ dX1_markTold_83 (fun h => by exfalso; omega) (fun hb83 => ?_)
            refine v_aload_n dX1_markTold_86 rfl ?_
            refine v_aload_n dX1_markTold_87 rfl ?_
            refine v_getR fX1_93 rfl hTm (by assumption) dX1_markTold_88 ?_
            refine v_iload_n dX1_markTold_91 rfl ?_
            refine v_iald' (i := g) (v := mGh π (g)) (hpG (g) (by omega)).2.2.1 (by assumption) rfl (by omega) (by omega) dX1_markTold_92 ?_
            refine v_Vv (tX1_mark hH0 (by rw [← (hpG (g) (by omega)).2.2.1]; exact rngJ _ _)) kX1_82 (by assumption) rfl rfl ⟨by decide, by decide⟩ ⟨by decide, by decide⟩ (Nat.le_of_ble_eq_true rfl) dX1_markTold_93 (fun G9 J2 pJ2 rng3 => ?_)
            obtain ⟨hG9, ⟨yJ2, zJ2, eJ2⟩ | ⟨yJ2, eJ2⟩⟩ := pJ2
            all_goals obtain rfl := hG9.symm
            · subst eJ2
              refine v_iinc dX1_markTold_96 rfl (by decide) rfl rfl ?_
              refine v_goto dX1_markTold_99 ?_
              exact iq (g + 1) _ (by omega) ((hmk.set (p := (mGh π g).toNat)).congr (fun i hi => by
                constructor
                · rintro ((h | h | ⟨g2, u1, u2⟩) | h)
                  · exact Or.inl h
                  · exact Or.inr (Or.inl h)
                  · exact Or.inr (Or.inr ⟨g2, by omega, u2⟩)
                  · exact Or.inr (Or.inr ⟨g, by omega, h1, by omega⟩)
                · rintro (h | h | ⟨g2, u1, u2⟩)
                  · exact Or.inl (Or.inl h)
                  · exact Or.inl (Or.inr (Or.inl h))
                  · by_cases e : g2 = g
                    · subst e; exact Or.inr (by have := u2.2; omega)
                    · exact Or.inl (Or.inr (Or.inr ⟨g2, by omega, u2⟩)))) hdp (fun a k ha => (w_up_n (by omega)).trans (hO a k ha)) rng3
            · subst eJ2
              refine v_iinc dX1_markTold_96 rfl (by decide) rfl rfl ?_
              refine v_goto dX1_markTold_99 ?_
              exact iq (g + 1) _ (by omega) (hmk.congr (fun i hi => or_congr Iff.rfl (or_congr Iff.rfl (by
                constructor
                · rintro ⟨g2, u1, u2⟩; exact ⟨g2, by omega, u2⟩
                · rintro ⟨g2, u1, u2⟩
                  by_cases e : g2 = g
                  · subst e; exact absurd u2.2 (by omega)
                  · exact ⟨g2, by omega, u2⟩)))) hdp hO rng3
          · refine v_if_eq ⟨by decide, by decide⟩ dX1_markTold_83 (fun hb83 => ?_) (fun h => by exfalso; omega)
            refine v_iinc dX1_markTold_96 rfl (by decide) rfl rfl ?_
            refine v_goto dX1_markTold_99 ?_
            exact iq (g + 1) J (by omega) (hmk.congr (fun i hi => or_congr Iff.rfl (or_congr Iff.rfl (by
              constructor
              · rintro ⟨g2, u1, u2⟩; exact ⟨g2, by omega, u2⟩
              · rintro ⟨g2, u1, u2⟩
                by_cases e : g2 = g
                · subst e; exact absurd u2.1 h1
                · exact ⟨g2, by omega, u2⟩)))) hdp hO rngJ
      have hπJ := hπ0.off (fun a k h1 h2 => hO a k (by omega))
      have hκJ := hκ0.off (fun a k h1 h2 => hO a k (by omega))
      have hπJ0 := hπJ
      obtain ⟨hp0, hp2, hpA, hpB, hp6, -, hpo, hp11, -, hpG⟩ := hπJ
      have hW6 := hWk.2.2.2.2.2 j (by omega)
      have hfj := hκJ.1 j (by omega)
      refine v_iload_n dX1_markTold_23 rfl ?_
      refine v_aload_n dX1_markTold_24 rfl ?_
      refine v_getI' (v := ((mN π : Nat) : Int)) hp6 fX1_68 rfl hTm dX1_markTold_25 ?_
      refine v_icmp_ge ⟨by omega, by omega⟩ ⟨by omega, by omega⟩ dX1_markTold_28 (fun h => by exfalso; omega) (fun hb28 => ?_)
      refine v_aload_n dX1_markTold_31 rfl ?_
      refine v_getR fX1_26 rfl hTm (by assumption) dX1_markTold_32 ?_
      refine v_getR fX1_32 rfl hWk.1 hWk.2.1 dX1_markTold_35 ?_
      refine v_iload_n dX1_markTold_38 rfl ?_
      refine v_aaldF (i := j) hWk.2.2.2.1 hW6.1 rfl (by omega) (by omega) dX1_markTold_39 ?_
      refine v_Vb (tX2_isThere hW6.2 hfj) kX1_72 hW6.2.1 rfl rfl ⟨by decide, by decide⟩ ⟨by decide, by decide⟩ (Nat.le_of_ble_eq_true rfl) dX1_markTold_40 (fun h1 => ?_) (fun h1 => ?_)
      · refine v_if_ne ⟨by decide, by decide⟩ dX1_markTold_43 (fun hb43 => ?_) (fun h => by exfalso; omega)
        refine v_aload_n dX1_markTold_49 rfl ?_
        refine v_iload_n dX1_markTold_50 rfl ?_
        refine v_Vb (tX4_isJump hM0 hπJ0 (p := j) (by omega)) kX1_76 hTm rfl rfl ⟨by decide, by decide⟩ ⟨by decide, by decide⟩ (Nat.le_of_ble_eq_true rfl) dX1_markTold_51 (fun h2 => ?_) (fun h2 => ?_)
        · refine v_if_eq ⟨by decide, by decide⟩ dX1_markTold_54 (fun h => by exfalso; omega) (fun hb54 => ?_)
          refine v_aload_n dX1_markTold_57 rfl ?_
          refine v_aload_n dX1_markTold_58 rfl ?_
          refine v_getR fX1_79 rfl hTm (by assumption) dX1_markTold_59 ?_
          refine v_iload_n dX1_markTold_62 rfl ?_
          refine v_iald' (i := j) (v := mA π (j)) (hpo (j) (by omega)).2.1 (by assumption) rfl (by omega) (by omega) dX1_markTold_63 ?_
          refine v_Vv (tX1_mark hH0 (by rw [← (hpo (j) (by omega)).2.1]; exact rngJ _ _)) kX1_82 (by assumption) rfl rfl ⟨by decide, by decide⟩ ⟨by decide, by decide⟩ (Nat.le_of_ble_eq_true rfl) dX1_markTold_64 (fun G9 J3 pJ3 rng4 => ?_)
          obtain ⟨hG9, ⟨yJ3, zJ3, eJ3⟩ | ⟨yJ3, eJ3⟩⟩ := pJ3
          all_goals obtain rfl := hG9.symm
          · subst eJ3
            refine v_iconst dX1_markTold_67 ?_
            refine v_istore_n dX1_markTold_68 (by decide) rfl ?_
            exact inner (mNG π) 0 _ (by omega) ((hmk.set (p := (mA π j).toNat)).congr (fun i hi => by
              constructor
              · rintro (h | h)
                · exact Or.inl h
                · exact Or.inr (Or.inl ⟨h2, by omega⟩)
              · rintro (h | h | ⟨g2, u1, -⟩)
                · exact Or.inl h
                · exact Or.inr (by have := h.2; omega)
                · omega)) h1 (fun a k ha => (w_up_n (by omega)).trans (hO a k ha)) rng4
          · subst eJ3
            refine v_iconst dX1_markTold_67 ?_
            refine v_istore_n dX1_markTold_68 (by decide) rfl ?_
            exact inner (mNG π) 0 _ (by omega) (hmk.congr (fun i hi => by
              constructor
              · exact Or.inl
              · rintro (h | h | ⟨g2, u1, -⟩)
                · exact h
                · exact absurd h.2 (by omega)
                · omega)) h1 hO rng4
        · refine v_if_eq ⟨by decide, by decide⟩ dX1_markTold_54 (fun hb54 => ?_) (fun h => by exfalso; omega)
          refine v_iconst dX1_markTold_67 ?_
          refine v_istore_n dX1_markTold_68 (by decide) rfl ?_
          exact inner (mNG π) 0 _ (by omega) (hmk.congr (fun i hi => by
            constructor
            · exact Or.inl
            · rintro (h | h | ⟨g2, u1, -⟩)
              · exact h
              · exact absurd h.1 h2
              · omega)) h1 hO rngJ
      · refine v_if_ne ⟨by decide, by decide⟩ dX1_markTold_43 (fun h => by exfalso; omega) (fun hb43 => ?_)
        refine v_goto dX1_markTold_46 ?_
        refine v_iinc dX1_markTold_102 rfl (by decide) rfl rfl ?_
        refine v_goto dX1_markTold_105 ?_
        exact ih (j + 1) J _ (by omega) (hmk.congr (fun i hi => by
          constructor
          · rintro ⟨p, u1, u2⟩; exact ⟨p, by omega, u2⟩
          · rintro ⟨p, u1, u2⟩
            by_cases e : p = j
            · subst e; exact absurd u2.1 h1
            · exact ⟨p, by omega, u2⟩)) hO rngJ
  have clr : ∀ mm j : Nat, j + mm = 40 → w_V E mX1_markTold (w_rm 1 0 0) (w_Z E 0 0 (w_Pv (fun G' J => G' = G ∧ mkd J h (toldP π κ (mN π)) ∧ ∀ a k, a ≠ h + 1 → J a k = I a k))) G (w_map I (h + 1) j (fun _ => 0)) 0 0 2 [some (.ref h), some (.ref m), some (iv (j : Int)), none] [] := by
    intro mm
    induction mm with
    | zero =>
      intro j hj
      obtain rfl : j = 40 := by omega
      refine v_iload_n dX1_markTold_2 rfl ?_
      refine v_bipush dX1_markTold_3 (by decide) ?_
      refine v_icmp_ge ⟨by omega, by omega⟩ ⟨by decide, by decide⟩ dX1_markTold_5 (fun hb5 => ?_) (fun h => by exfalso; omega)
      refine v_iconst dX1_markTold_21 ?_
      refine v_istore_n dX1_markTold_22 (by decide) rfl ?_
      exact outer (mN π) 0 _ _ (by omega) (fun i hi => Or.inr ⟨w_map_i hi, fun q => by obtain ⟨p, u1, -⟩ := q; omega⟩) (fun a k ha => w_map_o (by omega)) (w_rngm rng (fun _ _ => ⟨by decide, by decide⟩))
    | succ mm ih =>
      intro j hj
      have rngj := w_rngm (a := h + 1) (j := j) (g := fun _ => 0) rng (fun _ _ => ⟨by decide, by decide⟩)
      refine v_iload_n dX1_markTold_2 rfl ?_
      refine v_bipush dX1_markTold_3 (by decide) ?_
      refine v_icmp_ge ⟨by omega, by omega⟩ ⟨by decide, by decide⟩ dX1_markTold_5 (fun h => by exfalso; omega) (fun hb5 => ?_)
      refine v_aload_n dX1_markTold_8 rfl ?_
      refine v_getR fX1_9 rfl (by assumption) (by assumption) dX1_markTold_9 ?_
      refine v_iload_n dX1_markTold_12 rfl ?_
      refine v_iconst dX1_markTold_13 ?_
      refine v_zast (i := j) (by assumption) rfl (by omega) (by omega) (Or.inl rfl) dX1_markTold_14 ?_
      have rng1 := w_rng (a := h + 1) (f := j) rngj (show inR (0) from ⟨by decide, by decide⟩)
      refine v_iinc dX1_markTold_15 rfl (by decide) rfl rfl ?_
      refine v_goto dX1_markTold_18 ?_
      exact v_mem (w_map_s (g := fun _ => 0) rfl) (ih (j + 1) (by omega))
  exact v_mem w_map_0.symm (clr 40 0 rfl)
