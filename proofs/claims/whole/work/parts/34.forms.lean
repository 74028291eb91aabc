/-! ===== forms ===== -/
def isH (G : w_Sh) (h : Nat) : Prop := G.1 h = (1, 0) ∧ G.2.1 h 0 = some (h + 1) ∧ G.2.1 h 1 = some (h + 2) ∧ G.2.1 h 2 = some (h + 3) ∧ G.1 (h + 1) = (11, 40) ∧ G.1 (h + 2) = (10, 8) ∧ G.1 (h + 3) = (10, 8)
def offH (I J : w_Mm) (h : Nat) : Prop := ∀ a k, (a < h + 1 ∨ h + 4 ≤ a) → J a k = I a k
abbrev gP (π : mS) (p gg i : Nat) : Prop := ∃ g, g < gg ∧ (mGf π g ≤ (p : Int) ∧ (p : Int) < mGt π g) ∧ mGh π g = (i : Int)
abbrev jP (π : mS) (p i : Nat) : Prop := (mOp π p = 11 ∨ mOp π p = 12) ∧ mA π p = (i : Int)
abbrev plP (π : mS) (κ : kS) (p i : Nat) : Prop := 0 ≤ (κ.1 p).1 ∧ (jP π p i ∨ gP π p (mNG π) i)
abbrev toldP (π : mS) (κ : kS) (j i : Nat) : Prop := ∃ p, p < j ∧ plP π κ p i
/-- the row tf says of each place below 40 whether T holds there -/
abbrev mkd (J : w_Mm) (h : Nat) (T : Nat → Prop) : Prop := ∀ i, i < 40 → (J (h + 1) i = 1 ∧ T i) ∨ (J (h + 1) i = 0 ∧ ¬ T i)
theorem mkd.congr {J : w_Mm} {h : Nat} {T S : Nat → Prop} (g : mkd J h T) (e : ∀ i, i < 40 → (T i ↔ S i)) : mkd J h S := fun i hi => (g i hi).imp (fun q => ⟨q.1, (e i hi).mp q.2⟩) (fun q => ⟨q.1, fun s => q.2 ((e i hi).mpr s)⟩)
theorem mkd.set {J : w_Mm} {h p : Nat} {T : Nat → Prop} (g : mkd J h T) : mkd (w_up J (h + 1) p 1) h (fun i => T i ∨ i = p) := fun i hi => by
  by_cases e : i = p
  · subst e; exact Or.inl ⟨w_up_s, Or.inr rfl⟩
  · rw [w_up_n (by omega)]
    rcases g i hi with q | q
    · exact Or.inl ⟨q.1, Or.inl q.2⟩
    · exact Or.inr ⟨q.1, fun s => s.elim q.2 e⟩
def beforeF (tf : Nat → Int) : Nat → Int
  | 0 => -1
  | j + 1 => if tf j = 0 then beforeF tf j else (j : Int)
def wrF (L : Nat → Int) : Nat → Nat → Nat × Nat × (Nat → Int) → Nat × Nat × (Nat → Int)
  | 0, _, s => s
  | j + 1, i, s => wrF L j (i + 1) (if L i = 3 then s else (s.1 + 1, (if L i = 0 then s.2.1 else s.1 + 1), uL s.2.2 s.1 (L i)))
def formO (φ : fS) (x : Int) : Int := if x = 0 ∧ (φ.1 = 1 ∨ (φ.1 = 2 ∧ lngTop φ)) then 1 else if ¬ φ.1 = 0 ∨ 3 < x ∨ x < -3 then 8 else if x = 0 then 0 else if 0 < x then 4 + x else 1 - x
theorem tX1_mark {E : w_E} {G : w_Sh} {I : w_Mm} {h : Nat} {x : Int} (hH : isH G h) (hx : inR x) : w_Ct E mX1_mark 0 [.ref h, iv x] G I 0 0 (w_Pv (fun G' J => G' = G ∧ ((0 ≤ x ∧ x < 40 ∧ J = w_up I (h + 1) x.toNat 1) ∨ (¬ (0 ≤ x ∧ x < 40) ∧ J = I)))) := by
  have hH0 := hH
  obtain ⟨hTh, hRh0, hRh1, hRh2, hTh1, hTh2, hTh3⟩ := hH
  refine w_Ct.of (ls := [some (.ref h), some (iv x)]) (by decide +kernel) (Nat.le_of_ble_eq_true rfl) rfl rfl (fun rng => ?_)
  refine v_iload_n dX1_mark_0 rfl ?_
  refine v_if_lt hx dX1_mark_1 (fun h1 => ?_) (fun h1 => ?_)
  · exact v_vret rfl (by decide) (by decide) dX1_mark_17 ⟨rfl, Or.inr ⟨by omega, rfl⟩⟩
  · refine v_iload_n dX1_mark_4 rfl ?_
    refine v_bipush dX1_mark_5 (by decide) ?_
    refine v_icmp_ge hx ⟨by decide, by decide⟩ dX1_mark_7 (fun h2 => ?_) (fun h2 => ?_)
    · exact v_vret rfl (by decide) (by decide) dX1_mark_17 ⟨rfl, Or.inr ⟨by omega, rfl⟩⟩
    · refine v_aload_n dX1_mark_10 rfl ?_
      refine v_getR fX1_9 rfl (by assumption) (by assumption) dX1_mark_11 ?_
      refine v_iload_n dX1_mark_14 rfl ?_
      refine v_iconst dX1_mark_15 ?_
      refine v_zast (i := (x).toNat) (by assumption) (by omega) (by omega) (by omega) (Or.inr rfl) dX1_mark_16 ?_
      have rng3 := w_rng (a := h + 1) (f := (x).toNat) rng (show inR (1) from ⟨by decide, by decide⟩)
      exact v_vret rfl (by decide) (by decide) dX1_mark_17 ⟨rfl, Or.inl ⟨by omega, by omega, rfl⟩⟩
theorem tX1_toldBefore {E : w_E} {G : w_Sh} {I : w_Mm} {h p : Nat} {tf : Nat → Int} (hH : isH G h) (hp : p < 40) (htf : ∀ i, i < 40 → I (h + 1) i = tf i) : w_Ct E mX1_toldBefore 0 [.ref h, iv (p : Int)] G I 0 0 (w_Pi (fun r G' I' => r = (beforeF tf p) ∧ G' = G ∧ I' = I)) := by
  have hH0 := hH
  obtain ⟨hTh, hRh0, hRh1, hRh2, hTh1, hTh2, hTh3⟩ := hH
  refine w_Ct.of (ls := [some (.ref h), some (iv (p : Int)), none]) (by decide +kernel) (Nat.le_of_ble_eq_true rfl) rfl rfl (fun rng => ?_)
  refine v_iload_n dX1_toldBefore_0 rfl ?_
  refine v_iconst dX1_toldBefore_1 ?_
  refine v_isub dX1_toldBefore_2 ?_
  refine v_istore_n dX1_toldBefore_3 (by decide) rfl ?_
  have loop : ∀ (j : Nat) (z : Int), j ≤ p → z = beforeF tf j → w_V E mX1_toldBefore (w_rm 0 0 0) (w_Z E 0 0 (w_Pi (fun r G' I' => r = z ∧ G' = G ∧ I' = I))) G I 0 0 4 [some (.ref h), some (iv (p : Int)), some (iv ((j : Int) - 1))] [] := by
    intro j
    induction j with
    | zero =>
      intro z hj hz
      refine v_iload_n dX1_toldBefore_4 rfl ?_
      refine v_if_lt ⟨by omega, by omega⟩ dX1_toldBefore_5 (fun hb5 => ?_) (fun h => by exfalso; omega)
      refine v_iconst dX1_toldBefore_25 ?_
      exact v_iret rfl (by decide) (by decide) ⟨by decide, by decide⟩ dX1_toldBefore_26 ⟨hz.symm, rfl, rfl⟩
    | succ j ih =>
      intro z hj hz
      refine v_ls (ls' := [some (.ref h), some (iv (p : Int)), some (iv ((j : Nat) : Int))]) (by rw [show (((j + 1 : Nat) : Int) - 1) = ((j : Nat) : Int) by omega]) ?_
      refine v_iload_n dX1_toldBefore_4 rfl ?_
      refine v_if_lt ⟨by omega, by omega⟩ dX1_toldBefore_5 (fun h => by exfalso; omega) (fun hb5 => ?_)
      refine v_aload_n dX1_toldBefore_8 rfl ?_
      refine v_getR fX1_9 rfl (by assumption) (by assumption) dX1_toldBefore_9 ?_
      refine v_iload_n dX1_toldBefore_12 rfl ?_
      refine v_zald' (i := j) (v := tf (j)) (htf (j) (by omega)) (by assumption) rfl (by omega) (by omega) dX1_toldBefore_13 ?_
      refine v_if_eq (by rw [← htf (j) (by omega)]; exact rng _ _) dX1_toldBefore_14 (fun h1 => ?_) (fun h1 => ?_)
      · refine v_iinc dX1_toldBefore_19 rfl (by decide) rfl rfl ?_
        refine v_goto dX1_toldBefore_22 ?_
        refine v_ls (ls' := [some (.ref h), some (iv (p : Int)), some (iv ((j : Int) - 1))]) rfl ?_
        exact ih z (by omega) (by rw [hz]; show beforeF tf (j + 1) = _; unfold beforeF; rw [if_pos h1]; cases j <;> rfl)
      · refine v_iload_n dX1_toldBefore_17 rfl ?_
        exact v_iret rfl (by decide) (by decide) ⟨by omega, by omega⟩ dX1_toldBefore_18 ⟨(by rw [hz]; show _ = beforeF tf (j + 1); unfold beforeF; rw [if_neg h1]), rfl, rfl⟩
  exact loop p _ (Nat.le_refl _) rfl
theorem tX1_writeRow {E : w_E} {G : w_Sh} {I : w_Mm} {a b : Nat} {L R0 : Nat → Int} (hTa : G.1 a = (10, 8)) (hTb : G.1 b = (10, 8)) (hab : a ≠ b) (hL : ∀ k, k < 8 → I a k = L k) (hR0 : ∀ k, k < 8 → I b k = R0 k) : w_Ct E mX1_writeRow 0 [.ref a, .ref b] G I 0 0 (w_Pi (fun r G' J => G' = G ∧ r = ((wrF L 8 0 (0, 0, R0)).2.1 : Int) ∧ (∀ k, k < 8 → J b k = (wrF L 8 0 (0, 0, R0)).2.2 k) ∧ ∀ a k, a ≠ b → J a k = I a k)) := by
  refine w_Ct.of (ls := [some (.ref a), some (.ref b), none, none, none]) (by decide +kernel) (Nat.le_of_ble_eq_true rfl) rfl rfl (fun rng => ?_)
  refine v_iconst dX1_writeRow_0 ?_
  refine v_istore_n dX1_writeRow_1 (by decide) rfl ?_
  refine v_iconst dX1_writeRow_2 ?_
  refine v_istore_n dX1_writeRow_3 (by decide) rfl ?_
  refine v_iconst dX1_writeRow_4 ?_
  refine v_istore dX1_writeRow_5 (by decide) rfl ?_
  have loop : ∀ (mm i : Nat) (s : Nat × Nat × (Nat → Int)) (J : w_Mm), i + mm = 8 → s.1 ≤ i → s.2.1 ≤ s.1 → (∀ k, k < 8 → J b k = s.2.2 k) → (∀ a k, a ≠ b → J a k = I a k) → (∀ a k, inR (J a k)) → ∀ T, T = wrF L mm i s → w_V E mX1_writeRow (w_rm 0 0 0) (w_Z E 0 0 (w_Pi (fun r G' J => G' = G ∧ r = (T.2.1 : Int) ∧ (∀ k, k < 8 → J b k = T.2.2 k) ∧ ∀ a k, a ≠ b → J a k = I a k))) G J 0 0 7 [some (.ref a), some (.ref b), some (iv (s.1 : Int)), some (iv (s.2.1 : Int)), some (iv (i : Int))] [] := by
    intro mm
    induction mm with
    | zero =>
      intro i s J hi hs hs2 hJb hO rngJ T hT
      refine v_iload dX1_writeRow_7 rfl ?_
      refine v_bipush dX1_writeRow_9 (by decide) ?_
      refine v_icmp_ge ⟨by omega, by omega⟩ ⟨by decide, by decide⟩ dX1_writeRow_11 (fun hb11 => ?_) (fun h => by exfalso; omega)
      refine v_iload_n dX1_writeRow_50 rfl ?_
      subst hT
      exact v_iret rfl (by decide) (by decide) ⟨by omega, by omega⟩ dX1_writeRow_51 ⟨rfl, rfl, hJb, hO⟩
    | succ mm ih =>
      intro i s J hi hs hs2 hJb hO rngJ T hT
      have hLi : J a i = L i := (hO a i hab).trans (hL i (by omega))
      have hLR : inR (L i) := by rw [← hLi]; exact rngJ _ _
      refine v_iload dX1_writeRow_7 rfl ?_
      refine v_bipush dX1_writeRow_9 (by decide) ?_
      refine v_icmp_ge ⟨by omega, by omega⟩ ⟨by decide, by decide⟩ dX1_writeRow_11 (fun h => by exfalso; omega) (fun hb11 => ?_)
      refine v_aload_n dX1_writeRow_14 rfl ?_
      refine v_iload dX1_writeRow_15 rfl ?_
      refine v_iald' (i := i) (v := L i) hLi (by assumption) rfl (by omega) (by omega) dX1_writeRow_17 ?_
      refine v_iconst dX1_writeRow_18 ?_
      refine v_icmp_ne hLR ⟨by decide, by decide⟩ dX1_writeRow_19 (fun h1 => ?_) (fun h1 => ?_)
      · refine v_aload_n dX1_writeRow_25 rfl ?_
        refine v_iload_n dX1_writeRow_26 rfl ?_
        refine v_aload_n dX1_writeRow_27 rfl ?_
        refine v_iload dX1_writeRow_28 rfl ?_
        refine v_iald' (i := i) (v := L i) hLi (by assumption) rfl (by omega) (by omega) dX1_writeRow_30 ?_
        refine v_iast (i := s.1) (by assumption) (by omega) (by omega) (by omega) hLR dX1_writeRow_31 ?_
        have rng2 := w_rng (a := b) (f := s.1) rngJ (show inR (L i) from hLR)
        refine v_iinc dX1_writeRow_32 rfl (by decide) rfl rfl ?_
        refine v_aload_n dX1_writeRow_35 rfl ?_
        refine v_iload dX1_writeRow_36 rfl ?_
        refine v_iald' (i := i) (v := L i) (by rw [w_up_n (by omega), hLi]) (by assumption) rfl (by omega) (by omega) dX1_writeRow_38 ?_
        refine v_if_eq hLR dX1_writeRow_39 (fun h3 => ?_) (fun h3 => ?_)
        · refine v_iinc dX1_writeRow_44 rfl (by decide) rfl rfl ?_
          refine v_goto dX1_writeRow_47 ?_
          exact ih (i + 1) (s.1 + 1, s.2.1, uL s.2.2 s.1 (L i)) _ (by omega) (show s.1 + 1 ≤ i + 1 by omega) (show s.2.1 ≤ s.1 + 1 by omega) (fun k hk => by
            show w_up J b s.1 (L i) b k = uL s.2.2 s.1 (L i) k
            by_cases e : k = s.1
            · subst e; rw [w_up_s, uL_s]
            · rw [w_up_n (by omega), uL_n e]; exact hJb k hk) (fun a k ha => (w_up_n (by omega)).trans (hO a k ha)) rng2 T (by rw [hT]; show wrF L (mm + 1) i s = _; unfold wrF; rw [if_neg h1, if_pos h3]; cases mm <;> rfl)
        · refine v_iload_n dX1_writeRow_42 rfl ?_
          refine v_istore_n dX1_writeRow_43 (by decide) rfl ?_
          refine v_iinc dX1_writeRow_44 rfl (by decide) rfl rfl ?_
          refine v_goto dX1_writeRow_47 ?_
          exact ih (i + 1) (s.1 + 1, s.1 + 1, uL s.2.2 s.1 (L i)) _ (by omega) (show s.1 + 1 ≤ i + 1 by omega) (show s.1 + 1 ≤ s.1 + 1 by omega) (fun k hk => by
            show w_up J b s.1 (L i) b k = uL s.2.2 s.1 (L i) k
            by_cases e : k = s.1
            · subst e; rw [w_up_s, uL_s]
            · rw [w_up_n (by omega), uL_n e]; exact hJb k hk) (fun a k ha => (w_up_n (by omega)).trans (hO a k ha)) rng2 T (by rw [hT]; show wrF L (mm + 1) i s = _; unfold wrF; rw [if_neg h1, if_neg h3]; cases mm <;> rfl)
      · refine v_goto dX1_writeRow_22 ?_
        refine v_iinc dX1_writeRow_44 rfl (by decide) rfl rfl ?_
        refine v_goto dX1_writeRow_47 ?_
        exact ih (i + 1) s J (by omega) (by omega) hs2 hJb hO rngJ T (by rw [hT]; show wrF L (mm + 1) i s = _; unfold wrF; rw [if_pos h1]; cases mm <;> rfl)
  exact loop 8 0 (0, 0, R0) I rfl (Nat.le_refl _) (Nat.le_refl _) hR0 (fun _ _ _ => rfl) rng _ rfl
theorem tX1_isAlike {E : w_E} {G : w_Sh} {I : w_Mm} {h : Nat} {x : Int} {A C : Nat → Int} (hH : isH G h) (hx : inR x) (hx8 : x ≤ 8) (hA : ∀ k, k < 8 → I (h + 2) k = A k) (hC : ∀ k, k < 8 → I (h + 3) k = C k) : w_Ct E mX1_isAlike 0 [.ref h, iv x] G I 0 0 (w_Pi (fun r G' I' => G' = G ∧ I' = I ∧ ((r = 1 ∧ (∀ k : Nat, (k : Int) < x → A k = C k)) ∨ (r = 0 ∧ ¬ (∀ k : Nat, (k : Int) < x → A k = C k))))) := by
  have hH0 := hH
  obtain ⟨hTh, hRh0, hRh1, hRh2, hTh1, hTh2, hTh3⟩ := hH
  refine w_Ct.of (ls := [some (.ref h), some (iv x), none]) (by decide +kernel) (Nat.le_of_ble_eq_true rfl) rfl rfl (fun rng => ?_)
  refine v_iconst dX1_isAlike_0 ?_
  refine v_istore_n dX1_isAlike_1 (by decide) rfl ?_
  have loop : ∀ mm j : Nat, (j : Int) + mm = max x 0 → (∀ k : Nat, k < j → A k = C k) → w_V E mX1_isAlike (w_rm 0 0 0) (w_Z E 0 0 (w_Pi (fun r G' I' => G' = G ∧ I' = I ∧ ((r = 1 ∧ (∀ k : Nat, (k : Int) < x → A k = C k)) ∨ (r = 0 ∧ ¬ (∀ k : Nat, (k : Int) < x → A k = C k)))))) G I 0 0 2 [some (.ref h), some (iv x), some (iv (j : Int))] [] := by
    intro mm
    induction mm with
    | zero =>
      intro j hj hp
      refine v_iload_n dX1_isAlike_2 rfl ?_
      refine v_iload_n dX1_isAlike_3 rfl ?_
      refine v_icmp_ge ⟨by omega, by omega⟩ hx dX1_isAlike_4 (fun hb4 => ?_) (fun h => by exfalso; omega)
      refine v_iconst dX1_isAlike_30 ?_
      exact v_zret rfl (by decide) (by decide) (Or.inr rfl) dX1_isAlike_31 ⟨rfl, rfl, Or.inl ⟨rfl, by exact fun k hk => hp k (by omega)⟩⟩
    | succ mm ih =>
      intro j hj hp
      refine v_iload_n dX1_isAlike_2 rfl ?_
      refine v_iload_n dX1_isAlike_3 rfl ?_
      refine v_icmp_ge ⟨by omega, by omega⟩ hx dX1_isAlike_4 (fun h => by exfalso; omega) (fun hb4 => ?_)
      refine v_aload_n dX1_isAlike_7 rfl ?_
      refine v_getR fX1_15 rfl (by assumption) (by assumption) dX1_isAlike_8 ?_
      refine v_iload_n dX1_isAlike_11 rfl ?_
      refine v_iald' (i := j) (v := A (j)) (hA (j) (by omega)) (by assumption) rfl (by omega) (by omega) dX1_isAlike_12 ?_
      refine v_aload_n dX1_isAlike_13 rfl ?_
      refine v_getR fX1_19 rfl (by assumption) (by assumption) dX1_isAlike_14 ?_
      refine v_iload_n dX1_isAlike_17 rfl ?_
      refine v_iald' (i := j) (v := C (j)) (hC (j) (by omega)) (by assumption) rfl (by omega) (by omega) dX1_isAlike_18 ?_
      refine v_icmp_eq (by rw [← hA (j) (by omega)]; exact rng _ _) (by rw [← hC (j) (by omega)]; exact rng _ _) dX1_isAlike_19 (fun h1 => ?_) (fun h1 => ?_)
      · refine v_iinc dX1_isAlike_24 rfl (by decide) rfl rfl ?_
        refine v_goto dX1_isAlike_27 ?_
        exact ih (j + 1) (by omega) (lt_s hp (by assumption))
      · refine v_iconst dX1_isAlike_22 ?_
        exact v_zret rfl (by decide) (by decide) (Or.inl rfl) dX1_isAlike_23 ⟨rfl, rfl, Or.inr ⟨rfl, by exact fun q => absurd (q j (by omega)) (by assumption)⟩⟩
  exact loop (max x 0).toNat 0 (by omega) (fun k hk => absurd hk (Nat.not_lt_zero k))
theorem tX1_formOf {E : w_E} {G : w_Sh} {I : w_Mm} {f : Nat} {φ : fS} (hF : isF G f) (hφ : frOK I f φ) {x : Int} (hx : inR x) (hx2 : -8 ≤ x ∧ x ≤ 8) : w_Ct E mX1_formOf 1 [.ref f, iv x] G I 0 0 (w_Pi (fun r G' I' => r = (formO φ x) ∧ G' = G ∧ I' = I)) := by
  have hF0 := hF
  have hφ0 := hφ
  obtain ⟨hT0, hR0, hR1, hT1, hT2⟩ := hF
  obtain ⟨hd, hL, hP, hd1, hd8⟩ := hφ
  refine w_Ct.of (ls := [some (.ref f), some (iv x)]) (by decide +kernel) (Nat.le_of_ble_eq_true rfl) rfl rfl (fun rng => ?_)
  refine v_iload_n dX1_formOf_0 rfl ?_
  refine v_if_ne hx dX1_formOf_1 (fun h1 => ?_) (fun h1 => ?_)
  · refine v_aload_n dX1_formOf_29 rfl ?_
    refine v_getI' (v := φ.1) hd fX1_96 rfl (by assumption) dX1_formOf_30 ?_
    refine v_if_ne ⟨by omega, by omega⟩ dX1_formOf_33 (fun h2 => ?_) (fun h2 => ?_)
    · refine v_bipush dX1_formOf_47 (by decide) ?_
      exact v_iret rfl (by decide) (by decide) ⟨by decide, by decide⟩ dX1_formOf_49 ⟨(by unfold formO; first | (exfalso; omega) | rw [if_pos (by omega)] | rw [if_neg (by omega), if_pos (by omega)] | rw [if_neg (by omega), if_neg (by omega), if_pos (by omega)] | rw [if_neg (by omega), if_neg (by omega), if_neg (by omega), if_pos (by omega)] | rw [if_neg (by omega), if_neg (by omega), if_neg (by omega), if_neg (by omega)]), rfl, rfl⟩
    · refine v_iload_n dX1_formOf_36 rfl ?_
      refine v_iconst dX1_formOf_37 ?_
      refine v_icmp_gt hx ⟨by decide, by decide⟩ dX1_formOf_38 (fun h3 => ?_) (fun h3 => ?_)
      · refine v_bipush dX1_formOf_47 (by decide) ?_
        exact v_iret rfl (by decide) (by decide) ⟨by decide, by decide⟩ dX1_formOf_49 ⟨(by unfold formO; first | (exfalso; omega) | rw [if_pos (by omega)] | rw [if_neg (by omega), if_pos (by omega)] | rw [if_neg (by omega), if_neg (by omega), if_pos (by omega)] | rw [if_neg (by omega), if_neg (by omega), if_neg (by omega), if_pos (by omega)] | rw [if_neg (by omega), if_neg (by omega), if_neg (by omega), if_neg (by omega)]), rfl, rfl⟩
      · refine v_iload_n dX1_formOf_41 rfl ?_
        refine v_bipush dX1_formOf_42 (by decide) ?_
        refine v_icmp_ge hx ⟨by decide, by decide⟩ dX1_formOf_44 (fun h4 => ?_) (fun h4 => ?_)
        · refine v_iload_n dX1_formOf_50 rfl ?_
          refine v_if_ne hx dX1_formOf_51 (fun h5 => ?_) (fun h5 => ?_)
          · refine v_iload_n dX1_formOf_56 rfl ?_
            refine v_if_le hx dX1_formOf_57 (fun h6 => ?_) (fun h6 => ?_)
            · refine v_iconst dX1_formOf_66 ?_
              refine v_iload_n dX1_formOf_67 rfl ?_
              refine v_isub dX1_formOf_68 ?_
              exact v_iret rfl (by decide) (by decide) ⟨by omega, by omega⟩ dX1_formOf_69 ⟨(by unfold formO; first | (exfalso; omega) | rw [if_pos (by omega)] | rw [if_neg (by omega), if_pos (by omega)] | rw [if_neg (by omega), if_neg (by omega), if_pos (by omega)] | rw [if_neg (by omega), if_neg (by omega), if_neg (by omega), if_pos (by omega)] | rw [if_neg (by omega), if_neg (by omega), if_neg (by omega), if_neg (by omega)]), rfl, rfl⟩
            · refine v_iconst dX1_formOf_60 ?_
              refine v_iload_n dX1_formOf_61 rfl ?_
              refine v_iadd dX1_formOf_62 ?_
              refine v_goto dX1_formOf_63 ?_
              exact v_iret rfl (by decide) (by decide) ⟨by omega, by omega⟩ dX1_formOf_69 ⟨(by unfold formO; first | (exfalso; omega) | rw [if_pos (by omega)] | rw [if_neg (by omega), if_pos (by omega)] | rw [if_neg (by omega), if_neg (by omega), if_pos (by omega)] | rw [if_neg (by omega), if_neg (by omega), if_neg (by omega), if_pos (by omega)] | rw [if_neg (by omega), if_neg (by omega), if_neg (by omega), if_neg (by omega)]), rfl, rfl⟩
          · refine v_iconst dX1_formOf_54 ?_
            exact v_iret rfl (by decide) (by decide) ⟨by decide, by decide⟩ dX1_formOf_55 ⟨(by unfold formO; first | (exfalso; omega) | rw [if_pos (by omega)] | rw [if_neg (by omega), if_pos (by omega)] | rw [if_neg (by omega), if_neg (by omega), if_pos (by omega)] | rw [if_neg (by omega), if_neg (by omega), if_neg (by omega), if_pos (by omega)] | rw [if_neg (by omega), if_neg (by omega), if_neg (by omega), if_neg (by omega)]), rfl, rfl⟩
        · refine v_bipush dX1_formOf_47 (by decide) ?_
          exact v_iret rfl (by decide) (by decide) ⟨by decide, by decide⟩ dX1_formOf_49 ⟨(by unfold formO; first | (exfalso; omega) | rw [if_pos (by omega)] | rw [if_neg (by omega), if_pos (by omega)] | rw [if_neg (by omega), if_neg (by omega), if_pos (by omega)] | rw [if_neg (by omega), if_neg (by omega), if_neg (by omega), if_pos (by omega)] | rw [if_neg (by omega), if_neg (by omega), if_neg (by omega), if_neg (by omega)]), rfl, rfl⟩
  · refine v_aload_n dX1_formOf_4 rfl ?_
    refine v_getI' (v := φ.1) hd fX1_96 rfl (by assumption) dX1_formOf_5 ?_
    refine v_iconst dX1_formOf_8 ?_
    refine v_icmp_eq ⟨by omega, by omega⟩ ⟨by decide, by decide⟩ dX1_formOf_9 (fun h7 => ?_) (fun h7 => ?_)
    · refine v_iconst dX1_formOf_27 ?_
      exact v_iret rfl (by decide) (by decide) ⟨by decide, by decide⟩ dX1_formOf_28 ⟨(by unfold formO; first | (exfalso; omega) | rw [if_pos (by omega)] | rw [if_neg (by omega), if_pos (by omega)] | rw [if_neg (by omega), if_neg (by omega), if_pos (by omega)] | rw [if_neg (by omega), if_neg (by omega), if_neg (by omega), if_pos (by omega)] | rw [if_neg (by omega), if_neg (by omega), if_neg (by omega), if_neg (by omega)]), rfl, rfl⟩
    · refine v_aload_n dX1_formOf_12 rfl ?_
      refine v_getI' (v := φ.1) hd fX1_96 rfl (by assumption) dX1_formOf_13 ?_
      refine v_iconst dX1_formOf_16 ?_
      refine v_icmp_ne ⟨by omega, by omega⟩ ⟨by decide, by decide⟩ dX1_formOf_17 (fun h8 => ?_) (fun h8 => ?_)
      · refine v_aload_n dX1_formOf_29 rfl ?_
        refine v_getI' (v := φ.1) hd fX1_96 rfl (by assumption) dX1_formOf_30 ?_
        refine v_if_ne ⟨by omega, by omega⟩ dX1_formOf_33 (fun h9 => ?_) (fun h9 => ?_)
        · refine v_bipush dX1_formOf_47 (by decide) ?_
          exact v_iret rfl (by decide) (by decide) ⟨by decide, by decide⟩ dX1_formOf_49 ⟨(by unfold formO; first | (exfalso; omega) | rw [if_pos (by omega)] | rw [if_neg (by omega), if_pos (by omega)] | rw [if_neg (by omega), if_neg (by omega), if_pos (by omega)] | rw [if_neg (by omega), if_neg (by omega), if_neg (by omega), if_pos (by omega)] | rw [if_neg (by omega), if_neg (by omega), if_neg (by omega), if_neg (by omega)]), rfl, rfl⟩
        · refine v_iload_n dX1_formOf_36 rfl ?_
          refine v_iconst dX1_formOf_37 ?_
          refine v_icmp_gt hx ⟨by decide, by decide⟩ dX1_formOf_38 (fun h10 => ?_) (fun h10 => ?_)
          · refine v_bipush dX1_formOf_47 (by decide) ?_
            exact v_iret rfl (by decide) (by decide) ⟨by decide, by decide⟩ dX1_formOf_49 ⟨(by unfold formO; first | (exfalso; omega) | rw [if_pos (by omega)] | rw [if_neg (by omega), if_pos (by omega)] | rw [if_neg (by omega), if_neg (by omega), if_pos (by omega)] | rw [if_neg (by omega), if_neg (by omega), if_neg (by omega), if_pos (by omega)] | rw [if_neg (by omega), if_neg (by omega), if_neg (by omega), if_neg (by omega)]), rfl, rfl⟩
          · refine v_iload_n dX1_formOf_41 rfl ?_
            refine v_bipush dX1_formOf_42 (by decide) ?_
            refine v_icmp_ge hx ⟨by decide, by decide⟩ dX1_formOf_44 (fun h11 => ?_) (fun h11 => ?_)
            · refine v_iload_n dX1_formOf_50 rfl ?_
              refine v_if_ne hx dX1_formOf_51 (fun h12 => ?_) (fun h12 => ?_)
              · refine v_iload_n dX1_formOf_56 rfl ?_
                refine v_if_le hx dX1_formOf_57 (fun h13 => ?_) (fun h13 => ?_)
                · refine v_iconst dX1_formOf_66 ?_
                  refine v_iload_n dX1_formOf_67 rfl ?_
                  refine v_isub dX1_formOf_68 ?_
                  exact v_iret rfl (by decide) (by decide) ⟨by omega, by omega⟩ dX1_formOf_69 ⟨(by unfold formO; first | (exfalso; omega) | rw [if_pos (by omega)] | rw [if_neg (by omega), if_pos (by omega)] | rw [if_neg (by omega), if_neg (by omega), if_pos (by omega)] | rw [if_neg (by omega), if_neg (by omega), if_neg (by omega), if_pos (by omega)] | rw [if_neg (by omega), if_neg (by omega), if_neg (by omega), if_neg (by omega)]), rfl, rfl⟩
                · refine v_iconst dX1_formOf_60 ?_
                  refine v_iload_n dX1_formOf_61 rfl ?_
                  refine v_iadd dX1_formOf_62 ?_
                  refine v_goto dX1_formOf_63 ?_
                  exact v_iret rfl (by decide) (by decide) ⟨by omega, by omega⟩ dX1_formOf_69 ⟨(by unfold formO; first | (exfalso; omega) | rw [if_pos (by omega)] | rw [if_neg (by omega), if_pos (by omega)] | rw [if_neg (by omega), if_neg (by omega), if_pos (by omega)] | rw [if_neg (by omega), if_neg (by omega), if_neg (by omega), if_pos (by omega)] | rw [if_neg (by omega), if_neg (by omega), if_neg (by omega), if_neg (by omega)]), rfl, rfl⟩
              · refine v_iconst dX1_formOf_54 ?_
                exact v_iret rfl (by decide) (by decide) ⟨by decide, by decide⟩ dX1_formOf_55 ⟨(by unfold formO; first | (exfalso; omega) | rw [if_pos (by omega)] | rw [if_neg (by omega), if_pos (by omega)] | rw [if_neg (by omega), if_neg (by omega), if_pos (by omega)] | rw [if_neg (by omega), if_neg (by omega), if_neg (by omega), if_pos (by omega)] | rw [if_neg (by omega), if_neg (by omega), if_neg (by omega), if_neg (by omega)]), rfl, rfl⟩
            · refine v_bipush dX1_formOf_47 (by decide) ?_
              exact v_iret rfl (by decide) (by decide) ⟨by decide, by decide⟩ dX1_formOf_49 ⟨(by unfold formO; first | (exfalso; omega) | rw [if_pos (by omega)] | rw [if_neg (by omega), if_pos (by omega)] | rw [if_neg (by omega), if_neg (by omega), if_pos (by omega)] | rw [if_neg (by omega), if_neg (by omega), if_neg (by omega), if_pos (by omega)] | rw [if_neg (by omega), if_neg (by omega), if_neg (by omega), if_neg (by omega)]), rfl, rfl⟩
      · refine v_aload_n dX1_formOf_20 rfl ?_
        refine v_Vb (tX2_hasLongOnTop hF0 hφ0) kX1_99 (by assumption) rfl rfl ⟨by decide, by decide⟩ ⟨by decide, by decide⟩ (Nat.le_of_ble_eq_true rfl) dX1_formOf_21 (fun h14 => ?_) (fun h14 => ?_)
        · refine v_if_eq ⟨by decide, by decide⟩ dX1_formOf_24 (fun h => by exfalso; omega) (fun hb24 => ?_)
          refine v_iconst dX1_formOf_27 ?_
          exact v_iret rfl (by decide) (by decide) ⟨by decide, by decide⟩ dX1_formOf_28 ⟨(by unfold formO; first | (exfalso; omega) | rw [if_pos (by omega)] | rw [if_neg (by omega), if_pos (by omega)] | rw [if_neg (by omega), if_neg (by omega), if_pos (by omega)] | rw [if_neg (by omega), if_neg (by omega), if_neg (by omega), if_pos (by omega)] | rw [if_neg (by omega), if_neg (by omega), if_neg (by omega), if_neg (by omega)]), rfl, rfl⟩
        · refine v_if_eq ⟨by decide, by decide⟩ dX1_formOf_24 (fun hb24 => ?_) (fun h => by exfalso; omega)
          refine v_aload_n dX1_formOf_29 rfl ?_
          refine v_getI' (v := φ.1) hd fX1_96 rfl (by assumption) dX1_formOf_30 ?_
          refine v_if_ne ⟨by omega, by omega⟩ dX1_formOf_33 (fun h15 => ?_) (fun h15 => ?_)
          · refine v_bipush dX1_formOf_47 (by decide) ?_
            exact v_iret rfl (by decide) (by decide) ⟨by decide, by decide⟩ dX1_formOf_49 ⟨(by unfold formO; first | (exfalso; omega) | rw [if_pos (by omega)] | rw [if_neg (by omega), if_pos (by omega)] | rw [if_neg (by omega), if_neg (by omega), if_pos (by omega)] | rw [if_neg (by omega), if_neg (by omega), if_neg (by omega), if_pos (by omega)] | rw [if_neg (by omega), if_neg (by omega), if_neg (by omega), if_neg (by omega)]), rfl, rfl⟩
          · refine v_iload_n dX1_formOf_36 rfl ?_
            refine v_iconst dX1_formOf_37 ?_
            refine v_icmp_gt hx ⟨by decide, by decide⟩ dX1_formOf_38 (fun h16 => ?_) (fun h16 => ?_)
            · refine v_bipush dX1_formOf_47 (by decide) ?_
              exact v_iret rfl (by decide) (by decide) ⟨by decide, by decide⟩ dX1_formOf_49 ⟨(by unfold formO; first | (exfalso; omega) | rw [if_pos (by omega)] | rw [if_neg (by omega), if_pos (by omega)] | rw [if_neg (by omega), if_neg (by omega), if_pos (by omega)] | rw [if_neg (by omega), if_neg (by omega), if_neg (by omega), if_pos (by omega)] | rw [if_neg (by omega), if_neg (by omega), if_neg (by omega), if_neg (by omega)]), rfl, rfl⟩
            · refine v_iload_n dX1_formOf_41 rfl ?_
              refine v_bipush dX1_formOf_42 (by decide) ?_
              refine v_icmp_ge hx ⟨by decide, by decide⟩ dX1_formOf_44 (fun h17 => ?_) (fun h17 => ?_)
              · refine v_iload_n dX1_formOf_50 rfl ?_
                refine v_if_ne hx dX1_formOf_51 (fun h18 => ?_) (fun h18 => ?_)
                · refine v_iload_n dX1_formOf_56 rfl ?_
                  refine v_if_le hx dX1_formOf_57 (fun h19 => ?_) (fun h19 => ?_)
                  · refine v_iconst dX1_formOf_66 ?_
                    refine v_iload_n dX1_formOf_67 rfl ?_
                    refine v_isub dX1_formOf_68 ?_
                    exact v_iret rfl (by decide) (by decide) ⟨by omega, by omega⟩ dX1_formOf_69 ⟨(by unfold formO; first | (exfalso; omega) | rw [if_pos (by omega)] | rw [if_neg (by omega), if_pos (by omega)] | rw [if_neg (by omega), if_neg (by omega), if_pos (by omega)] | rw [if_neg (by omega), if_neg (by omega), if_neg (by omega), if_pos (by omega)] | rw [if_neg (by omega), if_neg (by omega), if_neg (by omega), if_neg (by omega)]), rfl, rfl⟩
                  · refine v_iconst dX1_formOf_60 ?_
                    refine v_iload_n dX1_formOf_61 rfl ?_
                    refine v_iadd dX1_formOf_62 ?_
                    refine v_goto dX1_formOf_63 ?_
                    exact v_iret rfl (by decide) (by decide) ⟨by omega, by omega⟩ dX1_formOf_69 ⟨(by unfold formO; first | (exfalso; omega) | rw [if_pos (by omega)] | rw [if_neg (by omega), if_pos (by omega)] | rw [if_neg (by omega), if_neg (by omega), if_pos (by omega)] | rw [if_neg (by omega), if_neg (by omega), if_neg (by omega), if_pos (by omega)] | rw [if_neg (by omega), if_neg (by omega), if_neg (by omega), if_neg (by omega)]), rfl, rfl⟩
                · refine v_iconst dX1_formOf_54 ?_
                  exact v_iret rfl (by decide) (by decide) ⟨by decide, by decide⟩ dX1_formOf_55 ⟨(by unfold formO; first | (exfalso; omega) | rw [if_pos (by omega)] | rw [if_neg (by omega), if_pos (by omega)] | rw [if_neg (by omega), if_neg (by omega), if_pos (by omega)] | rw [if_neg (by omega), if_neg (by omega), if_neg (by omega), if_pos (by omega)] | rw [if_neg (by omega), if_neg (by omega), if_neg (by omega), if_neg (by omega)]), rfl, rfl⟩
              · refine v_bipush dX1_formOf_47 (by decide) ?_
                exact v_iret rfl (by decide) (by decide) ⟨by decide, by decide⟩ dX1_formOf_49 ⟨(by unfold formO; first | (exfalso; omega) | rw [if_pos (by omega)] | rw [if_neg (by omega), if_pos (by omega)] | rw [if_neg (by omega), if_neg (by omega), if_pos (by omega)] | rw [if_neg (by omega), if_neg (by omega), if_neg (by omega), if_pos (by omega)] | rw [if_neg (by omega), if_neg (by omega), if_neg (by omega), if_neg (by omega)]), rfl, rfl⟩
