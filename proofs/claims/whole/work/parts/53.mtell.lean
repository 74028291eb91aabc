theorem tX9_isMethod {E : w_E} {G : w_Sh} {I : w_Mm} {y : Nat} {s : xS} (hY : isY G y) (hy : yOK I y s) {k : Int} (hk : inR k) : w_Cb E mX9_isMethod 1 [.ref y, iv k] G I (fnd s k) := by
  obtain ⟨hTy, hYr⟩ := hY
  have hy0 := hy
  obtain ⟨hQ, hy3, hy6, hym, hyz⟩ := hy
  have hQ0 := hQ
  obtain ⟨hq0, hq2, hq16, hqF, hch⟩ := hQ
  refine w_Ct.of (ls := [some (.ref y), some (iv k)]) (by decide +kernel) (Nat.le_of_ble_eq_true rfl) rfl rfl (fun rng => ?_)
  refine v_iload_n dX9_isMethod_0 rfl ?_
  refine v_iconst dX9_isMethod_1 ?_
  refine v_aload_n dX9_isMethod_2 rfl ?_
  refine v_getI' (v := ((xn s : Nat) : Int)) hy3 fX9_133 rfl hTy dX9_isMethod_3 ?_
  refine v_iconst dX9_isMethod_6 ?_
  refine v_isub dX9_isMethod_7 ?_
  refine v_Sb (tX9_in hk ⟨by decide, by decide⟩ ⟨by omega, by omega⟩) kX9_99 rfl rfl ⟨by decide, by decide⟩ ⟨by decide, by decide⟩ (Nat.le_of_ble_eq_true rfl) dX9_isMethod_8 (fun h1 => ?_) (fun h1 => ?_)
  · exact v_zret rfl (by decide) (by decide) (Or.inr rfl) dX9_isMethod_11 ⟨rfl, rfl, Or.inl ⟨rfl, by omega⟩⟩
  · exact v_zret rfl (by decide) (by decide) (Or.inl rfl) dX9_isMethod_11 ⟨rfl, rfl, Or.inr ⟨rfl, by omega⟩⟩
theorem y_cls {I : w_Mm} {y : Nat} {s : xS} {p : Int} (h : yOK I y s) (hp : p = -1 ∨ (hasC s.1 p ∧ s.1.2.2 p.toNat = 0)) (h6 : s.1.1 < 16) {J : w_Mm} {z : Int} (hz : z = if p = -1 then 1 else 0) (eJ : J = w_up (w_up (w_up I (y + 1) s.1.1 p) (y + 2) s.1.1 z) y 0 ((s.1.1 : Int) + 1)) : yOK J y (addC s.1 p, s.2) ∧ offB I J y := by
  have o : ∀ a k, ¬ ((a = y + 1 ∨ a = y + 2) ∧ k = s.1.1) → ¬ (a = y ∧ k = 0) → J a k = I a k := fun a k u1 u2 => by rw [eJ, w_up_n u2, w_up_n (by omega), w_up_n (by omega)]
  obtain ⟨⟨q1, q2, q3, q4, q5⟩, h2, h3, h4, h5⟩ := h
  have hf : ∀ j, j < s.1.1 → (addC s.1 p).2.2 j = s.1.2.2 j := fun j hj => uN_n (by omega)
  have hb : ∀ c d, c < s.1.1 → (bitC (addC s.1 p) c d ↔ bitC s.1 c d) := fun c d hc => by
    show (uN s.1.2.1 s.1.1 _ c) / 2 ^ d % 2 = 1 ↔ _
    rw [uN_n (by omega)]
  have hJ1 : ∀ j, j < s.1.1 → J (y + 1) j = I (y + 1) j := fun j hj => o _ _ (by omega) (by omega)
  have e1 : J (y + 1) s.1.1 = p := by rw [eJ, w_up_n (by omega), w_up_n (by omega), w_up_s]
  have ef : (addC s.1 p).2.2 s.1.1 = z := by rw [hz]; exact uN_s
  have eb : ∀ d, bitC (addC s.1 p) s.1.1 d ↔ (d = s.1.1 ∨ (if hasC s.1 p then s.1.2.1 p.toNat else 1) / 2 ^ d % 2 = 1) := fun d => by
    show (uN s.1.2.1 s.1.1 _ s.1.1) / 2 ^ d % 2 = 1 ↔ _
    rw [uN_s, bit_or, bit_pow]
  refine ⟨⟨⟨by rw [eJ, w_up_s]; rfl, show 2 ≤ s.1.1 + 1 by omega, h6, fun j hj => ?_, ?_⟩, (o _ _ (by omega) (by omega)).trans h2, h3, fun i hi => (h4 i hi).off (fun a k u => ?_), fun i hi hi6 => ?_⟩, fun a k u => o _ _ (by omega) (by omega)⟩
  · have hj' : j < s.1.1 + 1 := hj
    by_cases e : j = s.1.1
    · subst e
      refine ⟨by rw [ef, eJ, w_up_n (by omega), w_up_s], ?_⟩
      rw [ef, hz]
      split
      · exact Or.inr rfl
      · exact Or.inl rfl
    · rw [hf j (by omega)]
      exact ⟨(o _ _ (by omega) (by omega)).trans (q4 j (by omega)).1, (q4 j (by omega)).2⟩
  · obtain ⟨c1, c2, c3, c4⟩ := q5
    refine ⟨(hf 0 (by omega)).trans c1, (hJ1 0 (by omega)).trans c2, fun d => (hb 0 d (by omega)).trans (c3 d), fun c hc1 hc2 => ?_⟩
    have hc2' : c < s.1.1 + 1 := hc2
    by_cases e : c = s.1.1
    · subst e
      rw [e1, ef]
      rcases hp with hp | ⟨hp, hp2⟩
      · refine Or.inl ⟨by rw [hz, if_pos hp], hp, fun d => (eb d).trans ?_⟩
        rw [if_neg (by omega)]
        have := bit_pow 0 d
        rw [Nat.pow_zero] at this
        rw [this]
      · refine Or.inr ⟨by rw [hz, if_neg (by omega)], hp.1, hp.2, (hf _ (by omega)).trans hp2, fun d => (eb d).trans ?_⟩
        rw [if_pos hp]
        exact or_congr Iff.rfl (hb _ d (by omega)).symm
    · rw [hf c (by omega), hJ1 c (by omega)]
      rcases c4 c hc1 (by omega) with ⟨a1, a2, a3⟩ | ⟨a1, a2, a3, a4, a5⟩
      · exact Or.inl ⟨a1, a2, fun d => (hb c d (by omega)).trans (a3 d)⟩
      · exact Or.inr ⟨a1, a2, a3, (hf _ (by omega)).trans a4, fun d => (hb c d (by omega)).trans ((a5 d).trans (or_congr Iff.rfl (hb _ d (by omega)).symm))⟩
  · unfold own at u
    exact o _ _ (by omega) (by omega)
  · obtain ⟨z1, z2, z3, z4, z5⟩ := h5 i hi hi6
    exact ⟨(o _ _ (by omega) (by omega)).trans z1, (o _ _ (by omega) (by omega)).trans z2, (o _ _ (by omega) (by omega)).trans z3, (o _ _ (by omega) (by omega)).trans z4, fun k hk => (o _ _ (by omega) (by omega)).trans (z5 k hk)⟩
theorem tX9_cls {E : w_E} {G : w_Sh} {I : w_Mm} {y : Nat} {s : xS} (hY : isY G y) (hy : yOK I y s) {p : Int} (hp : inR p) : w_Ct E mX9_cls 2 [.ref y, iv p] G I 0 0 (w_Pi (fun r G' J => G' = G ∧ r = (xCls s p).1 ∧ yOK J y (xCls s p).2 ∧ offB I J y)) := by
  obtain ⟨hTy, hYr⟩ := hY
  have hy0 := hy
  obtain ⟨hQ, hy3, hy6, hym, hyz⟩ := hy
  have hQ0 := hQ
  obtain ⟨hq0, hq2, hq16, hqF, hch⟩ := hQ
  refine w_Ct.of (ls := [some (.ref y), some (iv p)]) (by decide +kernel) (Nat.le_of_ble_eq_true rfl) rfl rfl (fun rng => ?_)
  refine v_iload_n dX9_cls_0 rfl ?_
  refine v_iconst dX9_cls_1 ?_
  refine v_icmp_eq hp ⟨by decide, by decide⟩ dX9_cls_2 (fun h1 => ?_) (fun h1 => ?_)
  · refine v_aload_n dX9_cls_25 rfl ?_
    refine v_getI' (v := ((s.1.1 : Nat) : Int)) hq0 fX9_7 rfl hTy dX9_cls_26 ?_
    refine v_bipush dX9_cls_29 (by decide) ?_
    refine v_icmp_ne ⟨by omega, by omega⟩ ⟨by decide, by decide⟩ dX9_cls_31 (fun h2 => ?_) (fun h2 => ?_)
    · refine v_aload_n dX9_cls_37 rfl ?_
      refine v_getR fX9_13 rfl hTy (hYr 0 _ rfl).2 dX9_cls_38 ?_
      refine v_aload_n dX9_cls_41 rfl ?_
      refine v_getI' (v := ((s.1.1 : Nat) : Int)) hq0 fX9_7 rfl hTy dX9_cls_42 ?_
      refine v_iload_n dX9_cls_45 rfl ?_
      refine v_iast (i := s.1.1) (show G.1 (y + 1) = (10, 16) from (hYr 0 _ rfl).1) (by omega) (by omega) (by omega) hp dX9_cls_46 ?_
      have rng3 := w_rng (a := y + 1) (f := s.1.1) rng (show inR (p) from hp)
      refine v_aload_n dX9_cls_47 rfl ?_
      refine v_getR fX9_17 rfl hTy (hYr 1 _ rfl).2 dX9_cls_48 ?_
      refine v_aload_n dX9_cls_51 rfl ?_
      refine v_getI' (v := ((s.1.1 : Nat) : Int)) (by rw [w_up_n (by omega), hq0]) fX9_7 rfl hTy dX9_cls_52 ?_
      refine v_iload_n dX9_cls_55 rfl ?_
      refine v_iconst dX9_cls_56 ?_
      refine v_icmp_ne hp ⟨by decide, by decide⟩ dX9_cls_57 (fun h4 => ?_) (fun h4 => ?_)
      · refine v_iconst dX9_cls_64 ?_
        refine v_zast (i := s.1.1) (show G.1 (y + 2) = (11, 16) from (hYr 1 _ rfl).1) (by omega) (by omega) (by omega) (Or.inl rfl) dX9_cls_65 ?_
        have rng5 := w_rng (a := y + 2) (f := s.1.1) rng3 (show inR (0) from ⟨by decide, by decide⟩)
        refine v_aload_n dX9_cls_66 rfl ?_
        refine v_dup dX9_cls_67 rfl ?_
        refine v_getI' (v := ((s.1.1 : Nat) : Int)) (by rw [w_up_n (by omega), w_up_n (by omega), hq0]) fX9_7 rfl hTy dX9_cls_68 ?_
        refine v_iconst dX9_cls_71 ?_
        refine v_iadd dX9_cls_72 ?_
        refine v_putI fX9_7 p9_0 rfl ⟨by omega, by omega⟩ hTy dX9_cls_73 ?_
        have rng6 := w_rng (a := y) (f := 0) rng5 (show inR ((((s.1.1 : Nat) : Int) + 1)) from ⟨by omega, by omega⟩)
        refine v_aload_n dX9_cls_76 rfl ?_
        refine v_getI' (v := (((s.1.1 : Nat) : Int) + 1)) (by rw [w_up_s]) fX9_7 rfl hTy dX9_cls_77 ?_
        refine v_iconst dX9_cls_80 ?_
        refine v_isub dX9_cls_81 ?_
        rw [show xCls s p = ((s.1.1 : Int), (addC s.1 p, s.2)) by unfold xCls; rw [if_neg (by omega), if_neg (by omega)]]
        obtain ⟨g1, g2⟩ := y_cls (p := p) hy0 (by omega) (by omega) (z := 0) (by rw [if_neg (by omega)]) rfl
        exact v_iret rfl (by decide) (by decide) ⟨by omega, by omega⟩ dX9_cls_82 ⟨rfl, by omega, g1, g2⟩
      · refine v_iconst dX9_cls_60 ?_
        refine v_goto dX9_cls_61 ?_
        refine v_zast (i := s.1.1) (show G.1 (y + 2) = (11, 16) from (hYr 1 _ rfl).1) (by omega) (by omega) (by omega) (Or.inr rfl) dX9_cls_65 ?_
        have rng7 := w_rng (a := y + 2) (f := s.1.1) rng3 (show inR (1) from ⟨by decide, by decide⟩)
        refine v_aload_n dX9_cls_66 rfl ?_
        refine v_dup dX9_cls_67 rfl ?_
        refine v_getI' (v := ((s.1.1 : Nat) : Int)) (by rw [w_up_n (by omega), w_up_n (by omega), hq0]) fX9_7 rfl hTy dX9_cls_68 ?_
        refine v_iconst dX9_cls_71 ?_
        refine v_iadd dX9_cls_72 ?_
        refine v_putI fX9_7 p9_0 rfl ⟨by omega, by omega⟩ hTy dX9_cls_73 ?_
        have rng8 := w_rng (a := y) (f := 0) rng7 (show inR ((((s.1.1 : Nat) : Int) + 1)) from ⟨by omega, by omega⟩)
        refine v_aload_n dX9_cls_76 rfl ?_
        refine v_getI' (v := (((s.1.1 : Nat) : Int) + 1)) (by rw [w_up_s]) fX9_7 rfl hTy dX9_cls_77 ?_
        refine v_iconst dX9_cls_80 ?_
        refine v_isub dX9_cls_81 ?_
        rw [show xCls s p = ((s.1.1 : Int), (addC s.1 p, s.2)) by unfold xCls; rw [if_neg (by omega), if_neg (by omega)]]
        obtain ⟨g1, g2⟩ := y_cls (p := p) hy0 (by omega) (by omega) (z := 1) (by rw [if_pos (by omega)]) rfl
        exact v_iret rfl (by decide) (by decide) ⟨by omega, by omega⟩ dX9_cls_82 ⟨rfl, by omega, g1, g2⟩
    · refine v_bipush dX9_cls_34 (by decide) ?_
      rw [show xCls s p = (-4, s) by unfold xCls; (try simp only [Int.toNat_natCast]); rw [if_neg (by omega), if_pos (by omega)]]
      exact v_iret rfl (by decide) (by decide) ⟨by decide, by decide⟩ dX9_cls_36 ⟨rfl, rfl, hy0, fun _ _ _ => rfl⟩
  · refine v_aload_n dX9_cls_5 rfl ?_
    refine v_iload_n dX9_cls_6 rfl ?_
    refine v_Vb (tX9_isClass (⟨hTy, hYr⟩ : isY G y) hQ0 hp) kX9_103 hTy rfl rfl ⟨by decide, by decide⟩ ⟨by decide, by decide⟩ (Nat.le_of_ble_eq_true rfl) dX9_cls_7 (fun h9 => ?_) (fun h9 => ?_)
    · refine v_if_eq ⟨by decide, by decide⟩ dX9_cls_10 (fun h => by exfalso; omega) (fun hb10 => ?_)
      refine v_aload_n dX9_cls_13 rfl ?_
      refine v_getR fX9_17 rfl hTy (hYr 1 _ rfl).2 dX9_cls_14 ?_
      refine v_iload_n dX9_cls_17 rfl ?_
      refine v_zald' (i := (p).toNat) (v := s.1.2.2 (p).toNat) (hqF (p).toNat (by omega)).1 (show G.1 (y + 2) = (11, 16) from (hYr 1 _ rfl).1) (by omega) (by omega) (by omega) dX9_cls_18 ?_
      refine v_if_eq (by have := (hqF (p).toNat (by omega)).2; exact ⟨by omega, by omega⟩) dX9_cls_19 (fun h10 => ?_) (fun h10 => ?_)
      · refine v_aload_n dX9_cls_25 rfl ?_
        refine v_getI' (v := ((s.1.1 : Nat) : Int)) hq0 fX9_7 rfl hTy dX9_cls_26 ?_
        refine v_bipush dX9_cls_29 (by decide) ?_
        refine v_icmp_ne ⟨by omega, by omega⟩ ⟨by decide, by decide⟩ dX9_cls_31 (fun h11 => ?_) (fun h11 => ?_)
        · refine v_aload_n dX9_cls_37 rfl ?_
          refine v_getR fX9_13 rfl hTy (hYr 0 _ rfl).2 dX9_cls_38 ?_
          refine v_aload_n dX9_cls_41 rfl ?_
          refine v_getI' (v := ((s.1.1 : Nat) : Int)) hq0 fX9_7 rfl hTy dX9_cls_42 ?_
          refine v_iload_n dX9_cls_45 rfl ?_
          refine v_iast (i := s.1.1) (show G.1 (y + 1) = (10, 16) from (hYr 0 _ rfl).1) (by omega) (by omega) (by omega) hp dX9_cls_46 ?_
          have rng12 := w_rng (a := y + 1) (f := s.1.1) rng (show inR (p) from hp)
          refine v_aload_n dX9_cls_47 rfl ?_
          refine v_getR fX9_17 rfl hTy (hYr 1 _ rfl).2 dX9_cls_48 ?_
          refine v_aload_n dX9_cls_51 rfl ?_
          refine v_getI' (v := ((s.1.1 : Nat) : Int)) (by rw [w_up_n (by omega), hq0]) fX9_7 rfl hTy dX9_cls_52 ?_
          refine v_iload_n dX9_cls_55 rfl ?_
          refine v_iconst dX9_cls_56 ?_
          refine v_icmp_ne hp ⟨by decide, by decide⟩ dX9_cls_57 (fun h13 => ?_) (fun h13 => ?_)
          · refine v_iconst dX9_cls_64 ?_
            refine v_zast (i := s.1.1) (show G.1 (y + 2) = (11, 16) from (hYr 1 _ rfl).1) (by omega) (by omega) (by omega) (Or.inl rfl) dX9_cls_65 ?_
            have rng14 := w_rng (a := y + 2) (f := s.1.1) rng12 (show inR (0) from ⟨by decide, by decide⟩)
            refine v_aload_n dX9_cls_66 rfl ?_
            refine v_dup dX9_cls_67 rfl ?_
            refine v_getI' (v := ((s.1.1 : Nat) : Int)) (by rw [w_up_n (by omega), w_up_n (by omega), hq0]) fX9_7 rfl hTy dX9_cls_68 ?_
            refine v_iconst dX9_cls_71 ?_
            refine v_iadd dX9_cls_72 ?_
            refine v_putI fX9_7 p9_0 rfl ⟨by omega, by omega⟩ hTy dX9_cls_73 ?_
            have rng15 := w_rng (a := y) (f := 0) rng14 (show inR ((((s.1.1 : Nat) : Int) + 1)) from ⟨by omega, by omega⟩)
            refine v_aload_n dX9_cls_76 rfl ?_
            refine v_getI' (v := (((s.1.1 : Nat) : Int) + 1)) (by rw [w_up_s]) fX9_7 rfl hTy dX9_cls_77 ?_
            refine v_iconst dX9_cls_80 ?_
            refine v_isub dX9_cls_81 ?_
            rw [show xCls s p = ((s.1.1 : Int), (addC s.1 p, s.2)) by unfold xCls; rw [if_neg (by omega), if_neg (by omega)]]
            obtain ⟨g1, g2⟩ := y_cls (p := p) hy0 (by omega) (by omega) (z := 0) (by rw [if_neg (by omega)]) rfl
            exact v_iret rfl (by decide) (by decide) ⟨by omega, by omega⟩ dX9_cls_82 ⟨rfl, by omega, g1, g2⟩
          · refine v_iconst dX9_cls_60 ?_
            refine v_goto dX9_cls_61 ?_
            refine v_zast (i := s.1.1) (show G.1 (y + 2) = (11, 16) from (hYr 1 _ rfl).1) (by omega) (by omega) (by omega) (Or.inr rfl) dX9_cls_65 ?_
            have rng16 := w_rng (a := y + 2) (f := s.1.1) rng12 (show inR (1) from ⟨by decide, by decide⟩)
            refine v_aload_n dX9_cls_66 rfl ?_
            refine v_dup dX9_cls_67 rfl ?_
            refine v_getI' (v := ((s.1.1 : Nat) : Int)) (by rw [w_up_n (by omega), w_up_n (by omega), hq0]) fX9_7 rfl hTy dX9_cls_68 ?_
            refine v_iconst dX9_cls_71 ?_
            refine v_iadd dX9_cls_72 ?_
            refine v_putI fX9_7 p9_0 rfl ⟨by omega, by omega⟩ hTy dX9_cls_73 ?_
            have rng17 := w_rng (a := y) (f := 0) rng16 (show inR ((((s.1.1 : Nat) : Int) + 1)) from ⟨by omega, by omega⟩)
            refine v_aload_n dX9_cls_76 rfl ?_
            refine v_getI' (v := (((s.1.1 : Nat) : Int) + 1)) (by rw [w_up_s]) fX9_7 rfl hTy dX9_cls_77 ?_
            refine v_iconst dX9_cls_80 ?_
            refine v_isub dX9_cls_81 ?_
            rw [show xCls s p = ((s.1.1 : Int), (addC s.1 p, s.2)) by unfold xCls; rw [if_neg (by omega), if_neg (by omega)]]
            obtain ⟨g1, g2⟩ := y_cls (p := p) hy0 (by omega) (by omega) (z := 1) (by rw [if_pos (by omega)]) rfl
            exact v_iret rfl (by decide) (by decide) ⟨by omega, by omega⟩ dX9_cls_82 ⟨rfl, by omega, g1, g2⟩
        · refine v_bipush dX9_cls_34 (by decide) ?_
          rw [show xCls s p = (-4, s) by unfold xCls; (try simp only [Int.toNat_natCast]); rw [if_neg (by omega), if_pos (by omega)]]
          exact v_iret rfl (by decide) (by decide) ⟨by decide, by decide⟩ dX9_cls_36 ⟨rfl, rfl, hy0, fun _ _ _ => rfl⟩
      · refine v_bipush dX9_cls_22 (by decide) ?_
        rw [show xCls s p = (-2, s) by unfold xCls; (try simp only [Int.toNat_natCast]); rw [if_pos (by omega)]]
        exact v_iret rfl (by decide) (by decide) ⟨by decide, by decide⟩ dX9_cls_24 ⟨rfl, rfl, hy0, fun _ _ _ => rfl⟩
    · refine v_if_eq ⟨by decide, by decide⟩ dX9_cls_10 (fun hb10 => ?_) (fun h => by exfalso; omega)
      refine v_bipush dX9_cls_22 (by decide) ?_
      rw [show xCls s p = (-2, s) by unfold xCls; (try simp only [Int.toNat_natCast]); rw [if_pos (by omega)]]
      exact v_iret rfl (by decide) (by decide) ⟨by decide, by decide⟩ dX9_cls_24 ⟨rfl, rfl, hy0, fun _ _ _ => rfl⟩
theorem tX9_argument {E : w_E} {G : w_Sh} {I : w_Mm} {y : Nat} {s : xS} (hY : isY G y) (hy : yOK I y s) {m0 : Int} (hm : inR m0) {kd : Int} (hkd : inR kd) : w_Ct E mX9_argument 3 [.ref y, iv m0, iv kd] G I 0 0 (w_Pi (fun r G' J => G' = G ∧ r = (xArg s m0 kd).1 ∧ yOK J y (xArg s m0 kd).2 ∧ offB I J y)) := by
  obtain ⟨hTy, hYr⟩ := hY
  have hy0 := hy
  obtain ⟨hQ, hy3, hy6, hym, hyz⟩ := hy
  have hQ0 := hQ
  obtain ⟨hq0, hq2, hq16, hqF, hch⟩ := hQ
  refine w_Ct.of (ls := [some (.ref y), some (iv m0), some (iv kd), none]) (by decide +kernel) (Nat.le_of_ble_eq_true rfl) rfl rfl (fun rng => ?_)
  by_cases hf : fnd s m0
  · obtain ⟨i, rfl⟩ : ∃ i : Nat, m0 = (i : Int) := ⟨m0.toNat, by omega⟩
    have hi : i < xn s := by omega
    have hym0 := hym i hi
    obtain ⟨hmM, hd15, hd01, hdK⟩ := hym0
    have hmM0 := hmM
    obtain ⟨hm3, hm4, hm8, hmB, hm6, hmn, hmo, hm10, hmg, hmG⟩ := hmM
    refine v_aload_n dX9_argument_0 rfl ?_
    refine v_iload_n dX9_argument_1 rfl ?_
    refine v_Vb (tX9_isMethod (⟨hTy, hYr⟩ : isY G y) hy0 ⟨by omega, by omega⟩) kX9_139 hTy rfl rfl ⟨by decide, by decide⟩ ⟨by decide, by decide⟩ (Nat.le_of_ble_eq_true rfl) dX9_argument_2 (fun h1 => ?_) (fun h1 => by exfalso; omega)
    refine v_if_eq ⟨by decide, by decide⟩ dX9_argument_5 (fun h => by exfalso; omega) (fun hb5 => ?_)
    refine v_aload_n dX9_argument_8 rfl ?_
    refine v_iload_n dX9_argument_9 rfl ?_
    refine v_Vb (tX9_isArgument (⟨hTy, hYr⟩ : isY G y) hQ0 hkd) kX9_136 hTy rfl rfl ⟨by decide, by decide⟩ ⟨by decide, by decide⟩ (Nat.le_of_ble_eq_true rfl) dX9_argument_10 (fun h2 => ?_) (fun h2 => ?_)
    · refine v_if_ne ⟨by decide, by decide⟩ dX9_argument_13 (fun hb13 => ?_) (fun h => by exfalso; omega)
      refine v_iload_n dX9_argument_19 rfl ?_
      refine v_iconst dX9_argument_20 ?_
      refine v_icmp_ne hkd ⟨by decide, by decide⟩ dX9_argument_21 (fun h3 => ?_) (fun h3 => ?_)
      · refine v_iconst dX9_argument_28 ?_
        refine v_istore_n dX9_argument_29 (by decide) rfl ?_
        refine v_aload_n dX9_argument_30 rfl ?_
        refine v_getR fX9_24 rfl hTy (hYr 3 _ rfl).2 dX9_argument_31 ?_
        refine v_iload_n dX9_argument_34 rfl ?_
        refine v_iald' (i := i) (v := ((mNA (xπ s i) : Nat) : Int)) hm4 (show G.1 (y + 4) = (10, 6) from (hYr 3 _ rfl).1) rfl (by omega) (by omega) dX9_argument_35 ?_
        refine v_iload_n dX9_argument_36 rfl ?_
        refine v_iadd dX9_argument_37 ?_
        refine v_bipush dX9_argument_38 (by decide) ?_
        refine v_icmp_le ⟨by omega, by omega⟩ ⟨by decide, by decide⟩ dX9_argument_40 (fun h4 => ?_) (fun h4 => ?_)
        · refine v_aload_n dX9_argument_46 rfl ?_
          refine v_getR fX9_27 rfl hTy (hYr 4 _ rfl).2 dX9_argument_47 ?_
          refine v_bipush dX9_argument_50 (by decide) ?_
          refine v_iload_n dX9_argument_52 rfl ?_
          refine v_imul dX9_argument_53 ?_
          refine v_aload_n dX9_argument_54 rfl ?_
          refine v_getR fX9_24 rfl hTy (hYr 3 _ rfl).2 dX9_argument_55 ?_
          refine v_iload_n dX9_argument_58 rfl ?_
          refine v_iald' (i := i) (v := ((mNA (xπ s i) : Nat) : Int)) hm4 (show G.1 (y + 4) = (10, 6) from (hYr 3 _ rfl).1) rfl (by omega) (by omega) dX9_argument_59 ?_
          refine v_iadd dX9_argument_60 ?_
          refine v_iload_n dX9_argument_61 rfl ?_
          refine v_iast (i := ((8 * i) + mNA (xπ s i))) (show G.1 (y + 5) = (10, 48) from (hYr 4 _ rfl).1) (by omega) (by omega) (by omega) hkd dX9_argument_62 ?_
          have rng5 := w_rng (a := y + 5) (f := ((8 * i) + mNA (xπ s i))) rng (show inR (kd) from hkd)
          refine v_iload_n dX9_argument_63 rfl ?_
          refine v_iconst dX9_argument_64 ?_
          refine v_icmp_ne hkd ⟨by decide, by decide⟩ dX9_argument_65 (fun hb65 => ?_) (fun h => by exfalso; omega)
          refine v_aload_n dX9_argument_87 rfl ?_
          refine v_getR fX9_24 rfl hTy (hYr 3 _ rfl).2 dX9_argument_88 ?_
          refine v_iload_n dX9_argument_91 rfl ?_
          refine v_dup2 dX9_argument_92 rfl rfl ?_
          refine v_iald' (i := i) (v := ((mNA (xπ s i) : Nat) : Int)) (by rw [w_up_n (by omega), hm4]) (show G.1 (y + 4) = (10, 6) from (hYr 3 _ rfl).1) rfl (by omega) (by omega) dX9_argument_93 ?_
          refine v_iload_n dX9_argument_94 rfl ?_
          refine v_iadd dX9_argument_95 ?_
          refine v_iast (i := i) (show G.1 (y + 4) = (10, 6) from (hYr 3 _ rfl).1) rfl (by omega) (by omega) ⟨by omega, by omega⟩ dX9_argument_96 ?_
          have rng6 := w_rng (a := y + 4) (f := i) rng5 (show inR ((((mNA (xπ s i) : Nat) : Int) + 1)) from ⟨by omega, by omega⟩)
          refine v_aload_n dX9_argument_97 rfl ?_
          refine v_getR fX9_57 rfl hTy (hYr 14 _ rfl).2 dX9_argument_98 ?_
          refine v_iload_n dX9_argument_101 rfl ?_
          refine v_iconst dX9_argument_102 ?_
          refine v_zast (i := i) (show G.1 (y + 15) = (11, 6) from (hYr 14 _ rfl).1) rfl (by omega) (by omega) (Or.inl rfl) dX9_argument_103 ?_
          have rng7 := w_rng (a := y + 15) (f := i) rng6 (show inR (0) from ⟨by decide, by decide⟩)
          refine v_aload_n dX9_argument_104 rfl ?_
          refine v_getR fX9_24 rfl hTy (hYr 3 _ rfl).2 dX9_argument_105 ?_
          refine v_iload_n dX9_argument_108 rfl ?_
          refine v_iald' (i := i) (v := (((mNA (xπ s i) : Nat) : Int) + 1)) (by rw [w_up_n (by omega), w_up_s]) (show G.1 (y + 4) = (10, 6) from (hYr 3 _ rfl).1) rfl (by omega) (by omega) dX9_argument_109 ?_
          rw [show xArg s (i : Int) kd = ((mNA (aArg (xπ s i) kd) : Int), uM s i (aArg (xπ s i) kd) (xκ s i) (0, (xst s i).2) (xρ s)) by unfold xArg; (try simp only [Int.toNat_natCast]); rw [if_neg (by omega), if_neg (by rw [if_neg h3]; omega)]]
          obtain ⟨g1, g2, g3⟩ := y_arg1 hmM0 h3 (by omega) rfl
          exact v_iret rfl (by decide) (by decide) ⟨by omega, by omega⟩ dX9_argument_110 ⟨rfl, (by unfold aArg mNA; rw [if_neg h3]; rfl), hy0.upd g2 hi ⟨g1, g3, Or.inl rfl, fun q => absurd q (show ¬ (0 : Int) = 1 by decide)⟩, g2.B⟩
        · refine v_bipush dX9_argument_43 (by decide) ?_
          rw [show xArg s (i : Int) kd = (-4, s) by unfold xArg; (try simp only [Int.toNat_natCast]); rw [if_neg (by omega), if_pos (by rw [if_neg h3]; omega)]]
          exact v_iret rfl (by decide) (by decide) ⟨by decide, by decide⟩ dX9_argument_45 ⟨rfl, rfl, hy0, fun _ _ _ => rfl⟩
      · refine v_iconst dX9_argument_24 ?_
        refine v_goto dX9_argument_25 ?_
        refine v_istore_n dX9_argument_29 (by decide) rfl ?_
        refine v_aload_n dX9_argument_30 rfl ?_
        refine v_getR fX9_24 rfl hTy (hYr 3 _ rfl).2 dX9_argument_31 ?_
        refine v_iload_n dX9_argument_34 rfl ?_
        refine v_iald' (i := i) (v := ((mNA (xπ s i) : Nat) : Int)) hm4 (show G.1 (y + 4) = (10, 6) from (hYr 3 _ rfl).1) rfl (by omega) (by omega) dX9_argument_35 ?_
        refine v_iload_n dX9_argument_36 rfl ?_
        refine v_iadd dX9_argument_37 ?_
        refine v_bipush dX9_argument_38 (by decide) ?_
        refine v_icmp_le ⟨by omega, by omega⟩ ⟨by decide, by decide⟩ dX9_argument_40 (fun h8 => ?_) (fun h8 => ?_)
        · refine v_aload_n dX9_argument_46 rfl ?_
          refine v_getR fX9_27 rfl hTy (hYr 4 _ rfl).2 dX9_argument_47 ?_
          refine v_bipush dX9_argument_50 (by decide) ?_
          refine v_iload_n dX9_argument_52 rfl ?_
          refine v_imul dX9_argument_53 ?_
          refine v_aload_n dX9_argument_54 rfl ?_
          refine v_getR fX9_24 rfl hTy (hYr 3 _ rfl).2 dX9_argument_55 ?_
          refine v_iload_n dX9_argument_58 rfl ?_
          refine v_iald' (i := i) (v := ((mNA (xπ s i) : Nat) : Int)) hm4 (show G.1 (y + 4) = (10, 6) from (hYr 3 _ rfl).1) rfl (by omega) (by omega) dX9_argument_59 ?_
          refine v_iadd dX9_argument_60 ?_
          refine v_iload_n dX9_argument_61 rfl ?_
          refine v_iast (i := ((8 * i) + mNA (xπ s i))) (show G.1 (y + 5) = (10, 48) from (hYr 4 _ rfl).1) (by omega) (by omega) (by omega) hkd dX9_argument_62 ?_
          have rng9 := w_rng (a := y + 5) (f := ((8 * i) + mNA (xπ s i))) rng (show inR (kd) from hkd)
          refine v_iload_n dX9_argument_63 rfl ?_
          refine v_iconst dX9_argument_64 ?_
          refine v_icmp_ne hkd ⟨by decide, by decide⟩ dX9_argument_65 (fun h => by exfalso; omega) (fun hb65 => ?_)
          refine v_aload_n dX9_argument_68 rfl ?_
          refine v_getR fX9_27 rfl hTy (hYr 4 _ rfl).2 dX9_argument_69 ?_
          refine v_bipush dX9_argument_72 (by decide) ?_
          refine v_iload_n dX9_argument_74 rfl ?_
          refine v_imul dX9_argument_75 ?_
          refine v_aload_n dX9_argument_76 rfl ?_
          refine v_getR fX9_24 rfl hTy (hYr 3 _ rfl).2 dX9_argument_77 ?_
          refine v_iload_n dX9_argument_80 rfl ?_
          refine v_iald' (i := i) (v := ((mNA (xπ s i) : Nat) : Int)) (by rw [w_up_n (by omega), hm4]) (show G.1 (y + 4) = (10, 6) from (hYr 3 _ rfl).1) rfl (by omega) (by omega) dX9_argument_81 ?_
          refine v_iadd dX9_argument_82 ?_
          refine v_iconst dX9_argument_83 ?_
          refine v_iadd dX9_argument_84 ?_
          refine v_iconst dX9_argument_85 ?_
          refine v_iast (i := (((8 * i) + mNA (xπ s i)) + 1)) (show G.1 (y + 5) = (10, 48) from (hYr 4 _ rfl).1) (by omega) (by omega) (by omega) ⟨by decide, by decide⟩ dX9_argument_86 ?_
          have rng10 := w_rng (a := y + 5) (f := (((8 * i) + mNA (xπ s i)) + 1)) rng9 (show inR (3) from ⟨by decide, by decide⟩)
          refine v_aload_n dX9_argument_87 rfl ?_
          refine v_getR fX9_24 rfl hTy (hYr 3 _ rfl).2 dX9_argument_88 ?_
          refine v_iload_n dX9_argument_91 rfl ?_
          refine v_dup2 dX9_argument_92 rfl rfl ?_
          refine v_iald' (i := i) (v := ((mNA (xπ s i) : Nat) : Int)) (by rw [w_up_n (by omega), w_up_n (by omega), hm4]) (show G.1 (y + 4) = (10, 6) from (hYr 3 _ rfl).1) rfl (by omega) (by omega) dX9_argument_93 ?_
          refine v_iload_n dX9_argument_94 rfl ?_
          refine v_iadd dX9_argument_95 ?_
          refine v_iast (i := i) (show G.1 (y + 4) = (10, 6) from (hYr 3 _ rfl).1) rfl (by omega) (by omega) ⟨by omega, by omega⟩ dX9_argument_96 ?_
          have rng11 := w_rng (a := y + 4) (f := i) rng10 (show inR ((((mNA (xπ s i) : Nat) : Int) + 2)) from ⟨by omega, by omega⟩)
          refine v_aload_n dX9_argument_97 rfl ?_
          refine v_getR fX9_57 rfl hTy (hYr 14 _ rfl).2 dX9_argument_98 ?_
          refine v_iload_n dX9_argument_101 rfl ?_
          refine v_iconst dX9_argument_102 ?_
          refine v_zast (i := i) (show G.1 (y + 15) = (11, 6) from (hYr 14 _ rfl).1) rfl (by omega) (by omega) (Or.inl rfl) dX9_argument_103 ?_
          have rng12 := w_rng (a := y + 15) (f := i) rng11 (show inR (0) from ⟨by decide, by decide⟩)
          refine v_aload_n dX9_argument_104 rfl ?_
          refine v_getR fX9_24 rfl hTy (hYr 3 _ rfl).2 dX9_argument_105 ?_
          refine v_iload_n dX9_argument_108 rfl ?_
          refine v_iald' (i := i) (v := (((mNA (xπ s i) : Nat) : Int) + 2)) (by rw [w_up_n (by omega), w_up_s]) (show G.1 (y + 4) = (10, 6) from (hYr 3 _ rfl).1) rfl (by omega) (by omega) dX9_argument_109 ?_
          obtain rfl : kd = 2 := h3
          rw [show xArg s (i : Int) 2 = ((mNA (aArg (xπ s i) 2) : Int), uM s i (aArg (xπ s i) 2) (xκ s i) (0, (xst s i).2) (xρ s)) by unfold xArg; (try simp only [Int.toNat_natCast]); rw [if_neg (by omega), if_neg (by rw [if_pos (by first | rfl | trivial)]; omega)]]
          obtain ⟨g1, g2, g3⟩ := y_arg2 hmM0 (by omega) rfl
          exact v_iret rfl (by decide) (by decide) ⟨by omega, by omega⟩ dX9_argument_110 ⟨rfl, (by unfold aArg mNA; rw [if_pos (by first | rfl | trivial)]; rfl), hy0.upd g2 hi ⟨g1, g3, Or.inl rfl, fun q => absurd q (show ¬ (0 : Int) = 1 by decide)⟩, g2.B⟩
        · refine v_bipush dX9_argument_43 (by decide) ?_
          obtain rfl : kd = 2 := h3
          rw [show xArg s (i : Int) 2 = (-4, s) by unfold xArg; (try simp only [Int.toNat_natCast]); rw [if_neg (by omega), if_pos (by rw [if_pos (by first | rfl | trivial)]; omega)]]
          exact v_iret rfl (by decide) (by decide) ⟨by decide, by decide⟩ dX9_argument_45 ⟨rfl, rfl, hy0, fun _ _ _ => rfl⟩
    · refine v_if_ne ⟨by decide, by decide⟩ dX9_argument_13 (fun h => by exfalso; omega) (fun hb13 => ?_)
      refine v_bipush dX9_argument_16 (by decide) ?_
      rw [show xArg s (i : Int) kd = (-2, s) by unfold xArg; (try simp only [Int.toNat_natCast]); rw [if_pos (by omega)]]
      exact v_iret rfl (by decide) (by decide) ⟨by decide, by decide⟩ dX9_argument_18 ⟨rfl, rfl, hy0, fun _ _ _ => rfl⟩
  · refine v_aload_n dX9_argument_0 rfl ?_
    refine v_iload_n dX9_argument_1 rfl ?_
    refine v_Vb (tX9_isMethod (⟨hTy, hYr⟩ : isY G y) hy0 hm) kX9_139 hTy rfl rfl ⟨by decide, by decide⟩ ⟨by decide, by decide⟩ (Nat.le_of_ble_eq_true rfl) dX9_argument_2 (fun h1 => by exact absurd h1 hf) (fun h1 => ?_)
    refine v_if_eq ⟨by decide, by decide⟩ dX9_argument_5 (fun hb5 => ?_) (fun h => by exfalso; omega)
    refine v_bipush dX9_argument_16 (by decide) ?_
    rw [show xArg s m0 kd = (-2, s) by unfold xArg; (try simp only [Int.toNat_natCast]); rw [if_pos (by omega)]]
    exact v_iret rfl (by decide) (by decide) ⟨by decide, by decide⟩ dX9_argument_18 ⟨rfl, rfl, hy0, fun _ _ _ => rfl⟩
theorem tX9_op {E : w_E} {G : w_Sh} {I : w_Mm} {y : Nat} {s : xS} (hY : isY G y) (hy : yOK I y s) {m0 : Int} (hm : inR m0) {op a b : Int} (hop : inR op) (ha : inR a) (hb : inR b) : w_Ct E mX9_op 4 [.ref y, iv m0, iv op, iv a, iv b] G I 0 0 (w_Pi (fun r G' J => G' = G ∧ r = (xOp s m0 op a b).1 ∧ yOK J y (xOp s m0 op a b).2 ∧ offB I J y)) := by
  obtain ⟨hTy, hYr⟩ := hY
  have hy0 := hy
  obtain ⟨hQ, hy3, hy6, hym, hyz⟩ := hy
  have hQ0 := hQ
  obtain ⟨hq0, hq2, hq16, hqF, hch⟩ := hQ
  refine w_Ct.of (ls := [some (.ref y), some (iv m0), some (iv op), some (iv a), some (iv b), none]) (by decide +kernel) (Nat.le_of_ble_eq_true rfl) rfl rfl (fun rng => ?_)
  by_cases hf : fnd s m0
  · obtain ⟨i, rfl⟩ : ∃ i : Nat, m0 = (i : Int) := ⟨m0.toNat, by omega⟩
    have hi : i < xn s := by omega
    have hym0 := hym i hi
    obtain ⟨hmM, hd15, hd01, hdK⟩ := hym0
    have hmM0 := hmM
    obtain ⟨hm3, hm4, hm8, hmB, hm6, hmn, hmo, hm10, hmg, hmG⟩ := hmM
    refine v_aload_n dX9_op_0 rfl ?_
    refine v_iload_n dX9_op_1 rfl ?_
    refine v_Vb (tX9_isMethod (⟨hTy, hYr⟩ : isY G y) hy0 ⟨by omega, by omega⟩) kX9_139 hTy rfl rfl ⟨by decide, by decide⟩ ⟨by decide, by decide⟩ (Nat.le_of_ble_eq_true rfl) dX9_op_2 (fun h1 => ?_) (fun h1 => by exfalso; omega)
    refine v_if_eq ⟨by decide, by decide⟩ dX9_op_5 (fun h => by exfalso; omega) (fun hb5 => ?_)
    refine v_aload_n dX9_op_8 rfl ?_
    refine v_iload_n dX9_op_9 rfl ?_
    refine v_iload_n dX9_op_10 rfl ?_
    refine v_iload dX9_op_11 rfl ?_
    refine v_Vb (tX9_isOp (⟨hTy, hYr⟩ : isY G y) hQ0 hop ha hb) kX9_142 hTy rfl rfl ⟨by decide, by decide⟩ ⟨by decide, by decide⟩ (Nat.le_of_ble_eq_true rfl) dX9_op_13 (fun h2 => ?_) (fun h2 => ?_)
    · refine v_if_ne ⟨by decide, by decide⟩ dX9_op_16 (fun hb16 => ?_) (fun h => by exfalso; omega)
      refine v_aload_n dX9_op_22 rfl ?_
      refine v_getR fX9_30 rfl hTy (hYr 5 _ rfl).2 dX9_op_23 ?_
      refine v_iload_n dX9_op_26 rfl ?_
      refine v_iald' (i := i) (v := ((mN (xπ s i) : Nat) : Int)) hm6 (show G.1 (y + 6) = (10, 6) from (hYr 5 _ rfl).1) rfl (by omega) (by omega) dX9_op_27 ?_
      refine v_bipush dX9_op_28 (by decide) ?_
      refine v_icmp_ne ⟨by omega, by omega⟩ ⟨by decide, by decide⟩ dX9_op_30 (fun h3 => ?_) (fun h3 => ?_)
      · refine v_bipush dX9_op_36 (by decide) ?_
        refine v_iload_n dX9_op_38 rfl ?_
        refine v_imul dX9_op_39 ?_
        refine v_aload_n dX9_op_40 rfl ?_
        refine v_getR fX9_30 rfl hTy (hYr 5 _ rfl).2 dX9_op_41 ?_
        refine v_iload_n dX9_op_44 rfl ?_
        refine v_iald' (i := i) (v := ((mN (xπ s i) : Nat) : Int)) hm6 (show G.1 (y + 6) = (10, 6) from (hYr 5 _ rfl).1) rfl (by omega) (by omega) dX9_op_45 ?_
        refine v_iadd dX9_op_46 ?_
        refine v_istore dX9_op_47 (by decide) rfl ?_
        refine v_aload_n dX9_op_49 rfl ?_
        refine v_getR fX9_33 rfl hTy (hYr 6 _ rfl).2 dX9_op_50 ?_
        refine v_iload dX9_op_53 rfl ?_
        refine v_iload_n dX9_op_55 rfl ?_
        refine v_iast (i := ((40 * i) + mN (xπ s i))) (show G.1 (y + 7) = (10, 240) from (hYr 6 _ rfl).1) (by omega) (by omega) (by omega) hop dX9_op_56 ?_
        have rng4 := w_rng (a := y + 7) (f := ((40 * i) + mN (xπ s i))) rng (show inR (op) from hop)
        refine v_aload_n dX9_op_57 rfl ?_
        refine v_getR fX9_36 rfl hTy (hYr 7 _ rfl).2 dX9_op_58 ?_
        refine v_iload dX9_op_61 rfl ?_
        refine v_iload_n dX9_op_63 rfl ?_
        refine v_iast (i := ((40 * i) + mN (xπ s i))) (show G.1 (y + 8) = (10, 240) from (hYr 7 _ rfl).1) (by omega) (by omega) (by omega) ha dX9_op_64 ?_
        have rng5 := w_rng (a := y + 8) (f := ((40 * i) + mN (xπ s i))) rng4 (show inR (a) from ha)
        refine v_aload_n dX9_op_65 rfl ?_
        refine v_getR fX9_39 rfl hTy (hYr 8 _ rfl).2 dX9_op_66 ?_
        refine v_iload dX9_op_69 rfl ?_
        refine v_iload dX9_op_71 rfl ?_
        refine v_iast (i := ((40 * i) + mN (xπ s i))) (show G.1 (y + 9) = (10, 240) from (hYr 8 _ rfl).1) (by omega) (by omega) (by omega) hb dX9_op_73 ?_
        have rng6 := w_rng (a := y + 9) (f := ((40 * i) + mN (xπ s i))) rng5 (show inR (b) from hb)
        refine v_aload_n dX9_op_74 rfl ?_
        refine v_getR fX9_30 rfl hTy (hYr 5 _ rfl).2 dX9_op_75 ?_
        refine v_iload_n dX9_op_78 rfl ?_
        refine v_dup2 dX9_op_79 rfl rfl ?_
        refine v_iald' (i := i) (v := ((mN (xπ s i) : Nat) : Int)) (by rw [w_up_n (by omega), w_up_n (by omega), w_up_n (by omega), hm6]) (show G.1 (y + 6) = (10, 6) from (hYr 5 _ rfl).1) rfl (by omega) (by omega) dX9_op_80 ?_
        refine v_iconst dX9_op_81 ?_
        refine v_iadd dX9_op_82 ?_
        refine v_iast (i := i) (show G.1 (y + 6) = (10, 6) from (hYr 5 _ rfl).1) rfl (by omega) (by omega) ⟨by omega, by omega⟩ dX9_op_83 ?_
        have rng7 := w_rng (a := y + 6) (f := i) rng6 (show inR ((((mN (xπ s i) : Nat) : Int) + 1)) from ⟨by omega, by omega⟩)
        refine v_aload_n dX9_op_84 rfl ?_
        refine v_getR fX9_57 rfl hTy (hYr 14 _ rfl).2 dX9_op_85 ?_
        refine v_iload_n dX9_op_88 rfl ?_
        refine v_iconst dX9_op_89 ?_
        refine v_zast (i := i) (show G.1 (y + 15) = (11, 6) from (hYr 14 _ rfl).1) rfl (by omega) (by omega) (Or.inl rfl) dX9_op_90 ?_
        have rng8 := w_rng (a := y + 15) (f := i) rng7 (show inR (0) from ⟨by decide, by decide⟩)
        refine v_aload_n dX9_op_91 rfl ?_
        refine v_getR fX9_30 rfl hTy (hYr 5 _ rfl).2 dX9_op_92 ?_
        refine v_iload_n dX9_op_95 rfl ?_
        refine v_iald' (i := i) (v := (((mN (xπ s i) : Nat) : Int) + 1)) (by rw [w_up_n (by omega), w_up_s]) (show G.1 (y + 6) = (10, 6) from (hYr 5 _ rfl).1) rfl (by omega) (by omega) dX9_op_96 ?_
        refine v_iconst dX9_op_97 ?_
        refine v_isub dX9_op_98 ?_
        rw [show xOp s (i : Int) op a b = ((mN (xπ s i) : Int), uM s i (aOp (xπ s i) op a b) (xκ s i) (0, (xst s i).2) (xρ s)) by unfold xOp; (try simp only [Int.toNat_natCast]); rw [if_neg (by omega), if_neg (by omega)]]
        obtain ⟨g1, g2, g3⟩ := y_op hmM0 (by omega) rfl
        exact v_iret rfl (by decide) (by decide) ⟨by omega, by omega⟩ dX9_op_99 ⟨rfl, (by omega), hy0.upd g2 hi ⟨g1, g3, Or.inl rfl, fun q => absurd q (show ¬ (0 : Int) = 1 by decide)⟩, g2.B⟩
      · refine v_bipush dX9_op_33 (by decide) ?_
        rw [show xOp s (i : Int) op a b = (-4, s) by unfold xOp; (try simp only [Int.toNat_natCast]); rw [if_neg (by omega), if_pos (by omega)]]
        exact v_iret rfl (by decide) (by decide) ⟨by decide, by decide⟩ dX9_op_35 ⟨rfl, rfl, hy0, fun _ _ _ => rfl⟩
    · refine v_if_ne ⟨by decide, by decide⟩ dX9_op_16 (fun h => by exfalso; omega) (fun hb16 => ?_)
      refine v_bipush dX9_op_19 (by decide) ?_
      rw [show xOp s (i : Int) op a b = (-2, s) by unfold xOp; (try simp only [Int.toNat_natCast]); rw [if_pos (by omega)]]
      exact v_iret rfl (by decide) (by decide) ⟨by decide, by decide⟩ dX9_op_21 ⟨rfl, rfl, hy0, fun _ _ _ => rfl⟩
  · refine v_aload_n dX9_op_0 rfl ?_
    refine v_iload_n dX9_op_1 rfl ?_
    refine v_Vb (tX9_isMethod (⟨hTy, hYr⟩ : isY G y) hy0 hm) kX9_139 hTy rfl rfl ⟨by decide, by decide⟩ ⟨by decide, by decide⟩ (Nat.le_of_ble_eq_true rfl) dX9_op_2 (fun h1 => by exact absurd h1 hf) (fun h1 => ?_)
    refine v_if_eq ⟨by decide, by decide⟩ dX9_op_5 (fun hb5 => ?_) (fun h => by exfalso; omega)
    refine v_bipush dX9_op_19 (by decide) ?_
    rw [show xOp s m0 op a b = (-2, s) by unfold xOp; (try simp only [Int.toNat_natCast]); rw [if_pos (by omega)]]
    exact v_iret rfl (by decide) (by decide) ⟨by decide, by decide⟩ dX9_op_21 ⟨rfl, rfl, hy0, fun _ _ _ => rfl⟩
theorem tX9_guard {E : w_E} {G : w_Sh} {I : w_Mm} {y : Nat} {s : xS} (hY : isY G y) (hy : yOK I y s) {m0 : Int} (hm : inR m0) {f t h c : Int} (hff : inR f) (ht : inR t) (hh : inR h) (hc : inR c) : w_Ct E mX9_guard 2 [.ref y, iv m0, iv f, iv t, iv h, iv c] G I 0 0 (w_Pi (fun r G' J => G' = G ∧ r = (xGuard s m0 f t h c).1 ∧ yOK J y (xGuard s m0 f t h c).2 ∧ offB I J y)) := by
  obtain ⟨hTy, hYr⟩ := hY
  have hy0 := hy
  obtain ⟨hQ, hy3, hy6, hym, hyz⟩ := hy
  have hQ0 := hQ
  obtain ⟨hq0, hq2, hq16, hqF, hch⟩ := hQ
  refine w_Ct.of (ls := [some (.ref y), some (iv m0), some (iv f), some (iv t), some (iv h), some (iv c), none]) (by decide +kernel) (Nat.le_of_ble_eq_true rfl) rfl rfl (fun rng => ?_)
  by_cases hf : fnd s m0
  · obtain ⟨i, rfl⟩ : ∃ i : Nat, m0 = (i : Int) := ⟨m0.toNat, by omega⟩
    have hi : i < xn s := by omega
    have hym0 := hym i hi
    obtain ⟨hmM, hd15, hd01, hdK⟩ := hym0
    have hmM0 := hmM
    obtain ⟨hm3, hm4, hm8, hmB, hm6, hmn, hmo, hm10, hmg, hmG⟩ := hmM
    refine v_aload_n dX9_guard_0 rfl ?_
    refine v_iload_n dX9_guard_1 rfl ?_
    refine v_Vb (tX9_isMethod (⟨hTy, hYr⟩ : isY G y) hy0 ⟨by omega, by omega⟩) kX9_139 hTy rfl rfl ⟨by decide, by decide⟩ ⟨by decide, by decide⟩ (Nat.le_of_ble_eq_true rfl) dX9_guard_2 (fun h1 => ?_) (fun h1 => by exfalso; omega)
    refine v_if_eq ⟨by decide, by decide⟩ dX9_guard_5 (fun h => by exfalso; omega) (fun hb5 => ?_)
    refine v_iload_n dX9_guard_8 rfl ?_
    refine v_if_lt hff dX9_guard_9 (fun h2 => ?_) (fun h2 => ?_)
    · refine v_bipush dX9_guard_43 (by decide) ?_
      rw [show xGuard s (i : Int) f t h c = (-2, s) by unfold xGuard; (try simp only [Int.toNat_natCast]); rw [if_pos (by omega)]]
      exact v_iret rfl (by decide) (by decide) ⟨by decide, by decide⟩ dX9_guard_45 ⟨rfl, rfl, hy0, fun _ _ _ => rfl⟩
    · refine v_iload_n dX9_guard_12 rfl ?_
      refine v_iload_n dX9_guard_13 rfl ?_
      refine v_icmp_ge hff ht dX9_guard_14 (fun h3 => ?_) (fun h3 => ?_)
      · refine v_bipush dX9_guard_43 (by decide) ?_
        rw [show xGuard s (i : Int) f t h c = (-2, s) by unfold xGuard; (try simp only [Int.toNat_natCast]); rw [if_pos (by omega)]]
        exact v_iret rfl (by decide) (by decide) ⟨by decide, by decide⟩ dX9_guard_45 ⟨rfl, rfl, hy0, fun _ _ _ => rfl⟩
      · refine v_iload_n dX9_guard_17 rfl ?_
        refine v_bipush dX9_guard_18 (by decide) ?_
        refine v_icmp_gt ht ⟨by decide, by decide⟩ dX9_guard_20 (fun h4 => ?_) (fun h4 => ?_)
        · refine v_bipush dX9_guard_43 (by decide) ?_
          rw [show xGuard s (i : Int) f t h c = (-2, s) by unfold xGuard; (try simp only [Int.toNat_natCast]); rw [if_pos (by omega)]]
          exact v_iret rfl (by decide) (by decide) ⟨by decide, by decide⟩ dX9_guard_45 ⟨rfl, rfl, hy0, fun _ _ _ => rfl⟩
        · refine v_iload dX9_guard_23 rfl ?_
          refine v_iconst dX9_guard_25 ?_
          refine v_bipush dX9_guard_26 (by decide) ?_
          refine v_Sb (tX9_in hh ⟨by decide, by decide⟩ ⟨by decide, by decide⟩) kX9_99 rfl rfl ⟨by decide, by decide⟩ ⟨by decide, by decide⟩ (Nat.le_of_ble_eq_true rfl) dX9_guard_28 (fun h5 => ?_) (fun h5 => ?_)
          · refine v_if_eq ⟨by decide, by decide⟩ dX9_guard_31 (fun h => by exfalso; omega) (fun hb31 => ?_)
            refine v_aload_n dX9_guard_34 rfl ?_
            refine v_iload dX9_guard_35 rfl ?_
            refine v_Vb (tX9_isClass (⟨hTy, hYr⟩ : isY G y) hQ0 hc) kX9_103 hTy rfl rfl ⟨by decide, by decide⟩ ⟨by decide, by decide⟩ (Nat.le_of_ble_eq_true rfl) dX9_guard_37 (fun h6 => ?_) (fun h6 => ?_)
            · refine v_if_ne ⟨by decide, by decide⟩ dX9_guard_40 (fun hb40 => ?_) (fun h => by exfalso; omega)
              refine v_aload_n dX9_guard_46 rfl ?_
              refine v_getR fX9_42 rfl hTy (hYr 9 _ rfl).2 dX9_guard_47 ?_
              refine v_iload_n dX9_guard_50 rfl ?_
              refine v_iald' (i := i) (v := ((mNG (xπ s i) : Nat) : Int)) hm10 (show G.1 (y + 10) = (10, 6) from (hYr 9 _ rfl).1) rfl (by omega) (by omega) dX9_guard_51 ?_
              refine v_bipush dX9_guard_52 (by decide) ?_
              refine v_icmp_ne ⟨by omega, by omega⟩ ⟨by decide, by decide⟩ dX9_guard_54 (fun h7 => ?_) (fun h7 => ?_)
              · refine v_bipush dX9_guard_60 (by decide) ?_
                refine v_iload_n dX9_guard_62 rfl ?_
                refine v_imul dX9_guard_63 ?_
                refine v_aload_n dX9_guard_64 rfl ?_
                refine v_getR fX9_42 rfl hTy (hYr 9 _ rfl).2 dX9_guard_65 ?_
                refine v_iload_n dX9_guard_68 rfl ?_
                refine v_iald' (i := i) (v := ((mNG (xπ s i) : Nat) : Int)) hm10 (show G.1 (y + 10) = (10, 6) from (hYr 9 _ rfl).1) rfl (by omega) (by omega) dX9_guard_69 ?_
                refine v_iadd dX9_guard_70 ?_
                refine v_istore dX9_guard_71 (by decide) rfl ?_
                refine v_aload_n dX9_guard_73 rfl ?_
                refine v_getR fX9_45 rfl hTy (hYr 10 _ rfl).2 dX9_guard_74 ?_
                refine v_iload dX9_guard_77 rfl ?_
                refine v_iload_n dX9_guard_79 rfl ?_
                refine v_iast (i := ((6 * i) + mNG (xπ s i))) (show G.1 (y + 11) = (10, 36) from (hYr 10 _ rfl).1) (by omega) (by omega) (by omega) hff dX9_guard_80 ?_
                have rng8 := w_rng (a := y + 11) (f := ((6 * i) + mNG (xπ s i))) rng (show inR (f) from hff)
                refine v_aload_n dX9_guard_81 rfl ?_
                refine v_getR fX9_48 rfl hTy (hYr 11 _ rfl).2 dX9_guard_82 ?_
                refine v_iload dX9_guard_85 rfl ?_
                refine v_iload_n dX9_guard_87 rfl ?_
                refine v_iast (i := ((6 * i) + mNG (xπ s i))) (show G.1 (y + 12) = (10, 36) from (hYr 11 _ rfl).1) (by omega) (by omega) (by omega) ht dX9_guard_88 ?_
                have rng9 := w_rng (a := y + 12) (f := ((6 * i) + mNG (xπ s i))) rng8 (show inR (t) from ht)
                refine v_aload_n dX9_guard_89 rfl ?_
                refine v_getR fX9_51 rfl hTy (hYr 12 _ rfl).2 dX9_guard_90 ?_
                refine v_iload dX9_guard_93 rfl ?_
                refine v_iload dX9_guard_95 rfl ?_
                refine v_iast (i := ((6 * i) + mNG (xπ s i))) (show G.1 (y + 13) = (10, 36) from (hYr 12 _ rfl).1) (by omega) (by omega) (by omega) hh dX9_guard_97 ?_
                have rng10 := w_rng (a := y + 13) (f := ((6 * i) + mNG (xπ s i))) rng9 (show inR (h) from hh)
                refine v_aload_n dX9_guard_98 rfl ?_
                refine v_getR fX9_54 rfl hTy (hYr 13 _ rfl).2 dX9_guard_99 ?_
                refine v_iload dX9_guard_102 rfl ?_
                refine v_iload dX9_guard_104 rfl ?_
                refine v_iast (i := ((6 * i) + mNG (xπ s i))) (show G.1 (y + 14) = (10, 36) from (hYr 13 _ rfl).1) (by omega) (by omega) (by omega) hc dX9_guard_106 ?_
                have rng11 := w_rng (a := y + 14) (f := ((6 * i) + mNG (xπ s i))) rng10 (show inR (c) from hc)
                refine v_aload_n dX9_guard_107 rfl ?_
                refine v_getR fX9_42 rfl hTy (hYr 9 _ rfl).2 dX9_guard_108 ?_
                refine v_iload_n dX9_guard_111 rfl ?_
                refine v_dup2 dX9_guard_112 rfl rfl ?_
                refine v_iald' (i := i) (v := ((mNG (xπ s i) : Nat) : Int)) (by rw [w_up_n (by omega), w_up_n (by omega), w_up_n (by omega), w_up_n (by omega), hm10]) (show G.1 (y + 10) = (10, 6) from (hYr 9 _ rfl).1) rfl (by omega) (by omega) dX9_guard_113 ?_
                refine v_iconst dX9_guard_114 ?_
                refine v_iadd dX9_guard_115 ?_
                refine v_iast (i := i) (show G.1 (y + 10) = (10, 6) from (hYr 9 _ rfl).1) rfl (by omega) (by omega) ⟨by omega, by omega⟩ dX9_guard_116 ?_
                have rng12 := w_rng (a := y + 10) (f := i) rng11 (show inR ((((mNG (xπ s i) : Nat) : Int) + 1)) from ⟨by omega, by omega⟩)
                refine v_aload_n dX9_guard_117 rfl ?_
                refine v_getR fX9_57 rfl hTy (hYr 14 _ rfl).2 dX9_guard_118 ?_
                refine v_iload_n dX9_guard_121 rfl ?_
                refine v_iconst dX9_guard_122 ?_
                refine v_zast (i := i) (show G.1 (y + 15) = (11, 6) from (hYr 14 _ rfl).1) rfl (by omega) (by omega) (Or.inl rfl) dX9_guard_123 ?_
                have rng13 := w_rng (a := y + 15) (f := i) rng12 (show inR (0) from ⟨by decide, by decide⟩)
                refine v_aload_n dX9_guard_124 rfl ?_
                refine v_getR fX9_42 rfl hTy (hYr 9 _ rfl).2 dX9_guard_125 ?_
                refine v_iload_n dX9_guard_128 rfl ?_
                refine v_iald' (i := i) (v := (((mNG (xπ s i) : Nat) : Int) + 1)) (by rw [w_up_n (by omega), w_up_s]) (show G.1 (y + 10) = (10, 6) from (hYr 9 _ rfl).1) rfl (by omega) (by omega) dX9_guard_129 ?_
                refine v_iconst dX9_guard_130 ?_
                refine v_isub dX9_guard_131 ?_
                rw [show xGuard s (i : Int) f t h c = ((mNG (xπ s i) : Int), uM s i (aGd (xπ s i) f t h c) (xκ s i) (0, (xst s i).2) (xρ s)) by unfold xGuard; (try simp only [Int.toNat_natCast]); rw [if_neg (by omega), if_neg (by omega)]]
                obtain ⟨g1, g2, g3⟩ := y_gd hmM0 (by omega) rfl
                exact v_iret rfl (by decide) (by decide) ⟨by omega, by omega⟩ dX9_guard_132 ⟨rfl, (by omega), hy0.upd g2 hi ⟨g1, g3, Or.inl rfl, fun q => absurd q (show ¬ (0 : Int) = 1 by decide)⟩, g2.B⟩
              · refine v_bipush dX9_guard_57 (by decide) ?_
                rw [show xGuard s (i : Int) f t h c = (-4, s) by unfold xGuard; (try simp only [Int.toNat_natCast]); rw [if_neg (by omega), if_pos (by omega)]]
                exact v_iret rfl (by decide) (by decide) ⟨by decide, by decide⟩ dX9_guard_59 ⟨rfl, rfl, hy0, fun _ _ _ => rfl⟩
            · refine v_if_ne ⟨by decide, by decide⟩ dX9_guard_40 (fun h => by exfalso; omega) (fun hb40 => ?_)
              refine v_bipush dX9_guard_43 (by decide) ?_
              rw [show xGuard s (i : Int) f t h c = (-2, s) by unfold xGuard; (try simp only [Int.toNat_natCast]); rw [if_pos (by omega)]]
              exact v_iret rfl (by decide) (by decide) ⟨by decide, by decide⟩ dX9_guard_45 ⟨rfl, rfl, hy0, fun _ _ _ => rfl⟩
          · refine v_if_eq ⟨by decide, by decide⟩ dX9_guard_31 (fun hb31 => ?_) (fun h => by exfalso; omega)
            refine v_bipush dX9_guard_43 (by decide) ?_
            rw [show xGuard s (i : Int) f t h c = (-2, s) by unfold xGuard; (try simp only [Int.toNat_natCast]); rw [if_pos (by omega)]]
            exact v_iret rfl (by decide) (by decide) ⟨by decide, by decide⟩ dX9_guard_45 ⟨rfl, rfl, hy0, fun _ _ _ => rfl⟩
  · refine v_aload_n dX9_guard_0 rfl ?_
    refine v_iload_n dX9_guard_1 rfl ?_
    refine v_Vb (tX9_isMethod (⟨hTy, hYr⟩ : isY G y) hy0 hm) kX9_139 hTy rfl rfl ⟨by decide, by decide⟩ ⟨by decide, by decide⟩ (Nat.le_of_ble_eq_true rfl) dX9_guard_2 (fun h1 => by exact absurd h1 hf) (fun h1 => ?_)
    refine v_if_eq ⟨by decide, by decide⟩ dX9_guard_5 (fun hb5 => ?_) (fun h => by exfalso; omega)
    refine v_bipush dX9_guard_43 (by decide) ?_
    rw [show xGuard s m0 f t h c = (-2, s) by unfold xGuard; (try simp only [Int.toNat_natCast]); rw [if_pos (by omega)]]
    exact v_iret rfl (by decide) (by decide) ⟨by decide, by decide⟩ dX9_guard_45 ⟨rfl, rfl, hy0, fun _ _ _ => rfl⟩
theorem tX9_method {E : w_E} {G : w_Sh} {I : w_Mm} {y : Nat} {s : xS} (hY : isY G y) (hy : yOK I y s) {r : Int} (hr : inR r) : w_Ct E mX9_method 3 [.ref y, iv r] G I 0 0 (w_Pi (fun r_ G' J => G' = G ∧ r_ = (xMeth s r).1 ∧ yOK J y (xMeth s r).2 ∧ offB I J y)) := by
  obtain ⟨hTy, hYr⟩ := hY
  have hy0 := hy
  obtain ⟨hQ, hy3, hy6, hym, hyz⟩ := hy
  have hQ0 := hQ
  obtain ⟨hq0, hq2, hq16, hqF, hch⟩ := hQ
  refine w_Ct.of (ls := [some (.ref y), some (iv r)]) (by decide +kernel) (Nat.le_of_ble_eq_true rfl) rfl rfl (fun rng => ?_)
  refine v_iload_n dX9_method_0 rfl ?_
  refine v_if_eq hr dX9_method_1 (fun h1 => ?_) (fun h1 => ?_)
  · refine v_aload_n dX9_method_15 rfl ?_
    refine v_getI' (v := ((xn s : Nat) : Int)) hy3 fX9_133 rfl hTy dX9_method_16 ?_
    refine v_bipush dX9_method_19 (by decide) ?_
    refine v_icmp_ne ⟨by omega, by omega⟩ ⟨by decide, by decide⟩ dX9_method_21 (fun h2 => ?_) (fun h2 => ?_)
    · refine v_aload_n dX9_method_27 rfl ?_
      refine v_getR fX9_21 rfl hTy (hYr 2 _ rfl).2 dX9_method_28 ?_
      refine v_aload_n dX9_method_31 rfl ?_
      refine v_getI' (v := ((xn s : Nat) : Int)) hy3 fX9_133 rfl hTy dX9_method_32 ?_
      refine v_iload_n dX9_method_35 rfl ?_
      refine v_iast (i := xn s) (show G.1 (y + 3) = (10, 6) from (hYr 2 _ rfl).1) (by omega) (by omega) (by omega) hr dX9_method_36 ?_
      have rng3 := w_rng (a := y + 3) (f := xn s) rng (show inR (r) from hr)
      refine v_aload_n dX9_method_37 rfl ?_
      refine v_dup dX9_method_38 rfl ?_
      refine v_getI' (v := ((xn s : Nat) : Int)) (by rw [w_up_n (by omega), hy3]) fX9_133 rfl hTy dX9_method_39 ?_
      refine v_iconst dX9_method_42 ?_
      refine v_iadd dX9_method_43 ?_
      refine v_putI fX9_133 p9_3 rfl ⟨by omega, by omega⟩ hTy dX9_method_44 ?_
      have rng4 := w_rng (a := y) (f := 3) rng3 (show inR ((((xn s : Nat) : Int) + 1)) from ⟨by omega, by omega⟩)
      refine v_aload_n dX9_method_47 rfl ?_
      refine v_getI' (v := (((xn s : Nat) : Int) + 1)) (by rw [w_up_s]) fX9_133 rfl hTy dX9_method_48 ?_
      refine v_iconst dX9_method_51 ?_
      refine v_isub dX9_method_52 ?_
      have eM : xMeth s r = ((xn s : Int), (s.1, xn s + 1, uN (xπ s) (xn s) (mt0 r), uN (xκ s) (xn s) wk0, uN (xst s) (xn s) (0, 0, 0), xρ s)) := by unfold xMeth; rw [if_neg (by omega), if_neg (by omega)]
      rw [eM]
      have o2 : ∀ a k, ¬ (a = y + 3 ∧ k = xn s) → ¬ (a = y ∧ k = 3) → w_up (w_up I (y + 3) (xn s) r) y 3 ((xn s : Int) + 1) a k = I a k := fun a k u1 u2 => by rw [w_up_n u2, w_up_n u1]
      obtain ⟨z1, z2, z3, z4, z5⟩ := hyz (xn s) (by omega) (by omega)
      refine v_iret rfl (by decide) (by decide) ⟨by omega, by omega⟩ dX9_method_53 ⟨rfl, by omega, ⟨hQ0.off (o2 _ _ (by omega) (by omega)) (funext fun k => o2 _ _ (by omega) (by omega)) (funext fun k => o2 _ _ (by omega) (by omega)), w_up_s, show xn s + 1 ≤ 6 by omega, fun i hi => ?_, fun i hi hi6 => ?_⟩, fun a k u => o2 _ _ (by omega) (by omega)⟩
      · have hi2 : i < xn s + 1 := hi
        show yOKm _ _ _ (uN (xπ s) (xn s) (mt0 r) i) (uN (xκ s) (xn s) wk0 i) (uN (xst s) (xn s) (0, 0, 0) i)
        by_cases e : i = xn s
        · rw [e, uN_s, uN_s, uN_s]
          exact ⟨⟨by rw [w_up_n (by omega), w_up_s]; rfl, (o2 _ _ (by omega) (by omega)).trans z1, Nat.zero_le _, fun k hk => (o2 _ _ (by omega) (by omega)).trans (z5 k hk), (o2 _ _ (by omega) (by omega)).trans z2, Nat.zero_le _, fun p hp => absurd hp (Nat.not_lt_zero p), (o2 _ _ (by omega) (by omega)).trans z3, Nat.zero_le _, fun p hp => absurd hp (Nat.not_lt_zero p)⟩, (o2 _ _ (by omega) (by omega)).trans z4, Or.inl rfl, fun q => absurd q (by decide)⟩
        · rw [uN_n e, uN_n e, uN_n e]
          exact (hym i (by omega)).off (fun a k u => by unfold own at u; exact o2 _ _ (by omega) (by omega))
      · have hi2 : xn s + 1 ≤ i := hi
        obtain ⟨z1, z2, z3, z4, z5⟩ := hyz i (by omega) hi6
        exact ⟨(o2 _ _ (by omega) (by omega)).trans z1, (o2 _ _ (by omega) (by omega)).trans z2, (o2 _ _ (by omega) (by omega)).trans z3, (o2 _ _ (by omega) (by omega)).trans z4, fun k hk => (o2 _ _ (by omega) (by omega)).trans (z5 k hk)⟩
    · refine v_bipush dX9_method_24 (by decide) ?_
      rw [show xMeth s r = (-4, s) by unfold xMeth; (try simp only [Int.toNat_natCast]); rw [if_neg (by omega), if_pos (by omega)]]
      exact v_iret rfl (by decide) (by decide) ⟨by decide, by decide⟩ dX9_method_26 ⟨rfl, rfl, hy0, fun _ _ _ => rfl⟩
  · refine v_aload_n dX9_method_4 rfl ?_
    refine v_iload_n dX9_method_5 rfl ?_
    refine v_Vb (tX9_isArgument (⟨hTy, hYr⟩ : isY G y) hQ0 hr) kX9_136 hTy rfl rfl ⟨by decide, by decide⟩ ⟨by decide, by decide⟩ (Nat.le_of_ble_eq_true rfl) dX9_method_6 (fun h5 => ?_) (fun h5 => ?_)
    · refine v_if_ne ⟨by decide, by decide⟩ dX9_method_9 (fun hb9 => ?_) (fun h => by exfalso; omega)
      refine v_aload_n dX9_method_15 rfl ?_
      refine v_getI' (v := ((xn s : Nat) : Int)) hy3 fX9_133 rfl hTy dX9_method_16 ?_
      refine v_bipush dX9_method_19 (by decide) ?_
      refine v_icmp_ne ⟨by omega, by omega⟩ ⟨by decide, by decide⟩ dX9_method_21 (fun h6 => ?_) (fun h6 => ?_)
      · refine v_aload_n dX9_method_27 rfl ?_
        refine v_getR fX9_21 rfl hTy (hYr 2 _ rfl).2 dX9_method_28 ?_
        refine v_aload_n dX9_method_31 rfl ?_
        refine v_getI' (v := ((xn s : Nat) : Int)) hy3 fX9_133 rfl hTy dX9_method_32 ?_
        refine v_iload_n dX9_method_35 rfl ?_
        refine v_iast (i := xn s) (show G.1 (y + 3) = (10, 6) from (hYr 2 _ rfl).1) (by omega) (by omega) (by omega) hr dX9_method_36 ?_
        have rng7 := w_rng (a := y + 3) (f := xn s) rng (show inR (r) from hr)
        refine v_aload_n dX9_method_37 rfl ?_
        refine v_dup dX9_method_38 rfl ?_
        refine v_getI' (v := ((xn s : Nat) : Int)) (by rw [w_up_n (by omega), hy3]) fX9_133 rfl hTy dX9_method_39 ?_
        refine v_iconst dX9_method_42 ?_
        refine v_iadd dX9_method_43 ?_
        refine v_putI fX9_133 p9_3 rfl ⟨by omega, by omega⟩ hTy dX9_method_44 ?_
        have rng8 := w_rng (a := y) (f := 3) rng7 (show inR ((((xn s : Nat) : Int) + 1)) from ⟨by omega, by omega⟩)
        refine v_aload_n dX9_method_47 rfl ?_
        refine v_getI' (v := (((xn s : Nat) : Int) + 1)) (by rw [w_up_s]) fX9_133 rfl hTy dX9_method_48 ?_
        refine v_iconst dX9_method_51 ?_
        refine v_isub dX9_method_52 ?_
        have eM : xMeth s r = ((xn s : Int), (s.1, xn s + 1, uN (xπ s) (xn s) (mt0 r), uN (xκ s) (xn s) wk0, uN (xst s) (xn s) (0, 0, 0), xρ s)) := by unfold xMeth; rw [if_neg (by omega), if_neg (by omega)]
        rw [eM]
        have o2 : ∀ a k, ¬ (a = y + 3 ∧ k = xn s) → ¬ (a = y ∧ k = 3) → w_up (w_up I (y + 3) (xn s) r) y 3 ((xn s : Int) + 1) a k = I a k := fun a k u1 u2 => by rw [w_up_n u2, w_up_n u1]
        obtain ⟨z1, z2, z3, z4, z5⟩ := hyz (xn s) (by omega) (by omega)
        refine v_iret rfl (by decide) (by decide) ⟨by omega, by omega⟩ dX9_method_53 ⟨rfl, by omega, ⟨hQ0.off (o2 _ _ (by omega) (by omega)) (funext fun k => o2 _ _ (by omega) (by omega)) (funext fun k => o2 _ _ (by omega) (by omega)), w_up_s, show xn s + 1 ≤ 6 by omega, fun i hi => ?_, fun i hi hi6 => ?_⟩, fun a k u => o2 _ _ (by omega) (by omega)⟩
        · have hi2 : i < xn s + 1 := hi
          show yOKm _ _ _ (uN (xπ s) (xn s) (mt0 r) i) (uN (xκ s) (xn s) wk0 i) (uN (xst s) (xn s) (0, 0, 0) i)
          by_cases e : i = xn s
          · rw [e, uN_s, uN_s, uN_s]
            exact ⟨⟨by rw [w_up_n (by omega), w_up_s]; rfl, (o2 _ _ (by omega) (by omega)).trans z1, Nat.zero_le _, fun k hk => (o2 _ _ (by omega) (by omega)).trans (z5 k hk), (o2 _ _ (by omega) (by omega)).trans z2, Nat.zero_le _, fun p hp => absurd hp (Nat.not_lt_zero p), (o2 _ _ (by omega) (by omega)).trans z3, Nat.zero_le _, fun p hp => absurd hp (Nat.not_lt_zero p)⟩, (o2 _ _ (by omega) (by omega)).trans z4, Or.inl rfl, fun q => absurd q (by decide)⟩
          · rw [uN_n e, uN_n e, uN_n e]
            exact (hym i (by omega)).off (fun a k u => by unfold own at u; exact o2 _ _ (by omega) (by omega))
        · have hi2 : xn s + 1 ≤ i := hi
          obtain ⟨z1, z2, z3, z4, z5⟩ := hyz i (by omega) hi6
          exact ⟨(o2 _ _ (by omega) (by omega)).trans z1, (o2 _ _ (by omega) (by omega)).trans z2, (o2 _ _ (by omega) (by omega)).trans z3, (o2 _ _ (by omega) (by omega)).trans z4, fun k hk => (o2 _ _ (by omega) (by omega)).trans (z5 k hk)⟩
      · refine v_bipush dX9_method_24 (by decide) ?_
        rw [show xMeth s r = (-4, s) by unfold xMeth; (try simp only [Int.toNat_natCast]); rw [if_neg (by omega), if_pos (by omega)]]
        exact v_iret rfl (by decide) (by decide) ⟨by decide, by decide⟩ dX9_method_26 ⟨rfl, rfl, hy0, fun _ _ _ => rfl⟩
    · refine v_if_ne ⟨by decide, by decide⟩ dX9_method_9 (fun h => by exfalso; omega) (fun hb9 => ?_)
      refine v_bipush dX9_method_12 (by decide) ?_
      rw [show xMeth s r = (-2, s) by unfold xMeth; (try simp only [Int.toNat_natCast]); rw [if_pos (by omega)]]
      exact v_iret rfl (by decide) (by decide) ⟨by decide, by decide⟩ dX9_method_14 ⟨rfl, rfl, hy0, fun _ _ _ => rfl⟩
theorem tX9_count {E : w_E} {G : w_Sh} {I : w_Mm} {y : Nat} {s : xS} (hY : isY G y) (hy : yOK I y s) {w k : Int} (hw : inR w) (hk : inR k) : w_Ct E mX9_count 2 [.ref y, iv w, iv k] G I 0 0 (w_Pi (fun r G' I' => r = (xCount s w k) ∧ G' = G ∧ I' = I)) := by
  obtain ⟨hTy, hYr⟩ := hY
  have hy0 := hy
  obtain ⟨hQ, hy3, hy6, hym, hyz⟩ := hy
  have hQ0 := hQ
  obtain ⟨hq0, hq2, hq16, hqF, hch⟩ := hQ
  refine w_Ct.of (ls := [some (.ref y), some (iv w), some (iv k)]) (by decide +kernel) (Nat.le_of_ble_eq_true rfl) rfl rfl (fun rng => ?_)
  by_cases hc : 0 ≤ w ∧ w ≤ 3
  · have h4 : w = 0 ∨ w = 1 ∨ w = 2 ∨ w = 3 := by omega
    rcases h4 with rfl | rfl | rfl | rfl
    · refine v_iload_n dX9_count_0 rfl ?_
      refine v_tswIn (off := 31) (tgt := 32) dX9_count_1 ⟨by decide, by decide⟩ (by decide) (by decide) (by decide) (by decide) ?_
      refine v_aload_n dX9_count_32 rfl ?_
      refine v_getI' (v := ((s.1.1 : Nat) : Int)) hq0 fX9_7 rfl hTy dX9_count_33 ?_
      exact v_iret rfl (by decide) (by decide) ⟨by omega, by omega⟩ dX9_count_36 ⟨(by unfold xCount; first | rw [if_pos (by omega)] | rw [if_neg (by omega), if_pos (by omega)] | rw [if_neg (by omega), if_neg (by omega), if_pos (by omega)] | (rw [if_neg (by omega), if_neg (by omega), if_neg (by omega), if_pos (by omega)]; rfl) | (rw [if_neg (by omega), if_neg (by omega), if_neg (by omega), if_neg (by omega)]; rfl)), rfl, rfl⟩
    · refine v_iload_n dX9_count_0 rfl ?_
      refine v_tswIn (off := 36) (tgt := 37) dX9_count_1 ⟨by decide, by decide⟩ (by decide) (by decide) (by decide) (by decide) ?_
      refine v_aload_n dX9_count_37 rfl ?_
      refine v_getI' (v := ((xn s : Nat) : Int)) hy3 fX9_133 rfl hTy dX9_count_38 ?_
      exact v_iret rfl (by decide) (by decide) ⟨by omega, by omega⟩ dX9_count_41 ⟨(by unfold xCount; first | rw [if_pos (by omega)] | rw [if_neg (by omega), if_pos (by omega)] | rw [if_neg (by omega), if_neg (by omega), if_pos (by omega)] | (rw [if_neg (by omega), if_neg (by omega), if_neg (by omega), if_pos (by omega)]; rfl) | (rw [if_neg (by omega), if_neg (by omega), if_neg (by omega), if_neg (by omega)]; rfl)), rfl, rfl⟩
    · refine v_iload_n dX9_count_0 rfl ?_
      refine v_tswIn (off := 41) (tgt := 42) dX9_count_1 ⟨by decide, by decide⟩ (by decide) (by decide) (by decide) (by decide) ?_
      refine v_aload_n dX9_count_42 rfl ?_
      refine v_iload_n dX9_count_43 rfl ?_
      refine v_Vb (tX9_isMethod (⟨hTy, hYr⟩ : isY G y) hy0 hk) kX9_139 hTy rfl rfl ⟨by decide, by decide⟩ ⟨by decide, by decide⟩ (Nat.le_of_ble_eq_true rfl) dX9_count_44 (fun h1 => ?_) (fun h1 => ?_)
      · refine v_if_eq ⟨by decide, by decide⟩ dX9_count_47 (fun h => by exfalso; omega) (fun hb47 => ?_)
        obtain ⟨i, rfl⟩ : ∃ i : Nat, k = (i : Int) := ⟨k.toNat, by omega⟩
        have hi : i < xn s := by omega
        have hym0 := hym i hi
        obtain ⟨hmM, hd15, hd01, hdK⟩ := hym0
        have hmM0 := hmM
        obtain ⟨hm3, hm4, hm8, hmB, hm6, hmn, hmo, hm10, hmg, hmG⟩ := hmM
        refine v_aload_n dX9_count_50 rfl ?_
        refine v_getR fX9_30 rfl hTy (hYr 5 _ rfl).2 dX9_count_51 ?_
        refine v_iload_n dX9_count_54 rfl ?_
        refine v_iald' (i := i) (v := ((mN (xπ s i) : Nat) : Int)) hm6 (show G.1 (y + 6) = (10, 6) from (hYr 5 _ rfl).1) rfl (by omega) (by omega) dX9_count_55 ?_
        refine v_goto dX9_count_56 ?_
        exact v_iret rfl (by decide) (by decide) ⟨by omega, by omega⟩ dX9_count_61 ⟨(by unfold xCount; first | rw [if_pos (by omega)] | rw [if_neg (by omega), if_pos (by omega)] | rw [if_neg (by omega), if_neg (by omega), if_pos (by omega)] | (rw [if_neg (by omega), if_neg (by omega), if_neg (by omega), if_pos (by omega)]; rfl) | (rw [if_neg (by omega), if_neg (by omega), if_neg (by omega), if_neg (by omega)]; rfl)), rfl, rfl⟩
      · refine v_if_eq ⟨by decide, by decide⟩ dX9_count_47 (fun hb47 => ?_) (fun h => by exfalso; omega)
        refine v_bipush dX9_count_59 (by decide) ?_
        exact v_iret rfl (by decide) (by decide) ⟨by decide, by decide⟩ dX9_count_61 ⟨(by unfold xCount; first | rw [if_pos (by omega)] | rw [if_neg (by omega), if_pos (by omega)] | rw [if_neg (by omega), if_neg (by omega), if_pos (by omega)] | (rw [if_neg (by omega), if_neg (by omega), if_neg (by omega), if_pos (by omega)]; rfl) | (rw [if_neg (by omega), if_neg (by omega), if_neg (by omega), if_neg (by omega)]; rfl)), rfl, rfl⟩
    · refine v_iload_n dX9_count_0 rfl ?_
      refine v_tswIn (off := 61) (tgt := 62) dX9_count_1 ⟨by decide, by decide⟩ (by decide) (by decide) (by decide) (by decide) ?_
      refine v_aload_n dX9_count_62 rfl ?_
      refine v_iload_n dX9_count_63 rfl ?_
      refine v_Vb (tX9_isMethod (⟨hTy, hYr⟩ : isY G y) hy0 hk) kX9_139 hTy rfl rfl ⟨by decide, by decide⟩ ⟨by decide, by decide⟩ (Nat.le_of_ble_eq_true rfl) dX9_count_64 (fun h1 => ?_) (fun h1 => ?_)
      · refine v_if_eq ⟨by decide, by decide⟩ dX9_count_67 (fun h => by exfalso; omega) (fun hb67 => ?_)
        obtain ⟨i, rfl⟩ : ∃ i : Nat, k = (i : Int) := ⟨k.toNat, by omega⟩
        have hi : i < xn s := by omega
        have hym0 := hym i hi
        obtain ⟨hmM, hd15, hd01, hdK⟩ := hym0
        have hmM0 := hmM
        obtain ⟨hm3, hm4, hm8, hmB, hm6, hmn, hmo, hm10, hmg, hmG⟩ := hmM
        refine v_aload_n dX9_count_70 rfl ?_
        refine v_getR fX9_42 rfl hTy (hYr 9 _ rfl).2 dX9_count_71 ?_
        refine v_iload_n dX9_count_74 rfl ?_
        refine v_iald' (i := i) (v := ((mNG (xπ s i) : Nat) : Int)) hm10 (show G.1 (y + 10) = (10, 6) from (hYr 9 _ rfl).1) rfl (by omega) (by omega) dX9_count_75 ?_
        refine v_goto dX9_count_76 ?_
        exact v_iret rfl (by decide) (by decide) ⟨by omega, by omega⟩ dX9_count_81 ⟨(by unfold xCount; first | rw [if_pos (by omega)] | rw [if_neg (by omega), if_pos (by omega)] | rw [if_neg (by omega), if_neg (by omega), if_pos (by omega)] | (rw [if_neg (by omega), if_neg (by omega), if_neg (by omega), if_pos (by omega)]; rfl) | (rw [if_neg (by omega), if_neg (by omega), if_neg (by omega), if_neg (by omega)]; rfl)), rfl, rfl⟩
      · refine v_if_eq ⟨by decide, by decide⟩ dX9_count_67 (fun hb67 => ?_) (fun h => by exfalso; omega)
        refine v_bipush dX9_count_79 (by decide) ?_
        exact v_iret rfl (by decide) (by decide) ⟨by decide, by decide⟩ dX9_count_81 ⟨(by unfold xCount; first | rw [if_pos (by omega)] | rw [if_neg (by omega), if_pos (by omega)] | rw [if_neg (by omega), if_neg (by omega), if_pos (by omega)] | (rw [if_neg (by omega), if_neg (by omega), if_neg (by omega), if_pos (by omega)]; rfl) | (rw [if_neg (by omega), if_neg (by omega), if_neg (by omega), if_neg (by omega)]; rfl)), rfl, rfl⟩
  · refine v_iload_n dX9_count_0 rfl ?_
    refine v_tswOut (tgt := 82) dX9_count_1 hw (by omega) (by decide) ?_
    refine v_bipush dX9_count_82 (by decide) ?_
    exact v_iret rfl (by decide) (by decide) ⟨by decide, by decide⟩ dX9_count_84 ⟨(by unfold xCount; first | rw [if_pos (by omega)] | rw [if_neg (by omega), if_pos (by omega)] | rw [if_neg (by omega), if_neg (by omega), if_pos (by omega)] | (rw [if_neg (by omega), if_neg (by omega), if_neg (by omega), if_pos (by omega)]; rfl) | (rw [if_neg (by omega), if_neg (by omega), if_neg (by omega), if_neg (by omega)]; rfl)), rfl, rfl⟩
