/-! ===== the object as a whole ===== -/
/-- CLASSES, how many methods, each one as told, its work, (done, rule, broken at), the frame of what is raised -/
abbrev xS : Type := cS × Nat × (Nat → mS) × (Nat → kS) × (Nat → Int × Int × Int) × fS
abbrev xn (s : xS) : Nat := s.2.1
abbrev xπ (s : xS) : Nat → mS := s.2.2.1
abbrev xκ (s : xS) : Nat → kS := s.2.2.2.1
abbrev xst (s : xS) : Nat → Int × Int × Int := s.2.2.2.2.1
abbrev xρ (s : xS) : fS := s.2.2.2.2.2
def uN {α : Type} (f : Nat → α) (i : Nat) (v : α) : Nat → α := fun j => if j = i then v else f j
theorem uN_s {α : Type} {f : Nat → α} {i : Nat} {v : α} : uN f i v i = v := by simp [uN]
theorem uN_n {α : Type} {f : Nat → α} {i j : Nat} {v : α} (h : j ≠ i) : uN f i v j = f j := by simp [uN, h]
def uM (s : xS) (i : Nat) (π : mS) (κ : kS) (t : Int × Int × Int) (ρ : fS) : xS := (s.1, s.2.1, uN (xπ s) i π, uN (xκ s) i κ, uN (xst s) i t, ρ)
def isX (G : w_Sh) (x n : Nat) : Prop := G.1 x = (8, 0) ∧ G.2.1 x 0 = some (x + 1) ∧ G.2.1 x 1 = some (x + 4) ∧ G.2.1 x 2 = some (x + 5) ∧ G.2.1 x 3 = some (x + 13) ∧ G.2.1 x 4 = some (x + 17) ∧ G.1 (x + 17) = (13, 6) ∧ isV G (x + 5) (x + 4) (x + 1) ∧ isH G (x + 13) ∧ ∀ i, i < n → G.2.1 (x + 17) i = some (x + 47 + 132 * i) ∧ isM G (x + 47 + 132 * i)
abbrev xOKm (I : w_Mm) (m : Nat) (π : mS) (κ : kS) (t : Int × Int × Int) : Prop := metOK I m π ∧ wkOK I (m + 9) κ ∧ I (m + 9) 2 = t.1 ∧ I (m + 9) 3 = t.2.1 ∧ I (m + 9) 4 = t.2.2
def xOK (I : w_Mm) (x : Nat) (s : xS) : Prop := clsOK I (x + 1) s.1 ∧ I x 5 = (xn s : Int) ∧ xn s ≤ 6 ∧ (∀ i, i < xn s → xOKm I (x + 47 + 132 * i) (xπ s i) (xκ s i) (xst s i)) ∧ frOK I (x + 6) (xρ s)
def offY (I J : w_Mm) (x : Nat) : Prop := ∀ a k, x + 18 ≤ a → a < x + 47 → J a k = I a k
theorem xOK.upd {I J : w_Mm} {x i : Nat} {s : xS} {π : mS} {κ : kS} {t : Int × Int × Int} {ρ : fS} (h : xOK I x s) (ho : ∀ a k, (a < x + 5 ∨ x + 13 ≤ a) → (a < x + 47 + 132 * i ∨ x + 47 + 132 * i + 132 ≤ a) → J a k = I a k) (hm : xOKm J (x + 47 + 132 * i) π κ t) (hρ : frOK J (x + 6) ρ) : xOK J x (uM s i π κ t ρ) := by
  obtain ⟨h1, h2, h3, h4, h5⟩ := h
  refine ⟨h1.off (fun k => ⟨ho _ _ (by omega) (by omega), ho _ _ (by omega) (by omega), ho _ _ (by omega) (by omega)⟩), (ho _ _ (by omega) (by omega)).trans h2, h3, fun j hj => ?_, hρ⟩
  by_cases e : j = i
  · subst e
    show xOKm J _ (uN (xπ s) j π j) (uN (xκ s) j κ j) (uN (xst s) j t j)
    rw [uN_s, uN_s, uN_s]; exact hm
  · show xOKm J _ (uN (xπ s) i π j) (uN (xκ s) i κ j) (uN (xst s) i t j)
    rw [uN_n e, uN_n e, uN_n e]
    obtain ⟨g1, g2, g3, g4, g5⟩ := h4 j hj
    refine ⟨g1.off (fun a k _ _ => ho _ _ (by omega) (by omega)), g2.off (fun a k _ _ => ho _ _ (by omega) (by omega)), (ho _ _ (by omega) (by omega)).trans g3, (ho _ _ (by omega) (by omega)).trans g4, (ho _ _ (by omega) (by omega)).trans g5⟩
theorem xOK.updM {I J : w_Mm} {x i : Nat} {s : xS} {π : mS} (h : xOK I x s) (hi : i < xn s) (hJ : metOK J (x + 47 + 132 * i) π) (h0 : J (x + 47 + 132 * i + 9) 2 = 0) (ho : offM I J (x + 47 + 132 * i)) : xOK J x (uM s i π (xκ s i) (0, (xst s i).2) (xρ s)) ∧ offY I J x := by
  obtain ⟨g1, g2, g3, g4, g5⟩ := h.2.2.2.1 i hi
  have h6 := h.2.2.1
  refine ⟨h.upd (fun a k _ h2 => ho a k (by omega) (by omega)) ⟨hJ, ?_, h0, (ho _ _ (by omega) (by omega)).trans g4, (ho _ _ (by omega) (by omega)).trans g5⟩ (h.2.2.2.2.same (ho _ _ (by omega) (by omega)) (fun k _ => ho _ _ (by omega) (by omega)) (fun k _ => ho _ _ (by omega) (by omega))), fun a k h1 h2 => ho a k (by omega) (by omega)⟩
  exact ⟨fun j hj => (g2.1 j hj).same (ho _ _ (by omega) (by omega)) (fun k _ => ho _ _ (by omega) (by omega)) (fun k _ => ho _ _ (by omega) (by omega)), fun j hj => ⟨(ho _ _ (by omega) (by omega)).trans (g2.2.1 j hj).1, (g2.2.1 j hj).2⟩, (ho _ _ (by omega) (by omega)).trans g2.2.2.1, (ho _ _ (by omega) (by omega)).trans g2.2.2.2⟩
theorem xOK.offH {I J : w_Mm} {x : Nat} {s : xS} (h : xOK I x s) (ho : offH I J (x + 13)) : xOK J x s ∧ offY I J x := by
  obtain ⟨h1, h2, h3, h4, h5⟩ := h
  refine ⟨⟨h1.off (fun k => ⟨ho _ _ (by omega), ho _ _ (by omega), ho _ _ (by omega)⟩), (ho _ _ (by omega)).trans h2, h3, fun i hi => ?_, h5.same (ho _ _ (by omega)) (fun k _ => ho _ _ (by omega)) (fun k _ => ho _ _ (by omega))⟩, fun a k _ _ => ho _ _ (by omega)⟩
  obtain ⟨g1, g2, g3, g4, g5⟩ := h4 i hi
  exact ⟨g1.off (fun a k _ _ => ho _ _ (by omega)), g2.off (fun a k _ _ => ho _ _ (by omega)), (ho _ _ (by omega)).trans g3, (ho _ _ (by omega)).trans g4, (ho _ _ (by omega)).trans g5⟩
abbrev fnd (s : xS) (m : Int) : Prop := 0 ≤ m ∧ m < (xn s : Int)
def addC (Q : cS) (p : Int) : cS := (Q.1 + 1, uN Q.2.1 Q.1 (2 ^ Q.1 ||| (if hasC Q p then Q.2.1 p.toNat else 1)), uN Q.2.2 Q.1 (if p = -1 then 1 else 0))
def xCls (s : xS) (p : Int) : Int × xS := if ¬ p = -1 ∧ (¬ hasC s.1 p ∨ ¬ s.1.2.2 p.toNat = 0) then (-2, s) else if s.1.1 = 16 then (-4, s) else ((s.1.1 : Int), (addC s.1 p, s.2))
def xFits (Q : cS) (a b : Int) : Int := if ¬ hasC Q a ∨ ¬ hasC Q b then -2 else if fitC Q a b then 1 else 0
def xJoin (Q : cS) (k l : Int) : Int := if ¬ knownK Q k ∨ ¬ knownK Q l then -2 else joinK Q k l
def xArg (s : xS) (m kd : Int) : Int × xS := if ¬ fnd s m ∨ ¬ argK s.1 kd then (-2, s) else if 8 < (mNA (xπ s m.toNat) : Int) + (if kd = 2 then 2 else 1) then (-4, s) else ((mNA (aArg (xπ s m.toNat) kd) : Int), uM s m.toNat (aArg (xπ s m.toNat) kd) (xκ s m.toNat) (0, (xst s m.toNat).2) (xρ s))
abbrev opQ (Q : cS) (op a b : Int) : Prop := 0 ≤ op ∧ op ≤ 25 ∧ ((op = 2 ∨ op = 3 ∨ op = 6 ∨ op = 7) → 0 ≤ a ∧ a < 8) ∧ ((op = 4 ∨ op = 5) → 0 ≤ a ∧ a < 7) ∧ ((op = 11 ∨ op = 12) → 0 ≤ a) ∧ ((op = 13 ∨ op = 15 ∨ op = 16 ∨ op = 18) → hasC Q a) ∧ (op = 16 → resK Q b) ∧ (op = 19 → a = -1 ∨ hasC Q a)
def xOp (s : xS) (m op a b : Int) : Int × xS := if ¬ fnd s m ∨ ¬ opQ s.1 op a b then (-2, s) else if mN (xπ s m.toNat) = 40 then (-4, s) else ((mN (xπ s m.toNat) : Int), uM s m.toNat (aOp (xπ s m.toNat) op a b) (xκ s m.toNat) (0, (xst s m.toNat).2) (xρ s))
def xGuard (s : xS) (m f t h c : Int) : Int × xS := if ¬ fnd s m ∨ f < 0 ∨ t ≤ f ∨ 40 < t ∨ ¬ (0 ≤ h ∧ h < 40) ∨ ¬ hasC s.1 c then (-2, s) else if mNG (xπ s m.toNat) = 6 then (-4, s) else ((mNG (xπ s m.toNat) : Int), uM s m.toNat (aGd (xπ s m.toNat) f t h c) (xκ s m.toNat) (0, (xst s m.toNat).2) (xρ s))
def xT (s : xS) (i : Nat) : (Int × Int) × kS × fS := xRun s.1 (xπ s i) 1000000 (xStart (xκ s i) (mBeg (xπ s i))) (xρ s)
def xComp (s : xS) (m : Int) : Int × xS := if ¬ fnd s m then (-2, s) else if mN (xπ s m.toNat) = 0 then (-3, s) else ((xT s m.toNat).1.1, uM s m.toNat (xπ s m.toNat) (xT s m.toNat).2.1 (1, (xT s m.toNat).1) (xT s m.toNat).2.2)
def xTold (s : xS) (m w : Int) : Int := if ¬ fnd s m ∨ w < 0 ∨ 3 < w then -2 else if (xst s m.toNat).1 = 0 then -3 else if w = 0 then (xst s m.toNat).2.2 else if w = 1 then (xκ s m.toNat).2.2.1 else if w = 2 then (xκ s m.toNat).2.2.2 else wantL (xπ s m.toNat) (xκ s m.toNat) (mN (xπ s m.toNat)) 0 (mNA (xπ s m.toNat) : Int)
abbrev plc (s : xS) (m p : Int) : Prop := fnd s m ∧ 0 ≤ p ∧ p < (mN (xπ s m.toNat) : Int)
def slotF (φ : fS) (i : Int) : Int := if φ.1 < 0 ∨ i < 0 ∨ 8 + φ.1 ≤ i then -1 else if i < 8 then φ.2.1 i.toNat else φ.2.2 (i - 8).toNat
def xFrame (s : xS) (m p k : Int) : Int := if ¬ plc s m p ∨ k < 0 ∨ 16 ≤ k then -2 else if (xst s m.toNat).1 = 0 then -3 else slotF ((xκ s m.toNat).1 p.toNat) k
def xHeight (s : xS) (m p : Int) : Int := if ¬ plc s m p then -2 else if (xst s m.toNat).1 = 0 then -3 else ((xκ s m.toNat).1 p.toNat).1
def xForm (s : xS) (m p : Int) : Int := if ¬ plc s m p then -2 else if (xst s m.toNat).1 = 0 ∨ ¬ (xst s m.toNat).2.1 = 0 then -3 else formX (xπ s m.toNat) (xκ s m.toNat) p.toNat
def xCount (s : xS) (w k : Int) : Int := if w = 0 then (s.1.1 : Int) else if w = 1 then (xn s : Int) else if ¬ fnd s k ∨ w < 2 ∨ 3 < w then -2 else if w = 2 then (mN (xπ s k.toNat) : Int) else (mNG (xπ s k.toNat) : Int)
/-- what stays so all the time -/
def xI (s : xS) : Prop := (∀ i, i < xn s → opsOK s.1 (xπ s i) ∧ gdOK s.1 (xπ s i) ∧ (∀ j, j < 40 → nnF ((xκ s i).1 j)) ∧ ∀ k, k < 8 → 0 ≤ mBeg (xπ s i) k) ∧ ∀ k, k < 8 → 0 ≤ (xρ s).2.2 k
theorem tX8_find_s {E : w_E} {G : w_Sh} {I : w_Mm} {x : Nat} {s : xS} (hX : isX G x (xn s)) (hx : xOK I x s) {i : Nat} (hi : i < xn s) : w_Ct E mX8_find 0 [.ref x, iv (i : Int)] G I 0 0 (w_Pr (fun o G' I' => o = some (x + 47 + 132 * i) ∧ G' = G ∧ I' = I)) := by
  have hX0 := hX
  have hx0 := hx
  obtain ⟨hTx, hRx0, hRx1, hRx2, hRx3, hRx4, hTx17, hV, hH, hXm⟩ := hX
  obtain ⟨hxQ, hx5, hx6, hxm, hxr⟩ := hx
  have hK := hV.2.2.2.2.1
  have hC := hK.2.2
  refine w_Ct.of (ls := [some (.ref x), some (iv (i : Int))]) (by decide +kernel) (Nat.le_of_ble_eq_true rfl) rfl rfl (fun rng => ?_)
  refine v_iload_n dX8_find_0 rfl ?_
  refine v_if_lt ⟨by omega, by omega⟩ dX8_find_1 (fun h => by exfalso; omega) (fun hb1 => ?_)
  refine v_iload_n dX8_find_4 rfl ?_
  refine v_aload_n dX8_find_5 rfl ?_
  refine v_getI' (v := ((xn s : Nat) : Int)) hx5 fX8_47 rfl (by assumption) dX8_find_6 ?_
  refine v_icmp_ge ⟨by omega, by omega⟩ ⟨by omega, by omega⟩ dX8_find_9 (fun h => by exfalso; omega) (fun hb9 => ?_)
  refine v_aload_n dX8_find_12 rfl ?_
  refine v_getR fX8_43 rfl (by assumption) (by assumption) dX8_find_13 ?_
  refine v_iload_n dX8_find_16 rfl ?_
  refine v_aaldM (i := i) (by assumption) (hXm i hi).1 rfl (by omega) (by omega) dX8_find_17 ?_
  refine v_goto dX8_find_18 ?_
  exact v_aret (o := some (x + 47 + 132 * i)) (C := "ChainFrames$Method") rfl (by decide) (by decide) dX8_find_22 ⟨rfl, rfl, rfl⟩
theorem tX8_find_n {E : w_E} {G : w_Sh} {I : w_Mm} {x : Nat} {s : xS} (hX : isX G x (xn s)) (hx : xOK I x s) {m : Int} (hm : inR m) (hi : ¬ fnd s m) : w_Ct E mX8_find 0 [.ref x, iv m] G I 0 0 (w_Pr (fun o G' I' => o = none ∧ G' = G ∧ I' = I)) := by
  have hX0 := hX
  have hx0 := hx
  obtain ⟨hTx, hRx0, hRx1, hRx2, hRx3, hRx4, hTx17, hV, hH, hXm⟩ := hX
  obtain ⟨hxQ, hx5, hx6, hxm, hxr⟩ := hx
  have hK := hV.2.2.2.2.1
  have hC := hK.2.2
  refine w_Ct.of (ls := [some (.ref x), some (iv m)]) (by decide +kernel) (Nat.le_of_ble_eq_true rfl) rfl rfl (fun rng => ?_)
  rcases Int.lt_or_le m 0 with hl | hl
  · refine v_iload_n dX8_find_0 rfl ?_
    refine v_if_lt hm dX8_find_1 (fun hb1 => ?_) (fun h => by exfalso; omega)
    refine v_null dX8_find_21 ?_
    exact v_aret (o := none) (C := "ChainFrames$Method") rfl (by decide) (by decide) dX8_find_22 ⟨rfl, rfl, rfl⟩
  · refine v_iload_n dX8_find_0 rfl ?_
    refine v_if_lt hm dX8_find_1 (fun h => by exfalso; omega) (fun hb1 => ?_)
    refine v_iload_n dX8_find_4 rfl ?_
    refine v_aload_n dX8_find_5 rfl ?_
    refine v_getI' (v := ((xn s : Nat) : Int)) hx5 fX8_47 rfl (by assumption) dX8_find_6 ?_
    refine v_icmp_ge hm ⟨by omega, by omega⟩ dX8_find_9 (fun hb9 => ?_) (fun h => by exfalso; omega)
    refine v_null dX8_find_21 ?_
    exact v_aret (o := none) (C := "ChainFrames$Method") rfl (by decide) (by decide) dX8_find_22 ⟨rfl, rfl, rfl⟩
theorem tX8_fits {E : w_E} {G : w_Sh} {I : w_Mm} {x : Nat} {s : xS} (hX : isX G x (xn s)) (hx : xOK I x s) {a b : Int} (ha : inR a) (hb : inR b) : w_Ct E mX8_fits 1 [.ref x, iv a, iv b] G I 0 0 (w_Pi (fun r G' I' => r = (xFits s.1 a b) ∧ G' = G ∧ I' = I)) := by
  have hX0 := hX
  have hx0 := hx
  obtain ⟨hTx, hRx0, hRx1, hRx2, hRx3, hRx4, hTx17, hV, hH, hXm⟩ := hX
  obtain ⟨hxQ, hx5, hx6, hxm, hxr⟩ := hx
  have hK := hV.2.2.2.2.1
  have hC := hK.2.2
  refine w_Ct.of (ls := [some (.ref x), some (iv a), some (iv b)]) (by decide +kernel) (Nat.le_of_ble_eq_true rfl) rfl rfl (fun rng => ?_)
  refine v_aload_n dX8_fits_0 rfl ?_
  refine v_getR fX8_10 rfl (by assumption) (by assumption) dX8_fits_1 ?_
  refine v_iload_n dX8_fits_4 rfl ?_
  refine v_Vb (tX0_has hC hxQ ha) kX8_51 hC.1 rfl rfl ⟨by decide, by decide⟩ ⟨by decide, by decide⟩ (Nat.le_of_ble_eq_true rfl) dX8_fits_5 (fun h1 => ?_) (fun h1 => ?_)
  · refine v_if_eq ⟨by decide, by decide⟩ dX8_fits_8 (fun h => by exfalso; omega) (fun hb8 => ?_)
    refine v_aload_n dX8_fits_11 rfl ?_
    refine v_getR fX8_10 rfl (by assumption) (by assumption) dX8_fits_12 ?_
    refine v_iload_n dX8_fits_15 rfl ?_
    refine v_Vb (tX0_has hC hxQ hb) kX8_51 hC.1 rfl rfl ⟨by decide, by decide⟩ ⟨by decide, by decide⟩ (Nat.le_of_ble_eq_true rfl) dX8_fits_16 (fun h2 => ?_) (fun h2 => ?_)
    · refine v_if_ne ⟨by decide, by decide⟩ dX8_fits_19 (fun hb19 => ?_) (fun h => by exfalso; omega)
      refine v_aload_n dX8_fits_25 rfl ?_
      refine v_getR fX8_10 rfl (by assumption) (by assumption) dX8_fits_26 ?_
      refine v_iload_n dX8_fits_29 rfl ?_
      refine v_iload_n dX8_fits_30 rfl ?_
      refine v_Vb (tX0_suits hC hxQ ha hb) kX8_66 hC.1 rfl rfl ⟨by decide, by decide⟩ ⟨by decide, by decide⟩ (Nat.le_of_ble_eq_true rfl) dX8_fits_31 (fun h3 => ?_) (fun h3 => ?_)
      · refine v_if_eq ⟨by decide, by decide⟩ dX8_fits_34 (fun h => by exfalso; omega) (fun hb34 => ?_)
        refine v_iconst dX8_fits_37 ?_
        refine v_goto dX8_fits_38 ?_
        exact v_iret rfl (by decide) (by decide) ⟨by decide, by decide⟩ dX8_fits_42 ⟨(by unfold xFits; rw [if_neg (by omega), if_pos h3]), rfl, rfl⟩
      · refine v_if_eq ⟨by decide, by decide⟩ dX8_fits_34 (fun hb34 => ?_) (fun h => by exfalso; omega)
        refine v_iconst dX8_fits_41 ?_
        exact v_iret rfl (by decide) (by decide) ⟨by decide, by decide⟩ dX8_fits_42 ⟨(by unfold xFits; rw [if_neg (by omega), if_neg h3]), rfl, rfl⟩
    · refine v_if_ne ⟨by decide, by decide⟩ dX8_fits_19 (fun h => by exfalso; omega) (fun hb19 => ?_)
      refine v_bipush dX8_fits_22 (by decide) ?_
      exact v_iret rfl (by decide) (by decide) ⟨by decide, by decide⟩ dX8_fits_24 ⟨(by unfold xFits; rw [if_pos (by omega)]), rfl, rfl⟩
  · refine v_if_eq ⟨by decide, by decide⟩ dX8_fits_8 (fun hb8 => ?_) (fun h => by exfalso; omega)
    refine v_bipush dX8_fits_22 (by decide) ?_
    exact v_iret rfl (by decide) (by decide) ⟨by decide, by decide⟩ dX8_fits_24 ⟨(by unfold xFits; rw [if_pos (by omega)]), rfl, rfl⟩
theorem tX8_join {E : w_E} {G : w_Sh} {I : w_Mm} {x : Nat} {s : xS} (hX : isX G x (xn s)) (hx : xOK I x s) {a b : Int} (ha : inR a) (hb : inR b) : w_Ct E mX8_join 3 [.ref x, iv a, iv b] G I 0 0 (w_Pi (fun r G' I' => r = (xJoin s.1 a b) ∧ G' = G ∧ I' = I)) := by
  have hX0 := hX
  have hx0 := hx
  obtain ⟨hTx, hRx0, hRx1, hRx2, hRx3, hRx4, hTx17, hV, hH, hXm⟩ := hX
  obtain ⟨hxQ, hx5, hx6, hxm, hxr⟩ := hx
  have hK := hV.2.2.2.2.1
  have hC := hK.2.2
  refine w_Ct.of (ls := [some (.ref x), some (iv a), some (iv b)]) (by decide +kernel) (Nat.le_of_ble_eq_true rfl) rfl rfl (fun rng => ?_)
  refine v_aload_n dX8_join_0 rfl ?_
  refine v_getR fX8_21 rfl (by assumption) (by assumption) dX8_join_1 ?_
  refine v_iload_n dX8_join_4 rfl ?_
  refine v_Vb (tX3_isKnown hK hxQ ha) kX8_70 hK.1 rfl rfl ⟨by decide, by decide⟩ ⟨by decide, by decide⟩ (Nat.le_of_ble_eq_true rfl) dX8_join_5 (fun h1 => ?_) (fun h1 => ?_)
  · refine v_if_eq ⟨by decide, by decide⟩ dX8_join_8 (fun h => by exfalso; omega) (fun hb8 => ?_)
    refine v_aload_n dX8_join_11 rfl ?_
    refine v_getR fX8_21 rfl (by assumption) (by assumption) dX8_join_12 ?_
    refine v_iload_n dX8_join_15 rfl ?_
    refine v_Vb (tX3_isKnown hK hxQ hb) kX8_70 hK.1 rfl rfl ⟨by decide, by decide⟩ ⟨by decide, by decide⟩ (Nat.le_of_ble_eq_true rfl) dX8_join_16 (fun h2 => ?_) (fun h2 => ?_)
    · refine v_if_ne ⟨by decide, by decide⟩ dX8_join_19 (fun hb19 => ?_) (fun h => by exfalso; omega)
      refine v_aload_n dX8_join_25 rfl ?_
      refine v_getR fX8_21 rfl (by assumption) (by assumption) dX8_join_26 ?_
      refine v_iload_n dX8_join_29 rfl ?_
      refine v_iload_n dX8_join_30 rfl ?_
      refine v_VmN (tX3_merge hK hxQ ha hb) kX8_73 hK.1 rfl rfl ⟨by decide, by decide⟩ ⟨by decide, by decide⟩ (Nat.le_of_ble_eq_true rfl) dX8_join_31 (fun r3 er3 hr3 rng4 => ?_)
      exact v_iret rfl (by decide) (by decide) hr3 dX8_join_34 ⟨(by unfold xJoin; rw [if_neg (by omega)]; exact er3), rfl, rfl⟩
    · refine v_if_ne ⟨by decide, by decide⟩ dX8_join_19 (fun h => by exfalso; omega) (fun hb19 => ?_)
      refine v_bipush dX8_join_22 (by decide) ?_
      exact v_iret rfl (by decide) (by decide) ⟨by decide, by decide⟩ dX8_join_24 ⟨(by unfold xJoin; rw [if_pos (by omega)]), rfl, rfl⟩
  · refine v_if_eq ⟨by decide, by decide⟩ dX8_join_8 (fun hb8 => ?_) (fun h => by exfalso; omega)
    refine v_bipush dX8_join_22 (by decide) ?_
    exact v_iret rfl (by decide) (by decide) ⟨by decide, by decide⟩ dX8_join_24 ⟨(by unfold xJoin; rw [if_pos (by omega)]), rfl, rfl⟩
theorem cls_add {I : w_Mm} {x : Nat} {s : xS} {p fz : Int} {hi : Nat} (h : xOK I x s) (hf : s.1.1 < 16) (hhi : hi = if hasC s.1 p then s.1.2.1 p.toNat else 1) (hfz : fz = if p = -1 then 1 else 0) {J : w_Mm} (eJ : J = w_up (w_up (w_up I (x + 1 + 1) s.1.1 ((2 ^ s.1.1 ||| hi : Nat) : Int)) (x + 1 + 2) s.1.1 fz) (x + 1) 2 ((s.1.1 : Int) + 1)) : xOK J x (addC s.1 p, s.2) ∧ offY I J x := by
  have o : ∀ a k, ¬ (a = x + 1 + 1 ∧ k = s.1.1) → ¬ (a = x + 1 + 2 ∧ k = s.1.1) → ¬ (a = x + 1 ∧ k = 2) → J a k = I a k := fun a k h1 h2 h3 => by rw [eJ, w_up_n h3, w_up_n h2, w_up_n h1]
  obtain ⟨⟨q1, q2, q3, q4, q5⟩, h2, h3, h4, h5⟩ := h
  have hlt : hi < 65536 := by
    rw [hhi]; split
    · rename_i hh; exact (q4 _ (by omega)).2
    · decide
  refine ⟨⟨⟨?_, show 2 ≤ s.1.1 + 1 by omega, hf, fun j hj => ?_, fun j hj => ?_⟩, (o _ _ (by omega) (by omega) (by omega)).trans h2, h3, fun i hi2 => ?_, h5.same (o _ _ (by omega) (by omega) (by omega)) (fun k _ => o _ _ (by omega) (by omega) (by omega)) (fun k _ => o _ _ (by omega) (by omega) (by omega))⟩, fun a k h1 h2 => o a k (by omega) (by omega) (by omega)⟩
  · rw [eJ, w_up_s]; rfl
  · show J (x + 1 + 1) j = ((uN s.1.2.1 s.1.1 (2 ^ s.1.1 ||| (if hasC s.1 p then s.1.2.1 p.toNat else 1)) j : Nat) : Int) ∧ uN s.1.2.1 s.1.1 (2 ^ s.1.1 ||| (if hasC s.1 p then s.1.2.1 p.toNat else 1)) j < 65536
    rw [← hhi]
    by_cases e : j = s.1.1
    · subst e
      rw [uN_s]
      exact ⟨by rw [eJ, w_up_n (by omega), w_up_n (by omega), w_up_s], or_lt (pow_lt hf) hlt⟩
    · rw [uN_n e]
      have hj' : j < s.1.1 + 1 := hj
      exact ⟨(o _ _ (by omega) (by omega) (by omega)).trans (q4 j (by omega)).1, (q4 j (by omega)).2⟩
  · show J (x + 1 + 2) j = uN s.1.2.2 s.1.1 (if p = -1 then 1 else 0) j ∧ (uN s.1.2.2 s.1.1 (if p = -1 then 1 else 0) j = 0 ∨ uN s.1.2.2 s.1.1 (if p = -1 then 1 else 0) j = 1)
    rw [← hfz]
    by_cases e : j = s.1.1
    · subst e
      rw [uN_s]
      exact ⟨by rw [eJ, w_up_n (by omega), w_up_s], by rw [hfz]; split; exact Or.inr rfl; exact Or.inl rfl⟩
    · rw [uN_n e]
      have hj' : j < s.1.1 + 1 := hj
      exact ⟨(o _ _ (by omega) (by omega) (by omega)).trans (q5 j (by omega)).1, (q5 j (by omega)).2⟩
  · obtain ⟨g1, g2, g3, g4, g5⟩ := h4 i hi2
    exact ⟨g1.off (fun a k _ _ => o _ _ (by omega) (by omega) (by omega)), g2.off (fun a k _ _ => o _ _ (by omega) (by omega) (by omega)), (o _ _ (by omega) (by omega) (by omega)).trans g3, (o _ _ (by omega) (by omega) (by omega)).trans g4, (o _ _ (by omega) (by omega) (by omega)).trans g5⟩
theorem tX8_cls {E : w_E} {G : w_Sh} {I : w_Mm} {x : Nat} {s : xS} (hX : isX G x (xn s)) (hx : xOK I x s) {p : Int} (hp : inR p) : w_Ct E mX8_cls 2 [.ref x, iv p] G I 0 0 (w_Pi (fun r G' J => G' = G ∧ r = (xCls s p).1 ∧ xOK J x (xCls s p).2 ∧ offY I J x)) := by
  have hX0 := hX
  have hx0 := hx
  obtain ⟨hTx, hRx0, hRx1, hRx2, hRx3, hRx4, hTx17, hV, hH, hXm⟩ := hX
  obtain ⟨hxQ, hx5, hx6, hxm, hxr⟩ := hx
  have hK := hV.2.2.2.2.1
  have hC := hK.2.2
  refine w_Ct.of (ls := [some (.ref x), some (iv p)]) (by decide +kernel) (Nat.le_of_ble_eq_true rfl) rfl rfl (fun rng => ?_)
  refine v_iload_n dX8_cls_0 rfl ?_
  refine v_iconst dX8_cls_1 ?_
  refine v_icmp_eq hp ⟨by decide, by decide⟩ dX8_cls_2 (fun h1 => ?_) (fun h1 => ?_)
  · refine v_aload_n dX8_cls_30 rfl ?_
    refine v_getR fX8_10 rfl (by assumption) (by assumption) dX8_cls_31 ?_
    refine v_Vb (tX0_isFull hC hxQ) kX8_58 hC.1 rfl rfl ⟨by decide, by decide⟩ ⟨by decide, by decide⟩ (Nat.le_of_ble_eq_true rfl) dX8_cls_34 (fun h2 => ?_) (fun h2 => ?_)
    · refine v_if_eq ⟨by decide, by decide⟩ dX8_cls_37 (fun h => by exfalso; omega) (fun hb37 => ?_)
      refine v_bipush dX8_cls_40 (by decide) ?_
      refine v_goto dX8_cls_42 ?_
      rw [show xCls s p = (-4, s) by unfold xCls; rw [if_neg (by omega), if_pos (by omega)]]
      exact v_iret rfl (by decide) (by decide) ⟨by decide, by decide⟩ dX8_cls_53 ⟨rfl, rfl, hx0, fun _ _ _ _ => rfl⟩
    · refine v_if_eq ⟨by decide, by decide⟩ dX8_cls_37 (fun hb37 => ?_) (fun h => by exfalso; omega)
      refine v_aload_n dX8_cls_45 rfl ?_
      refine v_getR fX8_10 rfl (by assumption) (by assumption) dX8_cls_46 ?_
      refine v_iload_n dX8_cls_49 rfl ?_
      refine v_VmN (tX0_add hC hxQ (by have := hxQ.2.2.1; omega) hp (hi := if hasC s.1 p then s.1.2.1 p.toNat else 1) (fz := if p = -1 then 1 else 0) (by by_cases q : hasC s.1 p; exact Or.inl ⟨q, if_pos q⟩; exact Or.inr ⟨q, if_neg q⟩) (by by_cases q : p = -1; exact Or.inl ⟨q, if_pos q⟩; exact Or.inr ⟨q, if_neg q⟩)) kX8_62 hC.1 rfl rfl ⟨by decide, by decide⟩ ⟨by decide, by decide⟩ (Nat.le_of_ble_eq_true rfl) dX8_cls_50 (fun r3 er3 hr3 rng4 => ?_)
      rw [show xCls s p = ((s.1.1 : Int), (addC s.1 p, s.2)) by unfold xCls; rw [if_neg (by omega), if_neg (by omega)]]
      obtain ⟨g1, g2⟩ := cls_add (p := p) hx0 (by have := hxQ.2.2.1; omega) rfl rfl rfl
      exact v_iret rfl (by decide) (by decide) hr3 dX8_cls_53 ⟨rfl, er3, g1, g2⟩
  · refine v_aload_n dX8_cls_5 rfl ?_
    refine v_getR fX8_10 rfl (by assumption) (by assumption) dX8_cls_6 ?_
    refine v_iload_n dX8_cls_9 rfl ?_
    refine v_Vb (tX0_has hC hxQ hp) kX8_51 hC.1 rfl rfl ⟨by decide, by decide⟩ ⟨by decide, by decide⟩ (Nat.le_of_ble_eq_true rfl) dX8_cls_10 (fun h5 => ?_) (fun h5 => ?_)
    · refine v_if_eq ⟨by decide, by decide⟩ dX8_cls_13 (fun h => by exfalso; omega) (fun hb13 => ?_)
      refine v_aload_n dX8_cls_16 rfl ?_
      refine v_getR fX8_10 rfl (by assumption) (by assumption) dX8_cls_17 ?_
      refine v_iload_n dX8_cls_20 rfl ?_
      refine v_Vb (tX0_isFace hC hxQ hp) kX8_55 hC.1 rfl rfl ⟨by decide, by decide⟩ ⟨by decide, by decide⟩ (Nat.le_of_ble_eq_true rfl) dX8_cls_21 (fun h6 => ?_) (fun h6 => ?_)
      · refine v_if_eq ⟨by decide, by decide⟩ dX8_cls_24 (fun h => by exfalso; omega) (fun hb24 => ?_)
        refine v_bipush dX8_cls_27 (by decide) ?_
        rw [show xCls s p = (-2, s) from if_pos (by omega)]
        exact v_iret rfl (by decide) (by decide) ⟨by decide, by decide⟩ dX8_cls_29 ⟨rfl, rfl, hx0, fun _ _ _ _ => rfl⟩
      · refine v_if_eq ⟨by decide, by decide⟩ dX8_cls_24 (fun hb24 => ?_) (fun h => by exfalso; omega)
        refine v_aload_n dX8_cls_30 rfl ?_
        refine v_getR fX8_10 rfl (by assumption) (by assumption) dX8_cls_31 ?_
        refine v_Vb (tX0_isFull hC hxQ) kX8_58 hC.1 rfl rfl ⟨by decide, by decide⟩ ⟨by decide, by decide⟩ (Nat.le_of_ble_eq_true rfl) dX8_cls_34 (fun h7 => ?_) (fun h7 => ?_)
        · refine v_if_eq ⟨by decide, by decide⟩ dX8_cls_37 (fun h => by exfalso; omega) (fun hb37 => ?_)
          refine v_bipush dX8_cls_40 (by decide) ?_
          refine v_goto dX8_cls_42 ?_
          rw [show xCls s p = (-4, s) by unfold xCls; rw [if_neg (by omega), if_pos (by omega)]]
          exact v_iret rfl (by decide) (by decide) ⟨by decide, by decide⟩ dX8_cls_53 ⟨rfl, rfl, hx0, fun _ _ _ _ => rfl⟩
        · refine v_if_eq ⟨by decide, by decide⟩ dX8_cls_37 (fun hb37 => ?_) (fun h => by exfalso; omega)
          refine v_aload_n dX8_cls_45 rfl ?_
          refine v_getR fX8_10 rfl (by assumption) (by assumption) dX8_cls_46 ?_
          refine v_iload_n dX8_cls_49 rfl ?_
          refine v_VmN (tX0_add hC hxQ (by have := hxQ.2.2.1; omega) hp (hi := if hasC s.1 p then s.1.2.1 p.toNat else 1) (fz := if p = -1 then 1 else 0) (by by_cases q : hasC s.1 p; exact Or.inl ⟨q, if_pos q⟩; exact Or.inr ⟨q, if_neg q⟩) (by by_cases q : p = -1; exact Or.inl ⟨q, if_pos q⟩; exact Or.inr ⟨q, if_neg q⟩)) kX8_62 hC.1 rfl rfl ⟨by decide, by decide⟩ ⟨by decide, by decide⟩ (Nat.le_of_ble_eq_true rfl) dX8_cls_50 (fun r8 er8 hr8 rng9 => ?_)
          rw [show xCls s p = ((s.1.1 : Int), (addC s.1 p, s.2)) by unfold xCls; rw [if_neg (by omega), if_neg (by omega)]]
          obtain ⟨g1, g2⟩ := cls_add (p := p) hx0 (by have := hxQ.2.2.1; omega) rfl rfl rfl
          exact v_iret rfl (by decide) (by decide) hr8 dX8_cls_53 ⟨rfl, er8, g1, g2⟩
    · refine v_if_eq ⟨by decide, by decide⟩ dX8_cls_13 (fun hb13 => ?_) (fun h => by exfalso; omega)
      refine v_bipush dX8_cls_27 (by decide) ?_
      rw [show xCls s p = (-2, s) from if_pos (by omega)]
      exact v_iret rfl (by decide) (by decide) ⟨by decide, by decide⟩ dX8_cls_29 ⟨rfl, rfl, hx0, fun _ _ _ _ => rfl⟩
