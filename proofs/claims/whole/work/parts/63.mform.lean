/-! ===== the reference: told, frame, height, form ===== -/
theorem lng2 {φ : fS} (hp : ppP φ) (h : φ.1 = 2) : lngTop φ ↔ φ.2.2 0 = 2 := by
  unfold lngTop
  rw [h]
  constructor
  · intro q; exact q.2.2
  · intro q
    have := (hp 0 (by omega)).2 q
    exact ⟨by decide, this.2, q⟩
theorem formO_eq {φ : fS} {x : Int} (hp : ppP φ) (h0 : 0 ≤ φ.1) : formO φ x = if x = 0 then (if φ.1 = 0 then 0 else if φ.1 = 1 ∨ (φ.1 = 2 ∧ φ.2.2 0 = 2) then 1 else 8) else if 0 < φ.1 ∨ 3 < x ∨ x < -3 then 8 else if x < 0 then 1 - x else 4 + x := by
  unfold formO
  have e : (φ.1 = 1 ∨ (φ.1 = 2 ∧ lngTop φ)) ↔ (φ.1 = 1 ∨ (φ.1 = 2 ∧ φ.2.2 0 = 2)) := by
    constructor
    · rintro (q | ⟨q1, q2⟩)
      · exact Or.inl q
      · exact Or.inr ⟨q1, (lng2 hp q1).mp q2⟩
    · rintro (q | ⟨q1, q2⟩)
      · exact Or.inl q
      · exact Or.inr ⟨q1, (lng2 hp q1).mpr q2⟩
  by_cases hx : x = 0
  · by_cases c : φ.1 = 1 ∨ (φ.1 = 2 ∧ φ.2.2 0 = 2)
    · exact (if_pos ⟨hx, e.mpr c⟩).trans ((if_pos hx).trans ((if_neg (by omega)).trans (if_pos c))).symm
    · refine (if_neg (fun q => c (e.mp q.2))).trans ?_
      by_cases c0 : φ.1 = 0
      · exact ((if_neg (by omega)).trans (if_pos hx)).trans ((if_pos hx).trans (if_pos c0)).symm
      · exact (if_pos (Or.inl c0)).trans ((if_pos hx).trans ((if_neg c0).trans (if_neg c))).symm
  · refine (if_neg (fun q => hx q.1)).trans (Eq.trans ?_ (if_neg hx).symm)
    by_cases c : 0 < φ.1 ∨ 3 < x ∨ x < -3
    · exact (if_pos (by omega)).trans (if_pos c).symm
    · refine (if_neg (by omega)).trans ((if_neg hx).trans (Eq.trans ?_ (if_neg c).symm))
      by_cases c2 : x < 0
      · exact (if_neg (by omega)).trans (if_pos c2).symm
      · exact (if_pos (by omega)).trans (if_neg c2).symm
def alP (A C : Nat → Int) (j : Nat) (b : Int) : Prop := (b = 1 ∧ ∀ k, k < j → A k = C k) ∨ (b = 0 ∧ ∃ k, k < j ∧ ¬ A k = C k)
theorem alP.r {A C : Nat → Int} {j : Nat} {b : Int} (h : alP A C j b) : b = 0 ∨ b = 1 := by
  rcases h with h | h
  · exact Or.inr h.1
  · exact Or.inl h.1
theorem alP.one {A C : Nat → Int} {j : Nat} {b : Int} (h : alP A C j b) (hb : ¬ b = 0) (hj : A j = C j) : alP A C (j + 1) 1 := by
  rcases h with ⟨_, h⟩ | h
  · refine Or.inl ⟨rfl, fun k hk => ?_⟩
    by_cases e : k = j
    · subst e; exact hj
    · exact h k (by omega)
  · exact absurd h.1 hb
theorem alP.non {A C : Nat → Int} {j : Nat} {b : Int} (h : alP A C j b) (hb : b = 0 ∨ ¬ A j = C j) : alP A C (j + 1) 0 := by
  refine Or.inr ⟨rfl, ?_⟩
  rcases hb with hb | hb
  · rcases h with h | ⟨_, k, h1, h2⟩
    · omega
    · exact ⟨k, by omega, h2⟩
  · exact ⟨j, by omega, hb⟩
theorem form_no {s : xS} {i p : Nat} (hf : plc s (i : Int) (p : Int)) (h : (xst s i).1 = 0 ∨ ¬ (xst s i).2.1 = 0) : xForm s (i : Int) (p : Int) = -3 := by
  unfold xForm
  rw [if_neg (fun q => q hf)]
  exact if_pos h
theorem form_is {s : xS} {i p : Nat} (hf : plc s (i : Int) (p : Int)) (h : ¬ ((xst s i).1 = 0 ∨ ¬ (xst s i).2.1 = 0)) : xForm s (i : Int) (p : Int) = formX (xπ s i) (xκ s i) p := by
  unfold xForm
  rw [if_neg (fun q => q hf)]
  exact if_neg h
theorem formX_no {π : mS} {κ : kS} {p : Nat} (h : ¬ toldB π κ p = true) : formX π κ p = -1 := if_neg h
theorem formX_8 {π : mS} {κ : kS} {p : Nat} (h : toldB π κ p = true) (hb : ∃ k, k < min (wr0 (oldL π κ p)).2.1 (wr0 (κ.1 p).2.1).2.1 ∧ ¬ (wr0 (oldL π κ p)).2.2 k = (wr0 (κ.1 p).2.1).2.2 k) : formX π κ p = 8 := by
  refine (if_pos h).trans (if_neg (fun q => ?_))
  obtain ⟨k, h1, h2⟩ := hb
  exact h2 (alikeB_iff.mp q k h1)
theorem formX_o {π : mS} {κ : kS} {p : Nat} (h : toldB π κ p = true) (hb : ∀ k, k < min (wr0 (oldL π κ p)).2.1 (wr0 (κ.1 p).2.1).2.1 → (wr0 (oldL π κ p)).2.2 k = (wr0 (κ.1 p).2.1).2.2 k) : formX π κ p = formO (κ.1 p) (((wr0 (κ.1 p).2.1).2.1 : Int) - ((wr0 (oldL π κ p)).2.1 : Int)) :=
  (if_pos h).trans (if_pos (alikeB_iff.mpr hb))
theorem told_there {π : mS} {κ : kS} {p : Nat} (hN : mN π ≤ 40) (hd : ∀ p q, p < 40 → 0 ≤ (κ.1 p).1 → seesP π p q → 0 ≤ (κ.1 q).1) (h : toldB π κ p = true) : 0 ≤ (κ.1 p).1 := by
  obtain ⟨q, h1, h2, h3⟩ := toldB_iff.mp h
  exact hd q p (by omega) h2 h3
theorem before_s {π : mS} {κ : kS} {j : Nat} : beforeF (tfF π κ) (j + 1) = if toldB π κ j = true then (j : Int) else beforeF (tfF π κ) j := by
  show (if tfF π κ j = 0 then beforeF (tfF π κ) j else (j : Int)) = _
  unfold tfF
  by_cases c : toldB π κ j = true
  · rw [if_pos c, if_pos c, if_neg (by decide)]
  · rw [if_neg c, if_neg c, if_pos rfl]
theorem before_told {π : mS} {κ : kS} : ∀ j b : Nat, beforeF (tfF π κ) j = (b : Int) → b < j ∧ toldB π κ b = true
  | 0, b, h => by
    have h' : (-1 : Int) = (b : Int) := h
    omega
  | j + 1, b, h => by
    rw [before_s] at h
    split at h
    · rename_i c
      have : b = j := by omega
      rw [this]; exact ⟨by omega, c⟩
    · have := before_told j b h
      exact ⟨by omega, this.2⟩
theorem old_beg {π : mS} {κ : kS} {p : Nat} (h : beforeF (tfF π κ) p = -1) : oldL π κ p = mBeg π := if_pos h
theorem old_at {π : mS} {κ : kS} {p b : Nat} (h : beforeF (tfF π κ) p = (b : Int)) : oldL π κ p = (κ.1 b).2.1 := by
  unfold oldL
  rw [h, if_neg (by omega)]
  rfl
theorem before_cs {π : mS} {κ : kS} (p : Nat) : beforeF (tfF π κ) p = -1 ∨ ∃ b : Nat, beforeF (tfF π κ) p = (b : Int) := by
  rcases beforeF_spec (tfF π κ) p with h | ⟨b, _, h⟩
  · exact Or.inl h
  · exact Or.inr ⟨b, h⟩
theorem tX9_told {E : w_E} {G : w_Sh} {I : w_Mm} {y : Nat} {s : xS} (hY : isY G y) (hy : yOK I y s) {m0 : Int} (hm : inR m0) {w0 : Int} (hw0 : inR w0) (hz : zI s) : w_Ct E mX9_told 2 [.ref y, iv m0, iv w0] G I 0 0 (w_Pi (fun r G' I' => r = (xTold s m0 w0) ∧ G' = G ∧ I' = I)) := by
  obtain ⟨hTy, hYr⟩ := hY
  have hy0 := hy
  obtain ⟨hQ, hy3, hy6, hym, hyz⟩ := hy
  have hQ0 := hQ
  obtain ⟨hq0, hq2, hq16, hqF, hch⟩ := hQ
  refine w_Ct.of (ls := [some (.ref y), some (iv m0), some (iv w0)]) (by decide +kernel) (Nat.le_of_ble_eq_true rfl) rfl rfl (fun rng => ?_)
  by_cases hf : fnd s m0
  · obtain ⟨i, rfl⟩ : ∃ i : Nat, m0 = (i : Int) := ⟨m0.toNat, by omega⟩
    have hi : i < xn s := by omega
    have hi6 : i < 6 := by omega
    have hym0 := hym i hi
    obtain ⟨hmM, hd15, hd01, hdK⟩ := hym0
    have hmM0 := hmM
    obtain ⟨hm3, hm4, hm8, hmB, hm6, hmn, hmo, hm10, hmg, hmG⟩ := hmM
    have hwo : ∀ p, p < mN (xπ s i) → 2 ≤ mOp (xπ s i) p ∧ mOp (xπ s i) p ≤ 7 → 0 ≤ mA (xπ s i) p ∧ mA (xπ s i) p < 8 := fun p hp ho => by obtain ⟨_, _, q3, q4, _⟩ := (hz.1 i hi).1 p hp; omega
    refine v_aload_n dX9_told_0 rfl ?_
    refine v_iload_n dX9_told_1 rfl ?_
    refine v_Vb (tX9_isMethod (⟨hTy, hYr⟩ : isY G y) hy0 ⟨by omega, by omega⟩) kX9_139 hTy rfl rfl ⟨by decide, by decide⟩ ⟨by decide, by decide⟩ (Nat.le_of_ble_eq_true rfl) dX9_told_2 (fun h1 => ?_) (fun h1 => by exfalso; omega)
    refine v_if_eq ⟨by decide, by decide⟩ dX9_told_5 (fun h => by exfalso; omega) (fun hb5 => ?_)
    refine v_iload_n dX9_told_8 rfl ?_
    refine v_iconst dX9_told_9 ?_
    refine v_iconst dX9_told_10 ?_
    refine v_Sb (tX9_in hw0 ⟨by decide, by decide⟩ ⟨by decide, by decide⟩) kX9_99 rfl rfl ⟨by decide, by decide⟩ ⟨by decide, by decide⟩ (Nat.le_of_ble_eq_true rfl) dX9_told_11 (fun h2 => ?_) (fun h2 => ?_)
    · refine v_if_ne ⟨by decide, by decide⟩ dX9_told_14 (fun hb14 => ?_) (fun h => by exfalso; omega)
      refine v_aload_n dX9_told_20 rfl ?_
      refine v_getR fX9_57 rfl hTy (hYr 14 _ rfl).2 dX9_told_21 ?_
      refine v_iload_n dX9_told_24 rfl ?_
      refine v_zald' (i := i) (v := (xst s i).1) hd15 (show G.1 (y + 15) = (11, 6) from (hYr 14 _ rfl).1) rfl (by omega) (by omega) dX9_told_25 ?_
      refine v_if_ne ⟨by omega, by omega⟩ dX9_told_26 (fun h3 => ?_) (fun h3 => ?_)
      · obtain ⟨hK, hk16, hk17⟩ := hdK (by omega)
        refine v_iload_n dX9_told_32 rfl ?_
        refine v_if_ne hw0 dX9_told_33 (fun h4 => ?_) (fun h4 => ?_)
        · refine v_iload_n dX9_told_45 rfl ?_
          refine v_iconst dX9_told_46 ?_
          refine v_icmp_ne hw0 ⟨by decide, by decide⟩ dX9_told_47 (fun h5 => ?_) (fun h5 => ?_)
          · refine v_iload_n dX9_told_59 rfl ?_
            refine v_iconst dX9_told_60 ?_
            refine v_icmp_ne hw0 ⟨by decide, by decide⟩ dX9_told_61 (fun h6 => ?_) (fun h6 => ?_)
            · refine v_aload_n dX9_told_73 rfl ?_
              refine v_iload_n dX9_told_74 rfl ?_
              refine v_VmN (tX9_wanted (⟨hTy, hYr⟩ : isY G y) hi6 hmM0 hK hwo) kX9_234 hTy rfl rfl ⟨by decide, by decide⟩ ⟨by decide, by decide⟩ (Nat.le_of_ble_eq_true rfl) dX9_told_75 (fun r7 er7 hr7 rng8 => ?_)
              subst er7
              exact v_iret rfl (by decide) (by decide) hr7 dX9_told_78 ⟨(by unfold xTold; (try simp only [Int.toNat_natCast]); first | rw [if_pos (by omega)] | rw [if_neg (by omega), if_pos (by omega)] | rw [if_neg (by omega), if_neg (by omega), if_pos (by omega)] | rw [if_neg (by omega), if_neg (by omega), if_neg (by omega), if_pos (by omega)] | rw [if_neg (by omega), if_neg (by omega), if_neg (by omega), if_neg (by omega), if_pos (by omega)] | rw [if_neg (by omega), if_neg (by omega), if_neg (by omega), if_neg (by omega), if_neg (by omega)]), rfl, rfl⟩
            · refine v_aload_n dX9_told_64 rfl ?_
              refine v_getR fX9_69 rfl hTy (hYr 18 _ rfl).2 dX9_told_65 ?_
              refine v_iload_n dX9_told_68 rfl ?_
              refine v_iald' (i := i) (v := (xκ s i).2.2.2) hK.2.2.2 (show G.1 (y + 19) = (10, 6) from (hYr 18 _ rfl).1) rfl (by omega) (by omega) dX9_told_69 ?_
              refine v_goto dX9_told_70 ?_
              exact v_iret rfl (by decide) (by decide) (by rw [← hK.2.2.2]; exact rng _ _) dX9_told_78 ⟨(by unfold xTold; (try simp only [Int.toNat_natCast]); first | rw [if_pos (by omega)] | rw [if_neg (by omega), if_pos (by omega)] | rw [if_neg (by omega), if_neg (by omega), if_pos (by omega)] | rw [if_neg (by omega), if_neg (by omega), if_neg (by omega), if_pos (by omega)] | rw [if_neg (by omega), if_neg (by omega), if_neg (by omega), if_neg (by omega), if_pos (by omega)] | rw [if_neg (by omega), if_neg (by omega), if_neg (by omega), if_neg (by omega), if_neg (by omega)]), rfl, rfl⟩
          · refine v_aload_n dX9_told_50 rfl ?_
            refine v_getR fX9_66 rfl hTy (hYr 17 _ rfl).2 dX9_told_51 ?_
            refine v_iload_n dX9_told_54 rfl ?_
            refine v_iald' (i := i) (v := (xκ s i).2.2.1) hK.2.2.1 (show G.1 (y + 18) = (10, 6) from (hYr 17 _ rfl).1) rfl (by omega) (by omega) dX9_told_55 ?_
            refine v_goto dX9_told_56 ?_
            exact v_iret rfl (by decide) (by decide) (by rw [← hK.2.2.1]; exact rng _ _) dX9_told_78 ⟨(by unfold xTold; (try simp only [Int.toNat_natCast]); first | rw [if_pos (by omega)] | rw [if_neg (by omega), if_pos (by omega)] | rw [if_neg (by omega), if_neg (by omega), if_pos (by omega)] | rw [if_neg (by omega), if_neg (by omega), if_neg (by omega), if_pos (by omega)] | rw [if_neg (by omega), if_neg (by omega), if_neg (by omega), if_neg (by omega), if_pos (by omega)] | rw [if_neg (by omega), if_neg (by omega), if_neg (by omega), if_neg (by omega), if_neg (by omega)]), rfl, rfl⟩
        · refine v_aload_n dX9_told_36 rfl ?_
          refine v_getR fX9_63 rfl hTy (hYr 16 _ rfl).2 dX9_told_37 ?_
          refine v_iload_n dX9_told_40 rfl ?_
          refine v_iald' (i := i) (v := (xst s i).2.2) hk17 (show G.1 (y + 17) = (10, 6) from (hYr 16 _ rfl).1) rfl (by omega) (by omega) dX9_told_41 ?_
          refine v_goto dX9_told_42 ?_
          exact v_iret rfl (by decide) (by decide) (by rw [← hk17]; exact rng _ _) dX9_told_78 ⟨(by unfold xTold; (try simp only [Int.toNat_natCast]); first | rw [if_pos (by omega)] | rw [if_neg (by omega), if_pos (by omega)] | rw [if_neg (by omega), if_neg (by omega), if_pos (by omega)] | rw [if_neg (by omega), if_neg (by omega), if_neg (by omega), if_pos (by omega)] | rw [if_neg (by omega), if_neg (by omega), if_neg (by omega), if_neg (by omega), if_pos (by omega)] | rw [if_neg (by omega), if_neg (by omega), if_neg (by omega), if_neg (by omega), if_neg (by omega)]), rfl, rfl⟩
      · refine v_bipush dX9_told_29 (by decide) ?_
        exact v_iret rfl (by decide) (by decide) ⟨by decide, by decide⟩ dX9_told_31 ⟨(by unfold xTold; (try simp only [Int.toNat_natCast]); first | rw [if_pos (by omega)] | rw [if_neg (by omega), if_pos (by omega)] | rw [if_neg (by omega), if_neg (by omega), if_pos (by omega)] | rw [if_neg (by omega), if_neg (by omega), if_neg (by omega), if_pos (by omega)] | rw [if_neg (by omega), if_neg (by omega), if_neg (by omega), if_neg (by omega), if_pos (by omega)] | rw [if_neg (by omega), if_neg (by omega), if_neg (by omega), if_neg (by omega), if_neg (by omega)]), rfl, rfl⟩
    · refine v_if_ne ⟨by decide, by decide⟩ dX9_told_14 (fun h => by exfalso; omega) (fun hb14 => ?_)
      refine v_bipush dX9_told_17 (by decide) ?_
      exact v_iret rfl (by decide) (by decide) ⟨by decide, by decide⟩ dX9_told_19 ⟨(by unfold xTold; (try simp only [Int.toNat_natCast]); first | rw [if_pos (by omega)] | rw [if_neg (by omega), if_pos (by omega)] | rw [if_neg (by omega), if_neg (by omega), if_pos (by omega)] | rw [if_neg (by omega), if_neg (by omega), if_neg (by omega), if_pos (by omega)] | rw [if_neg (by omega), if_neg (by omega), if_neg (by omega), if_neg (by omega), if_pos (by omega)] | rw [if_neg (by omega), if_neg (by omega), if_neg (by omega), if_neg (by omega), if_neg (by omega)]), rfl, rfl⟩
  · refine v_aload_n dX9_told_0 rfl ?_
    refine v_iload_n dX9_told_1 rfl ?_
    refine v_Vb (tX9_isMethod (⟨hTy, hYr⟩ : isY G y) hy0 hm) kX9_139 hTy rfl rfl ⟨by decide, by decide⟩ ⟨by decide, by decide⟩ (Nat.le_of_ble_eq_true rfl) dX9_told_2 (fun h1 => by exact absurd h1 hf) (fun h1 => ?_)
    refine v_if_eq ⟨by decide, by decide⟩ dX9_told_5 (fun hb5 => ?_) (fun h => by exfalso; omega)
    refine v_bipush dX9_told_17 (by decide) ?_
    exact v_iret rfl (by decide) (by decide) ⟨by decide, by decide⟩ dX9_told_19 ⟨(by unfold xTold; rw [if_pos (Or.inl hf)]), rfl, rfl⟩
theorem tX9_isPlace {E : w_E} {G : w_Sh} {I : w_Mm} {y : Nat} {s : xS} (hY : isY G y) (hy : yOK I y s) {m0 : Int} (hm : inR m0) {p0 : Int} (hp0 : inR p0) : w_Cb E mX9_isPlace 2 [.ref y, iv m0, iv p0] G I (plc s m0 p0) := by
  obtain ⟨hTy, hYr⟩ := hY
  have hy0 := hy
  obtain ⟨hQ, hy3, hy6, hym, hyz⟩ := hy
  have hQ0 := hQ
  obtain ⟨hq0, hq2, hq16, hqF, hch⟩ := hQ
  refine w_Ct.of (ls := [some (.ref y), some (iv m0), some (iv p0)]) (by decide +kernel) (Nat.le_of_ble_eq_true rfl) rfl rfl (fun rng => ?_)
  by_cases hf : fnd s m0
  · obtain ⟨i, rfl⟩ : ∃ i : Nat, m0 = (i : Int) := ⟨m0.toNat, by omega⟩
    have hi : i < xn s := by omega
    have hi6 : i < 6 := by omega
    have hym0 := hym i hi
    obtain ⟨hmM, hd15, hd01, hdK⟩ := hym0
    have hmM0 := hmM
    obtain ⟨hm3, hm4, hm8, hmB, hm6, hmn, hmo, hm10, hmg, hmG⟩ := hmM
    refine v_aload_n dX9_isPlace_0 rfl ?_
    refine v_iload_n dX9_isPlace_1 rfl ?_
    refine v_Vb (tX9_isMethod (⟨hTy, hYr⟩ : isY G y) hy0 ⟨by omega, by omega⟩) kX9_139 hTy rfl rfl ⟨by decide, by decide⟩ ⟨by decide, by decide⟩ (Nat.le_of_ble_eq_true rfl) dX9_isPlace_2 (fun h1 => ?_) (fun h1 => by exfalso; omega)
    refine v_if_eq ⟨by decide, by decide⟩ dX9_isPlace_5 (fun h => by exfalso; omega) (fun hb5 => ?_)
    refine v_iload_n dX9_isPlace_8 rfl ?_
    refine v_iconst dX9_isPlace_9 ?_
    refine v_aload_n dX9_isPlace_10 rfl ?_
    refine v_getR fX9_30 rfl hTy (hYr 5 _ rfl).2 dX9_isPlace_11 ?_
    refine v_iload_n dX9_isPlace_14 rfl ?_
    refine v_iald' (i := i) (v := ((mN (xπ s i) : Nat) : Int)) hm6 (show G.1 (y + 6) = (10, 6) from (hYr 5 _ rfl).1) rfl (by omega) (by omega) dX9_isPlace_15 ?_
    refine v_iconst dX9_isPlace_16 ?_
    refine v_isub dX9_isPlace_17 ?_
    refine v_Sb (tX9_in hp0 ⟨by decide, by decide⟩ ⟨by omega, by omega⟩) kX9_99 rfl rfl ⟨by decide, by decide⟩ ⟨by decide, by decide⟩ (Nat.le_of_ble_eq_true rfl) dX9_isPlace_18 (fun h2 => ?_) (fun h2 => ?_)
    · refine v_if_eq ⟨by decide, by decide⟩ dX9_isPlace_21 (fun h => by exfalso; omega) (fun hb21 => ?_)
      refine v_iconst dX9_isPlace_24 ?_
      refine v_goto dX9_isPlace_25 ?_
      exact v_zret rfl (by decide) (by decide) (Or.inr rfl) dX9_isPlace_29 ⟨rfl, rfl, Or.inl ⟨rfl, by (have e9 : ((i : Nat) : Int).toNat = i := rfl; unfold plc; rw [e9]; omega)⟩⟩
    · refine v_if_eq ⟨by decide, by decide⟩ dX9_isPlace_21 (fun hb21 => ?_) (fun h => by exfalso; omega)
      refine v_iconst dX9_isPlace_28 ?_
      exact v_zret rfl (by decide) (by decide) (Or.inl rfl) dX9_isPlace_29 ⟨rfl, rfl, Or.inr ⟨rfl, by (have e9 : ((i : Nat) : Int).toNat = i := rfl; unfold plc; rw [e9]; omega)⟩⟩
  · refine v_aload_n dX9_isPlace_0 rfl ?_
    refine v_iload_n dX9_isPlace_1 rfl ?_
    refine v_Vb (tX9_isMethod (⟨hTy, hYr⟩ : isY G y) hy0 hm) kX9_139 hTy rfl rfl ⟨by decide, by decide⟩ ⟨by decide, by decide⟩ (Nat.le_of_ble_eq_true rfl) dX9_isPlace_2 (fun h1 => by exact absurd h1 hf) (fun h1 => ?_)
    refine v_if_eq ⟨by decide, by decide⟩ dX9_isPlace_5 (fun hb5 => ?_) (fun h => by exfalso; omega)
    refine v_iconst dX9_isPlace_28 ?_
    exact v_zret rfl (by decide) (by decide) (Or.inl rfl) dX9_isPlace_29 ⟨rfl, rfl, Or.inr ⟨rfl, by exact fun q => hf q.1⟩⟩
theorem tX9_height {E : w_E} {G : w_Sh} {I : w_Mm} {y : Nat} {s : xS} (hY : isY G y) (hy : yOK I y s) {m0 : Int} (hm : inR m0) {p0 : Int} (hp0 : inR p0) (hlw : ∀ i j, i < xn s → j < 40 → -1 ≤ ((xκ s i).1 j).1) : w_Ct E mX9_height 3 [.ref y, iv m0, iv p0] G I 0 0 (w_Pi (fun r G' I' => r = (xHeight s m0 p0) ∧ G' = G ∧ I' = I)) := by
  obtain ⟨hTy, hYr⟩ := hY
  have hy0 := hy
  obtain ⟨hQ, hy3, hy6, hym, hyz⟩ := hy
  have hQ0 := hQ
  obtain ⟨hq0, hq2, hq16, hqF, hch⟩ := hQ
  refine w_Ct.of (ls := [some (.ref y), some (iv m0), some (iv p0)]) (by decide +kernel) (Nat.le_of_ble_eq_true rfl) rfl rfl (fun rng => ?_)
  by_cases hf : plc s m0 p0
  · obtain ⟨i, rfl⟩ : ∃ i : Nat, m0 = (i : Int) := ⟨m0.toNat, by have h9 := hf.1; omega⟩
    obtain ⟨p, rfl⟩ : ∃ p : Nat, p0 = (p : Int) := ⟨p0.toNat, by have h9 := hf.2.1; omega⟩
    have hi : i < xn s := by have h9 := hf.1; omega
    have hi6 : i < 6 := by omega
    have hym0 := hym i hi
    obtain ⟨hmM, hd15, hd01, hdK⟩ := hym0
    have hmM0 := hmM
    obtain ⟨hm3, hm4, hm8, hmB, hm6, hmn, hmo, hm10, hmg, hmG⟩ := hmM
    have hp : p < mN (xπ s i) := by have h9 : ((p : Nat) : Int) < (mN (xπ s i) : Int) := hf.2.2; omega
    refine v_aload_n dX9_height_0 rfl ?_
    refine v_iload_n dX9_height_1 rfl ?_
    refine v_iload_n dX9_height_2 rfl ?_
    refine v_Vb (tX9_isPlace (⟨hTy, hYr⟩ : isY G y) hy0 ⟨by omega, by omega⟩ ⟨by omega, by omega⟩) kX9_238 hTy rfl rfl ⟨by decide, by decide⟩ ⟨by decide, by decide⟩ (Nat.le_of_ble_eq_true rfl) dX9_height_3 (fun h1 => ?_) (fun h1 => by exact absurd hf h1)
    refine v_if_ne ⟨by decide, by decide⟩ dX9_height_6 (fun hb6 => ?_) (fun h => by exfalso; omega)
    refine v_aload_n dX9_height_12 rfl ?_
    refine v_getR fX9_57 rfl hTy (hYr 14 _ rfl).2 dX9_height_13 ?_
    refine v_iload_n dX9_height_16 rfl ?_
    refine v_zald' (i := i) (v := (xst s i).1) hd15 (show G.1 (y + 15) = (11, 6) from (hYr 14 _ rfl).1) rfl (by omega) (by omega) dX9_height_17 ?_
    refine v_if_ne ⟨by omega, by omega⟩ dX9_height_18 (fun h2 => ?_) (fun h2 => ?_)
    · obtain ⟨hK, hk16, hk17⟩ := hdK (by omega)
      have hF := hK.1 p (by omega)
      have eX : xHeight s (i : Int) (p : Int) = ((xκ s i).1 p).1 := by unfold xHeight; rw [if_neg (fun q => q hf)]; exact if_neg (show ¬ (xst s i).1 = 0 by omega)
      by_cases hc : 0 ≤ ((xκ s i).1 p).1
      · obtain ⟨hF1, hF2, hF3, hF4⟩ := hF.2 hc
        refine v_aload_n dX9_height_24 rfl ?_
        refine v_getR fX9_72 rfl hTy (hYr 19 _ rfl).2 dX9_height_25 ?_
        refine v_bipush dX9_height_28 (by decide) ?_
        refine v_iload_n dX9_height_30 rfl ?_
        refine v_imul dX9_height_31 ?_
        refine v_iload_n dX9_height_32 rfl ?_
        refine v_iadd dX9_height_33 ?_
        refine v_zald' (i := ((40 * i) + p)) (v := 1) (hF.1.trans (if_pos hc)) (show G.1 (y + 20) = (11, 240) from (hYr 19 _ rfl).1) (by omega) (by omega) (by omega) dX9_height_34 ?_
        refine v_if_eq ⟨by decide, by decide⟩ dX9_height_35 (fun h => by exfalso; omega) (fun hb35 => ?_)
        refine v_aload_n dX9_height_38 rfl ?_
        refine v_getR fX9_78 rfl hTy (hYr 21 _ rfl).2 dX9_height_39 ?_
        refine v_bipush dX9_height_42 (by decide) ?_
        refine v_iload_n dX9_height_44 rfl ?_
        refine v_imul dX9_height_45 ?_
        refine v_iload_n dX9_height_46 rfl ?_
        refine v_iadd dX9_height_47 ?_
        refine v_iald' (i := ((40 * i) + p)) (v := ((xκ s i).1 p).1) hF1 (show G.1 (y + 22) = (10, 240) from (hYr 21 _ rfl).1) (by omega) (by omega) (by omega) dX9_height_48 ?_
        refine v_goto dX9_height_49 ?_
        exact v_iret rfl (by decide) (by decide) ⟨by omega, by omega⟩ dX9_height_53 ⟨eX.symm, rfl, rfl⟩
      · have hn1 : ((xκ s i).1 p).1 = -1 := by have h9 := hlw i p hi (by omega); omega
        refine v_aload_n dX9_height_24 rfl ?_
        refine v_getR fX9_72 rfl hTy (hYr 19 _ rfl).2 dX9_height_25 ?_
        refine v_bipush dX9_height_28 (by decide) ?_
        refine v_iload_n dX9_height_30 rfl ?_
        refine v_imul dX9_height_31 ?_
        refine v_iload_n dX9_height_32 rfl ?_
        refine v_iadd dX9_height_33 ?_
        refine v_zald' (i := ((40 * i) + p)) (v := 0) (hF.1.trans (if_neg hc)) (show G.1 (y + 20) = (11, 240) from (hYr 19 _ rfl).1) (by omega) (by omega) (by omega) dX9_height_34 ?_
        refine v_if_eq ⟨by decide, by decide⟩ dX9_height_35 (fun hb35 => ?_) (fun h => by exfalso; omega)
        refine v_iconst dX9_height_52 ?_
        exact v_iret rfl (by decide) (by decide) ⟨by decide, by decide⟩ dX9_height_53 ⟨(by rw [eX, hn1]), rfl, rfl⟩
    · refine v_bipush dX9_height_21 (by decide) ?_
      exact v_iret rfl (by decide) (by decide) ⟨by decide, by decide⟩ dX9_height_23 ⟨(by unfold xHeight; rw [if_neg (fun q => q hf)]; exact (if_pos (show (xst s i).1 = 0 by omega)).symm), rfl, rfl⟩
  · refine v_aload_n dX9_height_0 rfl ?_
    refine v_iload_n dX9_height_1 rfl ?_
    refine v_iload_n dX9_height_2 rfl ?_
    refine v_Vb (tX9_isPlace (⟨hTy, hYr⟩ : isY G y) hy0 hm hp0) kX9_238 hTy rfl rfl ⟨by decide, by decide⟩ ⟨by decide, by decide⟩ (Nat.le_of_ble_eq_true rfl) dX9_height_3 (fun h1 => by exact absurd h1 hf) (fun h1 => ?_)
    refine v_if_ne ⟨by decide, by decide⟩ dX9_height_6 (fun h => by exfalso; omega) (fun hb6 => ?_)
    refine v_bipush dX9_height_9 (by decide) ?_
    exact v_iret rfl (by decide) (by decide) ⟨by decide, by decide⟩ dX9_height_11 ⟨(by unfold xHeight; rw [if_pos hf]), rfl, rfl⟩
theorem tX9_frame {E : w_E} {G : w_Sh} {I : w_Mm} {y : Nat} {s : xS} (hY : isY G y) (hy : yOK I y s) {m0 : Int} (hm : inR m0) {p0 k0 : Int} (hp0 : inR p0) (hk0 : inR k0) : w_Ct E mX9_frame 3 [.ref y, iv m0, iv p0, iv k0] G I 0 0 (w_Pi (fun r G' I' => r = (xFrame s m0 p0 k0) ∧ G' = G ∧ I' = I)) := by
  obtain ⟨hTy, hYr⟩ := hY
  have hy0 := hy
  obtain ⟨hQ, hy3, hy6, hym, hyz⟩ := hy
  have hQ0 := hQ
  obtain ⟨hq0, hq2, hq16, hqF, hch⟩ := hQ
  refine w_Ct.of (ls := [some (.ref y), some (iv m0), some (iv p0), some (iv k0), none]) (by decide +kernel) (Nat.le_of_ble_eq_true rfl) rfl rfl (fun rng => ?_)
  by_cases hf : plc s m0 p0
  · obtain ⟨i, rfl⟩ : ∃ i : Nat, m0 = (i : Int) := ⟨m0.toNat, by have h9 := hf.1; omega⟩
    obtain ⟨p, rfl⟩ : ∃ p : Nat, p0 = (p : Int) := ⟨p0.toNat, by have h9 := hf.2.1; omega⟩
    have hi : i < xn s := by have h9 := hf.1; omega
    have hi6 : i < 6 := by omega
    have hym0 := hym i hi
    obtain ⟨hmM, hd15, hd01, hdK⟩ := hym0
    have hmM0 := hmM
    obtain ⟨hm3, hm4, hm8, hmB, hm6, hmn, hmo, hm10, hmg, hmG⟩ := hmM
    have hp : p < mN (xπ s i) := by have h9 : ((p : Nat) : Int) < (mN (xπ s i) : Int) := hf.2.2; omega
    refine v_aload_n dX9_frame_0 rfl ?_
    refine v_iload_n dX9_frame_1 rfl ?_
    refine v_iload_n dX9_frame_2 rfl ?_
    refine v_Vb (tX9_isPlace (⟨hTy, hYr⟩ : isY G y) hy0 ⟨by omega, by omega⟩ ⟨by omega, by omega⟩) kX9_238 hTy rfl rfl ⟨by decide, by decide⟩ ⟨by decide, by decide⟩ (Nat.le_of_ble_eq_true rfl) dX9_frame_3 (fun h1 => ?_) (fun h1 => by exact absurd hf h1)
    refine v_if_eq ⟨by decide, by decide⟩ dX9_frame_6 (fun h => by exfalso; omega) (fun hb6 => ?_)
    refine v_iload_n dX9_frame_9 rfl ?_
    refine v_iconst dX9_frame_10 ?_
    refine v_bipush dX9_frame_11 (by decide) ?_
    refine v_Sb (tX9_in hk0 ⟨by decide, by decide⟩ ⟨by decide, by decide⟩) kX9_99 rfl rfl ⟨by decide, by decide⟩ ⟨by decide, by decide⟩ (Nat.le_of_ble_eq_true rfl) dX9_frame_13 (fun h2 => ?_) (fun h2 => ?_)
    · refine v_if_ne ⟨by decide, by decide⟩ dX9_frame_16 (fun hb16 => ?_) (fun h => by exfalso; omega)
      refine v_aload_n dX9_frame_22 rfl ?_
      refine v_getR fX9_57 rfl hTy (hYr 14 _ rfl).2 dX9_frame_23 ?_
      refine v_iload_n dX9_frame_26 rfl ?_
      refine v_zald' (i := i) (v := (xst s i).1) hd15 (show G.1 (y + 15) = (11, 6) from (hYr 14 _ rfl).1) rfl (by omega) (by omega) dX9_frame_27 ?_
      refine v_if_ne ⟨by omega, by omega⟩ dX9_frame_28 (fun h3 => ?_) (fun h3 => ?_)
      · obtain ⟨k, rfl⟩ : ∃ k : Nat, k0 = (k : Int) := ⟨k0.toNat, by omega⟩
        obtain ⟨hK, hk16, hk17⟩ := hdK (by omega)
        have ef : (40 * ((i : Nat) : Int) + ((p : Nat) : Int)) = ((40 * i + p : Nat) : Int) := by omega
        obtain ⟨f, hff⟩ : ∃ f, f = 40 * i + p := ⟨_, rfl⟩
        have hF := hK.1 p (by omega)
        rw [← hff] at hF ef
        have eX : xFrame s (i : Int) (p : Int) (k : Int) = slotF ((xκ s i).1 p) (k : Int) := by unfold xFrame; rw [if_neg (fun q => by rcases q with q | q; exact q hf; omega)]; exact if_neg (show ¬ (xst s i).1 = 0 by omega)
        by_cases hc : 0 ≤ ((xκ s i).1 p).1
        · obtain ⟨hF1, hF2, hF3, hF4⟩ := hF.2 hc
          by_cases hk8 : k < 8
          · refine v_bipush dX9_frame_34 (by decide) ?_
            refine v_iload_n dX9_frame_36 rfl ?_
            refine v_imul dX9_frame_37 ?_
            refine v_iload_n dX9_frame_38 rfl ?_
            refine v_iadd dX9_frame_39 ?_
            refine v_istore dX9_frame_40 (by decide) rfl ?_
            rw [ef]
            refine v_aload_n dX9_frame_42 rfl ?_
            refine v_getR fX9_72 rfl hTy (hYr 19 _ rfl).2 dX9_frame_43 ?_
            refine v_iload dX9_frame_46 rfl ?_
            refine v_zald' (i := f) (v := 1) (hF.1.trans (if_pos hc)) (show G.1 (y + 20) = (11, 240) from (hYr 19 _ rfl).1) rfl (by omega) (by omega) dX9_frame_48 ?_
            refine v_if_eq ⟨by decide, by decide⟩ dX9_frame_49 (fun h => by exfalso; omega) (fun hb49 => ?_)
            refine v_iload_n dX9_frame_52 rfl ?_
            refine v_bipush dX9_frame_53 (by decide) ?_
            refine v_icmp_lt ⟨by omega, by omega⟩ ⟨by decide, by decide⟩ dX9_frame_55 (fun hb55 => ?_) (fun h => by exfalso; omega)
            refine v_aload_n dX9_frame_72 rfl ?_
            refine v_getR fX9_81 rfl hTy (hYr 22 _ rfl).2 dX9_frame_73 ?_
            refine v_bipush dX9_frame_76 (by decide) ?_
            refine v_iload dX9_frame_78 rfl ?_
            refine v_imul dX9_frame_80 ?_
            refine v_iload_n dX9_frame_81 rfl ?_
            refine v_iadd dX9_frame_82 ?_
            refine v_iald' (i := ((16 * f) + k)) (v := ((xκ s i).1 p).2.1 k) (hF3 k hk8) (show G.1 (y + 23) = (10, 3840) from (hYr 22 _ rfl).1) (by omega) (by omega) (by omega) dX9_frame_83 ?_
            refine v_goto dX9_frame_84 ?_
            exact v_iret rfl (by decide) (by decide) (by rw [← hF3 k hk8]; exact rng _ _) dX9_frame_88 ⟨(by rw [eX]; exact (slot_lo hc hk8).symm), rfl, rfl⟩
          · refine v_bipush dX9_frame_34 (by decide) ?_
            refine v_iload_n dX9_frame_36 rfl ?_
            refine v_imul dX9_frame_37 ?_
            refine v_iload_n dX9_frame_38 rfl ?_
            refine v_iadd dX9_frame_39 ?_
            refine v_istore dX9_frame_40 (by decide) rfl ?_
            rw [ef]
            refine v_aload_n dX9_frame_42 rfl ?_
            refine v_getR fX9_72 rfl hTy (hYr 19 _ rfl).2 dX9_frame_43 ?_
            refine v_iload dX9_frame_46 rfl ?_
            refine v_zald' (i := f) (v := 1) (hF.1.trans (if_pos hc)) (show G.1 (y + 20) = (11, 240) from (hYr 19 _ rfl).1) rfl (by omega) (by omega) dX9_frame_48 ?_
            refine v_if_eq ⟨by decide, by decide⟩ dX9_frame_49 (fun h => by exfalso; omega) (fun hb49 => ?_)
            refine v_iload_n dX9_frame_52 rfl ?_
            refine v_bipush dX9_frame_53 (by decide) ?_
            refine v_icmp_lt ⟨by omega, by omega⟩ ⟨by decide, by decide⟩ dX9_frame_55 (fun h => by exfalso; omega) (fun hb55 => ?_)
            refine v_iload_n dX9_frame_58 rfl ?_
            refine v_bipush dX9_frame_59 (by decide) ?_
            refine v_isub dX9_frame_61 ?_
            refine v_aload_n dX9_frame_62 rfl ?_
            refine v_getR fX9_78 rfl hTy (hYr 21 _ rfl).2 dX9_frame_63 ?_
            refine v_iload dX9_frame_66 rfl ?_
            refine v_iald' (i := f) (v := ((xκ s i).1 p).1) hF1 (show G.1 (y + 22) = (10, 240) from (hYr 21 _ rfl).1) rfl (by omega) (by omega) dX9_frame_68 ?_
            refine v_icmp_ge ⟨by omega, by omega⟩ ⟨by omega, by omega⟩ dX9_frame_69 (fun h1 => ?_) (fun h1 => ?_)
            · refine v_iconst dX9_frame_87 ?_
              exact v_iret rfl (by decide) (by decide) ⟨by decide, by decide⟩ dX9_frame_88 ⟨(by rw [eX]; exact (slot_no (by omega)).symm), rfl, rfl⟩
            · refine v_aload_n dX9_frame_72 rfl ?_
              refine v_getR fX9_81 rfl hTy (hYr 22 _ rfl).2 dX9_frame_73 ?_
              refine v_bipush dX9_frame_76 (by decide) ?_
              refine v_iload dX9_frame_78 rfl ?_
              refine v_imul dX9_frame_80 ?_
              refine v_iload_n dX9_frame_81 rfl ?_
              refine v_iadd dX9_frame_82 ?_
              refine v_iald' (i := ((16 * f) + k)) (v := ((xκ s i).1 p).2.2 (k - 8)) (show I (y + 23) (16 * f + k) = ((xκ s i).1 p).2.2 (k - 8) by rw [show 16 * f + k = 16 * f + 8 + (k - 8) by omega]; exact hF4 (k - 8) (by omega)) (show G.1 (y + 23) = (10, 3840) from (hYr 22 _ rfl).1) (by omega) (by omega) (by omega) dX9_frame_83 ?_
              refine v_goto dX9_frame_84 ?_
              exact v_iret rfl (by decide) (by decide) (by rw [← hF4 (k - 8) (by omega)]; exact rng _ _) dX9_frame_88 ⟨(by rw [eX]; exact (slot_hi hc hk8 (by omega)).symm), rfl, rfl⟩
        · refine v_bipush dX9_frame_34 (by decide) ?_
          refine v_iload_n dX9_frame_36 rfl ?_
          refine v_imul dX9_frame_37 ?_
          refine v_iload_n dX9_frame_38 rfl ?_
          refine v_iadd dX9_frame_39 ?_
          refine v_istore dX9_frame_40 (by decide) rfl ?_
          rw [ef]
          refine v_aload_n dX9_frame_42 rfl ?_
          refine v_getR fX9_72 rfl hTy (hYr 19 _ rfl).2 dX9_frame_43 ?_
          refine v_iload dX9_frame_46 rfl ?_
          refine v_zald' (i := f) (v := 0) (hF.1.trans (if_neg hc)) (show G.1 (y + 20) = (11, 240) from (hYr 19 _ rfl).1) rfl (by omega) (by omega) dX9_frame_48 ?_
          refine v_if_eq ⟨by decide, by decide⟩ dX9_frame_49 (fun hb49 => ?_) (fun h => by exfalso; omega)
          refine v_iconst dX9_frame_87 ?_
          exact v_iret rfl (by decide) (by decide) ⟨by decide, by decide⟩ dX9_frame_88 ⟨(by rw [eX]; exact (slot_no (by omega)).symm), rfl, rfl⟩
      · refine v_bipush dX9_frame_31 (by decide) ?_
        exact v_iret rfl (by decide) (by decide) ⟨by decide, by decide⟩ dX9_frame_33 ⟨(by unfold xFrame; rw [if_neg (fun q => by rcases q with q | q; exact q hf; omega)]; exact (if_pos (show (xst s i).1 = 0 by omega)).symm), rfl, rfl⟩
    · refine v_if_ne ⟨by decide, by decide⟩ dX9_frame_16 (fun h => by exfalso; omega) (fun hb16 => ?_)
      refine v_bipush dX9_frame_19 (by decide) ?_
      exact v_iret rfl (by decide) (by decide) ⟨by decide, by decide⟩ dX9_frame_21 ⟨(by unfold xFrame; rw [if_pos (by omega)]), rfl, rfl⟩
  · refine v_aload_n dX9_frame_0 rfl ?_
    refine v_iload_n dX9_frame_1 rfl ?_
    refine v_iload_n dX9_frame_2 rfl ?_
    refine v_Vb (tX9_isPlace (⟨hTy, hYr⟩ : isY G y) hy0 hm hp0) kX9_238 hTy rfl rfl ⟨by decide, by decide⟩ ⟨by decide, by decide⟩ (Nat.le_of_ble_eq_true rfl) dX9_frame_3 (fun h1 => by exact absurd h1 hf) (fun h1 => ?_)
    refine v_if_eq ⟨by decide, by decide⟩ dX9_frame_6 (fun hb6 => ?_) (fun h => by exfalso; omega)
    refine v_bipush dX9_frame_19 (by decide) ?_
    exact v_iret rfl (by decide) (by decide) ⟨by decide, by decide⟩ dX9_frame_21 ⟨(by unfold xFrame; rw [if_pos (Or.inl hf)]), rfl, rfl⟩
theorem tX9_form {E : w_E} {G : w_Sh} {I : w_Mm} {y : Nat} {s : xS} (hY : isY G y) (hy : yOK I y s) {m0 : Int} (hm : inR m0) {p0 : Int} (hp0 : inR p0) (hz : zI s) : w_Ct E mX9_form 3 [.ref y, iv m0, iv p0] G I 0 0 (w_Pi (fun r G' J => G' = G ∧ r = xForm s m0 p0 ∧ yOK J y s ∧ offB I J y)) := by
  obtain ⟨hTy, hYr⟩ := hY
  have hy0 := hy
  obtain ⟨hQ, hy3, hy6, hym, hyz⟩ := hy
  have hQ0 := hQ
  obtain ⟨hq0, hq2, hq16, hqF, hch⟩ := hQ
  refine w_Ct.of (ls := [some (.ref y), some (iv m0), some (iv p0), none, none, none, none, none, none, none]) (by decide +kernel) (Nat.le_of_ble_eq_true rfl) rfl rfl (fun rng => ?_)
  by_cases hf : plc s m0 p0
  · obtain ⟨i, rfl⟩ : ∃ i : Nat, m0 = (i : Int) := ⟨m0.toNat, by have h9 := hf.1; omega⟩
    obtain ⟨p, rfl⟩ : ∃ p : Nat, p0 = (p : Int) := ⟨p0.toNat, by have h9 := hf.2.1; omega⟩
    have hi : i < xn s := by have h9 := hf.1; omega
    have hi6 : i < 6 := by omega
    have hym0 := hym i hi
    obtain ⟨hmM, hd15, hd01, hdK⟩ := hym0
    have hmM0 := hmM
    obtain ⟨hm3, hm4, hm8, hmB, hm6, hmn, hmo, hm10, hmg, hmG⟩ := hmM
    have hp : p < mN (xπ s i) := by have h9 : ((p : Nat) : Int) < (mN (xπ s i) : Int) := hf.2.2; omega
    have hzm := hz.1 i hi
    have hgt9 := hzm.2.2.2.2.2.2.2.1
    refine v_aload_n dX9_form_0 rfl ?_
    refine v_iload_n dX9_form_1 rfl ?_
    refine v_iload_n dX9_form_2 rfl ?_
    refine v_Vb (tX9_isPlace (⟨hTy, hYr⟩ : isY G y) hy0 ⟨by omega, by omega⟩ ⟨by omega, by omega⟩) kX9_238 hTy rfl rfl ⟨by decide, by decide⟩ ⟨by decide, by decide⟩ (Nat.le_of_ble_eq_true rfl) dX9_form_3 (fun h1 => ?_) (fun h1 => by exact absurd hf h1)
    refine v_if_ne ⟨by decide, by decide⟩ dX9_form_6 (fun hb6 => ?_) (fun h => by exfalso; omega)
    refine v_aload_n dX9_form_12 rfl ?_
    refine v_getR fX9_57 rfl hTy (hYr 14 _ rfl).2 dX9_form_13 ?_
    refine v_iload_n dX9_form_16 rfl ?_
    refine v_zald' (i := i) (v := (xst s i).1) hd15 (show G.1 (y + 15) = (11, 6) from (hYr 14 _ rfl).1) rfl (by omega) (by omega) dX9_form_17 ?_
    refine v_if_eq ⟨by omega, by omega⟩ dX9_form_18 (fun h2 => ?_) (fun h2 => ?_)
    · refine v_bipush dX9_form_30 (by decide) ?_
      exact v_iret rfl (by decide) (by decide) ⟨by decide, by decide⟩ dX9_form_32 ⟨rfl, (form_no hf (by omega)).symm, hy0, fun _ _ _ => rfl⟩
    · obtain ⟨hK, hk16, hk17⟩ := hdK (by omega)
      refine v_aload_n dX9_form_21 rfl ?_
      refine v_getR fX9_60 rfl hTy (hYr 15 _ rfl).2 dX9_form_22 ?_
      refine v_iload_n dX9_form_25 rfl ?_
      refine v_iald' (i := i) (v := (xst s i).2.1) hk16 (show G.1 (y + 16) = (10, 6) from (hYr 15 _ rfl).1) rfl (by omega) (by omega) dX9_form_26 ?_
      refine v_if_eq (by rw [← hk16]; exact rng _ _) dX9_form_27 (fun h3 => ?_) (fun h3 => ?_)
      · have eX := form_is hf (by omega)
        have hdn := hzm.2.2.2.2.2.2.2.2 (by omega)
        have hdt := hdn.2 (by omega)
        refine v_aload_n dX9_form_33 rfl ?_
        refine v_iload_n dX9_form_34 rfl ?_
        refine v_iload_n dX9_form_35 rfl ?_
        refine v_Vb (tX9_isTold (⟨hTy, hYr⟩ : isY G y) hi6 hmM0 hK hgt9 (t := p) (by omega)) kX9_241 hTy rfl rfl ⟨by decide, by decide⟩ ⟨by decide, by decide⟩ (Nat.le_of_ble_eq_true rfl) dX9_form_36 (fun h4 => ?_) (fun h4 => ?_)
        · refine v_if_ne ⟨by decide, by decide⟩ dX9_form_39 (fun hb39 => ?_) (fun h => by exfalso; omega)
          refine v_iconst dX9_form_44 ?_
          refine v_istore_n dX9_form_45 (by decide) rfl ?_
          refine v_iconst dX9_form_46 ?_
          refine v_istore dX9_form_47 (by decide) rfl ?_
          have hTB := h4
          have hc := told_there hmn hdt hTB
          have ef : (40 * ((i : Nat) : Int) + ((p : Nat) : Int)) = ((40 * i + p : Nat) : Int) := by omega
          obtain ⟨f, hff⟩ : ∃ f, f = 40 * i + p := ⟨_, rfl⟩
          have hF := hK.1 p (by omega)
          rw [← hff] at hF ef
          obtain ⟨hF1, hF2, hF3, hF4⟩ := hF.2 hc
          have hpp := hdn.1 p (by omega) hc
          have loop : ∀ (m j : Nat) (z : Int) (o5 o6 o7 o8 o9 : Option Value), j + m = p → z = beforeF (tfF (xπ s i) (xκ s i)) j → w_V E mX9_form (w_rm 3 0 0) (w_Z E 0 0 (w_Pi (fun r G' J => G' = G ∧ r = xForm s (i : Int) (p : Int) ∧ yOK J y s ∧ offB I J y))) G I 0 0 49 [some (.ref y), some (iv (i : Int)), some (iv (p : Int)), some (iv z), some (iv (j : Int)), o5, o6, o7, o8, o9] [] := by
            intro m
            induction m with
            | zero =>
              intro j z o5 o6 o7 o8 o9 hj hzb
              obtain rfl : p = j := by omega
              rcases before_cs (π := (xπ s i)) (κ := (xκ s i)) p with hbf | ⟨b0, hbf⟩
              · obtain rfl : z = -1 := hzb.trans hbf
                have eL : oldL (xπ s i) (xκ s i) p = mBeg (xπ s i) := old_beg hbf
                refine v_iload dX9_form_49 rfl ?_
                refine v_iload_n dX9_form_51 rfl ?_
                refine v_icmp_ge ⟨by omega, by omega⟩ ⟨by omega, by omega⟩ dX9_form_52 (fun hb52 => ?_) (fun h => by exfalso; omega)
                refine v_iload_n dX9_form_78 rfl ?_
                refine v_iconst dX9_form_79 ?_
                refine v_icmp_ne ⟨by decide, by decide⟩ ⟨by decide, by decide⟩ dX9_form_80 (fun h => by exfalso; omega) (fun hb80 => ?_)
                refine v_aload_n dX9_form_83 rfl ?_
                refine v_getR fX9_27 rfl hTy (hYr 4 _ rfl).2 dX9_form_84 ?_
                refine v_bipush dX9_form_87 (by decide) ?_
                refine v_iload_n dX9_form_89 rfl ?_
                refine v_imul dX9_form_90 ?_
                refine v_aload_n dX9_form_91 rfl ?_
                refine v_getR fX9_93 rfl hTy (hYr 26 _ rfl).2 dX9_form_92 ?_
                rw [show (8 * ((i : Nat) : Int)) = ((8 * i : Nat) : Int) by omega]
                refine v_Si (tX9_written (show G.1 (y + 5) = (10, 48) from (hYr 4 _ rfl).1) (show G.1 (y + 27) = (10, 8) from (hYr 26 _ rfl).1) (by omega) (st := 8 * i) (L := oldL (xπ s i) (xκ s i) p) (R0 := fun k => I (y + 27) k) (by omega) (by omega) (fun k hk => by rw [eL]; exact hmB k hk) (fun _ _ => rfl)) kX9_244 rfl rfl ⟨by decide, by decide⟩ ⟨by decide, by decide⟩ (Nat.le_of_ble_eq_true rfl) dX9_form_95 (fun r3 G9 J1 hr3 pJ1 rng2 => ?_)
                obtain ⟨hG9, eJ1, wJ1, oJ1⟩ := pJ1
                obtain rfl := hG9.symm
                rw [(wr0_eq (oldL (xπ s i) (xκ s i) p) (fun k => I (y + 27) k)).1] at eJ1
                obtain rfl := eJ1
                have xJ1 : ∀ k, k < (wr0 (oldL (xπ s i) (xκ s i) p)).2.1 → J1 (y + 27) k = (wr0 (oldL (xπ s i) (xκ s i) p)).2.2 k := fun k hk => (wJ1 k (by have h9 := wr0_le (oldL (xπ s i) (xκ s i) p); omega)).trans ((wr0_eq (oldL (xπ s i) (xκ s i) p) (fun k => I (y + 27) k)).2 k hk)
                refine v_goto dX9_form_98 ?_
                refine v_istore dX9_form_121 (by decide) rfl ?_
                refine v_bipush dX9_form_123 (by decide) ?_
                refine v_iload_n dX9_form_125 rfl ?_
                refine v_imul dX9_form_126 ?_
                refine v_iload_n dX9_form_127 rfl ?_
                refine v_iadd dX9_form_128 ?_
                refine v_istore dX9_form_129 (by decide) rfl ?_
                rw [ef]
                refine v_aload_n dX9_form_131 rfl ?_
                refine v_getR fX9_81 rfl hTy (hYr 22 _ rfl).2 dX9_form_132 ?_
                refine v_bipush dX9_form_135 (by decide) ?_
                refine v_iload dX9_form_137 rfl ?_
                refine v_imul dX9_form_139 ?_
                refine v_aload_n dX9_form_140 rfl ?_
                refine v_getR fX9_96 rfl hTy (hYr 27 _ rfl).2 dX9_form_141 ?_
                rw [show (16 * ((f : Nat) : Int)) = ((16 * f : Nat) : Int) by omega]
                refine v_Si (tX9_written (show G.1 (y + 23) = (10, 3840) from (hYr 22 _ rfl).1) (show G.1 (y + 28) = (10, 8) from (hYr 27 _ rfl).1) (by omega) (st := 16 * f) (L := ((xκ s i).1 p).2.1) (R0 := fun k => J1 (y + 28) k) (by omega) (by omega) (fun k hk => (oJ1 _ _ (by omega)).trans (hF3 k hk)) (fun _ _ => rfl)) kX9_244 rfl rfl ⟨by decide, by decide⟩ ⟨by decide, by decide⟩ (Nat.le_of_ble_eq_true rfl) dX9_form_144 (fun r6 G9 J4 hr6 pJ4 rng5 => ?_)
                obtain ⟨hG9, eJ4, wJ4, oJ4⟩ := pJ4
                obtain rfl := hG9.symm
                rw [(wr0_eq (((xκ s i).1 p).2.1) (fun k => J1 (y + 28) k)).1] at eJ4
                obtain rfl := eJ4
                have xJ4 : ∀ k, k < (wr0 (((xκ s i).1 p).2.1)).2.1 → J4 (y + 28) k = (wr0 (((xκ s i).1 p).2.1)).2.2 k := fun k hk => (wJ4 k (by have h9 := wr0_le (((xκ s i).1 p).2.1); omega)).trans ((wr0_eq (((xκ s i).1 p).2.1) (fun k => J1 (y + 28) k)).2 k hk)
                refine v_istore dX9_form_147 (by decide) rfl ?_
                refine v_iconst dX9_form_149 ?_
                refine v_istore dX9_form_150 (by decide) rfl ?_
                refine v_iconst dX9_form_152 ?_
                refine v_istore dX9_form_153 (by decide) rfl ?_
                have oo : ∀ a k, a ≠ y + 27 → a ≠ y + 28 → J4 a k = I a k := fun a k u1 u2 => (oJ4 a k u2).trans (oJ1 a k u1)
                have yJ : yOK J4 y s := hy0.sc (fun a k u => oo a k (by unfold scr at u; omega) (by unfold scr at u; omega))
                have bJ : offB I J4 y := fun a k u => oo a k (by omega) (by omega)
                have hA : ∀ k, k < (wr0 (oldL (xπ s i) (xκ s i) p)).2.1 → J4 (y + 27) k = (wr0 (oldL (xπ s i) (xκ s i) p)).2.2 k := fun k hk => (oJ4 _ _ (by omega)).trans (xJ1 k hk)
                have hn8 : (wr0 (oldL (xπ s i) (xκ s i) p)).2.1 ≤ 8 := wr0_le _
                have hm8b : (wr0 ((xκ s i).1 p).2.1).2.1 ≤ 8 := wr0_le _
                have loop2 : ∀ (mm q : Nat) (b : Int), q + mm = min (wr0 (oldL (xπ s i) (xκ s i) p)).2.1 (wr0 ((xκ s i).1 p).2.1).2.1 → alP (wr0 (oldL (xπ s i) (xκ s i) p)).2.2 (wr0 ((xκ s i).1 p).2.1).2.2 q b → w_V E mX9_form (w_rm 3 0 0) (w_Z E 0 0 (w_Pi (fun r G' J => G' = G ∧ r = xForm s (i : Int) (p : Int) ∧ yOK J y s ∧ offB I J y))) G J4 0 0 155 [some (.ref y), some (iv (i : Int)), some (iv (p : Int)), some (iv (-1)), some (iv ((wr0 (oldL (xπ s i) (xκ s i) p)).2.1 : Int)), some (iv (f : Int)), some (iv ((wr0 ((xκ s i).1 p).2.1).2.1 : Int)), some (iv b), some (iv (q : Int)), o9] [] := by
                  intro mm
                  induction mm with
                  | zero =>
                    intro q b hq hb
                    obtain rfl : q = min (wr0 (oldL (xπ s i) (xκ s i) p)).2.1 (wr0 ((xκ s i).1 p).2.1).2.1 := by omega
                    have hmn1 : min (wr0 (oldL (xπ s i) (xκ s i) p)).2.1 (wr0 ((xκ s i).1 p).2.1).2.1 = (wr0 (oldL (xπ s i) (xκ s i) p)).2.1 ∨ min (wr0 (oldL (xπ s i) (xκ s i) p)).2.1 (wr0 ((xκ s i).1 p).2.1).2.1 = (wr0 ((xκ s i).1 p).2.1).2.1 := by omega
                    rcases hb with ⟨rfl, hb⟩ | ⟨rfl, hb⟩
                    · refine v_iload dX9_form_155 rfl ?_
                      refine v_iload dX9_form_157 rfl ?_
                      refine v_icmp_ge ⟨by omega, by omega⟩ ⟨by omega, by omega⟩ dX9_form_159 (fun h1 => ?_) (fun h1 => ?_)
                      · refine v_aload_n dX9_form_204 rfl ?_
                        refine v_getR fX9_78 rfl hTy (hYr 21 _ rfl).2 dX9_form_205 ?_
                        refine v_iload dX9_form_208 rfl ?_
                        refine v_iald' (i := f) (v := ((xκ s i).1 p).1) ((oo _ _ (by omega) (by omega)).trans hF1) (show G.1 (y + 22) = (10, 240) from (hYr 21 _ rfl).1) rfl (by omega) (by omega) dX9_form_210 ?_
                        refine v_istore dX9_form_211 (by decide) rfl ?_
                        refine v_iload dX9_form_213 rfl ?_
                        refine v_if_ne ⟨by decide, by decide⟩ dX9_form_215 (fun hb215 => ?_) (fun h => by exfalso; omega)
                        refine v_iload dX9_form_221 rfl ?_
                        refine v_iload dX9_form_223 rfl ?_
                        refine v_icmp_ne ⟨by omega, by omega⟩ ⟨by omega, by omega⟩ dX9_form_225 (fun h2 => ?_) (fun h2 => ?_)
                        · refine v_iload dX9_form_285 rfl ?_
                          refine v_if_gt ⟨by omega, by omega⟩ dX9_form_287 (fun h3 => ?_) (fun h3 => ?_)
                          · refine v_bipush dX9_form_308 (by decide) ?_
                            have eV : 8 = xForm s (i : Int) (p : Int) := by
                              rw [eX, formX_o hTB hb, formO_eq hpp hc]
                              first | exact ((if_pos (by omega)).trans (if_pos (by omega))).symm | exact ((if_pos (by omega)).trans ((if_neg (by omega)).trans (if_pos (by omega)))).symm | exact ((if_pos (by omega)).trans ((if_neg (by omega)).trans (if_neg (by omega)))).symm | exact ((if_neg (by omega)).trans (if_pos (by omega))).symm | exact (((if_neg (by omega)).trans ((if_neg (by omega)).trans (if_pos (by omega)))).trans (by omega)).symm | exact (((if_neg (by omega)).trans ((if_neg (by omega)).trans (if_neg (by omega)))).trans (by omega)).symm | (exfalso; omega)
                            exact v_iret rfl (by decide) (by decide) ⟨by decide, by decide⟩ dX9_form_310 ⟨rfl, eV, yJ, bJ⟩
                          · refine v_iload dX9_form_290 rfl ?_
                            refine v_iload dX9_form_292 rfl ?_
                            refine v_isub dX9_form_294 ?_
                            refine v_iconst dX9_form_295 ?_
                            refine v_icmp_gt ⟨by omega, by omega⟩ ⟨by decide, by decide⟩ dX9_form_296 (fun h4 => ?_) (fun h4 => ?_)
                            · refine v_bipush dX9_form_308 (by decide) ?_
                              have eV : 8 = xForm s (i : Int) (p : Int) := by
                                rw [eX, formX_o hTB hb, formO_eq hpp hc]
                                first | exact ((if_pos (by omega)).trans (if_pos (by omega))).symm | exact ((if_pos (by omega)).trans ((if_neg (by omega)).trans (if_pos (by omega)))).symm | exact ((if_pos (by omega)).trans ((if_neg (by omega)).trans (if_neg (by omega)))).symm | exact ((if_neg (by omega)).trans (if_pos (by omega))).symm | exact (((if_neg (by omega)).trans ((if_neg (by omega)).trans (if_pos (by omega)))).trans (by omega)).symm | exact (((if_neg (by omega)).trans ((if_neg (by omega)).trans (if_neg (by omega)))).trans (by omega)).symm | (exfalso; omega)
                              exact v_iret rfl (by decide) (by decide) ⟨by decide, by decide⟩ dX9_form_310 ⟨rfl, eV, yJ, bJ⟩
                            · refine v_iload dX9_form_299 rfl ?_
                              refine v_iload dX9_form_301 rfl ?_
                              refine v_isub dX9_form_303 ?_
                              refine v_iconst dX9_form_304 ?_
                              refine v_icmp_le ⟨by omega, by omega⟩ ⟨by decide, by decide⟩ dX9_form_305 (fun h5 => ?_) (fun h5 => ?_)
                              · refine v_iload dX9_form_311 rfl ?_
                                refine v_iload dX9_form_313 rfl ?_
                                refine v_icmp_ge ⟨by omega, by omega⟩ ⟨by omega, by omega⟩ dX9_form_315 (fun h6 => ?_) (fun h6 => ?_)
                                · refine v_iconst dX9_form_328 ?_
                                  refine v_iload dX9_form_329 rfl ?_
                                  refine v_iadd dX9_form_331 ?_
                                  refine v_iload dX9_form_332 rfl ?_
                                  refine v_isub dX9_form_334 ?_
                                  have eV : ((4 + (((wr0 ((xκ s i).1 p).2.1).2.1 : Nat) : Int)) - (((wr0 (oldL (xπ s i) (xκ s i) p)).2.1 : Nat) : Int)) = xForm s (i : Int) (p : Int) := by
                                    rw [eX, formX_o hTB hb, formO_eq hpp hc]
                                    first | exact ((if_pos (by omega)).trans (if_pos (by omega))).symm | exact ((if_pos (by omega)).trans ((if_neg (by omega)).trans (if_pos (by omega)))).symm | exact ((if_pos (by omega)).trans ((if_neg (by omega)).trans (if_neg (by omega)))).symm | exact ((if_neg (by omega)).trans (if_pos (by omega))).symm | exact (((if_neg (by omega)).trans ((if_neg (by omega)).trans (if_pos (by omega)))).trans (by omega)).symm | exact (((if_neg (by omega)).trans ((if_neg (by omega)).trans (if_neg (by omega)))).trans (by omega)).symm | (exfalso; omega)
                                  exact v_iret rfl (by decide) (by decide) ⟨by omega, by omega⟩ dX9_form_335 ⟨rfl, eV, yJ, bJ⟩
                                · refine v_iconst dX9_form_318 ?_
                                  refine v_iload dX9_form_319 rfl ?_
                                  refine v_iadd dX9_form_321 ?_
                                  refine v_iload dX9_form_322 rfl ?_
                                  refine v_isub dX9_form_324 ?_
                                  refine v_goto dX9_form_325 ?_
                                  have eV : ((1 + (((wr0 (oldL (xπ s i) (xκ s i) p)).2.1 : Nat) : Int)) - (((wr0 ((xκ s i).1 p).2.1).2.1 : Nat) : Int)) = xForm s (i : Int) (p : Int) := by
                                    rw [eX, formX_o hTB hb, formO_eq hpp hc]
                                    first | exact ((if_pos (by omega)).trans (if_pos (by omega))).symm | exact ((if_pos (by omega)).trans ((if_neg (by omega)).trans (if_pos (by omega)))).symm | exact ((if_pos (by omega)).trans ((if_neg (by omega)).trans (if_neg (by omega)))).symm | exact ((if_neg (by omega)).trans (if_pos (by omega))).symm | exact (((if_neg (by omega)).trans ((if_neg (by omega)).trans (if_pos (by omega)))).trans (by omega)).symm | exact (((if_neg (by omega)).trans ((if_neg (by omega)).trans (if_neg (by omega)))).trans (by omega)).symm | (exfalso; omega)
                                  exact v_iret rfl (by decide) (by decide) ⟨by omega, by omega⟩ dX9_form_335 ⟨rfl, eV, yJ, bJ⟩
                              · refine v_bipush dX9_form_308 (by decide) ?_
                                have eV : 8 = xForm s (i : Int) (p : Int) := by
                                  rw [eX, formX_o hTB hb, formO_eq hpp hc]
                                  first | exact ((if_pos (by omega)).trans (if_pos (by omega))).symm | exact ((if_pos (by omega)).trans ((if_neg (by omega)).trans (if_pos (by omega)))).symm | exact ((if_pos (by omega)).trans ((if_neg (by omega)).trans (if_neg (by omega)))).symm | exact ((if_neg (by omega)).trans (if_pos (by omega))).symm | exact (((if_neg (by omega)).trans ((if_neg (by omega)).trans (if_pos (by omega)))).trans (by omega)).symm | exact (((if_neg (by omega)).trans ((if_neg (by omega)).trans (if_neg (by omega)))).trans (by omega)).symm | (exfalso; omega)
                                exact v_iret rfl (by decide) (by decide) ⟨by decide, by decide⟩ dX9_form_310 ⟨rfl, eV, yJ, bJ⟩
                        · refine v_iload dX9_form_228 rfl ?_
                          refine v_iconst dX9_form_230 ?_
                          refine v_icmp_eq ⟨by omega, by omega⟩ ⟨by decide, by decide⟩ dX9_form_231 (fun h7 => ?_) (fun h7 => ?_)
                          · refine v_iconst dX9_form_257 ?_
                            refine v_goto dX9_form_258 ?_
                            refine v_istore dX9_form_262 (by decide) rfl ?_
                            refine v_iload dX9_form_264 rfl ?_
                            refine v_if_ne ⟨by omega, by omega⟩ dX9_form_266 (fun h8 => ?_) (fun h8 => ?_)
                            · refine v_iload dX9_form_273 rfl ?_
                              refine v_if_eq ⟨by decide, by decide⟩ dX9_form_275 (fun h => by exfalso; omega) (fun hb275 => ?_)
                              refine v_iconst dX9_form_278 ?_
                              refine v_goto dX9_form_279 ?_
                              have eV : 1 = xForm s (i : Int) (p : Int) := by
                                rw [eX, formX_o hTB hb, formO_eq hpp hc]
                                first | exact ((if_pos (by omega)).trans (if_pos (by omega))).symm | exact ((if_pos (by omega)).trans ((if_neg (by omega)).trans (if_pos (by omega)))).symm | exact ((if_pos (by omega)).trans ((if_neg (by omega)).trans (if_neg (by omega)))).symm | exact ((if_neg (by omega)).trans (if_pos (by omega))).symm | exact (((if_neg (by omega)).trans ((if_neg (by omega)).trans (if_pos (by omega)))).trans (by omega)).symm | exact (((if_neg (by omega)).trans ((if_neg (by omega)).trans (if_neg (by omega)))).trans (by omega)).symm | (exfalso; omega)
                              exact v_iret rfl (by decide) (by decide) ⟨by decide, by decide⟩ dX9_form_284 ⟨rfl, eV, yJ, bJ⟩
                            · refine v_iconst dX9_form_269 ?_
                              refine v_goto dX9_form_270 ?_
                              have eV : 0 = xForm s (i : Int) (p : Int) := by
                                rw [eX, formX_o hTB hb, formO_eq hpp hc]
                                first | exact ((if_pos (by omega)).trans (if_pos (by omega))).symm | exact ((if_pos (by omega)).trans ((if_neg (by omega)).trans (if_pos (by omega)))).symm | exact ((if_pos (by omega)).trans ((if_neg (by omega)).trans (if_neg (by omega)))).symm | exact ((if_neg (by omega)).trans (if_pos (by omega))).symm | exact (((if_neg (by omega)).trans ((if_neg (by omega)).trans (if_pos (by omega)))).trans (by omega)).symm | exact (((if_neg (by omega)).trans ((if_neg (by omega)).trans (if_neg (by omega)))).trans (by omega)).symm | (exfalso; omega)
                              exact v_iret rfl (by decide) (by decide) ⟨by decide, by decide⟩ dX9_form_284 ⟨rfl, eV, yJ, bJ⟩
                          · refine v_iload dX9_form_234 rfl ?_
                            refine v_iconst dX9_form_236 ?_
                            refine v_icmp_ne ⟨by omega, by omega⟩ ⟨by decide, by decide⟩ dX9_form_237 (fun h9 => ?_) (fun h9 => ?_)
                            · refine v_iconst dX9_form_261 ?_
                              refine v_istore dX9_form_262 (by decide) rfl ?_
                              refine v_iload dX9_form_264 rfl ?_
                              refine v_if_ne ⟨by omega, by omega⟩ dX9_form_266 (fun h10 => ?_) (fun h10 => ?_)
                              · refine v_iload dX9_form_273 rfl ?_
                                refine v_if_eq ⟨by decide, by decide⟩ dX9_form_275 (fun hb275 => ?_) (fun h => by exfalso; omega)
                                refine v_bipush dX9_form_282 (by decide) ?_
                                have eV : 8 = xForm s (i : Int) (p : Int) := by
                                  rw [eX, formX_o hTB hb, formO_eq hpp hc]
                                  first | exact ((if_pos (by omega)).trans (if_pos (by omega))).symm | exact ((if_pos (by omega)).trans ((if_neg (by omega)).trans (if_pos (by omega)))).symm | exact ((if_pos (by omega)).trans ((if_neg (by omega)).trans (if_neg (by omega)))).symm | exact ((if_neg (by omega)).trans (if_pos (by omega))).symm | exact (((if_neg (by omega)).trans ((if_neg (by omega)).trans (if_pos (by omega)))).trans (by omega)).symm | exact (((if_neg (by omega)).trans ((if_neg (by omega)).trans (if_neg (by omega)))).trans (by omega)).symm | (exfalso; omega)
                                exact v_iret rfl (by decide) (by decide) ⟨by decide, by decide⟩ dX9_form_284 ⟨rfl, eV, yJ, bJ⟩
                              · refine v_iconst dX9_form_269 ?_
                                refine v_goto dX9_form_270 ?_
                                have eV : 0 = xForm s (i : Int) (p : Int) := by
                                  rw [eX, formX_o hTB hb, formO_eq hpp hc]
                                  first | exact ((if_pos (by omega)).trans (if_pos (by omega))).symm | exact ((if_pos (by omega)).trans ((if_neg (by omega)).trans (if_pos (by omega)))).symm | exact ((if_pos (by omega)).trans ((if_neg (by omega)).trans (if_neg (by omega)))).symm | exact ((if_neg (by omega)).trans (if_pos (by omega))).symm | exact (((if_neg (by omega)).trans ((if_neg (by omega)).trans (if_pos (by omega)))).trans (by omega)).symm | exact (((if_neg (by omega)).trans ((if_neg (by omega)).trans (if_neg (by omega)))).trans (by omega)).symm | (exfalso; omega)
                                exact v_iret rfl (by decide) (by decide) ⟨by decide, by decide⟩ dX9_form_284 ⟨rfl, eV, yJ, bJ⟩
                            · refine v_aload_n dX9_form_240 rfl ?_
                              refine v_getR fX9_81 rfl hTy (hYr 22 _ rfl).2 dX9_form_241 ?_
                              refine v_bipush dX9_form_244 (by decide) ?_
                              refine v_iload dX9_form_246 rfl ?_
                              refine v_imul dX9_form_248 ?_
                              refine v_bipush dX9_form_249 (by decide) ?_
                              refine v_iadd dX9_form_251 ?_
                              refine v_iald' (i := ((16 * f) + 8)) (v := ((xκ s i).1 p).2.2 0) ((oo _ _ (by omega) (by omega)).trans (hF4 0 (by omega))) (show G.1 (y + 23) = (10, 3840) from (hYr 22 _ rfl).1) (by omega) (by omega) (by omega) dX9_form_252 ?_
                              refine v_iconst dX9_form_253 ?_
                              refine v_icmp_ne (by rw [← hF4 0 (by omega)]; exact rng _ _) ⟨by decide, by decide⟩ dX9_form_254 (fun h11 => ?_) (fun h11 => ?_)
                              · refine v_iconst dX9_form_261 ?_
                                refine v_istore dX9_form_262 (by decide) rfl ?_
                                refine v_iload dX9_form_264 rfl ?_
                                refine v_if_ne ⟨by omega, by omega⟩ dX9_form_266 (fun h12 => ?_) (fun h12 => ?_)
                                · refine v_iload dX9_form_273 rfl ?_
                                  refine v_if_eq ⟨by decide, by decide⟩ dX9_form_275 (fun hb275 => ?_) (fun h => by exfalso; omega)
                                  refine v_bipush dX9_form_282 (by decide) ?_
                                  have eV : 8 = xForm s (i : Int) (p : Int) := by
                                    rw [eX, formX_o hTB hb, formO_eq hpp hc]
                                    first | exact ((if_pos (by omega)).trans (if_pos (by omega))).symm | exact ((if_pos (by omega)).trans ((if_neg (by omega)).trans (if_pos (by omega)))).symm | exact ((if_pos (by omega)).trans ((if_neg (by omega)).trans (if_neg (by omega)))).symm | exact ((if_neg (by omega)).trans (if_pos (by omega))).symm | exact (((if_neg (by omega)).trans ((if_neg (by omega)).trans (if_pos (by omega)))).trans (by omega)).symm | exact (((if_neg (by omega)).trans ((if_neg (by omega)).trans (if_neg (by omega)))).trans (by omega)).symm | (exfalso; omega)
                                  exact v_iret rfl (by decide) (by decide) ⟨by decide, by decide⟩ dX9_form_284 ⟨rfl, eV, yJ, bJ⟩
                                · refine v_iconst dX9_form_269 ?_
                                  refine v_goto dX9_form_270 ?_
                                  have eV : 0 = xForm s (i : Int) (p : Int) := by
                                    rw [eX, formX_o hTB hb, formO_eq hpp hc]
                                    first | exact ((if_pos (by omega)).trans (if_pos (by omega))).symm | exact ((if_pos (by omega)).trans ((if_neg (by omega)).trans (if_pos (by omega)))).symm | exact ((if_pos (by omega)).trans ((if_neg (by omega)).trans (if_neg (by omega)))).symm | exact ((if_neg (by omega)).trans (if_pos (by omega))).symm | exact (((if_neg (by omega)).trans ((if_neg (by omega)).trans (if_pos (by omega)))).trans (by omega)).symm | exact (((if_neg (by omega)).trans ((if_neg (by omega)).trans (if_neg (by omega)))).trans (by omega)).symm | (exfalso; omega)
                                  exact v_iret rfl (by decide) (by decide) ⟨by decide, by decide⟩ dX9_form_284 ⟨rfl, eV, yJ, bJ⟩
                              · refine v_iconst dX9_form_257 ?_
                                refine v_goto dX9_form_258 ?_
                                refine v_istore dX9_form_262 (by decide) rfl ?_
                                refine v_iload dX9_form_264 rfl ?_
                                refine v_if_ne ⟨by omega, by omega⟩ dX9_form_266 (fun h13 => ?_) (fun h13 => ?_)
                                · refine v_iload dX9_form_273 rfl ?_
                                  refine v_if_eq ⟨by decide, by decide⟩ dX9_form_275 (fun h => by exfalso; omega) (fun hb275 => ?_)
                                  refine v_iconst dX9_form_278 ?_
                                  refine v_goto dX9_form_279 ?_
                                  have eV : 1 = xForm s (i : Int) (p : Int) := by
                                    rw [eX, formX_o hTB hb, formO_eq hpp hc]
                                    first | exact ((if_pos (by omega)).trans (if_pos (by omega))).symm | exact ((if_pos (by omega)).trans ((if_neg (by omega)).trans (if_pos (by omega)))).symm | exact ((if_pos (by omega)).trans ((if_neg (by omega)).trans (if_neg (by omega)))).symm | exact ((if_neg (by omega)).trans (if_pos (by omega))).symm | exact (((if_neg (by omega)).trans ((if_neg (by omega)).trans (if_pos (by omega)))).trans (by omega)).symm | exact (((if_neg (by omega)).trans ((if_neg (by omega)).trans (if_neg (by omega)))).trans (by omega)).symm | (exfalso; omega)
                                  exact v_iret rfl (by decide) (by decide) ⟨by decide, by decide⟩ dX9_form_284 ⟨rfl, eV, yJ, bJ⟩
                                · refine v_iconst dX9_form_269 ?_
                                  refine v_goto dX9_form_270 ?_
                                  have eV : 0 = xForm s (i : Int) (p : Int) := by
                                    rw [eX, formX_o hTB hb, formO_eq hpp hc]
                                    first | exact ((if_pos (by omega)).trans (if_pos (by omega))).symm | exact ((if_pos (by omega)).trans ((if_neg (by omega)).trans (if_pos (by omega)))).symm | exact ((if_pos (by omega)).trans ((if_neg (by omega)).trans (if_neg (by omega)))).symm | exact ((if_neg (by omega)).trans (if_pos (by omega))).symm | exact (((if_neg (by omega)).trans ((if_neg (by omega)).trans (if_pos (by omega)))).trans (by omega)).symm | exact (((if_neg (by omega)).trans ((if_neg (by omega)).trans (if_neg (by omega)))).trans (by omega)).symm | (exfalso; omega)
                                  exact v_iret rfl (by decide) (by decide) ⟨by decide, by decide⟩ dX9_form_284 ⟨rfl, eV, yJ, bJ⟩
                      · refine v_iload dX9_form_162 rfl ?_
                        refine v_iload dX9_form_164 rfl ?_
                        refine v_icmp_ge ⟨by omega, by omega⟩ ⟨by omega, by omega⟩ dX9_form_166 (fun hb166 => ?_) (fun h => by exfalso; omega)
                        refine v_aload_n dX9_form_204 rfl ?_
                        refine v_getR fX9_78 rfl hTy (hYr 21 _ rfl).2 dX9_form_205 ?_
                        refine v_iload dX9_form_208 rfl ?_
                        refine v_iald' (i := f) (v := ((xκ s i).1 p).1) ((oo _ _ (by omega) (by omega)).trans hF1) (show G.1 (y + 22) = (10, 240) from (hYr 21 _ rfl).1) rfl (by omega) (by omega) dX9_form_210 ?_
                        refine v_istore dX9_form_211 (by decide) rfl ?_
                        refine v_iload dX9_form_213 rfl ?_
                        refine v_if_ne ⟨by decide, by decide⟩ dX9_form_215 (fun hb215 => ?_) (fun h => by exfalso; omega)
                        refine v_iload dX9_form_221 rfl ?_
                        refine v_iload dX9_form_223 rfl ?_
                        refine v_icmp_ne ⟨by omega, by omega⟩ ⟨by omega, by omega⟩ dX9_form_225 (fun h14 => ?_) (fun h14 => ?_)
                        · refine v_iload dX9_form_285 rfl ?_
                          refine v_if_gt ⟨by omega, by omega⟩ dX9_form_287 (fun h15 => ?_) (fun h15 => ?_)
                          · refine v_bipush dX9_form_308 (by decide) ?_
                            have eV : 8 = xForm s (i : Int) (p : Int) := by
                              rw [eX, formX_o hTB hb, formO_eq hpp hc]
                              first | exact ((if_pos (by omega)).trans (if_pos (by omega))).symm | exact ((if_pos (by omega)).trans ((if_neg (by omega)).trans (if_pos (by omega)))).symm | exact ((if_pos (by omega)).trans ((if_neg (by omega)).trans (if_neg (by omega)))).symm | exact ((if_neg (by omega)).trans (if_pos (by omega))).symm | exact (((if_neg (by omega)).trans ((if_neg (by omega)).trans (if_pos (by omega)))).trans (by omega)).symm | exact (((if_neg (by omega)).trans ((if_neg (by omega)).trans (if_neg (by omega)))).trans (by omega)).symm | (exfalso; omega)
                            exact v_iret rfl (by decide) (by decide) ⟨by decide, by decide⟩ dX9_form_310 ⟨rfl, eV, yJ, bJ⟩
                          · refine v_iload dX9_form_290 rfl ?_
                            refine v_iload dX9_form_292 rfl ?_
                            refine v_isub dX9_form_294 ?_
                            refine v_iconst dX9_form_295 ?_
                            refine v_icmp_gt ⟨by omega, by omega⟩ ⟨by decide, by decide⟩ dX9_form_296 (fun h16 => ?_) (fun h16 => ?_)
                            · refine v_bipush dX9_form_308 (by decide) ?_
                              have eV : 8 = xForm s (i : Int) (p : Int) := by
                                rw [eX, formX_o hTB hb, formO_eq hpp hc]
                                first | exact ((if_pos (by omega)).trans (if_pos (by omega))).symm | exact ((if_pos (by omega)).trans ((if_neg (by omega)).trans (if_pos (by omega)))).symm | exact ((if_pos (by omega)).trans ((if_neg (by omega)).trans (if_neg (by omega)))).symm | exact ((if_neg (by omega)).trans (if_pos (by omega))).symm | exact (((if_neg (by omega)).trans ((if_neg (by omega)).trans (if_pos (by omega)))).trans (by omega)).symm | exact (((if_neg (by omega)).trans ((if_neg (by omega)).trans (if_neg (by omega)))).trans (by omega)).symm | (exfalso; omega)
                              exact v_iret rfl (by decide) (by decide) ⟨by decide, by decide⟩ dX9_form_310 ⟨rfl, eV, yJ, bJ⟩
                            · refine v_iload dX9_form_299 rfl ?_
                              refine v_iload dX9_form_301 rfl ?_
                              refine v_isub dX9_form_303 ?_
                              refine v_iconst dX9_form_304 ?_
                              refine v_icmp_le ⟨by omega, by omega⟩ ⟨by decide, by decide⟩ dX9_form_305 (fun h17 => ?_) (fun h17 => ?_)
                              · refine v_iload dX9_form_311 rfl ?_
                                refine v_iload dX9_form_313 rfl ?_
                                refine v_icmp_ge ⟨by omega, by omega⟩ ⟨by omega, by omega⟩ dX9_form_315 (fun h18 => ?_) (fun h18 => ?_)
                                · refine v_iconst dX9_form_328 ?_
                                  refine v_iload dX9_form_329 rfl ?_
                                  refine v_iadd dX9_form_331 ?_
                                  refine v_iload dX9_form_332 rfl ?_
                                  refine v_isub dX9_form_334 ?_
                                  have eV : ((4 + (((wr0 ((xκ s i).1 p).2.1).2.1 : Nat) : Int)) - (((wr0 (oldL (xπ s i) (xκ s i) p)).2.1 : Nat) : Int)) = xForm s (i : Int) (p : Int) := by
                                    rw [eX, formX_o hTB hb, formO_eq hpp hc]
                                    first | exact ((if_pos (by omega)).trans (if_pos (by omega))).symm | exact ((if_pos (by omega)).trans ((if_neg (by omega)).trans (if_pos (by omega)))).symm | exact ((if_pos (by omega)).trans ((if_neg (by omega)).trans (if_neg (by omega)))).symm | exact ((if_neg (by omega)).trans (if_pos (by omega))).symm | exact (((if_neg (by omega)).trans ((if_neg (by omega)).trans (if_pos (by omega)))).trans (by omega)).symm | exact (((if_neg (by omega)).trans ((if_neg (by omega)).trans (if_neg (by omega)))).trans (by omega)).symm | (exfalso; omega)
                                  exact v_iret rfl (by decide) (by decide) ⟨by omega, by omega⟩ dX9_form_335 ⟨rfl, eV, yJ, bJ⟩
                                · refine v_iconst dX9_form_318 ?_
                                  refine v_iload dX9_form_319 rfl ?_
                                  refine v_iadd dX9_form_321 ?_
                                  refine v_iload dX9_form_322 rfl ?_
                                  refine v_isub dX9_form_324 ?_
                                  refine v_goto dX9_form_325 ?_
                                  have eV : ((1 + (((wr0 (oldL (xπ s i) (xκ s i) p)).2.1 : Nat) : Int)) - (((wr0 ((xκ s i).1 p).2.1).2.1 : Nat) : Int)) = xForm s (i : Int) (p : Int) := by
                                    rw [eX, formX_o hTB hb, formO_eq hpp hc]
                                    first | exact ((if_pos (by omega)).trans (if_pos (by omega))).symm | exact ((if_pos (by omega)).trans ((if_neg (by omega)).trans (if_pos (by omega)))).symm | exact ((if_pos (by omega)).trans ((if_neg (by omega)).trans (if_neg (by omega)))).symm | exact ((if_neg (by omega)).trans (if_pos (by omega))).symm | exact (((if_neg (by omega)).trans ((if_neg (by omega)).trans (if_pos (by omega)))).trans (by omega)).symm | exact (((if_neg (by omega)).trans ((if_neg (by omega)).trans (if_neg (by omega)))).trans (by omega)).symm | (exfalso; omega)
                                  exact v_iret rfl (by decide) (by decide) ⟨by omega, by omega⟩ dX9_form_335 ⟨rfl, eV, yJ, bJ⟩
                              · refine v_bipush dX9_form_308 (by decide) ?_
                                have eV : 8 = xForm s (i : Int) (p : Int) := by
                                  rw [eX, formX_o hTB hb, formO_eq hpp hc]
                                  first | exact ((if_pos (by omega)).trans (if_pos (by omega))).symm | exact ((if_pos (by omega)).trans ((if_neg (by omega)).trans (if_pos (by omega)))).symm | exact ((if_pos (by omega)).trans ((if_neg (by omega)).trans (if_neg (by omega)))).symm | exact ((if_neg (by omega)).trans (if_pos (by omega))).symm | exact (((if_neg (by omega)).trans ((if_neg (by omega)).trans (if_pos (by omega)))).trans (by omega)).symm | exact (((if_neg (by omega)).trans ((if_neg (by omega)).trans (if_neg (by omega)))).trans (by omega)).symm | (exfalso; omega)
                                exact v_iret rfl (by decide) (by decide) ⟨by decide, by decide⟩ dX9_form_310 ⟨rfl, eV, yJ, bJ⟩
                        · refine v_iload dX9_form_228 rfl ?_
                          refine v_iconst dX9_form_230 ?_
                          refine v_icmp_eq ⟨by omega, by omega⟩ ⟨by decide, by decide⟩ dX9_form_231 (fun h19 => ?_) (fun h19 => ?_)
                          · refine v_iconst dX9_form_257 ?_
                            refine v_goto dX9_form_258 ?_
                            refine v_istore dX9_form_262 (by decide) rfl ?_
                            refine v_iload dX9_form_264 rfl ?_
                            refine v_if_ne ⟨by omega, by omega⟩ dX9_form_266 (fun h20 => ?_) (fun h20 => ?_)
                            · refine v_iload dX9_form_273 rfl ?_
                              refine v_if_eq ⟨by decide, by decide⟩ dX9_form_275 (fun h => by exfalso; omega) (fun hb275 => ?_)
                              refine v_iconst dX9_form_278 ?_
                              refine v_goto dX9_form_279 ?_
                              have eV : 1 = xForm s (i : Int) (p : Int) := by
                                rw [eX, formX_o hTB hb, formO_eq hpp hc]
                                first | exact ((if_pos (by omega)).trans (if_pos (by omega))).symm | exact ((if_pos (by omega)).trans ((if_neg (by omega)).trans (if_pos (by omega)))).symm | exact ((if_pos (by omega)).trans ((if_neg (by omega)).trans (if_neg (by omega)))).symm | exact ((if_neg (by omega)).trans (if_pos (by omega))).symm | exact (((if_neg (by omega)).trans ((if_neg (by omega)).trans (if_pos (by omega)))).trans (by omega)).symm | exact (((if_neg (by omega)).trans ((if_neg (by omega)).trans (if_neg (by omega)))).trans (by omega)).symm | (exfalso; omega)
                              exact v_iret rfl (by decide) (by decide) ⟨by decide, by decide⟩ dX9_form_284 ⟨rfl, eV, yJ, bJ⟩
                            · refine v_iconst dX9_form_269 ?_
                              refine v_goto dX9_form_270 ?_
                              have eV : 0 = xForm s (i : Int) (p : Int) := by
                                rw [eX, formX_o hTB hb, formO_eq hpp hc]
                                first | exact ((if_pos (by omega)).trans (if_pos (by omega))).symm | exact ((if_pos (by omega)).trans ((if_neg (by omega)).trans (if_pos (by omega)))).symm | exact ((if_pos (by omega)).trans ((if_neg (by omega)).trans (if_neg (by omega)))).symm | exact ((if_neg (by omega)).trans (if_pos (by omega))).symm | exact (((if_neg (by omega)).trans ((if_neg (by omega)).trans (if_pos (by omega)))).trans (by omega)).symm | exact (((if_neg (by omega)).trans ((if_neg (by omega)).trans (if_neg (by omega)))).trans (by omega)).symm | (exfalso; omega)
                              exact v_iret rfl (by decide) (by decide) ⟨by decide, by decide⟩ dX9_form_284 ⟨rfl, eV, yJ, bJ⟩
                          · refine v_iload dX9_form_234 rfl ?_
                            refine v_iconst dX9_form_236 ?_
                            refine v_icmp_ne ⟨by omega, by omega⟩ ⟨by decide, by decide⟩ dX9_form_237 (fun h21 => ?_) (fun h21 => ?_)
                            · refine v_iconst dX9_form_261 ?_
                              refine v_istore dX9_form_262 (by decide) rfl ?_
                              refine v_iload dX9_form_264 rfl ?_
                              refine v_if_ne ⟨by omega, by omega⟩ dX9_form_266 (fun h22 => ?_) (fun h22 => ?_)
                              · refine v_iload dX9_form_273 rfl ?_
                                refine v_if_eq ⟨by decide, by decide⟩ dX9_form_275 (fun hb275 => ?_) (fun h => by exfalso; omega)
                                refine v_bipush dX9_form_282 (by decide) ?_
                                have eV : 8 = xForm s (i : Int) (p : Int) := by
                                  rw [eX, formX_o hTB hb, formO_eq hpp hc]
                                  first | exact ((if_pos (by omega)).trans (if_pos (by omega))).symm | exact ((if_pos (by omega)).trans ((if_neg (by omega)).trans (if_pos (by omega)))).symm | exact ((if_pos (by omega)).trans ((if_neg (by omega)).trans (if_neg (by omega)))).symm | exact ((if_neg (by omega)).trans (if_pos (by omega))).symm | exact (((if_neg (by omega)).trans ((if_neg (by omega)).trans (if_pos (by omega)))).trans (by omega)).symm | exact (((if_neg (by omega)).trans ((if_neg (by omega)).trans (if_neg (by omega)))).trans (by omega)).symm | (exfalso; omega)
                                exact v_iret rfl (by decide) (by decide) ⟨by decide, by decide⟩ dX9_form_284 ⟨rfl, eV, yJ, bJ⟩
                              · refine v_iconst dX9_form_269 ?_
                                refine v_goto dX9_form_270 ?_
                                have eV : 0 = xForm s (i : Int) (p : Int) := by
                                  rw [eX, formX_o hTB hb, formO_eq hpp hc]
                                  first | exact ((if_pos (by omega)).trans (if_pos (by omega))).symm | exact ((if_pos (by omega)).trans ((if_neg (by omega)).trans (if_pos (by omega)))).symm | exact ((if_pos (by omega)).trans ((if_neg (by omega)).trans (if_neg (by omega)))).symm | exact ((if_neg (by omega)).trans (if_pos (by omega))).symm | exact (((if_neg (by omega)).trans ((if_neg (by omega)).trans (if_pos (by omega)))).trans (by omega)).symm | exact (((if_neg (by omega)).trans ((if_neg (by omega)).trans (if_neg (by omega)))).trans (by omega)).symm | (exfalso; omega)
                                exact v_iret rfl (by decide) (by decide) ⟨by decide, by decide⟩ dX9_form_284 ⟨rfl, eV, yJ, bJ⟩
                            · refine v_aload_n dX9_form_240 rfl ?_
                              refine v_getR fX9_81 rfl hTy (hYr 22 _ rfl).2 dX9_form_241 ?_
                              refine v_bipush dX9_form_244 (by decide) ?_
                              refine v_iload dX9_form_246 rfl ?_
                              refine v_imul dX9_form_248 ?_
                              refine v_bipush dX9_form_249 (by decide) ?_
                              refine v_iadd dX9_form_251 ?_
                              refine v_iald' (i := ((16 * f) + 8)) (v := ((xκ s i).1 p).2.2 0) ((oo _ _ (by omega) (by omega)).trans (hF4 0 (by omega))) (show G.1 (y + 23) = (10, 3840) from (hYr 22 _ rfl).1) (by omega) (by omega) (by omega) dX9_form_252 ?_
                              refine v_iconst dX9_form_253 ?_
                              refine v_icmp_ne (by rw [← hF4 0 (by omega)]; exact rng _ _) ⟨by decide, by decide⟩ dX9_form_254 (fun h23 => ?_) (fun h23 => ?_)
                              · refine v_iconst dX9_form_261 ?_
                                refine v_istore dX9_form_262 (by decide) rfl ?_
                                refine v_iload dX9_form_264 rfl ?_
                                refine v_if_ne ⟨by omega, by omega⟩ dX9_form_266 (fun h24 => ?_) (fun h24 => ?_)
                                · refine v_iload dX9_form_273 rfl ?_
                                  refine v_if_eq ⟨by decide, by decide⟩ dX9_form_275 (fun hb275 => ?_) (fun h => by exfalso; omega)
                                  refine v_bipush dX9_form_282 (by decide) ?_
                                  have eV : 8 = xForm s (i : Int) (p : Int) := by
                                    rw [eX, formX_o hTB hb, formO_eq hpp hc]
                                    first | exact ((if_pos (by omega)).trans (if_pos (by omega))).symm | exact ((if_pos (by omega)).trans ((if_neg (by omega)).trans (if_pos (by omega)))).symm | exact ((if_pos (by omega)).trans ((if_neg (by omega)).trans (if_neg (by omega)))).symm | exact ((if_neg (by omega)).trans (if_pos (by omega))).symm | exact (((if_neg (by omega)).trans ((if_neg (by omega)).trans (if_pos (by omega)))).trans (by omega)).symm | exact (((if_neg (by omega)).trans ((if_neg (by omega)).trans (if_neg (by omega)))).trans (by omega)).symm | (exfalso; omega)
                                  exact v_iret rfl (by decide) (by decide) ⟨by decide, by decide⟩ dX9_form_284 ⟨rfl, eV, yJ, bJ⟩
                                · refine v_iconst dX9_form_269 ?_
                                  refine v_goto dX9_form_270 ?_
                                  have eV : 0 = xForm s (i : Int) (p : Int) := by
                                    rw [eX, formX_o hTB hb, formO_eq hpp hc]
                                    first | exact ((if_pos (by omega)).trans (if_pos (by omega))).symm | exact ((if_pos (by omega)).trans ((if_neg (by omega)).trans (if_pos (by omega)))).symm | exact ((if_pos (by omega)).trans ((if_neg (by omega)).trans (if_neg (by omega)))).symm | exact ((if_neg (by omega)).trans (if_pos (by omega))).symm | exact (((if_neg (by omega)).trans ((if_neg (by omega)).trans (if_pos (by omega)))).trans (by omega)).symm | exact (((if_neg (by omega)).trans ((if_neg (by omega)).trans (if_neg (by omega)))).trans (by omega)).symm | (exfalso; omega)
                                  exact v_iret rfl (by decide) (by decide) ⟨by decide, by decide⟩ dX9_form_284 ⟨rfl, eV, yJ, bJ⟩
                              · refine v_iconst dX9_form_257 ?_
                                refine v_goto dX9_form_258 ?_
                                refine v_istore dX9_form_262 (by decide) rfl ?_
                                refine v_iload dX9_form_264 rfl ?_
                                refine v_if_ne ⟨by omega, by omega⟩ dX9_form_266 (fun h25 => ?_) (fun h25 => ?_)
                                · refine v_iload dX9_form_273 rfl ?_
                                  refine v_if_eq ⟨by decide, by decide⟩ dX9_form_275 (fun h => by exfalso; omega) (fun hb275 => ?_)
                                  refine v_iconst dX9_form_278 ?_
                                  refine v_goto dX9_form_279 ?_
                                  have eV : 1 = xForm s (i : Int) (p : Int) := by
                                    rw [eX, formX_o hTB hb, formO_eq hpp hc]
                                    first | exact ((if_pos (by omega)).trans (if_pos (by omega))).symm | exact ((if_pos (by omega)).trans ((if_neg (by omega)).trans (if_pos (by omega)))).symm | exact ((if_pos (by omega)).trans ((if_neg (by omega)).trans (if_neg (by omega)))).symm | exact ((if_neg (by omega)).trans (if_pos (by omega))).symm | exact (((if_neg (by omega)).trans ((if_neg (by omega)).trans (if_pos (by omega)))).trans (by omega)).symm | exact (((if_neg (by omega)).trans ((if_neg (by omega)).trans (if_neg (by omega)))).trans (by omega)).symm | (exfalso; omega)
                                  exact v_iret rfl (by decide) (by decide) ⟨by decide, by decide⟩ dX9_form_284 ⟨rfl, eV, yJ, bJ⟩
                                · refine v_iconst dX9_form_269 ?_
                                  refine v_goto dX9_form_270 ?_
                                  have eV : 0 = xForm s (i : Int) (p : Int) := by
                                    rw [eX, formX_o hTB hb, formO_eq hpp hc]
                                    first | exact ((if_pos (by omega)).trans (if_pos (by omega))).symm | exact ((if_pos (by omega)).trans ((if_neg (by omega)).trans (if_pos (by omega)))).symm | exact ((if_pos (by omega)).trans ((if_neg (by omega)).trans (if_neg (by omega)))).symm | exact ((if_neg (by omega)).trans (if_pos (by omega))).symm | exact (((if_neg (by omega)).trans ((if_neg (by omega)).trans (if_pos (by omega)))).trans (by omega)).symm | exact (((if_neg (by omega)).trans ((if_neg (by omega)).trans (if_neg (by omega)))).trans (by omega)).symm | (exfalso; omega)
                                  exact v_iret rfl (by decide) (by decide) ⟨by decide, by decide⟩ dX9_form_284 ⟨rfl, eV, yJ, bJ⟩
                    · refine v_iload dX9_form_155 rfl ?_
                      refine v_iload dX9_form_157 rfl ?_
                      refine v_icmp_ge ⟨by omega, by omega⟩ ⟨by omega, by omega⟩ dX9_form_159 (fun h1 => ?_) (fun h1 => ?_)
                      · refine v_aload_n dX9_form_204 rfl ?_
                        refine v_getR fX9_78 rfl hTy (hYr 21 _ rfl).2 dX9_form_205 ?_
                        refine v_iload dX9_form_208 rfl ?_
                        refine v_iald' (i := f) (v := ((xκ s i).1 p).1) ((oo _ _ (by omega) (by omega)).trans hF1) (show G.1 (y + 22) = (10, 240) from (hYr 21 _ rfl).1) rfl (by omega) (by omega) dX9_form_210 ?_
                        refine v_istore dX9_form_211 (by decide) rfl ?_
                        refine v_iload dX9_form_213 rfl ?_
                        refine v_if_ne ⟨by decide, by decide⟩ dX9_form_215 (fun h => by exfalso; omega) (fun hb215 => ?_)
                        refine v_bipush dX9_form_218 (by decide) ?_
                        exact v_iret rfl (by decide) (by decide) ⟨by decide, by decide⟩ dX9_form_220 ⟨rfl, (eX.trans (formX_8 hTB hb)).symm, yJ, bJ⟩
                      · refine v_iload dX9_form_162 rfl ?_
                        refine v_iload dX9_form_164 rfl ?_
                        refine v_icmp_ge ⟨by omega, by omega⟩ ⟨by omega, by omega⟩ dX9_form_166 (fun hb166 => ?_) (fun h => by exfalso; omega)
                        refine v_aload_n dX9_form_204 rfl ?_
                        refine v_getR fX9_78 rfl hTy (hYr 21 _ rfl).2 dX9_form_205 ?_
                        refine v_iload dX9_form_208 rfl ?_
                        refine v_iald' (i := f) (v := ((xκ s i).1 p).1) ((oo _ _ (by omega) (by omega)).trans hF1) (show G.1 (y + 22) = (10, 240) from (hYr 21 _ rfl).1) rfl (by omega) (by omega) dX9_form_210 ?_
                        refine v_istore dX9_form_211 (by decide) rfl ?_
                        refine v_iload dX9_form_213 rfl ?_
                        refine v_if_ne ⟨by decide, by decide⟩ dX9_form_215 (fun h => by exfalso; omega) (fun hb215 => ?_)
                        refine v_bipush dX9_form_218 (by decide) ?_
                        exact v_iret rfl (by decide) (by decide) ⟨by decide, by decide⟩ dX9_form_220 ⟨rfl, (eX.trans (formX_8 hTB hb)).symm, yJ, bJ⟩
                  | succ mm ih2 =>
                    intro q b hq hb
                    have hb01 := hb.r
                    refine v_iload dX9_form_155 rfl ?_
                    refine v_iload dX9_form_157 rfl ?_
                    refine v_icmp_ge ⟨by omega, by omega⟩ ⟨by omega, by omega⟩ dX9_form_159 (fun h => by exfalso; omega) (fun hb159 => ?_)
                    refine v_iload dX9_form_162 rfl ?_
                    refine v_iload dX9_form_164 rfl ?_
                    refine v_icmp_ge ⟨by omega, by omega⟩ ⟨by omega, by omega⟩ dX9_form_166 (fun h => by exfalso; omega) (fun hb166 => ?_)
                    refine v_iload dX9_form_169 rfl ?_
                    refine v_if_eq ⟨by omega, by omega⟩ dX9_form_171 (fun h1 => ?_) (fun h1 => ?_)
                    · refine v_iconst dX9_form_195 ?_
                      refine v_istore dX9_form_196 (by decide) rfl ?_
                      refine v_iinc dX9_form_198 rfl (by decide) rfl rfl ?_
                      refine v_goto dX9_form_201 ?_
                      exact ih2 (q + 1) 0 (by omega) (hb.non (Or.inl h1))
                    · refine v_aload_n dX9_form_174 rfl ?_
                      refine v_getR fX9_93 rfl hTy (hYr 26 _ rfl).2 dX9_form_175 ?_
                      refine v_iload dX9_form_178 rfl ?_
                      refine v_iald' (i := q) (v := (wr0 (oldL (xπ s i) (xκ s i) p)).2.2 q) (hA q (by omega)) (show G.1 (y + 27) = (10, 8) from (hYr 26 _ rfl).1) rfl (by omega) (by omega) dX9_form_180 ?_
                      refine v_aload_n dX9_form_181 rfl ?_
                      refine v_getR fX9_96 rfl hTy (hYr 27 _ rfl).2 dX9_form_182 ?_
                      refine v_iload dX9_form_185 rfl ?_
                      refine v_iald' (i := q) (v := (wr0 ((xκ s i).1 p).2.1).2.2 q) (xJ4 q (by omega)) (show G.1 (y + 28) = (10, 8) from (hYr 27 _ rfl).1) rfl (by omega) (by omega) dX9_form_187 ?_
                      refine v_icmp_ne (by rw [← hA q (by omega)]; exact rng5 _ _) (by rw [← xJ4 q (by omega)]; exact rng5 _ _) dX9_form_188 (fun h2 => ?_) (fun h2 => ?_)
                      · refine v_iconst dX9_form_195 ?_
                        refine v_istore dX9_form_196 (by decide) rfl ?_
                        refine v_iinc dX9_form_198 rfl (by decide) rfl rfl ?_
                        refine v_goto dX9_form_201 ?_
                        exact ih2 (q + 1) 0 (by omega) (hb.non (Or.inr h2))
                      · refine v_iconst dX9_form_191 ?_
                        refine v_goto dX9_form_192 ?_
                        refine v_istore dX9_form_196 (by decide) rfl ?_
                        refine v_iinc dX9_form_198 rfl (by decide) rfl rfl ?_
                        refine v_goto dX9_form_201 ?_
                        exact ih2 (q + 1) 1 (by omega) (hb.one h1 h2)
                exact loop2 _ 0 1 (Nat.zero_add _) (Or.inl ⟨rfl, fun k hk => absurd hk (by omega)⟩)
              · obtain rfl : z = (b0 : Int) := hzb.trans hbf
                obtain ⟨hb0j, hb0t⟩ := before_told p b0 hbf
                have eL : oldL (xπ s i) (xκ s i) p = ((xκ s i).1 b0).2.1 := old_at hbf
                have hF0 := hK.1 b0 (by omega)
                obtain ⟨hG1, hG2, hG3, hG4⟩ := hF0.2 (told_there hmn hdt hb0t)
                refine v_iload dX9_form_49 rfl ?_
                refine v_iload_n dX9_form_51 rfl ?_
                refine v_icmp_ge ⟨by omega, by omega⟩ ⟨by omega, by omega⟩ dX9_form_52 (fun hb52 => ?_) (fun h => by exfalso; omega)
                refine v_iload_n dX9_form_78 rfl ?_
                refine v_iconst dX9_form_79 ?_
                refine v_icmp_ne ⟨by omega, by omega⟩ ⟨by decide, by decide⟩ dX9_form_80 (fun hb80 => ?_) (fun h => by exfalso; omega)
                refine v_aload_n dX9_form_101 rfl ?_
                refine v_getR fX9_81 rfl hTy (hYr 22 _ rfl).2 dX9_form_102 ?_
                refine v_bipush dX9_form_105 (by decide) ?_
                refine v_bipush dX9_form_107 (by decide) ?_
                refine v_iload_n dX9_form_109 rfl ?_
                refine v_imul dX9_form_110 ?_
                refine v_iload_n dX9_form_111 rfl ?_
                refine v_iadd dX9_form_112 ?_
                refine v_imul dX9_form_113 ?_
                refine v_aload_n dX9_form_114 rfl ?_
                refine v_getR fX9_93 rfl hTy (hYr 26 _ rfl).2 dX9_form_115 ?_
                rw [show (16 * (40 * ((i : Nat) : Int) + ((b0 : Nat) : Int))) = ((16 * (40 * i + b0) : Nat) : Int) by omega]
                refine v_Si (tX9_written (show G.1 (y + 23) = (10, 3840) from (hYr 22 _ rfl).1) (show G.1 (y + 27) = (10, 8) from (hYr 26 _ rfl).1) (by omega) (st := 16 * (40 * i + b0)) (L := oldL (xπ s i) (xκ s i) p) (R0 := fun k => I (y + 27) k) (by omega) (by omega) (fun k hk => by rw [eL]; exact hG3 k hk) (fun _ _ => rfl)) kX9_244 rfl rfl ⟨by decide, by decide⟩ ⟨by decide, by decide⟩ (Nat.le_of_ble_eq_true rfl) dX9_form_118 (fun r3 G9 J1 hr3 pJ1 rng2 => ?_)
                obtain ⟨hG9, eJ1, wJ1, oJ1⟩ := pJ1
                obtain rfl := hG9.symm
                rw [(wr0_eq (oldL (xπ s i) (xκ s i) p) (fun k => I (y + 27) k)).1] at eJ1
                obtain rfl := eJ1
                have xJ1 : ∀ k, k < (wr0 (oldL (xπ s i) (xκ s i) p)).2.1 → J1 (y + 27) k = (wr0 (oldL (xπ s i) (xκ s i) p)).2.2 k := fun k hk => (wJ1 k (by have h9 := wr0_le (oldL (xπ s i) (xκ s i) p); omega)).trans ((wr0_eq (oldL (xπ s i) (xκ s i) p) (fun k => I (y + 27) k)).2 k hk)
                refine v_istore dX9_form_121 (by decide) rfl ?_
                refine v_bipush dX9_form_123 (by decide) ?_
                refine v_iload_n dX9_form_125 rfl ?_
                refine v_imul dX9_form_126 ?_
                refine v_iload_n dX9_form_127 rfl ?_
                refine v_iadd dX9_form_128 ?_
                refine v_istore dX9_form_129 (by decide) rfl ?_
                rw [ef]
                refine v_aload_n dX9_form_131 rfl ?_
                refine v_getR fX9_81 rfl hTy (hYr 22 _ rfl).2 dX9_form_132 ?_
                refine v_bipush dX9_form_135 (by decide) ?_
                refine v_iload dX9_form_137 rfl ?_
                refine v_imul dX9_form_139 ?_
                refine v_aload_n dX9_form_140 rfl ?_
                refine v_getR fX9_96 rfl hTy (hYr 27 _ rfl).2 dX9_form_141 ?_
                rw [show (16 * ((f : Nat) : Int)) = ((16 * f : Nat) : Int) by omega]
                refine v_Si (tX9_written (show G.1 (y + 23) = (10, 3840) from (hYr 22 _ rfl).1) (show G.1 (y + 28) = (10, 8) from (hYr 27 _ rfl).1) (by omega) (st := 16 * f) (L := ((xκ s i).1 p).2.1) (R0 := fun k => J1 (y + 28) k) (by omega) (by omega) (fun k hk => (oJ1 _ _ (by omega)).trans (hF3 k hk)) (fun _ _ => rfl)) kX9_244 rfl rfl ⟨by decide, by decide⟩ ⟨by decide, by decide⟩ (Nat.le_of_ble_eq_true rfl) dX9_form_144 (fun r6 G9 J4 hr6 pJ4 rng5 => ?_)
                obtain ⟨hG9, eJ4, wJ4, oJ4⟩ := pJ4
                obtain rfl := hG9.symm
                rw [(wr0_eq (((xκ s i).1 p).2.1) (fun k => J1 (y + 28) k)).1] at eJ4
                obtain rfl := eJ4
                have xJ4 : ∀ k, k < (wr0 (((xκ s i).1 p).2.1)).2.1 → J4 (y + 28) k = (wr0 (((xκ s i).1 p).2.1)).2.2 k := fun k hk => (wJ4 k (by have h9 := wr0_le (((xκ s i).1 p).2.1); omega)).trans ((wr0_eq (((xκ s i).1 p).2.1) (fun k => J1 (y + 28) k)).2 k hk)
                refine v_istore dX9_form_147 (by decide) rfl ?_
                refine v_iconst dX9_form_149 ?_
                refine v_istore dX9_form_150 (by decide) rfl ?_
                refine v_iconst dX9_form_152 ?_
                refine v_istore dX9_form_153 (by decide) rfl ?_
                have oo : ∀ a k, a ≠ y + 27 → a ≠ y + 28 → J4 a k = I a k := fun a k u1 u2 => (oJ4 a k u2).trans (oJ1 a k u1)
                have yJ : yOK J4 y s := hy0.sc (fun a k u => oo a k (by unfold scr at u; omega) (by unfold scr at u; omega))
                have bJ : offB I J4 y := fun a k u => oo a k (by omega) (by omega)
                have hA : ∀ k, k < (wr0 (oldL (xπ s i) (xκ s i) p)).2.1 → J4 (y + 27) k = (wr0 (oldL (xπ s i) (xκ s i) p)).2.2 k := fun k hk => (oJ4 _ _ (by omega)).trans (xJ1 k hk)
                have hn8 : (wr0 (oldL (xπ s i) (xκ s i) p)).2.1 ≤ 8 := wr0_le _
                have hm8b : (wr0 ((xκ s i).1 p).2.1).2.1 ≤ 8 := wr0_le _
                have loop2 : ∀ (mm q : Nat) (b : Int), q + mm = min (wr0 (oldL (xπ s i) (xκ s i) p)).2.1 (wr0 ((xκ s i).1 p).2.1).2.1 → alP (wr0 (oldL (xπ s i) (xκ s i) p)).2.2 (wr0 ((xκ s i).1 p).2.1).2.2 q b → w_V E mX9_form (w_rm 3 0 0) (w_Z E 0 0 (w_Pi (fun r G' J => G' = G ∧ r = xForm s (i : Int) (p : Int) ∧ yOK J y s ∧ offB I J y))) G J4 0 0 155 [some (.ref y), some (iv (i : Int)), some (iv (p : Int)), some (iv (b0 : Int)), some (iv ((wr0 (oldL (xπ s i) (xκ s i) p)).2.1 : Int)), some (iv (f : Int)), some (iv ((wr0 ((xκ s i).1 p).2.1).2.1 : Int)), some (iv b), some (iv (q : Int)), o9] [] := by
                  intro mm
                  induction mm with
                  | zero =>
                    intro q b hq hb
                    obtain rfl : q = min (wr0 (oldL (xπ s i) (xκ s i) p)).2.1 (wr0 ((xκ s i).1 p).2.1).2.1 := by omega
                    have hmn1 : min (wr0 (oldL (xπ s i) (xκ s i) p)).2.1 (wr0 ((xκ s i).1 p).2.1).2.1 = (wr0 (oldL (xπ s i) (xκ s i) p)).2.1 ∨ min (wr0 (oldL (xπ s i) (xκ s i) p)).2.1 (wr0 ((xκ s i).1 p).2.1).2.1 = (wr0 ((xκ s i).1 p).2.1).2.1 := by omega
                    rcases hb with ⟨rfl, hb⟩ | ⟨rfl, hb⟩
                    · refine v_iload dX9_form_155 rfl ?_
                      refine v_iload dX9_form_157 rfl ?_
                      refine v_icmp_ge ⟨by omega, by omega⟩ ⟨by omega, by omega⟩ dX9_form_159 (fun h1 => ?_) (fun h1 => ?_)
                      · refine v_aload_n dX9_form_204 rfl ?_
                        refine v_getR fX9_78 rfl hTy (hYr 21 _ rfl).2 dX9_form_205 ?_
                        refine v_iload dX9_form_208 rfl ?_
                        refine v_iald' (i := f) (v := ((xκ s i).1 p).1) ((oo _ _ (by omega) (by omega)).trans hF1) (show G.1 (y + 22) = (10, 240) from (hYr 21 _ rfl).1) rfl (by omega) (by omega) dX9_form_210 ?_
                        refine v_istore dX9_form_211 (by decide) rfl ?_
                        refine v_iload dX9_form_213 rfl ?_
                        refine v_if_ne ⟨by decide, by decide⟩ dX9_form_215 (fun hb215 => ?_) (fun h => by exfalso; omega)
                        refine v_iload dX9_form_221 rfl ?_
                        refine v_iload dX9_form_223 rfl ?_
                        refine v_icmp_ne ⟨by omega, by omega⟩ ⟨by omega, by omega⟩ dX9_form_225 (fun h2 => ?_) (fun h2 => ?_)
                        · refine v_iload dX9_form_285 rfl ?_
                          refine v_if_gt ⟨by omega, by omega⟩ dX9_form_287 (fun h3 => ?_) (fun h3 => ?_)
                          · refine v_bipush dX9_form_308 (by decide) ?_
                            have eV : 8 = xForm s (i : Int) (p : Int) := by
                              rw [eX, formX_o hTB hb, formO_eq hpp hc]
                              first | exact ((if_pos (by omega)).trans (if_pos (by omega))).symm | exact ((if_pos (by omega)).trans ((if_neg (by omega)).trans (if_pos (by omega)))).symm | exact ((if_pos (by omega)).trans ((if_neg (by omega)).trans (if_neg (by omega)))).symm | exact ((if_neg (by omega)).trans (if_pos (by omega))).symm | exact (((if_neg (by omega)).trans ((if_neg (by omega)).trans (if_pos (by omega)))).trans (by omega)).symm | exact (((if_neg (by omega)).trans ((if_neg (by omega)).trans (if_neg (by omega)))).trans (by omega)).symm | (exfalso; omega)
                            exact v_iret rfl (by decide) (by decide) ⟨by decide, by decide⟩ dX9_form_310 ⟨rfl, eV, yJ, bJ⟩
                          · refine v_iload dX9_form_290 rfl ?_
                            refine v_iload dX9_form_292 rfl ?_
                            refine v_isub dX9_form_294 ?_
                            refine v_iconst dX9_form_295 ?_
                            refine v_icmp_gt ⟨by omega, by omega⟩ ⟨by decide, by decide⟩ dX9_form_296 (fun h4 => ?_) (fun h4 => ?_)
                            · refine v_bipush dX9_form_308 (by decide) ?_
                              have eV : 8 = xForm s (i : Int) (p : Int) := by
                                rw [eX, formX_o hTB hb, formO_eq hpp hc]
                                first | exact ((if_pos (by omega)).trans (if_pos (by omega))).symm | exact ((if_pos (by omega)).trans ((if_neg (by omega)).trans (if_pos (by omega)))).symm | exact ((if_pos (by omega)).trans ((if_neg (by omega)).trans (if_neg (by omega)))).symm | exact ((if_neg (by omega)).trans (if_pos (by omega))).symm | exact (((if_neg (by omega)).trans ((if_neg (by omega)).trans (if_pos (by omega)))).trans (by omega)).symm | exact (((if_neg (by omega)).trans ((if_neg (by omega)).trans (if_neg (by omega)))).trans (by omega)).symm | (exfalso; omega)
                              exact v_iret rfl (by decide) (by decide) ⟨by decide, by decide⟩ dX9_form_310 ⟨rfl, eV, yJ, bJ⟩
                            · refine v_iload dX9_form_299 rfl ?_
                              refine v_iload dX9_form_301 rfl ?_
                              refine v_isub dX9_form_303 ?_
                              refine v_iconst dX9_form_304 ?_
                              refine v_icmp_le ⟨by omega, by omega⟩ ⟨by decide, by decide⟩ dX9_form_305 (fun h5 => ?_) (fun h5 => ?_)
                              · refine v_iload dX9_form_311 rfl ?_
                                refine v_iload dX9_form_313 rfl ?_
                                refine v_icmp_ge ⟨by omega, by omega⟩ ⟨by omega, by omega⟩ dX9_form_315 (fun h6 => ?_) (fun h6 => ?_)
                                · refine v_iconst dX9_form_328 ?_
                                  refine v_iload dX9_form_329 rfl ?_
                                  refine v_iadd dX9_form_331 ?_
                                  refine v_iload dX9_form_332 rfl ?_
                                  refine v_isub dX9_form_334 ?_
                                  have eV : ((4 + (((wr0 ((xκ s i).1 p).2.1).2.1 : Nat) : Int)) - (((wr0 (oldL (xπ s i) (xκ s i) p)).2.1 : Nat) : Int)) = xForm s (i : Int) (p : Int) := by
                                    rw [eX, formX_o hTB hb, formO_eq hpp hc]
                                    first | exact ((if_pos (by omega)).trans (if_pos (by omega))).symm | exact ((if_pos (by omega)).trans ((if_neg (by omega)).trans (if_pos (by omega)))).symm | exact ((if_pos (by omega)).trans ((if_neg (by omega)).trans (if_neg (by omega)))).symm | exact ((if_neg (by omega)).trans (if_pos (by omega))).symm | exact (((if_neg (by omega)).trans ((if_neg (by omega)).trans (if_pos (by omega)))).trans (by omega)).symm | exact (((if_neg (by omega)).trans ((if_neg (by omega)).trans (if_neg (by omega)))).trans (by omega)).symm | (exfalso; omega)
                                  exact v_iret rfl (by decide) (by decide) ⟨by omega, by omega⟩ dX9_form_335 ⟨rfl, eV, yJ, bJ⟩
                                · refine v_iconst dX9_form_318 ?_
                                  refine v_iload dX9_form_319 rfl ?_
                                  refine v_iadd dX9_form_321 ?_
                                  refine v_iload dX9_form_322 rfl ?_
                                  refine v_isub dX9_form_324 ?_
                                  refine v_goto dX9_form_325 ?_
                                  have eV : ((1 + (((wr0 (oldL (xπ s i) (xκ s i) p)).2.1 : Nat) : Int)) - (((wr0 ((xκ s i).1 p).2.1).2.1 : Nat) : Int)) = xForm s (i : Int) (p : Int) := by
                                    rw [eX, formX_o hTB hb, formO_eq hpp hc]
                                    first | exact ((if_pos (by omega)).trans (if_pos (by omega))).symm | exact ((if_pos (by omega)).trans ((if_neg (by omega)).trans (if_pos (by omega)))).symm | exact ((if_pos (by omega)).trans ((if_neg (by omega)).trans (if_neg (by omega)))).symm | exact ((if_neg (by omega)).trans (if_pos (by omega))).symm | exact (((if_neg (by omega)).trans ((if_neg (by omega)).trans (if_pos (by omega)))).trans (by omega)).symm | exact (((if_neg (by omega)).trans ((if_neg (by omega)).trans (if_neg (by omega)))).trans (by omega)).symm | (exfalso; omega)
                                  exact v_iret rfl (by decide) (by decide) ⟨by omega, by omega⟩ dX9_form_335 ⟨rfl, eV, yJ, bJ⟩
                              · refine v_bipush dX9_form_308 (by decide) ?_
                                have eV : 8 = xForm s (i : Int) (p : Int) := by
                                  rw [eX, formX_o hTB hb, formO_eq hpp hc]
                                  first | exact ((if_pos (by omega)).trans (if_pos (by omega))).symm | exact ((if_pos (by omega)).trans ((if_neg (by omega)).trans (if_pos (by omega)))).symm | exact ((if_pos (by omega)).trans ((if_neg (by omega)).trans (if_neg (by omega)))).symm | exact ((if_neg (by omega)).trans (if_pos (by omega))).symm | exact (((if_neg (by omega)).trans ((if_neg (by omega)).trans (if_pos (by omega)))).trans (by omega)).symm | exact (((if_neg (by omega)).trans ((if_neg (by omega)).trans (if_neg (by omega)))).trans (by omega)).symm | (exfalso; omega)
                                exact v_iret rfl (by decide) (by decide) ⟨by decide, by decide⟩ dX9_form_310 ⟨rfl, eV, yJ, bJ⟩
                        · refine v_iload dX9_form_228 rfl ?_
                          refine v_iconst dX9_form_230 ?_
                          refine v_icmp_eq ⟨by omega, by omega⟩ ⟨by decide, by decide⟩ dX9_form_231 (fun h7 => ?_) (fun h7 => ?_)
                          · refine v_iconst dX9_form_257 ?_
                            refine v_goto dX9_form_258 ?_
                            refine v_istore dX9_form_262 (by decide) rfl ?_
                            refine v_iload dX9_form_264 rfl ?_
                            refine v_if_ne ⟨by omega, by omega⟩ dX9_form_266 (fun h8 => ?_) (fun h8 => ?_)
                            · refine v_iload dX9_form_273 rfl ?_
                              refine v_if_eq ⟨by decide, by decide⟩ dX9_form_275 (fun h => by exfalso; omega) (fun hb275 => ?_)
                              refine v_iconst dX9_form_278 ?_
                              refine v_goto dX9_form_279 ?_
                              have eV : 1 = xForm s (i : Int) (p : Int) := by
                                rw [eX, formX_o hTB hb, formO_eq hpp hc]
                                first | exact ((if_pos (by omega)).trans (if_pos (by omega))).symm | exact ((if_pos (by omega)).trans ((if_neg (by omega)).trans (if_pos (by omega)))).symm | exact ((if_pos (by omega)).trans ((if_neg (by omega)).trans (if_neg (by omega)))).symm | exact ((if_neg (by omega)).trans (if_pos (by omega))).symm | exact (((if_neg (by omega)).trans ((if_neg (by omega)).trans (if_pos (by omega)))).trans (by omega)).symm | exact (((if_neg (by omega)).trans ((if_neg (by omega)).trans (if_neg (by omega)))).trans (by omega)).symm | (exfalso; omega)
                              exact v_iret rfl (by decide) (by decide) ⟨by decide, by decide⟩ dX9_form_284 ⟨rfl, eV, yJ, bJ⟩
                            · refine v_iconst dX9_form_269 ?_
                              refine v_goto dX9_form_270 ?_
                              have eV : 0 = xForm s (i : Int) (p : Int) := by
                                rw [eX, formX_o hTB hb, formO_eq hpp hc]
                                first | exact ((if_pos (by omega)).trans (if_pos (by omega))).symm | exact ((if_pos (by omega)).trans ((if_neg (by omega)).trans (if_pos (by omega)))).symm | exact ((if_pos (by omega)).trans ((if_neg (by omega)).trans (if_neg (by omega)))).symm | exact ((if_neg (by omega)).trans (if_pos (by omega))).symm | exact (((if_neg (by omega)).trans ((if_neg (by omega)).trans (if_pos (by omega)))).trans (by omega)).symm | exact (((if_neg (by omega)).trans ((if_neg (by omega)).trans (if_neg (by omega)))).trans (by omega)).symm | (exfalso; omega)
                              exact v_iret rfl (by decide) (by decide) ⟨by decide, by decide⟩ dX9_form_284 ⟨rfl, eV, yJ, bJ⟩
                          · refine v_iload dX9_form_234 rfl ?_
                            refine v_iconst dX9_form_236 ?_
                            refine v_icmp_ne ⟨by omega, by omega⟩ ⟨by decide, by decide⟩ dX9_form_237 (fun h9 => ?_) (fun h9 => ?_)
                            · refine v_iconst dX9_form_261 ?_
                              refine v_istore dX9_form_262 (by decide) rfl ?_
                              refine v_iload dX9_form_264 rfl ?_
                              refine v_if_ne ⟨by omega, by omega⟩ dX9_form_266 (fun h10 => ?_) (fun h10 => ?_)
                              · refine v_iload dX9_form_273 rfl ?_
                                refine v_if_eq ⟨by decide, by decide⟩ dX9_form_275 (fun hb275 => ?_) (fun h => by exfalso; omega)
                                refine v_bipush dX9_form_282 (by decide) ?_
                                have eV : 8 = xForm s (i : Int) (p : Int) := by
                                  rw [eX, formX_o hTB hb, formO_eq hpp hc]
                                  first | exact ((if_pos (by omega)).trans (if_pos (by omega))).symm | exact ((if_pos (by omega)).trans ((if_neg (by omega)).trans (if_pos (by omega)))).symm | exact ((if_pos (by omega)).trans ((if_neg (by omega)).trans (if_neg (by omega)))).symm | exact ((if_neg (by omega)).trans (if_pos (by omega))).symm | exact (((if_neg (by omega)).trans ((if_neg (by omega)).trans (if_pos (by omega)))).trans (by omega)).symm | exact (((if_neg (by omega)).trans ((if_neg (by omega)).trans (if_neg (by omega)))).trans (by omega)).symm | (exfalso; omega)
                                exact v_iret rfl (by decide) (by decide) ⟨by decide, by decide⟩ dX9_form_284 ⟨rfl, eV, yJ, bJ⟩
                              · refine v_iconst dX9_form_269 ?_
                                refine v_goto dX9_form_270 ?_
                                have eV : 0 = xForm s (i : Int) (p : Int) := by
                                  rw [eX, formX_o hTB hb, formO_eq hpp hc]
                                  first | exact ((if_pos (by omega)).trans (if_pos (by omega))).symm | exact ((if_pos (by omega)).trans ((if_neg (by omega)).trans (if_pos (by omega)))).symm | exact ((if_pos (by omega)).trans ((if_neg (by omega)).trans (if_neg (by omega)))).symm | exact ((if_neg (by omega)).trans (if_pos (by omega))).symm | exact (((if_neg (by omega)).trans ((if_neg (by omega)).trans (if_pos (by omega)))).trans (by omega)).symm | exact (((if_neg (by omega)).trans ((if_neg (by omega)).trans (if_neg (by omega)))).trans (by omega)).symm | (exfalso; omega)
                                exact v_iret rfl (by decide) (by decide) ⟨by decide, by decide⟩ dX9_form_284 ⟨rfl, eV, yJ, bJ⟩
                            · refine v_aload_n dX9_form_240 rfl ?_
                              refine v_getR fX9_81 rfl hTy (hYr 22 _ rfl).2 dX9_form_241 ?_
                              refine v_bipush dX9_form_244 (by decide) ?_
                              refine v_iload dX9_form_246 rfl ?_
                              refine v_imul dX9_form_248 ?_
                              refine v_bipush dX9_form_249 (by decide) ?_
                              refine v_iadd dX9_form_251 ?_
                              refine v_iald' (i := ((16 * f) + 8)) (v := ((xκ s i).1 p).2.2 0) ((oo _ _ (by omega) (by omega)).trans (hF4 0 (by omega))) (show G.1 (y + 23) = (10, 3840) from (hYr 22 _ rfl).1) (by omega) (by omega) (by omega) dX9_form_252 ?_
                              refine v_iconst dX9_form_253 ?_
                              refine v_icmp_ne (by rw [← hF4 0 (by omega)]; exact rng _ _) ⟨by decide, by decide⟩ dX9_form_254 (fun h11 => ?_) (fun h11 => ?_)
                              · refine v_iconst dX9_form_261 ?_
                                refine v_istore dX9_form_262 (by decide) rfl ?_
                                refine v_iload dX9_form_264 rfl ?_
                                refine v_if_ne ⟨by omega, by omega⟩ dX9_form_266 (fun h12 => ?_) (fun h12 => ?_)
                                · refine v_iload dX9_form_273 rfl ?_
                                  refine v_if_eq ⟨by decide, by decide⟩ dX9_form_275 (fun hb275 => ?_) (fun h => by exfalso; omega)
                                  refine v_bipush dX9_form_282 (by decide) ?_
                                  have eV : 8 = xForm s (i : Int) (p : Int) := by
                                    rw [eX, formX_o hTB hb, formO_eq hpp hc]
                                    first | exact ((if_pos (by omega)).trans (if_pos (by omega))).symm | exact ((if_pos (by omega)).trans ((if_neg (by omega)).trans (if_pos (by omega)))).symm | exact ((if_pos (by omega)).trans ((if_neg (by omega)).trans (if_neg (by omega)))).symm | exact ((if_neg (by omega)).trans (if_pos (by omega))).symm | exact (((if_neg (by omega)).trans ((if_neg (by omega)).trans (if_pos (by omega)))).trans (by omega)).symm | exact (((if_neg (by omega)).trans ((if_neg (by omega)).trans (if_neg (by omega)))).trans (by omega)).symm | (exfalso; omega)
                                  exact v_iret rfl (by decide) (by decide) ⟨by decide, by decide⟩ dX9_form_284 ⟨rfl, eV, yJ, bJ⟩
                                · refine v_iconst dX9_form_269 ?_
                                  refine v_goto dX9_form_270 ?_
                                  have eV : 0 = xForm s (i : Int) (p : Int) := by
                                    rw [eX, formX_o hTB hb, formO_eq hpp hc]
                                    first | exact ((if_pos (by omega)).trans (if_pos (by omega))).symm | exact ((if_pos (by omega)).trans ((if_neg (by omega)).trans (if_pos (by omega)))).symm | exact ((if_pos (by omega)).trans ((if_neg (by omega)).trans (if_neg (by omega)))).symm | exact ((if_neg (by omega)).trans (if_pos (by omega))).symm | exact (((if_neg (by omega)).trans ((if_neg (by omega)).trans (if_pos (by omega)))).trans (by omega)).symm | exact (((if_neg (by omega)).trans ((if_neg (by omega)).trans (if_neg (by omega)))).trans (by omega)).symm | (exfalso; omega)
                                  exact v_iret rfl (by decide) (by decide) ⟨by decide, by decide⟩ dX9_form_284 ⟨rfl, eV, yJ, bJ⟩
                              · refine v_iconst dX9_form_257 ?_
                                refine v_goto dX9_form_258 ?_
                                refine v_istore dX9_form_262 (by decide) rfl ?_
                                refine v_iload dX9_form_264 rfl ?_
                                refine v_if_ne ⟨by omega, by omega⟩ dX9_form_266 (fun h13 => ?_) (fun h13 => ?_)
                                · refine v_iload dX9_form_273 rfl ?_
                                  refine v_if_eq ⟨by decide, by decide⟩ dX9_form_275 (fun h => by exfalso; omega) (fun hb275 => ?_)
                                  refine v_iconst dX9_form_278 ?_
                                  refine v_goto dX9_form_279 ?_
                                  have eV : 1 = xForm s (i : Int) (p : Int) := by
                                    rw [eX, formX_o hTB hb, formO_eq hpp hc]
                                    first | exact ((if_pos (by omega)).trans (if_pos (by omega))).symm | exact ((if_pos (by omega)).trans ((if_neg (by omega)).trans (if_pos (by omega)))).symm | exact ((if_pos (by omega)).trans ((if_neg (by omega)).trans (if_neg (by omega)))).symm | exact ((if_neg (by omega)).trans (if_pos (by omega))).symm | exact (((if_neg (by omega)).trans ((if_neg (by omega)).trans (if_pos (by omega)))).trans (by omega)).symm | exact (((if_neg (by omega)).trans ((if_neg (by omega)).trans (if_neg (by omega)))).trans (by omega)).symm | (exfalso; omega)
                                  exact v_iret rfl (by decide) (by decide) ⟨by decide, by decide⟩ dX9_form_284 ⟨rfl, eV, yJ, bJ⟩
                                · refine v_iconst dX9_form_269 ?_
                                  refine v_goto dX9_form_270 ?_
                                  have eV : 0 = xForm s (i : Int) (p : Int) := by
                                    rw [eX, formX_o hTB hb, formO_eq hpp hc]
                                    first | exact ((if_pos (by omega)).trans (if_pos (by omega))).symm | exact ((if_pos (by omega)).trans ((if_neg (by omega)).trans (if_pos (by omega)))).symm | exact ((if_pos (by omega)).trans ((if_neg (by omega)).trans (if_neg (by omega)))).symm | exact ((if_neg (by omega)).trans (if_pos (by omega))).symm | exact (((if_neg (by omega)).trans ((if_neg (by omega)).trans (if_pos (by omega)))).trans (by omega)).symm | exact (((if_neg (by omega)).trans ((if_neg (by omega)).trans (if_neg (by omega)))).trans (by omega)).symm | (exfalso; omega)
                                  exact v_iret rfl (by decide) (by decide) ⟨by decide, by decide⟩ dX9_form_284 ⟨rfl, eV, yJ, bJ⟩
                      · refine v_iload dX9_form_162 rfl ?_
                        refine v_iload dX9_form_164 rfl ?_
                        refine v_icmp_ge ⟨by omega, by omega⟩ ⟨by omega, by omega⟩ dX9_form_166 (fun hb166 => ?_) (fun h => by exfalso; omega)
                        refine v_aload_n dX9_form_204 rfl ?_
                        refine v_getR fX9_78 rfl hTy (hYr 21 _ rfl).2 dX9_form_205 ?_
                        refine v_iload dX9_form_208 rfl ?_
                        refine v_iald' (i := f) (v := ((xκ s i).1 p).1) ((oo _ _ (by omega) (by omega)).trans hF1) (show G.1 (y + 22) = (10, 240) from (hYr 21 _ rfl).1) rfl (by omega) (by omega) dX9_form_210 ?_
                        refine v_istore dX9_form_211 (by decide) rfl ?_
                        refine v_iload dX9_form_213 rfl ?_
                        refine v_if_ne ⟨by decide, by decide⟩ dX9_form_215 (fun hb215 => ?_) (fun h => by exfalso; omega)
                        refine v_iload dX9_form_221 rfl ?_
                        refine v_iload dX9_form_223 rfl ?_
                        refine v_icmp_ne ⟨by omega, by omega⟩ ⟨by omega, by omega⟩ dX9_form_225 (fun h14 => ?_) (fun h14 => ?_)
                        · refine v_iload dX9_form_285 rfl ?_
                          refine v_if_gt ⟨by omega, by omega⟩ dX9_form_287 (fun h15 => ?_) (fun h15 => ?_)
                          · refine v_bipush dX9_form_308 (by decide) ?_
                            have eV : 8 = xForm s (i : Int) (p : Int) := by
                              rw [eX, formX_o hTB hb, formO_eq hpp hc]
                              first | exact ((if_pos (by omega)).trans (if_pos (by omega))).symm | exact ((if_pos (by omega)).trans ((if_neg (by omega)).trans (if_pos (by omega)))).symm | exact ((if_pos (by omega)).trans ((if_neg (by omega)).trans (if_neg (by omega)))).symm | exact ((if_neg (by omega)).trans (if_pos (by omega))).symm | exact (((if_neg (by omega)).trans ((if_neg (by omega)).trans (if_pos (by omega)))).trans (by omega)).symm | exact (((if_neg (by omega)).trans ((if_neg (by omega)).trans (if_neg (by omega)))).trans (by omega)).symm | (exfalso; omega)
                            exact v_iret rfl (by decide) (by decide) ⟨by decide, by decide⟩ dX9_form_310 ⟨rfl, eV, yJ, bJ⟩
                          · refine v_iload dX9_form_290 rfl ?_
                            refine v_iload dX9_form_292 rfl ?_
                            refine v_isub dX9_form_294 ?_
                            refine v_iconst dX9_form_295 ?_
                            refine v_icmp_gt ⟨by omega, by omega⟩ ⟨by decide, by decide⟩ dX9_form_296 (fun h16 => ?_) (fun h16 => ?_)
                            · refine v_bipush dX9_form_308 (by decide) ?_
                              have eV : 8 = xForm s (i : Int) (p : Int) := by
                                rw [eX, formX_o hTB hb, formO_eq hpp hc]
                                first | exact ((if_pos (by omega)).trans (if_pos (by omega))).symm | exact ((if_pos (by omega)).trans ((if_neg (by omega)).trans (if_pos (by omega)))).symm | exact ((if_pos (by omega)).trans ((if_neg (by omega)).trans (if_neg (by omega)))).symm | exact ((if_neg (by omega)).trans (if_pos (by omega))).symm | exact (((if_neg (by omega)).trans ((if_neg (by omega)).trans (if_pos (by omega)))).trans (by omega)).symm | exact (((if_neg (by omega)).trans ((if_neg (by omega)).trans (if_neg (by omega)))).trans (by omega)).symm | (exfalso; omega)
                              exact v_iret rfl (by decide) (by decide) ⟨by decide, by decide⟩ dX9_form_310 ⟨rfl, eV, yJ, bJ⟩
                            · refine v_iload dX9_form_299 rfl ?_
                              refine v_iload dX9_form_301 rfl ?_
                              refine v_isub dX9_form_303 ?_
                              refine v_iconst dX9_form_304 ?_
                              refine v_icmp_le ⟨by omega, by omega⟩ ⟨by decide, by decide⟩ dX9_form_305 (fun h17 => ?_) (fun h17 => ?_)
                              · refine v_iload dX9_form_311 rfl ?_
                                refine v_iload dX9_form_313 rfl ?_
                                refine v_icmp_ge ⟨by omega, by omega⟩ ⟨by omega, by omega⟩ dX9_form_315 (fun h18 => ?_) (fun h18 => ?_)
                                · refine v_iconst dX9_form_328 ?_
                                  refine v_iload dX9_form_329 rfl ?_
                                  refine v_iadd dX9_form_331 ?_
                                  refine v_iload dX9_form_332 rfl ?_
                                  refine v_isub dX9_form_334 ?_
                                  have eV : ((4 + (((wr0 ((xκ s i).1 p).2.1).2.1 : Nat) : Int)) - (((wr0 (oldL (xπ s i) (xκ s i) p)).2.1 : Nat) : Int)) = xForm s (i : Int) (p : Int) := by
                                    rw [eX, formX_o hTB hb, formO_eq hpp hc]
                                    first | exact ((if_pos (by omega)).trans (if_pos (by omega))).symm | exact ((if_pos (by omega)).trans ((if_neg (by omega)).trans (if_pos (by omega)))).symm | exact ((if_pos (by omega)).trans ((if_neg (by omega)).trans (if_neg (by omega)))).symm | exact ((if_neg (by omega)).trans (if_pos (by omega))).symm | exact (((if_neg (by omega)).trans ((if_neg (by omega)).trans (if_pos (by omega)))).trans (by omega)).symm | exact (((if_neg (by omega)).trans ((if_neg (by omega)).trans (if_neg (by omega)))).trans (by omega)).symm | (exfalso; omega)
                                  exact v_iret rfl (by decide) (by decide) ⟨by omega, by omega⟩ dX9_form_335 ⟨rfl, eV, yJ, bJ⟩
                                · refine v_iconst dX9_form_318 ?_
                                  refine v_iload dX9_form_319 rfl ?_
                                  refine v_iadd dX9_form_321 ?_
                                  refine v_iload dX9_form_322 rfl ?_
                                  refine v_isub dX9_form_324 ?_
                                  refine v_goto dX9_form_325 ?_
                                  have eV : ((1 + (((wr0 (oldL (xπ s i) (xκ s i) p)).2.1 : Nat) : Int)) - (((wr0 ((xκ s i).1 p).2.1).2.1 : Nat) : Int)) = xForm s (i : Int) (p : Int) := by
                                    rw [eX, formX_o hTB hb, formO_eq hpp hc]
                                    first | exact ((if_pos (by omega)).trans (if_pos (by omega))).symm | exact ((if_pos (by omega)).trans ((if_neg (by omega)).trans (if_pos (by omega)))).symm | exact ((if_pos (by omega)).trans ((if_neg (by omega)).trans (if_neg (by omega)))).symm | exact ((if_neg (by omega)).trans (if_pos (by omega))).symm | exact (((if_neg (by omega)).trans ((if_neg (by omega)).trans (if_pos (by omega)))).trans (by omega)).symm | exact (((if_neg (by omega)).trans ((if_neg (by omega)).trans (if_neg (by omega)))).trans (by omega)).symm | (exfalso; omega)
                                  exact v_iret rfl (by decide) (by decide) ⟨by omega, by omega⟩ dX9_form_335 ⟨rfl, eV, yJ, bJ⟩
                              · refine v_bipush dX9_form_308 (by decide) ?_
                                have eV : 8 = xForm s (i : Int) (p : Int) := by
                                  rw [eX, formX_o hTB hb, formO_eq hpp hc]
                                  first | exact ((if_pos (by omega)).trans (if_pos (by omega))).symm | exact ((if_pos (by omega)).trans ((if_neg (by omega)).trans (if_pos (by omega)))).symm | exact ((if_pos (by omega)).trans ((if_neg (by omega)).trans (if_neg (by omega)))).symm | exact ((if_neg (by omega)).trans (if_pos (by omega))).symm | exact (((if_neg (by omega)).trans ((if_neg (by omega)).trans (if_pos (by omega)))).trans (by omega)).symm | exact (((if_neg (by omega)).trans ((if_neg (by omega)).trans (if_neg (by omega)))).trans (by omega)).symm | (exfalso; omega)
                                exact v_iret rfl (by decide) (by decide) ⟨by decide, by decide⟩ dX9_form_310 ⟨rfl, eV, yJ, bJ⟩
                        · refine v_iload dX9_form_228 rfl ?_
                          refine v_iconst dX9_form_230 ?_
                          refine v_icmp_eq ⟨by omega, by omega⟩ ⟨by decide, by decide⟩ dX9_form_231 (fun h19 => ?_) (fun h19 => ?_)
                          · refine v_iconst dX9_form_257 ?_
                            refine v_goto dX9_form_258 ?_
                            refine v_istore dX9_form_262 (by decide) rfl ?_
                            refine v_iload dX9_form_264 rfl ?_
                            refine v_if_ne ⟨by omega, by omega⟩ dX9_form_266 (fun h20 => ?_) (fun h20 => ?_)
                            · refine v_iload dX9_form_273 rfl ?_
                              refine v_if_eq ⟨by decide, by decide⟩ dX9_form_275 (fun h => by exfalso; omega) (fun hb275 => ?_)
                              refine v_iconst dX9_form_278 ?_
                              refine v_goto dX9_form_279 ?_
                              have eV : 1 = xForm s (i : Int) (p : Int) := by
                                rw [eX, formX_o hTB hb, formO_eq hpp hc]
                                first | exact ((if_pos (by omega)).trans (if_pos (by omega))).symm | exact ((if_pos (by omega)).trans ((if_neg (by omega)).trans (if_pos (by omega)))).symm | exact ((if_pos (by omega)).trans ((if_neg (by omega)).trans (if_neg (by omega)))).symm | exact ((if_neg (by omega)).trans (if_pos (by omega))).symm | exact (((if_neg (by omega)).trans ((if_neg (by omega)).trans (if_pos (by omega)))).trans (by omega)).symm | exact (((if_neg (by omega)).trans ((if_neg (by omega)).trans (if_neg (by omega)))).trans (by omega)).symm | (exfalso; omega)
                              exact v_iret rfl (by decide) (by decide) ⟨by decide, by decide⟩ dX9_form_284 ⟨rfl, eV, yJ, bJ⟩
                            · refine v_iconst dX9_form_269 ?_
                              refine v_goto dX9_form_270 ?_
                              have eV : 0 = xForm s (i : Int) (p : Int) := by
                                rw [eX, formX_o hTB hb, formO_eq hpp hc]
                                first | exact ((if_pos (by omega)).trans (if_pos (by omega))).symm | exact ((if_pos (by omega)).trans ((if_neg (by omega)).trans (if_pos (by omega)))).symm | exact ((if_pos (by omega)).trans ((if_neg (by omega)).trans (if_neg (by omega)))).symm | exact ((if_neg (by omega)).trans (if_pos (by omega))).symm | exact (((if_neg (by omega)).trans ((if_neg (by omega)).trans (if_pos (by omega)))).trans (by omega)).symm | exact (((if_neg (by omega)).trans ((if_neg (by omega)).trans (if_neg (by omega)))).trans (by omega)).symm | (exfalso; omega)
                              exact v_iret rfl (by decide) (by decide) ⟨by decide, by decide⟩ dX9_form_284 ⟨rfl, eV, yJ, bJ⟩
                          · refine v_iload dX9_form_234 rfl ?_
                            refine v_iconst dX9_form_236 ?_
                            refine v_icmp_ne ⟨by omega, by omega⟩ ⟨by decide, by decide⟩ dX9_form_237 (fun h21 => ?_) (fun h21 => ?_)
                            · refine v_iconst dX9_form_261 ?_
                              refine v_istore dX9_form_262 (by decide) rfl ?_
                              refine v_iload dX9_form_264 rfl ?_
                              refine v_if_ne ⟨by omega, by omega⟩ dX9_form_266 (fun h22 => ?_) (fun h22 => ?_)
                              · refine v_iload dX9_form_273 rfl ?_
                                refine v_if_eq ⟨by decide, by decide⟩ dX9_form_275 (fun hb275 => ?_) (fun h => by exfalso; omega)
                                refine v_bipush dX9_form_282 (by decide) ?_
                                have eV : 8 = xForm s (i : Int) (p : Int) := by
                                  rw [eX, formX_o hTB hb, formO_eq hpp hc]
                                  first | exact ((if_pos (by omega)).trans (if_pos (by omega))).symm | exact ((if_pos (by omega)).trans ((if_neg (by omega)).trans (if_pos (by omega)))).symm | exact ((if_pos (by omega)).trans ((if_neg (by omega)).trans (if_neg (by omega)))).symm | exact ((if_neg (by omega)).trans (if_pos (by omega))).symm | exact (((if_neg (by omega)).trans ((if_neg (by omega)).trans (if_pos (by omega)))).trans (by omega)).symm | exact (((if_neg (by omega)).trans ((if_neg (by omega)).trans (if_neg (by omega)))).trans (by omega)).symm | (exfalso; omega)
                                exact v_iret rfl (by decide) (by decide) ⟨by decide, by decide⟩ dX9_form_284 ⟨rfl, eV, yJ, bJ⟩
                              · refine v_iconst dX9_form_269 ?_
                                refine v_goto dX9_form_270 ?_
                                have eV : 0 = xForm s (i : Int) (p : Int) := by
                                  rw [eX, formX_o hTB hb, formO_eq hpp hc]
                                  first | exact ((if_pos (by omega)).trans (if_pos (by omega))).symm | exact ((if_pos (by omega)).trans ((if_neg (by omega)).trans (if_pos (by omega)))).symm | exact ((if_pos (by omega)).trans ((if_neg (by omega)).trans (if_neg (by omega)))).symm | exact ((if_neg (by omega)).trans (if_pos (by omega))).symm | exact (((if_neg (by omega)).trans ((if_neg (by omega)).trans (if_pos (by omega)))).trans (by omega)).symm | exact (((if_neg (by omega)).trans ((if_neg (by omega)).trans (if_neg (by omega)))).trans (by omega)).symm | (exfalso; omega)
                                exact v_iret rfl (by decide) (by decide) ⟨by decide, by decide⟩ dX9_form_284 ⟨rfl, eV, yJ, bJ⟩
                            · refine v_aload_n dX9_form_240 rfl ?_
                              refine v_getR fX9_81 rfl hTy (hYr 22 _ rfl).2 dX9_form_241 ?_
                              refine v_bipush dX9_form_244 (by decide) ?_
                              refine v_iload dX9_form_246 rfl ?_
                              refine v_imul dX9_form_248 ?_
                              refine v_bipush dX9_form_249 (by decide) ?_
                              refine v_iadd dX9_form_251 ?_
                              refine v_iald' (i := ((16 * f) + 8)) (v := ((xκ s i).1 p).2.2 0) ((oo _ _ (by omega) (by omega)).trans (hF4 0 (by omega))) (show G.1 (y + 23) = (10, 3840) from (hYr 22 _ rfl).1) (by omega) (by omega) (by omega) dX9_form_252 ?_
                              refine v_iconst dX9_form_253 ?_
                              refine v_icmp_ne (by rw [← hF4 0 (by omega)]; exact rng _ _) ⟨by decide, by decide⟩ dX9_form_254 (fun h23 => ?_) (fun h23 => ?_)
                              · refine v_iconst dX9_form_261 ?_
                                refine v_istore dX9_form_262 (by decide) rfl ?_
                                refine v_iload dX9_form_264 rfl ?_
                                refine v_if_ne ⟨by omega, by omega⟩ dX9_form_266 (fun h24 => ?_) (fun h24 => ?_)
                                · refine v_iload dX9_form_273 rfl ?_
                                  refine v_if_eq ⟨by decide, by decide⟩ dX9_form_275 (fun hb275 => ?_) (fun h => by exfalso; omega)
                                  refine v_bipush dX9_form_282 (by decide) ?_
                                  have eV : 8 = xForm s (i : Int) (p : Int) := by
                                    rw [eX, formX_o hTB hb, formO_eq hpp hc]
                                    first | exact ((if_pos (by omega)).trans (if_pos (by omega))).symm | exact ((if_pos (by omega)).trans ((if_neg (by omega)).trans (if_pos (by omega)))).symm | exact ((if_pos (by omega)).trans ((if_neg (by omega)).trans (if_neg (by omega)))).symm | exact ((if_neg (by omega)).trans (if_pos (by omega))).symm | exact (((if_neg (by omega)).trans ((if_neg (by omega)).trans (if_pos (by omega)))).trans (by omega)).symm | exact (((if_neg (by omega)).trans ((if_neg (by omega)).trans (if_neg (by omega)))).trans (by omega)).symm | (exfalso; omega)
                                  exact v_iret rfl (by decide) (by decide) ⟨by decide, by decide⟩ dX9_form_284 ⟨rfl, eV, yJ, bJ⟩
                                · refine v_iconst dX9_form_269 ?_
                                  refine v_goto dX9_form_270 ?_
                                  have eV : 0 = xForm s (i : Int) (p : Int) := by
                                    rw [eX, formX_o hTB hb, formO_eq hpp hc]
                                    first | exact ((if_pos (by omega)).trans (if_pos (by omega))).symm | exact ((if_pos (by omega)).trans ((if_neg (by omega)).trans (if_pos (by omega)))).symm | exact ((if_pos (by omega)).trans ((if_neg (by omega)).trans (if_neg (by omega)))).symm | exact ((if_neg (by omega)).trans (if_pos (by omega))).symm | exact (((if_neg (by omega)).trans ((if_neg (by omega)).trans (if_pos (by omega)))).trans (by omega)).symm | exact (((if_neg (by omega)).trans ((if_neg (by omega)).trans (if_neg (by omega)))).trans (by omega)).symm | (exfalso; omega)
                                  exact v_iret rfl (by decide) (by decide) ⟨by decide, by decide⟩ dX9_form_284 ⟨rfl, eV, yJ, bJ⟩
                              · refine v_iconst dX9_form_257 ?_
                                refine v_goto dX9_form_258 ?_
                                refine v_istore dX9_form_262 (by decide) rfl ?_
                                refine v_iload dX9_form_264 rfl ?_
                                refine v_if_ne ⟨by omega, by omega⟩ dX9_form_266 (fun h25 => ?_) (fun h25 => ?_)
                                · refine v_iload dX9_form_273 rfl ?_
                                  refine v_if_eq ⟨by decide, by decide⟩ dX9_form_275 (fun h => by exfalso; omega) (fun hb275 => ?_)
                                  refine v_iconst dX9_form_278 ?_
                                  refine v_goto dX9_form_279 ?_
                                  have eV : 1 = xForm s (i : Int) (p : Int) := by
                                    rw [eX, formX_o hTB hb, formO_eq hpp hc]
                                    first | exact ((if_pos (by omega)).trans (if_pos (by omega))).symm | exact ((if_pos (by omega)).trans ((if_neg (by omega)).trans (if_pos (by omega)))).symm | exact ((if_pos (by omega)).trans ((if_neg (by omega)).trans (if_neg (by omega)))).symm | exact ((if_neg (by omega)).trans (if_pos (by omega))).symm | exact (((if_neg (by omega)).trans ((if_neg (by omega)).trans (if_pos (by omega)))).trans (by omega)).symm | exact (((if_neg (by omega)).trans ((if_neg (by omega)).trans (if_neg (by omega)))).trans (by omega)).symm | (exfalso; omega)
                                  exact v_iret rfl (by decide) (by decide) ⟨by decide, by decide⟩ dX9_form_284 ⟨rfl, eV, yJ, bJ⟩
                                · refine v_iconst dX9_form_269 ?_
                                  refine v_goto dX9_form_270 ?_
                                  have eV : 0 = xForm s (i : Int) (p : Int) := by
                                    rw [eX, formX_o hTB hb, formO_eq hpp hc]
                                    first | exact ((if_pos (by omega)).trans (if_pos (by omega))).symm | exact ((if_pos (by omega)).trans ((if_neg (by omega)).trans (if_pos (by omega)))).symm | exact ((if_pos (by omega)).trans ((if_neg (by omega)).trans (if_neg (by omega)))).symm | exact ((if_neg (by omega)).trans (if_pos (by omega))).symm | exact (((if_neg (by omega)).trans ((if_neg (by omega)).trans (if_pos (by omega)))).trans (by omega)).symm | exact (((if_neg (by omega)).trans ((if_neg (by omega)).trans (if_neg (by omega)))).trans (by omega)).symm | (exfalso; omega)
                                  exact v_iret rfl (by decide) (by decide) ⟨by decide, by decide⟩ dX9_form_284 ⟨rfl, eV, yJ, bJ⟩
                    · refine v_iload dX9_form_155 rfl ?_
                      refine v_iload dX9_form_157 rfl ?_
                      refine v_icmp_ge ⟨by omega, by omega⟩ ⟨by omega, by omega⟩ dX9_form_159 (fun h1 => ?_) (fun h1 => ?_)
                      · refine v_aload_n dX9_form_204 rfl ?_
                        refine v_getR fX9_78 rfl hTy (hYr 21 _ rfl).2 dX9_form_205 ?_
                        refine v_iload dX9_form_208 rfl ?_
                        refine v_iald' (i := f) (v := ((xκ s i).1 p).1) ((oo _ _ (by omega) (by omega)).trans hF1) (show G.1 (y + 22) = (10, 240) from (hYr 21 _ rfl).1) rfl (by omega) (by omega) dX9_form_210 ?_
                        refine v_istore dX9_form_211 (by decide) rfl ?_
                        refine v_iload dX9_form_213 rfl ?_
                        refine v_if_ne ⟨by decide, by decide⟩ dX9_form_215 (fun h => by exfalso; omega) (fun hb215 => ?_)
                        refine v_bipush dX9_form_218 (by decide) ?_
                        exact v_iret rfl (by decide) (by decide) ⟨by decide, by decide⟩ dX9_form_220 ⟨rfl, (eX.trans (formX_8 hTB hb)).symm, yJ, bJ⟩
                      · refine v_iload dX9_form_162 rfl ?_
                        refine v_iload dX9_form_164 rfl ?_
                        refine v_icmp_ge ⟨by omega, by omega⟩ ⟨by omega, by omega⟩ dX9_form_166 (fun hb166 => ?_) (fun h => by exfalso; omega)
                        refine v_aload_n dX9_form_204 rfl ?_
                        refine v_getR fX9_78 rfl hTy (hYr 21 _ rfl).2 dX9_form_205 ?_
                        refine v_iload dX9_form_208 rfl ?_
                        refine v_iald' (i := f) (v := ((xκ s i).1 p).1) ((oo _ _ (by omega) (by omega)).trans hF1) (show G.1 (y + 22) = (10, 240) from (hYr 21 _ rfl).1) rfl (by omega) (by omega) dX9_form_210 ?_
                        refine v_istore dX9_form_211 (by decide) rfl ?_
                        refine v_iload dX9_form_213 rfl ?_
                        refine v_if_ne ⟨by decide, by decide⟩ dX9_form_215 (fun h => by exfalso; omega) (fun hb215 => ?_)
                        refine v_bipush dX9_form_218 (by decide) ?_
                        exact v_iret rfl (by decide) (by decide) ⟨by decide, by decide⟩ dX9_form_220 ⟨rfl, (eX.trans (formX_8 hTB hb)).symm, yJ, bJ⟩
                  | succ mm ih2 =>
                    intro q b hq hb
                    have hb01 := hb.r
                    refine v_iload dX9_form_155 rfl ?_
                    refine v_iload dX9_form_157 rfl ?_
                    refine v_icmp_ge ⟨by omega, by omega⟩ ⟨by omega, by omega⟩ dX9_form_159 (fun h => by exfalso; omega) (fun hb159 => ?_)
                    refine v_iload dX9_form_162 rfl ?_
                    refine v_iload dX9_form_164 rfl ?_
                    refine v_icmp_ge ⟨by omega, by omega⟩ ⟨by omega, by omega⟩ dX9_form_166 (fun h => by exfalso; omega) (fun hb166 => ?_)
                    refine v_iload dX9_form_169 rfl ?_
                    refine v_if_eq ⟨by omega, by omega⟩ dX9_form_171 (fun h1 => ?_) (fun h1 => ?_)
                    · refine v_iconst dX9_form_195 ?_
                      refine v_istore dX9_form_196 (by decide) rfl ?_
                      refine v_iinc dX9_form_198 rfl (by decide) rfl rfl ?_
                      refine v_goto dX9_form_201 ?_
                      exact ih2 (q + 1) 0 (by omega) (hb.non (Or.inl h1))
                    · refine v_aload_n dX9_form_174 rfl ?_
                      refine v_getR fX9_93 rfl hTy (hYr 26 _ rfl).2 dX9_form_175 ?_
                      refine v_iload dX9_form_178 rfl ?_
                      refine v_iald' (i := q) (v := (wr0 (oldL (xπ s i) (xκ s i) p)).2.2 q) (hA q (by omega)) (show G.1 (y + 27) = (10, 8) from (hYr 26 _ rfl).1) rfl (by omega) (by omega) dX9_form_180 ?_
                      refine v_aload_n dX9_form_181 rfl ?_
                      refine v_getR fX9_96 rfl hTy (hYr 27 _ rfl).2 dX9_form_182 ?_
                      refine v_iload dX9_form_185 rfl ?_
                      refine v_iald' (i := q) (v := (wr0 ((xκ s i).1 p).2.1).2.2 q) (xJ4 q (by omega)) (show G.1 (y + 28) = (10, 8) from (hYr 27 _ rfl).1) rfl (by omega) (by omega) dX9_form_187 ?_
                      refine v_icmp_ne (by rw [← hA q (by omega)]; exact rng5 _ _) (by rw [← xJ4 q (by omega)]; exact rng5 _ _) dX9_form_188 (fun h2 => ?_) (fun h2 => ?_)
                      · refine v_iconst dX9_form_195 ?_
                        refine v_istore dX9_form_196 (by decide) rfl ?_
                        refine v_iinc dX9_form_198 rfl (by decide) rfl rfl ?_
                        refine v_goto dX9_form_201 ?_
                        exact ih2 (q + 1) 0 (by omega) (hb.non (Or.inr h2))
                      · refine v_iconst dX9_form_191 ?_
                        refine v_goto dX9_form_192 ?_
                        refine v_istore dX9_form_196 (by decide) rfl ?_
                        refine v_iinc dX9_form_198 rfl (by decide) rfl rfl ?_
                        refine v_goto dX9_form_201 ?_
                        exact ih2 (q + 1) 1 (by omega) (hb.one h1 h2)
                exact loop2 _ 0 1 (Nat.zero_add _) (Or.inl ⟨rfl, fun k hk => absurd hk (by omega)⟩)
            | succ m ih =>
              intro j z o5 o6 o7 o8 o9 hj hzb
              have hzr : inR z := by rcases before_cs (π := (xπ s i)) (κ := (xκ s i)) j with h9 | ⟨b0, h9⟩; exact ⟨by omega, by omega⟩; have h8 := before_told j b0 h9; exact ⟨by omega, by omega⟩
              refine v_iload dX9_form_49 rfl ?_
              refine v_iload_n dX9_form_51 rfl ?_
              refine v_icmp_ge ⟨by omega, by omega⟩ ⟨by omega, by omega⟩ dX9_form_52 (fun h => by exfalso; omega) (fun hb52 => ?_)
              refine v_aload_n dX9_form_55 rfl ?_
              refine v_iload_n dX9_form_56 rfl ?_
              refine v_iload dX9_form_57 rfl ?_
              refine v_Vb (tX9_isTold (⟨hTy, hYr⟩ : isY G y) hi6 hmM0 hK hgt9 (t := j) (by omega)) kX9_241 hTy rfl rfl ⟨by decide, by decide⟩ ⟨by decide, by decide⟩ (Nat.le_of_ble_eq_true rfl) dX9_form_59 (fun h1 => ?_) (fun h1 => ?_)
              · refine v_if_eq ⟨by decide, by decide⟩ dX9_form_62 (fun h => by exfalso; omega) (fun hb62 => ?_)
                refine v_iload dX9_form_65 rfl ?_
                refine v_goto dX9_form_67 ?_
                refine v_istore_n dX9_form_71 (by decide) rfl ?_
                refine v_iinc dX9_form_72 rfl (by decide) rfl rfl ?_
                refine v_goto dX9_form_75 ?_
                exact ih (j + 1) (j : Int) _ _ _ _ _ (by omega) (by rw [before_s, if_pos h1])
              · refine v_if_eq ⟨by decide, by decide⟩ dX9_form_62 (fun hb62 => ?_) (fun h => by exfalso; omega)
                refine v_iload_n dX9_form_70 rfl ?_
                refine v_istore_n dX9_form_71 (by decide) rfl ?_
                refine v_iinc dX9_form_72 rfl (by decide) rfl rfl ?_
                refine v_goto dX9_form_75 ?_
                exact ih (j + 1) z _ _ _ _ _ (by omega) (by rw [before_s, if_neg h1]; exact hzb)
          exact loop p 0 (-1) _ _ _ _ _ (by omega) rfl
        · refine v_if_ne ⟨by decide, by decide⟩ dX9_form_39 (fun h => by exfalso; omega) (fun hb39 => ?_)
          refine v_iconst dX9_form_42 ?_
          exact v_iret rfl (by decide) (by decide) ⟨by decide, by decide⟩ dX9_form_43 ⟨rfl, (eX.trans (formX_no h4)).symm, hy0, fun _ _ _ => rfl⟩
      · refine v_bipush dX9_form_30 (by decide) ?_
        exact v_iret rfl (by decide) (by decide) ⟨by decide, by decide⟩ dX9_form_32 ⟨rfl, (form_no hf (by omega)).symm, hy0, fun _ _ _ => rfl⟩
  · refine v_aload_n dX9_form_0 rfl ?_
    refine v_iload_n dX9_form_1 rfl ?_
    refine v_iload_n dX9_form_2 rfl ?_
    refine v_Vb (tX9_isPlace (⟨hTy, hYr⟩ : isY G y) hy0 hm hp0) kX9_238 hTy rfl rfl ⟨by decide, by decide⟩ ⟨by decide, by decide⟩ (Nat.le_of_ble_eq_true rfl) dX9_form_3 (fun h1 => by exact absurd h1 hf) (fun h1 => ?_)
    refine v_if_ne ⟨by decide, by decide⟩ dX9_form_6 (fun h => by exfalso; omega) (fun hb6 => ?_)
    refine v_bipush dX9_form_9 (by decide) ?_
    exact v_iret rfl (by decide) (by decide) ⟨by decide, by decide⟩ dX9_form_11 ⟨rfl, (show xForm s m0 p0 = -2 from if_pos hf).symm, hy0, fun _ _ _ => rfl⟩
