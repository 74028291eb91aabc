/-! ===== frames ===== -/
/-- height (-1: none), locals, pile -/
abbrev fS : Type := Int × (Nat → Int) × (Nat → Int)
def isF (G : w_Sh) (f : Nat) : Prop := G.1 f = (2, 0) ∧ G.2.1 f 0 = some (f + 1) ∧ G.2.1 f 1 = some (f + 2) ∧ G.1 (f + 1) = (10, 8) ∧ G.1 (f + 2) = (10, 8)
def frOK (I : w_Mm) (f : Nat) (φ : fS) : Prop := I f 2 = φ.1 ∧ (∀ k, k < 8 → I (f + 1) k = φ.2.1 k) ∧ (∀ k, k < 8 → I (f + 2) k = φ.2.2 k) ∧ -1 ≤ φ.1 ∧ φ.1 ≤ 8
/-- nothing but the frame at f has changed -/
def offF (I J : w_Mm) (f : Nat) : Prop := ∀ a k, a ≠ f → a ≠ f + 1 → a ≠ f + 2 → J a k = I a k
theorem offF.rf {I : w_Mm} {f : Nat} : offF I I f := fun _ _ _ _ _ => rfl
theorem offF.tr {I J K : w_Mm} {f : Nat} (h : offF I J f) (g : offF J K f) : offF I K f := fun a k h1 h2 h3 => (g a k h1 h2 h3).trans (h a k h1 h2 h3)
abbrev fApart (f h : Nat) : Prop := f + 3 ≤ h ∨ h + 3 ≤ f
theorem frOK.off {I J : w_Mm} {f h : Nat} {φ : fS} (hφ : frOK I h φ) (ha : fApart f h) (ho : offF I J f) : frOK J h φ :=
  ⟨(ho h 2 (by omega) (by omega) (by omega)).trans hφ.1, fun k hk => (ho _ k (by omega) (by omega) (by omega)).trans (hφ.2.1 k hk), fun k hk => (ho _ k (by omega) (by omega) (by omega)).trans (hφ.2.2.1 k hk), hφ.2.2.2⟩
def uL (L : Nat → Int) (i : Nat) (z : Int) : Nat → Int := fun k => if k = i then z else L k
abbrev lngAt (L : Nat → Int) (i : Int) : Prop := 0 ≤ i ∧ i + 1 < 8 ∧ L i.toNat = 2 ∧ L (i + 1).toNat = 3
abbrev lngTop (φ : fS) : Prop := 1 < φ.1 ∧ φ.2.2 (φ.1 - 1).toNat = 3 ∧ φ.2.2 (φ.1 - 2).toNat = 2
def brkL (L : Nat → Int) (i : Int) : Nat → Int := if lngAt L i then uL L (i + 1).toNat 0 else if lngAt L (i - 1) then uL L (i - 1).toNat 0 else L
abbrev hasU (φ : fS) : Prop := (∃ k, k < 8 ∧ 100 ≤ φ.2.1 k) ∨ ∃ k : Nat, (k : Int) < φ.1 ∧ 100 ≤ φ.2.2 k
def replF (φ : fS) (old new : Int) : fS := (φ.1, (fun k => if φ.2.1 k = old then new else φ.2.1 k), fun k => if (k : Int) < φ.1 ∧ φ.2.2 k = old then new else φ.2.2 k)
def raisF (φ : fS) (P : Nat → Int) (kind : Int) : fS := (1, (fun k => if 100 ≤ φ.2.1 k then 0 else φ.2.1 k), uL P 0 kind)
theorem tX2_isThere {E : w_E} {G : w_Sh} {I : w_Mm} {f : Nat} {φ : fS} (hF : isF G f) (hφ : frOK I f φ) : w_Cb E mX2_isThere 0 [.ref f] G I (0 ≤ φ.1) := by
  obtain ⟨hT0, hR0, hR1, hT1, hT2⟩ := hF
  obtain ⟨hd, hL, hP, hd1, hd8⟩ := hφ
  refine w_Ct.of (ls := [some (.ref f)]) (by decide +kernel) (Nat.le_of_ble_eq_true rfl) rfl rfl (fun rng => ?_)
  refine v_aload_n dX2_isThere_0 rfl ?_
  refine v_getI' (v := φ.1) hd fX2_18 rfl (by assumption) dX2_isThere_1 ?_
  refine v_if_lt ⟨by omega, by omega⟩ dX2_isThere_4 (fun h1 => ?_) (fun h1 => ?_)
  · refine v_iconst dX2_isThere_11 ?_
    exact v_zret rfl (by decide) (by decide) (Or.inl rfl) dX2_isThere_12 ⟨rfl, rfl, Or.inr ⟨rfl, by omega⟩⟩
  · refine v_iconst dX2_isThere_7 ?_
    refine v_goto dX2_isThere_8 ?_
    exact v_zret rfl (by decide) (by decide) (Or.inr rfl) dX2_isThere_12 ⟨rfl, rfl, Or.inl ⟨rfl, by omega⟩⟩
theorem tX2_top {E : w_E} {G : w_Sh} {I : w_Mm} {f : Nat} {φ : fS} (hF : isF G f) (hφ : frOK I f φ) : w_Cm E mX2_top 0 [.ref f] G I (if 0 < φ.1 then φ.2.2 (φ.1 - 1).toNat else 0) I := by
  obtain ⟨hT0, hR0, hR1, hT1, hT2⟩ := hF
  obtain ⟨hd, hL, hP, hd1, hd8⟩ := hφ
  refine w_Ct.of (ls := [some (.ref f)]) (by decide +kernel) (Nat.le_of_ble_eq_true rfl) rfl rfl (fun rng => ?_)
  refine v_aload_n dX2_top_0 rfl ?_
  refine v_getI' (v := φ.1) hd fX2_18 rfl (by assumption) dX2_top_1 ?_
  refine v_if_le ⟨by omega, by omega⟩ dX2_top_4 (fun h1 => ?_) (fun h1 => ?_)
  · refine v_iconst dX2_top_21 ?_
    exact v_iret rfl (by decide) (by decide) ⟨by decide, by decide⟩ dX2_top_22 ⟨(by first | rw [if_pos (by omega)] | rw [if_neg (by omega)]), rfl, rfl⟩
  · refine v_aload_n dX2_top_7 rfl ?_
    refine v_getR fX2_15 rfl (by assumption) (by assumption) dX2_top_8 ?_
    refine v_aload_n dX2_top_11 rfl ?_
    refine v_getI' (v := φ.1) hd fX2_18 rfl (by assumption) dX2_top_12 ?_
    refine v_iconst dX2_top_15 ?_
    refine v_isub dX2_top_16 ?_
    refine v_iald' (i := ((φ.1 - 1)).toNat) (v := φ.2.2 (((φ.1 - 1)).toNat)) (hP (((φ.1 - 1)).toNat) (by omega)) (by assumption) (by omega) (by omega) (by omega) dX2_top_17 ?_
    refine v_goto dX2_top_18 ?_
    exact v_iret rfl (by decide) (by decide) (by rw [← hP (((φ.1 - 1)).toNat) (by omega)]; exact rng _ _) dX2_top_22 ⟨(by first | rw [if_pos (by omega)] | rw [if_neg (by omega)]), rfl, rfl⟩
theorem tX2_hasLongOnTop {E : w_E} {G : w_Sh} {I : w_Mm} {f : Nat} {φ : fS} (hF : isF G f) (hφ : frOK I f φ) : w_Cb E mX2_hasLongOnTop 0 [.ref f] G I (lngTop φ) := by
  obtain ⟨hT0, hR0, hR1, hT1, hT2⟩ := hF
  obtain ⟨hd, hL, hP, hd1, hd8⟩ := hφ
  refine w_Ct.of (ls := [some (.ref f)]) (by decide +kernel) (Nat.le_of_ble_eq_true rfl) rfl rfl (fun rng => ?_)
  refine v_aload_n dX2_hasLongOnTop_0 rfl ?_
  refine v_getI' (v := φ.1) hd fX2_18 rfl (by assumption) dX2_hasLongOnTop_1 ?_
  refine v_iconst dX2_hasLongOnTop_4 ?_
  refine v_icmp_le ⟨by omega, by omega⟩ ⟨by decide, by decide⟩ dX2_hasLongOnTop_5 (fun h1 => ?_) (fun h1 => ?_)
  · refine v_iconst dX2_hasLongOnTop_42 ?_
    exact v_zret rfl (by decide) (by decide) (Or.inl rfl) dX2_hasLongOnTop_43 ⟨rfl, rfl, Or.inr ⟨rfl, by omega⟩⟩
  · refine v_aload_n dX2_hasLongOnTop_8 rfl ?_
    refine v_getR fX2_15 rfl (by assumption) (by assumption) dX2_hasLongOnTop_9 ?_
    refine v_aload_n dX2_hasLongOnTop_12 rfl ?_
    refine v_getI' (v := φ.1) hd fX2_18 rfl (by assumption) dX2_hasLongOnTop_13 ?_
    refine v_iconst dX2_hasLongOnTop_16 ?_
    refine v_isub dX2_hasLongOnTop_17 ?_
    refine v_iald' (i := ((φ.1 - 1)).toNat) (v := φ.2.2 (((φ.1 - 1)).toNat)) (hP (((φ.1 - 1)).toNat) (by omega)) (by assumption) (by omega) (by omega) (by omega) dX2_hasLongOnTop_18 ?_
    refine v_iconst dX2_hasLongOnTop_19 ?_
    refine v_icmp_ne (by rw [← hP (((φ.1 - 1)).toNat) (by omega)]; exact rng _ _) ⟨by decide, by decide⟩ dX2_hasLongOnTop_20 (fun h2 => ?_) (fun h2 => ?_)
    · refine v_iconst dX2_hasLongOnTop_42 ?_
      exact v_zret rfl (by decide) (by decide) (Or.inl rfl) dX2_hasLongOnTop_43 ⟨rfl, rfl, Or.inr ⟨rfl, by omega⟩⟩
    · refine v_aload_n dX2_hasLongOnTop_23 rfl ?_
      refine v_getR fX2_15 rfl (by assumption) (by assumption) dX2_hasLongOnTop_24 ?_
      refine v_aload_n dX2_hasLongOnTop_27 rfl ?_
      refine v_getI' (v := φ.1) hd fX2_18 rfl (by assumption) dX2_hasLongOnTop_28 ?_
      refine v_iconst dX2_hasLongOnTop_31 ?_
      refine v_isub dX2_hasLongOnTop_32 ?_
      refine v_iald' (i := ((φ.1 - 2)).toNat) (v := φ.2.2 (((φ.1 - 2)).toNat)) (hP (((φ.1 - 2)).toNat) (by omega)) (by assumption) (by omega) (by omega) (by omega) dX2_hasLongOnTop_33 ?_
      refine v_iconst dX2_hasLongOnTop_34 ?_
      refine v_icmp_ne (by rw [← hP (((φ.1 - 2)).toNat) (by omega)]; exact rng _ _) ⟨by decide, by decide⟩ dX2_hasLongOnTop_35 (fun h3 => ?_) (fun h3 => ?_)
      · refine v_iconst dX2_hasLongOnTop_42 ?_
        exact v_zret rfl (by decide) (by decide) (Or.inl rfl) dX2_hasLongOnTop_43 ⟨rfl, rfl, Or.inr ⟨rfl, by omega⟩⟩
      · refine v_iconst dX2_hasLongOnTop_38 ?_
        refine v_goto dX2_hasLongOnTop_39 ?_
        exact v_zret rfl (by decide) (by decide) (Or.inr rfl) dX2_hasLongOnTop_43 ⟨rfl, rfl, Or.inl ⟨rfl, by omega⟩⟩
theorem tX2_hasLongAt {E : w_E} {G : w_Sh} {I : w_Mm} {f : Nat} {φ : fS} (hF : isF G f) (hφ : frOK I f φ) {i : Int} (hi : inR i) (hi8 : -8 ≤ i ∧ i ≤ 8) : w_Cb E mX2_hasLongAt 0 [.ref f, iv i] G I (lngAt φ.2.1 i) := by
  obtain ⟨hT0, hR0, hR1, hT1, hT2⟩ := hF
  obtain ⟨hd, hL, hP, hd1, hd8⟩ := hφ
  refine w_Ct.of (ls := [some (.ref f), some (iv i)]) (by decide +kernel) (Nat.le_of_ble_eq_true rfl) rfl rfl (fun rng => ?_)
  refine v_iload_n dX2_hasLongAt_0 rfl ?_
  refine v_if_lt hi dX2_hasLongAt_1 (fun h1 => ?_) (fun h1 => ?_)
  · refine v_iconst dX2_hasLongAt_38 ?_
    exact v_zret rfl (by decide) (by decide) (Or.inl rfl) dX2_hasLongAt_39 ⟨rfl, rfl, Or.inr ⟨rfl, by omega⟩⟩
  · refine v_iload_n dX2_hasLongAt_4 rfl ?_
    refine v_iconst dX2_hasLongAt_5 ?_
    refine v_iadd dX2_hasLongAt_6 ?_
    refine v_bipush dX2_hasLongAt_7 (by decide) ?_
    refine v_icmp_ge ⟨by omega, by omega⟩ ⟨by decide, by decide⟩ dX2_hasLongAt_9 (fun h2 => ?_) (fun h2 => ?_)
    · refine v_iconst dX2_hasLongAt_38 ?_
      exact v_zret rfl (by decide) (by decide) (Or.inl rfl) dX2_hasLongAt_39 ⟨rfl, rfl, Or.inr ⟨rfl, by omega⟩⟩
    · refine v_aload_n dX2_hasLongAt_12 rfl ?_
      refine v_getR fX2_9 rfl (by assumption) (by assumption) dX2_hasLongAt_13 ?_
      refine v_iload_n dX2_hasLongAt_16 rfl ?_
      refine v_iald' (i := (i).toNat) (v := φ.2.1 ((i).toNat)) (hL ((i).toNat) (by omega)) (by assumption) (by omega) (by omega) (by omega) dX2_hasLongAt_17 ?_
      refine v_iconst dX2_hasLongAt_18 ?_
      refine v_icmp_ne (by rw [← hL ((i).toNat) (by omega)]; exact rng _ _) ⟨by decide, by decide⟩ dX2_hasLongAt_19 (fun h3 => ?_) (fun h3 => ?_)
      · refine v_iconst dX2_hasLongAt_38 ?_
        exact v_zret rfl (by decide) (by decide) (Or.inl rfl) dX2_hasLongAt_39 ⟨rfl, rfl, Or.inr ⟨rfl, by omega⟩⟩
      · refine v_aload_n dX2_hasLongAt_22 rfl ?_
        refine v_getR fX2_9 rfl (by assumption) (by assumption) dX2_hasLongAt_23 ?_
        refine v_iload_n dX2_hasLongAt_26 rfl ?_
        refine v_iconst dX2_hasLongAt_27 ?_
        refine v_iadd dX2_hasLongAt_28 ?_
        refine v_iald' (i := ((i + 1)).toNat) (v := φ.2.1 (((i + 1)).toNat)) (hL (((i + 1)).toNat) (by omega)) (by assumption) (by omega) (by omega) (by omega) dX2_hasLongAt_29 ?_
        refine v_iconst dX2_hasLongAt_30 ?_
        refine v_icmp_ne (by rw [← hL (((i + 1)).toNat) (by omega)]; exact rng _ _) ⟨by decide, by decide⟩ dX2_hasLongAt_31 (fun h4 => ?_) (fun h4 => ?_)
        · refine v_iconst dX2_hasLongAt_38 ?_
          exact v_zret rfl (by decide) (by decide) (Or.inl rfl) dX2_hasLongAt_39 ⟨rfl, rfl, Or.inr ⟨rfl, by omega⟩⟩
        · refine v_iconst dX2_hasLongAt_34 ?_
          refine v_goto dX2_hasLongAt_35 ?_
          exact v_zret rfl (by decide) (by decide) (Or.inr rfl) dX2_hasLongAt_39 ⟨rfl, rfl, Or.inl ⟨rfl, by omega⟩⟩
theorem tX2_slot {E : w_E} {G : w_Sh} {I : w_Mm} {f : Nat} {φ : fS} (hF : isF G f) (hφ : frOK I f φ) {i : Int} (hi : inR i) : w_Cm E mX2_slot 1 [.ref f, iv i] G I (if φ.1 < 0 ∨ i < 0 ∨ 8 + φ.1 ≤ i then -1 else if i < 8 then φ.2.1 i.toNat else φ.2.2 (i - 8).toNat) I := by
  have hF0 := hF
  have hφ0 := hφ
  obtain ⟨hT0, hR0, hR1, hT1, hT2⟩ := hF
  obtain ⟨hd, hL, hP, hd1, hd8⟩ := hφ
  refine w_Ct.of (ls := [some (.ref f), some (iv i)]) (by decide +kernel) (Nat.le_of_ble_eq_true rfl) rfl rfl (fun rng => ?_)
  refine v_aload_n dX2_slot_0 rfl ?_
  refine v_Vb (tX2_isThere hF0 hφ0) kX2_34 (by assumption) rfl rfl ⟨by decide, by decide⟩ ⟨by decide, by decide⟩ (Nat.le_of_ble_eq_true rfl) dX2_slot_1 (fun h1 => ?_) (fun h1 => ?_)
  · refine v_if_eq ⟨by decide, by decide⟩ dX2_slot_4 (fun h => by exfalso; omega) (fun hb4 => ?_)
    refine v_iload_n dX2_slot_7 rfl ?_
    refine v_if_lt hi dX2_slot_8 (fun h2 => ?_) (fun h2 => ?_)
    · refine v_iconst dX2_slot_22 ?_
      exact v_iret rfl (by decide) (by decide) ⟨by decide, by decide⟩ dX2_slot_23 ⟨(by first | rw [if_pos (by omega)] | rw [if_neg (by omega), if_pos (by omega)] | rw [if_neg (by omega), if_neg (by omega)]), rfl, rfl⟩
    · refine v_iload_n dX2_slot_11 rfl ?_
      refine v_bipush dX2_slot_12 (by decide) ?_
      refine v_aload_n dX2_slot_14 rfl ?_
      refine v_getI' (v := φ.1) hd fX2_18 rfl (by assumption) dX2_slot_15 ?_
      refine v_iadd dX2_slot_18 ?_
      refine v_icmp_lt hi ⟨by omega, by omega⟩ dX2_slot_19 (fun h3 => ?_) (fun h3 => ?_)
      · refine v_iload_n dX2_slot_24 rfl ?_
        refine v_bipush dX2_slot_25 (by decide) ?_
        refine v_icmp_ge hi ⟨by decide, by decide⟩ dX2_slot_27 (fun h4 => ?_) (fun h4 => ?_)
        · refine v_aload_n dX2_slot_39 rfl ?_
          refine v_getR fX2_15 rfl (by assumption) (by assumption) dX2_slot_40 ?_
          refine v_iload_n dX2_slot_43 rfl ?_
          refine v_bipush dX2_slot_44 (by decide) ?_
          refine v_isub dX2_slot_46 ?_
          refine v_iald' (i := ((i - 8)).toNat) (v := φ.2.2 (((i - 8)).toNat)) (hP (((i - 8)).toNat) (by omega)) (by assumption) (by omega) (by omega) (by omega) dX2_slot_47 ?_
          exact v_iret rfl (by decide) (by decide) (by rw [← hP (((i - 8)).toNat) (by omega)]; exact rng _ _) dX2_slot_48 ⟨(by first | rw [if_pos (by omega)] | rw [if_neg (by omega), if_pos (by omega)] | rw [if_neg (by omega), if_neg (by omega)]), rfl, rfl⟩
        · refine v_aload_n dX2_slot_30 rfl ?_
          refine v_getR fX2_9 rfl (by assumption) (by assumption) dX2_slot_31 ?_
          refine v_iload_n dX2_slot_34 rfl ?_
          refine v_iald' (i := (i).toNat) (v := φ.2.1 ((i).toNat)) (hL ((i).toNat) (by omega)) (by assumption) (by omega) (by omega) (by omega) dX2_slot_35 ?_
          refine v_goto dX2_slot_36 ?_
          exact v_iret rfl (by decide) (by decide) (by rw [← hL ((i).toNat) (by omega)]; exact rng _ _) dX2_slot_48 ⟨(by first | rw [if_pos (by omega)] | rw [if_neg (by omega), if_pos (by omega)] | rw [if_neg (by omega), if_neg (by omega)]), rfl, rfl⟩
      · refine v_iconst dX2_slot_22 ?_
        exact v_iret rfl (by decide) (by decide) ⟨by decide, by decide⟩ dX2_slot_23 ⟨(by first | rw [if_pos (by omega)] | rw [if_neg (by omega), if_pos (by omega)] | rw [if_neg (by omega), if_neg (by omega)]), rfl, rfl⟩
  · refine v_if_eq ⟨by decide, by decide⟩ dX2_slot_4 (fun hb4 => ?_) (fun h => by exfalso; omega)
    refine v_iconst dX2_slot_22 ?_
    exact v_iret rfl (by decide) (by decide) ⟨by decide, by decide⟩ dX2_slot_23 ⟨(by first | rw [if_pos (by omega)] | rw [if_neg (by omega), if_pos (by omega)] | rw [if_neg (by omega), if_neg (by omega)]), rfl, rfl⟩
theorem frOK_L {I : w_Mm} {f i : Nat} {φ : fS} {z : Int} {L : Nat → Int} (hφ : frOK I f φ) (hi : i < 8) (hL : L = uL φ.2.1 i z) : frOK (w_up I (f + 1) i z) f (φ.1, L, φ.2.2) ∧ offF I (w_up I (f + 1) i z) f := by
  subst hL
  refine ⟨⟨(w_up_n (by omega)).trans hφ.1, fun k hk => ?_, fun k hk => (w_up_n (by omega)).trans (hφ.2.2.1 k hk), hφ.2.2.2⟩, fun a k h1 h2 h3 => w_up_n (by omega)⟩
  by_cases e : k = i
  · subst e
    rw [w_up_s]
    simp [uL]
  · rw [w_up_n (by omega), hφ.2.1 k hk]
    simp [uL, e]
theorem tX2_breakLong {E : w_E} {G : w_Sh} {I : w_Mm} {f : Nat} {φ : fS} (hF : isF G f) (hφ : frOK I f φ) {i : Int} (hi : inR i) (hi8 : -7 ≤ i ∧ i ≤ 7) : w_Ct E mX2_breakLong 1 [.ref f, iv i] G I 0 0 (w_Pv (fun G' J => G' = G ∧ frOK J f (φ.1, brkL φ.2.1 i, φ.2.2) ∧ offF I J f)) := by
  have hF0 := hF
  have hφ0 := hφ
  obtain ⟨hT0, hR0, hR1, hT1, hT2⟩ := hF
  obtain ⟨hd, hL, hP, hd1, hd8⟩ := hφ
  refine w_Ct.of (ls := [some (.ref f), some (iv i)]) (by decide +kernel) (Nat.le_of_ble_eq_true rfl) rfl rfl (fun rng => ?_)
  refine v_aload_n dX2_breakLong_0 rfl ?_
  refine v_iload_n dX2_breakLong_1 rfl ?_
  refine v_Vb (tX2_hasLongAt hF0 hφ0 hi (by omega)) kX2_38 (by assumption) rfl rfl ⟨by decide, by decide⟩ ⟨by decide, by decide⟩ (Nat.le_of_ble_eq_true rfl) dX2_breakLong_2 (fun h1 => ?_) (fun h1 => ?_)
  · refine v_if_eq ⟨by decide, by decide⟩ dX2_breakLong_5 (fun h => by exfalso; omega) (fun hb5 => ?_)
    refine v_aload_n dX2_breakLong_8 rfl ?_
    refine v_getR fX2_9 rfl (by assumption) (by assumption) dX2_breakLong_9 ?_
    refine v_iload_n dX2_breakLong_12 rfl ?_
    refine v_iconst dX2_breakLong_13 ?_
    refine v_iadd dX2_breakLong_14 ?_
    refine v_iconst dX2_breakLong_15 ?_
    refine v_iast (i := ((i + 1)).toNat) (by assumption) (by omega) (by omega) (by omega) ⟨by decide, by decide⟩ dX2_breakLong_16 ?_
    have rng2 := w_rng (a := f + 1) (f := ((i + 1)).toNat) rng (show inR (0) from ⟨by decide, by decide⟩)
    refine v_goto dX2_breakLong_17 ?_
    refine v_vret rfl (by decide) (by decide) dX2_breakLong_39 ⟨rfl, ?_⟩
    exact frOK_L hφ0 (by omega) (by unfold brkL; first | rw [if_pos (by assumption)] | rw [if_neg (by assumption), if_pos (by assumption)])
  · refine v_if_eq ⟨by decide, by decide⟩ dX2_breakLong_5 (fun hb5 => ?_) (fun h => by exfalso; omega)
    refine v_aload_n dX2_breakLong_20 rfl ?_
    refine v_iload_n dX2_breakLong_21 rfl ?_
    refine v_iconst dX2_breakLong_22 ?_
    refine v_isub dX2_breakLong_23 ?_
    refine v_Vb (tX2_hasLongAt hF0 hφ0 ⟨by omega, by omega⟩ (by omega)) kX2_38 (by assumption) rfl rfl ⟨by decide, by decide⟩ ⟨by decide, by decide⟩ (Nat.le_of_ble_eq_true rfl) dX2_breakLong_24 (fun h3 => ?_) (fun h3 => ?_)
    · refine v_if_eq ⟨by decide, by decide⟩ dX2_breakLong_27 (fun h => by exfalso; omega) (fun hb27 => ?_)
      refine v_aload_n dX2_breakLong_30 rfl ?_
      refine v_getR fX2_9 rfl (by assumption) (by assumption) dX2_breakLong_31 ?_
      refine v_iload_n dX2_breakLong_34 rfl ?_
      refine v_iconst dX2_breakLong_35 ?_
      refine v_isub dX2_breakLong_36 ?_
      refine v_iconst dX2_breakLong_37 ?_
      refine v_iast (i := ((i - 1)).toNat) (by assumption) (by omega) (by omega) (by omega) ⟨by decide, by decide⟩ dX2_breakLong_38 ?_
      have rng4 := w_rng (a := f + 1) (f := ((i - 1)).toNat) rng (show inR (0) from ⟨by decide, by decide⟩)
      refine v_vret rfl (by decide) (by decide) dX2_breakLong_39 ⟨rfl, ?_⟩
      exact frOK_L hφ0 (by omega) (by unfold brkL; first | rw [if_pos (by assumption)] | rw [if_neg (by assumption), if_pos (by assumption)])
    · refine v_if_eq ⟨by decide, by decide⟩ dX2_breakLong_27 (fun hb27 => ?_) (fun h => by exfalso; omega)
      refine v_vret rfl (by decide) (by decide) dX2_breakLong_39 ⟨rfl, ?_⟩
      have eb : brkL φ.2.1 i = φ.2.1 := by unfold brkL; rw [if_neg (by assumption), if_neg (by assumption)]
      rw [eb]; exact ⟨hφ0, offF.rf⟩
theorem tX2_holdsUnmade {E : w_E} {G : w_Sh} {I : w_Mm} {f : Nat} {φ : fS} (hF : isF G f) (hφ : frOK I f φ) : w_Ct E mX2_holdsUnmade 1 [.ref f] G I 0 0 (w_Pi (fun r G' I' => G' = G ∧ I' = I ∧ ((r = 1 ∧ (hasU φ)) ∨ (r = 0 ∧ ¬ (hasU φ))))) := by
  obtain ⟨hT0, hR0, hR1, hT1, hT2⟩ := hF
  obtain ⟨hd, hL, hP, hd1, hd8⟩ := hφ
  refine w_Ct.of (ls := [some (.ref f), none]) (by decide +kernel) (Nat.le_of_ble_eq_true rfl) rfl rfl (fun rng => ?_)
  refine v_iconst dX2_holdsUnmade_0 ?_
  refine v_istore_n dX2_holdsUnmade_1 (by decide) rfl ?_
  have loop2 : ∀ m j : Nat, (j : Int) + m = max φ.1 0 → (∀ k : Nat, k < 8 → ¬ 100 ≤ φ.2.1 k) → (∀ k : Nat, k < j → ¬ 100 ≤ φ.2.2 k) → w_V E mX2_holdsUnmade (w_rm 1 0 0) (w_Z E 0 0 (w_Pi (fun r G' I' => G' = G ∧ I' = I ∧ ((r = 1 ∧ (hasU φ)) ∨ (r = 0 ∧ ¬ (hasU φ)))))) G I 0 0 30 [some (.ref f), some (iv (j : Int))] [] := by
    intro m
    induction m with
    | zero =>
      intro j hj hl hp
      refine v_iload_n dX2_holdsUnmade_30 rfl ?_
      refine v_aload_n dX2_holdsUnmade_31 rfl ?_
      refine v_getI' (v := φ.1) hd fX2_18 rfl (by assumption) dX2_holdsUnmade_32 ?_
      refine v_icmp_ge ⟨by omega, by omega⟩ ⟨by omega, by omega⟩ dX2_holdsUnmade_35 (fun hb35 => ?_) (fun h => by exfalso; omega)
      refine v_iconst dX2_holdsUnmade_58 ?_
      exact v_zret rfl (by decide) (by decide) (Or.inl rfl) dX2_holdsUnmade_59 ⟨rfl, rfl, Or.inr ⟨rfl, by rintro (⟨k, h1, h2⟩ | ⟨k, h1, h2⟩); exact hl k h1 h2; exact hp k (by omega) h2⟩⟩
    | succ m ih =>
      intro j hj hl hp
      refine v_iload_n dX2_holdsUnmade_30 rfl ?_
      refine v_aload_n dX2_holdsUnmade_31 rfl ?_
      refine v_getI' (v := φ.1) hd fX2_18 rfl (by assumption) dX2_holdsUnmade_32 ?_
      refine v_icmp_ge ⟨by omega, by omega⟩ ⟨by omega, by omega⟩ dX2_holdsUnmade_35 (fun h => by exfalso; omega) (fun hb35 => ?_)
      refine v_aload_n dX2_holdsUnmade_38 rfl ?_
      refine v_getR fX2_15 rfl (by assumption) (by assumption) dX2_holdsUnmade_39 ?_
      refine v_iload_n dX2_holdsUnmade_42 rfl ?_
      refine v_iald' (i := j) (v := φ.2.2 (j)) (hP (j) (by omega)) (by assumption) rfl (by omega) (by omega) dX2_holdsUnmade_43 ?_
      refine v_Sb (tX3_isUnmade (by rw [← hP (j) (by omega)]; exact rng _ _)) kX2_28 rfl rfl ⟨by decide, by decide⟩ ⟨by decide, by decide⟩ (Nat.le_of_ble_eq_true rfl) dX2_holdsUnmade_44 (fun h1 => ?_) (fun h1 => ?_)
      · refine v_if_eq ⟨by decide, by decide⟩ dX2_holdsUnmade_47 (fun h => by exfalso; omega) (fun hb47 => ?_)
        refine v_iconst dX2_holdsUnmade_50 ?_
        exact v_zret rfl (by decide) (by decide) (Or.inr rfl) dX2_holdsUnmade_51 ⟨rfl, rfl, Or.inl ⟨rfl, by exact Or.inr ⟨j, by omega, by assumption⟩⟩⟩
      · refine v_if_eq ⟨by decide, by decide⟩ dX2_holdsUnmade_47 (fun hb47 => ?_) (fun h => by exfalso; omega)
        refine v_iinc dX2_holdsUnmade_52 rfl (by decide) rfl rfl ?_
        refine v_goto dX2_holdsUnmade_55 ?_
        exact ih (j + 1) (by omega) hl (lt_s hp (by assumption))
  have loop1 : ∀ m j : Nat, j + m = 8 → (∀ k : Nat, k < j → ¬ 100 ≤ φ.2.1 k) → w_V E mX2_holdsUnmade (w_rm 1 0 0) (w_Z E 0 0 (w_Pi (fun r G' I' => G' = G ∧ I' = I ∧ ((r = 1 ∧ (hasU φ)) ∨ (r = 0 ∧ ¬ (hasU φ)))))) G I 0 0 2 [some (.ref f), some (iv (j : Int))] [] := by
    intro m
    induction m with
    | zero =>
      intro j hj hl
      refine v_iload_n dX2_holdsUnmade_2 rfl ?_
      refine v_bipush dX2_holdsUnmade_3 (by decide) ?_
      refine v_icmp_ge ⟨by omega, by omega⟩ ⟨by decide, by decide⟩ dX2_holdsUnmade_5 (fun hb5 => ?_) (fun h => by exfalso; omega)
      refine v_iconst dX2_holdsUnmade_28 ?_
      refine v_istore_n dX2_holdsUnmade_29 (by decide) rfl ?_
      exact loop2 (max φ.1 0).toNat 0 (by omega) (fun k hk => hl k (by omega)) (fun k hk => absurd hk (Nat.not_lt_zero k))
    | succ m ih =>
      intro j hj hl
      refine v_iload_n dX2_holdsUnmade_2 rfl ?_
      refine v_bipush dX2_holdsUnmade_3 (by decide) ?_
      refine v_icmp_ge ⟨by omega, by omega⟩ ⟨by decide, by decide⟩ dX2_holdsUnmade_5 (fun h => by exfalso; omega) (fun hb5 => ?_)
      refine v_aload_n dX2_holdsUnmade_8 rfl ?_
      refine v_getR fX2_9 rfl (by assumption) (by assumption) dX2_holdsUnmade_9 ?_
      refine v_iload_n dX2_holdsUnmade_12 rfl ?_
      refine v_iald' (i := j) (v := φ.2.1 (j)) (hL (j) (by omega)) (by assumption) rfl (by omega) (by omega) dX2_holdsUnmade_13 ?_
      refine v_Sb (tX3_isUnmade (by rw [← hL (j) (by omega)]; exact rng _ _)) kX2_28 rfl rfl ⟨by decide, by decide⟩ ⟨by decide, by decide⟩ (Nat.le_of_ble_eq_true rfl) dX2_holdsUnmade_14 (fun h1 => ?_) (fun h1 => ?_)
      · refine v_if_eq ⟨by decide, by decide⟩ dX2_holdsUnmade_17 (fun h => by exfalso; omega) (fun hb17 => ?_)
        refine v_iconst dX2_holdsUnmade_20 ?_
        exact v_zret rfl (by decide) (by decide) (Or.inr rfl) dX2_holdsUnmade_21 ⟨rfl, rfl, Or.inl ⟨rfl, by exact Or.inl ⟨j, by omega, by assumption⟩⟩⟩
      · refine v_if_eq ⟨by decide, by decide⟩ dX2_holdsUnmade_17 (fun hb17 => ?_) (fun h => by exfalso; omega)
        refine v_iinc dX2_holdsUnmade_22 rfl (by decide) rfl rfl ?_
        refine v_goto dX2_holdsUnmade_25 ?_
        exact ih (j + 1) (by omega) (lt_s hl (by assumption))
  exact loop1 8 0 rfl (fun k hk => absurd hk (Nat.not_lt_zero k))
theorem frOK_copy {I : w_Mm} {f o : Nat} {ψ : fS} (h : frOK I o ψ) (ha : fApart f o) : frOK (w_up (w_cpy (w_cpy I (o + 1) (f + 1) 8) (o + 2) (f + 2) 8) f 2 ψ.1) f ψ ∧ offF I (w_up (w_cpy (w_cpy I (o + 1) (f + 1) 8) (o + 2) (f + 2) 8) f 2 ψ.1) f :=
  ⟨⟨w_up_s, fun k hk => by rw [w_up_n (by omega), w_cpy_o (by omega), w_cpy_i hk]; exact h.2.1 k hk, fun k hk => by rw [w_up_n (by omega), w_cpy_i hk, w_cpy_o (by omega)]; exact h.2.2.1 k hk, h.2.2.2⟩, fun a k h1 h2 h3 => by rw [w_up_n (by omega), w_cpy_o (by omega), w_cpy_o (by omega)]⟩
theorem frOK_start {I : w_Mm} {f b : Nat} {φ : fS} (h : frOK I f φ) (hb : b ≠ f) (hb1 : b ≠ f + 1) (hb2 : b ≠ f + 2) : frOK (w_up (w_cpy I b (f + 1) 8) f 2 0) f (0, I b, φ.2.2) ∧ offF I (w_up (w_cpy I b (f + 1) 8) f 2 0) f :=
  ⟨⟨w_up_s, fun k hk => by rw [w_up_n (by omega), w_cpy_i hk], fun k hk => by rw [w_up_n (by omega), w_cpy_o (by omega)]; exact h.2.2.1 k hk, show (-1 : Int) ≤ 0 by decide, show (0 : Int) ≤ 8 by decide⟩, fun a k h1 h2 h3 => by rw [w_up_n (by omega), w_cpy_o (by omega)]⟩
theorem tX2_copyFrom {E : w_E} {G : w_Sh} {I : w_Mm} {f o : Nat} {ψ : fS} (hF : isF G f) (hO : isF G o) (hψ : frOK I o ψ) (ha : fApart f o) : w_Ct E mX2_copyFrom 1 [.ref f, .ref o] G I 0 0 (w_Pv (fun G' J => G' = G ∧ frOK J f ψ ∧ offF I J f)) := by
  obtain ⟨hT0, hR0, hR1, hT1, hT2⟩ := hF
  obtain ⟨hT0o, hR0o, hR1o, hT1o, hT2o⟩ := hO
  have hψ0 := hψ
  obtain ⟨hdo, hLo, hPo, hd1o, hd8o⟩ := hψ
  refine w_Ct.of (ls := [some (.ref f), some (.ref o)]) (by decide +kernel) (Nat.le_of_ble_eq_true rfl) rfl rfl (fun rng => ?_)
  refine v_aload_n dX2_copyFrom_0 rfl ?_
  refine v_getR fX2_9 rfl (by assumption) (by assumption) dX2_copyFrom_1 ?_
  refine v_iconst dX2_copyFrom_4 ?_
  refine v_aload_n dX2_copyFrom_5 rfl ?_
  refine v_getR fX2_9 rfl (by assumption) (by assumption) dX2_copyFrom_6 ?_
  refine v_iconst dX2_copyFrom_9 ?_
  refine v_bipush dX2_copyFrom_10 (by decide) ?_
  refine v_copy (by assumption) (by assumption) (by decide) rfl rfl rfl kX2_22 wcopy2 wcopy3 wcopy4 (by decide) (Nat.le_of_ble_eq_true rfl) dX2_copyFrom_12 ?_
  have rng1 := w_rngc (a := f + 1) (b := o + 1) (len := 8) rng
  refine v_aload_n dX2_copyFrom_15 rfl ?_
  refine v_getR fX2_15 rfl (by assumption) (by assumption) dX2_copyFrom_16 ?_
  refine v_iconst dX2_copyFrom_19 ?_
  refine v_aload_n dX2_copyFrom_20 rfl ?_
  refine v_getR fX2_15 rfl (by assumption) (by assumption) dX2_copyFrom_21 ?_
  refine v_iconst dX2_copyFrom_24 ?_
  refine v_bipush dX2_copyFrom_25 (by decide) ?_
  refine v_copy (by assumption) (by assumption) (by decide) rfl rfl rfl kX2_22 wcopy2 wcopy3 wcopy4 (by decide) (Nat.le_of_ble_eq_true rfl) dX2_copyFrom_27 ?_
  have rng2 := w_rngc (a := f + 2) (b := o + 2) (len := 8) rng1
  refine v_aload_n dX2_copyFrom_30 rfl ?_
  refine v_aload_n dX2_copyFrom_31 rfl ?_
  refine v_getI' (v := ψ.1) (by rw [w_cpy_o (by omega), w_cpy_o (by omega), hdo]) fX2_18 rfl (by assumption) dX2_copyFrom_32 ?_
  refine v_putI fX2_18 p2_2 rfl ⟨by omega, by omega⟩ (by assumption) dX2_copyFrom_35 ?_
  have rng3 := w_rng (a := f) (f := 2) rng2 (show inR (ψ.1) from ⟨by omega, by omega⟩)
  exact v_vret rfl (by decide) (by decide) dX2_copyFrom_38 ⟨rfl, frOK_copy hψ0 ha⟩
theorem tX2_startWith {E : w_E} {G : w_Sh} {I : w_Mm} {f b : Nat} {φ : fS} (hF : isF G f) (hφ : frOK I f φ) (hTb : G.1 b = (10, 8)) (hb : b ≠ f) (hb1 : b ≠ f + 1) (hb2 : b ≠ f + 2) : w_Ct E mX2_startWith 1 [.ref f, .ref b] G I 0 0 (w_Pv (fun G' J => G' = G ∧ frOK J f (0, I b, φ.2.2) ∧ offF I J f)) := by
  obtain ⟨hT0, hR0, hR1, hT1, hT2⟩ := hF
  refine w_Ct.of (ls := [some (.ref f), some (.ref b)]) (by decide +kernel) (Nat.le_of_ble_eq_true rfl) rfl rfl (fun rng => ?_)
  refine v_aload_n dX2_startWith_0 rfl ?_
  refine v_iconst dX2_startWith_1 ?_
  refine v_aload_n dX2_startWith_2 rfl ?_
  refine v_getR fX2_9 rfl (by assumption) (by assumption) dX2_startWith_3 ?_
  refine v_iconst dX2_startWith_6 ?_
  refine v_bipush dX2_startWith_7 (by decide) ?_
  refine v_copy (by assumption) (by assumption) (by decide) rfl rfl rfl kX2_22 wcopy2 wcopy3 wcopy4 (by decide) (Nat.le_of_ble_eq_true rfl) dX2_startWith_9 ?_
  have rng1 := w_rngc (a := f + 1) (b := b) (len := 8) rng
  refine v_aload_n dX2_startWith_12 rfl ?_
  refine v_iconst dX2_startWith_13 ?_
  refine v_putI fX2_18 p2_2 rfl ⟨by decide, by decide⟩ (by assumption) dX2_startWith_14 ?_
  have rng2 := w_rng (a := f) (f := 2) rng1 (show inR (0) from ⟨by decide, by decide⟩)
  exact v_vret rfl (by decide) (by decide) dX2_startWith_17 ⟨rfl, frOK_start hφ hb hb1 hb2⟩
theorem frOK_rais {I : w_Mm} {f : Nat} {φ ψ : fS} {kd : Int} (h : frOK I f φ) : frOK (w_up (w_up (w_map I (f + 1) 8 (fun k => if 100 ≤ ψ.2.1 k then 0 else ψ.2.1 k)) (f + 2) 0 kd) f 2 1) f (raisF ψ φ.2.2 kd) ∧ offF I (w_up (w_up (w_map I (f + 1) 8 (fun k => if 100 ≤ ψ.2.1 k then 0 else ψ.2.1 k)) (f + 2) 0 kd) f 2 1) f := by
  refine ⟨⟨w_up_s, fun k hk => by rw [w_up_n (by omega), w_up_n (by omega), w_map_i hk]; rfl, fun k hk => ?_, show (-1 : Int) ≤ 1 by decide, show (1 : Int) ≤ 8 by decide⟩, fun a k h1 h2 h3 => by rw [w_up_n (by omega), w_up_n (by omega), w_map_o (by omega)]⟩
  by_cases e : k = 0
  · subst e
    rw [w_up_n (by omega), w_up_s]
    simp [raisF, uL]
  · rw [w_up_n (by omega), w_up_n (by omega), w_map_o (by omega), h.2.2.1 k hk]
    simp [raisF, uL, e]
theorem tX2_becomeRaised {E : w_E} {G : w_Sh} {I : w_Mm} {f o : Nat} {φ ψ : fS} {kd : Int} (hF : isF G f) (hφ : frOK I f φ) (hO : isF G o) (hψ : frOK I o ψ) (ha : fApart f o) (hkd : inR kd) : w_Ct E mX2_becomeRaised 1 [.ref f, .ref o, iv kd] G I 0 0 (w_Pv (fun G' J => G' = G ∧ frOK J f (raisF ψ φ.2.2 kd) ∧ offF I J f)) := by
  obtain ⟨hT0, hR0, hR1, hT1, hT2⟩ := hF
  obtain ⟨hT0o, hR0o, hR1o, hT1o, hT2o⟩ := hO
  have hψ0 := hψ
  obtain ⟨hdo, hLo, hPo, hd1o, hd8o⟩ := hψ
  refine w_Ct.of (ls := [some (.ref f), some (.ref o), some (iv kd), none]) (by decide +kernel) (Nat.le_of_ble_eq_true rfl) rfl rfl (fun rng => ?_)
  refine v_iconst dX2_becomeRaised_0 ?_
  refine v_istore_n dX2_becomeRaised_1 (by decide) rfl ?_
  have hg : ∀ k, k < 8 → inR ((fun k => if 100 ≤ ψ.2.1 k then 0 else ψ.2.1 k) k) := fun k hk => by
    show inR (if 100 ≤ ψ.2.1 k then 0 else ψ.2.1 k)
    split
    · exact ⟨by decide, by decide⟩
    · rw [← hLo k hk]; exact rng _ _
  have loop : ∀ m j : Nat, j + m = 8 → w_V E mX2_becomeRaised (w_rm 1 0 0) (w_Z E 0 0 (w_Pv (fun G' J => G' = G ∧ frOK J f (raisF ψ φ.2.2 kd) ∧ offF I J f))) G (w_map I (f + 1) j (fun k => if 100 ≤ ψ.2.1 k then 0 else ψ.2.1 k)) 0 0 2 [some (.ref f), some (.ref o), some (iv kd), some (iv (j : Int))] [] := by
    intro m
    induction m with
    | zero =>
      intro j hj
      obtain rfl : j = 8 := by omega
      have rng8 := w_rngm (a := f + 1) rng hg
      refine v_iload_n dX2_becomeRaised_2 rfl ?_
      refine v_bipush dX2_becomeRaised_3 (by decide) ?_
      refine v_icmp_ge ⟨by omega, by omega⟩ ⟨by decide, by decide⟩ dX2_becomeRaised_5 (fun hb5 => ?_) (fun h => by exfalso; omega)
      refine v_aload_n dX2_becomeRaised_42 rfl ?_
      refine v_getR fX2_15 rfl (by assumption) (by assumption) dX2_becomeRaised_43 ?_
      refine v_iconst dX2_becomeRaised_46 ?_
      refine v_iload_n dX2_becomeRaised_47 rfl ?_
      refine v_iast (i := 0) (by assumption) rfl (by omega) (by omega) hkd dX2_becomeRaised_48 ?_
      have rng1 := w_rng (a := f + 2) (f := 0) rng8 (show inR (kd) from hkd)
      refine v_aload_n dX2_becomeRaised_49 rfl ?_
      refine v_iconst dX2_becomeRaised_50 ?_
      refine v_putI fX2_18 p2_2 rfl ⟨by decide, by decide⟩ (by assumption) dX2_becomeRaised_51 ?_
      have rng2 := w_rng (a := f) (f := 2) rng1 (show inR (1) from ⟨by decide, by decide⟩)
      exact v_vret rfl (by decide) (by decide) dX2_becomeRaised_54 ⟨rfl, frOK_rais hφ⟩
    | succ m ih =>
      intro j hj
      have rngj := w_rngm (a := f + 1) (j := j) rng (fun k hk => hg k (by omega))
      refine v_iload_n dX2_becomeRaised_2 rfl ?_
      refine v_bipush dX2_becomeRaised_3 (by decide) ?_
      refine v_icmp_ge ⟨by omega, by omega⟩ ⟨by decide, by decide⟩ dX2_becomeRaised_5 (fun h => by exfalso; omega) (fun hb5 => ?_)
      refine v_aload_n dX2_becomeRaised_8 rfl ?_
      refine v_getR fX2_9 rfl (by assumption) (by assumption) dX2_becomeRaised_9 ?_
      refine v_iload_n dX2_becomeRaised_12 rfl ?_
      refine v_aload_n dX2_becomeRaised_13 rfl ?_
      refine v_getR fX2_9 rfl (by assumption) (by assumption) dX2_becomeRaised_14 ?_
      refine v_iload_n dX2_becomeRaised_17 rfl ?_
      refine v_iald' (i := j) (v := ψ.2.1 (j)) (by rw [w_map_o (by omega), (hLo (j) (by omega))]) (by assumption) rfl (by omega) (by omega) dX2_becomeRaised_18 ?_
      refine v_Sb (tX3_isUnmade (by rw [← hLo (j) (by omega)]; exact rng _ _)) kX2_28 rfl rfl ⟨by decide, by decide⟩ ⟨by decide, by decide⟩ (Nat.le_of_ble_eq_true rfl) dX2_becomeRaised_19 (fun h1 => ?_) (fun h1 => ?_)
      · refine v_if_eq ⟨by decide, by decide⟩ dX2_becomeRaised_22 (fun h => by exfalso; omega) (fun hb22 => ?_)
        refine v_iconst dX2_becomeRaised_25 ?_
        refine v_goto dX2_becomeRaised_26 ?_
        refine v_iast (i := j) (by assumption) rfl (by omega) (by omega) ⟨by decide, by decide⟩ dX2_becomeRaised_35 ?_
        have rng2 := w_rng (a := f + 1) (f := j) rngj (show inR (0) from ⟨by decide, by decide⟩)
        refine v_iinc dX2_becomeRaised_36 rfl (by decide) rfl rfl ?_
        refine v_goto dX2_becomeRaised_39 ?_
        refine v_mem (w_map_s (by first | rw [if_pos (by assumption)] | rw [if_neg (by assumption)])) ?_
        exact ih (j + 1) (by omega)
      · refine v_if_eq ⟨by decide, by decide⟩ dX2_becomeRaised_22 (fun hb22 => ?_) (fun h => by exfalso; omega)
        refine v_aload_n dX2_becomeRaised_29 rfl ?_
        refine v_getR fX2_9 rfl (by assumption) (by assumption) dX2_becomeRaised_30 ?_
        refine v_iload_n dX2_becomeRaised_33 rfl ?_
        refine v_iald' (i := j) (v := ψ.2.1 (j)) (by rw [w_map_o (by omega), (hLo (j) (by omega))]) (by assumption) rfl (by omega) (by omega) dX2_becomeRaised_34 ?_
        refine v_iast (i := j) (by assumption) rfl (by omega) (by omega) (by rw [← hLo (j) (by omega)]; exact rng _ _) dX2_becomeRaised_35 ?_
        have rng3 := w_rng (a := f + 1) (f := j) rngj (show inR (ψ.2.1 (j)) from (by rw [← hLo (j) (by omega)]; exact rng _ _))
        refine v_iinc dX2_becomeRaised_36 rfl (by decide) rfl rfl ?_
        refine v_goto dX2_becomeRaised_39 ?_
        refine v_mem (w_map_s (by first | rw [if_pos (by assumption)] | rw [if_neg (by assumption)])) ?_
        exact ih (j + 1) (by omega)
  exact v_mem w_map_0.symm (loop 8 0 rfl)
theorem frOK_repl {I : w_Mm} {f d : Nat} {φ : fS} {ol kd : Int} (h : frOK I f φ) (hd : (d : Int) = max φ.1 0) : frOK (w_map (w_map I (f + 1) 8 (fun k => if φ.2.1 k = ol then kd else φ.2.1 k)) (f + 2) d (fun k => if φ.2.2 k = ol then kd else φ.2.2 k)) f (replF φ ol kd) ∧ offF I (w_map (w_map I (f + 1) 8 (fun k => if φ.2.1 k = ol then kd else φ.2.1 k)) (f + 2) d (fun k => if φ.2.2 k = ol then kd else φ.2.2 k)) f := by
  refine ⟨⟨by rw [w_map_o (by omega), w_map_o (by omega)]; exact h.1, fun k hk => by rw [w_map_o (by omega), w_map_i hk]; rfl, fun k hk => ?_, h.2.2.2⟩, fun a k h1 h2 h3 => by rw [w_map_o (by omega), w_map_o (by omega)]⟩
  by_cases e : k < d
  · rw [w_map_i e]
    have : (k : Int) < φ.1 := by omega
    simp [replF, this]
  · rw [w_map_o (by omega), w_map_o (by omega), h.2.2.1 k hk]
    have : ¬ (k : Int) < φ.1 := by omega
    simp [replF, this]
theorem tX2_replace {E : w_E} {G : w_Sh} {I : w_Mm} {f : Nat} {φ : fS} (hF : isF G f) (hφ : frOK I f φ) {ol kd : Int} (hol : inR ol) (hkd : inR kd) : w_Ct E mX2_replace 0 [.ref f, iv ol, iv kd] G I 0 0 (w_Pv (fun G' J => G' = G ∧ frOK J f (replF φ ol kd) ∧ offF I J f)) := by
  have hφ0 := hφ
  obtain ⟨hT0, hR0, hR1, hT1, hT2⟩ := hF
  obtain ⟨hd, hL, hP, hd1, hd8⟩ := hφ
  refine w_Ct.of (ls := [some (.ref f), some (iv ol), some (iv kd), none]) (by decide +kernel) (Nat.le_of_ble_eq_true rfl) rfl rfl (fun rng => ?_)
  refine v_iconst dX2_replace_0 ?_
  refine v_istore_n dX2_replace_1 (by decide) rfl ?_
  have hg1 : ∀ k, k < 8 → inR ((fun k => if φ.2.1 k = ol then kd else φ.2.1 k) k) := fun k hk => by
    show inR (if _ = ol then kd else _)
    split
    · exact hkd
    · rw [← hL k hk]; exact rng _ _
  have hg2 : ∀ k, k < 8 → inR ((fun k => if φ.2.2 k = ol then kd else φ.2.2 k) k) := fun k hk => by
    show inR (if _ = ol then kd else _)
    split
    · exact hkd
    · rw [← hP k hk]; exact rng _ _
  have rng8 := w_rngm (a := f + 1) (j := 8) rng hg1
  have loop2 : ∀ m j : Nat, (j : Int) + m = max φ.1 0 → w_V E mX2_replace (w_rm 0 0 0) (w_Z E 0 0 (w_Pv (fun G' J => G' = G ∧ frOK J f (replF φ ol kd) ∧ offF I J f))) G (w_map (w_map I (f + 1) 8 (fun k => if φ.2.1 k = ol then kd else φ.2.1 k)) (f + 2) j (fun k => if φ.2.2 k = ol then kd else φ.2.2 k)) 0 0 42 [some (.ref f), some (iv ol), some (iv kd), some (iv (j : Int))] [] := by
    intro m
    induction m with
    | zero =>
      intro j hj
      refine v_iload_n dX2_replace_42 rfl ?_
      refine v_aload_n dX2_replace_43 rfl ?_
      refine v_getI' (v := φ.1) (by rw [w_map_o (by omega), w_map_o (by omega), hd]) fX2_18 rfl (by assumption) dX2_replace_44 ?_
      refine v_icmp_ge ⟨by omega, by omega⟩ ⟨by omega, by omega⟩ dX2_replace_47 (fun hb47 => ?_) (fun h => by exfalso; omega)
      exact v_vret rfl (by decide) (by decide) dX2_replace_82 ⟨rfl, frOK_repl hφ0 (by omega)⟩
    | succ m ih =>
      intro j hj
      have rngj := w_rngm (a := f + 2) (j := j) rng8 (fun k hk => hg2 k (by omega))
      refine v_iload_n dX2_replace_42 rfl ?_
      refine v_aload_n dX2_replace_43 rfl ?_
      refine v_getI' (v := φ.1) (by rw [w_map_o (by omega), w_map_o (by omega), hd]) fX2_18 rfl (by assumption) dX2_replace_44 ?_
      refine v_icmp_ge ⟨by omega, by omega⟩ ⟨by omega, by omega⟩ dX2_replace_47 (fun h => by exfalso; omega) (fun hb47 => ?_)
      refine v_aload_n dX2_replace_50 rfl ?_
      refine v_getR fX2_15 rfl (by assumption) (by assumption) dX2_replace_51 ?_
      refine v_iload_n dX2_replace_54 rfl ?_
      refine v_aload_n dX2_replace_55 rfl ?_
      refine v_getR fX2_15 rfl (by assumption) (by assumption) dX2_replace_56 ?_
      refine v_iload_n dX2_replace_59 rfl ?_
      refine v_iald' (i := j) (v := φ.2.2 (j)) (by rw [w_map_o (by omega), w_map_o (by omega), (hP (j) (by omega))]) (by assumption) rfl (by omega) (by omega) dX2_replace_60 ?_
      refine v_iload_n dX2_replace_61 rfl ?_
      refine v_icmp_ne (by rw [← hP (j) (by omega)]; exact rng _ _) hol dX2_replace_62 (fun h1 => ?_) (fun h1 => ?_)
      · refine v_aload_n dX2_replace_69 rfl ?_
        refine v_getR fX2_15 rfl (by assumption) (by assumption) dX2_replace_70 ?_
        refine v_iload_n dX2_replace_73 rfl ?_
        refine v_iald' (i := j) (v := φ.2.2 (j)) (by rw [w_map_o (by omega), w_map_o (by omega), (hP (j) (by omega))]) (by assumption) rfl (by omega) (by omega) dX2_replace_74 ?_
        refine v_iast (i := j) (by assumption) rfl (by omega) (by omega) (by rw [← hP (j) (by omega)]; exact rng _ _) dX2_replace_75 ?_
        have rng2 := w_rng (a := f + 2) (f := j) rngj (show inR (φ.2.2 (j)) from (by rw [← hP (j) (by omega)]; exact rng _ _))
        refine v_iinc dX2_replace_76 rfl (by decide) rfl rfl ?_
        refine v_goto dX2_replace_79 ?_
        refine v_mem (w_map_s (by first | rw [if_pos (by assumption)] | rw [if_neg (by assumption)])) ?_
        exact ih (j + 1) (by omega)
      · refine v_iload_n dX2_replace_65 rfl ?_
        refine v_goto dX2_replace_66 ?_
        refine v_iast (i := j) (by assumption) rfl (by omega) (by omega) hkd dX2_replace_75 ?_
        have rng3 := w_rng (a := f + 2) (f := j) rngj (show inR (kd) from hkd)
        refine v_iinc dX2_replace_76 rfl (by decide) rfl rfl ?_
        refine v_goto dX2_replace_79 ?_
        refine v_mem (w_map_s (by first | rw [if_pos (by assumption)] | rw [if_neg (by assumption)])) ?_
        exact ih (j + 1) (by omega)
  have loop1 : ∀ m j : Nat, j + m = 8 → w_V E mX2_replace (w_rm 0 0 0) (w_Z E 0 0 (w_Pv (fun G' J => G' = G ∧ frOK J f (replF φ ol kd) ∧ offF I J f))) G (w_map I (f + 1) j (fun k => if φ.2.1 k = ol then kd else φ.2.1 k)) 0 0 2 [some (.ref f), some (iv ol), some (iv kd), some (iv (j : Int))] [] := by
    intro m
    induction m with
    | zero =>
      intro j hj
      obtain rfl : j = 8 := by omega
      refine v_iload_n dX2_replace_2 rfl ?_
      refine v_bipush dX2_replace_3 (by decide) ?_
      refine v_icmp_ge ⟨by omega, by omega⟩ ⟨by decide, by decide⟩ dX2_replace_5 (fun hb5 => ?_) (fun h => by exfalso; omega)
      refine v_iconst dX2_replace_40 ?_
      refine v_istore_n dX2_replace_41 (by decide) rfl ?_
      exact v_mem w_map_0.symm (loop2 (max φ.1 0).toNat 0 (by omega))
    | succ m ih =>
      intro j hj
      have rngj := w_rngm (a := f + 1) (j := j) rng (fun k hk => hg1 k (by omega))
      refine v_iload_n dX2_replace_2 rfl ?_
      refine v_bipush dX2_replace_3 (by decide) ?_
      refine v_icmp_ge ⟨by omega, by omega⟩ ⟨by decide, by decide⟩ dX2_replace_5 (fun h => by exfalso; omega) (fun hb5 => ?_)
      refine v_aload_n dX2_replace_8 rfl ?_
      refine v_getR fX2_9 rfl (by assumption) (by assumption) dX2_replace_9 ?_
      refine v_iload_n dX2_replace_12 rfl ?_
      refine v_aload_n dX2_replace_13 rfl ?_
      refine v_getR fX2_9 rfl (by assumption) (by assumption) dX2_replace_14 ?_
      refine v_iload_n dX2_replace_17 rfl ?_
      refine v_iald' (i := j) (v := φ.2.1 (j)) (by rw [w_map_o (by omega), (hL (j) (by omega))]) (by assumption) rfl (by omega) (by omega) dX2_replace_18 ?_
      refine v_iload_n dX2_replace_19 rfl ?_
      refine v_icmp_ne (by rw [← hL (j) (by omega)]; exact rng _ _) hol dX2_replace_20 (fun h1 => ?_) (fun h1 => ?_)
      · refine v_aload_n dX2_replace_27 rfl ?_
        refine v_getR fX2_9 rfl (by assumption) (by assumption) dX2_replace_28 ?_
        refine v_iload_n dX2_replace_31 rfl ?_
        refine v_iald' (i := j) (v := φ.2.1 (j)) (by rw [w_map_o (by omega), (hL (j) (by omega))]) (by assumption) rfl (by omega) (by omega) dX2_replace_32 ?_
        refine v_iast (i := j) (by assumption) rfl (by omega) (by omega) (by rw [← hL (j) (by omega)]; exact rng _ _) dX2_replace_33 ?_
        have rng2 := w_rng (a := f + 1) (f := j) rngj (show inR (φ.2.1 (j)) from (by rw [← hL (j) (by omega)]; exact rng _ _))
        refine v_iinc dX2_replace_34 rfl (by decide) rfl rfl ?_
        refine v_goto dX2_replace_37 ?_
        refine v_mem (w_map_s (by first | rw [if_pos (by assumption)] | rw [if_neg (by assumption)])) ?_
        exact ih (j + 1) (by omega)
      · refine v_iload_n dX2_replace_23 rfl ?_
        refine v_goto dX2_replace_24 ?_
        refine v_iast (i := j) (by assumption) rfl (by omega) (by omega) hkd dX2_replace_33 ?_
        have rng3 := w_rng (a := f + 1) (f := j) rngj (show inR (kd) from hkd)
        refine v_iinc dX2_replace_34 rfl (by decide) rfl rfl ?_
        refine v_goto dX2_replace_37 ?_
        refine v_mem (w_map_s (by first | rw [if_pos (by assumption)] | rw [if_neg (by assumption)])) ?_
        exact ih (j + 1) (by omega)
  exact v_mem w_map_0.symm (loop1 8 0 rfl)
