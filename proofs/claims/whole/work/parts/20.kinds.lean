/-! ===== kinds: pure questions ===== -/
/-- how many there are, each one's mask, which are faces -/
abbrev cS : Type := Nat × (Nat → Nat) × (Nat → Int)
def isC (G : w_Sh) (c : Nat) : Prop := G.1 c = (0, 0) ∧ G.2.1 c 0 = some (c + 1) ∧ G.2.1 c 1 = some (c + 2) ∧ G.1 (c + 1) = (10, 16) ∧ G.1 (c + 2) = (11, 16)
def clsOK (I : w_Mm) (c : Nat) (Q : cS) : Prop := I c 2 = (Q.1 : Int) ∧ 2 ≤ Q.1 ∧ Q.1 ≤ 16 ∧ (∀ j, j < Q.1 → I (c + 1) j = (Q.2.1 j : Int) ∧ Q.2.1 j < 65536) ∧ ∀ j, j < Q.1 → I (c + 2) j = Q.2.2 j ∧ (Q.2.2 j = 0 ∨ Q.2.2 j = 1)
def isK (G : w_Sh) (q c : Nat) : Prop := G.1 q = (3, 0) ∧ G.2.1 q 0 = some c ∧ isC G c
abbrev kThing (k : Int) : Prop := 10 ≤ k ∧ k < 40
abbrev kRow (k : Int) : Prop := 40 ≤ k ∧ k < 100
abbrev kRef (k : Int) : Prop := k = 4 ∨ k = 5 ∨ (10 ≤ k ∧ k < 100)
abbrev hasC (Q : cS) (x : Int) : Prop := 0 ≤ x ∧ x < (Q.1 : Int)
abbrev fitC (Q : cS) (x y : Int) : Prop := hasC Q x ∧ hasC Q y ∧ (¬ Q.2.2 y.toNat = 0 ∨ Q.2.1 x.toNat / 2 ^ y.toNat % 2 = 1)
abbrev nearC (Q : cS) (x y : Int) : Int := if hasC Q x ∧ hasC Q y then ((nearF (Q.2.1 x.toNat &&& Q.2.1 y.toNat) (Q.1 - 1) : Nat) : Int) else 0
abbrev ofC (Q : cS) (k : Int) : Prop := (kThing k ∧ hasC Q (k - 10)) ∨ (kRow k ∧ hasC Q (k - 40))
abbrev knownK (Q : cS) (k : Int) : Prop := (0 ≤ k ∧ k ≤ 5) ∨ ofC Q k ∨ (100 ≤ k ∧ k < 140)
abbrev argK (Q : cS) (k : Int) : Prop := k = 1 ∨ k = 2 ∨ k = 5 ∨ ofC Q k
abbrev resK (Q : cS) (k : Int) : Prop := k = 0 ∨ argK Q k
abbrev fitK (Q : cS) (k l : Int) : Prop := k = l ∨ (k = 4 ∧ kRef l) ∨ (kThing k ∧ kThing l ∧ fitC Q (k - 10) (l - 10)) ∨ (kRow k ∧ kRow l ∧ fitC Q (k - 40) (l - 40)) ∨ ((k = 5 ∨ kRow k) ∧ l = 10)
def joinK (Q : cS) (k l : Int) : Int := if k = l then k else if ¬ (kRef k ∧ kRef l) then 0 else if k = 4 then l else if l = 4 then k else if kThing k ∧ kThing l then 10 + nearC Q (k - 10) (l - 10) else if kRow k ∧ kRow l then 40 + nearC Q (k - 40) (l - 40) else 10
theorem inR_p {n : Nat} (h : n < 16) : inR ((2 ^ n : Nat) : Int) := inR_nat (Nat.lt_trans (Nat.pow_lt_pow_right (by decide : 1 < 2) h) (by decide))
theorem or_lt {a b : Nat} (ha : a < 65536) (hb : b < 65536) : a ||| b < 65536 := Nat.or_lt_two_pow (n := 16) ha hb
theorem pow_lt {n : Nat} (h : n < 16) : 2 ^ n < 65536 := Nat.lt_of_lt_of_le (Nat.pow_lt_pow_right (by decide : 1 < 2) h) (by decide)
theorem tX3_isThing {E : w_E} {G : w_Sh} {I : w_Mm} {k : Int} (hk : inR k) : w_Cb E mX3_isThing 0 [iv k] G I (kThing k) := by
  refine w_Ct.of (ls := [some (iv k)]) (by decide +kernel) (Nat.le_of_ble_eq_true rfl) rfl rfl (fun rng => ?_)
  refine v_iload_n dX3_isThing_0 rfl ?_
  refine v_bipush dX3_isThing_1 (by decide) ?_
  refine v_icmp_lt hk ⟨by decide, by decide⟩ dX3_isThing_3 (fun h1 => ?_) (fun h1 => ?_)
  · refine v_iconst dX3_isThing_16 ?_
    exact v_zret rfl (by decide) (by decide) (Or.inl rfl) dX3_isThing_17 ⟨rfl, rfl, Or.inr ⟨rfl, by omega⟩⟩
  · refine v_iload_n dX3_isThing_6 rfl ?_
    refine v_bipush dX3_isThing_7 (by decide) ?_
    refine v_icmp_ge hk ⟨by decide, by decide⟩ dX3_isThing_9 (fun h2 => ?_) (fun h2 => ?_)
    · refine v_iconst dX3_isThing_16 ?_
      exact v_zret rfl (by decide) (by decide) (Or.inl rfl) dX3_isThing_17 ⟨rfl, rfl, Or.inr ⟨rfl, by omega⟩⟩
    · refine v_iconst dX3_isThing_12 ?_
      refine v_goto dX3_isThing_13 ?_
      exact v_zret rfl (by decide) (by decide) (Or.inr rfl) dX3_isThing_17 ⟨rfl, rfl, Or.inl ⟨rfl, by omega⟩⟩
theorem tX3_isThingRow {E : w_E} {G : w_Sh} {I : w_Mm} {k : Int} (hk : inR k) : w_Cb E mX3_isThingRow 0 [iv k] G I (kRow k) := by
  refine w_Ct.of (ls := [some (iv k)]) (by decide +kernel) (Nat.le_of_ble_eq_true rfl) rfl rfl (fun rng => ?_)
  refine v_iload_n dX3_isThingRow_0 rfl ?_
  refine v_bipush dX3_isThingRow_1 (by decide) ?_
  refine v_icmp_lt hk ⟨by decide, by decide⟩ dX3_isThingRow_3 (fun h1 => ?_) (fun h1 => ?_)
  · refine v_iconst dX3_isThingRow_16 ?_
    exact v_zret rfl (by decide) (by decide) (Or.inl rfl) dX3_isThingRow_17 ⟨rfl, rfl, Or.inr ⟨rfl, by omega⟩⟩
  · refine v_iload_n dX3_isThingRow_6 rfl ?_
    refine v_bipush dX3_isThingRow_7 (by decide) ?_
    refine v_icmp_ge hk ⟨by decide, by decide⟩ dX3_isThingRow_9 (fun h2 => ?_) (fun h2 => ?_)
    · refine v_iconst dX3_isThingRow_16 ?_
      exact v_zret rfl (by decide) (by decide) (Or.inl rfl) dX3_isThingRow_17 ⟨rfl, rfl, Or.inr ⟨rfl, by omega⟩⟩
    · refine v_iconst dX3_isThingRow_12 ?_
      refine v_goto dX3_isThingRow_13 ?_
      exact v_zret rfl (by decide) (by decide) (Or.inr rfl) dX3_isThingRow_17 ⟨rfl, rfl, Or.inl ⟨rfl, by omega⟩⟩
theorem tX3_isUnmade {E : w_E} {G : w_Sh} {I : w_Mm} {k : Int} (hk : inR k) : w_Cb E mX3_isUnmade 0 [iv k] G I (100 ≤ k) := by
  refine w_Ct.of (ls := [some (iv k)]) (by decide +kernel) (Nat.le_of_ble_eq_true rfl) rfl rfl (fun rng => ?_)
  refine v_iload_n dX3_isUnmade_0 rfl ?_
  refine v_bipush dX3_isUnmade_1 (by decide) ?_
  refine v_icmp_lt hk ⟨by decide, by decide⟩ dX3_isUnmade_3 (fun h1 => ?_) (fun h1 => ?_)
  · refine v_iconst dX3_isUnmade_10 ?_
    exact v_zret rfl (by decide) (by decide) (Or.inl rfl) dX3_isUnmade_11 ⟨rfl, rfl, Or.inr ⟨rfl, by omega⟩⟩
  · refine v_iconst dX3_isUnmade_6 ?_
    refine v_goto dX3_isUnmade_7 ?_
    exact v_zret rfl (by decide) (by decide) (Or.inr rfl) dX3_isUnmade_11 ⟨rfl, rfl, Or.inl ⟨rfl, by omega⟩⟩
theorem tX3_isReference {E : w_E} {G : w_Sh} {I : w_Mm} {k : Int} (hk : inR k) : w_Cb E mX3_isReference 0 [iv k] G I (kRef k) := by
  refine w_Ct.of (ls := [some (iv k)]) (by decide +kernel) (Nat.le_of_ble_eq_true rfl) rfl rfl (fun rng => ?_)
  refine v_iload_n dX3_isReference_0 rfl ?_
  refine v_iconst dX3_isReference_1 ?_
  refine v_icmp_eq hk ⟨by decide, by decide⟩ dX3_isReference_2 (fun h1 => ?_) (fun h1 => ?_)
  · refine v_iconst dX3_isReference_22 ?_
    refine v_goto dX3_isReference_23 ?_
    exact v_zret rfl (by decide) (by decide) (Or.inr rfl) dX3_isReference_27 ⟨rfl, rfl, Or.inl ⟨rfl, by omega⟩⟩
  · refine v_iload_n dX3_isReference_5 rfl ?_
    refine v_iconst dX3_isReference_6 ?_
    refine v_icmp_eq hk ⟨by decide, by decide⟩ dX3_isReference_7 (fun h2 => ?_) (fun h2 => ?_)
    · refine v_iconst dX3_isReference_22 ?_
      refine v_goto dX3_isReference_23 ?_
      exact v_zret rfl (by decide) (by decide) (Or.inr rfl) dX3_isReference_27 ⟨rfl, rfl, Or.inl ⟨rfl, by omega⟩⟩
    · refine v_iload_n dX3_isReference_10 rfl ?_
      refine v_bipush dX3_isReference_11 (by decide) ?_
      refine v_icmp_lt hk ⟨by decide, by decide⟩ dX3_isReference_13 (fun h3 => ?_) (fun h3 => ?_)
      · refine v_iconst dX3_isReference_26 ?_
        exact v_zret rfl (by decide) (by decide) (Or.inl rfl) dX3_isReference_27 ⟨rfl, rfl, Or.inr ⟨rfl, by omega⟩⟩
      · refine v_iload_n dX3_isReference_16 rfl ?_
        refine v_bipush dX3_isReference_17 (by decide) ?_
        refine v_icmp_ge hk ⟨by decide, by decide⟩ dX3_isReference_19 (fun h4 => ?_) (fun h4 => ?_)
        · refine v_iconst dX3_isReference_26 ?_
          exact v_zret rfl (by decide) (by decide) (Or.inl rfl) dX3_isReference_27 ⟨rfl, rfl, Or.inr ⟨rfl, by omega⟩⟩
        · refine v_iconst dX3_isReference_22 ?_
          refine v_goto dX3_isReference_23 ?_
          exact v_zret rfl (by decide) (by decide) (Or.inr rfl) dX3_isReference_27 ⟨rfl, rfl, Or.inl ⟨rfl, by omega⟩⟩
theorem tX0_has {E : w_E} {G : w_Sh} {I : w_Mm} {c : Nat} {Q : cS} (hC : isC G c) (hQ : clsOK I c Q) {x : Int} (hx : inR x) : w_Cb E mX0_has 0 [.ref c, iv x] G I (hasC Q x) := by
  obtain ⟨hn, hn2, hn16, hA, hF⟩ := hQ
  obtain ⟨hT0, hR0, hR1, hT1, hT2⟩ := hC
  refine w_Ct.of (ls := [some (.ref c), some (iv x)]) (by decide +kernel) (Nat.le_of_ble_eq_true rfl) rfl rfl (fun rng => ?_)
  refine v_iload_n dX0_has_0 rfl ?_
  refine v_if_lt hx dX0_has_1 (fun h1 => ?_) (fun h1 => ?_)
  · refine v_iconst dX0_has_16 ?_
    exact v_zret rfl (by decide) (by decide) (Or.inl rfl) dX0_has_17 ⟨rfl, rfl, Or.inr ⟨rfl, by omega⟩⟩
  · refine v_iload_n dX0_has_4 rfl ?_
    refine v_aload_n dX0_has_5 rfl ?_
    refine v_getI' (v := (Q.1 : Int)) hn fX0_19 rfl (by assumption) dX0_has_6 ?_
    refine v_icmp_ge hx ⟨by omega, by omega⟩ dX0_has_9 (fun h2 => ?_) (fun h2 => ?_)
    · refine v_iconst dX0_has_16 ?_
      exact v_zret rfl (by decide) (by decide) (Or.inl rfl) dX0_has_17 ⟨rfl, rfl, Or.inr ⟨rfl, by omega⟩⟩
    · refine v_iconst dX0_has_12 ?_
      refine v_goto dX0_has_13 ?_
      exact v_zret rfl (by decide) (by decide) (Or.inr rfl) dX0_has_17 ⟨rfl, rfl, Or.inl ⟨rfl, by omega⟩⟩
theorem tX0_isFull {E : w_E} {G : w_Sh} {I : w_Mm} {c : Nat} {Q : cS} (hC : isC G c) (hQ : clsOK I c Q) : w_Cb E mX0_isFull 0 [.ref c] G I (Q.1 = 16) := by
  obtain ⟨hn, hn2, hn16, hA, hF⟩ := hQ
  obtain ⟨hT0, hR0, hR1, hT1, hT2⟩ := hC
  refine w_Ct.of (ls := [some (.ref c)]) (by decide +kernel) (Nat.le_of_ble_eq_true rfl) rfl rfl (fun rng => ?_)
  refine v_aload_n dX0_isFull_0 rfl ?_
  refine v_getI' (v := (Q.1 : Int)) hn fX0_19 rfl (by assumption) dX0_isFull_1 ?_
  refine v_bipush dX0_isFull_4 (by decide) ?_
  refine v_icmp_lt ⟨by omega, by omega⟩ ⟨by decide, by decide⟩ dX0_isFull_6 (fun h1 => ?_) (fun h1 => ?_)
  · refine v_iconst dX0_isFull_13 ?_
    exact v_zret rfl (by decide) (by decide) (Or.inl rfl) dX0_isFull_14 ⟨rfl, rfl, Or.inr ⟨rfl, by omega⟩⟩
  · refine v_iconst dX0_isFull_9 ?_
    refine v_goto dX0_isFull_10 ?_
    exact v_zret rfl (by decide) (by decide) (Or.inr rfl) dX0_isFull_14 ⟨rfl, rfl, Or.inl ⟨rfl, by omega⟩⟩
theorem tX0_isFace {E : w_E} {G : w_Sh} {I : w_Mm} {c : Nat} {Q : cS} (hC : isC G c) (hQ : clsOK I c Q) {x : Int} (hx : inR x) : w_Cb E mX0_isFace 1 [.ref c, iv x] G I (hasC Q x ∧ ¬ Q.2.2 x.toNat = 0) := by
  have hQ0 := hQ
  have hC0 := hC
  obtain ⟨hn, hn2, hn16, hA, hF⟩ := hQ
  obtain ⟨hT0, hR0, hR1, hT1, hT2⟩ := hC
  refine w_Ct.of (ls := [some (.ref c), some (iv x)]) (by decide +kernel) (Nat.le_of_ble_eq_true rfl) rfl rfl (fun rng => ?_)
  refine v_aload_n dX0_isFace_0 rfl ?_
  refine v_iload_n dX0_isFace_1 rfl ?_
  refine v_Vb (tX0_has hC0 hQ0 hx) kX0_23 (by assumption) rfl rfl ⟨by decide, by decide⟩ ⟨by decide, by decide⟩ (Nat.le_of_ble_eq_true rfl) dX0_isFace_2 (fun h1 => ?_) (fun h1 => ?_)
  · refine v_if_eq ⟨by decide, by decide⟩ dX0_isFace_5 (fun h => by exfalso; omega) (fun hb5 => ?_)
    refine v_aload_n dX0_isFace_8 rfl ?_
    refine v_getR fX0_15 rfl (by assumption) (by assumption) dX0_isFace_9 ?_
    refine v_iload_n dX0_isFace_12 rfl ?_
    refine v_zald' (i := (x).toNat) (v := (Q.2.2 (x).toNat)) (hF (x).toNat (by omega)).1 (by assumption) (by omega) (by omega) (by omega) dX0_isFace_13 ?_
    refine v_if_eq (by rw [← (hF (x).toNat (by omega)).1]; exact rng _ _) dX0_isFace_14 (fun h2 => ?_) (fun h2 => ?_)
    · refine v_iconst dX0_isFace_21 ?_
      exact v_zret rfl (by decide) (by decide) (Or.inl rfl) dX0_isFace_22 ⟨rfl, rfl, Or.inr ⟨rfl, by omega⟩⟩
    · refine v_iconst dX0_isFace_17 ?_
      refine v_goto dX0_isFace_18 ?_
      exact v_zret rfl (by decide) (by decide) (Or.inr rfl) dX0_isFace_22 ⟨rfl, rfl, Or.inl ⟨rfl, by omega⟩⟩
  · refine v_if_eq ⟨by decide, by decide⟩ dX0_isFace_5 (fun hb5 => ?_) (fun h => by exfalso; omega)
    refine v_iconst dX0_isFace_21 ?_
    exact v_zret rfl (by decide) (by decide) (Or.inl rfl) dX0_isFace_22 ⟨rfl, rfl, Or.inr ⟨rfl, by omega⟩⟩
theorem tX0_suits {E : w_E} {G : w_Sh} {I : w_Mm} {c : Nat} {Q : cS} (hC : isC G c) (hQ : clsOK I c Q) {x y : Int} (hx : inR x) (hy : inR y) : w_Cb E mX0_suits 0 [.ref c, iv x, iv y] G I (fitC Q x y) := by
  obtain ⟨hn, hn2, hn16, hA, hF⟩ := hQ
  obtain ⟨hT0, hR0, hR1, hT1, hT2⟩ := hC
  refine w_Ct.of (ls := [some (.ref c), some (iv x), some (iv y)]) (by decide +kernel) (Nat.le_of_ble_eq_true rfl) rfl rfl (fun rng => ?_)
  refine v_iload_n dX0_suits_0 rfl ?_
  refine v_if_lt hx dX0_suits_1 (fun h1 => ?_) (fun h1 => ?_)
  · refine v_iconst dX0_suits_24 ?_
    exact v_zret rfl (by decide) (by decide) (Or.inl rfl) dX0_suits_25 ⟨rfl, rfl, Or.inr ⟨rfl, by omega⟩⟩
  · refine v_iload_n dX0_suits_4 rfl ?_
    refine v_aload_n dX0_suits_5 rfl ?_
    refine v_getI' (v := (Q.1 : Int)) hn fX0_19 rfl (by assumption) dX0_suits_6 ?_
    refine v_icmp_ge hx ⟨by omega, by omega⟩ dX0_suits_9 (fun h2 => ?_) (fun h2 => ?_)
    · refine v_iconst dX0_suits_24 ?_
      exact v_zret rfl (by decide) (by decide) (Or.inl rfl) dX0_suits_25 ⟨rfl, rfl, Or.inr ⟨rfl, by omega⟩⟩
    · refine v_iload_n dX0_suits_12 rfl ?_
      refine v_if_lt hy dX0_suits_13 (fun h3 => ?_) (fun h3 => ?_)
      · refine v_iconst dX0_suits_24 ?_
        exact v_zret rfl (by decide) (by decide) (Or.inl rfl) dX0_suits_25 ⟨rfl, rfl, Or.inr ⟨rfl, by omega⟩⟩
      · refine v_iload_n dX0_suits_16 rfl ?_
        refine v_aload_n dX0_suits_17 rfl ?_
        refine v_getI' (v := (Q.1 : Int)) hn fX0_19 rfl (by assumption) dX0_suits_18 ?_
        refine v_icmp_lt hy ⟨by omega, by omega⟩ dX0_suits_21 (fun h4 => ?_) (fun h4 => ?_)
        · refine v_aload_n dX0_suits_26 rfl ?_
          refine v_getR fX0_15 rfl (by assumption) (by assumption) dX0_suits_27 ?_
          refine v_iload_n dX0_suits_30 rfl ?_
          refine v_zald' (i := (y).toNat) (v := (Q.2.2 (y).toNat)) (hF (y).toNat (by omega)).1 (by assumption) (by omega) (by omega) (by omega) dX0_suits_31 ?_
          refine v_if_ne (by rw [← (hF (y).toNat (by omega)).1]; exact rng _ _) dX0_suits_32 (fun h5 => ?_) (fun h5 => ?_)
          · refine v_iconst dX0_suits_49 ?_
            refine v_goto dX0_suits_50 ?_
            exact v_zret rfl (by decide) (by decide) (Or.inr rfl) dX0_suits_54 ⟨rfl, rfl, Or.inl ⟨rfl, by omega⟩⟩
          · refine v_aload_n dX0_suits_35 rfl ?_
            refine v_getR fX0_9 rfl (by assumption) (by assumption) dX0_suits_36 ?_
            refine v_iload_n dX0_suits_39 rfl ?_
            refine v_iald' (i := (x).toNat) (v := ((Q.2.1 (x).toNat : Nat) : Int)) (hA (x).toNat (by omega)).1 (by assumption) (by omega) (by omega) (by omega) dX0_suits_40 ?_
            refine v_iload_n dX0_suits_41 rfl ?_
            refine v_ishr (z := ((Q.2.1 (x).toNat / 2 ^ (y).toNat : Nat) : Int)) (by first | exact sh_r (Q.2.1 (x).toNat) ((y).toNat) (Nat.lt_trans (hA (x).toNat (by omega)).2 (by decide)) (by omega) | (rw [show (y : Int) = (((y).toNat : Nat) : Int) by omega]; exact sh_r (Q.2.1 (x).toNat) ((y).toNat) (Nat.lt_trans (hA (x).toNat (by omega)).2 (by decide)) (by omega))) dX0_suits_42 ?_
            refine v_iconst dX0_suits_43 ?_
            refine v_iand (z := (((Q.2.1 (x).toNat / 2 ^ (y).toNat) % 2 : Nat) : Int)) (an_1 ((Q.2.1 (x).toNat / 2 ^ (y).toNat)) (Nat.lt_trans (div_lt16 (hA (x).toNat (by omega)).2) (by decide))) dX0_suits_44 ?_
            refine v_iconst dX0_suits_45 ?_
            refine v_icmp_ne (inR_nat (Nat.lt_trans (Nat.mod_lt _ (by decide)) (by decide))) ⟨by decide, by decide⟩ dX0_suits_46 (fun h6 => ?_) (fun h6 => ?_)
            · refine v_iconst dX0_suits_53 ?_
              exact v_zret rfl (by decide) (by decide) (Or.inl rfl) dX0_suits_54 ⟨rfl, rfl, Or.inr ⟨rfl, by omega⟩⟩
            · refine v_iconst dX0_suits_49 ?_
              refine v_goto dX0_suits_50 ?_
              exact v_zret rfl (by decide) (by decide) (Or.inr rfl) dX0_suits_54 ⟨rfl, rfl, Or.inl ⟨rfl, by omega⟩⟩
        · refine v_iconst dX0_suits_24 ?_
          exact v_zret rfl (by decide) (by decide) (Or.inl rfl) dX0_suits_25 ⟨rfl, rfl, Or.inr ⟨rfl, by omega⟩⟩
theorem tX0_nearest {E : w_E} {G : w_Sh} {I : w_Mm} {c : Nat} {Q : cS} (hC : isC G c) (hQ : clsOK I c Q) {x y : Int} (hx : inR x) (hy : inR y) : w_Cm E mX0_nearest 0 [.ref c, iv x, iv y] G I (nearC Q x y) I := by
  obtain ⟨hn, hn2, hn16, hA, hF⟩ := hQ
  obtain ⟨hT0, hR0, hR1, hT1, hT2⟩ := hC
  refine w_Ct.of (ls := [some (.ref c), some (iv x), some (iv y), none, none]) (by decide +kernel) (Nat.le_of_ble_eq_true rfl) rfl rfl (fun rng => ?_)
  refine v_iload_n dX0_nearest_0 rfl ?_
  refine v_if_lt hx dX0_nearest_1 (fun h1 => ?_) (fun h1 => ?_)
  · refine v_iconst dX0_nearest_24 ?_
    exact v_iret rfl (by decide) (by decide) ⟨by decide, by decide⟩ dX0_nearest_25 ⟨(if_neg (by omega)).symm, rfl, rfl⟩
  · refine v_iload_n dX0_nearest_4 rfl ?_
    refine v_aload_n dX0_nearest_5 rfl ?_
    refine v_getI' (v := (Q.1 : Int)) hn fX0_19 rfl (by assumption) dX0_nearest_6 ?_
    refine v_icmp_ge hx ⟨by omega, by omega⟩ dX0_nearest_9 (fun h2 => ?_) (fun h2 => ?_)
    · refine v_iconst dX0_nearest_24 ?_
      exact v_iret rfl (by decide) (by decide) ⟨by decide, by decide⟩ dX0_nearest_25 ⟨(if_neg (by omega)).symm, rfl, rfl⟩
    · refine v_iload_n dX0_nearest_12 rfl ?_
      refine v_if_lt hy dX0_nearest_13 (fun h3 => ?_) (fun h3 => ?_)
      · refine v_iconst dX0_nearest_24 ?_
        exact v_iret rfl (by decide) (by decide) ⟨by decide, by decide⟩ dX0_nearest_25 ⟨(if_neg (by omega)).symm, rfl, rfl⟩
      · refine v_iload_n dX0_nearest_16 rfl ?_
        refine v_aload_n dX0_nearest_17 rfl ?_
        refine v_getI' (v := (Q.1 : Int)) hn fX0_19 rfl (by assumption) dX0_nearest_18 ?_
        refine v_icmp_lt hy ⟨by omega, by omega⟩ dX0_nearest_21 (fun h4 => ?_) (fun h4 => ?_)
        · refine v_aload_n dX0_nearest_26 rfl ?_
          refine v_getR fX0_9 rfl (by assumption) (by assumption) dX0_nearest_27 ?_
          refine v_iload_n dX0_nearest_30 rfl ?_
          refine v_iald' (i := (x).toNat) (v := ((Q.2.1 (x).toNat : Nat) : Int)) (hA (x).toNat (by omega)).1 (by assumption) (by omega) (by omega) (by omega) dX0_nearest_31 ?_
          refine v_aload_n dX0_nearest_32 rfl ?_
          refine v_getR fX0_9 rfl (by assumption) (by assumption) dX0_nearest_33 ?_
          refine v_iload_n dX0_nearest_36 rfl ?_
          refine v_iald' (i := (y).toNat) (v := ((Q.2.1 (y).toNat : Nat) : Int)) (hA (y).toNat (by omega)).1 (by assumption) (by omega) (by omega) (by omega) dX0_nearest_37 ?_
          refine v_iand (z := ((Q.2.1 (x).toNat &&& Q.2.1 (y).toNat : Nat) : Int)) (an_nat _ _) dX0_nearest_38 ?_
          refine v_istore_n dX0_nearest_39 (by decide) rfl ?_
          refine v_aload_n dX0_nearest_40 rfl ?_
          refine v_getI' (v := (Q.1 : Int)) hn fX0_19 rfl (by assumption) dX0_nearest_41 ?_
          refine v_iconst dX0_nearest_44 ?_
          refine v_isub dX0_nearest_45 ?_
          refine v_istore dX0_nearest_46 (by decide) rfl ?_
          have hm : Q.2.1 (x).toNat &&& Q.2.1 (y).toNat < 65536 := and_lt (n := 16) (hA (x).toNat (by omega)).2
          have hin : hasC Q x ∧ hasC Q y := ⟨⟨by omega, by omega⟩, ⟨by omega, by omega⟩⟩
          have hne : nearC Q x y = ((nearF (Q.2.1 (x).toNat &&& Q.2.1 (y).toNat) (Q.1 - 1) : Nat) : Int) := if_pos hin
          rw [hne]
          generalize hmm : Q.2.1 (x).toNat &&& Q.2.1 (y).toNat = mm at hm ⊢
          have loop : ∀ q : Nat, q < 16 → ∀ z : Int, z = ((nearF mm q : Nat) : Int) → w_V E mX0_nearest (w_rm 0 0 0) (w_Z E 0 0 (w_Pi (fun r G' I' => r = z ∧ G' = G ∧ I' = I))) G I 0 0 48 [some (.ref c), some (iv x), some (iv y), some (iv (mm : Int)), some (iv (q : Int))] [] := by
            intro q
            induction q with
            | zero =>
              intro _ z hz
              refine v_iload dX0_nearest_48 rfl ?_
              refine v_if_le ⟨by decide, by decide⟩ dX0_nearest_50 (fun hb50 => ?_) (fun h => by exfalso; omega)
              refine v_iconst dX0_nearest_72 ?_
              exact v_iret rfl (by decide) (by decide) ⟨by decide, by decide⟩ dX0_nearest_73 ⟨by rw [hz]; rfl, rfl, rfl⟩
            | succ q ih =>
              intro hq z hz
              refine v_iload dX0_nearest_48 rfl ?_
              refine v_if_le ⟨by omega, by omega⟩ dX0_nearest_50 (fun h => by exfalso; omega) (fun hb50 => ?_)
              refine v_iload_n dX0_nearest_53 rfl ?_
              refine v_iload dX0_nearest_54 rfl ?_
              refine v_ishr (z := ((mm / 2 ^ (q + 1) : Nat) : Int)) (by first | exact sh_r (mm) ((q + 1)) (Nat.lt_trans hm (by decide)) (by omega) | (rw [show ((((q + 1) : Nat) : Int) : Int) = (((q + 1) : Nat) : Int) by omega]; exact sh_r (mm) ((q + 1)) (Nat.lt_trans hm (by decide)) (by omega))) dX0_nearest_56 ?_
              refine v_iconst dX0_nearest_57 ?_
              refine v_iand (z := (((mm / 2 ^ (q + 1)) % 2 : Nat) : Int)) (an_1 ((mm / 2 ^ (q + 1))) (Nat.lt_trans (div_lt16 hm) (by decide))) dX0_nearest_58 ?_
              refine v_iconst dX0_nearest_59 ?_
              refine v_icmp_ne (inR_nat (Nat.lt_trans (Nat.mod_lt _ (by decide)) (by decide))) ⟨by decide, by decide⟩ dX0_nearest_60 (fun h5 => ?_) (fun h5 => ?_)
              · refine v_iinc dX0_nearest_66 rfl (by decide) rfl rfl ?_
                refine v_goto dX0_nearest_69 ?_
                refine v_ls (ls' := [some (.ref c), some (iv x), some (iv y), some (iv (mm : Int)), some (iv (q : Int))]) (by show [_, _, _, _, some (iv (((q + 1 : Nat) : Int) + -1))] = _; rw [show (((q + 1 : Nat) : Int) + -1) = ((q : Nat) : Int) by omega]) ?_
                exact ih (by omega) z (by rw [hz, nearF_s, if_neg (by omega)])
              · refine v_iload dX0_nearest_63 rfl ?_
                exact v_iret rfl (by decide) (by decide) ⟨by omega, by omega⟩ dX0_nearest_65 ⟨by rw [hz, nearF_s, if_pos (by omega)], rfl, rfl⟩
          have hq : ((Q.1 : Int) - 1) = ((Q.1 - 1 : Nat) : Int) := by omega
          refine v_ls (ls' := [some (.ref c), some (iv x), some (iv y), some (iv (mm : Int)), some (iv ((Q.1 - 1 : Nat) : Int))]) (by rw [← hq]; rfl) ?_
          exact loop (Q.1 - 1) (by omega) _ rfl
        · refine v_iconst dX0_nearest_24 ?_
          exact v_iret rfl (by decide) (by decide) ⟨by decide, by decide⟩ dX0_nearest_25 ⟨(if_neg (by omega)).symm, rfl, rfl⟩
theorem tX0_add {E : w_E} {G : w_Sh} {I : w_Mm} {c : Nat} {Q : cS} (hC : isC G c) (hQ : clsOK I c Q) (hf : Q.1 < 16) {x : Int} (hx : inR x) {hi : Nat} {fz : Int} (hhi : (hasC Q x ∧ hi = Q.2.1 x.toNat) ∨ (¬ hasC Q x ∧ hi = 1)) (hfz : (x = -1 ∧ fz = 1) ∨ (¬ x = -1 ∧ fz = 0)) : w_Cm E mX0_add 1 [.ref c, iv x] G I (Q.1 : Int) (w_up (w_up (w_up I (c + 1) Q.1 ((2 ^ Q.1 ||| hi : Nat) : Int)) (c + 2) Q.1 fz) c 2 ((Q.1 : Int) + 1)) := by
  have hQ0 := hQ
  have hC0 := hC
  obtain ⟨hn, hn2, hn16, hA, hF⟩ := hQ
  obtain ⟨hT0, hR0, hR1, hT1, hT2⟩ := hC
  refine w_Ct.of (ls := [some (.ref c), some (iv x), none]) (by decide +kernel) (Nat.le_of_ble_eq_true rfl) rfl rfl (fun rng => ?_)
  rcases hhi with ⟨hh, rfl⟩ | ⟨hh, rfl⟩ <;> rcases hfz with ⟨hz, rfl⟩ | ⟨hz, rfl⟩
  · refine v_aload_n dX0_add_0 rfl ?_
    refine v_iload_n dX0_add_1 rfl ?_
    refine v_Vb (tX0_has hC0 hQ0 hx) kX0_23 (by assumption) rfl rfl ⟨by decide, by decide⟩ ⟨by decide, by decide⟩ (Nat.le_of_ble_eq_true rfl) dX0_add_2 (fun h1 => ?_) (fun h1 => by exfalso; omega)
    refine v_if_eq ⟨by decide, by decide⟩ dX0_add_5 (fun h => by exfalso; omega) (fun hb5 => ?_)
    refine v_aload_n dX0_add_8 rfl ?_
    refine v_getR fX0_9 rfl (by assumption) (by assumption) dX0_add_9 ?_
    refine v_iload_n dX0_add_12 rfl ?_
    refine v_iald' (i := (x).toNat) (v := ((Q.2.1 (x).toNat : Nat) : Int)) (hA (x).toNat (by omega)).1 (by assumption) (by omega) (by omega) (by omega) dX0_add_13 ?_
    refine v_goto dX0_add_14 ?_
    refine v_istore_n dX0_add_18 (by decide) rfl ?_
    refine v_aload_n dX0_add_19 rfl ?_
    refine v_getR fX0_9 rfl (by assumption) (by assumption) dX0_add_20 ?_
    refine v_aload_n dX0_add_23 rfl ?_
    refine v_getI' (v := (Q.1 : Int)) hn fX0_19 rfl (by assumption) dX0_add_24 ?_
    refine v_iconst dX0_add_27 ?_
    refine v_aload_n dX0_add_28 rfl ?_
    refine v_getI' (v := (Q.1 : Int)) hn fX0_19 rfl (by assumption) dX0_add_29 ?_
    refine v_ishl (z := ((2 ^ Q.1 : Nat) : Int)) (sh_l _ hf) dX0_add_32 ?_
    refine v_iload_n dX0_add_33 rfl ?_
    refine v_ior (z := ((2 ^ Q.1 ||| Q.2.1 (x).toNat : Nat) : Int)) (or_nat _ _) dX0_add_34 ?_
    refine v_iast (i := Q.1) (by assumption) (by omega) (by omega) (by omega) ⟨by have := or_lt (pow_lt hf) (hA (x).toNat (by omega)).2; omega, by have := or_lt (pow_lt hf) (hA (x).toNat (by omega)).2; omega⟩ dX0_add_35 ?_
    have rng2 := w_rng (a := c + 1) (f := Q.1) rng (show inR (((2 ^ Q.1 ||| Q.2.1 (x).toNat : Nat) : Int)) from ⟨by have := or_lt (pow_lt hf) (hA (x).toNat (by omega)).2; omega, by have := or_lt (pow_lt hf) (hA (x).toNat (by omega)).2; omega⟩)
    refine v_aload_n dX0_add_36 rfl ?_
    refine v_getR fX0_15 rfl (by assumption) (by assumption) dX0_add_37 ?_
    refine v_aload_n dX0_add_40 rfl ?_
    refine v_getI' (v := (Q.1 : Int)) (by rw [w_up_n (by omega), hn]) fX0_19 rfl (by assumption) dX0_add_41 ?_
    refine v_iload_n dX0_add_44 rfl ?_
    refine v_iconst dX0_add_45 ?_
    refine v_icmp_ne hx ⟨by decide, by decide⟩ dX0_add_46 (fun h => by exfalso; omega) (fun hb46 => ?_)
    refine v_iconst dX0_add_49 ?_
    refine v_goto dX0_add_50 ?_
    refine v_zast (i := Q.1) (by assumption) (by omega) (by omega) (by omega) (Or.inr rfl) dX0_add_54 ?_
    have rng3 := w_rng (a := c + 2) (f := Q.1) rng2 (show inR (1) from ⟨by decide, by decide⟩)
    refine v_aload_n dX0_add_55 rfl ?_
    refine v_dup dX0_add_56 rfl ?_
    refine v_getI' (v := (Q.1 : Int)) (by rw [w_up_n (by omega), w_up_n (by omega), hn]) fX0_19 rfl (by assumption) dX0_add_57 ?_
    refine v_iconst dX0_add_60 ?_
    refine v_iadd dX0_add_61 ?_
    refine v_putI fX0_19 p0_2 rfl ⟨by omega, by omega⟩ (by assumption) dX0_add_62 ?_
    have rng4 := w_rng (a := c) (f := 2) rng3 (show inR (((Q.1 : Int) + 1)) from ⟨by omega, by omega⟩)
    refine v_aload_n dX0_add_65 rfl ?_
    refine v_getI' (v := ((Q.1 : Int) + 1)) (by rw [w_up_s]) fX0_19 rfl (by assumption) dX0_add_66 ?_
    refine v_iconst dX0_add_69 ?_
    refine v_isub dX0_add_70 ?_
    exact v_iret rfl (by decide) (by decide) ⟨by omega, by omega⟩ dX0_add_71 ⟨(by omega), rfl, rfl⟩
  · refine v_aload_n dX0_add_0 rfl ?_
    refine v_iload_n dX0_add_1 rfl ?_
    refine v_Vb (tX0_has hC0 hQ0 hx) kX0_23 (by assumption) rfl rfl ⟨by decide, by decide⟩ ⟨by decide, by decide⟩ (Nat.le_of_ble_eq_true rfl) dX0_add_2 (fun h1 => ?_) (fun h1 => by exfalso; omega)
    refine v_if_eq ⟨by decide, by decide⟩ dX0_add_5 (fun h => by exfalso; omega) (fun hb5 => ?_)
    refine v_aload_n dX0_add_8 rfl ?_
    refine v_getR fX0_9 rfl (by assumption) (by assumption) dX0_add_9 ?_
    refine v_iload_n dX0_add_12 rfl ?_
    refine v_iald' (i := (x).toNat) (v := ((Q.2.1 (x).toNat : Nat) : Int)) (hA (x).toNat (by omega)).1 (by assumption) (by omega) (by omega) (by omega) dX0_add_13 ?_
    refine v_goto dX0_add_14 ?_
    refine v_istore_n dX0_add_18 (by decide) rfl ?_
    refine v_aload_n dX0_add_19 rfl ?_
    refine v_getR fX0_9 rfl (by assumption) (by assumption) dX0_add_20 ?_
    refine v_aload_n dX0_add_23 rfl ?_
    refine v_getI' (v := (Q.1 : Int)) hn fX0_19 rfl (by assumption) dX0_add_24 ?_
    refine v_iconst dX0_add_27 ?_
    refine v_aload_n dX0_add_28 rfl ?_
    refine v_getI' (v := (Q.1 : Int)) hn fX0_19 rfl (by assumption) dX0_add_29 ?_
    refine v_ishl (z := ((2 ^ Q.1 : Nat) : Int)) (sh_l _ hf) dX0_add_32 ?_
    refine v_iload_n dX0_add_33 rfl ?_
    refine v_ior (z := ((2 ^ Q.1 ||| Q.2.1 (x).toNat : Nat) : Int)) (or_nat _ _) dX0_add_34 ?_
    refine v_iast (i := Q.1) (by assumption) (by omega) (by omega) (by omega) ⟨by have := or_lt (pow_lt hf) (hA (x).toNat (by omega)).2; omega, by have := or_lt (pow_lt hf) (hA (x).toNat (by omega)).2; omega⟩ dX0_add_35 ?_
    have rng2 := w_rng (a := c + 1) (f := Q.1) rng (show inR (((2 ^ Q.1 ||| Q.2.1 (x).toNat : Nat) : Int)) from ⟨by have := or_lt (pow_lt hf) (hA (x).toNat (by omega)).2; omega, by have := or_lt (pow_lt hf) (hA (x).toNat (by omega)).2; omega⟩)
    refine v_aload_n dX0_add_36 rfl ?_
    refine v_getR fX0_15 rfl (by assumption) (by assumption) dX0_add_37 ?_
    refine v_aload_n dX0_add_40 rfl ?_
    refine v_getI' (v := (Q.1 : Int)) (by rw [w_up_n (by omega), hn]) fX0_19 rfl (by assumption) dX0_add_41 ?_
    refine v_iload_n dX0_add_44 rfl ?_
    refine v_iconst dX0_add_45 ?_
    refine v_icmp_ne hx ⟨by decide, by decide⟩ dX0_add_46 (fun hb46 => ?_) (fun h => by exfalso; omega)
    refine v_iconst dX0_add_53 ?_
    refine v_zast (i := Q.1) (by assumption) (by omega) (by omega) (by omega) (Or.inl rfl) dX0_add_54 ?_
    have rng3 := w_rng (a := c + 2) (f := Q.1) rng2 (show inR (0) from ⟨by decide, by decide⟩)
    refine v_aload_n dX0_add_55 rfl ?_
    refine v_dup dX0_add_56 rfl ?_
    refine v_getI' (v := (Q.1 : Int)) (by rw [w_up_n (by omega), w_up_n (by omega), hn]) fX0_19 rfl (by assumption) dX0_add_57 ?_
    refine v_iconst dX0_add_60 ?_
    refine v_iadd dX0_add_61 ?_
    refine v_putI fX0_19 p0_2 rfl ⟨by omega, by omega⟩ (by assumption) dX0_add_62 ?_
    have rng4 := w_rng (a := c) (f := 2) rng3 (show inR (((Q.1 : Int) + 1)) from ⟨by omega, by omega⟩)
    refine v_aload_n dX0_add_65 rfl ?_
    refine v_getI' (v := ((Q.1 : Int) + 1)) (by rw [w_up_s]) fX0_19 rfl (by assumption) dX0_add_66 ?_
    refine v_iconst dX0_add_69 ?_
    refine v_isub dX0_add_70 ?_
    exact v_iret rfl (by decide) (by decide) ⟨by omega, by omega⟩ dX0_add_71 ⟨(by omega), rfl, rfl⟩
  · refine v_aload_n dX0_add_0 rfl ?_
    refine v_iload_n dX0_add_1 rfl ?_
    refine v_Vb (tX0_has hC0 hQ0 hx) kX0_23 (by assumption) rfl rfl ⟨by decide, by decide⟩ ⟨by decide, by decide⟩ (Nat.le_of_ble_eq_true rfl) dX0_add_2 (fun h1 => by exfalso; omega) (fun h1 => ?_)
    refine v_if_eq ⟨by decide, by decide⟩ dX0_add_5 (fun hb5 => ?_) (fun h => by exfalso; omega)
    refine v_iconst dX0_add_17 ?_
    refine v_istore_n dX0_add_18 (by decide) rfl ?_
    refine v_aload_n dX0_add_19 rfl ?_
    refine v_getR fX0_9 rfl (by assumption) (by assumption) dX0_add_20 ?_
    refine v_aload_n dX0_add_23 rfl ?_
    refine v_getI' (v := (Q.1 : Int)) hn fX0_19 rfl (by assumption) dX0_add_24 ?_
    refine v_iconst dX0_add_27 ?_
    refine v_aload_n dX0_add_28 rfl ?_
    refine v_getI' (v := (Q.1 : Int)) hn fX0_19 rfl (by assumption) dX0_add_29 ?_
    refine v_ishl (z := ((2 ^ Q.1 : Nat) : Int)) (sh_l _ hf) dX0_add_32 ?_
    refine v_iload_n dX0_add_33 rfl ?_
    refine v_ior (z := ((2 ^ Q.1 ||| 1 : Nat) : Int)) (or_nat _ _) dX0_add_34 ?_
    refine v_iast (i := Q.1) (by assumption) (by omega) (by omega) (by omega) ⟨by have := or_lt (pow_lt hf) (show 1 < 65536 by decide); omega, by have := or_lt (pow_lt hf) (show 1 < 65536 by decide); omega⟩ dX0_add_35 ?_
    have rng2 := w_rng (a := c + 1) (f := Q.1) rng (show inR (((2 ^ Q.1 ||| 1 : Nat) : Int)) from ⟨by have := or_lt (pow_lt hf) (show 1 < 65536 by decide); omega, by have := or_lt (pow_lt hf) (show 1 < 65536 by decide); omega⟩)
    refine v_aload_n dX0_add_36 rfl ?_
    refine v_getR fX0_15 rfl (by assumption) (by assumption) dX0_add_37 ?_
    refine v_aload_n dX0_add_40 rfl ?_
    refine v_getI' (v := (Q.1 : Int)) (by rw [w_up_n (by omega), hn]) fX0_19 rfl (by assumption) dX0_add_41 ?_
    refine v_iload_n dX0_add_44 rfl ?_
    refine v_iconst dX0_add_45 ?_
    refine v_icmp_ne hx ⟨by decide, by decide⟩ dX0_add_46 (fun h => by exfalso; omega) (fun hb46 => ?_)
    refine v_iconst dX0_add_49 ?_
    refine v_goto dX0_add_50 ?_
    refine v_zast (i := Q.1) (by assumption) (by omega) (by omega) (by omega) (Or.inr rfl) dX0_add_54 ?_
    have rng3 := w_rng (a := c + 2) (f := Q.1) rng2 (show inR (1) from ⟨by decide, by decide⟩)
    refine v_aload_n dX0_add_55 rfl ?_
    refine v_dup dX0_add_56 rfl ?_
    refine v_getI' (v := (Q.1 : Int)) (by rw [w_up_n (by omega), w_up_n (by omega), hn]) fX0_19 rfl (by assumption) dX0_add_57 ?_
    refine v_iconst dX0_add_60 ?_
    refine v_iadd dX0_add_61 ?_
    refine v_putI fX0_19 p0_2 rfl ⟨by omega, by omega⟩ (by assumption) dX0_add_62 ?_
    have rng4 := w_rng (a := c) (f := 2) rng3 (show inR (((Q.1 : Int) + 1)) from ⟨by omega, by omega⟩)
    refine v_aload_n dX0_add_65 rfl ?_
    refine v_getI' (v := ((Q.1 : Int) + 1)) (by rw [w_up_s]) fX0_19 rfl (by assumption) dX0_add_66 ?_
    refine v_iconst dX0_add_69 ?_
    refine v_isub dX0_add_70 ?_
    exact v_iret rfl (by decide) (by decide) ⟨by omega, by omega⟩ dX0_add_71 ⟨(by omega), rfl, rfl⟩
  · refine v_aload_n dX0_add_0 rfl ?_
    refine v_iload_n dX0_add_1 rfl ?_
    refine v_Vb (tX0_has hC0 hQ0 hx) kX0_23 (by assumption) rfl rfl ⟨by decide, by decide⟩ ⟨by decide, by decide⟩ (Nat.le_of_ble_eq_true rfl) dX0_add_2 (fun h1 => by exfalso; omega) (fun h1 => ?_)
    refine v_if_eq ⟨by decide, by decide⟩ dX0_add_5 (fun hb5 => ?_) (fun h => by exfalso; omega)
    refine v_iconst dX0_add_17 ?_
    refine v_istore_n dX0_add_18 (by decide) rfl ?_
    refine v_aload_n dX0_add_19 rfl ?_
    refine v_getR fX0_9 rfl (by assumption) (by assumption) dX0_add_20 ?_
    refine v_aload_n dX0_add_23 rfl ?_
    refine v_getI' (v := (Q.1 : Int)) hn fX0_19 rfl (by assumption) dX0_add_24 ?_
    refine v_iconst dX0_add_27 ?_
    refine v_aload_n dX0_add_28 rfl ?_
    refine v_getI' (v := (Q.1 : Int)) hn fX0_19 rfl (by assumption) dX0_add_29 ?_
    refine v_ishl (z := ((2 ^ Q.1 : Nat) : Int)) (sh_l _ hf) dX0_add_32 ?_
    refine v_iload_n dX0_add_33 rfl ?_
    refine v_ior (z := ((2 ^ Q.1 ||| 1 : Nat) : Int)) (or_nat _ _) dX0_add_34 ?_
    refine v_iast (i := Q.1) (by assumption) (by omega) (by omega) (by omega) ⟨by have := or_lt (pow_lt hf) (show 1 < 65536 by decide); omega, by have := or_lt (pow_lt hf) (show 1 < 65536 by decide); omega⟩ dX0_add_35 ?_
    have rng2 := w_rng (a := c + 1) (f := Q.1) rng (show inR (((2 ^ Q.1 ||| 1 : Nat) : Int)) from ⟨by have := or_lt (pow_lt hf) (show 1 < 65536 by decide); omega, by have := or_lt (pow_lt hf) (show 1 < 65536 by decide); omega⟩)
    refine v_aload_n dX0_add_36 rfl ?_
    refine v_getR fX0_15 rfl (by assumption) (by assumption) dX0_add_37 ?_
    refine v_aload_n dX0_add_40 rfl ?_
    refine v_getI' (v := (Q.1 : Int)) (by rw [w_up_n (by omega), hn]) fX0_19 rfl (by assumption) dX0_add_41 ?_
    refine v_iload_n dX0_add_44 rfl ?_
    refine v_iconst dX0_add_45 ?_
    refine v_icmp_ne hx ⟨by decide, by decide⟩ dX0_add_46 (fun hb46 => ?_) (fun h => by exfalso; omega)
    refine v_iconst dX0_add_53 ?_
    refine v_zast (i := Q.1) (by assumption) (by omega) (by omega) (by omega) (Or.inl rfl) dX0_add_54 ?_
    have rng3 := w_rng (a := c + 2) (f := Q.1) rng2 (show inR (0) from ⟨by decide, by decide⟩)
    refine v_aload_n dX0_add_55 rfl ?_
    refine v_dup dX0_add_56 rfl ?_
    refine v_getI' (v := (Q.1 : Int)) (by rw [w_up_n (by omega), w_up_n (by omega), hn]) fX0_19 rfl (by assumption) dX0_add_57 ?_
    refine v_iconst dX0_add_60 ?_
    refine v_iadd dX0_add_61 ?_
    refine v_putI fX0_19 p0_2 rfl ⟨by omega, by omega⟩ (by assumption) dX0_add_62 ?_
    have rng4 := w_rng (a := c) (f := 2) rng3 (show inR (((Q.1 : Int) + 1)) from ⟨by omega, by omega⟩)
    refine v_aload_n dX0_add_65 rfl ?_
    refine v_getI' (v := ((Q.1 : Int) + 1)) (by rw [w_up_s]) fX0_19 rfl (by assumption) dX0_add_66 ?_
    refine v_iconst dX0_add_69 ?_
    refine v_isub dX0_add_70 ?_
    exact v_iret rfl (by decide) (by decide) ⟨by omega, by omega⟩ dX0_add_71 ⟨(by omega), rfl, rfl⟩
theorem tX3_isOfClass {E : w_E} {G : w_Sh} {I : w_Mm} {q c : Nat} {Q : cS} (hK : isK G q c) (hQ : clsOK I c Q) {k : Int} (hk : inR k) : w_Cb E mX3_isOfClass 1 [.ref q, iv k] G I (ofC Q k) := by
  obtain ⟨hTq, hRq, hC⟩ := hK
  refine w_Ct.of (ls := [some (.ref q), some (iv k)]) (by decide +kernel) (Nat.le_of_ble_eq_true rfl) rfl rfl (fun rng => ?_)
  refine v_iload_n dX3_isOfClass_0 rfl ?_
  refine v_Sb (tX3_isThing hk) kX3_15 rfl rfl ⟨by decide, by decide⟩ ⟨by decide, by decide⟩ (Nat.le_of_ble_eq_true rfl) dX3_isOfClass_1 (fun h1 => ?_) (fun h1 => ?_)
  · refine v_if_eq ⟨by decide, by decide⟩ dX3_isOfClass_4 (fun h => by exfalso; omega) (fun hb4 => ?_)
    refine v_aload_n dX3_isOfClass_7 rfl ?_
    refine v_getR fX3_9 rfl (by assumption) (by assumption) dX3_isOfClass_8 ?_
    refine v_iload_n dX3_isOfClass_11 rfl ?_
    refine v_bipush dX3_isOfClass_12 (by decide) ?_
    refine v_isub dX3_isOfClass_14 ?_
    refine v_Vb (tX0_has hC hQ ⟨by omega, by omega⟩) kX3_19 hC.1 rfl rfl ⟨by decide, by decide⟩ ⟨by decide, by decide⟩ (Nat.le_of_ble_eq_true rfl) dX3_isOfClass_15 (fun h2 => ?_) (fun h2 => ?_)
    · refine v_if_ne ⟨by decide, by decide⟩ dX3_isOfClass_18 (fun hb18 => ?_) (fun h => by exfalso; omega)
      refine v_iconst dX3_isOfClass_42 ?_
      refine v_goto dX3_isOfClass_43 ?_
      exact v_zret rfl (by decide) (by decide) (Or.inr rfl) dX3_isOfClass_47 ⟨rfl, rfl, Or.inl ⟨rfl, by omega⟩⟩
    · refine v_if_ne ⟨by decide, by decide⟩ dX3_isOfClass_18 (fun h => by exfalso; omega) (fun hb18 => ?_)
      refine v_iload_n dX3_isOfClass_21 rfl ?_
      refine v_Sb (tX3_isThingRow hk) kX3_24 rfl rfl ⟨by decide, by decide⟩ ⟨by decide, by decide⟩ (Nat.le_of_ble_eq_true rfl) dX3_isOfClass_22 (fun h3 => ?_) (fun h3 => ?_)
      · refine v_if_eq ⟨by decide, by decide⟩ dX3_isOfClass_25 (fun h => by exfalso; omega) (fun hb25 => ?_)
        refine v_aload_n dX3_isOfClass_28 rfl ?_
        refine v_getR fX3_9 rfl (by assumption) (by assumption) dX3_isOfClass_29 ?_
        refine v_iload_n dX3_isOfClass_32 rfl ?_
        refine v_bipush dX3_isOfClass_33 (by decide) ?_
        refine v_isub dX3_isOfClass_35 ?_
        refine v_Vb (tX0_has hC hQ ⟨by omega, by omega⟩) kX3_19 hC.1 rfl rfl ⟨by decide, by decide⟩ ⟨by decide, by decide⟩ (Nat.le_of_ble_eq_true rfl) dX3_isOfClass_36 (fun h4 => ?_) (fun h4 => ?_)
        · refine v_if_eq ⟨by decide, by decide⟩ dX3_isOfClass_39 (fun h => by exfalso; omega) (fun hb39 => ?_)
          refine v_iconst dX3_isOfClass_42 ?_
          refine v_goto dX3_isOfClass_43 ?_
          exact v_zret rfl (by decide) (by decide) (Or.inr rfl) dX3_isOfClass_47 ⟨rfl, rfl, Or.inl ⟨rfl, by omega⟩⟩
        · refine v_if_eq ⟨by decide, by decide⟩ dX3_isOfClass_39 (fun hb39 => ?_) (fun h => by exfalso; omega)
          refine v_iconst dX3_isOfClass_46 ?_
          exact v_zret rfl (by decide) (by decide) (Or.inl rfl) dX3_isOfClass_47 ⟨rfl, rfl, Or.inr ⟨rfl, by omega⟩⟩
      · refine v_if_eq ⟨by decide, by decide⟩ dX3_isOfClass_25 (fun hb25 => ?_) (fun h => by exfalso; omega)
        refine v_iconst dX3_isOfClass_46 ?_
        exact v_zret rfl (by decide) (by decide) (Or.inl rfl) dX3_isOfClass_47 ⟨rfl, rfl, Or.inr ⟨rfl, by omega⟩⟩
  · refine v_if_eq ⟨by decide, by decide⟩ dX3_isOfClass_4 (fun hb4 => ?_) (fun h => by exfalso; omega)
    refine v_iload_n dX3_isOfClass_21 rfl ?_
    refine v_Sb (tX3_isThingRow hk) kX3_24 rfl rfl ⟨by decide, by decide⟩ ⟨by decide, by decide⟩ (Nat.le_of_ble_eq_true rfl) dX3_isOfClass_22 (fun h5 => ?_) (fun h5 => ?_)
    · refine v_if_eq ⟨by decide, by decide⟩ dX3_isOfClass_25 (fun h => by exfalso; omega) (fun hb25 => ?_)
      refine v_aload_n dX3_isOfClass_28 rfl ?_
      refine v_getR fX3_9 rfl (by assumption) (by assumption) dX3_isOfClass_29 ?_
      refine v_iload_n dX3_isOfClass_32 rfl ?_
      refine v_bipush dX3_isOfClass_33 (by decide) ?_
      refine v_isub dX3_isOfClass_35 ?_
      refine v_Vb (tX0_has hC hQ ⟨by omega, by omega⟩) kX3_19 hC.1 rfl rfl ⟨by decide, by decide⟩ ⟨by decide, by decide⟩ (Nat.le_of_ble_eq_true rfl) dX3_isOfClass_36 (fun h6 => ?_) (fun h6 => ?_)
      · refine v_if_eq ⟨by decide, by decide⟩ dX3_isOfClass_39 (fun h => by exfalso; omega) (fun hb39 => ?_)
        refine v_iconst dX3_isOfClass_42 ?_
        refine v_goto dX3_isOfClass_43 ?_
        exact v_zret rfl (by decide) (by decide) (Or.inr rfl) dX3_isOfClass_47 ⟨rfl, rfl, Or.inl ⟨rfl, by omega⟩⟩
      · refine v_if_eq ⟨by decide, by decide⟩ dX3_isOfClass_39 (fun hb39 => ?_) (fun h => by exfalso; omega)
        refine v_iconst dX3_isOfClass_46 ?_
        exact v_zret rfl (by decide) (by decide) (Or.inl rfl) dX3_isOfClass_47 ⟨rfl, rfl, Or.inr ⟨rfl, by omega⟩⟩
    · refine v_if_eq ⟨by decide, by decide⟩ dX3_isOfClass_25 (fun hb25 => ?_) (fun h => by exfalso; omega)
      refine v_iconst dX3_isOfClass_46 ?_
      exact v_zret rfl (by decide) (by decide) (Or.inl rfl) dX3_isOfClass_47 ⟨rfl, rfl, Or.inr ⟨rfl, by omega⟩⟩
theorem tX3_isKnown {E : w_E} {G : w_Sh} {I : w_Mm} {q c : Nat} {Q : cS} (hK : isK G q c) (hQ : clsOK I c Q) {k : Int} (hk : inR k) : w_Cb E mX3_isKnown 2 [.ref q, iv k] G I (knownK Q k) := by
  obtain ⟨hTq, hRq, hC⟩ := hK
  refine w_Ct.of (ls := [some (.ref q), some (iv k)]) (by decide +kernel) (Nat.le_of_ble_eq_true rfl) rfl rfl (fun rng => ?_)
  refine v_iload_n dX3_isKnown_0 rfl ?_
  refine v_if_lt hk dX3_isKnown_1 (fun h1 => ?_) (fun h1 => ?_)
  · refine v_aload_n dX3_isKnown_9 rfl ?_
    refine v_iload_n dX3_isKnown_10 rfl ?_
    refine v_Vb (tX3_isOfClass ⟨hTq, hRq, hC⟩ hQ hk) kX3_27 (by assumption) rfl rfl ⟨by decide, by decide⟩ ⟨by decide, by decide⟩ (Nat.le_of_ble_eq_true rfl) dX3_isKnown_11 (fun h2 => ?_) (fun h2 => ?_)
    · refine v_if_ne ⟨by decide, by decide⟩ dX3_isKnown_14 (fun hb14 => ?_) (fun h => by exfalso; omega)
      refine v_iconst dX3_isKnown_30 ?_
      refine v_goto dX3_isKnown_31 ?_
      exact v_zret rfl (by decide) (by decide) (Or.inr rfl) dX3_isKnown_35 ⟨rfl, rfl, Or.inl ⟨rfl, by omega⟩⟩
    · refine v_if_ne ⟨by decide, by decide⟩ dX3_isKnown_14 (fun h => by exfalso; omega) (fun hb14 => ?_)
      refine v_iload_n dX3_isKnown_17 rfl ?_
      refine v_bipush dX3_isKnown_18 (by decide) ?_
      refine v_icmp_lt hk ⟨by decide, by decide⟩ dX3_isKnown_20 (fun h3 => ?_) (fun h3 => ?_)
      · refine v_iconst dX3_isKnown_34 ?_
        exact v_zret rfl (by decide) (by decide) (Or.inl rfl) dX3_isKnown_35 ⟨rfl, rfl, Or.inr ⟨rfl, by omega⟩⟩
      · refine v_iload_n dX3_isKnown_23 rfl ?_
        refine v_sipush dX3_isKnown_24 (by decide) ?_
        refine v_icmp_ge hk ⟨by decide, by decide⟩ dX3_isKnown_27 (fun h4 => ?_) (fun h4 => ?_)
        · refine v_iconst dX3_isKnown_34 ?_
          exact v_zret rfl (by decide) (by decide) (Or.inl rfl) dX3_isKnown_35 ⟨rfl, rfl, Or.inr ⟨rfl, by omega⟩⟩
        · refine v_iconst dX3_isKnown_30 ?_
          refine v_goto dX3_isKnown_31 ?_
          exact v_zret rfl (by decide) (by decide) (Or.inr rfl) dX3_isKnown_35 ⟨rfl, rfl, Or.inl ⟨rfl, by omega⟩⟩
  · refine v_iload_n dX3_isKnown_4 rfl ?_
    refine v_iconst dX3_isKnown_5 ?_
    refine v_icmp_le hk ⟨by decide, by decide⟩ dX3_isKnown_6 (fun h5 => ?_) (fun h5 => ?_)
    · refine v_iconst dX3_isKnown_30 ?_
      refine v_goto dX3_isKnown_31 ?_
      exact v_zret rfl (by decide) (by decide) (Or.inr rfl) dX3_isKnown_35 ⟨rfl, rfl, Or.inl ⟨rfl, by omega⟩⟩
    · refine v_aload_n dX3_isKnown_9 rfl ?_
      refine v_iload_n dX3_isKnown_10 rfl ?_
      refine v_Vb (tX3_isOfClass ⟨hTq, hRq, hC⟩ hQ hk) kX3_27 (by assumption) rfl rfl ⟨by decide, by decide⟩ ⟨by decide, by decide⟩ (Nat.le_of_ble_eq_true rfl) dX3_isKnown_11 (fun h6 => ?_) (fun h6 => ?_)
      · refine v_if_ne ⟨by decide, by decide⟩ dX3_isKnown_14 (fun hb14 => ?_) (fun h => by exfalso; omega)
        refine v_iconst dX3_isKnown_30 ?_
        refine v_goto dX3_isKnown_31 ?_
        exact v_zret rfl (by decide) (by decide) (Or.inr rfl) dX3_isKnown_35 ⟨rfl, rfl, Or.inl ⟨rfl, by omega⟩⟩
      · refine v_if_ne ⟨by decide, by decide⟩ dX3_isKnown_14 (fun h => by exfalso; omega) (fun hb14 => ?_)
        refine v_iload_n dX3_isKnown_17 rfl ?_
        refine v_bipush dX3_isKnown_18 (by decide) ?_
        refine v_icmp_lt hk ⟨by decide, by decide⟩ dX3_isKnown_20 (fun h7 => ?_) (fun h7 => ?_)
        · refine v_iconst dX3_isKnown_34 ?_
          exact v_zret rfl (by decide) (by decide) (Or.inl rfl) dX3_isKnown_35 ⟨rfl, rfl, Or.inr ⟨rfl, by omega⟩⟩
        · refine v_iload_n dX3_isKnown_23 rfl ?_
          refine v_sipush dX3_isKnown_24 (by decide) ?_
          refine v_icmp_ge hk ⟨by decide, by decide⟩ dX3_isKnown_27 (fun h8 => ?_) (fun h8 => ?_)
          · refine v_iconst dX3_isKnown_34 ?_
            exact v_zret rfl (by decide) (by decide) (Or.inl rfl) dX3_isKnown_35 ⟨rfl, rfl, Or.inr ⟨rfl, by omega⟩⟩
          · refine v_iconst dX3_isKnown_30 ?_
            refine v_goto dX3_isKnown_31 ?_
            exact v_zret rfl (by decide) (by decide) (Or.inr rfl) dX3_isKnown_35 ⟨rfl, rfl, Or.inl ⟨rfl, by omega⟩⟩
theorem tX3_isArgument {E : w_E} {G : w_Sh} {I : w_Mm} {q c : Nat} {Q : cS} (hK : isK G q c) (hQ : clsOK I c Q) {k : Int} (hk : inR k) : w_Cb E mX3_isArgument 2 [.ref q, iv k] G I (argK Q k) := by
  obtain ⟨hTq, hRq, hC⟩ := hK
  refine w_Ct.of (ls := [some (.ref q), some (iv k)]) (by decide +kernel) (Nat.le_of_ble_eq_true rfl) rfl rfl (fun rng => ?_)
  refine v_iload_n dX3_isArgument_0 rfl ?_
  refine v_iconst dX3_isArgument_1 ?_
  refine v_icmp_eq hk ⟨by decide, by decide⟩ dX3_isArgument_2 (fun h1 => ?_) (fun h1 => ?_)
  · refine v_iconst dX3_isArgument_23 ?_
    refine v_goto dX3_isArgument_24 ?_
    exact v_zret rfl (by decide) (by decide) (Or.inr rfl) dX3_isArgument_28 ⟨rfl, rfl, Or.inl ⟨rfl, by omega⟩⟩
  · refine v_iload_n dX3_isArgument_5 rfl ?_
    refine v_iconst dX3_isArgument_6 ?_
    refine v_icmp_eq hk ⟨by decide, by decide⟩ dX3_isArgument_7 (fun h2 => ?_) (fun h2 => ?_)
    · refine v_iconst dX3_isArgument_23 ?_
      refine v_goto dX3_isArgument_24 ?_
      exact v_zret rfl (by decide) (by decide) (Or.inr rfl) dX3_isArgument_28 ⟨rfl, rfl, Or.inl ⟨rfl, by omega⟩⟩
    · refine v_iload_n dX3_isArgument_10 rfl ?_
      refine v_iconst dX3_isArgument_11 ?_
      refine v_icmp_eq hk ⟨by decide, by decide⟩ dX3_isArgument_12 (fun h3 => ?_) (fun h3 => ?_)
      · refine v_iconst dX3_isArgument_23 ?_
        refine v_goto dX3_isArgument_24 ?_
        exact v_zret rfl (by decide) (by decide) (Or.inr rfl) dX3_isArgument_28 ⟨rfl, rfl, Or.inl ⟨rfl, by omega⟩⟩
      · refine v_aload_n dX3_isArgument_15 rfl ?_
        refine v_iload_n dX3_isArgument_16 rfl ?_
        refine v_Vb (tX3_isOfClass ⟨hTq, hRq, hC⟩ hQ hk) kX3_27 (by assumption) rfl rfl ⟨by decide, by decide⟩ ⟨by decide, by decide⟩ (Nat.le_of_ble_eq_true rfl) dX3_isArgument_17 (fun h4 => ?_) (fun h4 => ?_)
        · refine v_if_eq ⟨by decide, by decide⟩ dX3_isArgument_20 (fun h => by exfalso; omega) (fun hb20 => ?_)
          refine v_iconst dX3_isArgument_23 ?_
          refine v_goto dX3_isArgument_24 ?_
          exact v_zret rfl (by decide) (by decide) (Or.inr rfl) dX3_isArgument_28 ⟨rfl, rfl, Or.inl ⟨rfl, by omega⟩⟩
        · refine v_if_eq ⟨by decide, by decide⟩ dX3_isArgument_20 (fun hb20 => ?_) (fun h => by exfalso; omega)
          refine v_iconst dX3_isArgument_27 ?_
          exact v_zret rfl (by decide) (by decide) (Or.inl rfl) dX3_isArgument_28 ⟨rfl, rfl, Or.inr ⟨rfl, by omega⟩⟩
theorem tX3_isResult {E : w_E} {G : w_Sh} {I : w_Mm} {q c : Nat} {Q : cS} (hK : isK G q c) (hQ : clsOK I c Q) {k : Int} (hk : inR k) : w_Cb E mX3_isResult 3 [.ref q, iv k] G I (resK Q k) := by
  obtain ⟨hTq, hRq, hC⟩ := hK
  refine w_Ct.of (ls := [some (.ref q), some (iv k)]) (by decide +kernel) (Nat.le_of_ble_eq_true rfl) rfl rfl (fun rng => ?_)
  refine v_iload_n dX3_isResult_0 rfl ?_
  refine v_if_eq hk dX3_isResult_1 (fun h1 => ?_) (fun h1 => ?_)
  · refine v_iconst dX3_isResult_12 ?_
    refine v_goto dX3_isResult_13 ?_
    exact v_zret rfl (by decide) (by decide) (Or.inr rfl) dX3_isResult_17 ⟨rfl, rfl, Or.inl ⟨rfl, by omega⟩⟩
  · refine v_aload_n dX3_isResult_4 rfl ?_
    refine v_iload_n dX3_isResult_5 rfl ?_
    refine v_Vb (tX3_isArgument ⟨hTq, hRq, hC⟩ hQ hk) kX3_30 (by assumption) rfl rfl ⟨by decide, by decide⟩ ⟨by decide, by decide⟩ (Nat.le_of_ble_eq_true rfl) dX3_isResult_6 (fun h2 => ?_) (fun h2 => ?_)
    · refine v_if_eq ⟨by decide, by decide⟩ dX3_isResult_9 (fun h => by exfalso; omega) (fun hb9 => ?_)
      refine v_iconst dX3_isResult_12 ?_
      refine v_goto dX3_isResult_13 ?_
      exact v_zret rfl (by decide) (by decide) (Or.inr rfl) dX3_isResult_17 ⟨rfl, rfl, Or.inl ⟨rfl, by omega⟩⟩
    · refine v_if_eq ⟨by decide, by decide⟩ dX3_isResult_9 (fun hb9 => ?_) (fun h => by exfalso; omega)
      refine v_iconst dX3_isResult_16 ?_
      exact v_zret rfl (by decide) (by decide) (Or.inl rfl) dX3_isResult_17 ⟨rfl, rfl, Or.inr ⟨rfl, by omega⟩⟩
theorem tX3_suits {E : w_E} {G : w_Sh} {I : w_Mm} {q c : Nat} {Q : cS} (hK : isK G q c) (hQ : clsOK I c Q) {k l : Int} (hk : inR k) (hl : inR l) : w_Cb E mX3_suits 1 [.ref q, iv k, iv l] G I (fitK Q k l) := by
  obtain ⟨hTq, hRq, hC⟩ := hK
  refine w_Ct.of (ls := [some (.ref q), some (iv k), some (iv l)]) (by decide +kernel) (Nat.le_of_ble_eq_true rfl) rfl rfl (fun rng => ?_)
  refine v_iload_n dX3_suits_0 rfl ?_
  refine v_iload_n dX3_suits_1 rfl ?_
  refine v_icmp_ne hk hl dX3_suits_2 (fun h1 => ?_) (fun h1 => ?_)
  · refine v_iload_n dX3_suits_7 rfl ?_
    refine v_iconst dX3_suits_8 ?_
    refine v_icmp_ne hk ⟨by decide, by decide⟩ dX3_suits_9 (fun h2 => ?_) (fun h2 => ?_)
    · refine v_iload_n dX3_suits_17 rfl ?_
      refine v_Sb (tX3_isThing hk) kX3_15 rfl rfl ⟨by decide, by decide⟩ ⟨by decide, by decide⟩ (Nat.le_of_ble_eq_true rfl) dX3_suits_18 (fun h3 => ?_) (fun h3 => ?_)
      · refine v_if_eq ⟨by decide, by decide⟩ dX3_suits_21 (fun h => by exfalso; omega) (fun hb21 => ?_)
        refine v_iload_n dX3_suits_24 rfl ?_
        refine v_Sb (tX3_isThing hl) kX3_15 rfl rfl ⟨by decide, by decide⟩ ⟨by decide, by decide⟩ (Nat.le_of_ble_eq_true rfl) dX3_suits_25 (fun h4 => ?_) (fun h4 => ?_)
        · refine v_if_eq ⟨by decide, by decide⟩ dX3_suits_28 (fun h => by exfalso; omega) (fun hb28 => ?_)
          refine v_aload_n dX3_suits_31 rfl ?_
          refine v_getR fX3_9 rfl (by assumption) (by assumption) dX3_suits_32 ?_
          refine v_iload_n dX3_suits_35 rfl ?_
          refine v_bipush dX3_suits_36 (by decide) ?_
          refine v_isub dX3_suits_38 ?_
          refine v_iload_n dX3_suits_39 rfl ?_
          refine v_bipush dX3_suits_40 (by decide) ?_
          refine v_isub dX3_suits_42 ?_
          refine v_Vb (tX0_suits hC hQ ⟨by omega, by omega⟩ ⟨by omega, by omega⟩) kX3_36 hC.1 rfl rfl ⟨by decide, by decide⟩ ⟨by decide, by decide⟩ (Nat.le_of_ble_eq_true rfl) dX3_suits_43 (fun h5 => ?_) (fun h5 => ?_)
          · exact v_zret rfl (by decide) (by decide) (Or.inr rfl) dX3_suits_46 ⟨rfl, rfl, Or.inl ⟨rfl, by omega⟩⟩
          · exact v_zret rfl (by decide) (by decide) (Or.inl rfl) dX3_suits_46 ⟨rfl, rfl, Or.inr ⟨rfl, by omega⟩⟩
        · refine v_if_eq ⟨by decide, by decide⟩ dX3_suits_28 (fun hb28 => ?_) (fun h => by exfalso; omega)
          refine v_iload_n dX3_suits_47 rfl ?_
          refine v_Sb (tX3_isThingRow hk) kX3_24 rfl rfl ⟨by decide, by decide⟩ ⟨by decide, by decide⟩ (Nat.le_of_ble_eq_true rfl) dX3_suits_48 (fun h6 => ?_) (fun h6 => ?_)
          · refine v_if_eq ⟨by decide, by decide⟩ dX3_suits_51 (fun h => by exfalso; omega) (fun hb51 => ?_)
            refine v_iload_n dX3_suits_54 rfl ?_
            refine v_Sb (tX3_isThingRow hl) kX3_24 rfl rfl ⟨by decide, by decide⟩ ⟨by decide, by decide⟩ (Nat.le_of_ble_eq_true rfl) dX3_suits_55 (fun h7 => ?_) (fun h7 => ?_)
            · refine v_if_eq ⟨by decide, by decide⟩ dX3_suits_58 (fun h => by exfalso; omega) (fun hb58 => ?_)
              refine v_aload_n dX3_suits_61 rfl ?_
              refine v_getR fX3_9 rfl (by assumption) (by assumption) dX3_suits_62 ?_
              refine v_iload_n dX3_suits_65 rfl ?_
              refine v_bipush dX3_suits_66 (by decide) ?_
              refine v_isub dX3_suits_68 ?_
              refine v_iload_n dX3_suits_69 rfl ?_
              refine v_bipush dX3_suits_70 (by decide) ?_
              refine v_isub dX3_suits_72 ?_
              refine v_Vb (tX0_suits hC hQ ⟨by omega, by omega⟩ ⟨by omega, by omega⟩) kX3_36 hC.1 rfl rfl ⟨by decide, by decide⟩ ⟨by decide, by decide⟩ (Nat.le_of_ble_eq_true rfl) dX3_suits_73 (fun h8 => ?_) (fun h8 => ?_)
              · exact v_zret rfl (by decide) (by decide) (Or.inr rfl) dX3_suits_76 ⟨rfl, rfl, Or.inl ⟨rfl, by omega⟩⟩
              · exact v_zret rfl (by decide) (by decide) (Or.inl rfl) dX3_suits_76 ⟨rfl, rfl, Or.inr ⟨rfl, by omega⟩⟩
            · refine v_if_eq ⟨by decide, by decide⟩ dX3_suits_58 (fun hb58 => ?_) (fun h => by exfalso; omega)
              refine v_iload_n dX3_suits_77 rfl ?_
              refine v_iconst dX3_suits_78 ?_
              refine v_icmp_eq hk ⟨by decide, by decide⟩ dX3_suits_79 (fun h9 => ?_) (fun h9 => ?_)
              · refine v_iload_n dX3_suits_89 rfl ?_
                refine v_bipush dX3_suits_90 (by decide) ?_
                refine v_icmp_ne hl ⟨by decide, by decide⟩ dX3_suits_92 (fun h10 => ?_) (fun h10 => ?_)
                · refine v_iconst dX3_suits_99 ?_
                  exact v_zret rfl (by decide) (by decide) (Or.inl rfl) dX3_suits_100 ⟨rfl, rfl, Or.inr ⟨rfl, by omega⟩⟩
                · refine v_iconst dX3_suits_95 ?_
                  refine v_goto dX3_suits_96 ?_
                  exact v_zret rfl (by decide) (by decide) (Or.inr rfl) dX3_suits_100 ⟨rfl, rfl, Or.inl ⟨rfl, by omega⟩⟩
              · refine v_iload_n dX3_suits_82 rfl ?_
                refine v_Sb (tX3_isThingRow hk) kX3_24 rfl rfl ⟨by decide, by decide⟩ ⟨by decide, by decide⟩ (Nat.le_of_ble_eq_true rfl) dX3_suits_83 (fun h11 => ?_) (fun h11 => ?_)
                · refine v_if_eq ⟨by decide, by decide⟩ dX3_suits_86 (fun h => by exfalso; omega) (fun hb86 => ?_)
                  refine v_iload_n dX3_suits_89 rfl ?_
                  refine v_bipush dX3_suits_90 (by decide) ?_
                  refine v_icmp_ne hl ⟨by decide, by decide⟩ dX3_suits_92 (fun h12 => ?_) (fun h12 => ?_)
                  · refine v_iconst dX3_suits_99 ?_
                    exact v_zret rfl (by decide) (by decide) (Or.inl rfl) dX3_suits_100 ⟨rfl, rfl, Or.inr ⟨rfl, by omega⟩⟩
                  · refine v_iconst dX3_suits_95 ?_
                    refine v_goto dX3_suits_96 ?_
                    exact v_zret rfl (by decide) (by decide) (Or.inr rfl) dX3_suits_100 ⟨rfl, rfl, Or.inl ⟨rfl, by omega⟩⟩
                · refine v_if_eq ⟨by decide, by decide⟩ dX3_suits_86 (fun hb86 => ?_) (fun h => by exfalso; omega)
                  refine v_iconst dX3_suits_99 ?_
                  exact v_zret rfl (by decide) (by decide) (Or.inl rfl) dX3_suits_100 ⟨rfl, rfl, Or.inr ⟨rfl, by omega⟩⟩
          · refine v_if_eq ⟨by decide, by decide⟩ dX3_suits_51 (fun hb51 => ?_) (fun h => by exfalso; omega)
            refine v_iload_n dX3_suits_77 rfl ?_
            refine v_iconst dX3_suits_78 ?_
            refine v_icmp_eq hk ⟨by decide, by decide⟩ dX3_suits_79 (fun h13 => ?_) (fun h13 => ?_)
            · refine v_iload_n dX3_suits_89 rfl ?_
              refine v_bipush dX3_suits_90 (by decide) ?_
              refine v_icmp_ne hl ⟨by decide, by decide⟩ dX3_suits_92 (fun h14 => ?_) (fun h14 => ?_)
              · refine v_iconst dX3_suits_99 ?_
                exact v_zret rfl (by decide) (by decide) (Or.inl rfl) dX3_suits_100 ⟨rfl, rfl, Or.inr ⟨rfl, by omega⟩⟩
              · refine v_iconst dX3_suits_95 ?_
                refine v_goto dX3_suits_96 ?_
                exact v_zret rfl (by decide) (by decide) (Or.inr rfl) dX3_suits_100 ⟨rfl, rfl, Or.inl ⟨rfl, by omega⟩⟩
            · refine v_iload_n dX3_suits_82 rfl ?_
              refine v_Sb (tX3_isThingRow hk) kX3_24 rfl rfl ⟨by decide, by decide⟩ ⟨by decide, by decide⟩ (Nat.le_of_ble_eq_true rfl) dX3_suits_83 (fun h15 => ?_) (fun h15 => ?_)
              · refine v_if_eq ⟨by decide, by decide⟩ dX3_suits_86 (fun h => by exfalso; omega) (fun hb86 => ?_)
                refine v_iload_n dX3_suits_89 rfl ?_
                refine v_bipush dX3_suits_90 (by decide) ?_
                refine v_icmp_ne hl ⟨by decide, by decide⟩ dX3_suits_92 (fun h16 => ?_) (fun h16 => ?_)
                · refine v_iconst dX3_suits_99 ?_
                  exact v_zret rfl (by decide) (by decide) (Or.inl rfl) dX3_suits_100 ⟨rfl, rfl, Or.inr ⟨rfl, by omega⟩⟩
                · refine v_iconst dX3_suits_95 ?_
                  refine v_goto dX3_suits_96 ?_
                  exact v_zret rfl (by decide) (by decide) (Or.inr rfl) dX3_suits_100 ⟨rfl, rfl, Or.inl ⟨rfl, by omega⟩⟩
              · refine v_if_eq ⟨by decide, by decide⟩ dX3_suits_86 (fun hb86 => ?_) (fun h => by exfalso; omega)
                refine v_iconst dX3_suits_99 ?_
                exact v_zret rfl (by decide) (by decide) (Or.inl rfl) dX3_suits_100 ⟨rfl, rfl, Or.inr ⟨rfl, by omega⟩⟩
      · refine v_if_eq ⟨by decide, by decide⟩ dX3_suits_21 (fun hb21 => ?_) (fun h => by exfalso; omega)
        refine v_iload_n dX3_suits_47 rfl ?_
        refine v_Sb (tX3_isThingRow hk) kX3_24 rfl rfl ⟨by decide, by decide⟩ ⟨by decide, by decide⟩ (Nat.le_of_ble_eq_true rfl) dX3_suits_48 (fun h17 => ?_) (fun h17 => ?_)
        · refine v_if_eq ⟨by decide, by decide⟩ dX3_suits_51 (fun h => by exfalso; omega) (fun hb51 => ?_)
          refine v_iload_n dX3_suits_54 rfl ?_
          refine v_Sb (tX3_isThingRow hl) kX3_24 rfl rfl ⟨by decide, by decide⟩ ⟨by decide, by decide⟩ (Nat.le_of_ble_eq_true rfl) dX3_suits_55 (fun h18 => ?_) (fun h18 => ?_)
          · refine v_if_eq ⟨by decide, by decide⟩ dX3_suits_58 (fun h => by exfalso; omega) (fun hb58 => ?_)
            refine v_aload_n dX3_suits_61 rfl ?_
            refine v_getR fX3_9 rfl (by assumption) (by assumption) dX3_suits_62 ?_
            refine v_iload_n dX3_suits_65 rfl ?_
            refine v_bipush dX3_suits_66 (by decide) ?_
            refine v_isub dX3_suits_68 ?_
            refine v_iload_n dX3_suits_69 rfl ?_
            refine v_bipush dX3_suits_70 (by decide) ?_
            refine v_isub dX3_suits_72 ?_
            refine v_Vb (tX0_suits hC hQ ⟨by omega, by omega⟩ ⟨by omega, by omega⟩) kX3_36 hC.1 rfl rfl ⟨by decide, by decide⟩ ⟨by decide, by decide⟩ (Nat.le_of_ble_eq_true rfl) dX3_suits_73 (fun h19 => ?_) (fun h19 => ?_)
            · exact v_zret rfl (by decide) (by decide) (Or.inr rfl) dX3_suits_76 ⟨rfl, rfl, Or.inl ⟨rfl, by omega⟩⟩
            · exact v_zret rfl (by decide) (by decide) (Or.inl rfl) dX3_suits_76 ⟨rfl, rfl, Or.inr ⟨rfl, by omega⟩⟩
          · refine v_if_eq ⟨by decide, by decide⟩ dX3_suits_58 (fun hb58 => ?_) (fun h => by exfalso; omega)
            refine v_iload_n dX3_suits_77 rfl ?_
            refine v_iconst dX3_suits_78 ?_
            refine v_icmp_eq hk ⟨by decide, by decide⟩ dX3_suits_79 (fun h20 => ?_) (fun h20 => ?_)
            · refine v_iload_n dX3_suits_89 rfl ?_
              refine v_bipush dX3_suits_90 (by decide) ?_
              refine v_icmp_ne hl ⟨by decide, by decide⟩ dX3_suits_92 (fun h21 => ?_) (fun h21 => ?_)
              · refine v_iconst dX3_suits_99 ?_
                exact v_zret rfl (by decide) (by decide) (Or.inl rfl) dX3_suits_100 ⟨rfl, rfl, Or.inr ⟨rfl, by omega⟩⟩
              · refine v_iconst dX3_suits_95 ?_
                refine v_goto dX3_suits_96 ?_
                exact v_zret rfl (by decide) (by decide) (Or.inr rfl) dX3_suits_100 ⟨rfl, rfl, Or.inl ⟨rfl, by omega⟩⟩
            · refine v_iload_n dX3_suits_82 rfl ?_
              refine v_Sb (tX3_isThingRow hk) kX3_24 rfl rfl ⟨by decide, by decide⟩ ⟨by decide, by decide⟩ (Nat.le_of_ble_eq_true rfl) dX3_suits_83 (fun h22 => ?_) (fun h22 => ?_)
              · refine v_if_eq ⟨by decide, by decide⟩ dX3_suits_86 (fun h => by exfalso; omega) (fun hb86 => ?_)
                refine v_iload_n dX3_suits_89 rfl ?_
                refine v_bipush dX3_suits_90 (by decide) ?_
                refine v_icmp_ne hl ⟨by decide, by decide⟩ dX3_suits_92 (fun h23 => ?_) (fun h23 => ?_)
                · refine v_iconst dX3_suits_99 ?_
                  exact v_zret rfl (by decide) (by decide) (Or.inl rfl) dX3_suits_100 ⟨rfl, rfl, Or.inr ⟨rfl, by omega⟩⟩
                · refine v_iconst dX3_suits_95 ?_
                  refine v_goto dX3_suits_96 ?_
                  exact v_zret rfl (by decide) (by decide) (Or.inr rfl) dX3_suits_100 ⟨rfl, rfl, Or.inl ⟨rfl, by omega⟩⟩
              · refine v_if_eq ⟨by decide, by decide⟩ dX3_suits_86 (fun hb86 => ?_) (fun h => by exfalso; omega)
                refine v_iconst dX3_suits_99 ?_
                exact v_zret rfl (by decide) (by decide) (Or.inl rfl) dX3_suits_100 ⟨rfl, rfl, Or.inr ⟨rfl, by omega⟩⟩
        · refine v_if_eq ⟨by decide, by decide⟩ dX3_suits_51 (fun hb51 => ?_) (fun h => by exfalso; omega)
          refine v_iload_n dX3_suits_77 rfl ?_
          refine v_iconst dX3_suits_78 ?_
          refine v_icmp_eq hk ⟨by decide, by decide⟩ dX3_suits_79 (fun h24 => ?_) (fun h24 => ?_)
          · refine v_iload_n dX3_suits_89 rfl ?_
            refine v_bipush dX3_suits_90 (by decide) ?_
            refine v_icmp_ne hl ⟨by decide, by decide⟩ dX3_suits_92 (fun h25 => ?_) (fun h25 => ?_)
            · refine v_iconst dX3_suits_99 ?_
              exact v_zret rfl (by decide) (by decide) (Or.inl rfl) dX3_suits_100 ⟨rfl, rfl, Or.inr ⟨rfl, by omega⟩⟩
            · refine v_iconst dX3_suits_95 ?_
              refine v_goto dX3_suits_96 ?_
              exact v_zret rfl (by decide) (by decide) (Or.inr rfl) dX3_suits_100 ⟨rfl, rfl, Or.inl ⟨rfl, by omega⟩⟩
          · refine v_iload_n dX3_suits_82 rfl ?_
            refine v_Sb (tX3_isThingRow hk) kX3_24 rfl rfl ⟨by decide, by decide⟩ ⟨by decide, by decide⟩ (Nat.le_of_ble_eq_true rfl) dX3_suits_83 (fun h26 => ?_) (fun h26 => ?_)
            · refine v_if_eq ⟨by decide, by decide⟩ dX3_suits_86 (fun h => by exfalso; omega) (fun hb86 => ?_)
              refine v_iload_n dX3_suits_89 rfl ?_
              refine v_bipush dX3_suits_90 (by decide) ?_
              refine v_icmp_ne hl ⟨by decide, by decide⟩ dX3_suits_92 (fun h27 => ?_) (fun h27 => ?_)
              · refine v_iconst dX3_suits_99 ?_
                exact v_zret rfl (by decide) (by decide) (Or.inl rfl) dX3_suits_100 ⟨rfl, rfl, Or.inr ⟨rfl, by omega⟩⟩
              · refine v_iconst dX3_suits_95 ?_
                refine v_goto dX3_suits_96 ?_
                exact v_zret rfl (by decide) (by decide) (Or.inr rfl) dX3_suits_100 ⟨rfl, rfl, Or.inl ⟨rfl, by omega⟩⟩
            · refine v_if_eq ⟨by decide, by decide⟩ dX3_suits_86 (fun hb86 => ?_) (fun h => by exfalso; omega)
              refine v_iconst dX3_suits_99 ?_
              exact v_zret rfl (by decide) (by decide) (Or.inl rfl) dX3_suits_100 ⟨rfl, rfl, Or.inr ⟨rfl, by omega⟩⟩
    · refine v_iload_n dX3_suits_12 rfl ?_
      refine v_Sb (tX3_isReference hl) kX3_33 rfl rfl ⟨by decide, by decide⟩ ⟨by decide, by decide⟩ (Nat.le_of_ble_eq_true rfl) dX3_suits_13 (fun h28 => ?_) (fun h28 => ?_)
      · exact v_zret rfl (by decide) (by decide) (Or.inr rfl) dX3_suits_16 ⟨rfl, rfl, Or.inl ⟨rfl, by omega⟩⟩
      · exact v_zret rfl (by decide) (by decide) (Or.inl rfl) dX3_suits_16 ⟨rfl, rfl, Or.inr ⟨rfl, by omega⟩⟩
  · refine v_iconst dX3_suits_5 ?_
    exact v_zret rfl (by decide) (by decide) (Or.inr rfl) dX3_suits_6 ⟨rfl, rfl, Or.inl ⟨rfl, by omega⟩⟩
theorem tX3_merge {E : w_E} {G : w_Sh} {I : w_Mm} {q c : Nat} {Q : cS} (hK : isK G q c) (hQ : clsOK I c Q) {k l : Int} (hk : inR k) (hl : inR l) : w_Cm E mX3_merge 1 [.ref q, iv k, iv l] G I (joinK Q k l) I := by
  obtain ⟨hTq, hRq, hC⟩ := hK
  have hne : ∀ x y : Int, 0 ≤ nearC Q x y ∧ nearC Q x y ≤ 15 := fun x y => by
    have h1 := hQ.2.2.1
    have h2 := nearF_le (Q.2.1 x.toNat &&& Q.2.1 y.toNat) (Q.1 - 1)
    unfold nearC
    split <;> omega
  have hne1 := hne (k - 10) (l - 10)
  have hne2 := hne (k - 40) (l - 40)
  refine w_Ct.of (ls := [some (.ref q), some (iv k), some (iv l)]) (by decide +kernel) (Nat.le_of_ble_eq_true rfl) rfl rfl (fun rng => ?_)
  refine v_iload_n dX3_merge_0 rfl ?_
  refine v_iload_n dX3_merge_1 rfl ?_
  refine v_icmp_ne hk hl dX3_merge_2 (fun h1 => ?_) (fun h1 => ?_)
  · refine v_iload_n dX3_merge_7 rfl ?_
    refine v_Sb (tX3_isReference hk) kX3_33 rfl rfl ⟨by decide, by decide⟩ ⟨by decide, by decide⟩ (Nat.le_of_ble_eq_true rfl) dX3_merge_8 (fun h2 => ?_) (fun h2 => ?_)
    · refine v_if_eq ⟨by decide, by decide⟩ dX3_merge_11 (fun h => by exfalso; omega) (fun hb11 => ?_)
      refine v_iload_n dX3_merge_14 rfl ?_
      refine v_Sb (tX3_isReference hl) kX3_33 rfl rfl ⟨by decide, by decide⟩ ⟨by decide, by decide⟩ (Nat.le_of_ble_eq_true rfl) dX3_merge_15 (fun h3 => ?_) (fun h3 => ?_)
      · refine v_if_ne ⟨by decide, by decide⟩ dX3_merge_18 (fun hb18 => ?_) (fun h => by exfalso; omega)
        refine v_iload_n dX3_merge_23 rfl ?_
        refine v_iconst dX3_merge_24 ?_
        refine v_icmp_ne hk ⟨by decide, by decide⟩ dX3_merge_25 (fun h4 => ?_) (fun h4 => ?_)
        · refine v_iload_n dX3_merge_30 rfl ?_
          refine v_iconst dX3_merge_31 ?_
          refine v_icmp_ne hl ⟨by decide, by decide⟩ dX3_merge_32 (fun h5 => ?_) (fun h5 => ?_)
          · refine v_iload_n dX3_merge_37 rfl ?_
            refine v_Sb (tX3_isThing hk) kX3_15 rfl rfl ⟨by decide, by decide⟩ ⟨by decide, by decide⟩ (Nat.le_of_ble_eq_true rfl) dX3_merge_38 (fun h6 => ?_) (fun h6 => ?_)
            · refine v_if_eq ⟨by decide, by decide⟩ dX3_merge_41 (fun h => by exfalso; omega) (fun hb41 => ?_)
              refine v_iload_n dX3_merge_44 rfl ?_
              refine v_Sb (tX3_isThing hl) kX3_15 rfl rfl ⟨by decide, by decide⟩ ⟨by decide, by decide⟩ (Nat.le_of_ble_eq_true rfl) dX3_merge_45 (fun h7 => ?_) (fun h7 => ?_)
              · refine v_if_eq ⟨by decide, by decide⟩ dX3_merge_48 (fun h => by exfalso; omega) (fun hb48 => ?_)
                refine v_bipush dX3_merge_51 (by decide) ?_
                refine v_aload_n dX3_merge_53 rfl ?_
                refine v_getR fX3_9 rfl (by assumption) (by assumption) dX3_merge_54 ?_
                refine v_iload_n dX3_merge_57 rfl ?_
                refine v_bipush dX3_merge_58 (by decide) ?_
                refine v_isub dX3_merge_60 ?_
                refine v_iload_n dX3_merge_61 rfl ?_
                refine v_bipush dX3_merge_62 (by decide) ?_
                refine v_isub dX3_merge_64 ?_
                refine v_VmN (tX0_nearest hC hQ ⟨by omega, by omega⟩ ⟨by omega, by omega⟩) kX3_40 hC.1 rfl rfl ⟨by decide, by decide⟩ ⟨by decide, by decide⟩ (Nat.le_of_ble_eq_true rfl) dX3_merge_65 (fun r8 er8 hr8 rng9 => ?_)
                refine v_iadd dX3_merge_68 ?_
                exact v_iret rfl (by decide) (by decide) ⟨by omega, by omega⟩ dX3_merge_69 ⟨(by unfold joinK; split <;> first | omega | (split <;> first | omega | (split <;> first | omega | (split <;> first | omega | (split <;> first | omega | (split <;> omega)))))), rfl, rfl⟩
              · refine v_if_eq ⟨by decide, by decide⟩ dX3_merge_48 (fun hb48 => ?_) (fun h => by exfalso; omega)
                refine v_iload_n dX3_merge_70 rfl ?_
                refine v_Sb (tX3_isThingRow hk) kX3_24 rfl rfl ⟨by decide, by decide⟩ ⟨by decide, by decide⟩ (Nat.le_of_ble_eq_true rfl) dX3_merge_71 (fun h10 => ?_) (fun h10 => ?_)
                · refine v_if_eq ⟨by decide, by decide⟩ dX3_merge_74 (fun h => by exfalso; omega) (fun hb74 => ?_)
                  refine v_iload_n dX3_merge_77 rfl ?_
                  refine v_Sb (tX3_isThingRow hl) kX3_24 rfl rfl ⟨by decide, by decide⟩ ⟨by decide, by decide⟩ (Nat.le_of_ble_eq_true rfl) dX3_merge_78 (fun h11 => ?_) (fun h11 => ?_)
                  · refine v_if_eq ⟨by decide, by decide⟩ dX3_merge_81 (fun h => by exfalso; omega) (fun hb81 => ?_)
                    refine v_bipush dX3_merge_84 (by decide) ?_
                    refine v_aload_n dX3_merge_86 rfl ?_
                    refine v_getR fX3_9 rfl (by assumption) (by assumption) dX3_merge_87 ?_
                    refine v_iload_n dX3_merge_90 rfl ?_
                    refine v_bipush dX3_merge_91 (by decide) ?_
                    refine v_isub dX3_merge_93 ?_
                    refine v_iload_n dX3_merge_94 rfl ?_
                    refine v_bipush dX3_merge_95 (by decide) ?_
                    refine v_isub dX3_merge_97 ?_
                    refine v_VmN (tX0_nearest hC hQ ⟨by omega, by omega⟩ ⟨by omega, by omega⟩) kX3_40 hC.1 rfl rfl ⟨by decide, by decide⟩ ⟨by decide, by decide⟩ (Nat.le_of_ble_eq_true rfl) dX3_merge_98 (fun r12 er12 hr12 rng13 => ?_)
                    refine v_iadd dX3_merge_101 ?_
                    exact v_iret rfl (by decide) (by decide) ⟨by omega, by omega⟩ dX3_merge_102 ⟨(by unfold joinK; split <;> first | omega | (split <;> first | omega | (split <;> first | omega | (split <;> first | omega | (split <;> first | omega | (split <;> omega)))))), rfl, rfl⟩
                  · refine v_if_eq ⟨by decide, by decide⟩ dX3_merge_81 (fun hb81 => ?_) (fun h => by exfalso; omega)
                    refine v_bipush dX3_merge_103 (by decide) ?_
                    exact v_iret rfl (by decide) (by decide) ⟨by decide, by decide⟩ dX3_merge_105 ⟨(by unfold joinK; split <;> first | omega | (split <;> first | omega | (split <;> first | omega | (split <;> first | omega | (split <;> first | omega | (split <;> omega)))))), rfl, rfl⟩
                · refine v_if_eq ⟨by decide, by decide⟩ dX3_merge_74 (fun hb74 => ?_) (fun h => by exfalso; omega)
                  refine v_bipush dX3_merge_103 (by decide) ?_
                  exact v_iret rfl (by decide) (by decide) ⟨by decide, by decide⟩ dX3_merge_105 ⟨(by unfold joinK; split <;> first | omega | (split <;> first | omega | (split <;> first | omega | (split <;> first | omega | (split <;> first | omega | (split <;> omega)))))), rfl, rfl⟩
            · refine v_if_eq ⟨by decide, by decide⟩ dX3_merge_41 (fun hb41 => ?_) (fun h => by exfalso; omega)
              refine v_iload_n dX3_merge_70 rfl ?_
              refine v_Sb (tX3_isThingRow hk) kX3_24 rfl rfl ⟨by decide, by decide⟩ ⟨by decide, by decide⟩ (Nat.le_of_ble_eq_true rfl) dX3_merge_71 (fun h14 => ?_) (fun h14 => ?_)
              · refine v_if_eq ⟨by decide, by decide⟩ dX3_merge_74 (fun h => by exfalso; omega) (fun hb74 => ?_)
                refine v_iload_n dX3_merge_77 rfl ?_
                refine v_Sb (tX3_isThingRow hl) kX3_24 rfl rfl ⟨by decide, by decide⟩ ⟨by decide, by decide⟩ (Nat.le_of_ble_eq_true rfl) dX3_merge_78 (fun h15 => ?_) (fun h15 => ?_)
                · refine v_if_eq ⟨by decide, by decide⟩ dX3_merge_81 (fun h => by exfalso; omega) (fun hb81 => ?_)
                  refine v_bipush dX3_merge_84 (by decide) ?_
                  refine v_aload_n dX3_merge_86 rfl ?_
                  refine v_getR fX3_9 rfl (by assumption) (by assumption) dX3_merge_87 ?_
                  refine v_iload_n dX3_merge_90 rfl ?_
                  refine v_bipush dX3_merge_91 (by decide) ?_
                  refine v_isub dX3_merge_93 ?_
                  refine v_iload_n dX3_merge_94 rfl ?_
                  refine v_bipush dX3_merge_95 (by decide) ?_
                  refine v_isub dX3_merge_97 ?_
                  refine v_VmN (tX0_nearest hC hQ ⟨by omega, by omega⟩ ⟨by omega, by omega⟩) kX3_40 hC.1 rfl rfl ⟨by decide, by decide⟩ ⟨by decide, by decide⟩ (Nat.le_of_ble_eq_true rfl) dX3_merge_98 (fun r16 er16 hr16 rng17 => ?_)
                  refine v_iadd dX3_merge_101 ?_
                  exact v_iret rfl (by decide) (by decide) ⟨by omega, by omega⟩ dX3_merge_102 ⟨(by unfold joinK; split <;> first | omega | (split <;> first | omega | (split <;> first | omega | (split <;> first | omega | (split <;> first | omega | (split <;> omega)))))), rfl, rfl⟩
                · refine v_if_eq ⟨by decide, by decide⟩ dX3_merge_81 (fun hb81 => ?_) (fun h => by exfalso; omega)
                  refine v_bipush dX3_merge_103 (by decide) ?_
                  exact v_iret rfl (by decide) (by decide) ⟨by decide, by decide⟩ dX3_merge_105 ⟨(by unfold joinK; split <;> first | omega | (split <;> first | omega | (split <;> first | omega | (split <;> first | omega | (split <;> first | omega | (split <;> omega)))))), rfl, rfl⟩
              · refine v_if_eq ⟨by decide, by decide⟩ dX3_merge_74 (fun hb74 => ?_) (fun h => by exfalso; omega)
                refine v_bipush dX3_merge_103 (by decide) ?_
                exact v_iret rfl (by decide) (by decide) ⟨by decide, by decide⟩ dX3_merge_105 ⟨(by unfold joinK; split <;> first | omega | (split <;> first | omega | (split <;> first | omega | (split <;> first | omega | (split <;> first | omega | (split <;> omega)))))), rfl, rfl⟩
          · refine v_iload_n dX3_merge_35 rfl ?_
            exact v_iret rfl (by decide) (by decide) hk dX3_merge_36 ⟨(by unfold joinK; split <;> first | omega | (split <;> first | omega | (split <;> first | omega | (split <;> first | omega | (split <;> first | omega | (split <;> omega)))))), rfl, rfl⟩
        · refine v_iload_n dX3_merge_28 rfl ?_
          exact v_iret rfl (by decide) (by decide) hl dX3_merge_29 ⟨(by unfold joinK; split <;> first | omega | (split <;> first | omega | (split <;> first | omega | (split <;> first | omega | (split <;> first | omega | (split <;> omega)))))), rfl, rfl⟩
      · refine v_if_ne ⟨by decide, by decide⟩ dX3_merge_18 (fun h => by exfalso; omega) (fun hb18 => ?_)
        refine v_iconst dX3_merge_21 ?_
        exact v_iret rfl (by decide) (by decide) ⟨by decide, by decide⟩ dX3_merge_22 ⟨(by unfold joinK; split <;> first | omega | (split <;> first | omega | (split <;> first | omega | (split <;> first | omega | (split <;> first | omega | (split <;> omega)))))), rfl, rfl⟩
    · refine v_if_eq ⟨by decide, by decide⟩ dX3_merge_11 (fun hb11 => ?_) (fun h => by exfalso; omega)
      refine v_iconst dX3_merge_21 ?_
      exact v_iret rfl (by decide) (by decide) ⟨by decide, by decide⟩ dX3_merge_22 ⟨(by unfold joinK; split <;> first | omega | (split <;> first | omega | (split <;> first | omega | (split <;> first | omega | (split <;> first | omega | (split <;> omega)))))), rfl, rfl⟩
  · refine v_iload_n dX3_merge_5 rfl ?_
    exact v_iret rfl (by decide) (by decide) hk dX3_merge_6 ⟨(by unfold joinK; split <;> first | omega | (split <;> first | omega | (split <;> first | omega | (split <;> first | omega | (split <;> first | omega | (split <;> omega)))))), rfl, rfl⟩
