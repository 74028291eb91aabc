/-! ===== methods as they were told ===== -/
/-- (result, locals of arguments, beginning), (places, op, a, b), (guards, from, to, handler, raised) -/
abbrev mS : Type := (Int × Nat × (Nat → Int)) × (Nat × (Nat → Int) × (Nat → Int) × (Nat → Int)) × (Nat × (Nat → Int) × (Nat → Int) × (Nat → Int) × (Nat → Int))
abbrev mRes (π : mS) : Int := π.1.1
abbrev mNA (π : mS) : Nat := π.1.2.1
abbrev mBeg (π : mS) : Nat → Int := π.1.2.2
abbrev mN (π : mS) : Nat := π.2.1.1
abbrev mOp (π : mS) : Nat → Int := π.2.1.2.1
abbrev mA (π : mS) : Nat → Int := π.2.1.2.2.1
abbrev mB (π : mS) : Nat → Int := π.2.1.2.2.2
abbrev mNG (π : mS) : Nat := π.2.2.1
abbrev mGf (π : mS) : Nat → Int := π.2.2.2.1
abbrev mGt (π : mS) : Nat → Int := π.2.2.2.2.1
abbrev mGh (π : mS) : Nat → Int := π.2.2.2.2.2.1
abbrev mGc (π : mS) : Nat → Int := π.2.2.2.2.2.2
def isW (G : w_Sh) (w : Nat) : Prop := G.1 w = (6, 0) ∧ G.2.1 w 0 = some (w + 1) ∧ G.2.1 w 1 = some (w + 2) ∧ G.1 (w + 1) = (12, 40) ∧ G.1 (w + 2) = (11, 40) ∧ ∀ i, i < 40 → G.2.1 (w + 1) i = some (w + 3 + 3 * i) ∧ isF G (w + 3 + 3 * i)
def isM (G : w_Sh) (m : Nat) : Prop := G.1 m = (4, 0) ∧ G.2.1 m 1 = some (m + 1) ∧ G.2.1 m 3 = some (m + 2) ∧ G.2.1 m 4 = some (m + 3) ∧ G.2.1 m 5 = some (m + 4) ∧ G.2.1 m 7 = some (m + 5) ∧ G.2.1 m 8 = some (m + 6) ∧ G.2.1 m 9 = some (m + 7) ∧ G.2.1 m 10 = some (m + 8) ∧ G.2.1 m 12 = some (m + 9) ∧
  G.1 (m + 1) = (10, 8) ∧ G.1 (m + 2) = (10, 40) ∧ G.1 (m + 3) = (10, 40) ∧ G.1 (m + 4) = (10, 40) ∧ G.1 (m + 5) = (10, 6) ∧ G.1 (m + 6) = (10, 6) ∧ G.1 (m + 7) = (10, 6) ∧ G.1 (m + 8) = (10, 6) ∧ isW G (m + 9)
def metOK (I : w_Mm) (m : Nat) (π : mS) : Prop := I m 0 = mRes π ∧ I m 2 = (mNA π : Int) ∧ mNA π ≤ 8 ∧ (∀ k, k < 8 → I (m + 1) k = mBeg π k) ∧ I m 6 = (mN π : Int) ∧ mN π ≤ 40 ∧
  (∀ p, p < mN π → I (m + 2) p = mOp π p ∧ I (m + 3) p = mA π p ∧ I (m + 4) p = mB π p) ∧ I m 11 = (mNG π : Int) ∧ mNG π ≤ 6 ∧ ∀ g, g < mNG π → I (m + 5) g = mGf π g ∧ I (m + 6) g = mGt π g ∧ I (m + 7) g = mGh π g ∧ I (m + 8) g = mGc π g
theorem metOK.off {I J : w_Mm} {m : Nat} {π : mS} (h : metOK I m π) (ho : ∀ a k, m ≤ a → a < m + 9 → J a k = I a k) : metOK J m π := by
  obtain ⟨h1, h2, h3, h4, h5, h6, h7, h8, h9, h10⟩ := h
  refine ⟨(ho m 0 (by omega) (by omega)).trans h1, (ho m 2 (by omega) (by omega)).trans h2, h3, fun k hk => (ho _ k (by omega) (by omega)).trans (h4 k hk), (ho m 6 (by omega) (by omega)).trans h5, h6, fun p hp => ?_, (ho m 11 (by omega) (by omega)).trans h8, h9, fun g hg => ?_⟩
  · obtain ⟨a, b, c⟩ := h7 p hp
    exact ⟨(ho _ p (by omega) (by omega)).trans a, (ho _ p (by omega) (by omega)).trans b, (ho _ p (by omega) (by omega)).trans c⟩
  · obtain ⟨a, b, c, d⟩ := h10 g hg
    exact ⟨(ho _ g (by omega) (by omega)).trans a, (ho _ g (by omega) (by omega)).trans b, (ho _ g (by omega) (by omega)).trans c, (ho _ g (by omega) (by omega)).trans d⟩
def couK (π : mS) (t : Int) : Int := if 100 ≤ t ∧ t - 100 < (mN π : Int) ∧ mOp π (t - 100).toNat = 13 then mA π (t - 100).toNat else -1
def xChk (σ : sS) (P : Prop) [Decidable P] (n : Int) : sS := if P then σ else xBrk σ n
def xLayTop (σ : sS) : sS := xLay (xLay (xChk (xTA σ).2 (¬ (xTA σ).1 = 3) 3) (xTA σ).1) (xTA σ).1
def xMake0 (π : mS) (σ : sS) (cl : Int) : sS := xChk (xTA σ).2 (couK π (xTA σ).1 = cl) 3
def xMake (π : mS) (σ : sS) (cl : Int) : sS := if (xMake0 π σ cl).1 = 0 then ((xMake0 π σ cl).1, replF (xMake0 π σ cl).2 (xTA σ).1 (10 + cl)) else xMake0 π σ cl
def xLoadE (Q : cS) (σ : sS) : sS := if (xTA (xTake Q σ 1)).1 = 5 then xLay (xTA (xTake Q σ 1)).2 1 else if kRow (xTA (xTake Q σ 1)).1 then xLay (xTA (xTake Q σ 1)).2 (10 + (xTA (xTake Q σ 1)).1 - 40) else xLay (xChk (xTA (xTake Q σ 1)).2 ((xTA (xTake Q σ 1)).1 = 4) 3) 4
def xSt1 (Q : cS) (σ : sS) : sS := xTake Q (xChk (xTA σ).2 ((xTA σ).1 = 1 ∨ kRef (xTA σ).1) 3) 1
def xStoreE (Q : cS) (σ : sS) : sS := xChk (xTA (xSt1 Q σ)).2 ((xTA (xSt1 Q σ)).1 = 4 ∨ ((xTA σ).1 = 1 ∧ (xTA (xSt1 Q σ)).1 = 5) ∨ (¬ (xTA σ).1 = 1 ∧ kRow (xTA (xSt1 Q σ)).1)) 3
abbrev kHeld (k : Int) : Prop := kRef k ∨ 100 ≤ k
def xUL (Q : cS) (σ : sS) (op : Int) (a : Nat) : sS := if op = 2 then xLay (xChk σ (σ.2.2.1 a = 1) 4) 1 else if op = 3 then xPut (xTake Q σ 1) a 1 else if op = 4 then xLay (xChk σ (lngAt σ.2.2.1 (a : Int)) 4) 2 else if op = 5 then xPutL (xTake Q σ 2) a else if op = 6 then xLay (xChk σ (kHeld (σ.2.2.1 a)) 4) (σ.2.2.1 a) else xPut (xChk (xTA σ).2 (kHeld (xTA σ).1) 3) a (xTA σ).1
def xUV (Q : cS) (σ : sS) (op res : Int) : sS := if op = 0 then xLay σ 1 else if op = 1 then xLay σ 2 else if op = 8 then xLay (xTake Q (xTake Q σ 1) 1) 1 else if op = 9 then xLay (xTake Q (xTake Q σ 2) 2) 2 else if op = 10 then xLay (xTake Q σ 1) 2 else if op = 11 then xTake Q σ 1 else if op = 14 then xLayTop σ else if op = 22 then xTake Q σ 11 else if op = 23 then xTake Q σ res else if op = 24 then xChk (xTA σ).2 (¬ (xTA σ).1 = 3) 3 else if op = 25 then xTake Q σ 2 else σ
def xUT (Q : cS) (π : mS) (σ : sS) (p : Nat) (op a b : Int) : sS := if op = 13 then xLay σ (100 + (p : Int)) else if op = 15 then xMake π σ a else if op = 16 then xLay (xTake Q σ (10 + a)) b else if op = 17 then xLay σ 4 else if op = 18 then xLay (xChk (xTA σ).2 (kRef (xTA σ).1) 3) (10 + a) else if op = 19 then xLay (xTake Q σ 1) (if a = -1 then 5 else 40 + a) else if op = 20 then xLoadE Q σ else xStoreE Q σ
def xPerf (Q : cS) (π : mS) (σ : sS) (p : Nat) : sS := if 2 ≤ mOp π p ∧ mOp π p ≤ 7 then xUL Q σ (mOp π p) (mA π p).toNat else if mOp π p = 13 ∨ (15 ≤ mOp π p ∧ mOp π p ≤ 21) then xUT Q π σ p (mOp π p) (mA π p) (mB π p) else xUV Q σ (mOp π p) (mRes π)
/-- what op() has let in -/
def opOK (Q : cS) (op a b : Int) : Prop := 0 ≤ op ∧ op ≤ 25 ∧ ((op = 2 ∨ op = 3 ∨ op = 6 ∨ op = 7) → 0 ≤ a ∧ a < 8) ∧ ((op = 4 ∨ op = 5) → 0 ≤ a ∧ a < 7) ∧ ((op = 11 ∨ op = 12) → 0 ≤ a) ∧ ((op = 13 ∨ op = 15 ∨ op = 16 ∨ op = 18) → hasC Q a) ∧ (op = 16 → resK Q b) ∧ (op = 19 → a = -1 ∨ hasC Q a)
theorem tX4_hasPlace {E : w_E} {G : w_Sh} {I : w_Mm} {m : Nat} {π : mS} (hM : isM G m) (hπ : metOK I m π) {x : Int} (hx : inR x) : w_Cb E mX4_hasPlace 0 [.ref m, iv x] G I (0 ≤ x ∧ x < (mN π : Int)) := by
  have hM0 := hM
  obtain ⟨hTm, hRm1, hRm3, hRm4, hRm5, hRm7, hRm8, hRm9, hRm10, hRm12, hTm1, hTm2, hTm3, hTm4, hTm5, hTm6, hTm7, hTm8, hWk⟩ := hM
  have hπ0 := hπ
  obtain ⟨hp0, hp2, hpA, hpB, hp6, hpn, hpo, hp11, hpg, hpG⟩ := hπ
  refine w_Ct.of (ls := [some (.ref m), some (iv x)]) (by decide +kernel) (Nat.le_of_ble_eq_true rfl) rfl rfl (fun rng => ?_)
  refine v_iload_n dX4_hasPlace_0 rfl ?_
  refine v_if_lt hx dX4_hasPlace_1 (fun h1 => ?_) (fun h1 => ?_)
  · refine v_iconst dX4_hasPlace_16 ?_
    exact v_zret rfl (by decide) (by decide) (Or.inl rfl) dX4_hasPlace_17 ⟨rfl, rfl, Or.inr ⟨rfl, by omega⟩⟩
  · refine v_iload_n dX4_hasPlace_4 rfl ?_
    refine v_aload_n dX4_hasPlace_5 rfl ?_
    refine v_getI' (v := ((mN π : Nat) : Int)) hp6 fX4_54 rfl (by assumption) dX4_hasPlace_6 ?_
    refine v_icmp_ge hx ⟨by omega, by omega⟩ dX4_hasPlace_9 (fun h2 => ?_) (fun h2 => ?_)
    · refine v_iconst dX4_hasPlace_16 ?_
      exact v_zret rfl (by decide) (by decide) (Or.inl rfl) dX4_hasPlace_17 ⟨rfl, rfl, Or.inr ⟨rfl, by omega⟩⟩
    · refine v_iconst dX4_hasPlace_12 ?_
      refine v_goto dX4_hasPlace_13 ?_
      exact v_zret rfl (by decide) (by decide) (Or.inr rfl) dX4_hasPlace_17 ⟨rfl, rfl, Or.inl ⟨rfl, by omega⟩⟩
theorem tX4_isGuarded {E : w_E} {G : w_Sh} {I : w_Mm} {m : Nat} {π : mS} (hM : isM G m) (hπ : metOK I m π) {x : Int} {g : Nat} (hx : inR x) (hg : g < mNG π) : w_Cb E mX4_isGuarded 0 [.ref m, iv x, iv (g : Int)] G I (mGf π g ≤ x ∧ x < mGt π g) := by
  have hM0 := hM
  obtain ⟨hTm, hRm1, hRm3, hRm4, hRm5, hRm7, hRm8, hRm9, hRm10, hRm12, hTm1, hTm2, hTm3, hTm4, hTm5, hTm6, hTm7, hTm8, hWk⟩ := hM
  have hπ0 := hπ
  obtain ⟨hp0, hp2, hpA, hpB, hp6, hpn, hpo, hp11, hpg, hpG⟩ := hπ
  refine w_Ct.of (ls := [some (.ref m), some (iv x), some (iv (g : Int))]) (by decide +kernel) (Nat.le_of_ble_eq_true rfl) rfl rfl (fun rng => ?_)
  refine v_iload_n dX4_isGuarded_0 rfl ?_
  refine v_aload_n dX4_isGuarded_1 rfl ?_
  refine v_getR fX4_24 rfl (by assumption) (by assumption) dX4_isGuarded_2 ?_
  refine v_iload_n dX4_isGuarded_5 rfl ?_
  refine v_iald' (i := g) (v := mGf π (g)) (hpG (g) (by omega)).1 (by assumption) rfl (by omega) (by omega) dX4_isGuarded_6 ?_
  refine v_icmp_lt hx (by rw [← (hpG (g) (by omega)).1]; exact rng _ _) dX4_isGuarded_7 (fun h1 => ?_) (fun h1 => ?_)
  · refine v_iconst dX4_isGuarded_24 ?_
    exact v_zret rfl (by decide) (by decide) (Or.inl rfl) dX4_isGuarded_25 ⟨rfl, rfl, Or.inr ⟨rfl, by omega⟩⟩
  · refine v_iload_n dX4_isGuarded_10 rfl ?_
    refine v_aload_n dX4_isGuarded_11 rfl ?_
    refine v_getR fX4_27 rfl (by assumption) (by assumption) dX4_isGuarded_12 ?_
    refine v_iload_n dX4_isGuarded_15 rfl ?_
    refine v_iald' (i := g) (v := mGt π (g)) (hpG (g) (by omega)).2.1 (by assumption) rfl (by omega) (by omega) dX4_isGuarded_16 ?_
    refine v_icmp_ge hx (by rw [← (hpG (g) (by omega)).2.1]; exact rng _ _) dX4_isGuarded_17 (fun h2 => ?_) (fun h2 => ?_)
    · refine v_iconst dX4_isGuarded_24 ?_
      exact v_zret rfl (by decide) (by decide) (Or.inl rfl) dX4_isGuarded_25 ⟨rfl, rfl, Or.inr ⟨rfl, by omega⟩⟩
    · refine v_iconst dX4_isGuarded_20 ?_
      refine v_goto dX4_isGuarded_21 ?_
      exact v_zret rfl (by decide) (by decide) (Or.inr rfl) dX4_isGuarded_25 ⟨rfl, rfl, Or.inl ⟨rfl, by omega⟩⟩
theorem tX4_isJump {E : w_E} {G : w_Sh} {I : w_Mm} {m : Nat} {π : mS} (hM : isM G m) (hπ : metOK I m π) {p : Nat} (hp : p < mN π) : w_Cb E mX4_isJump 0 [.ref m, iv (p : Int)] G I (mOp π p = 11 ∨ mOp π p = 12) := by
  have hM0 := hM
  obtain ⟨hTm, hRm1, hRm3, hRm4, hRm5, hRm7, hRm8, hRm9, hRm10, hRm12, hTm1, hTm2, hTm3, hTm4, hTm5, hTm6, hTm7, hTm8, hWk⟩ := hM
  have hπ0 := hπ
  obtain ⟨hp0, hp2, hpA, hpB, hp6, hpn, hpo, hp11, hpg, hpG⟩ := hπ
  refine w_Ct.of (ls := [some (.ref m), some (iv (p : Int))]) (by decide +kernel) (Nat.le_of_ble_eq_true rfl) rfl rfl (fun rng => ?_)
  refine v_aload_n dX4_isJump_0 rfl ?_
  refine v_getR fX4_15 rfl (by assumption) (by assumption) dX4_isJump_1 ?_
  refine v_iload_n dX4_isJump_4 rfl ?_
  refine v_iald' (i := p) (v := mOp π (p)) (hpo (p) (by omega)).1 (by assumption) rfl (by omega) (by omega) dX4_isJump_5 ?_
  refine v_bipush dX4_isJump_6 (by decide) ?_
  refine v_icmp_eq (by rw [← (hpo (p) (by omega)).1]; exact rng _ _) ⟨by decide, by decide⟩ dX4_isJump_8 (fun h1 => ?_) (fun h1 => ?_)
  · refine v_iconst dX4_isJump_22 ?_
    refine v_goto dX4_isJump_23 ?_
    exact v_zret rfl (by decide) (by decide) (Or.inr rfl) dX4_isJump_27 ⟨rfl, rfl, Or.inl ⟨rfl, by omega⟩⟩
  · refine v_aload_n dX4_isJump_11 rfl ?_
    refine v_getR fX4_15 rfl (by assumption) (by assumption) dX4_isJump_12 ?_
    refine v_iload_n dX4_isJump_15 rfl ?_
    refine v_iald' (i := p) (v := mOp π (p)) (hpo (p) (by omega)).1 (by assumption) rfl (by omega) (by omega) dX4_isJump_16 ?_
    refine v_bipush dX4_isJump_17 (by decide) ?_
    refine v_icmp_ne (by rw [← (hpo (p) (by omega)).1]; exact rng _ _) ⟨by decide, by decide⟩ dX4_isJump_19 (fun h2 => ?_) (fun h2 => ?_)
    · refine v_iconst dX4_isJump_26 ?_
      exact v_zret rfl (by decide) (by decide) (Or.inl rfl) dX4_isJump_27 ⟨rfl, rfl, Or.inr ⟨rfl, by omega⟩⟩
    · refine v_iconst dX4_isJump_22 ?_
      refine v_goto dX4_isJump_23 ?_
      exact v_zret rfl (by decide) (by decide) (Or.inr rfl) dX4_isJump_27 ⟨rfl, rfl, Or.inl ⟨rfl, by omega⟩⟩
theorem tX4_classOfUnmade {E : w_E} {G : w_Sh} {I : w_Mm} {m : Nat} {π : mS} (hM : isM G m) (hπ : metOK I m π) {t : Int} (ht : inR t) (ht2 : -1000 ≤ t) : w_Cm E mX4_classOfUnmade 1 [.ref m, iv t] G I (couK π t) I := by
  have hM0 := hM
  obtain ⟨hTm, hRm1, hRm3, hRm4, hRm5, hRm7, hRm8, hRm9, hRm10, hRm12, hTm1, hTm2, hTm3, hTm4, hTm5, hTm6, hTm7, hTm8, hWk⟩ := hM
  have hπ0 := hπ
  obtain ⟨hp0, hp2, hpA, hpB, hp6, hpn, hpo, hp11, hpg, hpG⟩ := hπ
  have htA : t ≤ 2147483647 := ht.2
  refine w_Ct.of (ls := [some (.ref m), some (iv t), none]) (by decide +kernel) (Nat.le_of_ble_eq_true rfl) rfl rfl (fun rng => ?_)
  refine v_iload_n dX4_classOfUnmade_0 rfl ?_
  refine v_bipush dX4_classOfUnmade_1 (by decide) ?_
  refine v_isub dX4_classOfUnmade_3 ?_
  refine v_istore_n dX4_classOfUnmade_4 (by decide) rfl ?_
  refine v_iload_n dX4_classOfUnmade_5 rfl ?_
  refine v_Sb (tX3_isUnmade ht) kX4_60 rfl rfl ⟨by decide, by decide⟩ ⟨by decide, by decide⟩ (Nat.le_of_ble_eq_true rfl) dX4_classOfUnmade_6 (fun h1 => ?_) (fun h1 => ?_)
  · refine v_if_eq ⟨by decide, by decide⟩ dX4_classOfUnmade_9 (fun h => by exfalso; omega) (fun hb9 => ?_)
    refine v_aload_n dX4_classOfUnmade_12 rfl ?_
    refine v_iload_n dX4_classOfUnmade_13 rfl ?_
    refine v_Vb (tX4_hasPlace hM0 hπ0 ⟨by omega, by omega⟩) kX4_66 (by assumption) rfl rfl ⟨by decide, by decide⟩ ⟨by decide, by decide⟩ (Nat.le_of_ble_eq_true rfl) dX4_classOfUnmade_14 (fun h2 => ?_) (fun h2 => ?_)
    · refine v_if_eq ⟨by decide, by decide⟩ dX4_classOfUnmade_17 (fun h => by exfalso; omega) (fun hb17 => ?_)
      refine v_aload_n dX4_classOfUnmade_20 rfl ?_
      refine v_getR fX4_15 rfl (by assumption) (by assumption) dX4_classOfUnmade_21 ?_
      refine v_iload_n dX4_classOfUnmade_24 rfl ?_
      refine v_iald' (i := ((t - 100)).toNat) (v := mOp π (((t - 100)).toNat)) (hpo (((t - 100)).toNat) (by omega)).1 (by assumption) (by omega) (by omega) (by omega) dX4_classOfUnmade_25 ?_
      refine v_bipush dX4_classOfUnmade_26 (by decide) ?_
      refine v_icmp_ne (by rw [← (hpo (((t - 100)).toNat) (by omega)).1]; exact rng _ _) ⟨by decide, by decide⟩ dX4_classOfUnmade_28 (fun h3 => ?_) (fun h3 => ?_)
      · refine v_iconst dX4_classOfUnmade_40 ?_
        exact v_iret rfl (by decide) (by decide) ⟨by decide, by decide⟩ dX4_classOfUnmade_41 ⟨(by unfold couK; first | rw [if_pos (by omega)] | rw [if_neg (by omega)]), rfl, rfl⟩
      · refine v_aload_n dX4_classOfUnmade_31 rfl ?_
        refine v_getR fX4_18 rfl (by assumption) (by assumption) dX4_classOfUnmade_32 ?_
        refine v_iload_n dX4_classOfUnmade_35 rfl ?_
        refine v_iald' (i := ((t - 100)).toNat) (v := mA π (((t - 100)).toNat)) (hpo (((t - 100)).toNat) (by omega)).2.1 (by assumption) (by omega) (by omega) (by omega) dX4_classOfUnmade_36 ?_
        refine v_goto dX4_classOfUnmade_37 ?_
        exact v_iret rfl (by decide) (by decide) (by rw [← (hpo (((t - 100)).toNat) (by omega)).2.1]; exact rng _ _) dX4_classOfUnmade_41 ⟨(by unfold couK; first | rw [if_pos (by omega)] | rw [if_neg (by omega)]), rfl, rfl⟩
    · refine v_if_eq ⟨by decide, by decide⟩ dX4_classOfUnmade_17 (fun hb17 => ?_) (fun h => by exfalso; omega)
      refine v_iconst dX4_classOfUnmade_40 ?_
      exact v_iret rfl (by decide) (by decide) ⟨by decide, by decide⟩ dX4_classOfUnmade_41 ⟨(by unfold couK; first | rw [if_pos (by omega)] | rw [if_neg (by omega)]), rfl, rfl⟩
  · refine v_if_eq ⟨by decide, by decide⟩ dX4_classOfUnmade_9 (fun hb9 => ?_) (fun h => by exfalso; omega)
    refine v_iconst dX4_classOfUnmade_40 ?_
    exact v_iret rfl (by decide) (by decide) ⟨by decide, by decide⟩ dX4_classOfUnmade_41 ⟨(by unfold couK; first | rw [if_pos (by omega)] | rw [if_neg (by omega)]), rfl, rfl⟩
theorem tX5_isReferenceOrUnmade {E : w_E} {G : w_Sh} {I : w_Mm} {k : Int} (hk : inR k) : w_Cb E mX5_isReferenceOrUnmade 1 [iv k] G I (kHeld k) := by
  refine w_Ct.of (ls := [some (iv k)]) (by decide +kernel) (Nat.le_of_ble_eq_true rfl) rfl rfl (fun rng => ?_)
  refine v_iload_n dX5_isReferenceOrUnmade_0 rfl ?_
  refine v_Sb (tX3_isReference hk) kX5_106 rfl rfl ⟨by decide, by decide⟩ ⟨by decide, by decide⟩ (Nat.le_of_ble_eq_true rfl) dX5_isReferenceOrUnmade_1 (fun h1 => ?_) (fun h1 => ?_)
  · refine v_if_ne ⟨by decide, by decide⟩ dX5_isReferenceOrUnmade_4 (fun hb4 => ?_) (fun h => by exfalso; omega)
    refine v_iconst dX5_isReferenceOrUnmade_14 ?_
    refine v_goto dX5_isReferenceOrUnmade_15 ?_
    exact v_zret rfl (by decide) (by decide) (Or.inr rfl) dX5_isReferenceOrUnmade_19 ⟨rfl, rfl, Or.inl ⟨rfl, by omega⟩⟩
  · refine v_if_ne ⟨by decide, by decide⟩ dX5_isReferenceOrUnmade_4 (fun h => by exfalso; omega) (fun hb4 => ?_)
    refine v_iload_n dX5_isReferenceOrUnmade_7 rfl ?_
    refine v_Sb (tX3_isUnmade hk) kX5_127 rfl rfl ⟨by decide, by decide⟩ ⟨by decide, by decide⟩ (Nat.le_of_ble_eq_true rfl) dX5_isReferenceOrUnmade_8 (fun h2 => ?_) (fun h2 => ?_)
    · refine v_if_eq ⟨by decide, by decide⟩ dX5_isReferenceOrUnmade_11 (fun h => by exfalso; omega) (fun hb11 => ?_)
      refine v_iconst dX5_isReferenceOrUnmade_14 ?_
      refine v_goto dX5_isReferenceOrUnmade_15 ?_
      exact v_zret rfl (by decide) (by decide) (Or.inr rfl) dX5_isReferenceOrUnmade_19 ⟨rfl, rfl, Or.inl ⟨rfl, by omega⟩⟩
    · refine v_if_eq ⟨by decide, by decide⟩ dX5_isReferenceOrUnmade_11 (fun hb11 => ?_) (fun h => by exfalso; omega)
      refine v_iconst dX5_isReferenceOrUnmade_18 ?_
      exact v_zret rfl (by decide) (by decide) (Or.inl rfl) dX5_isReferenceOrUnmade_19 ⟨rfl, rfl, Or.inr ⟨rfl, by omega⟩⟩
