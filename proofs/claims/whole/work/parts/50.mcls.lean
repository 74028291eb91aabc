/-! ===== classes: masks and parents ===== -/
abbrev bitC (Q : cS) (c d : Nat) : Prop := Q.2.1 c / 2 ^ d % 2 = 1
theorem bit_and (a b e : Nat) : (a &&& b) / 2 ^ e % 2 = 1 ↔ a / 2 ^ e % 2 = 1 ∧ b / 2 ^ e % 2 = 1 := by
  have h := Nat.testBit_and a b e
  rw [Nat.testBit_eq_decide_div_mod_eq, Nat.testBit_eq_decide_div_mod_eq, Nat.testBit_eq_decide_div_mod_eq] at h
  constructor
  · intro q
    rw [decide_eq_true q] at h
    have h2 := h.symm
    rw [Bool.and_eq_true] at h2
    exact ⟨of_decide_eq_true h2.1, of_decide_eq_true h2.2⟩
  · intro q
    rw [decide_eq_true q.1, decide_eq_true q.2] at h
    exact of_decide_eq_true h
theorem bit_or (a b e : Nat) : (a ||| b) / 2 ^ e % 2 = 1 ↔ a / 2 ^ e % 2 = 1 ∨ b / 2 ^ e % 2 = 1 := by
  have h := Nat.testBit_or a b e
  rw [Nat.testBit_eq_decide_div_mod_eq, Nat.testBit_eq_decide_div_mod_eq, Nat.testBit_eq_decide_div_mod_eq] at h
  constructor
  · intro q
    rw [decide_eq_true q] at h
    have h2 := h.symm
    rw [Bool.or_eq_true] at h2
    exact h2.imp of_decide_eq_true of_decide_eq_true
  · intro q
    apply of_decide_eq_true
    rw [h, Bool.or_eq_true]
    exact q.imp decide_eq_true decide_eq_true
theorem bit_pow (n e : Nat) : 2 ^ n / 2 ^ e % 2 = 1 ↔ e = n := by
  have h := Nat.testBit_two_pow (n := n) (m := e)
  rw [Nat.testBit_eq_decide_div_mod_eq] at h
  constructor
  · intro q
    rw [decide_eq_true q] at h
    exact (of_decide_eq_true h.symm).symm
  · intro q
    apply of_decide_eq_true
    rw [h]
    exact decide_eq_true q.symm
def chn (Q : cS) (P : Nat → Int) : Prop := Q.2.2 0 = 0 ∧ P 0 = -1 ∧ (∀ d, bitC Q 0 d ↔ d = 0) ∧ ∀ c, 1 ≤ c → c < Q.1 → (Q.2.2 c = 1 ∧ P c = -1 ∧ ∀ d, bitC Q c d ↔ (d = c ∨ d = 0)) ∨ (Q.2.2 c = 0 ∧ 0 ≤ P c ∧ P c < (c : Int) ∧ Q.2.2 (P c).toNat = 0 ∧ ∀ d, bitC Q c d ↔ (d = c ∨ bitC Q (P c).toNat d))
theorem chn.self {Q : cS} {P : Nat → Int} (h : chn Q P) {c : Nat} (hc : c < Q.1) : bitC Q c c := by
  by_cases e : c = 0
  · subst e; exact (h.2.2.1 0).mpr rfl
  · rcases h.2.2.2 c (by omega) hc with ⟨_, _, b⟩ | ⟨_, _, _, _, b⟩
    · exact (b c).mpr (Or.inl rfl)
    · exact (b c).mpr (Or.inl rfl)
theorem chn.zero {Q : cS} {P : Nat → Int} (h : chn Q P) : ∀ c, c < Q.1 → bitC Q c 0 := by
  intro c
  induction c using Nat.strongRecOn with
  | _ c ih =>
    intro hc
    by_cases e : c = 0
    · subst e; exact (h.2.2.1 0).mpr rfl
    · rcases h.2.2.2 c (by omega) hc with ⟨_, _, b⟩ | ⟨_, p0, p1, _, b⟩
      · exact (b 0).mpr (Or.inr rfl)
      · exact (b 0).mpr (Or.inr (ih _ (by omega) (by omega)))
theorem chn.le {Q : cS} {P : Nat → Int} (h : chn Q P) : ∀ c, c < Q.1 → ∀ d, bitC Q c d → d ≤ c := by
  intro c
  induction c using Nat.strongRecOn with
  | _ c ih =>
    intro hc d hd
    by_cases e : c = 0
    · subst e; exact Nat.le_of_eq ((h.2.2.1 d).mp hd)
    · rcases h.2.2.2 c (by omega) hc with ⟨_, _, b⟩ | ⟨_, p0, p1, _, b⟩
      · rcases (b d).mp hd with q | q <;> omega
      · rcases (b d).mp hd with q | q
        · omega
        · have := ih (P c).toNat (by omega) (by omega) d q
          omega
theorem chn.nf {Q : cS} {P : Nat → Int} (h : chn Q P) : ∀ c, c < Q.1 → ∀ d, bitC Q c d → d ≠ c → Q.2.2 d = 0 := by
  intro c
  induction c using Nat.strongRecOn with
  | _ c ih =>
    intro hc d hd hne
    by_cases e : c = 0
    · subst e; exact absurd ((h.2.2.1 d).mp hd) hne
    · rcases h.2.2.2 c (by omega) hc with ⟨_, _, b⟩ | ⟨_, p0, p1, p2, b⟩
      · rcases (b d).mp hd with q | q
        · exact absurd q hne
        · subst q; exact h.1
      · rcases (b d).mp hd with q | q
        · exact absurd q hne
        · by_cases e2 : d = (P c).toNat
          · rw [e2]; exact p2
          · exact ih (P c).toNat (by omega) (by omega) d q e2
theorem chn.lin {Q : cS} {P : Nat → Int} (h : chn Q P) : ∀ c, c < Q.1 → ∀ k e, bitC Q c k → bitC Q c e → e ≤ k → bitC Q k e := by
  intro c
  induction c using Nat.strongRecOn with
  | _ c ih =>
    intro hc k e hk he hek
    by_cases e0 : c = 0
    · subst e0
      obtain rfl := (h.2.2.1 k).mp hk
      exact he
    · rcases h.2.2.2 c (by omega) hc with ⟨_, _, b⟩ | ⟨_, p0, p1, p2, b⟩
      · rcases (b k).mp hk with q | q
        · rw [q]; exact he
        · have : e = 0 := by omega
          rw [q, this]; exact h.self (by omega)
      · rcases (b k).mp hk with q | q
        · rw [q]; exact he
        · have hk2 := h.le (P c).toNat (by omega) k q
          rcases (b e).mp he with q2 | q2
          · omega
          · exact ih (P c).toNat (by omega) (by omega) k e q q2 hek
abbrev bel (Q : cS) (c d : Nat) : Prop := bitC Q c d ∧ ¬ (Q.2.2 c = 1 ∧ d = 0)
theorem nearF_is {m : Nat} : ∀ t e0, e0 ≤ t → (e0 = 0 ∨ m / 2 ^ e0 % 2 = 1) → (∀ e, e0 < e → e ≤ t → ¬ m / 2 ^ e % 2 = 1) → nearF m t = e0
  | 0, e0, h1, _, _ => by
    have : e0 = 0 := by omega
    rw [this]; rfl
  | t + 1, e0, h1, h2, h3 => by
    rw [nearF_s]
    by_cases q : m / 2 ^ (t + 1) % 2 = 1
    · rw [if_pos q]
      by_cases e : e0 = t + 1
      · exact e.symm
      · exact absurd q (h3 (t + 1) (by omega) (by omega))
    · rw [if_neg q]
      have hne : e0 ≠ t + 1 := by
        rintro rfl
        rcases h2 with h2 | h2
        · omega
        · exact q h2
      exact nearF_is t e0 (by omega) h2 (fun e u1 u2 => h3 e u1 (by omega))
def clsY (I : w_Mm) (y : Nat) (Q : cS) : Prop := I y 0 = (Q.1 : Int) ∧ 2 ≤ Q.1 ∧ Q.1 ≤ 16 ∧ (∀ j, j < Q.1 → I (y + 2) j = Q.2.2 j ∧ (Q.2.2 j = 0 ∨ Q.2.2 j = 1)) ∧ chn Q (I (y + 1))
theorem clsY.off {I J : w_Mm} {y : Nat} {Q : cS} (h : clsY I y Q) (h0 : J y 0 = I y 0) (h1 : J (y + 1) = I (y + 1)) (h2 : J (y + 2) = I (y + 2)) : clsY J y Q := by
  unfold clsY
  rw [h0, h1, h2]
  exact h
/-- the nearest: a walk up from c -/
theorem near_up {Q : cS} {P : Nat → Int} (h : chn Q P) {c d k : Nat} (hc : c < Q.1) (hd : d < Q.1) (hk : bitC Q c k) (hkd : bitC Q d k) (hmax : ∀ e, k < e → bitC Q c e → ¬ bitC Q d e) : nearF (Q.2.1 c &&& Q.2.1 d) (Q.1 - 1) = k := by
  have := h.le c hc k hk
  exact nearF_is _ _ (by omega) (Or.inr ((bit_and _ _ _).mpr ⟨hk, hkd⟩)) (fun e u1 _ q => hmax e u1 ((bit_and _ _ _).mp q).1 ((bit_and _ _ _).mp q).2)
theorem tX9_in {E : w_E} {G : w_Sh} {I : w_Mm} {v lo hi : Int} (hv : inR v) (hlo : inR lo) (hhi : inR hi) : w_Cb E mX9_in 0 [iv v, iv lo, iv hi] G I (lo ≤ v ∧ v ≤ hi) := by
  refine w_Ct.of (ls := [some (iv v), some (iv lo), some (iv hi)]) (by decide +kernel) (Nat.le_of_ble_eq_true rfl) rfl rfl (fun rng => ?_)
  refine v_iload_n dX9_in_0 rfl ?_
  refine v_iload_n dX9_in_1 rfl ?_
  refine v_icmp_lt hv hlo dX9_in_2 (fun h1 => ?_) (fun h1 => ?_)
  · refine v_iconst dX9_in_14 ?_
    exact v_zret rfl (by decide) (by decide) (Or.inl rfl) dX9_in_15 ⟨rfl, rfl, Or.inr ⟨rfl, by omega⟩⟩
  · refine v_iload_n dX9_in_5 rfl ?_
    refine v_iload_n dX9_in_6 rfl ?_
    refine v_icmp_gt hv hhi dX9_in_7 (fun h2 => ?_) (fun h2 => ?_)
    · refine v_iconst dX9_in_14 ?_
      exact v_zret rfl (by decide) (by decide) (Or.inl rfl) dX9_in_15 ⟨rfl, rfl, Or.inr ⟨rfl, by omega⟩⟩
    · refine v_iconst dX9_in_10 ?_
      refine v_goto dX9_in_11 ?_
      exact v_zret rfl (by decide) (by decide) (Or.inr rfl) dX9_in_15 ⟨rfl, rfl, Or.inl ⟨rfl, by omega⟩⟩
theorem tX9_isReference {E : w_E} {G : w_Sh} {I : w_Mm} {k : Int} (hk : inR k) : w_Cb E mX9_isReference 0 [iv k] G I (kRef k) := by
  refine w_Ct.of (ls := [some (iv k)]) (by decide +kernel) (Nat.le_of_ble_eq_true rfl) rfl rfl (fun rng => ?_)
  refine v_iload_n dX9_isReference_0 rfl ?_
  refine v_iconst dX9_isReference_1 ?_
  refine v_icmp_eq hk ⟨by decide, by decide⟩ dX9_isReference_2 (fun h1 => ?_) (fun h1 => ?_)
  · refine v_iconst dX9_isReference_22 ?_
    refine v_goto dX9_isReference_23 ?_
    exact v_zret rfl (by decide) (by decide) (Or.inr rfl) dX9_isReference_27 ⟨rfl, rfl, Or.inl ⟨rfl, by omega⟩⟩
  · refine v_iload_n dX9_isReference_5 rfl ?_
    refine v_iconst dX9_isReference_6 ?_
    refine v_icmp_eq hk ⟨by decide, by decide⟩ dX9_isReference_7 (fun h2 => ?_) (fun h2 => ?_)
    · refine v_iconst dX9_isReference_22 ?_
      refine v_goto dX9_isReference_23 ?_
      exact v_zret rfl (by decide) (by decide) (Or.inr rfl) dX9_isReference_27 ⟨rfl, rfl, Or.inl ⟨rfl, by omega⟩⟩
    · refine v_iload_n dX9_isReference_10 rfl ?_
      refine v_bipush dX9_isReference_11 (by decide) ?_
      refine v_icmp_lt hk ⟨by decide, by decide⟩ dX9_isReference_13 (fun h3 => ?_) (fun h3 => ?_)
      · refine v_iconst dX9_isReference_26 ?_
        exact v_zret rfl (by decide) (by decide) (Or.inl rfl) dX9_isReference_27 ⟨rfl, rfl, Or.inr ⟨rfl, by omega⟩⟩
      · refine v_iload_n dX9_isReference_16 rfl ?_
        refine v_bipush dX9_isReference_17 (by decide) ?_
        refine v_icmp_ge hk ⟨by decide, by decide⟩ dX9_isReference_19 (fun h4 => ?_) (fun h4 => ?_)
        · refine v_iconst dX9_isReference_26 ?_
          exact v_zret rfl (by decide) (by decide) (Or.inl rfl) dX9_isReference_27 ⟨rfl, rfl, Or.inr ⟨rfl, by omega⟩⟩
        · refine v_iconst dX9_isReference_22 ?_
          refine v_goto dX9_isReference_23 ?_
          exact v_zret rfl (by decide) (by decide) (Or.inr rfl) dX9_isReference_27 ⟨rfl, rfl, Or.inl ⟨rfl, by omega⟩⟩
theorem tX9_isClass {E : w_E} {G : w_Sh} {I : w_Mm} {y : Nat} {Q : cS} (hY : isY G y) (hQ : clsY I y Q) {k : Int} (hk : inR k) : w_Cb E mX9_isClass 1 [.ref y, iv k] G I (hasC Q k) := by
  obtain ⟨hTy, hYr⟩ := hY
  have hQ0 := hQ
  obtain ⟨hq0, hq2, hq16, hqF, hch⟩ := hQ
  refine w_Ct.of (ls := [some (.ref y), some (iv k)]) (by decide +kernel) (Nat.le_of_ble_eq_true rfl) rfl rfl (fun rng => ?_)
  refine v_iload_n dX9_isClass_0 rfl ?_
  refine v_iconst dX9_isClass_1 ?_
  refine v_aload_n dX9_isClass_2 rfl ?_
  refine v_getI' (v := ((Q.1 : Nat) : Int)) hq0 fX9_7 rfl hTy dX9_isClass_3 ?_
  refine v_iconst dX9_isClass_6 ?_
  refine v_isub dX9_isClass_7 ?_
  refine v_Sb (tX9_in hk ⟨by decide, by decide⟩ ⟨by omega, by omega⟩) kX9_99 rfl rfl ⟨by decide, by decide⟩ ⟨by decide, by decide⟩ (Nat.le_of_ble_eq_true rfl) dX9_isClass_8 (fun h1 => ?_) (fun h1 => ?_)
  · exact v_zret rfl (by decide) (by decide) (Or.inr rfl) dX9_isClass_11 ⟨rfl, rfl, Or.inl ⟨rfl, by omega⟩⟩
  · exact v_zret rfl (by decide) (by decide) (Or.inl rfl) dX9_isClass_11 ⟨rfl, rfl, Or.inr ⟨rfl, by omega⟩⟩
theorem tX9_isThing {E : w_E} {G : w_Sh} {I : w_Mm} {y : Nat} {Q : cS} (hY : isY G y) (hQ : clsY I y Q) {k : Int} (hk : inR k) : w_Cb E mX9_isThing 1 [.ref y, iv k] G I (kThing k ∧ hasC Q (k - 10)) := by
  obtain ⟨hTy, hYr⟩ := hY
  have hQ0 := hQ
  obtain ⟨hq0, hq2, hq16, hqF, hch⟩ := hQ
  refine w_Ct.of (ls := [some (.ref y), some (iv k)]) (by decide +kernel) (Nat.le_of_ble_eq_true rfl) rfl rfl (fun rng => ?_)
  refine v_iload_n dX9_isThing_0 rfl ?_
  refine v_bipush dX9_isThing_1 (by decide) ?_
  refine v_bipush dX9_isThing_3 (by decide) ?_
  refine v_aload_n dX9_isThing_5 rfl ?_
  refine v_getI' (v := ((Q.1 : Nat) : Int)) hq0 fX9_7 rfl hTy dX9_isThing_6 ?_
  refine v_iadd dX9_isThing_9 ?_
  refine v_iconst dX9_isThing_10 ?_
  refine v_isub dX9_isThing_11 ?_
  refine v_Sb (tX9_in hk ⟨by decide, by decide⟩ ⟨by omega, by omega⟩) kX9_99 rfl rfl ⟨by decide, by decide⟩ ⟨by decide, by decide⟩ (Nat.le_of_ble_eq_true rfl) dX9_isThing_12 (fun h1 => ?_) (fun h1 => ?_)
  · exact v_zret rfl (by decide) (by decide) (Or.inr rfl) dX9_isThing_15 ⟨rfl, rfl, Or.inl ⟨rfl, by omega⟩⟩
  · exact v_zret rfl (by decide) (by decide) (Or.inl rfl) dX9_isThing_15 ⟨rfl, rfl, Or.inr ⟨rfl, by omega⟩⟩
theorem tX9_isThings {E : w_E} {G : w_Sh} {I : w_Mm} {y : Nat} {Q : cS} (hY : isY G y) (hQ : clsY I y Q) {k : Int} (hk : inR k) : w_Cb E mX9_isThings 1 [.ref y, iv k] G I (kRow k ∧ hasC Q (k - 40)) := by
  obtain ⟨hTy, hYr⟩ := hY
  have hQ0 := hQ
  obtain ⟨hq0, hq2, hq16, hqF, hch⟩ := hQ
  refine w_Ct.of (ls := [some (.ref y), some (iv k)]) (by decide +kernel) (Nat.le_of_ble_eq_true rfl) rfl rfl (fun rng => ?_)
  refine v_iload_n dX9_isThings_0 rfl ?_
  refine v_bipush dX9_isThings_1 (by decide) ?_
  refine v_bipush dX9_isThings_3 (by decide) ?_
  refine v_aload_n dX9_isThings_5 rfl ?_
  refine v_getI' (v := ((Q.1 : Nat) : Int)) hq0 fX9_7 rfl hTy dX9_isThings_6 ?_
  refine v_iadd dX9_isThings_9 ?_
  refine v_iconst dX9_isThings_10 ?_
  refine v_isub dX9_isThings_11 ?_
  refine v_Sb (tX9_in hk ⟨by decide, by decide⟩ ⟨by omega, by omega⟩) kX9_99 rfl rfl ⟨by decide, by decide⟩ ⟨by decide, by decide⟩ (Nat.le_of_ble_eq_true rfl) dX9_isThings_12 (fun h1 => ?_) (fun h1 => ?_)
  · exact v_zret rfl (by decide) (by decide) (Or.inr rfl) dX9_isThings_15 ⟨rfl, rfl, Or.inl ⟨rfl, by omega⟩⟩
  · exact v_zret rfl (by decide) (by decide) (Or.inl rfl) dX9_isThings_15 ⟨rfl, rfl, Or.inr ⟨rfl, by omega⟩⟩
theorem tX9_isBelow {E : w_E} {G : w_Sh} {I : w_Mm} {y : Nat} {Q : cS} (hY : isY G y) (hQ : clsY I y Q) {c d : Nat} (hc : c < Q.1) (hd : d < Q.1) : w_Ct E mX9_isBelow 0 [.ref y, iv (c : Int), iv (d : Int)] G I 0 0 (w_Pi (fun r G' I' => G' = G ∧ I' = I ∧ ((r = 1 ∧ (bel Q c d)) ∨ (r = 0 ∧ ¬ (bel Q c d))))) := by
  obtain ⟨hTy, hYr⟩ := hY
  have hQ0 := hQ
  obtain ⟨hq0, hq2, hq16, hqF, hch⟩ := hQ
  refine w_Ct.of (ls := [some (.ref y), some (iv (c : Int)), some (iv (d : Int)), none]) (by decide +kernel) (Nat.le_of_ble_eq_true rfl) rfl rfl (fun rng => ?_)
  refine v_iload_n dX9_isBelow_0 rfl ?_
  refine v_istore_n dX9_isBelow_1 (by decide) rfl ?_
  have loop : ∀ (kk : Nat), kk < Q.1 → (bel Q kk d ↔ bel Q c d) → w_V E mX9_isBelow (w_rm 0 0 0) (w_Z E 0 0 (w_Pi (fun r G' I' => G' = G ∧ I' = I ∧ ((r = 1 ∧ (bel Q c d)) ∨ (r = 0 ∧ ¬ (bel Q c d)))))) G I 0 0 2 [some (.ref y), some (iv (c : Int)), some (iv (d : Int)), some (iv (kk : Int))] [] := by
    intro kk
    induction kk using Nat.strongRecOn with
    | _ kk ih =>
      intro hkk hiff
      by_cases e : kk = d
      · have hb : bel Q kk d := ⟨e ▸ hch.self hkk, fun q => by have := hch.1; rw [← e] at q; rw [q.2] at q; omega⟩
        refine v_iload_n dX9_isBelow_2 rfl ?_
        refine v_iconst dX9_isBelow_3 ?_
        refine v_icmp_eq ⟨by omega, by omega⟩ ⟨by decide, by decide⟩ dX9_isBelow_4 (fun h => by exfalso; omega) (fun hb4 => ?_)
        refine v_iload_n dX9_isBelow_7 rfl ?_
        refine v_iload_n dX9_isBelow_8 rfl ?_
        refine v_icmp_eq ⟨by omega, by omega⟩ ⟨by omega, by omega⟩ dX9_isBelow_9 (fun hb9 => ?_) (fun h => by exfalso; omega)
        refine v_iload_n dX9_isBelow_22 rfl ?_
        refine v_iload_n dX9_isBelow_23 rfl ?_
        refine v_icmp_ne ⟨by omega, by omega⟩ ⟨by omega, by omega⟩ dX9_isBelow_24 (fun h => by exfalso; omega) (fun hb24 => ?_)
        refine v_iconst dX9_isBelow_27 ?_
        refine v_goto dX9_isBelow_28 ?_
        exact v_zret rfl (by decide) (by decide) (Or.inr rfl) dX9_isBelow_32 ⟨rfl, rfl, Or.inl ⟨rfl, by exact hiff.mp hb⟩⟩
      · have hP : (I (y + 1) kk = -1 ∧ ¬ bel Q kk d) ∨ ∃ p : Nat, I (y + 1) kk = (p : Int) ∧ p < kk ∧ (bel Q p d ↔ bel Q kk d) := by
          by_cases e0 : kk = 0
          · refine Or.inl ⟨by rw [e0]; exact hch.2.1, fun q => e ?_⟩
            rw [e0] at q ⊢; exact ((hch.2.2.1 d).mp q.1).symm
          · rcases hch.2.2.2 kk (by omega) hkk with ⟨f1, p1, b⟩ | ⟨f1, p0, p1, p2, b⟩
            · refine Or.inl ⟨p1, fun q => ?_⟩
              rcases (b d).mp q.1 with r | r
              · exact e r.symm
              · exact q.2 ⟨f1, r⟩
            · refine Or.inr ⟨(I (y + 1) kk).toNat, by omega, by omega, ?_⟩
              constructor
              · intro q; exact ⟨(b d).mpr (Or.inr q.1), fun r => by omega⟩
              · intro q
                rcases (b d).mp q.1 with r | r
                · exact absurd r.symm e
                · exact ⟨r, fun r => by omega⟩
        rcases hP with ⟨hp, hn⟩ | ⟨p, hp, hpk, hpi⟩
        · refine v_iload_n dX9_isBelow_2 rfl ?_
          refine v_iconst dX9_isBelow_3 ?_
          refine v_icmp_eq ⟨by omega, by omega⟩ ⟨by decide, by decide⟩ dX9_isBelow_4 (fun h => by exfalso; omega) (fun hb4 => ?_)
          refine v_iload_n dX9_isBelow_7 rfl ?_
          refine v_iload_n dX9_isBelow_8 rfl ?_
          refine v_icmp_eq ⟨by omega, by omega⟩ ⟨by omega, by omega⟩ dX9_isBelow_9 (fun h => by exfalso; omega) (fun hb9 => ?_)
          refine v_aload_n dX9_isBelow_12 rfl ?_
          refine v_getR fX9_13 rfl hTy (hYr 0 _ rfl).2 dX9_isBelow_13 ?_
          refine v_iload_n dX9_isBelow_16 rfl ?_
          refine v_iald' (i := kk) (v := -1) hp (show G.1 (y + 1) = (10, 16) from (hYr 0 _ rfl).1) rfl (by omega) (by omega) dX9_isBelow_17 ?_
          refine v_istore_n dX9_isBelow_18 (by decide) rfl ?_
          refine v_goto dX9_isBelow_19 ?_
          refine v_iload_n dX9_isBelow_2 rfl ?_
          refine v_iconst dX9_isBelow_3 ?_
          refine v_icmp_eq ⟨by decide, by decide⟩ ⟨by decide, by decide⟩ dX9_isBelow_4 (fun hb4 => ?_) (fun h => by exfalso; omega)
          refine v_iload_n dX9_isBelow_22 rfl ?_
          refine v_iload_n dX9_isBelow_23 rfl ?_
          refine v_icmp_ne ⟨by decide, by decide⟩ ⟨by omega, by omega⟩ dX9_isBelow_24 (fun hb24 => ?_) (fun h => by exfalso; omega)
          refine v_iconst dX9_isBelow_31 ?_
          exact v_zret rfl (by decide) (by decide) (Or.inl rfl) dX9_isBelow_32 ⟨rfl, rfl, Or.inr ⟨rfl, by exact fun q => hn (hiff.mpr q)⟩⟩
        · refine v_iload_n dX9_isBelow_2 rfl ?_
          refine v_iconst dX9_isBelow_3 ?_
          refine v_icmp_eq ⟨by omega, by omega⟩ ⟨by decide, by decide⟩ dX9_isBelow_4 (fun h => by exfalso; omega) (fun hb4 => ?_)
          refine v_iload_n dX9_isBelow_7 rfl ?_
          refine v_iload_n dX9_isBelow_8 rfl ?_
          refine v_icmp_eq ⟨by omega, by omega⟩ ⟨by omega, by omega⟩ dX9_isBelow_9 (fun h => by exfalso; omega) (fun hb9 => ?_)
          refine v_aload_n dX9_isBelow_12 rfl ?_
          refine v_getR fX9_13 rfl hTy (hYr 0 _ rfl).2 dX9_isBelow_13 ?_
          refine v_iload_n dX9_isBelow_16 rfl ?_
          refine v_iald' (i := kk) (v := ((p : Nat) : Int)) hp (show G.1 (y + 1) = (10, 16) from (hYr 0 _ rfl).1) rfl (by omega) (by omega) dX9_isBelow_17 ?_
          refine v_istore_n dX9_isBelow_18 (by decide) rfl ?_
          refine v_goto dX9_isBelow_19 ?_
          exact ih p hpk (by omega) (hpi.trans hiff)
  exact loop c hc Iff.rfl
theorem tX9_fitsClass {E : w_E} {G : w_Sh} {I : w_Mm} {y : Nat} {Q : cS} (hY : isY G y) (hQ : clsY I y Q) {x z : Int} (hx : hasC Q x) (hz : hasC Q z) : w_Ct E mX9_fitsClass 1 [.ref y, iv x, iv z] G I 0 0 (w_Pi (fun r G' I' => G' = G ∧ I' = I ∧ ((r = 1 ∧ (fitC Q x z)) ∨ (r = 0 ∧ ¬ (fitC Q x z))))) := by
  obtain ⟨hTy, hYr⟩ := hY
  have hQ0 := hQ
  obtain ⟨hq0, hq2, hq16, hqF, hch⟩ := hQ
  refine w_Ct.of (ls := [some (.ref y), some (iv x), some (iv z)]) (by decide +kernel) (Nat.le_of_ble_eq_true rfl) rfl rfl (fun rng => ?_)
  obtain ⟨c, rfl⟩ : ∃ c : Nat, x = (c : Int) := ⟨x.toNat, by omega⟩
  obtain ⟨d, rfl⟩ : ∃ d : Nat, z = (d : Int) := ⟨z.toNat, by omega⟩
  have hc0 : c < Q.1 := by omega
  have hd0 : d < Q.1 := by omega
  refine v_aload_n dX9_fitsClass_0 rfl ?_
  refine v_getR fX9_17 rfl hTy (hYr 1 _ rfl).2 dX9_fitsClass_1 ?_
  refine v_iload_n dX9_fitsClass_4 rfl ?_
  refine v_zald' (i := d) (v := Q.2.2 (d)) (hqF (d) (by omega)).1 (show G.1 (y + 2) = (11, 16) from (hYr 1 _ rfl).1) rfl (by omega) (by omega) dX9_fitsClass_5 ?_
  refine v_if_ne (by have := (hqF (d) (by omega)).2; exact ⟨by omega, by omega⟩) dX9_fitsClass_6 (fun h1 => ?_) (fun h1 => ?_)
  · refine v_iconst dX9_fitsClass_31 ?_
    refine v_goto dX9_fitsClass_32 ?_
    exact v_zret rfl (by decide) (by decide) (Or.inr rfl) dX9_fitsClass_36 ⟨rfl, rfl, Or.inl ⟨rfl, ⟨hx, hz, Or.inl h1⟩⟩⟩
  · refine v_aload_n dX9_fitsClass_9 rfl ?_
    refine v_iload_n dX9_fitsClass_10 rfl ?_
    refine v_iload_n dX9_fitsClass_11 rfl ?_
    refine v_Vb (tX9_isBelow (⟨hTy, hYr⟩ : isY G y) hQ0 (c := c) (d := d) (by omega) (by omega)) kX9_107 hTy rfl rfl ⟨by decide, by decide⟩ ⟨by decide, by decide⟩ (Nat.le_of_ble_eq_true rfl) dX9_fitsClass_12 (fun h2 => ?_) (fun h2 => ?_)
    · refine v_if_ne ⟨by decide, by decide⟩ dX9_fitsClass_15 (fun hb15 => ?_) (fun h => by exfalso; omega)
      refine v_iconst dX9_fitsClass_31 ?_
      refine v_goto dX9_fitsClass_32 ?_
      exact v_zret rfl (by decide) (by decide) (Or.inr rfl) dX9_fitsClass_36 ⟨rfl, rfl, Or.inl ⟨rfl, ⟨hx, hz, Or.inr h2.1⟩⟩⟩
    · refine v_if_ne ⟨by decide, by decide⟩ dX9_fitsClass_15 (fun h => by exfalso; omega) (fun hb15 => ?_)
      refine v_aload_n dX9_fitsClass_18 rfl ?_
      refine v_getR fX9_17 rfl hTy (hYr 1 _ rfl).2 dX9_fitsClass_19 ?_
      refine v_iload_n dX9_fitsClass_22 rfl ?_
      refine v_zald' (i := c) (v := Q.2.2 (c)) (hqF (c) (by omega)).1 (show G.1 (y + 2) = (11, 16) from (hYr 1 _ rfl).1) rfl (by omega) (by omega) dX9_fitsClass_23 ?_
      refine v_if_eq (by have := (hqF (c) (by omega)).2; exact ⟨by omega, by omega⟩) dX9_fitsClass_24 (fun h3 => ?_) (fun h3 => ?_)
      · refine v_iconst dX9_fitsClass_35 ?_
        have hcf := (hqF c hc0).2
        refine v_zret rfl (by decide) (by decide) (Or.inl rfl) dX9_fitsClass_36 ⟨rfl, rfl, Or.inr ⟨rfl, fun q => ?_⟩⟩
        rcases q.2.2 with q | q
        · exact q h1
        · exact h2 ⟨q, fun r => by omega⟩
      · refine v_iload_n dX9_fitsClass_27 rfl ?_
        refine v_if_ne ⟨by omega, by omega⟩ dX9_fitsClass_28 (fun h4 => ?_) (fun h4 => ?_)
        · refine v_iconst dX9_fitsClass_35 ?_
          have hcf := (hqF c hc0).2
          refine v_zret rfl (by decide) (by decide) (Or.inl rfl) dX9_fitsClass_36 ⟨rfl, rfl, Or.inr ⟨rfl, fun q => ?_⟩⟩
          rcases q.2.2 with q | q
          · exact q h1
          · exact h2 ⟨q, fun r => by omega⟩
        · refine v_iconst dX9_fitsClass_31 ?_
          refine v_goto dX9_fitsClass_32 ?_
          have ed : d = 0 := by omega
          exact v_zret rfl (by decide) (by decide) (Or.inr rfl) dX9_fitsClass_36 ⟨rfl, rfl, Or.inl ⟨rfl, ⟨hx, hz, Or.inr (by rw [ed]; exact hch.zero c hc0)⟩⟩⟩
theorem up_bit {Q : cS} {P : Nat → Int} (h : chn Q P) : ∀ c, c < Q.1 → ∀ k p, bitC Q c k → bitC Q k p → bitC Q c p := by
  intro c
  induction c using Nat.strongRecOn with
  | _ c ih =>
    intro hc k p hk hp
    by_cases e0 : c = 0
    · subst e0
      obtain rfl := (h.2.2.1 k).mp hk
      exact hp
    · rcases h.2.2.2 c (by omega) hc with ⟨_, _, b⟩ | ⟨_, p0, p1, p2, b⟩
      · rcases (b k).mp hk with q | q
        · rw [← q]; rw [q] at hp; rw [q]; exact hp
        · subst q
          rw [(h.2.2.1 p).mp hp]; exact hk
      · rcases (b k).mp hk with q | q
        · subst q; exact hp
        · exact (b p).mpr (Or.inr (ih (P c).toNat (by omega) (by omega) k p q hp))
theorem tX9_joinClass {E : w_E} {G : w_Sh} {I : w_Mm} {y : Nat} {Q : cS} (hY : isY G y) (hQ : clsY I y Q) {x z : Int} (hx : hasC Q x) (hz : hasC Q z) : w_Ct E mX9_joinClass 1 [.ref y, iv x, iv z] G I 0 0 (w_Pi (fun r G' I' => r = (nearC Q x z) ∧ G' = G ∧ I' = I)) := by
  obtain ⟨hTy, hYr⟩ := hY
  have hQ0 := hQ
  obtain ⟨hq0, hq2, hq16, hqF, hch⟩ := hQ
  refine w_Ct.of (ls := [some (.ref y), some (iv x), some (iv z), none]) (by decide +kernel) (Nat.le_of_ble_eq_true rfl) rfl rfl (fun rng => ?_)
  have eN : nearC Q x z = ((nearF (Q.2.1 x.toNat &&& Q.2.1 z.toNat) (Q.1 - 1) : Nat) : Int) := if_pos ⟨hx, hz⟩
  obtain ⟨c, rfl⟩ : ∃ c : Nat, x = (c : Int) := ⟨x.toNat, by omega⟩
  obtain ⟨d, rfl⟩ : ∃ d : Nat, z = (d : Int) := ⟨z.toNat, by omega⟩
  rw [Int.toNat_natCast, Int.toNat_natCast] at eN
  have hc0 : c < Q.1 := by omega
  have hd0 : d < Q.1 := by omega
  refine v_iload_n dX9_joinClass_0 rfl ?_
  refine v_iload_n dX9_joinClass_1 rfl ?_
  refine v_icmp_ne ⟨by omega, by omega⟩ ⟨by omega, by omega⟩ dX9_joinClass_2 (fun h1 => ?_) (fun h1 => ?_)
  · refine v_aload_n dX9_joinClass_7 rfl ?_
    refine v_getR fX9_17 rfl hTy (hYr 1 _ rfl).2 dX9_joinClass_8 ?_
    refine v_iload_n dX9_joinClass_11 rfl ?_
    refine v_zald' (i := c) (v := Q.2.2 (c)) (hqF (c) (by omega)).1 (show G.1 (y + 2) = (11, 16) from (hYr 1 _ rfl).1) rfl (by omega) (by omega) dX9_joinClass_12 ?_
    refine v_if_ne (by have := (hqF (c) (by omega)).2; exact ⟨by omega, by omega⟩) dX9_joinClass_13 (fun h2 => ?_) (fun h2 => ?_)
    · refine v_iconst dX9_joinClass_25 ?_
      have hne : c ≠ d := fun q => h1 (by rw [q])
      have hn0 : nearF (Q.2.1 c &&& Q.2.1 d) (Q.1 - 1) = 0 := near_up hch hc0 hd0 (hch.zero c hc0) (hch.zero d hd0) (fun e u1 u2 u3 => by
        by_cases q : e = c
        · rw [q] at u3
          exact h2 (hch.nf d hd0 c u3 hne)
        · rcases hch.2.2.2 c (by have := hch.le c hc0 e u2; omega) hc0 with ⟨f1, p1, b⟩ | ⟨f1, p0, p1, p2, b⟩
          · rcases (b e).mp u2 with r | r <;> omega
          · exact h2 f1)
      exact v_iret rfl (by decide) (by decide) ⟨by decide, by decide⟩ dX9_joinClass_26 ⟨by rw [eN, hn0]; rfl, rfl, rfl⟩
    · refine v_aload_n dX9_joinClass_16 rfl ?_
      refine v_getR fX9_17 rfl hTy (hYr 1 _ rfl).2 dX9_joinClass_17 ?_
      refine v_iload_n dX9_joinClass_20 rfl ?_
      refine v_zald' (i := d) (v := Q.2.2 (d)) (hqF (d) (by omega)).1 (show G.1 (y + 2) = (11, 16) from (hYr 1 _ rfl).1) rfl (by omega) (by omega) dX9_joinClass_21 ?_
      refine v_if_eq (by have := (hqF (d) (by omega)).2; exact ⟨by omega, by omega⟩) dX9_joinClass_22 (fun h3 => ?_) (fun h3 => ?_)
      · refine v_iload_n dX9_joinClass_27 rfl ?_
        refine v_istore_n dX9_joinClass_28 (by decide) rfl ?_
        have loop : ∀ (kk : Nat), bitC Q c kk → Q.2.2 kk = 0 → (∀ e, kk < e → bitC Q c e → ¬ bitC Q d e) → w_V E mX9_joinClass (w_rm 1 0 0) (w_Z E 0 0 (w_Pi (fun r G' I' => r = (nearC Q (c : Int) (d : Int)) ∧ G' = G ∧ I' = I))) G I 0 0 29 [some (.ref y), some (iv (c : Int)), some (iv (d : Int)), some (iv (kk : Int))] [] := by
          intro kk
          induction kk using Nat.strongRecOn with
          | _ kk ih =>
            intro hk hf hmax
            have hkc := hch.le c hc0 kk hk
            refine v_aload_n dX9_joinClass_29 rfl ?_
            refine v_iload_n dX9_joinClass_30 rfl ?_
            refine v_iload_n dX9_joinClass_31 rfl ?_
            refine v_Vb (tX9_isBelow (⟨hTy, hYr⟩ : isY G y) hQ0 (c := d) (d := kk) (by omega) (by omega)) kX9_107 hTy rfl rfl ⟨by decide, by decide⟩ ⟨by decide, by decide⟩ (Nat.le_of_ble_eq_true rfl) dX9_joinClass_32 (fun h1 => ?_) (fun h1 => ?_)
            · refine v_if_ne ⟨by decide, by decide⟩ dX9_joinClass_35 (fun hb35 => ?_) (fun h => by exfalso; omega)
              refine v_iload_n dX9_joinClass_48 rfl ?_
              exact v_iret rfl (by decide) (by decide) ⟨by omega, by omega⟩ dX9_joinClass_49 ⟨by rw [eN, near_up hch hc0 hd0 hk h1.1 hmax], rfl, rfl⟩
            · refine v_if_ne ⟨by decide, by decide⟩ dX9_joinClass_35 (fun h => by exfalso; omega) (fun hb35 => ?_)
              have hnb : ¬ bitC Q d kk ∧ kk ≠ 0 := by
                have hz0 : kk ≠ 0 := fun r => h1 ⟨by rw [r]; exact hch.zero d hd0, fun s => by have := h3; omega⟩
                exact ⟨fun r => h1 ⟨r, fun s => hz0 s.2⟩, hz0⟩
              have hPk : ∃ p : Nat, I (y + 1) kk = (p : Int) ∧ p < kk ∧ Q.2.2 p = 0 ∧ bitC Q kk p ∧ ∀ e, bitC Q kk e → e ≠ kk → e ≤ p := by
                rcases hch.2.2.2 kk (by omega) (by omega) with ⟨f1, p1, b⟩ | ⟨f1, p0, p1, p2, b⟩
                · omega
                · refine ⟨(I (y + 1) kk).toNat, by omega, by omega, p2, (b _).mpr (Or.inr (hch.self (by omega))), fun e u1 u2 => ?_⟩
                  rcases (b e).mp u1 with r | r
                  · exact absurd r u2
                  · exact hch.le _ (by omega) e r
              obtain ⟨p, hp, hpk, hpf, hpb, hpm⟩ := hPk
              refine v_aload_n dX9_joinClass_38 rfl ?_
              refine v_getR fX9_13 rfl hTy (hYr 0 _ rfl).2 dX9_joinClass_39 ?_
              refine v_iload_n dX9_joinClass_42 rfl ?_
              refine v_iald' (i := kk) (v := ((p : Nat) : Int)) hp (show G.1 (y + 1) = (10, 16) from (hYr 0 _ rfl).1) rfl (by omega) (by omega) dX9_joinClass_43 ?_
              refine v_istore_n dX9_joinClass_44 (by decide) rfl ?_
              refine v_goto dX9_joinClass_45 ?_
              refine ih p hpk ?_ hpf (fun e u1 u2 u3 => ?_)
              · rcases hch.2.2.2 c (by omega) hc0 with ⟨f1, p1, b⟩ | ⟨f1, p0, p1, p2, b⟩
                · rcases (b kk).mp hk with r | r <;> omega
                · exact up_bit hch c hc0 kk p hk hpb
              · by_cases q1 : kk < e
                · exact hmax e q1 u2 u3
                · by_cases q2 : e = kk
                  · exact hnb.1 (q2 ▸ u3)
                  · have := hpm e (hch.lin c hc0 kk e hk u2 (by omega)) q2
                    omega
        exact loop c (hch.self hc0) (by have := (hqF c hc0).2; omega) (fun e u1 u2 => absurd (hch.le c hc0 e u2) (by omega))
      · refine v_iconst dX9_joinClass_25 ?_
        have hne : c ≠ d := fun q => h1 (by rw [q])
        have hn0 : nearF (Q.2.1 c &&& Q.2.1 d) (Q.1 - 1) = 0 := near_up hch hc0 hd0 (hch.zero c hc0) (hch.zero d hd0) (fun e u1 u2 u3 => by
          by_cases q : e = d
          · rw [q] at u2
            exact h3 (hch.nf c hc0 d u2 (Ne.symm hne))
          · rcases hch.2.2.2 d (by have := hch.le d hd0 e u3; omega) hd0 with ⟨f1, p1, b⟩ | ⟨f1, p0, p1, p2, b⟩
            · rcases (b e).mp u3 with r | r <;> omega
            · exact h3 f1)
        exact v_iret rfl (by decide) (by decide) ⟨by decide, by decide⟩ dX9_joinClass_26 ⟨by rw [eN, hn0]; rfl, rfl, rfl⟩
  · refine v_iload_n dX9_joinClass_5 rfl ?_
    obtain rfl : c = d := by omega
    exact v_iret rfl (by decide) (by decide) ⟨by omega, by omega⟩ dX9_joinClass_6 ⟨by rw [eN, near_up hch hc0 hc0 (hch.self hc0) (hch.self hc0) (fun e u1 u2 => absurd (hch.le c hc0 e u2) (by omega))], rfl, rfl⟩
