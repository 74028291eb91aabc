/-! ===== a place is met ===== -/
/-- frames, what waits, passes, highest -/
abbrev kS : Type := (Nat → fS) × (Nat → Int) × Int × Int
def wkOK (I : w_Mm) (w : Nat) (κ : kS) : Prop := (∀ i, i < 40 → frOK I (w + 3 + 3 * i) (κ.1 i)) ∧ (∀ i, i < 40 → I (w + 2) i = κ.2.1 i ∧ (κ.2.1 i = 0 ∨ κ.2.1 i = 1)) ∧ I w 5 = κ.2.2.1 ∧ I w 6 = κ.2.2.2
def offW (I J : w_Mm) (w : Nat) : Prop := (∀ a k, (a < w ∨ w + 123 ≤ a) → J a k = I a k) ∧ ∀ k, k < 5 → J w k = I w k
theorem offW.rf {I : w_Mm} {w : Nat} : offW I I w := ⟨fun _ _ _ => rfl, fun _ _ => rfl⟩
theorem offW.tr {I J K : w_Mm} {w : Nat} (h : offW I J w) (g : offW J K w) : offW I K w := ⟨fun a k ha => (g.1 a k ha).trans (h.1 a k ha), fun k hk => (g.2 k hk).trans (h.2 k hk)⟩
def uF (fr : Nat → fS) (p : Nat) (φ : fS) : Nat → fS := fun i => if i = p then φ else fr i
def mrgF (Q : cS) (φ ψ : fS) : fS := (φ.1, mrgG Q φ.2.1 ψ.2.1, fun k => if (k : Int) < φ.1 then joinK Q (φ.2.2 k) (ψ.2.2 k) else φ.2.2 k)
def canB (Q : cS) (φ ψ : fS) : Bool := decide (φ.1 = ψ.1) && (List.range φ.1.toNat).all fun k => decide (¬ joinK Q (φ.2.2 k) (ψ.2.2 k) = 0)
def chgB (Q : cS) (φ ψ : fS) : Bool := ((List.range 8).any fun k => decide (¬ joinK Q (φ.2.1 k) (ψ.2.1 k) = φ.2.1 k)) || (List.range φ.1.toNat).any fun k => decide (¬ joinK Q (φ.2.2 k) (ψ.2.2 k) = φ.2.2 k)
theorem canB_iff {Q : cS} {φ ψ : fS} : canB Q φ ψ = true ↔ canM Q φ ψ := by
  unfold canB
  simp only [Bool.and_eq_true, decide_eq_true_eq, List.all_eq_true, List.mem_range]
  constructor
  · rintro ⟨h1, h2⟩
    exact ⟨h1, fun k hk => h2 k (by omega)⟩
  · rintro ⟨h1, h2⟩
    exact ⟨h1, fun k hk => h2 k (by omega)⟩
theorem chgB_iff {Q : cS} {φ ψ : fS} : chgB Q φ ψ = true ↔ (∃ k, k < 8 ∧ ¬ joinK Q (φ.2.1 k) (ψ.2.1 k) = φ.2.1 k) ∨ ∃ k : Nat, (k : Int) < φ.1 ∧ ¬ joinK Q (φ.2.2 k) (ψ.2.2 k) = φ.2.2 k := by
  unfold chgB
  simp only [Bool.or_eq_true, List.any_eq_true, List.mem_range, decide_eq_true_eq]
  constructor
  · rintro (⟨k, h1, h2⟩ | ⟨k, h1, h2⟩)
    · exact Or.inl ⟨k, h1, h2⟩
    · exact Or.inr ⟨k, by omega, h2⟩
  · rintro (⟨k, h1, h2⟩ | ⟨k, h1, h2⟩)
    · exact Or.inl ⟨k, h1, h2⟩
    · exact Or.inr ⟨k, by omega, h2⟩
def xMeet (Q : cS) (κ : kS) (p : Nat) (ψ : fS) : Bool × kS := if (κ.1 p).1 < 0 then (true, (uF κ.1 p ψ, uL κ.2.1 p 1, κ.2.2.1, if κ.2.2.2 < ψ.1 then ψ.1 else κ.2.2.2)) else if canB Q (κ.1 p) ψ = true then (true, (uF κ.1 p (mrgF Q (κ.1 p) ψ), if chgB Q (κ.1 p) ψ = true then uL κ.2.1 p 1 else κ.2.1, κ.2.2)) else (false, κ)
theorem frOK.same {I J : w_Mm} {f : Nat} {φ : fS} (h : frOK I f φ) (h0 : J f 2 = I f 2) (h1 : ∀ k, k < 8 → J (f + 1) k = I (f + 1) k) (h2 : ∀ k, k < 8 → J (f + 2) k = I (f + 2) k) : frOK J f φ :=
  ⟨h0.trans h.1, fun k hk => (h1 k hk).trans (h.2.1 k hk), fun k hk => (h2 k hk).trans (h.2.2.1 k hk), h.2.2.2⟩
theorem meet_new {I J : w_Mm} {w p : Nat} {κ : kS} {ψ : fS} {z : Int} (h : wkOK I w κ) (hp : p < 40) (hJ : frOK J (w + 3 + 3 * p) ψ) (ho : offF I J (w + 3 + 3 * p)) : wkOK (w_up (w_up J w 6 z) (w + 2) p 1) w (uF κ.1 p ψ, uL κ.2.1 p 1, κ.2.2.1, z) ∧ offW I (w_up (w_up J w 6 z) (w + 2) p 1) w := by
  refine ⟨⟨fun i hi => ?_, fun i hi => ?_, ?_, ?_⟩, fun a k ha => ?_, fun k hk => ?_⟩
  · by_cases e : i = p
    · subst e
      rw [show (uF κ.1 i ψ, uL κ.2.1 i 1, κ.2.2.1, z).1 i = ψ by simp [uF]]
      exact hJ.same (by rw [w_up_n (by omega), w_up_n (by omega)]) (fun k hk => by rw [w_up_n (by omega), w_up_n (by omega)]) (fun k hk => by rw [w_up_n (by omega), w_up_n (by omega)])
    · rw [show (uF κ.1 p ψ, uL κ.2.1 p 1, κ.2.2.1, z).1 i = κ.1 i by simp [uF, e]]
      exact (h.1 i hi).same (by rw [w_up_n (by omega), w_up_n (by omega)]; exact ho _ _ (by omega) (by omega) (by omega)) (fun k hk => by rw [w_up_n (by omega), w_up_n (by omega)]; exact ho _ _ (by omega) (by omega) (by omega)) (fun k hk => by rw [w_up_n (by omega), w_up_n (by omega)]; exact ho _ _ (by omega) (by omega) (by omega))
  · by_cases e : i = p
    · subst e
      exact ⟨by rw [w_up_s]; simp [uL], by simp [uL]⟩
    · rw [show (uF κ.1 p ψ, uL κ.2.1 p 1, κ.2.2.1, z).2.1 i = κ.2.1 i by simp [uL, e]]
      exact ⟨by rw [w_up_n (by omega), w_up_n (by omega), ho _ _ (by omega) (by omega) (by omega)]; exact (h.2.1 i hi).1, (h.2.1 i hi).2⟩
  · rw [w_up_n (by omega), w_up_n (by omega), ho _ _ (by omega) (by omega) (by omega)]; exact h.2.2.1
  · rw [w_up_n (by omega), w_up_s]
  · rw [w_up_n (by omega), w_up_n (by omega)]; exact ho _ _ (by omega) (by omega) (by omega)
  · rw [w_up_n (by omega), w_up_n (by omega)]; exact ho _ _ (by omega) (by omega) (by omega)
theorem meet_old {I : w_Mm} {w p d f : Nat} {κ : kS} {Q : cS} {ψ : fS} (h : wkOK I w κ) (hp : p < 40) (hψ : frOK I f ψ) (hf : f + 3 ≤ w) (hd : (κ.1 p).1 = (d : Int)) (hd8 : d ≤ 8) {I1 J : w_Mm} (e1 : I1 = w_map I (w + 3 + 3 * p + 2) d (mrgG Q (I (w + 3 + 3 * p + 2)) (I (f + 2)))) (e2 : J = w_map I1 (w + 3 + 3 * p + 1) 8 (mrgG Q (I1 (w + 3 + 3 * p + 1)) (I1 (f + 1)))) :
    wkOK J w (uF κ.1 p (mrgF Q (κ.1 p) ψ), κ.2.1, κ.2.2) ∧ offW I J w := by
  have hφ := h.1 p hp
  have o1 : ∀ a k, a ≠ w + 3 + 3 * p + 1 → a ≠ w + 3 + 3 * p + 2 → J a k = I a k := fun a k h1 h2 => by rw [e2, w_map_o (by omega), e1, w_map_o (by omega)]
  refine ⟨⟨fun i hi => ?_, fun i hi => ?_, ?_, ?_⟩, fun a k ha => o1 a k (by omega) (by omega), fun k hk => o1 w k (by omega) (by omega)⟩
  · by_cases e : i = p
    · subst e
      rw [show (uF κ.1 i (mrgF Q (κ.1 i) ψ), κ.2.1, κ.2.2).1 i = mrgF Q (κ.1 i) ψ by simp [uF]]
      refine ⟨(o1 _ 2 (by omega) (by omega)).trans hφ.1, fun k hk => ?_, fun k hk => ?_, hφ.2.2.2⟩
      · rw [e2, w_map_i hk, e1]
        show joinK Q (w_map I _ d _ _ k) (w_map I _ d _ _ k) = joinK Q ((κ.1 i).2.1 k) (ψ.2.1 k)
        rw [w_map_o (by omega), w_map_o (by omega), hφ.2.1 k hk, hψ.2.1 k hk]
      · rw [e2, w_map_o (by omega), e1]
        show _ = if (k : Int) < (κ.1 i).1 then joinK Q ((κ.1 i).2.2 k) (ψ.2.2 k) else (κ.1 i).2.2 k
        by_cases hkd : k < d
        · rw [w_map_i hkd, if_pos (by omega)]
          show joinK Q (I _ k) (I _ k) = _
          rw [hφ.2.2.1 k hk, hψ.2.2.1 k hk]
        · rw [w_map_o (by omega), if_neg (by omega)]; exact hφ.2.2.1 k hk
    · rw [show (uF κ.1 p (mrgF Q (κ.1 p) ψ), κ.2.1, κ.2.2).1 i = κ.1 i by simp [uF, e]]
      exact (h.1 i hi).same (o1 _ _ (by omega) (by omega)) (fun k hk => o1 _ _ (by omega) (by omega)) (fun k hk => o1 _ _ (by omega) (by omega))
  · exact ⟨(o1 _ _ (by omega) (by omega)).trans (h.2.1 i hi).1, (h.2.1 i hi).2⟩
  · exact (o1 _ _ (by omega) (by omega)).trans h.2.2.1
  · exact (o1 _ _ (by omega) (by omega)).trans h.2.2.2
theorem wkOK.wait {I : w_Mm} {w p : Nat} {fr : Nat → fS} {wt : Nat → Int} {r : Int × Int} {z : Int} (h : wkOK I w (fr, wt, r)) (hz : z = 0 ∨ z = 1) : wkOK (w_up I (w + 2) p z) w (fr, uL wt p z, r) ∧ offW I (w_up I (w + 2) p z) w := by
  refine ⟨⟨fun i hi => (h.1 i hi).same (w_up_n (by omega)) (fun k hk => w_up_n (by omega)) (fun k hk => w_up_n (by omega)), fun i hi => ?_, (w_up_n (by omega)).trans h.2.2.1, (w_up_n (by omega)).trans h.2.2.2⟩, fun a k ha => w_up_n (by omega), fun k hk => w_up_n (by omega)⟩
  by_cases e : i = p
  · subst e
    exact ⟨by rw [w_up_s]; simp [uL], by simp [uL]; exact hz⟩
  · exact ⟨by rw [w_up_n (by omega), (h.2.1 i hi).1]; simp [uL, e], by simp [uL, e]; exact (h.2.1 i hi).2⟩
/-- the worker: kinds, step, the frame of what is raised -/
def isV (G : w_Sh) (v q c : Nat) : Prop := G.1 v = (7, 0) ∧ G.2.1 v 0 = some q ∧ G.2.1 v 1 = some (v + 4) ∧ G.2.1 v 2 = some (v + 1) ∧ isK G q c ∧ isF G (v + 1) ∧ isS G (v + 4) q c
theorem tX7_meet {E : w_E} {G : w_Sh} {I : w_Mm} {v q c w p f : Nat} {Q : cS} {κ : kS} {ψ : fS} (hV : isV G v q c) (hQ : clsOK I c Q) (hW : isW G w) (hκ : wkOK I w κ) (hp : p < 40) (hF : isF G f) (hψ : frOK I f ψ) (hcf : c + 3 ≤ f) (hfw : f + 3 ≤ w) : w_Ct E mX7_meet 3 [.ref v, .ref w, iv (p : Int), .ref f] G I 0 0 (w_Pi (fun r G' J => G' = G ∧ ((r = 1 ∧ (xMeet Q κ p ψ).1 = true) ∨ (r = 0 ∧ (xMeet Q κ p ψ).1 = false)) ∧ wkOK J w (xMeet Q κ p ψ).2 ∧ offW I J w)) := by
  have hV0 := hV
  obtain ⟨hTv, hRv0, hRv1, hRv2, hK, hFr, hSt⟩ := hV
  obtain ⟨hTw, hRw0, hRw1, hTw1, hTw2, hWf⟩ := hW
  have hFp := hWf p hp
  have hφ := hκ.1 p hp
  have hd8 := hφ.2.2.2.2
  have hd1 := hφ.2.2.2.1
  have hW0 : isW G w := ⟨hTw, hRw0, hRw1, hTw1, hTw2, hWf⟩
  have hψ8 := hψ.2.2.2.2
  have hψ1 := hψ.2.2.2.1
  rcases Int.lt_or_le (κ.1 p).1 0 with hlt | hge
  · have eM : xMeet Q κ p ψ = (true, (uF κ.1 p ψ, uL κ.2.1 p 1, κ.2.2.1, if κ.2.2.2 < ψ.1 then ψ.1 else κ.2.2.2)) := if_pos hlt
    rw [eM]
    refine w_Ct.of (ls := [some (.ref v), some (.ref w), some (iv (p : Int)), some (.ref f), none, none, none]) (by decide +kernel) (Nat.le_of_ble_eq_true rfl) rfl rfl (fun rng => ?_)
    refine v_aload_n dX7_meet_0 rfl ?_
    refine v_getR fX7_98 rfl (by assumption) (by assumption) dX7_meet_1 ?_
    refine v_iload_n dX7_meet_4 rfl ?_
    refine v_aaldF (i := p) (by assumption) hFp.1 rfl (by omega) (by omega) dX7_meet_5 ?_
    refine v_astore dX7_meet_6 (by decide) rfl ?_
    refine v_aload dX7_meet_8 rfl ?_
    refine v_Vb (tX2_isThere hFp.2 hφ) kX7_129 hFp.2.1 rfl rfl ⟨by decide, by decide⟩ ⟨by decide, by decide⟩ (Nat.le_of_ble_eq_true rfl) dX7_meet_10 (fun h1 => by exfalso; omega) (fun h1 => ?_)
    refine v_if_ne ⟨by decide, by decide⟩ dX7_meet_13 (fun h => by exfalso; omega) (fun hb13 => ?_)
    refine v_aload dX7_meet_16 rfl ?_
    refine v_aload_n dX7_meet_18 rfl ?_
    refine v_Vv (tX2_copyFrom hFp.2 hF hψ (by omega)) kX7_132 hFp.2.1 rfl rfl ⟨by decide, by decide⟩ ⟨by decide, by decide⟩ (Nat.le_of_ble_eq_true rfl) dX7_meet_19 (fun G9 J2 pJ2 rng3 => ?_)
    obtain ⟨rfl, fJ2, oJ2⟩ := pJ2
    refine v_aload_n dX7_meet_22 rfl ?_
    refine v_aload_n dX7_meet_23 rfl ?_
    refine v_getI' (v := ψ.1) ((oJ2 f 2 (by omega) (by omega) (by omega)).trans hψ.1) fX7_70 rfl hF.1 dX7_meet_24 ?_
    refine v_Vn (tX6_note hW0 ((oJ2 w 6 (by omega) (by omega) (by omega)).trans hκ.2.2.2) ⟨by omega, by omega⟩) kX7_73 (by assumption) rfl rfl ⟨by decide, by decide⟩ ⟨by decide, by decide⟩ (Nat.le_of_ble_eq_true rfl) dX7_meet_27 (fun rng4 => ?_)
    refine v_aload_n dX7_meet_30 rfl ?_
    refine v_getR fX7_52 rfl (by assumption) (by assumption) dX7_meet_31 ?_
    refine v_iload_n dX7_meet_34 rfl ?_
    refine v_iconst dX7_meet_35 ?_
    refine v_zast (i := p) (by assumption) rfl (by omega) (by omega) (Or.inr rfl) dX7_meet_36 ?_
    have rng5 := w_rng (a := w + 2) (f := p) rng4 (show inR (1) from ⟨by decide, by decide⟩)
    refine v_iconst dX7_meet_37 ?_
    obtain ⟨g1, g2⟩ := meet_new (z := if κ.2.2.2 < ψ.1 then ψ.1 else κ.2.2.2) hκ hp fJ2 oJ2
    exact v_zret rfl (by decide) (by decide) (Or.inr rfl) dX7_meet_38 ⟨rfl, Or.inl ⟨rfl, rfl⟩, g1, g2⟩
  · obtain ⟨d, hd⟩ := Int.eq_ofNat_of_zero_le hge
    by_cases hc : canM Q (κ.1 p) ψ
    · have eM : xMeet Q κ p ψ = (true, (uF κ.1 p (mrgF Q (κ.1 p) ψ), if chgB Q (κ.1 p) ψ = true then uL κ.2.1 p 1 else κ.2.1, κ.2.2)) := by unfold xMeet; rw [if_neg (by omega), if_pos (canB_iff.mpr hc)]
      rw [eM]
      refine w_Ct.of (ls := [some (.ref v), some (.ref w), some (iv (p : Int)), some (.ref f), none, none, none]) (by decide +kernel) (Nat.le_of_ble_eq_true rfl) rfl rfl (fun rng => ?_)
      refine v_aload_n dX7_meet_0 rfl ?_
      refine v_getR fX7_98 rfl (by assumption) (by assumption) dX7_meet_1 ?_
      refine v_iload_n dX7_meet_4 rfl ?_
      refine v_aaldF (i := p) (by assumption) hFp.1 rfl (by omega) (by omega) dX7_meet_5 ?_
      refine v_astore dX7_meet_6 (by decide) rfl ?_
      refine v_aload dX7_meet_8 rfl ?_
      refine v_Vb (tX2_isThere hFp.2 hφ) kX7_129 hFp.2.1 rfl rfl ⟨by decide, by decide⟩ ⟨by decide, by decide⟩ (Nat.le_of_ble_eq_true rfl) dX7_meet_10 (fun h1 => ?_) (fun h1 => by exfalso; omega)
      refine v_if_ne ⟨by decide, by decide⟩ dX7_meet_13 (fun hb13 => ?_) (fun h => by exfalso; omega)
      refine v_aload_n dX7_meet_39 rfl ?_
      refine v_aload dX7_meet_40 rfl ?_
      refine v_aload_n dX7_meet_42 rfl ?_
      refine v_Vb (tX7_canMeet hTv hRv0 hK hQ hFp.2 hφ hF hψ) kX7_136 (by assumption) rfl rfl ⟨by decide, by decide⟩ ⟨by decide, by decide⟩ (Nat.le_of_ble_eq_true rfl) dX7_meet_43 (fun h2 => ?_) (fun h2 => absurd hc h2)
      refine v_if_ne ⟨by decide, by decide⟩ dX7_meet_46 (fun hb46 => ?_) (fun h => by exfalso; omega)
      refine v_aload_n dX7_meet_51 rfl ?_
      refine v_aload dX7_meet_52 rfl ?_
      refine v_getR fX7_140 rfl hFp.2.1 hFp.2.2.2.1 dX7_meet_54 ?_
      refine v_aload_n dX7_meet_57 rfl ?_
      refine v_getR fX7_140 rfl hF.1 hF.2.2.1 dX7_meet_58 ?_
      refine v_aload dX7_meet_61 rfl ?_
      refine v_getI' (v := ((d : Nat) : Int)) (hφ.1.trans hd) fX7_70 rfl hFp.2.1 dX7_meet_63 ?_
      refine v_Vi (tX7_mergeRow hTv hRv0 hK hQ hFp.2.2.2.2.2 hF.2.2.2.2 (by omega) (by omega) (by omega)) kX7_143 (by assumption) rfl rfl ⟨by decide, by decide⟩ ⟨by decide, by decide⟩ (Nat.le_of_ble_eq_true rfl) dX7_meet_66 (fun r5 G9 J3 hr5 pJ3 rng4 => ?_)
      obtain ⟨rfl, rfl, ⟨rfl, xJ3⟩ | ⟨rfl, xJ3⟩⟩ := pJ3
      · refine v_istore dX7_meet_69 (by decide) rfl ?_
        refine v_aload_n dX7_meet_71 rfl ?_
        refine v_aload dX7_meet_72 rfl ?_
        refine v_getR fX7_147 rfl hFp.2.1 hFp.2.2.1 dX7_meet_74 ?_
        refine v_aload_n dX7_meet_77 rfl ?_
        refine v_getR fX7_147 rfl hF.1 hF.2.1 dX7_meet_78 ?_
        refine v_bipush dX7_meet_81 (by decide) ?_
        refine v_Vi (tX7_mergeRow (n := 8) hTv hRv0 hK (hQ.map (by omega)) hFp.2.2.2.2.1 hF.2.2.2.1 (by omega) (by omega) (by omega)) kX7_143 (by assumption) rfl rfl ⟨by decide, by decide⟩ ⟨by decide, by decide⟩ (Nat.le_of_ble_eq_true rfl) dX7_meet_83 (fun r8 G9 J6 hr8 pJ6 rng7 => ?_)
        obtain ⟨rfl, rfl, ⟨rfl, xJ6⟩ | ⟨rfl, xJ6⟩⟩ := pJ6
        · refine v_istore dX7_meet_86 (by decide) rfl ?_
          refine v_iload dX7_meet_88 rfl ?_
          refine v_if_ne ⟨by decide, by decide⟩ dX7_meet_90 (fun hb90 => ?_) (fun h => by exfalso; omega)
          refine v_aload_n dX7_meet_98 rfl ?_
          refine v_getR fX7_52 rfl (by assumption) (by assumption) dX7_meet_99 ?_
          refine v_iload_n dX7_meet_102 rfl ?_
          refine v_iconst dX7_meet_103 ?_
          refine v_zast (i := p) (by assumption) rfl (by omega) (by omega) (Or.inr rfl) dX7_meet_104 ?_
          have rng9 := w_rng (a := w + 2) (f := p) rng7 (show inR (1) from ⟨by decide, by decide⟩)
          refine v_iconst dX7_meet_105 ?_
          obtain ⟨g1, g2⟩ := meet_old (Q := Q) hκ hp hψ hfw hd (by omega) rfl rfl
          obtain ⟨g3, g4⟩ := g1.wait (p := p) (z := 1) (Or.inr rfl)
          have hch : chgB Q (κ.1 p) ψ = true := chgB_iff.mpr (Or.inr (by obtain ⟨k, h1, h2⟩ := xJ3; exact ⟨k, by omega, by rw [← hφ.2.2.1 k (by omega), ← hψ.2.2.1 k (by omega)]; exact h2⟩))
          rw [if_pos hch]
          exact v_zret rfl (by decide) (by decide) (Or.inr rfl) dX7_meet_106 ⟨rfl, Or.inl ⟨rfl, rfl⟩, g3, g2.tr g4⟩
        · refine v_istore dX7_meet_86 (by decide) rfl ?_
          refine v_iload dX7_meet_88 rfl ?_
          refine v_if_ne ⟨by decide, by decide⟩ dX7_meet_90 (fun hb90 => ?_) (fun h => by exfalso; omega)
          refine v_aload_n dX7_meet_98 rfl ?_
          refine v_getR fX7_52 rfl (by assumption) (by assumption) dX7_meet_99 ?_
          refine v_iload_n dX7_meet_102 rfl ?_
          refine v_iconst dX7_meet_103 ?_
          refine v_zast (i := p) (by assumption) rfl (by omega) (by omega) (Or.inr rfl) dX7_meet_104 ?_
          have rng10 := w_rng (a := w + 2) (f := p) rng7 (show inR (1) from ⟨by decide, by decide⟩)
          refine v_iconst dX7_meet_105 ?_
          obtain ⟨g1, g2⟩ := meet_old (Q := Q) hκ hp hψ hfw hd (by omega) rfl rfl
          obtain ⟨g3, g4⟩ := g1.wait (p := p) (z := 1) (Or.inr rfl)
          have hch : chgB Q (κ.1 p) ψ = true := chgB_iff.mpr (Or.inr (by obtain ⟨k, h1, h2⟩ := xJ3; exact ⟨k, by omega, by rw [← hφ.2.2.1 k (by omega), ← hψ.2.2.1 k (by omega)]; exact h2⟩))
          rw [if_pos hch]
          exact v_zret rfl (by decide) (by decide) (Or.inr rfl) dX7_meet_106 ⟨rfl, Or.inl ⟨rfl, rfl⟩, g3, g2.tr g4⟩
      · refine v_istore dX7_meet_69 (by decide) rfl ?_
        refine v_aload_n dX7_meet_71 rfl ?_
        refine v_aload dX7_meet_72 rfl ?_
        refine v_getR fX7_147 rfl hFp.2.1 hFp.2.2.1 dX7_meet_74 ?_
        refine v_aload_n dX7_meet_77 rfl ?_
        refine v_getR fX7_147 rfl hF.1 hF.2.1 dX7_meet_78 ?_
        refine v_bipush dX7_meet_81 (by decide) ?_
        refine v_Vi (tX7_mergeRow (n := 8) hTv hRv0 hK (hQ.map (by omega)) hFp.2.2.2.2.1 hF.2.2.2.1 (by omega) (by omega) (by omega)) kX7_143 (by assumption) rfl rfl ⟨by decide, by decide⟩ ⟨by decide, by decide⟩ (Nat.le_of_ble_eq_true rfl) dX7_meet_83 (fun r13 G9 J11 hr13 pJ11 rng12 => ?_)
        obtain ⟨rfl, rfl, ⟨rfl, xJ11⟩ | ⟨rfl, xJ11⟩⟩ := pJ11
        · refine v_istore dX7_meet_86 (by decide) rfl ?_
          refine v_iload dX7_meet_88 rfl ?_
          refine v_if_ne ⟨by decide, by decide⟩ dX7_meet_90 (fun h => by exfalso; omega) (fun hb90 => ?_)
          refine v_iload dX7_meet_93 rfl ?_
          refine v_if_eq ⟨by decide, by decide⟩ dX7_meet_95 (fun h => by exfalso; omega) (fun hb95 => ?_)
          refine v_aload_n dX7_meet_98 rfl ?_
          refine v_getR fX7_52 rfl (by assumption) (by assumption) dX7_meet_99 ?_
          refine v_iload_n dX7_meet_102 rfl ?_
          refine v_iconst dX7_meet_103 ?_
          refine v_zast (i := p) (by assumption) rfl (by omega) (by omega) (Or.inr rfl) dX7_meet_104 ?_
          have rng14 := w_rng (a := w + 2) (f := p) rng12 (show inR (1) from ⟨by decide, by decide⟩)
          refine v_iconst dX7_meet_105 ?_
          obtain ⟨g1, g2⟩ := meet_old (Q := Q) hκ hp hψ hfw hd (by omega) rfl rfl
          obtain ⟨g3, g4⟩ := g1.wait (p := p) (z := 1) (Or.inr rfl)
          have hch : chgB Q (κ.1 p) ψ = true := chgB_iff.mpr (Or.inl (by obtain ⟨k, h1, h2⟩ := xJ11; exact ⟨k, h1, by rw [← hφ.2.1 k h1, ← hψ.2.1 k h1]; rw [w_map_o (by omega)] at h2; unfold mrgG at h2; rw [w_map_o (by omega), w_map_o (by omega)] at h2; exact h2⟩))
          rw [if_pos hch]
          exact v_zret rfl (by decide) (by decide) (Or.inr rfl) dX7_meet_106 ⟨rfl, Or.inl ⟨rfl, rfl⟩, g3, g2.tr g4⟩
        · refine v_istore dX7_meet_86 (by decide) rfl ?_
          refine v_iload dX7_meet_88 rfl ?_
          refine v_if_ne ⟨by decide, by decide⟩ dX7_meet_90 (fun h => by exfalso; omega) (fun hb90 => ?_)
          refine v_iload dX7_meet_93 rfl ?_
          refine v_if_eq ⟨by decide, by decide⟩ dX7_meet_95 (fun hb95 => ?_) (fun h => by exfalso; omega)
          refine v_iconst dX7_meet_105 ?_
          obtain ⟨g1, g2⟩ := meet_old (Q := Q) hκ hp hψ hfw hd (by omega) rfl rfl
          have hch : ¬ chgB Q (κ.1 p) ψ = true := fun q => by
            rcases chgB_iff.mp q with ⟨k, h1, h2⟩ | ⟨k, h1, h2⟩
            · have h3 := xJ11 k h1
              unfold mrgG at h3
              rw [w_map_o (by omega), w_map_o (by omega), hφ.2.1 k h1, hψ.2.1 k h1] at h3
              exact h2 h3
            · have h3 := xJ3 k (by omega)
              unfold mrgG at h3
              rw [hφ.2.2.1 k (by omega), hψ.2.2.1 k (by omega)] at h3
              exact h2 h3
          rw [if_neg hch]
          exact v_zret rfl (by decide) (by decide) (Or.inr rfl) dX7_meet_106 ⟨rfl, Or.inl ⟨rfl, rfl⟩, g1, g2⟩
    · have eM : xMeet Q κ p ψ = (false, κ) := by unfold xMeet; rw [if_neg (by omega), if_neg (fun q => hc (canB_iff.mp q))]
      rw [eM]
      refine w_Ct.of (ls := [some (.ref v), some (.ref w), some (iv (p : Int)), some (.ref f), none, none, none]) (by decide +kernel) (Nat.le_of_ble_eq_true rfl) rfl rfl (fun rng => ?_)
      refine v_aload_n dX7_meet_0 rfl ?_
      refine v_getR fX7_98 rfl (by assumption) (by assumption) dX7_meet_1 ?_
      refine v_iload_n dX7_meet_4 rfl ?_
      refine v_aaldF (i := p) (by assumption) hFp.1 rfl (by omega) (by omega) dX7_meet_5 ?_
      refine v_astore dX7_meet_6 (by decide) rfl ?_
      refine v_aload dX7_meet_8 rfl ?_
      refine v_Vb (tX2_isThere hFp.2 hφ) kX7_129 hFp.2.1 rfl rfl ⟨by decide, by decide⟩ ⟨by decide, by decide⟩ (Nat.le_of_ble_eq_true rfl) dX7_meet_10 (fun h1 => ?_) (fun h1 => by exfalso; omega)
      refine v_if_ne ⟨by decide, by decide⟩ dX7_meet_13 (fun hb13 => ?_) (fun h => by exfalso; omega)
      refine v_aload_n dX7_meet_39 rfl ?_
      refine v_aload dX7_meet_40 rfl ?_
      refine v_aload_n dX7_meet_42 rfl ?_
      refine v_Vb (tX7_canMeet hTv hRv0 hK hQ hFp.2 hφ hF hψ) kX7_136 (by assumption) rfl rfl ⟨by decide, by decide⟩ ⟨by decide, by decide⟩ (Nat.le_of_ble_eq_true rfl) dX7_meet_43 (fun h2 => absurd h2 hc) (fun h2 => ?_)
      refine v_if_ne ⟨by decide, by decide⟩ dX7_meet_46 (fun h => by exfalso; omega) (fun hb46 => ?_)
      refine v_iconst dX7_meet_49 ?_
      exact v_zret rfl (by decide) (by decide) (Or.inl rfl) dX7_meet_50 ⟨rfl, Or.inr ⟨rfl, rfl⟩, hκ, offW.rf⟩
