theorem isX.mv0 {G G' : w_Sh} {x : Nat} (h : isX G x 0) (sm : sam G G' x (x + 18)) : isX G' x 0 := by
  obtain ⟨h1, r0, r1, r2, r3, r4, h17, hV, hH, _⟩ := h
  obtain ⟨V1, V2, V3, V4, ⟨V5, V6, V7⟩, V8, V9, V10, V11, -, V12⟩ := hV
  have sd : ∀ lo hi, x ≤ lo → hi ≤ x + 18 → sam G G' lo hi := fun lo hi u1 u2 b u3 u4 => sm b (by omega) (by omega)
  have Kc : isK G' (x + 4) (x + 1) := ⟨(sm _ (by omega) (by omega)).1.trans V5, (congrFun (sm _ (by omega) (by omega)).2 _).trans V6, V7.mv (sd _ _ (by omega) (by omega))⟩
  have ex := (sm x (by omega) (by omega)).2
  exact ⟨(sm x (by omega) (by omega)).1.trans h1, (congrFun ex _).trans r0, (congrFun ex _).trans r1, (congrFun ex _).trans r2, (congrFun ex _).trans r3, (congrFun ex _).trans r4, (sm _ (by omega) (by omega)).1.trans h17, ⟨(sm _ (by omega) (by omega)).1.trans V1, (congrFun (sm _ (by omega) (by omega)).2 _).trans V2, (congrFun (sm _ (by omega) (by omega)).2 _).trans V3, (congrFun (sm _ (by omega) (by omega)).2 _).trans V4, Kc, V8.mv (sd _ _ (by omega) (by omega)), (sm _ (by omega) (by omega)).1.trans V9, (congrFun (sm _ (by omega) (by omega)).2 _).trans V10, (congrFun (sm _ (by omega) (by omega)).2 _).trans V11, Kc, V12.mv (sd _ _ (by omega) (by omega))⟩, hH.mv (sd _ _ (by omega) (by omega)), fun i hi => absurd hi (Nat.not_lt_zero i)⟩
theorem xOK.mv0 {I J : w_Mm} {x : Nat} (h : xOK I x xs0) (e : ∀ b, b < x + 18 → J b = I b) : xOK J x xs0 := by
  obtain ⟨h1, h2, h3, h4, h5⟩ := h
  exact ⟨h1.off (fun k => ⟨congrFun (e _ (by omega)) k, congrFun (e _ (by omega)) k, congrFun (e _ (by omega)) k⟩), (congrFun (e _ (by omega)) _).trans h2, h3, fun i hi => absurd (show i < 0 from hi) (Nat.not_lt_zero i), h5.same (congrFun (e _ (by omega)) _) (fun k _ => congrFun (e _ (by omega)) _) (fun k _ => congrFun (e _ (by omega)) _)⟩
theorem lw_loop {E : w_E} {x : Nat} (hlen : E.2.2.2.2.2.1 < 2147483648) (hL : E.2.2.2.2.2.1 ≤ 3072) : ∀ (mm t k n : Nat) (G : w_Sh) (I : w_Mm) (s : xS), E.2.2.2.2.2.1 < 6 * t + 6 * mm + 6 → t ≤ 512 → k ≤ 47 + 132 * t → n ≤ 5791 + 1012 * t → lwI G I x s → (∀ a k, inR (I a k)) → w_V E mL_law room_1 (lw_Zs E.2.2.2.1.size) G I k n 18 [some (.ref E.2.2.2.2.1), some (.ref x), some (.ref (x + 18)), some (iv ((6 * t : Nat) : Int))] [] := by
  intro mm
  induction mm with
  | zero =>
    intro t k n G I s hm ht hk hn hI rng
    refine v_iload_n dL_law_18 rfl ?_
    refine v_aload_n dL_law_19 rfl ?_
    refine v_slen hlen dL_law_20 ?_
    refine v_bipush dL_law_21 (by decide) ?_
    refine v_isub dL_law_23 ?_
    refine v_icmp_gt ⟨by omega, by omega⟩ ⟨by omega, by omega⟩ dL_law_24 (fun hg => ?_) (fun hg => by exfalso; omega)
    refine v_iconst dL_law_565 ?_
    exact v_lret (by omega) (by omega) dL_law_566
  | succ mm ih =>
    intro t k n G I s hm ht hk hn hI rng
    refine v_iload_n dL_law_18 rfl ?_
    refine v_aload_n dL_law_19 rfl ?_
    refine v_slen hlen dL_law_20 ?_
    refine v_bipush dL_law_21 (by decide) ?_
    refine v_isub dL_law_23 ?_
    refine v_icmp_gt ⟨by omega, by omega⟩ ⟨by omega, by omega⟩ dL_law_24 (fun hg => ?_) (fun hg => ?_)
    · refine v_iconst dL_law_565 ?_
      exact v_lret (by omega) (by omega) dL_law_566
    · have kk : ∀ (G1 : w_Sh) (J : w_Mm) (s1 : xS) (k1 n1 : Nat), k1 ≤ 47 + 132 * (t + 1) → n1 ≤ 5791 + 1012 * (t + 1) → lwI G1 J x s1 → (∀ a k, inR (J a k)) → w_V E mL_law room_1 (lw_Zs E.2.2.2.1.size) G1 J k1 n1 559 [some (.ref E.2.2.2.2.1), some (.ref x), some (.ref (x + 18)), some (iv ((6 * t : Nat) : Int))] [] := by
        intro G1 J s1 k1 n1 u1 u2 u3 u4
        refine v_iinc dL_law_559 rfl (by decide) rfl rfl ?_
        refine v_goto dL_law_562 ?_
        rw [show ((6 * t : Nat) : Int) + 6 = ((6 * (t + 1) : Nat) : Int) by omega]
        exact ih (t + 1) k1 n1 G1 J s1 (by omega) (by omega) u1 u2 u3 u4
      refine v_aload_n dL_law_27 rfl ?_
      refine v_iload_n dL_law_28 rfl ?_
      refine v_sld (i := 6 * t) rfl (by omega) hlen dL_law_29 ?_
      refine v_bipush dL_law_30 (by decide) ?_
      refine v_iand (z := (E.2.2.2.2.2.2 (6 * t)).toInt % 16) (an_15 _ (inR_of _)) dL_law_32 ?_
      have hc : (E.2.2.2.2.2.2 (6 * t)).toInt % 16 = 0 ∨ (E.2.2.2.2.2.2 (6 * t)).toInt % 16 = 1 ∨ (E.2.2.2.2.2.2 (6 * t)).toInt % 16 = 2 ∨ (E.2.2.2.2.2.2 (6 * t)).toInt % 16 = 3 ∨ (E.2.2.2.2.2.2 (6 * t)).toInt % 16 = 4 ∨ (E.2.2.2.2.2.2 (6 * t)).toInt % 16 = 5 ∨ (E.2.2.2.2.2.2 (6 * t)).toInt % 16 = 6 ∨ (E.2.2.2.2.2.2 (6 * t)).toInt % 16 = 7 ∨ (E.2.2.2.2.2.2 (6 * t)).toInt % 16 = 8 ∨ (E.2.2.2.2.2.2 (6 * t)).toInt % 16 = 9 ∨ (E.2.2.2.2.2.2 (6 * t)).toInt % 16 = 10 ∨ (E.2.2.2.2.2.2 (6 * t)).toInt % 16 = 11 ∨ (E.2.2.2.2.2.2 (6 * t)).toInt % 16 = 12 ∨ 12 < (E.2.2.2.2.2.2 (6 * t)).toInt % 16 := by omega
      rcases hc with hc | hc | hc | hc | hc | hc | hc | hc | hc | hc | hc | hc | hc | hc
      · rw [hc]
        exact v_tswIn (off := 67) (tgt := 100) dL_law_33 ⟨by decide, by decide⟩ (by decide) (by decide) (by decide) (by decide) (lw_c0 hlen hL (by omega) hk hn hI rng kk)
      · rw [hc]
        exact v_tswIn (off := 90) (tgt := 123) dL_law_33 ⟨by decide, by decide⟩ (by decide) (by decide) (by decide) (by decide) (lw_c1 hlen hL (by omega) hk hn hI rng kk)
      · rw [hc]
        exact v_tswIn (off := 123) (tgt := 156) dL_law_33 ⟨by decide, by decide⟩ (by decide) (by decide) (by decide) (by decide) (lw_c2 hlen hL (by omega) hk hn hI rng kk)
      · rw [hc]
        exact v_tswIn (off := 156) (tgt := 189) dL_law_33 ⟨by decide, by decide⟩ (by decide) (by decide) (by decide) (by decide) (lw_c3 hlen hL (by omega) hk hn hI rng kk)
      · rw [hc]
        exact v_tswIn (off := 179) (tgt := 212) dL_law_33 ⟨by decide, by decide⟩ (by decide) (by decide) (by decide) (by decide) (lw_c4 hlen hL (by omega) hk hn hI rng kk)
      · rw [hc]
        exact v_tswIn (off := 212) (tgt := 245) dL_law_33 ⟨by decide, by decide⟩ (by decide) (by decide) (by decide) (by decide) (lw_c5 hlen hL (by omega) hk hn hI rng kk)
      · rw [hc]
        exact v_tswIn (off := 265) (tgt := 298) dL_law_33 ⟨by decide, by decide⟩ (by decide) (by decide) (by decide) (by decide) (lw_c6 hlen hL (by omega) hk hn hI rng kk)
      · rw [hc]
        exact v_tswIn (off := 328) (tgt := 361) dL_law_33 ⟨by decide, by decide⟩ (by decide) (by decide) (by decide) (by decide) (lw_c7 hlen hL (by omega) hk hn hI rng kk)
      · rw [hc]
        exact v_tswIn (off := 351) (tgt := 384) dL_law_33 ⟨by decide, by decide⟩ (by decide) (by decide) (by decide) (by decide) (lw_c8 hlen hL (by omega) hk hn hI rng kk)
      · rw [hc]
        exact v_tswIn (off := 384) (tgt := 417) dL_law_33 ⟨by decide, by decide⟩ (by decide) (by decide) (by decide) (by decide) (lw_c9 hlen hL (by omega) hk hn hI rng kk)
      · rw [hc]
        exact v_tswIn (off := 427) (tgt := 460) dL_law_33 ⟨by decide, by decide⟩ (by decide) (by decide) (by decide) (by decide) (lw_c10 hlen hL (by omega) hk hn hI rng kk)
      · rw [hc]
        exact v_tswIn (off := 460) (tgt := 493) dL_law_33 ⟨by decide, by decide⟩ (by decide) (by decide) (by decide) (by decide) (lw_c11 hlen hL (by omega) hk hn hI rng kk)
      · rw [hc]
        exact v_tswIn (off := 493) (tgt := 526) dL_law_33 ⟨by decide, by decide⟩ (by decide) (by decide) (by decide) (by decide) (lw_c12 hlen hL (by omega) hk hn hI rng kk)
      · exact v_tswOut (tgt := 559) dL_law_33 ⟨by omega, by omega⟩ (Or.inr hc) (by decide) (kk G I s k n (by omega) (by omega) hI rng)
theorem law_V {E : w_E} (hlen : E.2.2.2.2.2.1 < 2147483648) (hL : E.2.2.2.2.2.1 ≤ 3072) : w_V E mL_law room_1 (lw_Zs E.2.2.2.1.size) (fun _ => (14, 0), fun _ _ => none, E.2.2.2.1.size) (fun _ _ => 0) 0 0 0 [some (.ref E.2.2.2.2.1), none, none, none] [] := by
  refine v_newC (a := E.2.2.2.1.size) rfl (ci := 8) rfl nL_7 niX8 nnX8 (by decide) (by decide) dL_law_0 (fun _ _ => ⟨by decide, by decide⟩) (fun G1 J1 hB1 x1 rng1 => ?_)
  refine v_dup dL_law_3 rfl ?_
  refine v_Iv (tX8_init hB1) kL_9 rfl rfl ⟨by decide, by decide⟩ ⟨by decide, by decide⟩ (Nat.le_of_ble_eq_true rfl) dL_law_4 (fun G2 J2 p2 rng2 => ?_)
  obtain ⟨hX, h2, _, hx⟩ := p2
  refine v_astore_n dL_law_7 (by decide) rfl ?_
  refine v_newC h2 (ci := 9) rfl nL_10 niX9 nnX9 (by decide) (by decide) dL_law_8 rng2 (fun G3 J3 hB3 x3 rng3 => ?_)
  refine v_dup dL_law_11 rfl ?_
  refine v_Iv (tX9_init hB3) kL_12 rfl rfl ⟨by decide, by decide⟩ ⟨by decide, by decide⟩ (Nat.le_of_ble_eq_true rfl) dL_law_12 (fun G4 J4 p4 rng4 => ?_)
  obtain ⟨hY, h4, x4, hJ⟩ := p4
  refine v_astore_n dL_law_15 (by decide) rfl ?_
  refine v_iconst dL_law_16 ?_
  refine v_istore_n dL_law_17 (by decide) rfl ?_
  have hI : lwI G4 J4 E.2.2.2.1.size xs0 := ⟨(hX.mv0 (x3.sam (Nat.le_refl _))).mv0 (x4.sam (Nat.le_refl _)), hx.mv0 (fun b hb => (x4 b hb).2.2.trans (x3 b hb).2.2), hY, yOK_0 hJ, zI_0, h4⟩
  exact lw_loop hlen hL 600 0 _ _ G4 J4 xs0 (by omega) (by omega) (by decide) (by decide) hI rng4
