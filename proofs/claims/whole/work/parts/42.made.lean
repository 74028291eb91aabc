/-! ===== a METHOD and its WORK are made ===== -/
theorem v_kn {E : w_E} {M : w_M} {R : Room} {Z : List Frame → Array Value → State → State → Prop} {G : w_Sh} {I : w_Mm} {k k' n n' pc : Nat} {ls : List (Option Value)} {st : List Value} (h1 : k = k') (h2 : n = n') (kk : w_V E M R Z G I k' n' pc ls st) : w_V E M R Z G I k n pc ls st := h1 ▸ h2 ▸ kk
/-- the rows of the reference: field, tag, length -/
def yL : rwL := [(1, 10, 16), (2, 11, 16), (4, 10, 6), (5, 10, 6), (6, 10, 48), (7, 10, 6), (8, 10, 240), (9, 10, 240), (10, 10, 240), (11, 10, 6), (12, 10, 36), (13, 10, 36), (14, 10, 36), (15, 10, 36), (16, 11, 6), (17, 10, 6), (18, 10, 6), (19, 10, 6), (20, 10, 6), (21, 11, 240), (22, 11, 240), (23, 10, 240), (24, 10, 3840), (25, 10, 8), (26, 10, 8), (31, 10, 16), (32, 10, 8), (33, 10, 8)]
def isY (G : w_Sh) (y : Nat) : Prop := G.1 y = (9, 0) ∧ ∀ i q, yL[i]? = some q → G.1 (y + 1 + i) = (q.2.1, q.2.2) ∧ G.2.1 y q.1 = some (y + 1 + i)
theorem isY.mv {G G' : w_Sh} {y : Nat} (h : isY G y) (s : sam G G' y (y + 29)) : isY G' y := ⟨(s y (by omega) (by omega)).1.trans h.1, fun i q hq => by
  have hl : i < 28 := (List.getElem?_eq_some_iff.mp hq).1
  exact ⟨(s _ (by omega) (by omega)).1.trans (h.2 i q hq).1, (congrFun (s y (by omega) (by omega)).2 _).trans (h.2 i q hq).2⟩⟩
theorem tX6_init {E : w_E} {G : w_Sh} {I : w_Mm} {w : Nat} (hB : isB G I w 6 []) : w_Ct E mX6_init 2 [.ref w] G I 122 840 (w_Pv (fun G' J => isW G' w ∧ G'.2.2 = w + 123 ∧ ext G G' I J w ∧ wkOK J w wk0 ∧ J w 2 = 0 ∧ J w 3 = 0 ∧ J w 4 = 0)) := by
  refine w_Ct.of (ls := [some (.ref w), none]) (by decide +kernel) (Nat.le_of_ble_eq_true rfl) rfl rfl (fun rng => ?_)
  refine v_aload_n dX6_init_0 rfl ?_
  refine v_obj kX6_3 wobj2 wobj3 (by decide) (by decide) dX6_init_1 ?_
  refine v_aload_n dX6_init_4 rfl ?_
  refine v_bipush dX6_init_5 (by decide) ?_
  refine v_rowF (L := []) hB (by decide) nX6_9 rfl (by decide) fX6_11 p6_0 rfl rfl (by rintro q ⟨⟩; rfl) (by decide) (by decide) dX6_init_7 dX6_init_10 rng (fun G1 J1 hB1 ⟨x1, y1⟩ rng1 => ?_)
  refine v_aload_n dX6_init_13 rfl ?_
  refine v_bipush dX6_init_14 (by decide) ?_
  refine v_rowZ (L := [(0, 12, 40)]) hB1 (by decide) rfl (by decide) fX6_17 p6_1 rfl rfl (by rintro q ⟨⟩; rfl) (by decide) (by decide) dX6_init_16 dX6_init_18 rng1 (fun G2 J2 hB2 ⟨x2, y2⟩ rng2 => ?_)
  have hx := (x1.tr x2)
  have hya := (y2.trans y1)
  have hz : ∀ b j, w ≤ b → b < w + 3 → J2 b j = 0 := hB2.2.2.2
  have loop : ∀ (mm i : Nat) (G1 : w_Sh) (J1 : w_Mm), i + mm = 40 → G1.1 w = (6, 0) → G1.2.1 w 0 = some (w + 1) → G1.2.1 w 1 = some (w + 2) → G1.1 (w + 1) = (12, 40) → G1.1 (w + 2) = (11, 40) → (∀ j, j < i → G1.2.1 (w + 1) j = some (w + 3 + 3 * j) ∧ isF G1 (w + 3 + 3 * j) ∧ frOK J1 (w + 3 + 3 * j) fr0) → G1.2.2 = w + 3 + 3 * i → ext G G1 I J1 w → (∀ j, J1 w j = 0) → (∀ j, J1 (w + 2) j = 0) → (∀ a k, inR (J1 a k)) → w_V E mX6_init (w_rm 2 122 840) (w_Z E 122 840 (w_Pv (fun G' J => isW G' w ∧ G'.2.2 = w + 123 ∧ ext G G' I J w ∧ wkOK J w wk0 ∧ J w 2 = 0 ∧ J w 3 = 0 ∧ J w 4 = 0))) G1 J1 (2 + 3 * i) (80 + 19 * i) 23 [some (.ref w), some (iv (i : Int))] [] := by
    intro mm
    clear hz hx hya rng2 rng1 hB2 hB1
    induction mm with
    | zero =>
      intro i G1 J1 hi t0 r0 r1 t1 t2 hF ht hx z0 z2 rng1
      refine v_iload_n dX6_init_23 rfl ?_
      refine v_bipush dX6_init_24 (by decide) ?_
      refine v_icmp_ge ⟨by omega, by omega⟩ ⟨by decide, by decide⟩ dX6_init_26 (fun hb26 => ?_) (fun h => by exfalso; omega)
      obtain rfl : i = 40 := by omega
      exact v_vret rfl (Nat.le_refl _) (Nat.le_refl _) dX6_init_48 ⟨⟨t0, r0, r1, t1, t2, fun j hj => ⟨(hF j hj).1, (hF j hj).2.1⟩⟩, ht, hx, ⟨fun j hj => (hF j hj).2.2, fun j hj => ⟨z2 j, Or.inl rfl⟩, z0 5, z0 6⟩, z0 2, z0 3, z0 4⟩
    | succ mm ih =>
      intro i G1 J1 hi t0 r0 r1 t1 t2 hF ht hx z0 z2 rng1
      refine v_iload_n dX6_init_23 rfl ?_
      refine v_bipush dX6_init_24 (by decide) ?_
      refine v_icmp_ge ⟨by omega, by omega⟩ ⟨by decide, by decide⟩ dX6_init_26 (fun h => by exfalso; omega) (fun hb26 => ?_)
      refine v_aload_n dX6_init_29 rfl ?_
      refine v_getR fX6_11 rfl t0 r0 dX6_init_30 ?_
      refine v_iload_n dX6_init_33 rfl ?_
      refine v_newC ht (ci := 2) rfl nX6_9 niX2 nnX2 (by first | (show 2 + 3 * i + 1 ≤ 122; omega) | (show 80 + 19 * i + 3 ≤ 840; omega)) (by first | (show 2 + 3 * i + 1 ≤ 122; omega) | (show 80 + 19 * i + 3 ≤ 840; omega)) dX6_init_34 rng1 (fun G3 J3 hB3 x3 rng3 => ?_)
      refine v_dup dX6_init_37 rfl ?_
      refine v_Iv (tX2_init hB3) kX6_21 rfl rfl ⟨by decide, by decide⟩ ⟨by show 2 + 3 * i + 1 + 2 ≤ 122; omega, by show 80 + 19 * i + 3 + 16 ≤ 840; omega⟩ (Nat.le_of_ble_eq_true rfl) dX6_init_38 (fun G4 J4 p4 rng4 => ?_)
      obtain ⟨f1, f2, f3, f4⟩ := p4
      have x4 : ext G1 G4 J1 J4 (w + 3 + 3 * i) := x3.tr f3
      refine v_aast (i := i) (t := 2) (ci := 2) (len := 40) (by decide) rfl rfl ((x4 _ (by omega)).1.trans t1) f1.1 rfl (by omega) (by decide) dX6_init_41 ?_
      refine v_iinc dX6_init_42 rfl (by decide) rfl rfl ?_
      refine v_goto dX6_init_45 ?_
      refine v_kn (k' := 2 + 3 * (i + 1)) (n' := 80 + 19 * (i + 1)) (by omega) (by show 80 + 19 * i + 3 + 16 = _; omega) ?_
      change w_V E mX6_init _ _ (setR G4 (w + 1) i (w + 3 + 3 * i)) J4 _ _ _ _ _
      refine ih (i + 1) _ _ (by omega) ((x4 w (by omega)).1.trans t0) ((setR_n (by omega)).trans ((congrFun (x4 w (by omega)).2.1 _).trans r0)) ((setR_n (by omega)).trans ((congrFun (x4 w (by omega)).2.1 _).trans r1)) ((x4 _ (by omega)).1.trans t1) ((x4 _ (by omega)).1.trans t2) (fun j hj => ?_) (f2.trans (by omega)) ((hx.tr (x4.le (by omega))).setR (by omega)) (fun j => (congrFun (x4 w (by omega)).2.2 _).trans (z0 j)) (fun j => (congrFun (x4 _ (by omega)).2.2 _).trans (z2 j)) rng4
      by_cases e : j = i
      · subst e
        exact ⟨setR_s, f1.mv (setR_sam (by omega)), f4⟩
      · obtain ⟨g1, g2, g3⟩ := hF j (by omega)
        exact ⟨(setR_n (by omega)).trans ((congrFun (x4 _ (by omega)).2.1 _).trans g1), (g2.mv (x4.sam (by omega))).mv (setR_sam (by omega)), g3.ext x4 (by omega)⟩
  refine v_iconst dX6_init_21 ?_
  refine v_istore_n dX6_init_22 (by decide) rfl ?_
  exact loop 40 0 G2 J2 (by omega) hB2.1 (hB2.2.2.1 0 _ rfl).2 (hB2.2.2.1 1 _ rfl).2 (hB2.2.2.1 0 _ rfl).1 (hB2.2.2.1 1 _ rfl).1 (fun j hj => absurd hj (by omega)) hB2.2.1 hx (fun j => hz _ _ (by omega) (by omega)) (fun j => hz _ _ (by omega) (by omega)) rng2
theorem tX4_init {E : w_E} {G : w_Sh} {I : w_Mm} {m : Nat} {r : Int} (hr : inR r) (hB : isB G I m 4 []) : w_Ct E mX4_init 3 [.ref m, iv r] G I 131 999 (w_Pv (fun G' J => isM G' m ∧ G'.2.2 = m + 132 ∧ ext G G' I J m ∧ metOK J m (mt0 r) ∧ wkOK J (m + 9) wk0 ∧ J (m + 9) 2 = 0 ∧ J (m + 9) 3 = 0 ∧ J (m + 9) 4 = 0)) := by
  refine w_Ct.of (ls := [some (.ref m), some (iv r)]) (by decide +kernel) (Nat.le_of_ble_eq_true rfl) rfl rfl (fun rng => ?_)
  refine v_aload_n dX4_init_0 rfl ?_
  refine v_obj kX4_3 wobj2 wobj3 (by decide) (by decide) dX4_init_1 ?_
  refine v_aload_n dX4_init_4 rfl ?_
  refine v_bipush dX4_init_5 (by decide) ?_
  refine v_rowI (L := []) hB (by decide) rfl (by decide) fX4_9 p4_1 rfl rfl (by rintro q ⟨⟩; rfl) (by decide) (by decide) dX4_init_7 dX4_init_9 rng (fun G1 J1 hB1 ⟨x1, y1⟩ rng1 => ?_)
  refine v_aload_n dX4_init_12 rfl ?_
  refine v_bipush dX4_init_13 (by decide) ?_
  refine v_rowI (L := [(1, 10, 8)]) hB1 (by decide) rfl (by decide) fX4_15 p4_3 rfl rfl (by rintro q ⟨⟩; rfl) (by decide) (by decide) dX4_init_15 dX4_init_17 rng1 (fun G2 J2 hB2 ⟨x2, y2⟩ rng2 => ?_)
  refine v_aload_n dX4_init_20 rfl ?_
  refine v_bipush dX4_init_21 (by decide) ?_
  refine v_rowI (L := [(1, 10, 8), (3, 10, 40)]) hB2 (by decide) rfl (by decide) fX4_18 p4_4 rfl rfl (by rintro q ⟨⟩; rfl) (by decide) (by decide) dX4_init_23 dX4_init_25 rng2 (fun G3 J3 hB3 ⟨x3, y3⟩ rng3 => ?_)
  refine v_aload_n dX4_init_28 rfl ?_
  refine v_bipush dX4_init_29 (by decide) ?_
  refine v_rowI (L := [(1, 10, 8), (3, 10, 40), (4, 10, 40)]) hB3 (by decide) rfl (by decide) fX4_21 p4_5 rfl rfl (by rintro q ⟨⟩; rfl) (by decide) (by decide) dX4_init_31 dX4_init_33 rng3 (fun G4 J4 hB4 ⟨x4, y4⟩ rng4 => ?_)
  refine v_aload_n dX4_init_36 rfl ?_
  refine v_bipush dX4_init_37 (by decide) ?_
  refine v_rowI (L := [(1, 10, 8), (3, 10, 40), (4, 10, 40), (5, 10, 40)]) hB4 (by decide) rfl (by decide) fX4_24 p4_7 rfl rfl (by rintro q ⟨⟩; rfl) (by decide) (by decide) dX4_init_39 dX4_init_41 rng4 (fun G5 J5 hB5 ⟨x5, y5⟩ rng5 => ?_)
  refine v_aload_n dX4_init_44 rfl ?_
  refine v_bipush dX4_init_45 (by decide) ?_
  refine v_rowI (L := [(1, 10, 8), (3, 10, 40), (4, 10, 40), (5, 10, 40), (7, 10, 6)]) hB5 (by decide) rfl (by decide) fX4_27 p4_8 rfl rfl (by rintro q ⟨⟩; rfl) (by decide) (by decide) dX4_init_47 dX4_init_49 rng5 (fun G6 J6 hB6 ⟨x6, y6⟩ rng6 => ?_)
  refine v_aload_n dX4_init_52 rfl ?_
  refine v_bipush dX4_init_53 (by decide) ?_
  refine v_rowI (L := [(1, 10, 8), (3, 10, 40), (4, 10, 40), (5, 10, 40), (7, 10, 6), (8, 10, 6)]) hB6 (by decide) rfl (by decide) fX4_30 p4_9 rfl rfl (by rintro q ⟨⟩; rfl) (by decide) (by decide) dX4_init_55 dX4_init_57 rng6 (fun G7 J7 hB7 ⟨x7, y7⟩ rng7 => ?_)
  refine v_aload_n dX4_init_60 rfl ?_
  refine v_bipush dX4_init_61 (by decide) ?_
  refine v_rowI (L := [(1, 10, 8), (3, 10, 40), (4, 10, 40), (5, 10, 40), (7, 10, 6), (8, 10, 6), (9, 10, 6)]) hB7 (by decide) rfl (by decide) fX4_33 p4_10 rfl rfl (by rintro q ⟨⟩; rfl) (by decide) (by decide) dX4_init_63 dX4_init_65 rng7 (fun G8 J8 hB8 ⟨x8, y8⟩ rng8 => ?_)
  have hx := (((((((x1.tr x2).tr x3).tr x4).tr x5).tr x6).tr x7).tr x8)
  have hya := (y8.trans (y7.trans (y6.trans (y5.trans (y4.trans (y3.trans (y2.trans y1)))))))
  have hz : ∀ b j, m ≤ b → b < m + 9 → J8 b j = 0 := hB8.2.2.2
  have h8 : G8.2.2 = m + 9 := hB8.2.1
  refine v_aload_n dX4_init_68 rfl ?_
  refine v_newC h8 (ci := 6) rfl nX4_36 niX6 nnX6 (by decide) (by decide) dX4_init_69 rng8 (fun G9 J9 hB9 x9 rng9 => ?_)
  refine v_dup dX4_init_72 rfl ?_
  refine v_Iv (tX6_init hB9) kX4_38 rfl rfl ⟨by decide, by decide⟩ ⟨by decide, by decide⟩ (Nat.le_of_ble_eq_true rfl) dX4_init_73 (fun G10 J10 p10 rng10 => ?_)
  obtain ⟨hW, hT, xA, w1, w2, w3, w4⟩ := p10
  have xB : ext G8 G10 J8 J10 (m + 9) := x9.tr xA
  have tm : G10.1 m = (4, 0) := (xB m (by omega)).1.trans hB8.1
  refine v_putR fX4_39 p4_12 rfl rfl (by rintro q ⟨⟩; rfl) ⟨rfl, rfl⟩ tm dX4_init_76 ?_
  refine v_aload_n dX4_init_79 rfl ?_
  refine v_iload_n dX4_init_80 rfl ?_
  refine v_putIF fX4_43 p4_0 rfl rfl (by rintro q ⟨⟩; rfl) hr tm dX4_init_81 ?_
  have rr : ∀ f j, ¬ f = 12 → G8.2.1 m f = some j → (setR G10 m 12 (m + 9)).2.1 m f = some j := fun f j hf h => (setR_n (by omega)).trans ((congrFun (xB m (by omega)).2.1 _).trans h)
  have tt : ∀ b q, b < m + 9 → G8.1 b = q → (setR G10 m 12 (m + 9)).1 b = q := fun b q hb h => (xB b hb).1.trans h
  have zz : ∀ b j, m ≤ b → b < m + 9 → ¬ (b = m ∧ j = 0) → w_up J10 m 0 r b j = 0 := fun b j h1 h2 h3 => by rw [w_up_n h3]; exact (congrFun (xB b h2).2.2 _).trans (hz b j h1 h2)
  have oo : ∀ b j, m < b → w_up J10 m 0 r b j = J10 b j := fun b j h => w_up_n (by omega)
  refine v_vret rfl (by decide) (by decide) dX4_init_84 ⟨⟨tt _ _ (by omega) hB8.1, rr _ _ (by omega) (hB8.2.2.1 0 _ rfl).2, rr _ _ (by omega) (hB8.2.2.1 1 _ rfl).2, rr _ _ (by omega) (hB8.2.2.1 2 _ rfl).2, rr _ _ (by omega) (hB8.2.2.1 3 _ rfl).2, rr _ _ (by omega) (hB8.2.2.1 4 _ rfl).2, rr _ _ (by omega) (hB8.2.2.1 5 _ rfl).2, rr _ _ (by omega) (hB8.2.2.1 6 _ rfl).2, rr _ _ (by omega) (hB8.2.2.1 7 _ rfl).2, setR_s, tt _ _ (by omega) (hB8.2.2.1 0 _ rfl).1, tt _ _ (by omega) (hB8.2.2.1 1 _ rfl).1, tt _ _ (by omega) (hB8.2.2.1 2 _ rfl).1, tt _ _ (by omega) (hB8.2.2.1 3 _ rfl).1, tt _ _ (by omega) (hB8.2.2.1 4 _ rfl).1, tt _ _ (by omega) (hB8.2.2.1 5 _ rfl).1, tt _ _ (by omega) (hB8.2.2.1 6 _ rfl).1, tt _ _ (by omega) (hB8.2.2.1 7 _ rfl).1, hW.mv (setR_sam (by omega))⟩, hT, fun b hb => ⟨((hx.tr (xB.le (by omega))).setR (by omega) b hb).1, ((hx.tr (xB.le (by omega))).setR (f := 12) (b := m + 9) (by omega) b hb).2.1, (w_up_o (by omega)).trans ((hx.tr (xB.le (by omega))) b hb).2.2⟩, ?_, ?_, (oo _ _ (by omega)).trans w2, (oo _ _ (by omega)).trans w3, (oo _ _ (by omega)).trans w4⟩
  · exact ⟨w_up_s, zz _ _ (by omega) (by omega) (by omega), Nat.zero_le _, fun j hj => zz _ _ (by omega) (by omega) (by omega), zz _ _ (by omega) (by omega) (by omega), Nat.zero_le _, fun p hp => absurd hp (Nat.not_lt_zero p), zz _ _ (by omega) (by omega) (by omega), Nat.zero_le _, fun p hp => absurd hp (Nat.not_lt_zero p)⟩
  · exact w1.off (fun a j h1 h2 => oo _ _ (by omega))
theorem tX9_init {E : w_E} {G : w_Sh} {I : w_Mm} {y : Nat} (hB : isB G I y 9 []) : w_Ct E mX9_init 1 [.ref y] G I 28 5606 (w_Pv (fun G' J => isY G' y ∧ G'.2.2 = y + 29 ∧ ext G G' I J y ∧ ∀ b j, y ≤ b → b < y + 29 → J b j = if b = y ∧ j = 0 then 2 else if b = y + 1 ∧ j = 0 then -1 else 0)) := by
  refine w_Ct.of (ls := [some (.ref y)]) (by decide +kernel) (Nat.le_of_ble_eq_true rfl) rfl rfl (fun rng => ?_)
  refine v_aload_n dX9_init_0 rfl ?_
  refine v_obj kX9_1 wobj2 wobj3 (by decide) (by decide) dX9_init_1 ?_
  refine v_aload_n dX9_init_4 rfl ?_
  refine v_iconst dX9_init_5 ?_
  refine v_putI fX9_7 p9_0 rfl ⟨by decide, by decide⟩ hB.1 dX9_init_6 ?_
  have rng0 := w_rng (a := y) (f := 0) rng (show inR 2 from ⟨by decide, by decide⟩)
  have hB0 : isBl G (w_up I y 0 2) y 9 (y + 1) [] := ⟨hB.1, hB.2.1, hB.2.2.1, fun b j h1 h2 => absurd h2 (by show ¬ b < y + 1 + 0; omega)⟩
  refine v_aload_n dX9_init_9 rfl ?_
  refine v_bipush dX9_init_10 (by decide) ?_
  refine v_rowI (L := []) hB0 (by decide) rfl (by decide) fX9_13 p9_1 rfl rfl (by rintro q ⟨⟩; rfl) (by decide) (by decide) dX9_init_12 dX9_init_14 rng0 (fun G1 J1 hB1 ⟨x1, y1⟩ rng1 => ?_)
  refine v_aload_n dX9_init_17 rfl ?_
  refine v_bipush dX9_init_18 (by decide) ?_
  refine v_rowZ (L := [(1, 10, 16)]) hB1 (by decide) rfl (by decide) fX9_17 p9_2 rfl rfl (by rintro q ⟨⟩; rfl) (by decide) (by decide) dX9_init_20 dX9_init_22 rng1 (fun G2 J2 hB2 ⟨x2, y2⟩ rng2 => ?_)
  refine v_aload_n dX9_init_25 rfl ?_
  refine v_bipush dX9_init_26 (by decide) ?_
  refine v_rowI (L := [(1, 10, 16), (2, 11, 16)]) hB2 (by decide) rfl (by decide) fX9_21 p9_4 rfl rfl (by rintro q ⟨⟩; rfl) (by decide) (by decide) dX9_init_28 dX9_init_30 rng2 (fun G3 J3 hB3 ⟨x3, y3⟩ rng3 => ?_)
  refine v_aload_n dX9_init_33 rfl ?_
  refine v_bipush dX9_init_34 (by decide) ?_
  refine v_rowI (L := [(1, 10, 16), (2, 11, 16), (4, 10, 6)]) hB3 (by decide) rfl (by decide) fX9_24 p9_5 rfl rfl (by rintro q ⟨⟩; rfl) (by decide) (by decide) dX9_init_36 dX9_init_38 rng3 (fun G4 J4 hB4 ⟨x4, y4⟩ rng4 => ?_)
  refine v_aload_n dX9_init_41 rfl ?_
  refine v_bipush dX9_init_42 (by decide) ?_
  refine v_rowI (L := [(1, 10, 16), (2, 11, 16), (4, 10, 6), (5, 10, 6)]) hB4 (by decide) rfl (by decide) fX9_27 p9_6 rfl rfl (by rintro q ⟨⟩; rfl) (by decide) (by decide) dX9_init_44 dX9_init_46 rng4 (fun G5 J5 hB5 ⟨x5, y5⟩ rng5 => ?_)
  refine v_aload_n dX9_init_49 rfl ?_
  refine v_bipush dX9_init_50 (by decide) ?_
  refine v_rowI (L := [(1, 10, 16), (2, 11, 16), (4, 10, 6), (5, 10, 6), (6, 10, 48)]) hB5 (by decide) rfl (by decide) fX9_30 p9_7 rfl rfl (by rintro q ⟨⟩; rfl) (by decide) (by decide) dX9_init_52 dX9_init_54 rng5 (fun G6 J6 hB6 ⟨x6, y6⟩ rng6 => ?_)
  refine v_aload_n dX9_init_57 rfl ?_
  refine v_sipush dX9_init_58 (by decide) ?_
  refine v_rowI (L := [(1, 10, 16), (2, 11, 16), (4, 10, 6), (5, 10, 6), (6, 10, 48), (7, 10, 6)]) hB6 (by decide) rfl (by decide) fX9_33 p9_8 rfl rfl (by rintro q ⟨⟩; rfl) (by decide) (by decide) dX9_init_61 dX9_init_63 rng6 (fun G7 J7 hB7 ⟨x7, y7⟩ rng7 => ?_)
  refine v_aload_n dX9_init_66 rfl ?_
  refine v_sipush dX9_init_67 (by decide) ?_
  refine v_rowI (L := [(1, 10, 16), (2, 11, 16), (4, 10, 6), (5, 10, 6), (6, 10, 48), (7, 10, 6), (8, 10, 240)]) hB7 (by decide) rfl (by decide) fX9_36 p9_9 rfl rfl (by rintro q ⟨⟩; rfl) (by decide) (by decide) dX9_init_70 dX9_init_72 rng7 (fun G8 J8 hB8 ⟨x8, y8⟩ rng8 => ?_)
  refine v_aload_n dX9_init_75 rfl ?_
  refine v_sipush dX9_init_76 (by decide) ?_
  refine v_rowI (L := [(1, 10, 16), (2, 11, 16), (4, 10, 6), (5, 10, 6), (6, 10, 48), (7, 10, 6), (8, 10, 240), (9, 10, 240)]) hB8 (by decide) rfl (by decide) fX9_39 p9_10 rfl rfl (by rintro q ⟨⟩; rfl) (by decide) (by decide) dX9_init_79 dX9_init_81 rng8 (fun G9 J9 hB9 ⟨x9, y9⟩ rng9 => ?_)
  refine v_aload_n dX9_init_84 rfl ?_
  refine v_bipush dX9_init_85 (by decide) ?_
  refine v_rowI (L := [(1, 10, 16), (2, 11, 16), (4, 10, 6), (5, 10, 6), (6, 10, 48), (7, 10, 6), (8, 10, 240), (9, 10, 240), (10, 10, 240)]) hB9 (by decide) rfl (by decide) fX9_42 p9_11 rfl rfl (by rintro q ⟨⟩; rfl) (by decide) (by decide) dX9_init_87 dX9_init_89 rng9 (fun G10 J10 hB10 ⟨x10, y10⟩ rng10 => ?_)
  refine v_aload_n dX9_init_92 rfl ?_
  refine v_bipush dX9_init_93 (by decide) ?_
  refine v_rowI (L := [(1, 10, 16), (2, 11, 16), (4, 10, 6), (5, 10, 6), (6, 10, 48), (7, 10, 6), (8, 10, 240), (9, 10, 240), (10, 10, 240), (11, 10, 6)]) hB10 (by decide) rfl (by decide) fX9_45 p9_12 rfl rfl (by rintro q ⟨⟩; rfl) (by decide) (by decide) dX9_init_95 dX9_init_97 rng10 (fun G11 J11 hB11 ⟨x11, y11⟩ rng11 => ?_)
  refine v_aload_n dX9_init_100 rfl ?_
  refine v_bipush dX9_init_101 (by decide) ?_
  refine v_rowI (L := [(1, 10, 16), (2, 11, 16), (4, 10, 6), (5, 10, 6), (6, 10, 48), (7, 10, 6), (8, 10, 240), (9, 10, 240), (10, 10, 240), (11, 10, 6), (12, 10, 36)]) hB11 (by decide) rfl (by decide) fX9_48 p9_13 rfl rfl (by rintro q ⟨⟩; rfl) (by decide) (by decide) dX9_init_103 dX9_init_105 rng11 (fun G12 J12 hB12 ⟨x12, y12⟩ rng12 => ?_)
  refine v_aload_n dX9_init_108 rfl ?_
  refine v_bipush dX9_init_109 (by decide) ?_
  refine v_rowI (L := [(1, 10, 16), (2, 11, 16), (4, 10, 6), (5, 10, 6), (6, 10, 48), (7, 10, 6), (8, 10, 240), (9, 10, 240), (10, 10, 240), (11, 10, 6), (12, 10, 36), (13, 10, 36)]) hB12 (by decide) rfl (by decide) fX9_51 p9_14 rfl rfl (by rintro q ⟨⟩; rfl) (by decide) (by decide) dX9_init_111 dX9_init_113 rng12 (fun G13 J13 hB13 ⟨x13, y13⟩ rng13 => ?_)
  refine v_aload_n dX9_init_116 rfl ?_
  refine v_bipush dX9_init_117 (by decide) ?_
  refine v_rowI (L := [(1, 10, 16), (2, 11, 16), (4, 10, 6), (5, 10, 6), (6, 10, 48), (7, 10, 6), (8, 10, 240), (9, 10, 240), (10, 10, 240), (11, 10, 6), (12, 10, 36), (13, 10, 36), (14, 10, 36)]) hB13 (by decide) rfl (by decide) fX9_54 p9_15 rfl rfl (by rintro q ⟨⟩; rfl) (by decide) (by decide) dX9_init_119 dX9_init_121 rng13 (fun G14 J14 hB14 ⟨x14, y14⟩ rng14 => ?_)
  refine v_aload_n dX9_init_124 rfl ?_
  refine v_bipush dX9_init_125 (by decide) ?_
  refine v_rowZ (L := [(1, 10, 16), (2, 11, 16), (4, 10, 6), (5, 10, 6), (6, 10, 48), (7, 10, 6), (8, 10, 240), (9, 10, 240), (10, 10, 240), (11, 10, 6), (12, 10, 36), (13, 10, 36), (14, 10, 36), (15, 10, 36)]) hB14 (by decide) rfl (by decide) fX9_57 p9_16 rfl rfl (by rintro q ⟨⟩; rfl) (by decide) (by decide) dX9_init_127 dX9_init_129 rng14 (fun G15 J15 hB15 ⟨x15, y15⟩ rng15 => ?_)
  refine v_aload_n dX9_init_132 rfl ?_
  refine v_bipush dX9_init_133 (by decide) ?_
  refine v_rowI (L := [(1, 10, 16), (2, 11, 16), (4, 10, 6), (5, 10, 6), (6, 10, 48), (7, 10, 6), (8, 10, 240), (9, 10, 240), (10, 10, 240), (11, 10, 6), (12, 10, 36), (13, 10, 36), (14, 10, 36), (15, 10, 36), (16, 11, 6)]) hB15 (by decide) rfl (by decide) fX9_60 p9_17 rfl rfl (by rintro q ⟨⟩; rfl) (by decide) (by decide) dX9_init_135 dX9_init_137 rng15 (fun G16 J16 hB16 ⟨x16, y16⟩ rng16 => ?_)
  refine v_aload_n dX9_init_140 rfl ?_
  refine v_bipush dX9_init_141 (by decide) ?_
  refine v_rowI (L := [(1, 10, 16), (2, 11, 16), (4, 10, 6), (5, 10, 6), (6, 10, 48), (7, 10, 6), (8, 10, 240), (9, 10, 240), (10, 10, 240), (11, 10, 6), (12, 10, 36), (13, 10, 36), (14, 10, 36), (15, 10, 36), (16, 11, 6), (17, 10, 6)]) hB16 (by decide) rfl (by decide) fX9_63 p9_18 rfl rfl (by rintro q ⟨⟩; rfl) (by decide) (by decide) dX9_init_143 dX9_init_145 rng16 (fun G17 J17 hB17 ⟨x17, y17⟩ rng17 => ?_)
  refine v_aload_n dX9_init_148 rfl ?_
  refine v_bipush dX9_init_149 (by decide) ?_
  refine v_rowI (L := [(1, 10, 16), (2, 11, 16), (4, 10, 6), (5, 10, 6), (6, 10, 48), (7, 10, 6), (8, 10, 240), (9, 10, 240), (10, 10, 240), (11, 10, 6), (12, 10, 36), (13, 10, 36), (14, 10, 36), (15, 10, 36), (16, 11, 6), (17, 10, 6), (18, 10, 6)]) hB17 (by decide) rfl (by decide) fX9_66 p9_19 rfl rfl (by rintro q ⟨⟩; rfl) (by decide) (by decide) dX9_init_151 dX9_init_153 rng17 (fun G18 J18 hB18 ⟨x18, y18⟩ rng18 => ?_)
  refine v_aload_n dX9_init_156 rfl ?_
  refine v_bipush dX9_init_157 (by decide) ?_
  refine v_rowI (L := [(1, 10, 16), (2, 11, 16), (4, 10, 6), (5, 10, 6), (6, 10, 48), (7, 10, 6), (8, 10, 240), (9, 10, 240), (10, 10, 240), (11, 10, 6), (12, 10, 36), (13, 10, 36), (14, 10, 36), (15, 10, 36), (16, 11, 6), (17, 10, 6), (18, 10, 6), (19, 10, 6)]) hB18 (by decide) rfl (by decide) fX9_69 p9_20 rfl rfl (by rintro q ⟨⟩; rfl) (by decide) (by decide) dX9_init_159 dX9_init_161 rng18 (fun G19 J19 hB19 ⟨x19, y19⟩ rng19 => ?_)
  refine v_aload_n dX9_init_164 rfl ?_
  refine v_sipush dX9_init_165 (by decide) ?_
  refine v_rowZ (L := [(1, 10, 16), (2, 11, 16), (4, 10, 6), (5, 10, 6), (6, 10, 48), (7, 10, 6), (8, 10, 240), (9, 10, 240), (10, 10, 240), (11, 10, 6), (12, 10, 36), (13, 10, 36), (14, 10, 36), (15, 10, 36), (16, 11, 6), (17, 10, 6), (18, 10, 6), (19, 10, 6), (20, 10, 6)]) hB19 (by decide) rfl (by decide) fX9_72 p9_21 rfl rfl (by rintro q ⟨⟩; rfl) (by decide) (by decide) dX9_init_168 dX9_init_170 rng19 (fun G20 J20 hB20 ⟨x20, y20⟩ rng20 => ?_)
  refine v_aload_n dX9_init_173 rfl ?_
  refine v_sipush dX9_init_174 (by decide) ?_
  refine v_rowZ (L := [(1, 10, 16), (2, 11, 16), (4, 10, 6), (5, 10, 6), (6, 10, 48), (7, 10, 6), (8, 10, 240), (9, 10, 240), (10, 10, 240), (11, 10, 6), (12, 10, 36), (13, 10, 36), (14, 10, 36), (15, 10, 36), (16, 11, 6), (17, 10, 6), (18, 10, 6), (19, 10, 6), (20, 10, 6), (21, 11, 240)]) hB20 (by decide) rfl (by decide) fX9_75 p9_22 rfl rfl (by rintro q ⟨⟩; rfl) (by decide) (by decide) dX9_init_177 dX9_init_179 rng20 (fun G21 J21 hB21 ⟨x21, y21⟩ rng21 => ?_)
  refine v_aload_n dX9_init_182 rfl ?_
  refine v_sipush dX9_init_183 (by decide) ?_
  refine v_rowI (L := [(1, 10, 16), (2, 11, 16), (4, 10, 6), (5, 10, 6), (6, 10, 48), (7, 10, 6), (8, 10, 240), (9, 10, 240), (10, 10, 240), (11, 10, 6), (12, 10, 36), (13, 10, 36), (14, 10, 36), (15, 10, 36), (16, 11, 6), (17, 10, 6), (18, 10, 6), (19, 10, 6), (20, 10, 6), (21, 11, 240), (22, 11, 240)]) hB21 (by decide) rfl (by decide) fX9_78 p9_23 rfl rfl (by rintro q ⟨⟩; rfl) (by decide) (by decide) dX9_init_186 dX9_init_188 rng21 (fun G22 J22 hB22 ⟨x22, y22⟩ rng22 => ?_)
  refine v_aload_n dX9_init_191 rfl ?_
  refine v_sipush dX9_init_192 (by decide) ?_
  refine v_rowI (L := [(1, 10, 16), (2, 11, 16), (4, 10, 6), (5, 10, 6), (6, 10, 48), (7, 10, 6), (8, 10, 240), (9, 10, 240), (10, 10, 240), (11, 10, 6), (12, 10, 36), (13, 10, 36), (14, 10, 36), (15, 10, 36), (16, 11, 6), (17, 10, 6), (18, 10, 6), (19, 10, 6), (20, 10, 6), (21, 11, 240), (22, 11, 240), (23, 10, 240)]) hB22 (by decide) rfl (by decide) fX9_81 p9_24 rfl rfl (by rintro q ⟨⟩; rfl) (by decide) (by decide) dX9_init_195 dX9_init_197 rng22 (fun G23 J23 hB23 ⟨x23, y23⟩ rng23 => ?_)
  refine v_aload_n dX9_init_200 rfl ?_
  refine v_bipush dX9_init_201 (by decide) ?_
  refine v_rowI (L := [(1, 10, 16), (2, 11, 16), (4, 10, 6), (5, 10, 6), (6, 10, 48), (7, 10, 6), (8, 10, 240), (9, 10, 240), (10, 10, 240), (11, 10, 6), (12, 10, 36), (13, 10, 36), (14, 10, 36), (15, 10, 36), (16, 11, 6), (17, 10, 6), (18, 10, 6), (19, 10, 6), (20, 10, 6), (21, 11, 240), (22, 11, 240), (23, 10, 240), (24, 10, 3840)]) hB23 (by decide) rfl (by decide) fX9_84 p9_25 rfl rfl (by rintro q ⟨⟩; rfl) (by decide) (by decide) dX9_init_203 dX9_init_205 rng23 (fun G24 J24 hB24 ⟨x24, y24⟩ rng24 => ?_)
  refine v_aload_n dX9_init_208 rfl ?_
  refine v_bipush dX9_init_209 (by decide) ?_
  refine v_rowI (L := [(1, 10, 16), (2, 11, 16), (4, 10, 6), (5, 10, 6), (6, 10, 48), (7, 10, 6), (8, 10, 240), (9, 10, 240), (10, 10, 240), (11, 10, 6), (12, 10, 36), (13, 10, 36), (14, 10, 36), (15, 10, 36), (16, 11, 6), (17, 10, 6), (18, 10, 6), (19, 10, 6), (20, 10, 6), (21, 11, 240), (22, 11, 240), (23, 10, 240), (24, 10, 3840), (25, 10, 8)]) hB24 (by decide) rfl (by decide) fX9_87 p9_26 rfl rfl (by rintro q ⟨⟩; rfl) (by decide) (by decide) dX9_init_211 dX9_init_213 rng24 (fun G25 J25 hB25 ⟨x25, y25⟩ rng25 => ?_)
  refine v_aload_n dX9_init_216 rfl ?_
  refine v_bipush dX9_init_217 (by decide) ?_
  refine v_rowI (L := [(1, 10, 16), (2, 11, 16), (4, 10, 6), (5, 10, 6), (6, 10, 48), (7, 10, 6), (8, 10, 240), (9, 10, 240), (10, 10, 240), (11, 10, 6), (12, 10, 36), (13, 10, 36), (14, 10, 36), (15, 10, 36), (16, 11, 6), (17, 10, 6), (18, 10, 6), (19, 10, 6), (20, 10, 6), (21, 11, 240), (22, 11, 240), (23, 10, 240), (24, 10, 3840), (25, 10, 8), (26, 10, 8)]) hB25 (by decide) rfl (by decide) fX9_90 p9_31 rfl rfl (by rintro q ⟨⟩; rfl) (by decide) (by decide) dX9_init_219 dX9_init_221 rng25 (fun G26 J26 hB26 ⟨x26, y26⟩ rng26 => ?_)
  refine v_aload_n dX9_init_224 rfl ?_
  refine v_bipush dX9_init_225 (by decide) ?_
  refine v_rowI (L := [(1, 10, 16), (2, 11, 16), (4, 10, 6), (5, 10, 6), (6, 10, 48), (7, 10, 6), (8, 10, 240), (9, 10, 240), (10, 10, 240), (11, 10, 6), (12, 10, 36), (13, 10, 36), (14, 10, 36), (15, 10, 36), (16, 11, 6), (17, 10, 6), (18, 10, 6), (19, 10, 6), (20, 10, 6), (21, 11, 240), (22, 11, 240), (23, 10, 240), (24, 10, 3840), (25, 10, 8), (26, 10, 8), (31, 10, 16)]) hB26 (by decide) rfl (by decide) fX9_93 p9_32 rfl rfl (by rintro q ⟨⟩; rfl) (by decide) (by decide) dX9_init_227 dX9_init_229 rng26 (fun G27 J27 hB27 ⟨x27, y27⟩ rng27 => ?_)
  refine v_aload_n dX9_init_232 rfl ?_
  refine v_bipush dX9_init_233 (by decide) ?_
  refine v_rowI (L := [(1, 10, 16), (2, 11, 16), (4, 10, 6), (5, 10, 6), (6, 10, 48), (7, 10, 6), (8, 10, 240), (9, 10, 240), (10, 10, 240), (11, 10, 6), (12, 10, 36), (13, 10, 36), (14, 10, 36), (15, 10, 36), (16, 11, 6), (17, 10, 6), (18, 10, 6), (19, 10, 6), (20, 10, 6), (21, 11, 240), (22, 11, 240), (23, 10, 240), (24, 10, 3840), (25, 10, 8), (26, 10, 8), (31, 10, 16), (32, 10, 8)]) hB27 (by decide) rfl (by decide) fX9_96 p9_33 rfl rfl (by rintro q ⟨⟩; rfl) (by decide) (by decide) dX9_init_235 dX9_init_237 rng27 (fun G28 J28 hB28 ⟨x28, y28⟩ rng28 => ?_)
  have hx := (((((((((((((((((((((((((((x1.tr x2).tr x3).tr x4).tr x5).tr x6).tr x7).tr x8).tr x9).tr x10).tr x11).tr x12).tr x13).tr x14).tr x15).tr x16).tr x17).tr x18).tr x19).tr x20).tr x21).tr x22).tr x23).tr x24).tr x25).tr x26).tr x27).tr x28)
  have hya := (y28.trans (y27.trans (y26.trans (y25.trans (y24.trans (y23.trans (y22.trans (y21.trans (y20.trans (y19.trans (y18.trans (y17.trans (y16.trans (y15.trans (y14.trans (y13.trans (y12.trans (y11.trans (y10.trans (y9.trans (y8.trans (y7.trans (y6.trans (y5.trans (y4.trans (y3.trans (y2.trans y1)))))))))))))))))))))))))))
  have hP1 : G28.1 (y + 1) = (10, 16) := (hB28.2.2.1 0 _ rfl).1
  have hz : ∀ b j, y + 1 ≤ b → b < y + 29 → J28 b j = 0 := hB28.2.2.2
  refine v_aload_n dX9_init_240 rfl ?_
  refine v_getR fX9_13 rfl hB28.1 (hB28.2.2.1 0 _ rfl).2 dX9_init_241 ?_
  refine v_iconst dX9_init_244 ?_
  refine v_iconst dX9_init_245 ?_
  refine v_iast (i := 0) hP1 rfl (by omega) (by omega) ⟨by decide, by decide⟩ dX9_init_246 ?_
  have rng1 := w_rng (a := y + 1) (f := 0) rng28 (show inR (-1) from ⟨by decide, by decide⟩)
  refine v_vret rfl (by decide) (by decide) dX9_init_247 ⟨⟨hB28.1, hB28.2.2.1⟩, hB28.2.1, fun b hb => ⟨(hx b hb).1, (hx b hb).2.1, (w_up_o (by omega)).trans ((hx b hb).2.2.trans (w_up_o (by omega)))⟩, fun b j h1 h2 => ?_⟩
  by_cases e : b = y ∧ j = 0
  · obtain ⟨rfl, rfl⟩ := e
    rw [if_pos ⟨rfl, rfl⟩, w_up_n (by omega), hya, w_up_s]
  · rw [if_neg e]
    by_cases e2 : b = y + 1 ∧ j = 0
    · obtain ⟨rfl, rfl⟩ := e2
      rw [if_pos ⟨rfl, rfl⟩, w_up_s]
    · rw [if_neg e2, w_up_n e2]
      by_cases e3 : b = y
      · subst e3
        rw [hya, w_up_n (by omega)]; exact hB.2.2.2 _ _ (by omega) (by show b < b + 1 + 0; omega)
      · exact hz _ _ (by omega) h2
def xMeth (s : xS) (r : Int) : Int × xS := if ¬ resK s.1 r then (-2, s) else if xn s = 6 then (-4, s) else ((xn s : Int), (s.1, xn s + 1, uN (xπ s) (xn s) (mt0 r), uN (xκ s) (xn s) wk0, uN (xst s) (xn s) (0, 0, 0), xρ s))
def samY (G G' : w_Sh) (I J : w_Mm) (x : Nat) : Prop := ∀ b, x + 18 ≤ b → b < x + 47 → G'.1 b = G.1 b ∧ G'.2.1 b = G.2.1 b ∧ J b = I b
theorem tX8_method {E : w_E} {G : w_Sh} {I : w_Mm} {x : Nat} {s : xS} (hX : isX G x (xn s)) (hx : xOK I x s) {r : Int} (hr : inR r) (ht : G.2.2 = x + 47 + 132 * xn s) : w_Ct E mX8_method 4 [.ref x, iv r] G I 132 1012 (w_Pi (fun z G' J => z = (xMeth s r).1 ∧ xOK J x (xMeth s r).2 ∧ isX G' x (xn (xMeth s r).2) ∧ G'.2.2 = x + 47 + 132 * xn (xMeth s r).2 ∧ samY G G' I J x ∧ ∀ b, b < x → G'.1 b = G.1 b ∧ G'.2.1 b = G.2.1 b)) := by
  have hX0 := hX
  have hx0 := hx
  obtain ⟨hTx, hRx0, hRx1, hRx2, hRx3, hRx4, hTx17, hV, hH, hXm⟩ := hX
  obtain ⟨hxQ, hx5, hx6, hxm, hxr⟩ := hx
  have hK := hV.2.2.2.2.1
  have hC := hK.2.2
  refine w_Ct.of (ls := [some (.ref x), some (iv r)]) (by decide +kernel) (Nat.le_of_ble_eq_true rfl) rfl rfl (fun rng => ?_)
  refine v_aload_n dX8_method_0 rfl ?_
  refine v_getR fX8_21 rfl (by assumption) (by assumption) dX8_method_1 ?_
  refine v_iload_n dX8_method_4 rfl ?_
  refine v_Vb (tX3_isResult hK hxQ hr) kX8_77 hK.1 rfl rfl ⟨by decide, by decide⟩ ⟨Nat.zero_le _, Nat.zero_le _⟩ (Nat.le_of_ble_eq_true rfl) dX8_method_5 (fun h1 => ?_) (fun h1 => ?_)
  · refine v_if_ne ⟨by decide, by decide⟩ dX8_method_8 (fun hb8 => ?_) (fun h => by exfalso; omega)
    refine v_aload_n dX8_method_14 rfl ?_
    refine v_getI' (v := ((xn s : Nat) : Int)) hx5 fX8_47 rfl (by assumption) dX8_method_15 ?_
    refine v_bipush dX8_method_18 (by decide) ?_
    refine v_icmp_lt ⟨by omega, by omega⟩ ⟨by decide, by decide⟩ dX8_method_20 (fun h2 => ?_) (fun h2 => ?_)
    · refine v_aload_n dX8_method_26 rfl ?_
      refine v_getR fX8_43 rfl (by assumption) (by assumption) dX8_method_27 ?_
      refine v_aload_n dX8_method_30 rfl ?_
      refine v_getI' (v := ((xn s : Nat) : Int)) hx5 fX8_47 rfl (by assumption) dX8_method_31 ?_
      have h6 : xn s < 6 := by omega
      obtain ⟨m, em⟩ : ∃ m, m = x + 47 + 132 * xn s := ⟨_, rfl⟩
      rw [← em] at ht
      refine v_newC ht (ci := 4) rfl nX8_41 niX4 nnX4 (by decide) (by decide) dX8_method_34 rng (fun G1 J1 hB1 x1 rng1 => ?_)
      refine v_dup dX8_method_37 rfl ?_
      refine v_iload_n dX8_method_38 rfl ?_
      refine v_Iv (tX4_init hr hB1) kX8_80 rfl rfl ⟨by decide, by decide⟩ ⟨by decide, by decide⟩ (Nat.le_of_ble_eq_true rfl) dX8_method_39 (fun G2 J2 p2 rng2 => ?_)
      obtain ⟨hM, h2, x2, m1, m2, m3, m4, m5⟩ := p2
      have x3 : ext G G2 I J2 m := x1.tr x2
      refine v_aast (i := xn s) (t := 3) (ci := 4) (len := 6) (by decide) rfl rfl ((x3 _ (by omega)).1.trans hTx17) hM.1 rfl (by omega) (by decide) dX8_method_42 ?_
      change w_V E mX8_method _ _ (setR G2 (x + 17) (xn s) m) J2 _ _ _ _ _
      have hJ : ∀ b, b < m → J2 b = I b := fun b hb => (x3 b hb).2.2
      have tx : (setR G2 (x + 17) (xn s) m).1 x = (8, 0) := (x3 x (by omega)).1.trans hTx
      have hx5b : J2 x 5 = (xn s : Int) := (congrFun (hJ x (by omega)) _).trans hx5
      refine v_aload_n dX8_method_43 rfl ?_
      refine v_dup dX8_method_44 rfl ?_
      refine v_getI' (v := ((xn s : Nat) : Int)) hx5b fX8_47 rfl tx dX8_method_45 ?_
      refine v_iconst dX8_method_48 ?_
      refine v_iadd dX8_method_49 ?_
      refine v_putI fX8_47 p8_5 rfl ⟨by omega, by omega⟩ tx dX8_method_50 ?_
      have rng1 := w_rng (a := x) (f := 5) rng2 (show inR ((((xn s : Nat) : Int) + 1)) from ⟨by omega, by omega⟩)
      refine v_aload_n dX8_method_53 rfl ?_
      refine v_getI' (v := (((xn s : Nat) : Int) + 1)) (by rw [w_up_s]) fX8_47 rfl tx dX8_method_54 ?_
      refine v_iconst dX8_method_57 ?_
      refine v_isub dX8_method_58 ?_
      rw [show xMeth s r = ((xn s : Int), (s.1, xn s + 1, uN (xπ s) (xn s) (mt0 r), uN (xκ s) (xn s) wk0, uN (xst s) (xn s) (0, 0, 0), xρ s)) by unfold xMeth; rw [if_neg (by omega), if_neg (by omega)]]
      have oj : ∀ b j, b < m → ¬ (b = x ∧ j = 5) → w_up J2 x 5 ((xn s : Int) + 1) b j = I b j := fun b j h1 h2 => by rw [w_up_n h2, hJ b h1]
      have oz : ∀ b j, m ≤ b → w_up J2 x 5 ((xn s : Int) + 1) b j = J2 b j := fun b j h1 => by rw [w_up_n (by omega)]
      have sG : ∀ b, b < m → ¬ b = x + 17 → (setR G2 (x + 17) (xn s) m).1 b = G.1 b ∧ (setR G2 (x + 17) (xn s) m).2.1 b = G.2.1 b := fun b h1 h2 => ⟨(x3 b h1).1, (setR_o h2).trans (x3 b h1).2.1⟩
      have rx : ∀ j, (setR G2 (x + 17) (xn s) m).2.1 x j = G.2.1 x j := fun j => congrFun (sG x (by omega) (by omega)).2 j
      obtain ⟨V1, V2, V3, V4, ⟨V5, V6, V7⟩, V8, V9a, V10, V11, -, V12⟩ := hV
      have sd : ∀ lo hi, x ≤ lo → hi ≤ x + 17 → sam G (setR G2 (x + 17) (xn s) m) lo hi := fun lo hi h1 h2 b h3 h4 => sG b (by omega) (by omega)
      have Kc : isK (setR G2 (x + 17) (xn s) m) (x + 4) (x + 1) := ⟨(sG _ (by omega) (by omega)).1.trans V5, (congrFun (sG _ (by omega) (by omega)).2 _).trans V6, V7.mv (sd _ _ (by omega) (by omega))⟩
      refine v_iret rfl (Nat.le_refl _) (Nat.le_refl _) ⟨by omega, by omega⟩ dX8_method_59 ⟨by show (xn s : Int) + 1 - 1 = (xn s : Int); omega, ⟨?_, w_up_s, h6, fun i hi => ?_, ?_⟩, ⟨tx, (rx 0).trans hRx0, (rx 1).trans hRx1, (rx 2).trans hRx2, (rx 3).trans hRx3, (rx 4).trans hRx4, (x3 _ (by omega)).1.trans hTx17, ⟨(sG _ (by omega) (by omega)).1.trans V1, (congrFun (sG _ (by omega) (by omega)).2 _).trans V2, (congrFun (sG _ (by omega) (by omega)).2 _).trans V3, (congrFun (sG _ (by omega) (by omega)).2 _).trans V4, Kc, V8.mv (sd _ _ (by omega) (by omega)), (sG _ (by omega) (by omega)).1.trans V9a, (congrFun (sG _ (by omega) (by omega)).2 _).trans V10, (congrFun (sG _ (by omega) (by omega)).2 _).trans V11, Kc, V12.mv (sd _ _ (by omega) (by omega))⟩, hH.mv (sd _ _ (by omega) (by omega)), fun i hi => ?_⟩, ?_, fun b h1 h2 => ⟨(sG b (by omega) (by omega)).1, (sG b (by omega) (by omega)).2, (w_up_o (by omega)).trans (hJ b (by omega))⟩, fun b hb => sG b (by omega) (by omega)⟩
      · exact hxQ.off (fun k => ⟨oj _ _ (by omega) (by omega), oj _ _ (by omega) (by omega), oj _ _ (by omega) (by omega)⟩)
      · have hi2 : i < xn s + 1 := hi
        show xOKm _ _ (uN (xπ s) (xn s) (mt0 r) i) (uN (xκ s) (xn s) wk0 i) (uN (xst s) (xn s) (0, 0, 0) i)
        by_cases e : i = xn s
        · rw [e, uN_s, uN_s, uN_s, ← em]
          exact ⟨m1.off (fun a j _ _ => oz _ _ (by omega)), m2.off (fun a j _ _ => oz _ _ (by omega)), (oz _ _ (by omega)).trans m3, (oz _ _ (by omega)).trans m4, (oz _ _ (by omega)).trans m5⟩
        · rw [uN_n e, uN_n e, uN_n e]
          obtain ⟨g1, g2, g3, g4, g5⟩ := hxm i (by omega)
          exact ⟨g1.off (fun a j _ _ => oj _ _ (by omega) (by omega)), g2.off (fun a j _ _ => oj _ _ (by omega) (by omega)), (oj _ _ (by omega) (by omega)).trans g3, (oj _ _ (by omega) (by omega)).trans g4, (oj _ _ (by omega) (by omega)).trans g5⟩
      · exact hxr.same (oj _ _ (by omega) (by omega)) (fun j _ => oj _ _ (by omega) (by omega)) (fun j _ => oj _ _ (by omega) (by omega))
      · have hi2 : i < xn s + 1 := hi
        by_cases e : i = xn s
        · rw [e, ← em]
          exact ⟨setR_s, hM.mv (setR_sam (by omega))⟩
        · obtain ⟨g1, g2⟩ := hXm i (by omega)
          exact ⟨(setR_n (by omega)).trans ((congrFun (x3 _ (by omega)).2.1 _).trans g1), g2.mv (fun b h1 h2 => sG b (by omega) (by omega))⟩
      · show G2.2.2 = x + 47 + 132 * (xn s + 1)
        rw [h2]; omega
    · refine v_bipush dX8_method_23 (by decide) ?_
      rw [show xMeth s r = (-4, s) by unfold xMeth; rw [if_neg (by omega), if_pos (by omega)]]
      exact v_iret rfl (Nat.zero_le _) (Nat.zero_le _) ⟨by decide, by decide⟩ dX8_method_25 ⟨rfl, hx0, hX0, ht, fun b _ _ => ⟨rfl, rfl, rfl⟩, fun b _ => ⟨rfl, rfl⟩⟩
  · refine v_if_ne ⟨by decide, by decide⟩ dX8_method_8 (fun h => by exfalso; omega) (fun hb8 => ?_)
    refine v_bipush dX8_method_11 (by decide) ?_
    rw [show xMeth s r = (-2, s) by unfold xMeth; rw [if_pos (by omega)]]
    exact v_iret rfl (Nat.zero_le _) (Nat.zero_le _) ⟨by decide, by decide⟩ dX8_method_13 ⟨rfl, hx0, hX0, ht, fun b _ _ => ⟨rfl, rfl, rfl⟩, fun b _ => ⟨rfl, rfl⟩⟩
