/-! ===== constructors that make others ===== -/
section Make2
variable {E : w_E} {M : w_M} {R : Room} {Z : List Frame → Array Value → State → State → Prop} {G : w_Sh} {I : w_Mm} {k n pc pc1 : Nat} {ls : List (Option Value)} {st : List Value}
theorem v_newC {idx ci a : Nat} {q : vw_C} (ha : G.2.2 = a) (hc : w_cl[ci]? = some q) (h1 : Jvm.Cond.classLink M.1.cls idx q.1 ∈ w_good) (h2 : Jvm.Cond.instantiable q.1 q.2.2 ∈ w_good) (h3 : Jvm.Cond.initialized q.1 ∈ w_good) (hk : k + 1 ≤ R.cells) (hn : n + q.2.2 ≤ R.slots) (hd : Dc M pc (.new idx) 3 pc1) (rng : ∀ a k, inR (I a k))
    (kk : ∀ G' J, isB G' J a ci [] → ext G G' I J a → (∀ b k, inR (J b k)) → w_V E M R Z G' J (k + 1) (n + q.2.2) pc1 ls (.ref a :: st)) : w_V E M R Z G I k n pc ls st := by
  subst ha
  exact v_newB hc h1 h2 h3 hk hn hd rng kk
end Make2
theorem frOK.ext {G G' : w_Sh} {I J : w_Mm} {t f : Nat} {φ : fS} (h : frOK I f φ) (x : ext G G' I J t) (ht : f + 3 ≤ t) : frOK J f φ := h.same (congrFun (x f (by omega)).2.2 _) (fun k _ => congrFun (x (f + 1) (by omega)).2.2 _) (fun k _ => congrFun (x (f + 2) (by omega)).2.2 _)
theorem ext.setR {G G' : w_Sh} {I J : w_Mm} {t a f b : Nat} (h : ext G G' I J t) (ht : t ≤ a) : ext G (setR G' a f b) I J t := fun c hc => ⟨(h c hc).1, (setR_o (by omega)).trans (h c hc).2.1, (h c hc).2.2⟩
theorem isB.nil {G : w_Sh} {I : w_Mm} {a ci : Nat} (h : isB G I a ci []) : G.1 a = (ci, 0) ∧ G.2.2 = a + 1 ∧ ∀ j, I a j = 0 := ⟨h.1, h.2.1, fun j => h.2.2.2 a j (by omega) (by show a < a + 1 + 0; omega)⟩
theorem tX3_init {E : w_E} {G : w_Sh} {I : w_Mm} {q c : Nat} (hT : G.1 q = (3, 0)) : w_Ct E mX3_init 1 [.ref q, .ref c] G I 0 0 (w_Pv (fun G' J => G' = setR G q 0 c ∧ J = I)) := by
  refine w_Ct.of (ls := [some (.ref q), some (.ref c)]) (by decide +kernel) (Nat.le_of_ble_eq_true rfl) rfl rfl (fun rng => ?_)
  refine v_aload_n dX3_init_0 rfl ?_
  refine v_obj kX3_3 wobj2 wobj3 (by decide) (by decide) dX3_init_1 ?_
  refine v_aload_n dX3_init_4 rfl ?_
  refine v_aload_n dX3_init_5 rfl ?_
  refine v_putR fX3_9 p3_0 rfl rfl (by rintro q ⟨⟩; rfl) ⟨rfl, rfl⟩ hT dX3_init_6 ?_
  exact v_vret rfl (by decide) (by decide) dX3_init_9 ⟨rfl, rfl⟩
theorem tX5_init {E : w_E} {G : w_Sh} {I : w_Mm} {s q : Nat} (hB : isB G I s 5 []) : w_Ct E mX5_init 2 [.ref s, .ref q] G I 3 19 (w_Pv (fun G' J => G'.1 s = (5, 0) ∧ G'.2.1 s 0 = some q ∧ G'.2.1 s 1 = some (s + 1) ∧ isF G' (s + 1) ∧ G'.2.2 = s + 4 ∧ ext G G' I J s)) := by
  refine w_Ct.of (ls := [some (.ref s), some (.ref q)]) (by decide +kernel) (Nat.le_of_ble_eq_true rfl) rfl rfl (fun rng => ?_)
  obtain ⟨b1, b2, b3⟩ := hB.nil
  refine v_aload_n dX5_init_0 rfl ?_
  refine v_obj kX5_3 wobj2 wobj3 (by decide) (by decide) dX5_init_1 ?_
  refine v_aload_n dX5_init_4 rfl ?_
  refine v_newC b2 (ci := 2) rfl nX5_9 niX2 nnX2 (by decide) (by decide) dX5_init_5 rng (fun G1 J1 hB1 x1 rng1 => ?_)
  refine v_dup dX5_init_8 rfl ?_
  refine v_Iv (tX2_init hB1) kX5_11 rfl rfl ⟨by decide, by decide⟩ ⟨by decide, by decide⟩ (Nat.le_of_ble_eq_true rfl) dX5_init_9 (fun G2 J2 p2 rng2 => ?_)
  obtain ⟨hF, ht, x2, f2⟩ := p2
  have t2 : G2.1 s = (5, 0) := (x2 s (by omega)).1.trans ((x1 s (by omega)).1.trans b1)
  refine v_putR fX5_12 p5_1 rfl rfl (by rintro q ⟨⟩; rfl) ⟨rfl, rfl⟩ t2 dX5_init_12 ?_
  refine v_aload_n dX5_init_15 rfl ?_
  refine v_aload_n dX5_init_16 rfl ?_
  refine v_putR fX5_18 p5_0 rfl rfl (by rintro q ⟨⟩; rfl) ⟨rfl, rfl⟩ t2 dX5_init_17 ?_
  exact v_vret rfl (by decide) (by decide) dX5_init_20 ⟨t2, setR_s (G := setR G2 s 1 (s + 1)), (setR_n (G := setR G2 s 1 (s + 1)) (f := 0) (by omega)).trans setR_s, (hF.mv (setR_sam (by omega))).mv (setR_sam (by omega)), ht, (((x1.le (by omega)).tr (x2.le (by omega))).setR (by omega)).setR (by omega)⟩
theorem tX7_init {E : w_E} {G : w_Sh} {I : w_Mm} {v q : Nat} (hB : isB G I v 7 []) : w_Ct E mX7_init 3 [.ref v, .ref q] G I 7 41 (w_Pv (fun G' J => G'.1 v = (7, 0) ∧ G'.2.1 v 0 = some q ∧ G'.2.1 v 1 = some (v + 4) ∧ G'.2.1 v 2 = some (v + 1) ∧ isF G' (v + 1) ∧ (G'.1 (v + 4) = (5, 0) ∧ G'.2.1 (v + 4) 0 = some q ∧ G'.2.1 (v + 4) 1 = some (v + 4 + 1) ∧ isF G' (v + 4 + 1)) ∧ G'.2.2 = v + 8 ∧ ext G G' I J v ∧ frOK J (v + 1) fr0)) := by
  refine w_Ct.of (ls := [some (.ref v), some (.ref q)]) (by decide +kernel) (Nat.le_of_ble_eq_true rfl) rfl rfl (fun rng => ?_)
  obtain ⟨b1, b2, b3⟩ := hB.nil
  refine v_aload_n dX7_init_0 rfl ?_
  refine v_obj kX7_3 wobj2 wobj3 (by decide) (by decide) dX7_init_1 ?_
  refine v_aload_n dX7_init_4 rfl ?_
  refine v_newC b2 (ci := 2) rfl nX7_9 niX2 nnX2 (by decide) (by decide) dX7_init_5 rng (fun G1 J1 hB1 x1 rng1 => ?_)
  refine v_dup dX7_init_8 rfl ?_
  refine v_Iv (tX2_init hB1) kX7_11 rfl rfl ⟨by decide, by decide⟩ ⟨by decide, by decide⟩ (Nat.le_of_ble_eq_true rfl) dX7_init_9 (fun G2 J2 p2 rng2 => ?_)
  obtain ⟨hF, ht, x2, f2⟩ := p2
  have t2 : G2.1 v = (7, 0) := (x2 v (by omega)).1.trans ((x1 v (by omega)).1.trans b1)
  refine v_putR fX7_12 p7_2 rfl rfl (by rintro q ⟨⟩; rfl) ⟨rfl, rfl⟩ t2 dX7_init_12 ?_
  refine v_aload_n dX7_init_15 rfl ?_
  refine v_aload_n dX7_init_16 rfl ?_
  refine v_putR fX7_18 p7_0 rfl rfl (by rintro q ⟨⟩; rfl) ⟨rfl, rfl⟩ t2 dX7_init_17 ?_
  have hF3 : isF (setR (setR G2 v 2 (v + 1)) v 0 q) (v + 1) := (hF.mv (setR_sam (by omega))).mv (setR_sam (by omega))
  have e1 : (setR (setR G2 v 2 (v + 1)) v 0 q).2.1 v 0 = some q := setR_s (G := setR G2 v 2 (v + 1))
  have e2 : (setR (setR G2 v 2 (v + 1)) v 0 q).2.1 v 2 = some (v + 1) := (setR_n (G := setR G2 v 2 (v + 1)) (f := 0) (by omega)).trans setR_s
  have t3 : (setR (setR G2 v 2 (v + 1)) v 0 q).1 v = (7, 0) := t2
  have h3 : (setR (setR G2 v 2 (v + 1)) v 0 q).2.2 = v + 4 := ht
  have x3 : ext G (setR (setR G2 v 2 (v + 1)) v 0 q) I J2 v := ((((x1.le (by omega)).tr (x2.le (by omega))).setR (by omega)).setR (by omega))
  change w_V E mX7_init _ _ (setR (setR G2 v 2 (v + 1)) v 0 q) J2 _ _ _ _ _
  generalize setR (setR G2 v 2 (v + 1)) v 0 q = G3 at hF3 e1 e2 t3 h3 x3 ⊢
  refine v_aload_n dX7_init_20 rfl ?_
  refine v_newC h3 (ci := 5) rfl nX7_22 niX5 nnX5 (by decide) (by decide) dX7_init_21 rng2 (fun G4 J4 hB4 x4 rng4 => ?_)
  refine v_dup dX7_init_24 rfl ?_
  refine v_aload_n dX7_init_25 rfl ?_
  refine v_Iv (tX5_init hB4) kX7_24 rfl rfl ⟨by decide, by decide⟩ ⟨by decide, by decide⟩ (Nat.le_of_ble_eq_true rfl) dX7_init_26 (fun G5 J5 p5 rng5 => ?_)
  obtain ⟨s1, s2, s3, s4, s5, x5⟩ := p5
  have x6 : ext G3 G5 J2 J5 (v + 4) := x4.tr x5
  have t6 : G5.1 v = (7, 0) := (x6 v (by omega)).1.trans t3
  refine v_putR fX7_27 p7_1 rfl rfl (by rintro q ⟨⟩; rfl) ⟨rfl, rfl⟩ t6 dX7_init_29 ?_
  exact v_vret rfl (by decide) (by decide) dX7_init_32 ⟨t6, (setR_n (by omega)).trans ((congrFun (x6 v (by omega)).2.1 _).trans e1), setR_s, (setR_n (by omega)).trans ((congrFun (x6 v (by omega)).2.1 _).trans e2), (hF3.mv (x6.sam (by omega))).mv (setR_sam (by omega)), ⟨s1, (setR_n (by omega)).trans s2, (setR_n (by omega)).trans s3, s4.mv (setR_sam (by omega))⟩, s5, (x3.tr (x6.le (by omega))).setR (by omega), f2.ext x6 (by omega)⟩
def xs0 : xS := (cls0, 0, fun _ => mt0 0, fun _ => wk0, fun _ => (0, 0, 0), fr0)
theorem tX8_init {E : w_E} {G : w_Sh} {I : w_Mm} {x : Nat} (hB : isB G I x 8 []) : w_Ct E mX8_init 4 [.ref x] G I 17 145 (w_Pv (fun G' J => isX G' x 0 ∧ G'.2.2 = x + 18 ∧ ext G G' I J x ∧ xOK J x xs0)) := by
  refine w_Ct.of (ls := [some (.ref x)]) (by decide +kernel) (Nat.le_of_ble_eq_true rfl) rfl rfl (fun rng => ?_)
  obtain ⟨b1, b2, b3⟩ := hB.nil
  refine v_aload_n dX8_init_0 rfl ?_
  refine v_obj kX8_1 wobj2 wobj3 (by decide) (by decide) dX8_init_1 ?_
  refine v_aload_n dX8_init_4 rfl ?_
  refine v_newC b2 (ci := 0) rfl nX8_7 niX0 nnX0 (by decide) (by decide) dX8_init_5 rng (fun G1 J1 hB1 x1 rng1 => ?_)
  refine v_dup dX8_init_8 rfl ?_
  refine v_Iv (tX0_init hB1) kX8_9 rfl rfl ⟨by decide, by decide⟩ ⟨by decide, by decide⟩ (Nat.le_of_ble_eq_true rfl) dX8_init_9 (fun G2 J2 p2 rng2 => ?_)
  obtain ⟨hC, ht, x2, c2⟩ := p2
  have x2a : ext G G2 I J2 (x + 1) := x1.tr x2
  have t2 : G2.1 x = (8, 0) := (x2a x (by omega)).1.trans b1
  have z2 : ∀ j, J2 x j = 0 := fun j => (congrFun (x2a x (by omega)).2.2 j).trans (b3 j)
  refine v_putR fX8_10 p8_0 rfl rfl (by rintro q ⟨⟩; rfl) ⟨rfl, rfl⟩ t2 dX8_init_12 ?_
  have t3 : (setR G2 x 0 (x + 1)).1 x = (8, 0) := t2
  have h3 : (setR G2 x 0 (x + 1)).2.2 = x + 4 := ht
  have x3 : ext G (setR G2 x 0 (x + 1)) I J2 x := (x2a.le (by omega)).setR (by omega)
  have r30 : (setR G2 x 0 (x + 1)).2.1 x 0 = some (x + 1) := setR_s
  have C3 : isC (setR G2 x 0 (x + 1)) (x + 1) := hC.mv (setR_sam (by omega))
  change w_V E mX8_init _ _ (setR G2 x 0 (x + 1)) J2 _ _ _ _ _
  generalize setR G2 x 0 (x + 1) = G3 at t3 h3 x3 r30 C3 ⊢
  refine v_aload_n dX8_init_15 rfl ?_
  refine v_newC h3 (ci := 3) rfl nX8_16 niX3 nnX3 (by decide) (by decide) dX8_init_16 rng2 (fun G4 J4 hB4 x4 rng4 => ?_)
  refine v_dup dX8_init_19 rfl ?_
  refine v_aload_n dX8_init_20 rfl ?_
  refine v_getR fX8_10 rfl ((x4 x (by omega)).1.trans t3) ((congrFun (x4 x (by omega)).2.1 _).trans r30) dX8_init_21 ?_
  refine v_Iv (tX3_init hB4.1) kX8_18 rfl rfl ⟨by decide, by decide⟩ ⟨by decide, by decide⟩ (Nat.le_of_ble_eq_true rfl) dX8_init_24 (fun G5 J5 p5 rng5 => ?_)
  obtain ⟨rfl, e5⟩ := p5
  obtain rfl := e5.symm
  have t5 : (setR G4 (x + 4) 0 (x + 1)).1 x = (8, 0) := (x4 x (by omega)).1.trans t3
  refine v_putR fX8_21 p8_1 rfl rfl (by rintro q ⟨⟩; rfl) ⟨rfl, rfl⟩ t5 dX8_init_27 ?_
  have t6 : (setR (setR G4 (x + 4) 0 (x + 1)) x 1 (x + 4)).1 x = (8, 0) := t5
  have h6 : (setR (setR G4 (x + 4) 0 (x + 1)) x 1 (x + 4)).2.2 = x + 5 := hB4.2.1
  have x6 : ext G (setR (setR G4 (x + 4) 0 (x + 1)) x 1 (x + 4)) I J4 x := ((x3.tr (x4.le (by omega))).setR (by omega)).setR (by omega)
  have r60 : (setR (setR G4 (x + 4) 0 (x + 1)) x 1 (x + 4)).2.1 x 0 = some (x + 1) := (setR_n (by omega)).trans ((setR_n (by omega)).trans ((congrFun (x4 x (by omega)).2.1 _).trans r30))
  have r61 : (setR (setR G4 (x + 4) 0 (x + 1)) x 1 (x + 4)).2.1 x 1 = some (x + 4) := setR_s
  have K6 : isK (setR (setR G4 (x + 4) 0 (x + 1)) x 1 (x + 4)) (x + 4) (x + 1) := ⟨hB4.1, (setR_n (by omega)).trans setR_s, ((C3.mv (x4.sam (by omega))).mv (setR_sam (by omega))).mv (setR_sam (by omega))⟩
  have c6 : clsOK J4 (x + 1) cls0 := c2.off (fun k => ⟨congrFun (x4 _ (by omega)).2.2 _, congrFun (x4 _ (by omega)).2.2 _, congrFun (x4 _ (by omega)).2.2 _⟩)
  change w_V E mX8_init _ _ (setR (setR G4 (x + 4) 0 (x + 1)) x 1 (x + 4)) J4 _ _ _ _ _
  generalize setR (setR G4 (x + 4) 0 (x + 1)) x 1 (x + 4) = G6 at t6 h6 x6 r60 r61 K6 c6 ⊢
  have z6 : ∀ j, J4 x j = 0 := fun j => (congrFun (x4 x (by omega)).2.2 j).trans (z2 j)
  refine v_aload_n dX8_init_30 rfl ?_
  refine v_newC h6 (ci := 7) rfl nX8_25 niX7 nnX7 (by decide) (by decide) dX8_init_31 rng4 (fun G7 J7 hB7 x7 rng7 => ?_)
  refine v_dup dX8_init_34 rfl ?_
  refine v_aload_n dX8_init_35 rfl ?_
  refine v_getR fX8_21 rfl ((x7 x (by omega)).1.trans t6) ((congrFun (x7 x (by omega)).2.1 _).trans r61) dX8_init_36 ?_
  refine v_Iv (tX7_init hB7) kX8_27 rfl rfl ⟨by decide, by decide⟩ ⟨by decide, by decide⟩ (Nat.le_of_ble_eq_true rfl) dX8_init_39 (fun G8 J8 p8 rng8 => ?_)
  obtain ⟨v1, v2, v3, v4, v5, ⟨s1, s2, s3, s4⟩, v6, x8, v7⟩ := p8
  have x8a : ext G6 G8 J4 J8 (x + 5) := x7.tr x8
  have t8 : G8.1 x = (8, 0) := (x8a x (by omega)).1.trans t6
  refine v_putR fX8_30 p8_2 rfl rfl (by rintro q ⟨⟩; rfl) ⟨rfl, rfl⟩ t8 dX8_init_42 ?_
  have K8 : isK (setR G8 x 2 (x + 5)) (x + 4) (x + 1) := ⟨(x8a _ (by omega)).1.trans K6.1, (setR_n (by omega)).trans ((congrFun (x8a _ (by omega)).2.1 _).trans K6.2.1), (K6.2.2.mv (x8a.sam (by omega))).mv (setR_sam (by omega))⟩
  have t9 : (setR G8 x 2 (x + 5)).1 x = (8, 0) := t8
  have h9 : (setR G8 x 2 (x + 5)).2.2 = x + 13 := v6
  have x9 : ext G (setR G8 x 2 (x + 5)) I J8 x := (x6.tr (x8a.le (by omega))).setR (by omega)
  have r90 : (setR G8 x 2 (x + 5)).2.1 x 0 = some (x + 1) := (setR_n (by omega)).trans ((congrFun (x8a x (by omega)).2.1 _).trans r60)
  have r91 : (setR G8 x 2 (x + 5)).2.1 x 1 = some (x + 4) := (setR_n (by omega)).trans ((congrFun (x8a x (by omega)).2.1 _).trans r61)
  have r92 : (setR G8 x 2 (x + 5)).2.1 x 2 = some (x + 5) := setR_s
  have V9 : isV (setR G8 x 2 (x + 5)) (x + 5) (x + 4) (x + 1) := ⟨v1, (setR_n (by omega)).trans v2, (setR_n (by omega)).trans v3, (setR_n (by omega)).trans v4, K8, v5.mv (setR_sam (by omega)), s1, (setR_n (by omega)).trans s2, (setR_n (by omega)).trans s3, K8, s4.mv (setR_sam (by omega))⟩
  have c9 : clsOK J8 (x + 1) cls0 := c6.off (fun k => ⟨congrFun (x8a _ (by omega)).2.2 _, congrFun (x8a _ (by omega)).2.2 _, congrFun (x8a _ (by omega)).2.2 _⟩)
  change w_V E mX8_init _ _ (setR G8 x 2 (x + 5)) J8 _ _ _ _ _
  generalize setR G8 x 2 (x + 5) = G9 at t9 h9 x9 r90 r91 r92 V9 c9 ⊢
  refine v_aload_n dX8_init_45 rfl ?_
  refine v_newC h9 (ci := 1) rfl nX8_34 niX1 nnX1 (by decide) (by decide) dX8_init_46 rng8 (fun G10 J10 hB10 x10 rng10 => ?_)
  refine v_dup dX8_init_49 rfl ?_
  refine v_Iv (tX1_init hB10) kX8_36 rfl rfl ⟨by decide, by decide⟩ ⟨by decide, by decide⟩ (Nat.le_of_ble_eq_true rfl) dX8_init_50 (fun G11 J11 p11 rng11 => ?_)
  obtain ⟨hH, h11, x11⟩ := p11
  have xa : ext G9 G11 J8 J11 (x + 13) := x10.tr x11
  have ta : G11.1 x = (8, 0) := (xa x (by omega)).1.trans t9
  refine v_putR fX8_37 p8_3 rfl rfl (by rintro q ⟨⟩; rfl) ⟨rfl, rfl⟩ ta dX8_init_53 ?_
  have ht12 : (setR G11 x 3 (x + 13)).2.2 = x + 17 := h11
  have tb : (setR G11 x 3 (x + 13)).1 x = (8, 0) := ta
  change w_V E mX8_init _ _ (setR G11 x 3 (x + 13)) J11 _ _ _ _ _
  refine v_aload_n dX8_init_56 rfl ?_
  refine v_bipush dX8_init_57 (by decide) ?_
  refine v_newQ (len := 6) (t := 3) (C := RX4) (by decide) rfl (fun U h => h.2.2.2.1) nX8_41 rfl (by decide) (by decide) (by decide) dX8_init_59 ?_
  rw [ht12]
  have tc : (w_new (setR G11 x 3 (x + 13)) (13, 6)).1 x = (8, 0) := (new_1 (by rw [ht12]; omega)).trans tb
  refine v_putR fX8_43 p8_4 rfl rfl (by rintro q ⟨⟩; rfl) ⟨rfl, rfl⟩ tc dX8_init_62 ?_
  have xc : ext G11 (setR (w_new (setR G11 x 3 (x + 13)) (13, 6)) x 4 (x + 17)) J11 (w_zI J11 (x + 17)) x := fun b hb => ⟨new_1 (by rw [ht12]; omega), (setR_o (by omega)).trans ((new_o (by rw [ht12]; omega)).trans (setR_o (by omega))), w_zI_o (by omega)⟩
  have sc : sam G11 (setR (w_new (setR G11 x 3 (x + 13)) (13, 6)) x 4 (x + 17)) (x + 1) (x + 17) := fun b h1 h2 => ⟨new_1 (by rw [ht12]; omega), (setR_o (by omega)).trans ((new_o (by rw [ht12]; omega)).trans (setR_o (by omega)))⟩
  have rc : ∀ j, j < 4 → (setR (w_new (setR G11 x 3 (x + 13)) (13, 6)) x 4 (x + 17)).2.1 x j = (setR G11 x 3 (x + 13)).2.1 x j := fun j hj => (setR_n (by omega)).trans (congrFun (new_o (by rw [ht12]; omega)) _)
  have rd : ∀ j, j < 3 → (setR (w_new (setR G11 x 3 (x + 13)) (13, 6)) x 4 (x + 17)).2.1 x j = G9.2.1 x j := fun j hj => (rc j (by omega)).trans ((setR_n (by omega)).trans (congrFun (xa x (by omega)).2.1 _))
  have sd : sam G9 (setR (w_new (setR G11 x 3 (x + 13)) (13, 6)) x 4 (x + 17)) (x + 1) (x + 13) := fun b h1 h2 => ⟨(sc b h1 (by omega)).1.trans (xa b (by omega)).1, (sc b h1 (by omega)).2.trans (xa b (by omega)).2.1⟩
  have tg : (w_new (setR G11 x 3 (x + 13)) (13, 6)).1 (x + 17) = (13, 6) := by rw [← ht12]; exact new_s
  obtain ⟨V1, V2, V3, V4, ⟨V5, V6, V7⟩, V8, V9a, V10, V11, -, V12⟩ := V9
  have Kc : isK (setR (w_new (setR G11 x 3 (x + 13)) (13, 6)) x 4 (x + 17)) (x + 4) (x + 1) := ⟨(sd _ (by omega) (by omega)).1.trans V5, (congrFun (sd _ (by omega) (by omega)).2 _).trans V6, V7.mv (fun b h1 h2 => sd b (by omega) (by omega))⟩
  have jz : ∀ b, b < x + 13 → w_zI J11 (x + 17) b = J8 b := fun b hb => (w_zI_o (by omega)).trans (xa b hb).2.2
  have rngc := rng_z (a := x + 17) rng11
  refine v_aload_n dX8_init_65 rfl ?_
  refine v_iconst dX8_init_66 ?_
  refine v_putI fX8_47 p8_5 rfl ⟨by decide, by decide⟩ tc dX8_init_67 ?_
  have rng1 := w_rng (a := x) (f := 5) rngc (show inR (0) from ⟨by decide, by decide⟩)
  refine v_vret rfl (by decide) (by decide) dX8_init_70 ⟨⟨tc, (rd 0 (by omega)).trans r90, (rd 1 (by omega)).trans r91, (rd 2 (by omega)).trans r92, (rc 3 (by omega)).trans setR_s, setR_s, tg, ⟨(sd _ (by omega) (by omega)).1.trans V1, (congrFun (sd _ (by omega) (by omega)).2 _).trans V2, (congrFun (sd _ (by omega) (by omega)).2 _).trans V3, (congrFun (sd _ (by omega) (by omega)).2 _).trans V4, Kc, V8.mv (fun b h1 h2 => sd b (by omega) (by omega)), (sd _ (by omega) (by omega)).1.trans V9a, (congrFun (sd _ (by omega) (by omega)).2 _).trans V10, (congrFun (sd _ (by omega) (by omega)).2 _).trans V11, Kc, V12.mv (fun b h1 h2 => sd b (by omega) (by omega))⟩, hH.mv (fun b h1 h2 => sc b (by omega) (by omega)), fun i hi => absurd hi (by omega)⟩, by show (setR G11 x 3 (x + 13)).2.2 + 1 = x + 18; rw [ht12], fun b hb => ?_, ?_⟩
  · obtain ⟨q1, q2, q3⟩ := (x9.tr (xa.le (by omega))).tr xc b hb
    exact ⟨q1, q2, (w_up_o (by omega)).trans q3⟩
  · refine ⟨c9.off (fun k => ⟨by rw [w_up_n (by omega), jz _ (by omega)], by rw [w_up_n (by omega), jz _ (by omega)], by rw [w_up_n (by omega), jz _ (by omega)]⟩), w_up_s, by decide, fun i hi => absurd hi (Nat.not_lt_zero i), ?_⟩
    have f8 : frOK J8 (x + 6) fr0 := v7
    exact f8.same (by rw [w_up_n (by omega), jz _ (by omega)]) (fun k _ => by rw [w_up_n (by omega), jz _ (by omega)]) (fun k _ => by rw [w_up_n (by omega), jz _ (by omega)])
