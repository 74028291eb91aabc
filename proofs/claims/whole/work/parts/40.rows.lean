/-! ===== making: an object and its rows ===== -/
def ext (G G' : w_Sh) (I J : w_Mm) (t : Nat) : Prop := ∀ b, b < t → G'.1 b = G.1 b ∧ G'.2.1 b = G.2.1 b ∧ J b = I b
theorem ext.tr {G G' G2 : w_Sh} {I J J2 : w_Mm} {t : Nat} (h : ext G G' I J t) (h2 : ext G' G2 J J2 t) : ext G G2 I J2 t := fun b hb => ⟨(h2 b hb).1.trans (h b hb).1, (h2 b hb).2.1.trans (h b hb).2.1, (h2 b hb).2.2.trans (h b hb).2.2⟩
theorem ext.le {G G' : w_Sh} {I J : w_Mm} {t t' : Nat} (h : ext G G' I J t) (ht : t' ≤ t) : ext G G' I J t' := fun b hb => h b (by omega)
/-- field, tag, length of each row so far -/
abbrev rwL : Type := List (Nat × Nat × Nat)
def isBl (G : w_Sh) (J : w_Mm) (a ci lo : Nat) (L : rwL) : Prop := G.1 a = (ci, 0) ∧ G.2.2 = a + 1 + L.length ∧ (∀ i q, L[i]? = some q → G.1 (a + 1 + i) = (q.2.1, q.2.2) ∧ G.2.1 a q.1 = some (a + 1 + i)) ∧ (∀ b j, lo ≤ b → b < a + 1 + L.length → J b j = 0)
abbrev isB (G : w_Sh) (J : w_Mm) (a ci : Nat) (L : rwL) : Prop := isBl G J a ci a L
/-- a field of the object at a is set -/
def setR (G : w_Sh) (a f b : Nat) : w_Sh := (G.1, w_upR G.2.1 a f (some b), G.2.2)
theorem setR_1 {G : w_Sh} {a f b c : Nat} : (setR G a f b).1 c = G.1 c := rfl
theorem setR_o {G : w_Sh} {a f b c : Nat} (h : c ≠ a) : (setR G a f b).2.1 c = G.2.1 c := w_upR_o h
theorem setR_s {G : w_Sh} {a f b : Nat} : (setR G a f b).2.1 a f = some b := by simp [setR, w_upR]
theorem setR_n {G : w_Sh} {a f b c j : Nat} (h : ¬ (c = a ∧ j = f)) : (setR G a f b).2.1 c j = G.2.1 c j := by simp [setR, w_upR, h]
theorem new_s {G : w_Sh} {t : Nat × Nat} : (w_new G t).1 G.2.2 = t := by simp [w_new, w_upT]
theorem new_1 {G : w_Sh} {t : Nat × Nat} {b : Nat} (h : b ≠ G.2.2) : (w_new G t).1 b = G.1 b := by simp [w_new, w_upT, h]
theorem new_o {G : w_Sh} {t : Nat × Nat} {b : Nat} (h : b ≠ G.2.2) : (w_new G t).2.1 b = G.2.1 b := w_zR_o h
theorem new_t {G : w_Sh} {t : Nat × Nat} : (w_new G t).2.2 = G.2.2 + 1 := rfl
theorem zI_s {I : w_Mm} {a j : Nat} : w_zI I a a j = 0 := by simp [w_zI]
theorem rng_z {I : w_Mm} {a : Nat} (h : ∀ a k, inR (I a k)) : ∀ b k, inR (w_zI I a b k) := fun b k => by
  unfold w_zI; split
  · exact ⟨by decide, by decide⟩
  · exact h b k
theorem isBl.add {G : w_Sh} {I : w_Mm} {a ci lo f t len : Nat} {L : rwL} (h : isBl G I a ci lo L) (hf : L.all (fun q => q.1 != f) = true) : isBl (setR (w_new G (t, len)) a f G.2.2) (w_zI I G.2.2) a ci lo (L ++ [(f, t, len)]) ∧ ext G (setR (w_new G (t, len)) a f G.2.2) I (w_zI I G.2.2) a ∧ w_zI I G.2.2 a = I a := by
  obtain ⟨h1, h2, h3, h4⟩ := h
  have hne : a ≠ G.2.2 := by omega
  refine ⟨⟨?_, ?_, fun i q hq => ?_, fun b j hb hb2 => ?_⟩, fun b hb => ⟨new_1 (by omega), (setR_o (by omega)).trans (new_o (by omega)), w_zI_o (by omega)⟩, w_zI_o hne⟩
  · exact (new_1 hne).trans h1
  · show G.2.2 + 1 = _
    rw [List.length_append, h2]; rfl
  · by_cases e : i < L.length
    · rw [List.getElem?_append_left e] at hq
      obtain ⟨g1, g2⟩ := h3 i q hq
      have hfq : q.1 ≠ f := by
        have := List.all_eq_true.mp hf q (List.mem_of_getElem? hq)
        simpa using this
      refine ⟨(new_1 (by omega)).trans g1, ?_⟩
      rw [setR_n (fun w => hfq w.2)]
      exact (congrFun (new_o hne) _).trans g2
    · rw [List.getElem?_append_right (by omega)] at hq
      have hi : i = L.length := by
        have := (List.getElem?_eq_some_iff.mp hq).1
        simp at this
        omega
      subst hi
      rw [Nat.sub_self] at hq
      cases hq
      rw [← h2]
      exact ⟨new_s, setR_s⟩
  · rw [List.length_append] at hb2
    by_cases e : b = G.2.2
    · rw [e]; exact zI_s
    · rw [w_zI_o e]
      have : ([(f, t, len)] : rwL).length = 1 := rfl
      exact h4 b j hb (by omega)
section Make
variable {E : w_E} {M : w_M} {R : Room} {Z : List Frame → Array Value → State → State → Prop} {G : w_Sh} {I : w_Mm} {k n pc pc1 pc2 : Nat} {ls : List (Option Value)} {st : List Value}
theorem v_rowI {idx ci f a len : Nat} {lo : Nat} {L : rwL} {x : Int} (hB : isBl G I a ci lo L) (hf : L.all (fun q => q.1 != f) = true) (hx : x = (len : Int)) (hl8 : len < 100000) (hfl : w_fl M.1.cls idx ci f) (hw : w_fw ci f true (.array .int)) (hr : w_ref ci f = true) (hi : M.1.name = "<init>") (hc : ∀ q, w_cl[ci]? = some q → q.1 = M.1.cls) (hk : k + 1 ≤ R.cells) (hn : n + len ≤ R.slots) (hd1 : Dc M pc (.newarray .int) 2 pc1) (hd2 : Dc M pc1 (.putfield idx) 3 pc2) (rng : ∀ a k, inR (I a k))
    (kk : ∀ G' J, isBl G' J a ci lo (L ++ [(f, 10, len)]) → ext G G' I J a ∧ J a = I a → (∀ b k, inR (J b k)) → w_V E M R Z G' J (k + 1) (n + len) pc2 ls st) : w_V E M R Z G I k n pc ls (iv x :: .ref a :: st) := by
  refine v_newI hx hl8 warrI hk hn hd1 ?_
  refine v_putR hfl hw hr hi hc ⟨rfl, rfl⟩ ((new_1 (by have := hB.2.1; omega)).trans hB.1) hd2 ?_
  exact kk _ _ (hB.add hf).1 (hB.add hf).2 (rng_z rng)
theorem v_rowZ {idx ci f a len : Nat} {lo : Nat} {L : rwL} {x : Int} (hB : isBl G I a ci lo L) (hf : L.all (fun q => q.1 != f) = true) (hx : x = (len : Int)) (hl8 : len < 100000) (hfl : w_fl M.1.cls idx ci f) (hw : w_fw ci f true (.array .boolean)) (hr : w_ref ci f = true) (hi : M.1.name = "<init>") (hc : ∀ q, w_cl[ci]? = some q → q.1 = M.1.cls) (hk : k + 1 ≤ R.cells) (hn : n + len ≤ R.slots) (hd1 : Dc M pc (.newarray .boolean) 2 pc1) (hd2 : Dc M pc1 (.putfield idx) 3 pc2) (rng : ∀ a k, inR (I a k))
    (kk : ∀ G' J, isBl G' J a ci lo (L ++ [(f, 11, len)]) → ext G G' I J a ∧ J a = I a → (∀ b k, inR (J b k)) → w_V E M R Z G' J (k + 1) (n + len) pc2 ls st) : w_V E M R Z G I k n pc ls (iv x :: .ref a :: st) := by
  refine v_newZ hx hl8 warrZ hk hn hd1 ?_
  refine v_putR hfl hw hr hi hc ⟨rfl, rfl⟩ ((new_1 (by have := hB.2.1; omega)).trans hB.1) hd2 ?_
  exact kk _ _ (hB.add hf).1 (hB.add hf).2 (rng_z rng)
theorem v_rowF {idx ix ci f a len : Nat} {lo : Nat} {L : rwL} {x : Int} (hB : isBl G I a ci lo L) (hf : L.all (fun q => q.1 != f) = true) (hcl : Jvm.Cond.classLink M.1.cls ix RX2 ∈ w_good) (hx : x = (len : Int)) (hl8 : len < 100000) (hfl : w_fl M.1.cls idx ci f) (hw : w_fw ci f true (.array (.object RX2))) (hr : w_ref ci f = true) (hi : M.1.name = "<init>") (hc : ∀ q, w_cl[ci]? = some q → q.1 = M.1.cls) (hk : k + 1 ≤ R.cells) (hn : n + len ≤ R.slots) (hd1 : Dc M pc (.anewarray ix) 3 pc1) (hd2 : Dc M pc1 (.putfield idx) 3 pc2) (rng : ∀ a k, inR (I a k))
    (kk : ∀ G' J, isBl G' J a ci lo (L ++ [(f, 12, len)]) → ext G G' I J a ∧ J a = I a → (∀ b k, inR (J b k)) → w_V E M R Z G' J (k + 1) (n + len) pc2 ls st) : w_V E M R Z G I k n pc ls (iv x :: .ref a :: st) := by
  refine v_newQ (t := 2) (C := RX2) (by decide) rfl (fun U h => h.2.2.1) hcl hx hl8 hk hn hd1 ?_
  refine v_putR hfl hw hr hi hc ⟨rfl, rfl⟩ ((new_1 (by have := hB.2.1; omega)).trans hB.1) hd2 ?_
  exact kk _ _ (hB.add hf).1 (hB.add hf).2 (rng_z rng)
/-- a new object, before its constructor -/
theorem v_newB {idx ci : Nat} {q : vw_C} (hc : w_cl[ci]? = some q) (h1 : Jvm.Cond.classLink M.1.cls idx q.1 ∈ w_good) (h2 : Jvm.Cond.instantiable q.1 q.2.2 ∈ w_good) (h3 : Jvm.Cond.initialized q.1 ∈ w_good) (hk : k + 1 ≤ R.cells) (hn : n + q.2.2 ≤ R.slots) (hd : Dc M pc (.new idx) 3 pc1) (rng : ∀ a k, inR (I a k))
    (kk : ∀ G' J, isB G' J G.2.2 ci [] → ext G G' I J G.2.2 → (∀ b k, inR (J b k)) → w_V E M R Z G' J (k + 1) (n + q.2.2) pc1 ls (.ref G.2.2 :: st)) : w_V E M R Z G I k n pc ls st :=
  v_new hc h1 h2 h3 hk hn hd (kk _ _ ⟨new_s, rfl, fun i q h => by simp at h, fun b j h1 h2 => by
    have : b = G.2.2 := by simp at h2; omega
    rw [this]; exact zI_s⟩ (fun b hb => ⟨new_1 (by omega), new_o (by omega), w_zI_o (by omega)⟩) (rng_z rng))
end Make
def sam (G G' : w_Sh) (lo hi : Nat) : Prop := ∀ b, lo ≤ b → b < hi → G'.1 b = G.1 b ∧ G'.2.1 b = G.2.1 b
theorem ext.sam {G G' : w_Sh} {I J : w_Mm} {t lo hi : Nat} (h : ext G G' I J t) (ht : hi ≤ t) : sam G G' lo hi := fun b _ h2 => ⟨(h b (by omega)).1, (h b (by omega)).2.1⟩
theorem setR_sam {G : w_Sh} {a f b lo hi : Nat} (h : a < lo ∨ hi ≤ a) : sam G (setR G a f b) lo hi := fun c h1 h2 => ⟨rfl, setR_o (by omega)⟩
theorem isC.mv {G G' : w_Sh} {c : Nat} (h : isC G c) (s : sam G G' c (c + 3)) : isC G' c := by
  obtain ⟨h1, h2, h3, h4, h5⟩ := h
  exact ⟨(s c (by omega) (by omega)).1.trans h1, (congrFun (s c (by omega) (by omega)).2 _).trans h2, (congrFun (s c (by omega) (by omega)).2 _).trans h3, (s (c + 1) (by omega) (by omega)).1.trans h4, (s (c + 2) (by omega) (by omega)).1.trans h5⟩
theorem isF.mv {G G' : w_Sh} {c : Nat} (h : isF G c) (s : sam G G' c (c + 3)) : isF G' c := by
  obtain ⟨h1, h2, h3, h4, h5⟩ := h
  exact ⟨(s c (by omega) (by omega)).1.trans h1, (congrFun (s c (by omega) (by omega)).2 _).trans h2, (congrFun (s c (by omega) (by omega)).2 _).trans h3, (s (c + 1) (by omega) (by omega)).1.trans h4, (s (c + 2) (by omega) (by omega)).1.trans h5⟩
theorem isH.mv {G G' : w_Sh} {c : Nat} (h : isH G c) (s : sam G G' c (c + 4)) : isH G' c := by
  obtain ⟨h1, h2, h3, h4, h5, h6, h7⟩ := h
  exact ⟨(s c (by omega) (by omega)).1.trans h1, (congrFun (s c (by omega) (by omega)).2 _).trans h2, (congrFun (s c (by omega) (by omega)).2 _).trans h3, (congrFun (s c (by omega) (by omega)).2 _).trans h4, (s (c + 1) (by omega) (by omega)).1.trans h5, (s (c + 2) (by omega) (by omega)).1.trans h6, (s (c + 3) (by omega) (by omega)).1.trans h7⟩
theorem isW.mv {G G' : w_Sh} {w : Nat} (h : isW G w) (s : sam G G' w (w + 123)) : isW G' w := by
  obtain ⟨h1, h2, h3, h4, h5, h6⟩ := h
  exact ⟨(s w (by omega) (by omega)).1.trans h1, (congrFun (s w (by omega) (by omega)).2 _).trans h2, (congrFun (s w (by omega) (by omega)).2 _).trans h3, (s (w + 1) (by omega) (by omega)).1.trans h4, (s (w + 2) (by omega) (by omega)).1.trans h5, fun i hi => ⟨(congrFun (s (w + 1) (by omega) (by omega)).2 _).trans (h6 i hi).1, (h6 i hi).2.mv (fun b h1 h2 => s b (by omega) (by omega))⟩⟩
theorem isM.mv {G G' : w_Sh} {m : Nat} (h : isM G m) (s : sam G G' m (m + 132)) : isM G' m := by
  obtain ⟨h1, a1, a2, a3, a4, a5, a6, a7, a8, a9, b1, b2, b3, b4, b5, b6, b7, b8, hW⟩ := h
  have e := (s m (by omega) (by omega)).2
  exact ⟨(s m (by omega) (by omega)).1.trans h1, (congrFun e _).trans a1, (congrFun e _).trans a2, (congrFun e _).trans a3, (congrFun e _).trans a4, (congrFun e _).trans a5, (congrFun e _).trans a6, (congrFun e _).trans a7, (congrFun e _).trans a8, (congrFun e _).trans a9, (s _ (by omega) (by omega)).1.trans b1, (s _ (by omega) (by omega)).1.trans b2, (s _ (by omega) (by omega)).1.trans b3, (s _ (by omega) (by omega)).1.trans b4, (s _ (by omega) (by omega)).1.trans b5, (s _ (by omega) (by omega)).1.trans b6, (s _ (by omega) (by omega)).1.trans b7, (s _ (by omega) (by omega)).1.trans b8, hW.mv (fun b h1 h2 => s b (by omega) (by omega))⟩
def cls0 : cS := (2, fun j => if j = 0 then 1 else 3, fun _ => 0)
def fr0 : fS := (-1, fun _ => 0, fun _ => 0)
def mt0 (r : Int) : mS := ((r, 0, fun _ => 0), (0, fun _ => 0, fun _ => 0, fun _ => 0), (0, fun _ => 0, fun _ => 0, fun _ => 0, fun _ => 0))
def wk0 : kS := (fun _ => fr0, fun _ => 0, 0, 0)
theorem tX0_init {E : w_E} {G : w_Sh} {I : w_Mm} {c : Nat} (hB : isB G I c 0 []) : w_Ct E mX0_init 1 [.ref c] G I 2 32 (w_Pv (fun G' J => isC G' c ∧ G'.2.2 = c + 3 ∧ ext G G' I J c ∧ clsOK J c cls0)) := by
  refine w_Ct.of (ls := [some (.ref c)]) (by decide +kernel) (Nat.le_of_ble_eq_true rfl) rfl rfl (fun rng => ?_)
  refine v_aload_n dX0_init_0 rfl ?_
  refine v_obj kX0_3 wobj2 wobj3 (by decide) (by decide) dX0_init_1 ?_
  refine v_aload_n dX0_init_4 rfl ?_
  refine v_bipush dX0_init_5 (by decide) ?_
  refine v_rowI (L := []) hB (by decide) rfl (by decide) fX0_9 p0_0 rfl rfl (by rintro q ⟨⟩; rfl) (by decide) (by decide) dX0_init_7 dX0_init_9 rng (fun G1 J1 hB1 ⟨x1, y1⟩ rng1 => ?_)
  refine v_aload_n dX0_init_12 rfl ?_
  refine v_bipush dX0_init_13 (by decide) ?_
  refine v_rowZ (L := [(0, 10, 16)]) hB1 (by decide) rfl (by decide) fX0_15 p0_1 rfl rfl (by rintro q ⟨⟩; rfl) (by decide) (by decide) dX0_init_15 dX0_init_17 rng1 (fun G2 J2 hB2 ⟨x2, y2⟩ rng2 => ?_)
  have hx := (x1.tr x2)
  have hya := (y2.trans y1)
  have hC : isC G2 c := ⟨hB2.1, (hB2.2.2.1 0 _ rfl).2, (hB2.2.2.1 1 _ rfl).2, (hB2.2.2.1 0 _ rfl).1, (hB2.2.2.1 1 _ rfl).1⟩
  have hz := hB2.2.2.2
  refine v_aload_n dX0_init_20 rfl ?_
  refine v_getR fX0_9 rfl hC.1 hC.2.1 dX0_init_21 ?_
  refine v_iconst dX0_init_24 ?_
  refine v_iconst dX0_init_25 ?_
  refine v_iast (i := 0) hC.2.2.2.1 rfl (by omega) (by omega) ⟨by decide, by decide⟩ dX0_init_26 ?_
  have rng1 := w_rng (a := c + 1) (f := 0) rng2 (show inR (1) from ⟨by decide, by decide⟩)
  refine v_aload_n dX0_init_27 rfl ?_
  refine v_getR fX0_9 rfl hC.1 hC.2.1 dX0_init_28 ?_
  refine v_iconst dX0_init_31 ?_
  refine v_iconst dX0_init_32 ?_
  refine v_iast (i := 1) hC.2.2.2.1 rfl (by omega) (by omega) ⟨by decide, by decide⟩ dX0_init_33 ?_
  have rng2 := w_rng (a := c + 1) (f := 1) rng1 (show inR (3) from ⟨by decide, by decide⟩)
  refine v_aload_n dX0_init_34 rfl ?_
  refine v_iconst dX0_init_35 ?_
  refine v_putI fX0_19 p0_2 rfl ⟨by decide, by decide⟩ hC.1 dX0_init_36 ?_
  have rng3 := w_rng (a := c) (f := 2) rng2 (show inR (2) from ⟨by decide, by decide⟩)
  refine v_vret rfl (by decide) (by decide) dX0_init_39 ⟨hC, hB2.2.1, fun b hb => ⟨(hx b hb).1, (hx b hb).2.1, ?_⟩, ?_⟩
  · rw [w_up_o (by omega), w_up_o (by omega), w_up_o (by omega)]; exact (hx b hb).2.2
  · refine ⟨w_up_s, by decide, by decide, fun j hj => ?_, fun j hj => ?_⟩
    · have hj2 : j = 0 ∨ j = 1 := by have : j < 2 := hj; omega
      rcases hj2 with rfl | rfl
      · exact ⟨by rw [w_up_n (by omega), w_up_n (by omega), w_up_s]; rfl, by decide⟩
      · exact ⟨by rw [w_up_n (by omega), w_up_s]; rfl, by decide⟩
    · exact ⟨by rw [w_up_n (by omega), w_up_n (by omega), w_up_n (by omega)]; exact hz _ _ (by omega) (by show c + 2 < c + 1 + 2; omega), Or.inl rfl⟩
theorem tX1_init {E : w_E} {G : w_Sh} {I : w_Mm} {h : Nat} (hB : isB G I h 1 []) : w_Ct E mX1_init 1 [.ref h] G I 3 56 (w_Pv (fun G' J => isH G' h ∧ G'.2.2 = h + 4 ∧ ext G G' I J h)) := by
  refine w_Ct.of (ls := [some (.ref h)]) (by decide +kernel) (Nat.le_of_ble_eq_true rfl) rfl rfl (fun rng => ?_)
  refine v_aload_n dX1_init_0 rfl ?_
  refine v_obj kX1_3 wobj2 wobj3 (by decide) (by decide) dX1_init_1 ?_
  refine v_aload_n dX1_init_4 rfl ?_
  refine v_bipush dX1_init_5 (by decide) ?_
  refine v_rowZ (L := []) hB (by decide) rfl (by decide) fX1_9 p1_0 rfl rfl (by rintro q ⟨⟩; rfl) (by decide) (by decide) dX1_init_7 dX1_init_9 rng (fun G1 J1 hB1 ⟨x1, y1⟩ rng1 => ?_)
  refine v_aload_n dX1_init_12 rfl ?_
  refine v_bipush dX1_init_13 (by decide) ?_
  refine v_rowI (L := [(0, 11, 40)]) hB1 (by decide) rfl (by decide) fX1_15 p1_1 rfl rfl (by rintro q ⟨⟩; rfl) (by decide) (by decide) dX1_init_15 dX1_init_17 rng1 (fun G2 J2 hB2 ⟨x2, y2⟩ rng2 => ?_)
  refine v_aload_n dX1_init_20 rfl ?_
  refine v_bipush dX1_init_21 (by decide) ?_
  refine v_rowI (L := [(0, 11, 40), (1, 10, 8)]) hB2 (by decide) rfl (by decide) fX1_19 p1_2 rfl rfl (by rintro q ⟨⟩; rfl) (by decide) (by decide) dX1_init_23 dX1_init_25 rng2 (fun G3 J3 hB3 ⟨x3, y3⟩ rng3 => ?_)
  have hx := ((x1.tr x2).tr x3)
  have hya := (y3.trans (y2.trans y1))
  exact v_vret rfl (by decide) (by decide) dX1_init_28 ⟨⟨hB3.1, (hB3.2.2.1 0 _ rfl).2, (hB3.2.2.1 1 _ rfl).2, (hB3.2.2.1 2 _ rfl).2, (hB3.2.2.1 0 _ rfl).1, (hB3.2.2.1 1 _ rfl).1, (hB3.2.2.1 2 _ rfl).1⟩, hB3.2.1, hx⟩
theorem tX2_init {E : w_E} {G : w_Sh} {I : w_Mm} {f : Nat} (hB : isB G I f 2 []) : w_Ct E mX2_init 1 [.ref f] G I 2 16 (w_Pv (fun G' J => isF G' f ∧ G'.2.2 = f + 3 ∧ ext G G' I J f ∧ frOK J f fr0)) := by
  refine w_Ct.of (ls := [some (.ref f)]) (by decide +kernel) (Nat.le_of_ble_eq_true rfl) rfl rfl (fun rng => ?_)
  refine v_aload_n dX2_init_0 rfl ?_
  refine v_obj kX2_3 wobj2 wobj3 (by decide) (by decide) dX2_init_1 ?_
  refine v_aload_n dX2_init_4 rfl ?_
  refine v_bipush dX2_init_5 (by decide) ?_
  refine v_rowI (L := []) hB (by decide) rfl (by decide) fX2_9 p2_0 rfl rfl (by rintro q ⟨⟩; rfl) (by decide) (by decide) dX2_init_7 dX2_init_9 rng (fun G1 J1 hB1 ⟨x1, y1⟩ rng1 => ?_)
  refine v_aload_n dX2_init_12 rfl ?_
  refine v_bipush dX2_init_13 (by decide) ?_
  refine v_rowI (L := [(0, 10, 8)]) hB1 (by decide) rfl (by decide) fX2_15 p2_1 rfl rfl (by rintro q ⟨⟩; rfl) (by decide) (by decide) dX2_init_15 dX2_init_17 rng1 (fun G2 J2 hB2 ⟨x2, y2⟩ rng2 => ?_)
  have hx := (x1.tr x2)
  have hya := (y2.trans y1)
  have hF : isF G2 f := ⟨hB2.1, (hB2.2.2.1 0 _ rfl).2, (hB2.2.2.1 1 _ rfl).2, (hB2.2.2.1 0 _ rfl).1, (hB2.2.2.1 1 _ rfl).1⟩
  have hz : ∀ b j, f ≤ b → b < f + 3 → J2 b j = 0 := hB2.2.2.2
  refine v_aload_n dX2_init_20 rfl ?_
  refine v_iconst dX2_init_21 ?_
  refine v_putI fX2_18 p2_2 rfl ⟨by decide, by decide⟩ hF.1 dX2_init_22 ?_
  have rng1 := w_rng (a := f) (f := 2) rng2 (show inR (-1) from ⟨by decide, by decide⟩)
  exact v_vret rfl (by decide) (by decide) dX2_init_25 ⟨hF, hB2.2.1, fun b hb => ⟨(hx b hb).1, (hx b hb).2.1, (w_up_o (by omega)).trans (hx b hb).2.2⟩, w_up_s, fun k hk => by rw [w_up_n (by omega)]; exact hz _ _ (by omega) (by omega), fun k hk => by rw [w_up_n (by omega)]; exact hz _ _ (by omega) (by omega), by decide, by decide⟩
