/-! ===== what the tables say of each kind of object ===== -/
theorem lay_0 : ∀ w ∈ wsX00, w ∈ w_good := by decide +kernel
theorem lay_1 : ∀ w ∈ wsX10, w ∈ w_good := by decide +kernel
theorem lay_2 : ∀ w ∈ wsX20, w ∈ w_good := by decide +kernel
theorem lay_3 : ∀ w ∈ wsX30, w ∈ w_good := by decide +kernel
theorem lay_4 : ∀ w ∈ wsX40, w ∈ w_good := by decide +kernel
theorem lay_5 : ∀ w ∈ wsX50, w ∈ w_good := by decide +kernel
theorem lay_6 : ∀ w ∈ wsX60, w ∈ w_good := by decide +kernel
theorem lay_7 : ∀ w ∈ wsX70, w ∈ w_good := by decide +kernel
theorem lay_8 : ∀ w ∈ wsX80, w ∈ w_good := by decide +kernel
theorem lay_9 : ∀ w ∈ wsX90, w ∈ w_good := by decide +kernel
def w_bornOK (ci N : Nat) (ty : Nat → FieldType) : Bool := (List.range N).all fun j => decide (defaultValue (ty j) = w_fv ci (fun _ => none) (fun _ => 0) j)
theorem w_born_of {ci N : Nat} {ty : Nat → FieldType} (h : w_bornOK ci N ty = true) : ∀ j, j < N → defaultValue (ty j) = w_fv ci (fun _ => none) (fun _ => 0) j := fun j hj => by
  have := List.all_eq_true.mp h j (List.mem_range.mpr hj)
  simpa using this
def w_layP (ci : Nat) (q : vw_C) : Prop := (∀ w ∈ u_ws q.1 q.2.1 q.2.2, w ∈ w_good) ∧ ∃ ty : Nat → FieldType, (∀ k, k < q.2.2 → parseFieldDescriptor (q.2.1 k).2.2.1 = some (ty k)) ∧ (∀ a, a < q.2.2 → ∀ b, b < q.2.2 → a ≠ b → (q.2.1 a).2.1 ≠ (q.2.1 b).2.1) ∧ ∀ j, j < q.2.2 → defaultValue (ty j) = w_fv ci (fun _ => none) (fun _ => 0) j
theorem w_lay {ci : Nat} {q : vw_C} (h : w_cl[ci]? = some q) : w_layP ci q := by
  match ci, h with
  | 0, h => cases h; exact ⟨lay_0, tyX0, tyX0_ok, nmX0, w_born_of (by decide +kernel)⟩
  | 1, h => cases h; exact ⟨lay_1, tyX1, tyX1_ok, nmX1, w_born_of (by decide +kernel)⟩
  | 2, h => cases h; exact ⟨lay_2, tyX2, tyX2_ok, nmX2, w_born_of (by decide +kernel)⟩
  | 3, h => cases h; exact ⟨lay_3, tyX3, tyX3_ok, nmX3, w_born_of (by decide +kernel)⟩
  | 4, h => cases h; exact ⟨lay_4, tyX4, tyX4_ok, nmX4, w_born_of (by decide +kernel)⟩
  | 5, h => cases h; exact ⟨lay_5, tyX5, tyX5_ok, nmX5, w_born_of (by decide +kernel)⟩
  | 6, h => cases h; exact ⟨lay_6, tyX6, tyX6_ok, nmX6, w_born_of (by decide +kernel)⟩
  | 7, h => cases h; exact ⟨lay_7, tyX7, tyX7_ok, nmX7, w_born_of (by decide +kernel)⟩
  | 8, h => cases h; exact ⟨lay_8, tyX8, tyX8_ok, nmX8, w_born_of (by decide +kernel)⟩
  | 9, h => cases h; exact ⟨lay_9, tyX9, tyX9_ok, nmX9, w_born_of (by decide +kernel)⟩
  | n + 10, h => simp [w_cl] at h
theorem w_ci {ci : Nat} {q : vw_C} (h : w_cl[ci]? = some q) : ci < 10 := (List.getElem?_eq_some_iff.mp h).1
theorem w_gd {w : Jvm.Cond} (i : Nat) (h : tables_1[i]? = some w) (g : goodWord w = true) : w ∈ w_good :=
  List.mem_filter.mpr ⟨List.mem_append_right _ (List.mem_of_getElem? h), g⟩
theorem w_gs {w : Jvm.Cond} (i : Nat) (h : (k2_sels lw_privs)[i]? = some w) (g : goodWord w = true) : w ∈ w_good :=
  List.mem_filter.mpr ⟨List.mem_append_left _ (List.mem_of_getElem? h), g⟩
theorem w_gn {w : Jvm.Cond} (i : Nat) (h : tables_1[i]? = some w) (g : w_nest w = true) : w ∈ w_nw :=
  List.mem_filter.mpr ⟨List.mem_append_right _ (List.mem_of_getElem? h), g⟩
/-! ===== fields ===== -/
/-- entry idx of the pool of C is field k of the objects of number ci -/
def w_fl (C : String) (idx ci k : Nat) : Prop := ∃ q, w_cl[ci]? = some q ∧ k < q.2.2 ∧ (Jvm.Cond.fieldLink C idx (q.2.1 k).1 (q.2.1 k).2.1 (q.2.1 k).2.2.1 ∈ w_good ∨ ∃ host, Jvm.Cond.fieldLinkNest C idx (q.2.1 k).1 (q.2.1 k).2.1 (q.2.1 k).2.2.1 host ∈ w_nw)
/-- .. and may be written there: its type; final: in the constructor of its own class alone -/
def w_fw (ci k : Nat) (fin : Bool) (ty : FieldType) : Prop := ∃ q, w_cl[ci]? = some q ∧ k < q.2.2 ∧ (q.2.1 k).2.2.2 = fin ∧ parseFieldDescriptor (q.2.1 k).2.2.1 = some ty ∧ (q.2.1 k).1 = q.1
section Heap
variable {E : w_E} {M : w_M} {R : Room} {Z : List Frame → Array Value → State → State → Prop} {G G' : w_Sh} {I I' : w_Mm} {k n pc pc' tgt : Nat} {off : Int} {ls ls' : List (Option Value)} {st : List Value}
theorem w_obj {ci a : Nat} {q : vw_C} {H : Heap} (hR : w_Rel E G I H) (hc : w_cl[ci]? = some q) (hT : G.1 a = (ci, 0)) : t_OB a (E.2.1.1 ci) q.2.2 (E.2.1.2 ci) H (w_fv ci (G.2.1 a) (I a)) := by
  have hci := w_ci hc
  have hat := hR.2.2.1 a (by rw [hT]; show ci < 14; omega)
  rw [hT] at hat
  unfold w_at at hat
  rw [if_pos (show ((ci, 0) : Nat × Nat).1 < 10 from hci)] at hat
  obtain ⟨q', hc', hob⟩ := hat
  cases hc.symm.trans hc'
  exact hob
theorem v_getV {idx ci f a : Nat} (hf : w_fl M.1.cls idx ci f) (hT : G.1 a = (ci, 0)) (hd : Dc M pc (.getfield idx) 3 pc') (kk : w_V E M R Z G I k n pc' ls (w_fv ci (G.2.1 a) (I a) f :: st)) : w_V E M R Z G I k n pc ls (.ref a :: st) := by
  obtain ⟨hd, rfl⟩ := hd
  intro p e s m args below meth c H locs lz F hR hL hl
  obtain ⟨⟨C, T, N⟩, hc, hk, hlink⟩ := hf
  have hob := w_obj hR hc hT
  obtain ⟨hlay, -⟩ := w_lay hc
  have hP : va_P E.2.1 w_cl [(a, .inr (ci, (List.range N).map (w_fv ci (G.2.1 a) (I a))))] H := by
    intro j x hx
    cases j with
    | zero =>
      cases hx
      exact ⟨(C, T, N), hc, hob.to (fun j hj => by simp [vp_V, List.getD_eq_getElem?_getD, hj])⟩
    | succ j => simp at hx
  have hv : ((List.range N).map (w_fv ci (G.2.1 a) (I a)))[f]? = some (w_fv ci (G.2.1 a) (I a) f) := by
    have hk' : f < N := hk
    simp [hk']
  rcases hlink with h | ⟨host, h⟩
  · exact va_get (D := E.2.1) (cl := w_cl) (tys := w_tys E.2.2.1) (T := T) (C := C) (N := N) F.1.1 F.1.2.1 F.1.2.2.2.2 (fun w hw => List.mem_cons_of_mem _ (hlay w hw)) F.1.2.2.2.1 F.2.2.2.1.1 hP 0 rfl hc f hk (F.1.2.2.2.2 _ (List.mem_cons_of_mem _ h)) (fun _ h9 => h9) hv hd (kk p e s m args below meth c H locs lz F hR hL hl)
  · exact va_getN (D := E.2.1) (cl := w_cl) (tys := w_tys E.2.2.1) (T := T) (C := C) (N := N) (host := host) F.1.1 F.1.2.1 F.1.2.2.2.2 (fun w hw => List.mem_cons_of_mem _ (hlay w hw)) F.1.2.2.2.1 F.2.2.2.1.1 hP 0 rfl hc f hk (va_Nw.use rfl (F.2.2.2.1.2.1 _ h)) (fun _ h9 => h9) hv hd (kk p e s m args below meth c H locs lz F hR hL hl)
theorem v_getI {idx ci f a : Nat} (hf : w_fl M.1.cls idx ci f) (hr : w_ref ci f = false) (hT : G.1 a = (ci, 0)) (hd : Dc M pc (.getfield idx) 3 pc') (kk : w_V E M R Z G I k n pc' ls (iv (I a f) :: st)) : w_V E M R Z G I k n pc ls (.ref a :: st) := by
  refine v_getV hf hT hd ?_
  rw [show w_fv ci (G.2.1 a) (I a) f = iv (I a f) by simp [w_fv, hr]]
  exact kk
theorem v_getR {idx ci f a b : Nat} (hf : w_fl M.1.cls idx ci f) (hr : w_ref ci f = true) (hT : G.1 a = (ci, 0)) (hb : G.2.1 a f = some b) (hd : Dc M pc (.getfield idx) 3 pc') (kk : w_V E M R Z G I k n pc' ls (.ref b :: st)) : w_V E M R Z G I k n pc ls (.ref a :: st) := by
  refine v_getV hf hT hd ?_
  rw [show w_fv ci (G.2.1 a) (I a) f = .ref b by simp [w_fv, hr, hb, va_rf]]
  exact kk
theorem v_putV {idx ci f a : Nat} {fin : Bool} {ty : FieldType} {v : Value} (hf : w_fl M.1.cls idx ci f) (hw : w_fw ci f fin ty) (hfin : fin = true → M.1.name = "<init>" ∧ ∀ q, w_cl[ci]? = some q → q.1 = M.1.cls) (hT : G.1 a = (ci, 0)) (hnw : narrow ty v = v) (hft : fits ty v = true)
    (hG : G'.1 = G.1) (ht : G'.2.2 = G.2.2) (hGo : ∀ b, b ≠ a → G'.2.1 b = G.2.1 b) (hIo : ∀ b, b ≠ a → I' b = I b) (hin : ∀ H, w_Rel E G I H → ∀ j, inR (I' a j)) (hval : ∀ j, updV (w_fv ci (G.2.1 a) (I a)) f v j = w_fv ci (G'.2.1 a) (I' a) j)
    (hd : Dc M pc (.putfield idx) 3 pc') (kk : w_V E M R Z G' I' k n pc' ls st) : w_V E M R Z G I k n pc ls (v :: .ref a :: st) := by
  obtain ⟨hd, rfl⟩ := hd
  intro p e s m args below meth c H locs lz F hR hL hl
  obtain ⟨⟨C, T, N⟩, hc, hk, hlink⟩ := hf
  obtain ⟨q', hc', -, hfi, hpd, hdc⟩ := hw
  cases hc.symm.trans hc'
  obtain ⟨cell, q1, q2, q3, q4⟩ := w_obj hR hc hT
  obtain ⟨hlay, ty0, hty, hnm, -⟩ := w_lay hc
  have hin2 : ∀ w ∈ u_ws C T N, w ∈ w_ws M := fun w hw => List.mem_cons_of_mem _ (hlay w hw)
  have hts := F.1.2.2.2.2
  have hown := F.1.2.2.2.1
  have hK := F.2.2.2.1.1
  have hap := va_apart (own := M.1.cls) hts hin2 ty0 hty hnm hK hc
  obtain ⟨hS, hfc, kC, hkC, hkind⟩ := hK.1 ci _ hc
  obtain ⟨cf, kf, fi, fd, hi, hsl⟩ := hS f hk
  have hlayw := hts _ (hin2 _ (u_in_lay hk))
  have hst := (u_facts hfc hkC (u_lays hts hin2 hk) hi).1
  have hTa : (G.1 a).1 < 14 := by rw [hT]; show ci < 14; have := w_ci hc; omega
  have fin2 : ∀ H' : Heap, H'[a]? = some (cell.setSlot fd.slot v) → H'.size = H.size → (∀ q, q ≠ a → H'[q]? = H[q]?) → W p E.1 e R s m args below meth c H' (locs ++ [⟨a, fd.slot⟩]) k n (Z below args s) (F0 m (pc + 3) lz st) := by
    intro H' e1 e2 e3
    rw [hsl] at e1
    refine kk p e s m args below meth c H' _ lz F (hR.set hTa hG ht hGo hIo (hin H hR) e2 e3 ?_) (fun q hq => ?_) hl
    · rw [hT]
      unfold w_at
      rw [if_pos (show ((ci, 0) : Nat × Nat).1 < 10 from w_ci hc)]
      exact ⟨_, hc, t_OB.to (V := updV (w_fv ci (G.2.1 a) (I a)) f v) ⟨_, e1, q2, q3, t_set q4 hap hk v⟩ (fun j _ => hval j)⟩
    · rcases List.mem_append.mp hq with h | h
      · exact hL q h
      · rw [List.mem_singleton.mp h]; exact hR.2.2.2.2.1 a hTa
  cases fin with
  | false =>
    unfold u_lay at hlayw
    rw [if_neg (by rw [hfi]; decide)] at hlayw
    have h6 := u_store hfc hkC hkind hlayw hi hpd hnw hft
    rcases hlink with h | ⟨host, h⟩
    · exact W.putK F.1.1 F.1.2.1 (f := fd) ⟨hown, hts _ (List.mem_cons_of_mem _ h), ⟨_, _, _, hi⟩, hst⟩ (by rw [q2]; exact h6) q1 q3 (by rw [hsl]; exact k2_hasslot (q4 f hk)) rfl rfl hd fin2
    · exact va_WputK F.1.1 F.1.2.1 (f := fd) hown (va_Nw.use rfl (F.2.2.2.1.2.1 _ h)) hi hst (by rw [q2]; exact h6) q1 q3 (by rw [hsl]; exact k2_hasslot (q4 f hk)) rfl rfl hd fin2
  | true =>
    obtain ⟨hinit, hcl⟩ := hfin rfl
    have hcl := hcl _ hc
    unfold u_lay at hlayw
    rw [if_pos hfi] at hlayw
    have hcf : m.cls = cf := by
      obtain ⟨_, _, c', _, _, _, -, -, hf', -, -, -, hown2, -⟩ := Cond.laysFinal_spec hlayw
      have e1 : c' = cf := by have := hi.symm.trans hf'; simp at this; exact this.1.symm
      rw [hdc, hcl] at hown2
      rw [← e1]; exact Option.some.inj (hown.symm.trans hown2)
    have h6 := u_fits hfc hkC hkind (Or.inr hlayw) hi hpd hnw hft
    have hin3 : meth.name = "<init>" := by rw [F.2.2.2.2]; exact hinit
    rcases hlink with h | ⟨host, h⟩
    · exact W.putFinK F.1.1 F.1.2.1 hown (hts _ (List.mem_cons_of_mem _ h)) hi hst hcf hin3 (by rw [q2]; exact h6) q1 q3 (by rw [hsl]; exact k2_hasslot (q4 f hk)) rfl rfl hd fin2
    · have ha : a < H.size := (Array.getElem?_eq_some_iff.mp q1).1
      refine va_Wputf F.1.1 F.1.2.1 hown (va_Nw.use rfl (F.2.2.2.1.2.1 _ h)) hi hst (Or.inr ⟨hcf, hin3⟩) q1 (by rw [q3]; exact fun h => by cases h) (by rw [hsl]; exact k2_hasslot (q4 f hk)) h6.1 (by rw [q2, q3]; exact h6.2) rfl rfl hd ?_
      refine fin2 _ ?_ ?_ ?_
      · simp [Array.getElem?_setIfInBounds, ha]
      · simp
      · intro q hq
        simp [Array.getElem?_setIfInBounds, Ne.symm hq]
theorem w_fv_upI {ci f a : Nat} {z : Int} (hr : w_ref ci f = false) (j : Nat) : updV (w_fv ci (G.2.1 a) (I a)) f (iv z) j = w_fv ci (G.2.1 a) (w_up I a f z a) j := by
  by_cases e : j = f
  · subst e
    simp [updV, w_fv, hr, w_up]
  · simp [updV, w_fv, w_up, e]
theorem w_fv_upR {ci f a b : Nat} (hr : w_ref ci f = true) (j : Nat) : updV (w_fv ci (G.2.1 a) (I a)) f (.ref b) j = w_fv ci (w_upR G.2.1 a f (some b) a) (I a) j := by
  by_cases e : j = f
  · subst e
    simp [updV, w_fv, hr, w_upR, va_rf]
  · simp [updV, w_fv, w_upR, e]
theorem w_up_in {a f : Nat} {z : Int} {H : Heap} (hz : inR z) (hR : w_Rel E G I H) (j : Nat) : inR (w_up I a f z a j) := by
  by_cases e : j = f
  · simp [w_up, e, hz]
  · simp [w_up, e, hR.2.2.2.1 a j]
theorem v_putI {idx ci f a : Nat} {z : Int} (hf : w_fl M.1.cls idx ci f) (hw : w_fw ci f false .int) (hr : w_ref ci f = false) (hz : inR z) (hT : G.1 a = (ci, 0)) (hd : Dc M pc (.putfield idx) 3 pc') (kk : w_V E M R Z G (w_up I a f z) k n pc' ls st) : w_V E M R Z G I k n pc ls (iv z :: .ref a :: st) :=
  v_putV hf hw (fun h => by cases h) hT rfl rfl rfl rfl (fun _ _ => rfl) (fun _ h => w_up_o h) (fun _ h => w_up_in hz h) (w_fv_upI hr) hd kk
theorem v_putIF {idx ci f a : Nat} {z : Int} (hf : w_fl M.1.cls idx ci f) (hw : w_fw ci f true .int) (hr : w_ref ci f = false) (hi : M.1.name = "<init>") (hc : ∀ q, w_cl[ci]? = some q → q.1 = M.1.cls) (hz : inR z) (hT : G.1 a = (ci, 0)) (hd : Dc M pc (.putfield idx) 3 pc') (kk : w_V E M R Z G (w_up I a f z) k n pc' ls st) : w_V E M R Z G I k n pc ls (iv z :: .ref a :: st) :=
  v_putV hf hw (fun _ => ⟨hi, hc⟩) hT rfl rfl rfl rfl (fun _ _ => rfl) (fun _ h => w_up_o h) (fun _ h => w_up_in hz h) (w_fv_upI hr) hd kk
theorem w_nar {z : Int} (hz : z = 0 ∨ z = 1) : narrow .boolean (iv z) = iv z ∧ fits .boolean (iv z) = true := by
  rcases hz with rfl | rfl
  · exact ⟨by decide, by decide⟩
  · exact ⟨by decide, by decide⟩
theorem v_putZ {idx ci f a : Nat} {z : Int} (hf : w_fl M.1.cls idx ci f) (hw : w_fw ci f false .boolean) (hr : w_ref ci f = false) (hz : z = 0 ∨ z = 1) (hT : G.1 a = (ci, 0)) (hd : Dc M pc (.putfield idx) 3 pc') (kk : w_V E M R Z G (w_up I a f z) k n pc' ls st) : w_V E M R Z G I k n pc ls (iv z :: .ref a :: st) :=
  v_putV hf hw (fun h => by cases h) hT (w_nar hz).1 (w_nar hz).2 rfl rfl (fun _ _ => rfl) (fun _ h => w_up_o h) (fun _ h => w_up_in ⟨by omega, by omega⟩ h) (w_fv_upI hr) hd kk
theorem v_putR {idx ci f a b : Nat} {ty : FieldType} (hf : w_fl M.1.cls idx ci f) (hw : w_fw ci f true ty) (hr : w_ref ci f = true) (hi : M.1.name = "<init>") (hc : ∀ q, w_cl[ci]? = some q → q.1 = M.1.cls) (hty : narrow ty (.ref b) = .ref b ∧ fits ty (.ref b) = true) (hT : G.1 a = (ci, 0)) (hd : Dc M pc (.putfield idx) 3 pc') (kk : w_V E M R Z (G.1, w_upR G.2.1 a f (some b), G.2.2) I k n pc' ls st) : w_V E M R Z G I k n pc ls (.ref b :: .ref a :: st) :=
  v_putV (G' := (G.1, w_upR G.2.1 a f (some b), G.2.2)) (I' := I) hf hw (fun _ => ⟨hi, hc⟩) hT hty.1 hty.2 rfl rfl (fun _ h => w_upR_o h) (fun _ _ => rfl) (fun _ h j => h.2.2.2.1 a j) (w_fv_upR hr) hd kk
/-! ===== rows ===== -/
theorem w_row {a t len : Nat} {H : Heap} (hR : w_Rel E G I H) (ht : 10 ≤ t ∧ t < 12) (hT : G.1 a = (t, len)) : H[a]? = some (arrV (E.2.2.1 (t - 10)) len (fun j => iv (I a j))) := by
  have hat := hR.2.2.1 a (by rw [hT]; show t < 14; omega)
  rw [hT] at hat
  unfold w_at at hat
  rw [if_neg (show ¬ ((t, len) : Nat × Nat).1 < 10 from by show ¬ t < 10; omega), if_pos (show ((t, len) : Nat × Nat).1 < 12 from ht.2)] at hat
  exact hat
theorem w_rowR {a t len : Nat} {H : Heap} (hR : w_Rel E G I H) (ht : 12 ≤ t ∧ t < 14) (hT : G.1 a = (t, len)) : H[a]? = some (arrV (E.2.2.1 (t - 10)) len (fun j => va_rf (G.2.1 a j))) := by
  have hat := hR.2.2.1 a (by rw [hT]; show t < 14; omega)
  rw [hT] at hat
  unfold w_at at hat
  rw [if_neg (show ¬ ((t, len) : Nat × Nat).1 < 10 from by show ¬ t < 10; omega), if_neg (show ¬ ((t, len) : Nat × Nat).1 < 12 from by show ¬ t < 12; omega)] at hat
  exact hat
theorem w_ix {x : Int} {i len : Nat} (hx : x = (i : Int)) (hi : i < len) (hl : len < 2147483648) : ¬ (Int32.ofInt x < 0 ∨ len ≤ (Int32.ofInt x).toNatClampNeg) ∧ (Int32.ofInt x).toNatClampNeg = i := by
  subst hx
  have h1 : (Int32.ofInt (i : Int)).toNatClampNeg = i := iv_clamp (by omega)
  refine ⟨fun h => ?_, h1⟩
  rcases h with h | h
  · exact iv_nneg (inR_nat (by omega)) (by omega) h
  · rw [h1] at h; omega
theorem v_iald {a len i : Nat} {x : Int} (hT : G.1 a = (10, len)) (hx : x = (i : Int)) (hi : i < len) (hlen : len < 2147483648) (hd : Dc M pc .iaload 1 pc') (kk : w_V E M R Z G I k n pc' ls (iv (I a i) :: st)) : w_V E M R Z G I k n pc ls (iv x :: .ref a :: st) := by
  obtain ⟨hd, rfl⟩ := hd
  intro p e s m args below meth c H locs lz F hR hL hl
  obtain ⟨h1, h2⟩ := w_ix hx hi hlen
  exact W.iald (v := iv (I a i)) F.1.1 F.1.2.1 (w_row hR ⟨by omega, by omega⟩ hT) ((F.2.2.2.1.1.2 0 _ rfl).1 len (fun j => iv (I a j))) (fun q => by cases q) (by rw [arrV_size]; exact h1) (by rw [h2, arrV_read _ _ hi]) rfl rfl hd (kk p e s m args below meth c H locs lz F hR hL hl)
theorem v_zald {a len i : Nat} {x : Int} (hT : G.1 a = (11, len)) (hx : x = (i : Int)) (hi : i < len) (hlen : len < 2147483648) (hd : Dc M pc .baload 1 pc') (kk : w_V E M R Z G I k n pc' ls (iv (I a i) :: st)) : w_V E M R Z G I k n pc ls (iv x :: .ref a :: st) := by
  obtain ⟨hd, rfl⟩ := hd
  intro p e s m args below meth c H locs lz F hR hL hl
  obtain ⟨h1, h2⟩ := w_ix hx hi hlen
  exact W.zald (v := iv (I a i)) F.1.1 F.1.2.1 (w_row hR ⟨by omega, by omega⟩ hT) ((F.2.2.2.1.1.2 1 _ rfl).1 len (fun j => iv (I a j))) (fun q => by cases q) (by rw [arrV_size]; exact h1) (by rw [h2, arrV_read _ _ hi]) rfl rfl hd (kk p e s m args below meth c H locs lz F hR hL hl)
theorem w_row_set {a t len i : Nat} {z : Int} {H H' : Heap} (hR : w_Rel E G I H) (ht : 10 ≤ t ∧ t < 12) (hT : G.1 a = (t, len)) (hz : inR z) (e1 : H'[a]? = some ((arrV (E.2.2.1 (t - 10)) len (fun j => iv (I a j))).setSlot i (iv z))) (e2 : H'.size = H.size) (e3 : ∀ q, q ≠ a → H'[q]? = H[q]?) : w_Rel E G (w_up I a i z) H' := by
  refine hR.set (a := a) (by rw [hT]; show t < 14; omega) rfl rfl (fun _ _ => rfl) (fun _ h => w_up_o h) (fun j => w_up_in hz hR j) e2 e3 ?_
  rw [hT]
  unfold w_at
  rw [if_neg (show ¬ ((t, len) : Nat × Nat).1 < 10 from by show ¬ t < 10; omega), if_pos (show ((t, len) : Nat × Nat).1 < 12 from ht.2)]
  rw [e1, arrV_store]
  congr 2
  funext j
  by_cases e : j = i
  · subst e
    simp [updV, w_up]
  · simp [updV, w_up, e]
theorem v_iast {a len i : Nat} {x z : Int} (hT : G.1 a = (10, len)) (hx : x = (i : Int)) (hi : i < len) (hlen : len < 2147483648) (hz : inR z) (hd : Dc M pc .iastore 1 pc') (kk : w_V E M R Z G (w_up I a i z) k n pc' ls st) : w_V E M R Z G I k n pc ls (iv z :: iv x :: .ref a :: st) := by
  obtain ⟨hd, rfl⟩ := hd
  intro p e s m args below meth c H locs lz F hR hL hl
  obtain ⟨h1, h2⟩ := w_ix hx hi hlen
  refine W.iast F.1.1 F.1.2.1 (w_row hR ⟨by omega, by omega⟩ hT) ((F.2.2.2.1.1.2 0 _ rfl).1 len (fun j => iv (I a j))) (fun q => by cases q) (by rw [arrV_size]; exact h1) rfl rfl hd fun H' e1 e2 e3 => ?_
  rw [h2] at e1
  refine kk p e s m args below meth c H' _ lz F (w_row_set hR ⟨by omega, by omega⟩ hT hz e1 e2 e3) (fun q hq => ?_) hl
  rcases List.mem_append.mp hq with h | h
  · exact hL q h
  · rw [List.mem_singleton.mp h]; exact hR.2.2.2.2.1 a (by rw [hT]; simp)
theorem v_zast {a len i : Nat} {x z : Int} (hT : G.1 a = (11, len)) (hx : x = (i : Int)) (hi : i < len) (hlen : len < 2147483648) (hz : z = 0 ∨ z = 1) (hd : Dc M pc .bastore 1 pc') (kk : w_V E M R Z G (w_up I a i z) k n pc' ls st) : w_V E M R Z G I k n pc ls (iv z :: iv x :: .ref a :: st) := by
  obtain ⟨hd, rfl⟩ := hd
  intro p e s m args below meth c H locs lz F hR hL hl
  obtain ⟨h1, h2⟩ := w_ix hx hi hlen
  refine W.zast F.1.1 F.1.2.1 (w_row hR ⟨by omega, by omega⟩ hT) ((F.2.2.2.1.1.2 1 _ rfl).1 len (fun j => iv (I a j))) (fun q => by cases q) (by rw [arrV_size]; exact h1) rfl rfl hd fun H' e1 e2 e3 => ?_
  rw [h2, show narrow .boolean (Value.int (Int32.ofInt z)) = iv z from (w_nar hz).1] at e1
  refine kk p e s m args below meth c H' _ lz F (w_row_set hR ⟨by omega, by omega⟩ hT ⟨by omega, by omega⟩ e1 e2 e3) (fun q hq => ?_) hl
  rcases List.mem_append.mp hq with h | h
  · exact hL q h
  · rw [List.mem_singleton.mp h]; exact hR.2.2.2.2.1 a (by rw [hT]; simp)
theorem v_aaldV {a len i t : Nat} {x : Int} (C : String) (htt : 2 ≤ t ∧ t < 4) (hty : (w_tys E.2.2.1)[t]? = some (E.2.2.1 t, .object C)) (hT : G.1 a = (t + 10, len)) (hx : x = (i : Int)) (hi : i < len) (hlen : len < 2147483648) (hd : Dc M pc .aaload 1 pc') (kk : w_V E M R Z G I k n pc' ls (va_rf (G.2.1 a i) :: st)) : w_V E M R Z G I k n pc ls (iv x :: .ref a :: st) := by
  obtain ⟨hd, rfl⟩ := hd
  intro p e s m args below meth c H locs lz F hR hL hl
  obtain ⟨h1, h2⟩ := w_ix hx hi hlen
  have hc := w_rowR hR (t := t + 10) ⟨by omega, by omega⟩ hT
  rw [Nat.add_sub_cancel] at hc
  exact W.aald (v := va_rf (G.2.1 a i)) (ty := .object C) F.1.1 F.1.2.1 hc ((F.2.2.2.1.1.2 t _ hty).1 len (fun j => va_rf (G.2.1 a j))) rfl (fun q => by cases q) (by rw [arrV_size]; exact h1) (by rw [h2, arrV_read _ _ hi]) rfl rfl hd (kk p e s m args below meth c H locs lz F hR hL hl)
theorem v_aaldF {a len i b : Nat} {x : Int} (hT : G.1 a = (12, len)) (hb : G.2.1 a i = some b) (hx : x = (i : Int)) (hi : i < len) (hlen : len < 2147483648) (hd : Dc M pc .aaload 1 pc') (kk : w_V E M R Z G I k n pc' ls (.ref b :: st)) : w_V E M R Z G I k n pc ls (iv x :: .ref a :: st) := by
  refine v_aaldV (t := 2) RX2 ⟨by omega, by omega⟩ rfl hT hx hi hlen hd ?_
  rw [hb]
  exact kk
theorem v_aaldM {a len i b : Nat} {x : Int} (hT : G.1 a = (13, len)) (hb : G.2.1 a i = some b) (hx : x = (i : Int)) (hi : i < len) (hlen : len < 2147483648) (hd : Dc M pc .aaload 1 pc') (kk : w_V E M R Z G I k n pc' ls (.ref b :: st)) : w_V E M R Z G I k n pc ls (iv x :: .ref a :: st) := by
  refine v_aaldV (t := 3) RX4 ⟨by omega, by omega⟩ rfl hT hx hi hlen hd ?_
  rw [hb]
  exact kk
/-- a reference into a row of references: t is the row's kind (2 of RX2, 3 of RX4), ci the object's -/
theorem v_aast {a b len i t ci : Nat} {x : Int} {r : vw_C} (htt : 2 ≤ t ∧ t < 4) (hc : w_cl[ci]? = some r) (hty : (w_tys E.2.2.1)[t]? = some (E.2.2.1 t, .object r.1)) (hT : G.1 a = (t + 10, len)) (hb : G.1 b = (ci, 0)) (hx : x = (i : Int)) (hi : i < len) (hlen : len < 2147483648) (hd : Dc M pc .aastore 1 pc') (kk : w_V E M R Z (G.1, w_upR G.2.1 a i (some b), G.2.2) I k n pc' ls st) : w_V E M R Z G I k n pc ls (.ref b :: iv x :: .ref a :: st) := by
  obtain ⟨hd, rfl⟩ := hd
  intro p e s m args below meth c H locs lz F hR hL hl
  obtain ⟨h1, h2⟩ := w_ix hx hi hlen
  have hrow := w_rowR hR (t := t + 10) ⟨by omega, by omega⟩ hT
  rw [Nat.add_sub_cancel] at hrow
  obtain ⟨cellV, g1, g2, g3, -⟩ := w_obj hR hc hb
  have hcls := (F.2.2.2.1.1.1 ci r hc).2
  obtain ⟨kA, comp, k1, k2, k3, -⟩ := (F.2.2.2.1.1.2 t _ hty).2
  have hcomp : comp = E.2.1.1 ci := Option.some.inj (k3.symm.trans hcls.1)
  subst hcomp
  obtain ⟨kC, hkC, -⟩ := hcls.2
  have hTa : (G.1 a).1 < 14 := by rw [hT]; show t + 10 < 14; omega
  refine W.aast F.1.1 F.1.2.1 hrow (fun q h => by cases h) (fun h => by cases h) k1 k2 rfl hkC ⟨fun q => h1 (Or.inl q), by rw [arrV_size, h2]; exact hi⟩ g1 (fun q h => by rw [g3] at h; cases h) (by rw [g2]; exact hkC) (by rw [g2]; exact va_assign hcls) rfl rfl hd fun H' e1 e2 e3 => ?_
  rw [h2, arrV_store] at e1
  refine kk p e s m args below meth c H' _ lz F (hR.set (G' := (G.1, w_upR G.2.1 a i (some b), G.2.2)) (a := a) hTa rfl rfl (fun _ h => w_upR_o h) (fun _ _ => rfl) (fun j => hR.2.2.2.1 a j) e2 e3 ?_) (fun q hq => ?_) hl
  · rw [hT]
    unfold w_at
    rw [if_neg (show ¬ ((t + 10, len) : Nat × Nat).1 < 10 from by show ¬ t + 10 < 10; omega), if_neg (show ¬ ((t + 10, len) : Nat × Nat).1 < 12 from by show ¬ t + 10 < 12; omega)]
    rw [e1]
    show some (arrV (E.2.2.1 t) len _) = some (arrV (E.2.2.1 (t + 10 - 10)) len _)
    rw [Nat.add_sub_cancel]
    congr 2
    funext j
    by_cases e : j = i
    · subst e
      simp [updV, w_upR, va_rf]
    · simp [updV, w_upR, e]
  · rcases List.mem_append.mp hq with h | h
    · exact hL q h
    · rw [List.mem_singleton.mp h]; exact hR.2.2.2.2.1 a hTa
/-! ===== what is new ===== -/
def w_zI (I : w_Mm) (a : Nat) : w_Mm := fun b j => if b = a then 0 else I b j
def w_zR (r : Nat → Nat → Option Nat) (a : Nat) : Nat → Nat → Option Nat := fun b j => if b = a then none else r b j
/-- the shape with a cell more of tag t -/
def w_new (G : w_Sh) (t : Nat × Nat) : w_Sh := (w_upT G.1 G.2.2 t, w_zR G.2.1 G.2.2, G.2.2 + 1)
theorem w_zI_o {a b : Nat} (h : b ≠ a) : w_zI I a b = I b := by
  funext j
  simp [w_zI, h]
theorem w_zR_o {r : Nat → Nat → Option Nat} {a b : Nat} (h : b ≠ a) : w_zR r a b = r b := by
  funext j
  simp [w_zR, h]
theorem w_Rel.born {t : Nat × Nat} {H H1 : Heap} (hR : w_Rel E G I H) (hs : H1.size = H.size + 1) (ho : ∀ q, q < H.size → H1[q]? = H[q]?) (hat : w_at E G.2.2 t (fun _ => none) (fun _ => 0) H1) : w_Rel E (w_new G t) (w_zI I G.2.2) H1 := by
  refine hR.new (G' := w_new G t) (I' := w_zI I G.2.2) (t := t) (fun b h => by simp [w_new, w_upT, h]) (by simp [w_new, w_upT]) rfl (fun b h => w_zR_o h) (fun b h => w_zI_o h) (fun j => by simp [w_zI, inR]) hs ho ?_
  have e1 : (w_new G t).2.1 G.2.2 = fun _ => none := by funext j; simp [w_new, w_zR]
  have e2 : w_zI I G.2.2 G.2.2 = fun _ => 0 := by funext j; simp [w_zI]
  rw [e1, e2]
  exact hat
theorem v_new {idx ci : Nat} {q : vw_C} (hc : w_cl[ci]? = some q) (h1 : Jvm.Cond.classLink M.1.cls idx q.1 ∈ w_good) (h2 : Jvm.Cond.instantiable q.1 q.2.2 ∈ w_good) (h3 : Jvm.Cond.initialized q.1 ∈ w_good) (hk : k + 1 ≤ R.cells) (hn : n + q.2.2 ≤ R.slots) (hd : Dc M pc (.new idx) 3 pc')
    (kk : w_V E M R Z (w_new G (ci, 0)) (w_zI I G.2.2) (k + 1) (n + q.2.2) pc' ls (.ref G.2.2 :: st)) : w_V E M R Z G I k n pc ls st := by
  obtain ⟨hd, rfl⟩ := hd
  intro p e s m args below meth c H locs lz F hR hL hl
  obtain ⟨C, T, N⟩ := q
  have hts := F.1.2.2.2.2
  have hKn := F.2.2.2.1.1.1 ci _ hc
  obtain ⟨hlay, ty0, hty, -, hborn⟩ := w_lay hc
  refine W.newcK F.1.1 F.1.2.1 F.1.2.2.2.1 (hts _ (List.mem_cons_of_mem _ h1)) (hts _ (List.mem_cons_of_mem _ h2)) (hts _ (List.mem_cons_of_mem _ h3)) rfl hd hk hn hKn.2.1 hR.1 fun H1 kC hkC e1 z1 o1 => ?_
  refine kk p e s m args below meth c H1 locs lz F (hR.born (by rw [z1, hR.1]) (fun q hq => o1 q (by rw [← hR.1]; exact hq)) ?_) hL hl
  unfold w_at
  rw [if_pos (show ((ci, 0) : Nat × Nat).1 < 10 from w_ci hc)]
  exact ⟨_, hc, (u_born ty0 hts (fun w hw => List.mem_cons_of_mem _ (hlay w hw)) hKn hkC e1 hty).to hborn⟩
theorem v_newI {len : Nat} {x : Int} (hx : x = (len : Int)) (hl8 : len < 100000) (hw : Jvm.Cond.arrayClass .int ∈ w_good) (hk : k + 1 ≤ R.cells) (hn : n + len ≤ R.slots) (hd : Dc M pc (.newarray .int) 2 pc')
    (kk : w_V E M R Z (w_new G (10, len)) (w_zI I G.2.2) (k + 1) (n + len) pc' ls (.ref G.2.2 :: st)) : w_V E M R Z G I k n pc ls (iv x :: st) := by
  obtain ⟨hd, rfl⟩ := hd
  intro p e s m args below meth c H locs lz F hR hL hl
  obtain ⟨h1, h2⟩ := w_ix (len := len + 1) hx (by omega) (by omega)
  refine va_newaK (atype := .int) (N := len) F.1.1 F.1.2.1 (F.1.2.2.2.2 _ (List.mem_cons_of_mem _ hw)) rfl hd rfl (fun q => h1 (Or.inl q)) h2 (by show len * 4 ≤ _; omega) hk hn hR.1 fun H1 cA e1 z1 o1 hAr hNm => ?_
  have hcA : cA = E.2.2.1 0 := Option.some.inj (hNm.symm.trans (F.2.2.2.1.1.2 0 _ rfl).2)
  refine kk p e s m args below meth c H1 locs lz F (hR.born (by rw [z1, hR.1]) (fun q hq => o1 q (by rw [← hR.1]; exact hq)) ?_) hL hl
  unfold w_at
  rw [if_neg (by simp), if_pos (by simp), e1, hcA]
  rfl
theorem v_newZ {len : Nat} {x : Int} (hx : x = (len : Int)) (hl8 : len < 100000) (hw : Jvm.Cond.arrayClass .boolean ∈ w_good) (hk : k + 1 ≤ R.cells) (hn : n + len ≤ R.slots) (hd : Dc M pc (.newarray .boolean) 2 pc')
    (kk : w_V E M R Z (w_new G (11, len)) (w_zI I G.2.2) (k + 1) (n + len) pc' ls (.ref G.2.2 :: st)) : w_V E M R Z G I k n pc ls (iv x :: st) := by
  obtain ⟨hd, rfl⟩ := hd
  intro p e s m args below meth c H locs lz F hR hL hl
  obtain ⟨h1, h2⟩ := w_ix (len := len + 1) hx (by omega) (by omega)
  refine va_newaK (atype := .boolean) (N := len) F.1.1 F.1.2.1 (F.1.2.2.2.2 _ (List.mem_cons_of_mem _ hw)) rfl hd rfl (fun q => h1 (Or.inl q)) h2 (by show len * 1 ≤ _; omega) hk hn hR.1 fun H1 cA e1 z1 o1 hAr hNm => ?_
  have hcA : cA = E.2.2.1 1 := Option.some.inj (hNm.symm.trans (F.2.2.2.1.1.2 1 _ rfl).2)
  refine kk p e s m args below meth c H1 locs lz F (hR.born (by rw [z1, hR.1]) (fun q hq => o1 q (by rw [← hR.1]; exact hq)) ?_) hL hl
  unfold w_at
  rw [if_neg (by simp), if_pos (by simp), e1, hcA]
  rfl
theorem v_newQ {len t idx : Nat} {x : Int} {C : String} (htt : 2 ≤ t ∧ t < 4) (hty : (w_tys E.2.2.1)[t]? = some (E.2.2.1 t, .object C)) (hAO : ∀ U, w_K E U → va_AO C U) (hw : Jvm.Cond.classLink M.1.cls idx C ∈ w_good) (hx : x = (len : Int)) (hl8 : len < 100000) (hk : k + 1 ≤ R.cells) (hn : n + len ≤ R.slots) (hd : Dc M pc (.anewarray idx) 3 pc')
    (kk : w_V E M R Z (w_new G (t + 10, len)) (w_zI I G.2.2) (k + 1) (n + len) pc' ls (.ref G.2.2 :: st)) : w_V E M R Z G I k n pc ls (iv x :: st) := by
  obtain ⟨hd, rfl⟩ := hd
  intro p e s m args below meth c H locs lz F hR hL hl
  obtain ⟨h1, h2⟩ := w_ix (len := len + 1) hx (by omega) (by omega)
  refine W.anew F.1.1 F.1.2.1 F.1.2.2.2.1 (F.1.2.2.2.2 _ (List.mem_cons_of_mem _ hw)) (va_AO.use (hAO _ F.2.2.2.1)) rfl hd rfl (fun q => h1 (Or.inl q)) (by rw [h2]; omega) hk (by rw [h2]; exact hn) fun cA kA comp f1 f2 f3 f4 => ?_
  rw [h2]
  obtain ⟨kA', comp', g1, g2, g3, g4⟩ := (F.2.2.2.1.1.2 t _ hty).2
  have hcA : cA = E.2.2.1 t := Option.some.inj (f1.symm.trans g4)
  show W p E.1 e R s m args below meth c _ locs (k + 1) (n + len) (Z below args s) (F0 m (pc + 3) lz (.ref H.size :: st))
  rw [hR.1]
  refine kk p e s m args below meth c _ locs lz F (hR.born (by rw [Array.size_push]) (fun q hq => by rw [Array.getElem?_push, if_neg (Nat.ne_of_lt hq)]) ?_) hL hl
  unfold w_at
  rw [if_neg (show ¬ ((t + 10, len) : Nat × Nat).1 < 10 from by show ¬ t + 10 < 10; omega), if_neg (show ¬ ((t + 10, len) : Nat × Nat).1 < 12 from by show ¬ t + 10 < 12; omega)]
  rw [← hR.1, Array.getElem?_push_size, arrV_new, hcA]
  show some (arrV (E.2.2.1 t) len _) = some (arrV (E.2.2.1 (t + 10 - 10)) len _)
  rw [Nat.add_sub_cancel]
  rfl
end Heap
