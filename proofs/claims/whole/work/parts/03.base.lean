/-! ===== numbers ===== -/
def iv (z : Int) : Value := .int (Int32.ofInt z)
def inR (z : Int) : Prop := -2147483648 ≤ z ∧ z ≤ 2147483647
theorem inR_toInt {z : Int} (h : inR z) : (Int32.ofInt z).toInt = z := Int32.toInt_ofInt_of_le (by have := h.1; omega) (by have := h.2; omega)
theorem inR_of (x : Int32) : inR x.toInt := ⟨by have := Int32.le_toInt x; omega, by have := Int32.toInt_lt x; omega⟩
theorem iv_of (x : Int32) : Value.int x = iv x.toInt := by unfold iv; rw [Int32.ofInt_toInt]
theorem iv_lt {x y : Int} (hx : inR x) (hy : inR y) : Int32.ofInt x < Int32.ofInt y ↔ x < y := by
  rw [Int32.lt_iff_toInt_lt, inR_toInt hx, inR_toInt hy]
theorem iv_le {x y : Int} (hx : inR x) (hy : inR y) : Int32.ofInt x ≤ Int32.ofInt y ↔ x ≤ y := by
  rw [Int32.le_iff_toInt_le, inR_toInt hx, inR_toInt hy]
theorem iv_eq {x y : Int} (hx : inR x) (hy : inR y) : Int32.ofInt x = Int32.ofInt y ↔ x = y := by
  rw [← Int32.toInt_inj, inR_toInt hx, inR_toInt hy]
theorem iv_inj {x y : Int} (hx : inR x) (hy : inR y) : iv x = iv y ↔ x = y := by
  unfold iv
  rw [Value.int.injEq]
  exact iv_eq hx hy
theorem iv_cat (z : Int) : (iv z).category = 1 := rfl
theorem iv_0 : Int32.ofInt 0 = 0 := by first | rfl | decide
theorem iv_add (x y : Int) : Int32.ofInt x + Int32.ofInt y = Int32.ofInt (x + y) := by
  first | exact (Int32.ofInt_add x y).symm | exact (Int32.ofInt_add).symm | simp [Int32.ofInt_add]
theorem iv_sub (x y : Int) : Int32.ofInt x - Int32.ofInt y = Int32.ofInt (x - y) := by
  first | exact (Int32.ofInt_sub x y).symm | exact (Int32.ofInt_sub).symm | simp [Int32.ofInt_sub]
theorem iv_mul (x y : Int) : Int32.ofInt x * Int32.ofInt y = Int32.ofInt (x * y) := by
  first | exact (Int32.ofInt_mul x y).symm | exact (Int32.ofInt_mul).symm | simp [Int32.ofInt_mul]
theorem iv_clamp {i : Nat} (h : i < 2147483648) : (Int32.ofInt (i : Int)).toNatClampNeg = i := by
  rw [Int32.ofInt_eq_ofNat, Int32.toNatClampNeg_ofNat_of_lt (by omega)]
theorem iv_nneg {x : Int} (hx : inR x) (h : 0 ≤ x) : ¬ Int32.ofInt x < 0 := by
  rw [← iv_0, iv_lt hx ⟨by omega, by omega⟩]; omega
theorem inR_nat {i : Nat} (h : i < 2147483648) : inR (i : Int) := ⟨by omega, by omega⟩
/-! ===== flat memory: per address a tag and a length, references, ints ===== -/
abbrev w_Sh : Type := (Nat → Nat × Nat) × (Nat → Nat → Option Nat) × Nat
abbrev w_Mm : Type := Nat → Nat → Int
/-- the launch, the classes' numbers and slots, the arrays' classes, the heap at the law's start, the script: its cell, its length, its ints -/
abbrev w_E : Type := Launch × va_G × (Nat → ClassId) × Heap × Nat × Nat × (Nat → Int32)
abbrev w_M : Type := MethodName × ByteArray × Nat × Option FieldType
abbrev w_cl : List vw_C := [(RX0, TX0, 3), (RX1, TX1, 3), (RX2, TX2, 3), (RX3, TX3, 1), (RX4, TX4, 13), (RX5, TX5, 3), (RX6, TX6, 7), (RX7, TX7, 3), (RX8, TX8, 6), (RX9, TX9, 34)]
def w_isR (d : String) : Bool := !(d == "I") && !(d == "Z")
def w_ref (ci k : Nat) : Bool := match w_cl[ci]? with
  | some q => w_isR (q.2.1 k).2.2.1
  | none => false
def w_fv (ci : Nat) (r : Nat → Option Nat) (z : Nat → Int) (k : Nat) : Value := if w_ref ci k = true then va_rf (r k) else iv (z k)
def w_at (E : w_E) (a : Nat) (t : Nat × Nat) (r : Nat → Option Nat) (z : Nat → Int) (H : Heap) : Prop :=
  if t.1 < 10 then ∃ q : vw_C, w_cl[t.1]? = some q ∧ t_OB a (E.2.1.1 t.1) q.2.2 (E.2.1.2 t.1) H (w_fv t.1 r z)
  else if t.1 < 12 then H[a]? = some (arrV (E.2.2.1 (t.1 - 10)) t.2 (fun j => iv (z j)))
  else H[a]? = some (arrV (E.2.2.1 (t.1 - 10)) t.2 (fun j => va_rf (r j)))
/-- the heap H holds the memory: shape G, ints I; below the first heap nothing has changed -/
def w_Rel (E : w_E) (G : w_Sh) (I : w_Mm) (H : Heap) : Prop :=
  H.size = G.2.2 ∧ E.2.2.2.1.size ≤ H.size ∧ (∀ a, (G.1 a).1 < 14 → w_at E a (G.1 a) (G.2.1 a) (I a) H) ∧ (∀ a k, inR (I a k)) ∧ (∀ a, (G.1 a).1 < 14 → E.2.2.2.1.size ≤ a) ∧ ∀ q, q < E.2.2.2.1.size → H[q]? = E.2.2.2.1[q]?
theorem w_at.kept {E : w_E} {a : Nat} {t : Nat × Nat} {r : Nat → Option Nat} {z : Nat → Int} {H H1 : Heap} (h : w_at E a t r z H) (hq : H1[a]? = H[a]?) : w_at E a t r z H1 := by
  unfold w_at at h ⊢
  split
  · rename_i h1
    rw [if_pos h1] at h
    obtain ⟨q, h2, h3⟩ := h
    exact ⟨q, h2, h3.kept hq⟩
  · rename_i h1
    rw [if_neg h1] at h
    split
    · rename_i h2
      rw [if_pos h2] at h
      rw [hq]; exact h
    · rename_i h2
      rw [if_neg h2] at h
      rw [hq]; exact h
theorem w_at.lt {E : w_E} {a : Nat} {t : Nat × Nat} {r : Nat → Option Nat} {z : Nat → Int} {H : Heap} (h : w_at E a t r z H) : a < H.size := by
  unfold w_at at h
  split at h
  · obtain ⟨q, h2, cell, h3, -⟩ := h
    exact (Array.getElem?_eq_some_iff.mp h3).1
  · split at h
    · exact (Array.getElem?_eq_some_iff.mp h).1
    · exact (Array.getElem?_eq_some_iff.mp h).1
/-- one cell is another one now -/
theorem w_Rel.set {E : w_E} {G G' : w_Sh} {I I' : w_Mm} {H H1 : Heap} {a : Nat} (h : w_Rel E G I H) (ha : (G.1 a).1 < 14) (hT : G'.1 = G.1) (ht : G'.2.2 = G.2.2) (hR : ∀ b, b ≠ a → G'.2.1 b = G.2.1 b) (hI : ∀ b, b ≠ a → I' b = I b) (hr : ∀ k, inR (I' a k))
    (hs : H1.size = H.size) (ho : ∀ q, q ≠ a → H1[q]? = H[q]?) (hat : w_at E a (G.1 a) (G'.2.1 a) (I' a) H1) : w_Rel E G' I' H1 := by
  obtain ⟨h1, h2, h3, h4, h5, h6⟩ := h
  refine ⟨by rw [hs, ht]; exact h1, by rw [hs]; exact h2, fun b hb => ?_, fun b k => ?_, fun b hb => ?_, fun q hq => ?_⟩
  · rw [hT] at hb ⊢
    by_cases e : b = a
    · subst e
      exact hat
    · rw [hR b e, hI b e]
      exact (h3 b hb).kept (ho b e)
  · by_cases e : b = a
    · subst e
      exact hr k
    · rw [hI b e]; exact h4 b k
  · rw [hT] at hb; exact h5 b hb
  · have := h5 a ha
    rw [ho q (by omega)]; exact h6 q hq
/-- a cell more, at the end -/
theorem w_Rel.new {E : w_E} {G G' : w_Sh} {I I' : w_Mm} {H H1 : Heap} {t : Nat × Nat} (h : w_Rel E G I H) (hT : ∀ b, b ≠ G.2.2 → G'.1 b = G.1 b) (hTa : G'.1 G.2.2 = t) (ht : G'.2.2 = G.2.2 + 1) (hR : ∀ b, b ≠ G.2.2 → G'.2.1 b = G.2.1 b) (hI : ∀ b, b ≠ G.2.2 → I' b = I b) (hr : ∀ k, inR (I' G.2.2 k))
    (hs : H1.size = H.size + 1) (ho : ∀ q, q < H.size → H1[q]? = H[q]?) (hat : w_at E G.2.2 t (G'.2.1 G.2.2) (I' G.2.2) H1) : w_Rel E G' I' H1 := by
  obtain ⟨h1, h2, h3, h4, h5, h6⟩ := h
  refine ⟨by rw [hs, ht, h1], by rw [hs]; omega, fun b hb => ?_, fun b k => ?_, fun b hb => ?_, fun q hq => ?_⟩
  · by_cases e : b = G.2.2
    · subst e
      rw [hTa]; exact hat
    · rw [hT b e] at hb ⊢
      rw [hR b e, hI b e]
      exact (h3 b hb).kept (ho b (h3 b hb).lt)
  · by_cases e : b = G.2.2
    · subst e
      exact hr k
    · rw [hI b e]; exact h4 b k
  · by_cases e : b = G.2.2
    · omega
    · rw [hT b e] at hb; exact h5 b hb
  · rw [ho q (by omega)]; exact h6 q hq
def w_up (I : w_Mm) (a k : Nat) (z : Int) : w_Mm := fun b j => if b = a ∧ j = k then z else I b j
def w_upR (r : Nat → Nat → Option Nat) (a k : Nat) (z : Option Nat) : Nat → Nat → Option Nat := fun b j => if b = a ∧ j = k then z else r b j
def w_upT (t : Nat → Nat × Nat) (a : Nat) (z : Nat × Nat) : Nat → Nat × Nat := fun b => if b = a then z else t b
theorem w_up_s {I : w_Mm} {a k : Nat} {z : Int} : w_up I a k z a k = z := by simp [w_up]
theorem w_up_n {I : w_Mm} {a k b j : Nat} {z : Int} (h : ¬ (b = a ∧ j = k)) : w_up I a k z b j = I b j := by simp [w_up, h]
theorem w_up_o {I : w_Mm} {a k b : Nat} {z : Int} (h : b ≠ a) : w_up I a k z b = I b := by
  funext j
  simp [w_up, h]
theorem w_upR_o {r : Nat → Nat → Option Nat} {a k b : Nat} {z : Option Nat} (h : b ≠ a) : w_upR r a k z b = r b := by
  funext j
  simp [w_upR, h]
/-! ===== the words that hold, and what is known of the tables ===== -/
def w_nest : Jvm.Cond → Bool
  | .fieldLinkNest _ _ _ _ _ _ => true
  | .methodLinkNest _ _ _ _ => true
  | _ => false
def w_good : List Jvm.Cond := lw_tbl.filter goodWord
def w_nw : List Jvm.Cond := lw_tbl.filter w_nest
def w_tys (ca : Nat → ClassId) : List (ClassId × FieldType) := [(ca 0, .int), (ca 1, .boolean), (ca 2, .object RX2), (ca 3, .object RX4)]
def w_K (E : w_E) (U : State) : Prop := va_K E.2.1 w_cl (w_tys E.2.2.1) U ∧ (∀ w ∈ w_nw, va_Nw w U) ∧ va_AO RX2 U ∧ va_AO RX4 U ∧ va_X E.2.2.2.2.1 E.2.2.2.2.2.1 E.2.2.2.2.2.2 U E.2.2.2.1 ∧ E.2.2.2.2.1 < E.2.2.2.1.size
theorem w_nest_on {w : Jvm.Cond} (h : w_nest w = true) : w.onTables = true := by
  cases w <;> first | rfl | exact absurd h (by simp [w_nest])
theorem w_K.warm {E : w_E} {s U : State} (hW : s.WarmedH U.vm) (h : w_K E s) : w_K E U := by
  refine ⟨va_K.moved hW.alike h.1, fun w hw => ?_, va_AO.moved hW.alike h.2.2.1, va_AO.moved hW.alike h.2.2.2.1, h.2.2.2.2.1.moved hW.alike, h.2.2.2.2.2⟩
  have hn : w_nest w = true := (List.mem_filter.mp hw).2
  have h1 := h.2.1 w hw
  cases w <;> first | exact va_Nw.warmF hW h1 | exact va_Nw.warmM hW h1 | exact absurd hn (by simp [w_nest])
theorem w_K.same {E : w_E} {u U : State} (e : u.vm = U.vm) (h : w_K E u) : w_K E U := by
  have ha : u.vm.Alike U.vm := by rw [e]; exact Vm.Alike.refl _
  exact ⟨va_K.moved ha h.1, fun w hw => va_Nw.same (w_nest_on (List.mem_filter.mp hw).2) e (h.2.1 w hw), va_AO.moved ha h.2.2.1, va_AO.moved ha h.2.2.2.1, h.2.2.2.2.1.moved ha, h.2.2.2.2.2⟩
def w_ws (M : w_M) : List Jvm.Cond := Jvm.Cond.code M.1 M.2.1 M.2.2.1 M.2.2.2 :: w_good
def w_rm (d mc ms : Nat) : Room := { frames := d, cells := mc, slots := ms, locals := 40 * d }
def w_Fix (E : w_E) (M : w_M) (p : Program) (s : State) (m : MethodId) (meth : Method) (c : Code) (args : Array Value) : Prop :=
  CallFix p m c M.2.1 M.2.2.1 s args (w_ws M) M.1.cls ∧ meth.sig.returnType = M.2.2.2 ∧ meth.locks = false ∧ w_K E s ∧ meth.name = M.1.name
/-! ===== locals ===== -/
def w_has (lz : Array Slot) (nL : Nat) (ls : List (Option Value)) : Prop := lz.size = nL ∧ lv_wf lz ∧ ∀ (i : Nat) (v : Value), ls[i]? = some (some v) → lz[i]? = some (.val v) ∧ v.category = 1
def w_lst (ls : List (Option Value)) : List (Nat × Value) := (List.range ls.length).filterMap (fun i => ((ls[i]?).getD none).map (fun v => (i, v)))
theorem w_lst_mem {ls : List (Option Value)} {q : Nat × Value} : q ∈ w_lst ls ↔ ls[q.1]? = some (some q.2) := by
  unfold w_lst
  rw [List.mem_filterMap]
  constructor
  · rintro ⟨i, -, h⟩
    cases hi : ls[i]? with
    | none => rw [hi] at h; simp at h
    | some x =>
      cases x with
      | none => rw [hi] at h; simp at h
      | some v =>
        rw [hi] at h
        simp at h
        subst h
        exact hi
  · intro h
    have hl := (List.getElem?_eq_some_iff.mp h).1
    exact ⟨q.1, List.mem_range.mpr hl, by rw [h]; rfl⟩
theorem w_has.lv {lz : Array Slot} {nL : Nat} {ls : List (Option Value)} (h : w_has lz nL ls) : lv_has lz nL (w_lst ls) := ⟨h.1, h.2.1, fun q hq => (h.2.2 q.1 q.2 (w_lst_mem.mp hq)).1⟩
theorem w_has.st {lz lz' : Array Slot} {nL i : Nat} {ls : List (Option Value)} {v : Value} (h : w_has lz nL ls) (h' : lv_has lz' nL ((i, v) :: (w_lst ls).filter (fun q => !(q.1 == i) && !(q.1 + 1 == i && q.2.category == 2)))) (hc : v.category = 1) : w_has lz' nL (ls.set i (some v)) := by
  refine ⟨h'.1, h'.2.1, fun j w hj => ?_⟩
  by_cases e : j = i
  · subst e
    have hl : j < ls.length := by
      have := (List.getElem?_eq_some_iff.mp hj).1
      simpa using this
    rw [List.getElem?_set_self hl] at hj
    cases hj
    exact ⟨h'.2.2 (j, v) List.mem_cons_self, hc⟩
  · rw [List.getElem?_set_ne (Ne.symm e)] at hj
    obtain ⟨h1, h2⟩ := h.2.2 j w hj
    refine ⟨h'.2.2 (j, w) (List.mem_cons_of_mem _ (List.mem_filter.mpr ⟨w_lst_mem.mpr hj, ?_⟩)), h2⟩
    simp [e, h2]
theorem w_args : ∀ (as : List Value) (i : Nat), as.all (fun v => v.category == 1) = true → ∀ (j : Nat) (v : Value), as[j]? = some v → (i + j, v) ∈ lv_args i as
  | [], _, _, j, v, h => by simp at h
  | a :: as, i, hc, j, v, h => by
    simp only [List.all_cons, Bool.and_eq_true, beq_iff_eq] at hc
    have h2 : ¬ a.category = 2 := by omega
    simp only [lv_args, h2, if_false]
    cases j with
    | zero =>
      simp at h
      subst h
      exact List.mem_cons_self
    | succ j =>
      simp at h
      have := w_args as (i + 1) hc.2 j v h
      rw [show i + (j + 1) = i + 1 + j by omega]
      exact List.mem_cons_of_mem _ this
def w_ent (as : List Value) (nL : Nat) : List (Option Value) := as.map some ++ List.replicate (nL - as.length) none
theorem w_has_ent {lz : Array Slot} {nL : Nat} {as : List Value} (hc : as.all (fun v => v.category == 1) = true) (h : lv_has lz nL (lv_args 0 as)) : w_has lz nL (w_ent as nL) := by
  refine ⟨h.1, h.2.1, fun j v hj => ?_⟩
  have hj2 : as[j]? = some v := by
    unfold w_ent at hj
    by_cases hl : j < (as.map some).length
    · rw [List.getElem?_append_left hl, List.getElem?_map] at hj
      cases ha : as[j]? with
      | none => rw [ha] at hj; simp at hj
      | some x => rw [ha] at hj; simp at hj; rw [hj]
    · rw [List.getElem?_append_right (by omega), List.getElem?_replicate] at hj
      split at hj <;> simp at hj
  refine ⟨by simpa using h.2.2 (0 + j, v) (w_args as 0 hc j v hj2), ?_⟩
  have := List.all_eq_true.mp hc v (List.mem_of_getElem? hj2)
  simpa using this
/-! ===== the judgement: from this place of the method's code with this memory, locals and stack the method comes to its end Z ===== -/
def w_V (E : w_E) (M : w_M) (R : Room) (Z : List Frame → Array Value → State → State → Prop) (G : w_Sh) (I : w_Mm) (k n pc : Nat) (ls : List (Option Value)) (st : List Value) : Prop :=
  ∀ (p : Program) (e : Env) (s : State) (m : MethodId) (args : Array Value) (below : List Frame) (meth : Method) (c : Code) (H : Heap) (locs : List Loc) (lz : Array Slot),
    w_Fix E M p s m meth c args → w_Rel E G I H → (∀ q ∈ locs, E.2.2.2.1.size ≤ q.base) → w_has lz M.2.2.1 ls →
    W p E.1 e R s m args below meth c H locs k n (Z below args s) (F0 m pc lz st)
def w_Pc (E : w_E) (as : List Value) (G : w_Sh) (I : w_Mm) : Array Value → State → Prop := fun v U => v = as.toArray ∧ w_Rel E G I U.heap ∧ w_K E U
def w_Qc (E : w_E) (Post : Option Value → w_Sh → w_Mm → Prop) : Array Value → State → Outcome → State → Prop := fun _ _ o t => ∃ (v : Option Value) (G' : w_Sh) (I' : w_Mm), o = .returned v ∧ w_Rel E G' I' t.heap ∧ Post v G' I'
def w_Z (E : w_E) (mc ms : Nat) (Post : Option Value → w_Sh → w_Mm → Prop) : List Frame → Array Value → State → State → Prop := fun below args s => MQ below (w_Qc E Post) args s mc ms (fun q => E.2.2.2.1.size ≤ q)
/-- a method's contract: called with 'as' in the memory G, I it returns, and Post holds of its answer and the memory then; it makes at most mc cells of ms slots -/
def w_Ct (E : w_E) (M : w_M) (d : Nat) (as : List Value) (G : w_Sh) (I : w_Mm) (mc ms : Nat) (Post : Option Value → w_Sh → w_Mm → Prop) : Prop :=
  Met E.1 M.1 (w_ws M) (w_rm d mc ms) (w_Pc E as G I) (w_Qc E Post) mc ms (fun q => E.2.2.2.1.size ≤ q)
theorem w_Ct.of {E : w_E} {M : w_M} {d : Nat} {as : List Value} {G : w_Sh} {I : w_Mm} {mc ms : Nat} {Post : Option Value → w_Sh → w_Mm → Prop} {ls : List (Option Value)} (hy : plainName M.1.cls = true) (hlen : (lg_sl as).length ≤ M.2.2.1) (hc : as.all (fun v => v.category == 1) = true) (hls : w_ent as M.2.2.1 = ls)
    (hV : (∀ a k, inR (I a k)) → w_V E M (w_rm d mc ms) (w_Z E mc ms Post) G I 0 0 0 ls []) : w_Ct E M d as G I mc ms Post := by
  refine Met.ofW (cc := M.2.1) (maxL := M.2.2.1) (ret := M.2.2.2) hy rfl ?_
  intro p e s m args below meth c s₁ B hml hv
  obtain ⟨rfl, hR, hK⟩ := hv
  have hl := lv_entry as (n := M.2.2.1) hlen
  rw [lg_entry_eq]
  subst hls
  exact hV hR.2.2.2.1 p e s m as.toArray below meth c s.heap [] _ ⟨⟨B.exec, B.bytes, hml, findClass_of_methodNamed B.named, atoms_spec (ws := w_ws M) B.pre⟩, B.returns, B.notSynchronized, hK, (name_of_methodNamed B.named B.method).1⟩ hR (fun q h => absurd h List.not_mem_nil) (w_has_ent hc hl)
