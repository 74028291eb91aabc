section More
variable {E : w_E} {M : w_M} {R : Room} {Z : List Frame → Array Value → State → State → Prop} {G G' : w_Sh} {I I' : w_Mm} {k n pc pc' tgt d mc ms : Nat} {off : Int} {ls ls' : List (Option Value)} {st : List Value}
theorem w_rng {a f : Nat} {z : Int} (h : ∀ a k, inR (I a k)) (hz : inR z) : ∀ b j, inR (w_up I a f z b j) := fun b j => by
  by_cases e : b = a ∧ j = f
  · simp [w_up, e, hz]
  · rw [w_up_n e]; exact h b j
/-! ===== calls by what they answer ===== -/
def w_cV (C : String) (idx ci : Nat) (M' : w_M) (nA : Nat) : Prop := w_mw M' nA ∧ w_mv ci M' ∧ w_lk C idx M'
def w_cS (C : String) (idx : Nat) (M' : w_M) (nA : Nat) : Prop := w_mw M' nA ∧ Jvm.Cond.static M'.1 ∈ w_good ∧ w_lk C idx M'
def w_cI (C : String) (idx : Nat) (M' : w_M) (nA : Nat) : Prop := w_mw M' nA ∧ (M'.2.2.2 = none ∧ M'.1.name = "<init>") ∧ Jvm.Cond.instanceMethod M'.1 ∈ w_good ∧ w_lk C idx M'
def w_ro (R : Room) (d : Nat) (M' : w_M) : Prop := d + 1 ≤ R.frames ∧ 8 + (M'.2.2.1 + 11) + 40 * d ≤ R.locals
theorem v_Vi {post : Int → w_Sh → w_Mm → Prop} {M' : w_M} {idx ci nA b : Nat} {As st0 : List Value} (hC : w_Ct E M' d (.ref b :: As) G I mc ms (w_Pi post)) (hw : w_cV M.1.cls idx ci M' nA) (hT : G.1 b = (ci, 0)) (hn : As.length = nA) (hst : st0 = As.reverse ++ .ref b :: st)
    (hro : w_ro R d M') (hcs : k + mc ≤ R.cells ∧ n + ms ≤ R.slots) (hrest : (st.map fun v => v.category).sum ≤ 8) (hd : Dc M pc (.invokevirtual idx) 3 pc')
    (kk : ∀ (z : Int) (G' : w_Sh) (I' : w_Mm), inR z → post z G' I' → (∀ a k, inR (I' a k)) → w_V E M R Z G' I' (k + mc) (n + ms) pc' ls (iv z :: st)) : w_V E M R Z G I k n pc ls st0 :=
  v_callV hC hw.1 hw.2.1 hw.2.2 hT hn hst hro.1 hro.2 hcs hrest hd (fun v G' I' hp hr => by
    obtain ⟨z, rfl, hz, hp⟩ := hp
    exact kk z G' I' hz hp hr)
theorem v_Vv {post : w_Sh → w_Mm → Prop} {M' : w_M} {idx ci nA b : Nat} {As st0 : List Value} (hC : w_Ct E M' d (.ref b :: As) G I mc ms (w_Pv post)) (hw : w_cV M.1.cls idx ci M' nA) (hT : G.1 b = (ci, 0)) (hn : As.length = nA) (hst : st0 = As.reverse ++ .ref b :: st)
    (hro : w_ro R d M') (hcs : k + mc ≤ R.cells ∧ n + ms ≤ R.slots) (hrest : (st.map fun v => v.category).sum ≤ 8) (hd : Dc M pc (.invokevirtual idx) 3 pc')
    (kk : ∀ (G' : w_Sh) (I' : w_Mm), post G' I' → (∀ a k, inR (I' a k)) → w_V E M R Z G' I' (k + mc) (n + ms) pc' ls st) : w_V E M R Z G I k n pc ls st0 :=
  v_callV hC hw.1 hw.2.1 hw.2.2 hT hn hst hro.1 hro.2 hcs hrest hd (fun v G' I' hp hr => by
    obtain ⟨rfl, hp⟩ := hp
    exact kk G' I' hp hr)
theorem v_Vr {post : Option Nat → w_Sh → w_Mm → Prop} {M' : w_M} {idx ci nA b : Nat} {As st0 : List Value} (hC : w_Ct E M' d (.ref b :: As) G I mc ms (w_Pr post)) (hw : w_cV M.1.cls idx ci M' nA) (hT : G.1 b = (ci, 0)) (hn : As.length = nA) (hst : st0 = As.reverse ++ .ref b :: st)
    (hro : w_ro R d M') (hcs : k + mc ≤ R.cells ∧ n + ms ≤ R.slots) (hrest : (st.map fun v => v.category).sum ≤ 8) (hd : Dc M pc (.invokevirtual idx) 3 pc')
    (kk : ∀ (o : Option Nat) (G' : w_Sh) (I' : w_Mm), post o G' I' → (∀ a k, inR (I' a k)) → w_V E M R Z G' I' (k + mc) (n + ms) pc' ls (va_rf o :: st)) : w_V E M R Z G I k n pc ls st0 :=
  v_callV hC hw.1 hw.2.1 hw.2.2 hT hn hst hro.1 hro.2 hcs hrest hd (fun v G' I' hp hr => by
    obtain ⟨o, rfl, hp⟩ := hp
    exact kk o G' I' hp hr)
theorem v_Si {post : Int → w_Sh → w_Mm → Prop} {M' : w_M} {idx nA : Nat} {As st0 : List Value} (hC : w_Ct E M' d As G I mc ms (w_Pi post)) (hw : w_cS M.1.cls idx M' nA) (hn : As.length = nA) (hst : st0 = As.reverse ++ st)
    (hro : w_ro R d M') (hcs : k + mc ≤ R.cells ∧ n + ms ≤ R.slots) (hrest : (st.map fun v => v.category).sum ≤ 8) (hd : Dc M pc (.invokestatic idx) 3 pc')
    (kk : ∀ (z : Int) (G' : w_Sh) (I' : w_Mm), inR z → post z G' I' → (∀ a k, inR (I' a k)) → w_V E M R Z G' I' (k + mc) (n + ms) pc' ls (iv z :: st)) : w_V E M R Z G I k n pc ls st0 :=
  v_callS hC hw.1 hw.2.1 hw.2.2 hn hst hro.1 hro.2 hcs hrest hd (fun v G' I' hp hr => by
    obtain ⟨z, rfl, hz, hp⟩ := hp
    exact kk z G' I' hz hp hr)
theorem v_Iv {post : w_Sh → w_Mm → Prop} {M' : w_M} {idx nA b : Nat} {As st0 : List Value} (hC : w_Ct E M' d (.ref b :: As) G I mc ms (w_Pv post)) (hw : w_cI M.1.cls idx M' nA) (hn : As.length = nA) (hst : st0 = As.reverse ++ .ref b :: st)
    (hro : w_ro R d M') (hcs : k + mc ≤ R.cells ∧ n + ms ≤ R.slots) (hrest : (st.map fun v => v.category).sum ≤ 8) (hd : Dc M pc (.invokespecial idx) 3 pc')
    (kk : ∀ (G' : w_Sh) (I' : w_Mm), post G' I' → (∀ a k, inR (I' a k)) → w_V E M R Z G' I' (k + mc) (n + ms) pc' ls st) : w_V E M R Z G I k n pc ls st0 :=
  v_callI hC hw.1 hw.2.1.1 hw.2.1.2 hw.2.2.1 hw.2.2.2 hn hst hro.1 hro.2 hcs hrest hd (fun v G' I' hp hr => by
    obtain ⟨rfl, hp⟩ := hp
    exact kk G' I' hp hr)
/-- a method that makes nothing: its answer and the memory behind it are told -/
abbrev w_Cm (E : w_E) (M : w_M) (d : Nat) (as : List Value) (G : w_Sh) (I : w_Mm) (z : Int) (I1 : w_Mm) : Prop := w_Ct E M d as G I 0 0 (w_Pi (fun r G' I' => r = z ∧ G' = G ∧ I' = I1))
abbrev w_Cn (E : w_E) (M : w_M) (d : Nat) (as : List Value) (G : w_Sh) (I : w_Mm) (I1 : w_Mm) : Prop := w_Ct E M d as G I 0 0 (w_Pv (fun G' I' => G' = G ∧ I' = I1))
theorem v_Vm {M' : w_M} {idx ci nA b : Nat} {As st0 : List Value} {z : Int} {I1 : w_Mm} (hC : w_Cm E M' d (.ref b :: As) G I z I1) (hw : w_cV M.1.cls idx ci M' nA) (hT : G.1 b = (ci, 0)) (hn : As.length = nA) (hst : st0 = As.reverse ++ .ref b :: st)
    (hro : w_ro R d M') (hcs : k ≤ R.cells ∧ n ≤ R.slots) (hrest : (st.map fun v => v.category).sum ≤ 8) (hd : Dc M pc (.invokevirtual idx) 3 pc')
    (kk : inR z → (∀ a k, inR (I1 a k)) → w_V E M R Z G I1 k n pc' ls (iv z :: st)) : w_V E M R Z G I k n pc ls st0 :=
  v_Vi hC hw hT hn hst hro hcs hrest hd (fun z G' I' hz hp hr => by
    obtain ⟨rfl, rfl, rfl⟩ := hp
    exact kk hz hr)
theorem v_Vn {M' : w_M} {idx ci nA b : Nat} {As st0 : List Value} {I1 : w_Mm} (hC : w_Cn E M' d (.ref b :: As) G I I1) (hw : w_cV M.1.cls idx ci M' nA) (hT : G.1 b = (ci, 0)) (hn : As.length = nA) (hst : st0 = As.reverse ++ .ref b :: st)
    (hro : w_ro R d M') (hcs : k ≤ R.cells ∧ n ≤ R.slots) (hrest : (st.map fun v => v.category).sum ≤ 8) (hd : Dc M pc (.invokevirtual idx) 3 pc')
    (kk : (∀ a k, inR (I1 a k)) → w_V E M R Z G I1 k n pc' ls st) : w_V E M R Z G I k n pc ls st0 :=
  v_Vv hC hw hT hn hst hro hcs hrest hd (fun G' I' hp hr => by
    obtain ⟨rfl, rfl⟩ := hp
    exact kk hr)
theorem v_Sm {M' : w_M} {idx nA : Nat} {As st0 : List Value} {z : Int} {I1 : w_Mm} (hC : w_Cm E M' d As G I z I1) (hw : w_cS M.1.cls idx M' nA) (hn : As.length = nA) (hst : st0 = As.reverse ++ st)
    (hro : w_ro R d M') (hcs : k ≤ R.cells ∧ n ≤ R.slots) (hrest : (st.map fun v => v.category).sum ≤ 8) (hd : Dc M pc (.invokestatic idx) 3 pc')
    (kk : inR z → (∀ a k, inR (I1 a k)) → w_V E M R Z G I1 k n pc' ls (iv z :: st)) : w_V E M R Z G I k n pc ls st0 :=
  v_Si hC hw hn hst hro hcs hrest hd (fun z G' I' hz hp hr => by
    obtain ⟨rfl, rfl, rfl⟩ := hp
    exact kk hz hr)
/-! ===== the library's own ===== -/
theorem v_obj {idx a : Nat} (h1 : Jvm.Cond.methodLink M.1.cls idx Lib.objectInit ∈ w_good) (h2 : Jvm.Cond.instanceMethod Lib.objectInit ∈ w_good) (h3 : Jvm.Cond.code Lib.objectInit ⟨#[0xb1]⟩ 1 none ∈ w_good) (hf : 1 ≤ R.frames) (hlo : (st.map fun v => v.category).sum + 12 ≤ R.locals) (hd : Dc M pc (.invokespecial idx) 3 pc') (kk : w_V E M R Z G I k n pc' ls st) : w_V E M R Z G I k n pc ls (.ref a :: st) := by
  obtain ⟨hd, rfl⟩ := hd
  intro p e s m args below meth c H locs lz F hR hL hl
  have ok : ∀ w ∈ w_good, w.before args s = true := fun w h => F.1.2.2.2.2 w (List.mem_cons_of_mem _ h)
  exact W.objInit F.1.1 F.1.2.1 F.1.2.2.2.1 (ok _ h1) (ok _ h2) (ok _ h3) rfl (by rw [F.1.2.2.1]; exact hl.1) rfl hd hf (by show 2 * 0 + _ + 12 ≤ _; omega) (kk p e s m args below meth c H locs lz F hR hL hl)
theorem v_max {idx : Nat} {x y : Int} (hx : inR x) (hy : inR y) (h1 : Jvm.Cond.methodLink M.1.cls idx Lib.Math.max.name ∈ w_good) (h2 : Jvm.Cond.static Lib.Math.max.name ∈ w_good) (h3 : Jvm.Cond.initialized "java/lang/Math" ∈ w_good) (h4 : Jvm.Cond.code Lib.Math.max.name Lib.Math.max.code 2 (some .int) ∈ w_good) (hf : 1 ≤ R.frames) (hlo : (st.map fun v => v.category).sum + 13 ≤ R.locals) (hcs : k ≤ R.cells ∧ n ≤ R.slots) (hd : Dc M pc (.invokestatic idx) 3 pc') (kk : w_V E M R Z G I k n pc' ls (iv (if x < y then y else x) :: st)) : w_V E M R Z G I k n pc ls (iv y :: iv x :: st) := by
  obtain ⟨hd, rfl⟩ := hd
  intro p e s m args below meth c H locs lz F hR hL hl
  have ok : ∀ w ∈ w_good, w.before args s = true := fun w h => F.1.2.2.2.2 w (List.mem_cons_of_mem _ h)
  refine va_mmax F.1.1 F.1.2.1 (by rw [F.1.2.2.1]; exact hl.1.symm) F.1.2.2.2.1 (ok _ h1) (ok _ h2) (ok _ h3) (ok _ h4) hf hlo hcs.1 hcs.2 hd ?_
  have e1 : Value.int (if Int32.ofInt x < Int32.ofInt y then Int32.ofInt y else Int32.ofInt x) = iv (if x < y then y else x) := by
    by_cases h : x < y
    · rw [if_pos h, if_pos ((iv_lt hx hy).mpr h)]; rfl
    · rw [if_neg h, if_neg (fun q => h ((iv_lt hx hy).mp q))]; rfl
  rw [e1]
  exact kk p e s m args below meth c H locs lz F hR hL hl
theorem v_min {idx : Nat} {x y : Int} (hx : inR x) (hy : inR y) (h1 : Jvm.Cond.methodLink M.1.cls idx Lib.Math.min.name ∈ w_good) (h2 : Jvm.Cond.static Lib.Math.min.name ∈ w_good) (h3 : Jvm.Cond.initialized "java/lang/Math" ∈ w_good) (h4 : Jvm.Cond.code Lib.Math.min.name Lib.Math.min.code 2 (some .int) ∈ w_good) (hf : 1 ≤ R.frames) (hlo : (st.map fun v => v.category).sum + 13 ≤ R.locals) (hcs : k ≤ R.cells ∧ n ≤ R.slots) (hd : Dc M pc (.invokestatic idx) 3 pc') (kk : w_V E M R Z G I k n pc' ls (iv (if y < x then y else x) :: st)) : w_V E M R Z G I k n pc ls (iv y :: iv x :: st) := by
  obtain ⟨hd, rfl⟩ := hd
  intro p e s m args below meth c H locs lz F hR hL hl
  have ok : ∀ w ∈ w_good, w.before args s = true := fun w h => F.1.2.2.2.2 w (List.mem_cons_of_mem _ h)
  refine va_mmin F.1.1 F.1.2.1 (by rw [F.1.2.2.1]; exact hl.1.symm) F.1.2.2.2.1 (ok _ h1) (ok _ h2) (ok _ h3) (ok _ h4) hf hlo hcs.1 hcs.2 hd ?_
  have e1 : Value.int (if Int32.ofInt y < Int32.ofInt x then Int32.ofInt y else Int32.ofInt x) = iv (if y < x then y else x) := by
    by_cases h : y < x
    · rw [if_pos h, if_pos ((iv_lt hy hx).mpr h)]; rfl
    · rw [if_neg h, if_neg (fun q => h ((iv_lt hy hx).mp q))]; rfl
  rw [e1]
  exact kk p e s m args below meth c H locs lz F hR hL hl
/-- the first len places of row b into row a -/
def w_cpy (I : w_Mm) (b a len : Nat) : w_Mm := fun x j => if x = a ∧ j < len then I b j else I x j
theorem w_rngc {a b len : Nat} (h : ∀ a k, inR (I a k)) : ∀ x j, inR (w_cpy I b a len x j) := fun x j => by
  unfold w_cpy
  split
  · exact h b j
  · exact h x j
theorem v_copy {idx a b len : Nat} {x1 x2 x3 : Int} (hTa : G.1 a = (10, len)) (hTb : G.1 b = (10, len)) (hlen : len < 2147483648) (hx1 : x1 = 0) (hx2 : x2 = 0) (hx3 : x3 = (len : Int))
    (h1 : Jvm.Cond.methodLink M.1.cls idx arraycopyName ∈ w_good) (h2 : Jvm.Cond.native arraycopyName ∈ w_good) (h3 : Jvm.Cond.static arraycopyName ∈ w_good) (h4 : Jvm.Cond.initialized "java/lang/System" ∈ w_good) (hf : 1 ≤ R.frames) (hlo : (st.map fun v => v.category).sum + (nativeFrameWords "java/lang/System" "arraycopy" 5 + 11) ≤ R.locals) (hd : Dc M pc (.invokestatic idx) 3 pc')
    (kk : w_V E M R Z G (w_cpy I b a len) k n pc' ls st) : w_V E M R Z G I k n pc ls (iv x3 :: iv x2 :: .ref a :: iv x1 :: .ref b :: st) := by
  obtain ⟨hd, rfl⟩ := hd
  subst hx1; subst hx2; subst hx3
  intro p e s m args below meth c H locs lz F hR hL hl
  have ok : ∀ w ∈ w_good, w.before args s = true := fun w h => F.1.2.2.2.2 w (List.mem_cons_of_mem _ h)
  have hca := w_row hR ⟨by omega, by omega⟩ hTa
  have hcb := w_row hR ⟨by omega, by omega⟩ hTb
  obtain ⟨-, k0, hk0, cm0, hkk0⟩ := (F.2.2.2.1.1.2 0 _ rfl).1 len (fun j => iv (I b j))
  have c0 : (Int32.ofInt 0).toNatClampNeg = 0 := by decide
  have cl : (Int32.ofInt (len : Int)).toNatClampNeg = len := iv_clamp hlen
  have t0 : (Int32.ofInt 0).toInt = 0 := by decide
  have tl : (Int32.ofInt (len : Int)).toInt = (len : Int) := inR_toInt (inR_nat hlen)
  intro T hT X
  obtain ⟨vm', X', step⟩ := X.arraycopy F.1.1 F.1.2.2.2.1 (ok _ h1) (ok _ h2) (ok _ h3) (ok _ h4) (src := b) (dst := a) (cs := arrV (E.2.2.1 0) len (fun j => iv (I b j))) (cd := arrV (E.2.2.1 0) len (fun j => iv (I a j))) (srcPos := Int32.ofInt 0) (destPos := Int32.ofInt 0) (n := Int32.ofInt (len : Int)) (by rw [hT]; exact hcb) (by rw [hT]; exact hca)
    (fun _ h => by cases h) (fun _ h => by cases h) (fun h => by cases h) (fun h => by cases h) hk0 hk0 hkk0 hkk0 (by simp [refKind]) (by decide) (by decide) (iv_nneg (inR_nat hlen) (by omega))
    (by rw [t0, tl, arrV_size]; omega) (by rw [t0, tl, arrV_size]; omega)
    (fun vm₁ _ i hi => by
      rw [cl] at hi
      have e : (arrV (E.2.2.1 0) len (fun j => iv (I b j))).slots.getD ((Int32.ofInt 0).toNatClampNeg + i) .null = iv (I b i) := by
        rw [c0, Nat.zero_add, Array.getD_eq_getD_getElem?, arrV_read _ _ hi]
        rfl
      refine ⟨?_, ?_⟩
      · rw [e]; rfl
      · rw [e]; exact trivial)
    (g := F0 m pc lz (iv (len : Int) :: iv 0 :: .ref a :: iv 0 :: .ref b :: st)) rfl (by rw [F.1.2.2.1]; exact hl.1) (rest := st) rfl (by rw [F.1.2.1]; exact hd) hf (by show 2 * 0 + _ + _ ≤ _; omega)
  have e1 : copied (arrV (E.2.2.1 0) len (fun j => iv (I b j))) (arrV (E.2.2.1 0) len (fun j => iv (I a j))) (Int32.ofInt 0) (Int32.ofInt 0) (Int32.ofInt (len : Int)) = arrV (E.2.2.1 0) len (fun j => iv (va_cpy (I b) (I a) 0 0 len j)) := by
    have := va_copied iv (E.2.2.1 0) (E.2.2.1 0) (n0 := len) (n1 := len) (sp := 0) (dp := 0) (n := len) (I b) (I a) (by omega)
    unfold copied
    rw [c0, cl]
    exact this
  rw [e1] at X' step
  have hla : a < H.size := (Array.getElem?_eq_some_iff.mp hca).1
  have hTa' : (G.1 a).1 < 14 := by rw [hTa]; simp
  obtain ⟨t, a1, b1⟩ := kk p e s m args below meth c (H.setIfInBounds a (arrV (E.2.2.1 0) len (fun j => iv (va_cpy (I b) (I a) 0 0 len j)))) _ lz F (hR.set (I' := w_cpy I b a len) (a := a) hTa' rfl rfl (fun _ _ => rfl) (fun x hx => by funext j; simp [w_cpy, hx]) (fun j => w_rngc hR.2.2.2.1 a j) (by simp) (fun q hq => by simp [Array.getElem?_setIfInBounds, Ne.symm hq]) (by
      rw [hTa]
      unfold w_at
      rw [if_neg (by simp), if_pos (by simp)]
      show (H.setIfInBounds a _)[a]? = some (arrV (E.2.2.1 0) len _)
      rw [Array.getElem?_setIfInBounds, if_pos rfl, if_pos hla]
      congr 2
      funext j
      simp only [va_cpy, w_cpy, Nat.zero_add, Nat.zero_le, true_and, Nat.sub_zero])) (fun q hq => by
      rcases List.mem_append.mp hq with h | h
      · exact hL q h
      · obtain ⟨z, -, hz⟩ := List.mem_map.mp h
        rw [← hz]
        exact hR.2.2.2.2.1 a hTa') hl _ (by rw [← hT]; rfl) X'
  exact ⟨t, step t a1, b1⟩
/-! ===== switches ===== -/
theorem v_tswIn {x dflt lo hi : Int} {offs : Array Int} {len : Nat} (hd : decode M.2.1 pc = .ok (.tableswitch dflt lo hi offs, len)) (hx : inR x) (h1 : lo ≤ x) (h2 : x ≤ hi) (ho : offs[(x - lo).toNat]? = some off) (ht : (pc : Int) + off = (tgt : Int)) (kk : w_V E M R Z G I k n tgt ls st) : w_V E M R Z G I k n pc ls (iv x :: st) := by
  intro p e s m args below meth c H locs lz F hR hL hl
  exact lv_tableIn F.1.1 F.1.2.1 hd (by rw [inR_toInt hx]; omega) (by rw [inR_toInt hx]; omega) (by rw [inR_toInt hx]; exact ho) ht (kk p e s m args below meth c H locs lz F hR hL hl)
theorem v_tswOut {x dflt lo hi : Int} {offs : Array Int} {len : Nat} (hd : decode M.2.1 pc = .ok (.tableswitch dflt lo hi offs, len)) (hx : inR x) (h1 : x < lo ∨ hi < x) (ht : (pc : Int) + dflt = (tgt : Int)) (kk : w_V E M R Z G I k n tgt ls st) : w_V E M R Z G I k n pc ls (iv x :: st) := by
  intro p e s m args below meth c H locs lz F hR hL hl
  exact lv_tableOut F.1.1 F.1.2.1 hd (by rw [inR_toInt hx]; exact h1) ht (kk p e s m args below meth c H locs lz F hR hL hl)
theorem v_lsw {x dflt : Int} {ps : Array (Int × Int)} {len : Nat} (hd : decode M.2.1 pc = .ok (.lookupswitch dflt ps, len)) (hp : (ps.toList.zip (ps.toList.drop 1)).all (fun (a, next) => a.1 < next.1) = true) (hx : inR x) (ho : Op.lookupswitch.offset ps.toList dflt x = off) (ht : (pc : Int) + off = (tgt : Int)) (kk : w_V E M R Z G I k n tgt ls st) : w_V E M R Z G I k n pc ls (iv x :: st) := by
  intro p e s m args below meth c H locs lz F hR hL hl
  exact lv_lookup F.1.1 F.1.2.1 hd hp (by rw [inR_toInt hx]; exact ho) ht (kk p e s m args below meth c H locs lz F hR hL hl)
/-! ===== the law's script ===== -/
theorem v_sld {i : Nat} {x : Int} (hx : x = (i : Int)) (hi : i < E.2.2.2.2.2.1) (hlen : E.2.2.2.2.2.1 < 2147483648) (hd : Dc M pc .iaload 1 pc') (kk : w_V E M R Z G I k n pc' ls (iv (E.2.2.2.2.2.2 i).toInt :: st)) : w_V E M R Z G I k n pc ls (iv x :: .ref E.2.2.2.2.1 :: st) := by
  obtain ⟨hd, rfl⟩ := hd
  intro p e s m args below meth c H locs lz F hR hL hl
  obtain ⟨h1, h2⟩ := w_ix hx hi hlen
  obtain ⟨⟨scr, g1, g2, g3, g4, g5⟩, hb⟩ := F.2.2.2.1.2.2.2.2
  have hk := kk p e s m args below meth c H locs lz F hR hL hl
  rw [← iv_of] at hk
  exact W.iald (v := .int (E.2.2.2.2.2.2 i)) F.1.1 F.1.2.1 (by rw [hR.2.2.2.2.2 _ hb]; exact g1) g2 g3 (by rw [g4]; exact h1) (by rw [h2]; exact g5 i hi) rfl rfl hd hk
theorem v_slen (hlen : E.2.2.2.2.2.1 < 2147483648) (hd : Dc M pc .arraylength 1 pc') (kk : w_V E M R Z G I k n pc' ls (iv (E.2.2.2.2.2.1 : Int) :: st)) : w_V E M R Z G I k n pc ls (.ref E.2.2.2.2.1 :: st) := by
  obtain ⟨hd, rfl⟩ := hd
  intro p e s m args below meth c H locs lz F hR hL hl
  obtain ⟨⟨scr, g1, g2, g3, g4, g5⟩, hb⟩ := F.2.2.2.1.2.2.2.2
  have hk := kk p e s m args below meth c H locs lz F hR hL hl
  exact W.alen (n := Int32.ofInt (E.2.2.2.2.2.1 : Int)) F.1.1 F.1.2.1 (by rw [hR.2.2.2.2.2 _ hb]; exact g1) g2 (by rw [g4, Int32.ofInt_eq_ofNat]) rfl rfl hd hk
end More
