/-! ===== contracts of a simple form, and rules with the value named ===== -/
abbrev w_Cb (E : w_E) (M : w_M) (d : Nat) (as : List Value) (G : w_Sh) (I : w_Mm) (P : Prop) : Prop := w_Ct E M d as G I 0 0 (w_Pi (fun r G' I' => G' = G ∧ I' = I ∧ ((r = 1 ∧ P) ∨ (r = 0 ∧ ¬ P))))
section Ctr
variable {E : w_E} {M : w_M} {R : Room} {Z : List Frame → Array Value → State → State → Prop} {G G' : w_Sh} {I I' : w_Mm} {k n pc pc' tgt d mc ms : Nat} {off : Int} {ls ls' : List (Option Value)} {st : List Value}
theorem v_Vb {M' : w_M} {idx ci nA b : Nat} {As st0 : List Value} {P : Prop} (hC : w_Cb E M' d (.ref b :: As) G I P) (hw : w_cV M.1.cls idx ci M' nA) (hT : G.1 b = (ci, 0)) (hn : As.length = nA) (hst : st0 = As.reverse ++ .ref b :: st)
    (hro : w_ro R d M') (hcs : k ≤ R.cells ∧ n ≤ R.slots) (hrest : (st.map fun v => v.category).sum ≤ 8) (hd : Dc M pc (.invokevirtual idx) 3 pc')
    (k1 : P → w_V E M R Z G I k n pc' ls (iv 1 :: st)) (k0 : ¬ P → w_V E M R Z G I k n pc' ls (iv 0 :: st)) : w_V E M R Z G I k n pc ls st0 :=
  v_Vi hC hw hT hn hst hro hcs hrest hd (fun z G' I' hz hp hr => by
    obtain ⟨rfl, rfl, ⟨rfl, h⟩ | ⟨rfl, h⟩⟩ := hp
    · exact k1 h
    · exact k0 h)
theorem v_Sb {M' : w_M} {idx nA : Nat} {As st0 : List Value} {P : Prop} (hC : w_Cb E M' d As G I P) (hw : w_cS M.1.cls idx M' nA) (hn : As.length = nA) (hst : st0 = As.reverse ++ st)
    (hro : w_ro R d M') (hcs : k ≤ R.cells ∧ n ≤ R.slots) (hrest : (st.map fun v => v.category).sum ≤ 8) (hd : Dc M pc (.invokestatic idx) 3 pc')
    (k1 : P → w_V E M R Z G I k n pc' ls (iv 1 :: st)) (k0 : ¬ P → w_V E M R Z G I k n pc' ls (iv 0 :: st)) : w_V E M R Z G I k n pc ls st0 :=
  v_Si hC hw hn hst hro hcs hrest hd (fun z G' I' hz hp hr => by
    obtain ⟨rfl, rfl, ⟨rfl, h⟩ | ⟨rfl, h⟩⟩ := hp
    · exact k1 h
    · exact k0 h)
theorem v_VmN {M' : w_M} {idx ci nA b : Nat} {As st0 : List Value} {z : Int} {I1 : w_Mm} (hC : w_Cm E M' d (.ref b :: As) G I z I1) (hw : w_cV M.1.cls idx ci M' nA) (hT : G.1 b = (ci, 0)) (hn : As.length = nA) (hst : st0 = As.reverse ++ .ref b :: st)
    (hro : w_ro R d M') (hcs : k ≤ R.cells ∧ n ≤ R.slots) (hrest : (st.map fun v => v.category).sum ≤ 8) (hd : Dc M pc (.invokevirtual idx) 3 pc')
    (kk : ∀ r, r = z → inR r → (∀ a k, inR (I1 a k)) → w_V E M R Z G I1 k n pc' ls (iv r :: st)) : w_V E M R Z G I k n pc ls st0 := v_Vm hC hw hT hn hst hro hcs hrest hd (kk z rfl)
theorem v_SmN {M' : w_M} {idx nA : Nat} {As st0 : List Value} {z : Int} {I1 : w_Mm} (hC : w_Cm E M' d As G I z I1) (hw : w_cS M.1.cls idx M' nA) (hn : As.length = nA) (hst : st0 = As.reverse ++ st)
    (hro : w_ro R d M') (hcs : k ≤ R.cells ∧ n ≤ R.slots) (hrest : (st.map fun v => v.category).sum ≤ 8) (hd : Dc M pc (.invokestatic idx) 3 pc')
    (kk : ∀ r, r = z → inR r → (∀ a k, inR (I1 a k)) → w_V E M R Z G I1 k n pc' ls (iv r :: st)) : w_V E M R Z G I k n pc ls st0 := v_Sm hC hw hn hst hro hcs hrest hd (kk z rfl)
theorem v_getI' {idx ci f a : Nat} {v : Int} (hv : I a f = v) (hf : w_fl M.1.cls idx ci f) (hr : w_ref ci f = false) (hT : G.1 a = (ci, 0)) (hd : Dc M pc (.getfield idx) 3 pc') (kk : w_V E M R Z G I k n pc' ls (iv v :: st)) : w_V E M R Z G I k n pc ls (.ref a :: st) := v_getI hf hr hT hd (hv ▸ kk)
theorem v_iald' {a len i : Nat} {x v : Int} (hv : I a i = v) (hT : G.1 a = (10, len)) (hx : x = (i : Int)) (hi : i < len) (hlen : len < 2147483648) (hd : Dc M pc .iaload 1 pc') (kk : w_V E M R Z G I k n pc' ls (iv v :: st)) : w_V E M R Z G I k n pc ls (iv x :: .ref a :: st) := v_iald hT hx hi hlen hd (hv ▸ kk)
theorem v_zald' {a len i : Nat} {x v : Int} (hv : I a i = v) (hT : G.1 a = (11, len)) (hx : x = (i : Int)) (hi : i < len) (hlen : len < 2147483648) (hd : Dc M pc .baload 1 pc') (kk : w_V E M R Z G I k n pc' ls (iv v :: st)) : w_V E M R Z G I k n pc ls (iv x :: .ref a :: st) := v_zald hT hx hi hlen hd (hv ▸ kk)
/-- another form of the value on top, of the memory -/
theorem v_top {x y : Int} (h : x = y) (kk : w_V E M R Z G I k n pc ls (iv y :: st)) : w_V E M R Z G I k n pc ls (iv x :: st) := h ▸ kk
theorem v_mem (h : I = I') (kk : w_V E M R Z G I' k n pc ls st) : w_V E M R Z G I k n pc ls st := h ▸ kk
theorem v_ls (h : ls = ls') (kk : w_V E M R Z G I k n pc ls' st) : w_V E M R Z G I k n pc ls st := h ▸ kk
end Ctr
