/-! ===== answers ===== -/
def w_Pi (post : Int → w_Sh → w_Mm → Prop) : Option Value → w_Sh → w_Mm → Prop := fun v G I => ∃ z, v = some (iv z) ∧ inR z ∧ post z G I
def w_Pv (post : w_Sh → w_Mm → Prop) : Option Value → w_Sh → w_Mm → Prop := fun v G I => v = none ∧ post G I
def w_Pr (post : Option Nat → w_Sh → w_Mm → Prop) : Option Value → w_Sh → w_Mm → Prop := fun v G I => ∃ o, v = some (va_rf o) ∧ post o G I
section Calls
variable {E : w_E} {M : w_M} {R : Room} {Z : List Frame → Array Value → State → State → Prop} {G G' : w_Sh} {I I' : w_Mm} {k n pc pc' tgt d mc ms : Nat} {off : Int} {ls ls' : List (Option Value)} {st : List Value}
theorem v_iret {z : Int} {post : Int → w_Sh → w_Mm → Prop} (hM : M.2.2.2 = some .int) (hk : k ≤ mc) (hn : n ≤ ms) (hz : inR z) (hd : Dc M pc .ireturn 1 pc') (hp : post z G I) : w_V E M R (w_Z E mc ms (w_Pi post)) G I k n pc ls [iv z] := by
  obtain ⟨hd, rfl⟩ := hd
  intro p e s m args below meth c H locs lz F hR hL hl
  refine W.widen hk hn ?_
  exact W.iret F.1.1 F.1.2.1 (by rw [F.2.1, hM]) (fun t ht _ => ⟨_, G, I, rfl, by rw [ht]; exact hR, z, rfl, hz, hp⟩) hL hd F.2.2.1
theorem v_zret {z : Int} {post : Int → w_Sh → w_Mm → Prop} (hM : M.2.2.2 = some .boolean) (hk : k ≤ mc) (hn : n ≤ ms) (hz : z = 0 ∨ z = 1) (hd : Dc M pc .ireturn 1 pc') (hp : post z G I) : w_V E M R (w_Z E mc ms (w_Pi post)) G I k n pc ls [iv z] := by
  obtain ⟨hd, rfl⟩ := hd
  intro p e s m args below meth c H locs lz F hR hL hl
  refine W.widen hk hn ?_
  exact W.zret F.1.1 F.1.2.1 (by rw [F.2.1, hM]) (w_nar hz).1 (fun t ht _ => ⟨_, G, I, rfl, by rw [ht]; exact hR, z, rfl, ⟨by omega, by omega⟩, hp⟩) hL hd F.2.2.1
theorem v_vret {post : w_Sh → w_Mm → Prop} (hM : M.2.2.2 = none) (hk : k ≤ mc) (hn : n ≤ ms) (hd : Dc M pc .return_ 1 pc') (hp : post G I) : w_V E M R (w_Z E mc ms (w_Pv post)) G I k n pc ls [] := by
  obtain ⟨hd, rfl⟩ := hd
  intro p e s m args below meth c H locs lz F hR hL hl
  refine W.widen hk hn ?_
  exact W.vret F.1.1 F.1.2.1 (by rw [F.2.1, hM]) (fun t ht _ => ⟨_, G, I, rfl, by rw [ht]; exact hR, rfl, hp⟩) hL hd F.2.2.1
theorem v_aret {o : Option Nat} {C : String} {post : Option Nat → w_Sh → w_Mm → Prop} (hM : M.2.2.2 = some (.object C)) (hk : k ≤ mc) (hn : n ≤ ms) (hd : Dc M pc .areturn 1 pc') (hp : post o G I) : w_V E M R (w_Z E mc ms (w_Pr post)) G I k n pc ls [va_rf o] := by
  obtain ⟨hd, rfl⟩ := hd
  intro p e s m args below meth c H locs lz F hR hL hl
  refine W.widen hk hn ?_
  exact W.aret (rt := .object C) F.1.1 F.1.2.1 (by rw [F.2.1, hM]) (Or.inl ⟨_, rfl⟩) (by cases o; exact Or.inl rfl; exact Or.inr ⟨_, rfl⟩) (fun t ht _ => ⟨_, G, I, rfl, by rw [ht]; exact hR, o, rfl, hp⟩) hL hd F.2.2.1
/-! ===== calls ===== -/
theorem w_GI {M M' : w_M} (h : Jvm.Cond.code M'.1 M'.2.1 M'.2.2.1 M'.2.2.2 ∈ w_good) : GoodIn (w_ws M) (w_ws M') := by
  intro w hw
  have hg : w ∈ w_good := by
    rcases List.mem_cons.mp hw with e | e
    · rw [e]; exact h
    · exact e
  exact ⟨List.mem_cons_of_mem _ hg, good_of_word (List.mem_filter.mp hg).2⟩
theorem w_good_of {M : w_M} {w : Jvm.Cond} (h : w ∈ w_good) : w ∈ w_ws M ∧ ((w.onTables && w.keeps) = true ∨ ∃ ty, w = .arrayClass ty) := ⟨List.mem_cons_of_mem _ h, good_of_word (List.mem_filter.mp h).2⟩
theorem w_blind (as : List Value) : FrameBlind (w_Pc E as G I) := fun a U g mk q => ⟨q.1, q.2.1, w_K.same (u := U) (U := U.calling g mk a) rfl q.2.2⟩
/-- what a call needs of the callee: its words -/
def w_mw (M' : w_M) (nA : Nat) : Prop := Jvm.Cond.code M'.1 M'.2.1 M'.2.2.1 M'.2.2.2 ∈ w_good ∧ Jvm.Cond.initialized M'.1.cls ∈ w_good ∧ (M'.1.cls ≠ "java/lang/invoke/MethodHandle" ∧ M'.1.cls ≠ "java/lang/invoke/VarHandle") ∧ (parseMethodDescriptor M'.1.desc).map (fun d => d.parameters.length) = some nA
/-- .. of one that belongs to an object of number ci -/
def w_mv (ci : Nat) (M' : w_M) : Prop := (∃ q, w_cl[ci]? = some q ∧ q.1 = M'.1.cls) ∧ Jvm.Cond.instanceMethod M'.1 ∈ w_good ∧ Jvm.Cond.selects M'.1.cls M'.1 M'.1 ∈ w_good
def w_lk (C : String) (idx : Nat) (M' : w_M) : Prop := Jvm.Cond.methodLink C idx M'.1 ∈ w_good ∨ ∃ host, Jvm.Cond.methodLinkNest C idx M'.1 host ∈ w_nw
theorem w_after {Post : Option Value → w_Sh → w_Mm → Prop} {p : Program} {e : Env} {s : State} {m : MethodId} {args : Array Value} {below : List Frame} {meth : Method} {c : Code} {H : Heap} {locs : List Loc} {lz : Array Slot} {st0 rest : List Value} {a : Array Value}
    (hr : va_Run p E.1 e R s m args below meth c H locs k n mc ms (F0 m pc lz st0) rest (w_Qc E Post a) (fun q => E.2.2.2.1.size ≤ q)) (F : w_Fix E M p s m meth c args) (hL : ∀ q ∈ locs, E.2.2.2.1.size ≤ q.base) (hl : w_has lz M.2.2.1 ls)
    (kk : ∀ (v : Option Value) (G' : w_Sh) (I' : w_Mm), Post v G' I' → (∀ a k, inR (I' a k)) → w_V E M R Z G' I' (k + mc) (n + ms) (pc + 3) ls (v.toList ++ rest)) :
    W p E.1 e R s m args below meth c H locs k n (Z below args s) (F0 m pc lz st0) := by
  intro T hT X
  obtain ⟨v, st₀, t, T', L, h0, X', hLL, e1, e2, ⟨v', G', I', hv, hR', hp⟩, stp⟩ := hr T hT X
  cases hv
  obtain ⟨t2, a1, b1⟩ := kk v G' I' hp hR'.2.2.2.1 p e s m args below meth c T'.heap (locs ++ L) lz F (by rw [e1]; exact hR') (fun q hq => by
    rcases List.mem_append.mp hq with h | h
    · exact hL q h
    · exact hLL q h) hl T' rfl X'
  exact ⟨t2, stp t2 a1, b1⟩
theorem v_callV {Post : Option Value → w_Sh → w_Mm → Prop} {M' : w_M} {idx ci nA b : Nat} {As st0 : List Value} (hC : w_Ct E M' d (.ref b :: As) G I mc ms Post) (hw : w_mw M' nA) (hv : w_mv ci M') (hk : w_lk M.1.cls idx M') (hT : G.1 b = (ci, 0)) (hn : As.length = nA) (hst : st0 = As.reverse ++ .ref b :: st)
    (hf : d + 1 ≤ R.frames) (hlo : 8 + (M'.2.2.1 + 11) + 40 * d ≤ R.locals) (hcs : k + mc ≤ R.cells ∧ n + ms ≤ R.slots) (hrest : (st.map fun v => v.category).sum ≤ 8) (hd : Dc M pc (.invokevirtual idx) 3 pc')
    (kk : ∀ (v : Option Value) (G' : w_Sh) (I' : w_Mm), Post v G' I' → (∀ a k, inR (I' a k)) → w_V E M R Z G' I' (k + mc) (n + ms) pc' ls (v.toList ++ st)) : w_V E M R Z G I k n pc ls st0 := by
  obtain ⟨hd, rfl⟩ := hd
  subst hst
  intro p e s m args below meth c H locs lz F hR hL hl
  obtain ⟨hcode, hini, hnm, hds⟩ := hw
  obtain ⟨⟨q, hc, hqc⟩, hinst, hsel⟩ := hv
  have hts := F.1.2.2.2.2
  have ok : ∀ w ∈ w_good, w.before args s = true := fun w h => hts w (List.mem_cons_of_mem _ h)
  obtain ⟨cell, g1, g2, g3, -⟩ := w_obj hR hc hT
  have hrecv : ∃ cellB : Cell, H[b]? = some cellB ∧ cellB.vm.isStatics = false ∧ s.vm.findClass M'.1.cls = some cellB.cls := ⟨cell, g1, by rw [g3]; rfl, by rw [g2, ← hqc]; exact (F.2.2.2.1.1.1 ci q hc).2.1⟩
  have hpre : PreV s H M'.1.cls b (w_Pc E (.ref b :: As) G I) As := ⟨w_blind _, hrecv, fun U hU hW => ⟨rfl, by rw [hU]; exact hR, F.2.2.2.1.warm hW⟩⟩
  rcases hk with hk | ⟨host, hk⟩
  · refine w_after (va_runV (nL := M.2.2.1) (Ts := w_ws M) F.1 hC (cwV nA hts (fun w h => ?_) rfl rfl rfl ⟨rfl, hnm.1, hnm.2, hds⟩ ⟨hf, hlo⟩) hpre rfl hn hl.1 rfl (lv_room hrest) hd hcs) F hL hl kk
    unfold wsV at h
    rcases List.mem_append.mp h with h | h
    · have hg : w ∈ w_good := by
        simp only [List.mem_cons, List.not_mem_nil, or_false] at h
        rcases h with h | h | h | h <;> rw [h] <;> assumption
      exact w_good_of hg
    · exact w_GI hcode w h
  · refine w_after (va_runVN (nL := M.2.2.1) (Ts := w_ws M) (host := host) F.1 hC ⟨va_cnB nA hts (w_GI hcode) rfl rfl rfl (F.2.2.2.1.2.1 _ hk) (ok _ hini) ⟨hnm.1, hnm.2, hds⟩ ⟨hf, hlo⟩, ok _ hinst, ok _ hsel⟩ hpre rfl hn hl.1 rfl (lv_room hrest) hd hcs) F hL hl kk
theorem v_callS {Post : Option Value → w_Sh → w_Mm → Prop} {M' : w_M} {idx nA : Nat} {As st0 : List Value} (hC : w_Ct E M' d As G I mc ms Post) (hw : w_mw M' nA) (hs : Jvm.Cond.static M'.1 ∈ w_good) (hk : w_lk M.1.cls idx M') (hn : As.length = nA) (hst : st0 = As.reverse ++ st)
    (hf : d + 1 ≤ R.frames) (hlo : 8 + (M'.2.2.1 + 11) + 40 * d ≤ R.locals) (hcs : k + mc ≤ R.cells ∧ n + ms ≤ R.slots) (hrest : (st.map fun v => v.category).sum ≤ 8) (hd : Dc M pc (.invokestatic idx) 3 pc')
    (kk : ∀ (v : Option Value) (G' : w_Sh) (I' : w_Mm), Post v G' I' → (∀ a k, inR (I' a k)) → w_V E M R Z G' I' (k + mc) (n + ms) pc' ls (v.toList ++ st)) : w_V E M R Z G I k n pc ls st0 := by
  obtain ⟨hd, rfl⟩ := hd
  subst hst
  intro p e s m args below meth c H locs lz F hR hL hl
  obtain ⟨hcode, hini, hnm, hds⟩ := hw
  have hts := F.1.2.2.2.2
  have ok : ∀ w ∈ w_good, w.before args s = true := fun w h => hts w (List.mem_cons_of_mem _ h)
  have hpre : PreS s H (w_Pc E As G I) As := ⟨w_blind _, fun U hU hW => ⟨rfl, by rw [hU]; exact hR, F.2.2.2.1.warm hW⟩⟩
  rcases hk with hk | ⟨host, hk⟩
  · exact w_after (va_runS (nL := M.2.2.1) (Ts := w_ws M) F.1 hC ⟨callB_of nA hts (w_GI hcode) rfl rfl rfl (ok _ hini) (ok _ hk) ⟨hnm.1, hnm.2, hds⟩ ⟨hf, hlo⟩, ok _ hs⟩ hpre rfl hn hl.1 rfl (lv_room hrest) hd hcs) F hL hl kk
  · exact w_after (va_runSN (nL := M.2.2.1) (Ts := w_ws M) (host := host) F.1 hC ⟨va_cnB nA hts (w_GI hcode) rfl rfl rfl (F.2.2.2.1.2.1 _ hk) (ok _ hini) ⟨hnm.1, hnm.2, hds⟩ ⟨hf, hlo⟩, ok _ hs, trivial⟩ hpre rfl hn hl.1 rfl (lv_room hrest) hd hcs) F hL hl kk
theorem v_callI {Post : Option Value → w_Sh → w_Mm → Prop} {M' : w_M} {idx nA b : Nat} {As st0 : List Value} (hC : w_Ct E M' d (.ref b :: As) G I mc ms Post) (hw : w_mw M' nA) (hret : M'.2.2.2 = none) (hni : M'.1.name = "<init>") (hi : Jvm.Cond.instanceMethod M'.1 ∈ w_good) (hk : w_lk M.1.cls idx M') (hn : As.length = nA) (hst : st0 = As.reverse ++ .ref b :: st)
    (hf : d + 1 ≤ R.frames) (hlo : 8 + (M'.2.2.1 + 11) + 40 * d ≤ R.locals) (hcs : k + mc ≤ R.cells ∧ n + ms ≤ R.slots) (hrest : (st.map fun v => v.category).sum ≤ 8) (hd : Dc M pc (.invokespecial idx) 3 pc')
    (kk : ∀ (v : Option Value) (G' : w_Sh) (I' : w_Mm), Post v G' I' → (∀ a k, inR (I' a k)) → w_V E M R Z G' I' (k + mc) (n + ms) pc' ls (v.toList ++ st)) : w_V E M R Z G I k n pc ls st0 := by
  obtain ⟨hd, rfl⟩ := hd
  subst hst
  intro p e s m args below meth c H locs lz F hR hL hl
  obtain ⟨hcode, hini, hnm, hds⟩ := hw
  have hts := F.1.2.2.2.2
  have ok : ∀ w ∈ w_good, w.before args s = true := fun w h => hts w (List.mem_cons_of_mem _ h)
  have hpre : PreS s H (w_Pc E (.ref b :: As) G I) (.ref b :: As) := ⟨w_blind _, fun U hU hW => ⟨rfl, by rw [hU]; exact hR, F.2.2.2.1.warm hW⟩⟩
  have hws : w_ws M' = Jvm.Cond.code M'.1 M'.2.1 M'.2.2.1 none :: w_good := by rw [← hret]; rfl
  rcases hk with hk | ⟨host, hk⟩
  · exact w_after (va_runI (nL := M.2.2.1) (Ts := w_ws M) F.1 hC ⟨callB_of nA hts (w_GI hcode) hws rfl rfl (ok _ hini) (ok _ hk) ⟨hnm.1, hnm.2, hds⟩ ⟨hf, hlo⟩, hni, ok _ hi⟩ hpre rfl hn hl.1 rfl (lv_room hrest) hd hcs) F hL hl kk
  · exact w_after (va_runIN (nL := M.2.2.1) (Ts := w_ws M) (host := host) F.1 hC ⟨va_cnB nA hts (w_GI hcode) hws rfl rfl (F.2.2.2.1.2.1 _ hk) (ok _ hini) ⟨hnm.1, hnm.2, hds⟩ ⟨hf, hlo⟩, hni, ok _ hi⟩ hpre rfl hn hl.1 rfl (lv_room hrest) hd hcs) F hL hl kk
end Calls
