/-! ===== rules: one instruction each ===== -/
def Dc (M : w_M) (pc : Nat) (ins : Instr) (len pc' : Nat) : Prop := decode M.2.1 pc = .ok (ins, len) ∧ pc + len = pc'
def Dj (M : w_M) (pc : Nat) (ins : Instr) (len pc' : Nat) (off : Int) (tgt : Nat) : Prop := decode M.2.1 pc = .ok (ins, len) ∧ pc + len = pc' ∧ (pc : Int) + off = (tgt : Int)
section Rules
variable {E : w_E} {M : w_M} {R : Room} {Z : List Frame → Array Value → State → State → Prop} {G : w_Sh} {I : w_Mm} {k n pc pc' tgt : Nat} {off : Int} {ls ls' : List (Option Value)} {st : List Value}
theorem v_iconst {z : Int} (hd : Dc M pc (.iconst z) 1 pc') (kk : w_V E M R Z G I k n pc' ls (iv z :: st)) : w_V E M R Z G I k n pc ls st := by
  obtain ⟨hd, rfl⟩ := hd
  intro p e s m args below meth c H locs lz F hR hL hl
  exact lv_iconst F.1.1 F.1.2.1 hd rfl (kk p e s m args below meth c H locs lz F hR hL hl)
theorem v_bipush {z : Int} (hd : Dc M pc (.bipush z) 2 pc') (hv : (Int8.ofInt z).toInt32 = Int32.ofInt z) (kk : w_V E M R Z G I k n pc' ls (iv z :: st)) : w_V E M R Z G I k n pc ls st := by
  obtain ⟨hd, rfl⟩ := hd
  intro p e s m args below meth c H locs lz F hR hL hl
  exact lv_bipush F.1.1 F.1.2.1 hd hv (kk p e s m args below meth c H locs lz F hR hL hl)
theorem v_sipush {z : Int} (hd : Dc M pc (.sipush z) 3 pc') (hv : (Int16.ofInt z).toInt32 = Int32.ofInt z) (kk : w_V E M R Z G I k n pc' ls (iv z :: st)) : w_V E M R Z G I k n pc ls st := by
  obtain ⟨hd, rfl⟩ := hd
  intro p e s m args below meth c H locs lz F hR hL hl
  exact lv_sipush F.1.1 F.1.2.1 hd hv (kk p e s m args below meth c H locs lz F hR hL hl)
theorem v_ldc {z : Int} {idx : Nat} (hw : Jvm.Cond.constant M.1.cls idx (Int32.ofInt z) ∈ w_good) (hd : Dc M pc (.ldc idx) 2 pc') (kk : w_V E M R Z G I k n pc' ls (iv z :: st)) : w_V E M R Z G I k n pc ls st := by
  obtain ⟨hd, rfl⟩ := hd
  intro p e s m args below meth c H locs lz F hR hL hl
  exact lv_ldc F.1.1 F.1.2.1 F.1.2.2.2.1 (F.1.2.2.2.2 _ (List.mem_cons_of_mem _ hw)) hd (kk p e s m args below meth c H locs lz F hR hL hl)
theorem v_iload_n {q : Fin 4} {z : Int} (hd : Dc M pc (.iload_n q) 1 pc') (hv : ls[(q : Nat)]? = some (some (iv z))) (kk : w_V E M R Z G I k n pc' ls (iv z :: st)) : w_V E M R Z G I k n pc ls st := by
  obtain ⟨hd, rfl⟩ := hd
  intro p e s m args below meth c H locs lz F hR hL hl
  exact lv_iload_n F.1.1 F.1.2.1 hd rfl (hl.2.2 _ _ hv).1 (kk p e s m args below meth c H locs lz F hR hL hl)
theorem v_iload {q : Nat} {z : Int} (hd : Dc M pc (.iload q) 2 pc') (hv : ls[q]? = some (some (iv z))) (kk : w_V E M R Z G I k n pc' ls (iv z :: st)) : w_V E M R Z G I k n pc ls st := by
  obtain ⟨hd, rfl⟩ := hd
  intro p e s m args below meth c H locs lz F hR hL hl
  exact lv_iload F.1.1 F.1.2.1 hd (hl.2.2 _ _ hv).1 (kk p e s m args below meth c H locs lz F hR hL hl)
theorem v_aload_n {q : Fin 4} {a : Nat} (hd : Dc M pc (.aload_n q) 1 pc') (hv : ls[(q : Nat)]? = some (some (.ref a))) (kk : w_V E M R Z G I k n pc' ls (.ref a :: st)) : w_V E M R Z G I k n pc ls st := by
  obtain ⟨hd, rfl⟩ := hd
  intro p e s m args below meth c H locs lz F hR hL hl
  exact lv_aload_n F.1.1 F.1.2.1 hd rfl (hl.2.2 _ _ hv).1 (kk p e s m args below meth c H locs lz F hR hL hl)
theorem v_aload_nN {q : Fin 4} (hd : Dc M pc (.aload_n q) 1 pc') (hv : ls[(q : Nat)]? = some (some .null)) (kk : w_V E M R Z G I k n pc' ls (.null :: st)) : w_V E M R Z G I k n pc ls st := by
  obtain ⟨hd, rfl⟩ := hd
  intro p e s m args below meth c H locs lz F hR hL hl
  exact lv_aload_nN F.1.1 F.1.2.1 hd rfl (hl.2.2 _ _ hv).1 (kk p e s m args below meth c H locs lz F hR hL hl)
theorem v_aload {q : Nat} {a : Nat} (hd : Dc M pc (.aload q) 2 pc') (hv : ls[q]? = some (some (.ref a))) (kk : w_V E M R Z G I k n pc' ls (.ref a :: st)) : w_V E M R Z G I k n pc ls st := by
  obtain ⟨hd, rfl⟩ := hd
  intro p e s m args below meth c H locs lz F hR hL hl
  exact lv_aload F.1.1 F.1.2.1 hd (hl.2.2 _ _ hv).1 (kk p e s m args below meth c H locs lz F hR hL hl)
theorem v_aloadN {q : Nat} (hd : Dc M pc (.aload q) 2 pc') (hv : ls[q]? = some (some .null)) (kk : w_V E M R Z G I k n pc' ls (.null :: st)) : w_V E M R Z G I k n pc ls st := by
  obtain ⟨hd, rfl⟩ := hd
  intro p e s m args below meth c H locs lz F hR hL hl
  exact lv_aloadN F.1.1 F.1.2.1 hd (hl.2.2 _ _ hv).1 (kk p e s m args below meth c H locs lz F hR hL hl)
theorem v_istore_n {q : Fin 4} {z : Int} (hd : Dc M pc (.istore_n q) 1 pc') (hn : (q : Nat) < M.2.2.1) (hs : ls.set (q : Nat) (some (iv z)) = ls') (kk : w_V E M R Z G I k n pc' ls' st) : w_V E M R Z G I k n pc ls (iv z :: st) := by
  obtain ⟨hd, rfl⟩ := hd
  subst hs
  intro p e s m args below meth c H locs lz F hR hL hl
  exact lv_istore_n F.1.1 F.1.2.1 hd rfl hl.lv hn rfl (fun lz' h' => kk p e s m args below meth c H locs lz' F hR hL (hl.st h' rfl))
theorem v_istore {q : Nat} {z : Int} (hd : Dc M pc (.istore q) 2 pc') (hn : q < M.2.2.1) (hs : ls.set q (some (iv z)) = ls') (kk : w_V E M R Z G I k n pc' ls' st) : w_V E M R Z G I k n pc ls (iv z :: st) := by
  obtain ⟨hd, rfl⟩ := hd
  subst hs
  intro p e s m args below meth c H locs lz F hR hL hl
  exact lv_istore F.1.1 F.1.2.1 hd hl.lv hn rfl (fun lz' h' => kk p e s m args below meth c H locs lz' F hR hL (hl.st h' rfl))
theorem v_astore_n {q : Fin 4} {a : Nat} (hd : Dc M pc (.astore_n q) 1 pc') (hn : (q : Nat) < M.2.2.1) (hs : ls.set (q : Nat) (some (.ref a)) = ls') (kk : w_V E M R Z G I k n pc' ls' st) : w_V E M R Z G I k n pc ls (.ref a :: st) := by
  obtain ⟨hd, rfl⟩ := hd
  subst hs
  intro p e s m args below meth c H locs lz F hR hL hl
  exact lv_astore_n F.1.1 F.1.2.1 hd rfl hl.lv hn rfl (fun lz' h' => kk p e s m args below meth c H locs lz' F hR hL (hl.st h' rfl))
theorem v_astore_nN {q : Fin 4} (hd : Dc M pc (.astore_n q) 1 pc') (hn : (q : Nat) < M.2.2.1) (hs : ls.set (q : Nat) (some .null) = ls') (kk : w_V E M R Z G I k n pc' ls' st) : w_V E M R Z G I k n pc ls (.null :: st) := by
  obtain ⟨hd, rfl⟩ := hd
  subst hs
  intro p e s m args below meth c H locs lz F hR hL hl
  exact lv_astore_nN F.1.1 F.1.2.1 hd rfl hl.lv hn rfl (fun lz' h' => kk p e s m args below meth c H locs lz' F hR hL (hl.st h' rfl))
theorem v_astore {q : Nat} {a : Nat} (hd : Dc M pc (.astore q) 2 pc') (hn : q < M.2.2.1) (hs : ls.set q (some (.ref a)) = ls') (kk : w_V E M R Z G I k n pc' ls' st) : w_V E M R Z G I k n pc ls (.ref a :: st) := by
  obtain ⟨hd, rfl⟩ := hd
  subst hs
  intro p e s m args below meth c H locs lz F hR hL hl
  exact lv_astore F.1.1 F.1.2.1 hd hl.lv hn rfl (fun lz' h' => kk p e s m args below meth c H locs lz' F hR hL (hl.st h' rfl))
theorem v_astoreN {q : Nat} (hd : Dc M pc (.astore q) 2 pc') (hn : q < M.2.2.1) (hs : ls.set q (some .null) = ls') (kk : w_V E M R Z G I k n pc' ls' st) : w_V E M R Z G I k n pc ls (.null :: st) := by
  obtain ⟨hd, rfl⟩ := hd
  subst hs
  intro p e s m args below meth c H locs lz F hR hL hl
  exact lv_astoreN F.1.1 F.1.2.1 hd hl.lv hn rfl (fun lz' h' => kk p e s m args below meth c H locs lz' F hR hL (hl.st h' rfl))
theorem v_iinc {q : Nat} {x y z : Int} (hd : Dc M pc (.iinc q x) 3 pc') (hv : ls[q]? = some (some (iv y))) (hn : q < M.2.2.1) (hz : y + x = z) (hs : ls.set q (some (iv z)) = ls') (kk : w_V E M R Z G I k n pc' ls' st) : w_V E M R Z G I k n pc ls st := by
  obtain ⟨hd, rfl⟩ := hd
  subst hs
  subst hz
  intro p e s m args below meth c H locs lz F hR hL hl
  obtain ⟨j, hj⟩ := List.getElem?_of_mem (w_lst_mem (q := (q, iv y)).mpr hv)
  exact lv_iinc F.1.1 F.1.2.1 hd hl.lv hj (iv_add y x) hn rfl (fun lz' h' => kk p e s m args below meth c H locs lz' F hR hL (hl.st h' rfl))
theorem v_iadd {x y : Int} (hd : Dc M pc .iadd 1 pc') (kk : w_V E M R Z G I k n pc' ls (iv (x + y) :: st)) : w_V E M R Z G I k n pc ls (iv y :: iv x :: st) := by
  obtain ⟨hd, rfl⟩ := hd
  intro p e s m args below meth c H locs lz F hR hL hl
  refine lv_iadd F.1.1 F.1.2.1 hd ?_
  rw [iv_add]
  exact kk p e s m args below meth c H locs lz F hR hL hl
theorem v_isub {x y : Int} (hd : Dc M pc .isub 1 pc') (kk : w_V E M R Z G I k n pc' ls (iv (x - y) :: st)) : w_V E M R Z G I k n pc ls (iv y :: iv x :: st) := by
  obtain ⟨hd, rfl⟩ := hd
  intro p e s m args below meth c H locs lz F hR hL hl
  refine lv_isub F.1.1 F.1.2.1 hd ?_
  rw [iv_sub]
  exact kk p e s m args below meth c H locs lz F hR hL hl
theorem v_imul {x y : Int} (hd : Dc M pc .imul 1 pc') (kk : w_V E M R Z G I k n pc' ls (iv (x * y) :: st)) : w_V E M R Z G I k n pc ls (iv y :: iv x :: st) := by
  obtain ⟨hd, rfl⟩ := hd
  intro p e s m args below meth c H locs lz F hR hL hl
  refine lv_imul F.1.1 F.1.2.1 hd ?_
  rw [iv_mul]
  exact kk p e s m args below meth c H locs lz F hR hL hl
theorem v_iand {x y z : Int} (hz : Int32.ofInt x &&& Int32.ofInt y = Int32.ofInt z) (hd : Dc M pc .iand 1 pc') (kk : w_V E M R Z G I k n pc' ls (iv z :: st)) : w_V E M R Z G I k n pc ls (iv y :: iv x :: st) := by
  obtain ⟨hd, rfl⟩ := hd
  intro p e s m args below meth c H locs lz F hR hL hl
  refine lv_iand F.1.1 F.1.2.1 hd ?_
  rw [hz]
  exact kk p e s m args below meth c H locs lz F hR hL hl
theorem v_ior {x y z : Int} (hz : Int32.ofInt x ||| Int32.ofInt y = Int32.ofInt z) (hd : Dc M pc .ior 1 pc') (kk : w_V E M R Z G I k n pc' ls (iv z :: st)) : w_V E M R Z G I k n pc ls (iv y :: iv x :: st) := by
  obtain ⟨hd, rfl⟩ := hd
  intro p e s m args below meth c H locs lz F hR hL hl
  refine lv_ior F.1.1 F.1.2.1 hd ?_
  rw [hz]
  exact kk p e s m args below meth c H locs lz F hR hL hl
theorem v_ishl {x y z : Int} (hz : Int32.ofInt x <<< (Int32.ofInt y &&& 31) = Int32.ofInt z) (hd : Dc M pc .ishl 1 pc') (kk : w_V E M R Z G I k n pc' ls (iv z :: st)) : w_V E M R Z G I k n pc ls (iv y :: iv x :: st) := by
  obtain ⟨hd, rfl⟩ := hd
  intro p e s m args below meth c H locs lz F hR hL hl
  refine lv_ishl F.1.1 F.1.2.1 hd ?_
  rw [hz]
  exact kk p e s m args below meth c H locs lz F hR hL hl
theorem v_ishr {x y z : Int} (hz : Int32.ofInt x >>> (Int32.ofInt y &&& 31) = Int32.ofInt z) (hd : Dc M pc .ishr 1 pc') (kk : w_V E M R Z G I k n pc' ls (iv z :: st)) : w_V E M R Z G I k n pc ls (iv y :: iv x :: st) := by
  obtain ⟨hd, rfl⟩ := hd
  intro p e s m args below meth c H locs lz F hR hL hl
  refine lv_ishr F.1.1 F.1.2.1 hd ?_
  rw [hz]
  exact kk p e s m args below meth c H locs lz F hR hL hl
theorem v_dup {v : Value} (hd : Dc M pc .dup 1 pc') (hc : v.category = 1) (kk : w_V E M R Z G I k n pc' ls (v :: v :: st)) : w_V E M R Z G I k n pc ls (v :: st) := by
  obtain ⟨hd, rfl⟩ := hd
  intro p e s m args below meth c H locs lz F hR hL hl
  exact lv_dup F.1.1 F.1.2.1 hd hc (kk p e s m args below meth c H locs lz F hR hL hl)
theorem v_dup2 {v w : Value} (hd : Dc M pc .dup2 1 pc') (hv : v.category = 1) (hw : w.category = 1) (kk : w_V E M R Z G I k n pc' ls (v :: w :: v :: w :: st)) : w_V E M R Z G I k n pc ls (v :: w :: st) := by
  obtain ⟨hd, rfl⟩ := hd
  intro p e s m args below meth c H locs lz F hR hL hl
  exact lv_dup2_11 F.1.1 F.1.2.1 hd hv hw (kk p e s m args below meth c H locs lz F hR hL hl)
theorem v_null (hd : Dc M pc .aconst_null 1 pc') (kk : w_V E M R Z G I k n pc' ls (.null :: st)) : w_V E M R Z G I k n pc ls st := by
  obtain ⟨hd, rfl⟩ := hd
  intro p e s m args below meth c H locs lz F hR hL hl
  exact lv_null F.1.1 F.1.2.1 hd (kk p e s m args below meth c H locs lz F hR hL hl)
theorem v_goto (hd : Dj M pc (.goto off) 3 pc' off tgt) (kk : w_V E M R Z G I k n tgt ls st) : w_V E M R Z G I k n pc ls st := by
  obtain ⟨hd, rfl, ht⟩ := hd
  intro p e s m args below meth c H locs lz F hR hL hl
  exact lv_goto F.1.1 F.1.2.1 hd ht (kk p e s m args below meth c H locs lz F hR hL hl)
theorem v_ifnull {a : Nat} (hd : Dj M pc (.ifnull off) 3 pc' off tgt) (kk : w_V E M R Z G I k n pc' ls st) : w_V E M R Z G I k n pc ls (.ref a :: st) := by
  obtain ⟨hd, rfl, ht⟩ := hd
  intro p e s m args below meth c H locs lz F hR hL hl
  exact lv_ifnull F.1.1 F.1.2.1 hd (kk p e s m args below meth c H locs lz F hR hL hl)
theorem v_ifnullN (hd : Dj M pc (.ifnull off) 3 pc' off tgt) (kk : w_V E M R Z G I k n tgt ls st) : w_V E M R Z G I k n pc ls (.null :: st) := by
  obtain ⟨hd, rfl, ht⟩ := hd
  intro p e s m args below meth c H locs lz F hR hL hl
  exact lv_ifnullN F.1.1 F.1.2.1 hd ht (kk p e s m args below meth c H locs lz F hR hL hl)
theorem v_ifnonnull {a : Nat} (hd : Dj M pc (.ifnonnull off) 3 pc' off tgt) (kk : w_V E M R Z G I k n tgt ls st) : w_V E M R Z G I k n pc ls (.ref a :: st) := by
  obtain ⟨hd, rfl, ht⟩ := hd
  intro p e s m args below meth c H locs lz F hR hL hl
  exact lv_ifnonnull F.1.1 F.1.2.1 hd ht (kk p e s m args below meth c H locs lz F hR hL hl)
theorem v_ifnonnullN (hd : Dj M pc (.ifnonnull off) 3 pc' off tgt) (kk : w_V E M R Z G I k n pc' ls st) : w_V E M R Z G I k n pc ls (.null :: st) := by
  obtain ⟨hd, rfl, ht⟩ := hd
  intro p e s m args below meth c H locs lz F hR hL hl
  exact lv_ifnonnullN F.1.1 F.1.2.1 hd (kk p e s m args below meth c H locs lz F hR hL hl)
theorem v_if_eq {x : Int} (hx : inR x) (hd : Dj M pc (.ifCond .eq off) 3 pc' off tgt) (kt : x = 0 → w_V E M R Z G I k n tgt ls st) (kf : ¬ x = 0 → w_V E M R Z G I k n pc' ls st) : w_V E M R Z G I k n pc ls (iv x :: st) := by
  obtain ⟨hd, rfl, ht⟩ := hd
  intro p e s m args below meth c H locs lz F hR hL hl
  have h0 : inR 0 := ⟨by omega, by omega⟩
  refine lv_if_eq F.1.1 F.1.2.1 hd ht (fun hc => kt ?_ p e s m args below meth c H locs lz F hR hL hl) (fun hc => kf ?_ p e s m args below meth c H locs lz F hR hL hl)
  · simp only [← iv_0, iv_eq hx h0, iv_lt hx h0, iv_le hx h0, iv_lt h0 hx, iv_le h0 hx, ne_eq, gt_iff_lt, ge_iff_le] at hc
    omega
  · simp only [← iv_0, iv_eq hx h0, iv_lt hx h0, iv_le hx h0, iv_lt h0 hx, iv_le h0 hx, ne_eq, gt_iff_lt, ge_iff_le] at hc
    omega
theorem v_icmp_eq {x y : Int} (hx : inR x) (hy : inR y) (hd : Dj M pc (.if_icmp .eq off) 3 pc' off tgt) (kt : x = y → w_V E M R Z G I k n tgt ls st) (kf : ¬ x = y → w_V E M R Z G I k n pc' ls st) : w_V E M R Z G I k n pc ls (iv y :: iv x :: st) := by
  obtain ⟨hd, rfl, ht⟩ := hd
  intro p e s m args below meth c H locs lz F hR hL hl
  refine lv_icmp_eq F.1.1 F.1.2.1 hd ht (fun hc => kt ?_ p e s m args below meth c H locs lz F hR hL hl) (fun hc => kf ?_ p e s m args below meth c H locs lz F hR hL hl)
  · simp only [iv_eq hx hy, iv_lt hx hy, iv_le hx hy, iv_lt hy hx, iv_le hy hx, ne_eq, gt_iff_lt, ge_iff_le] at hc
    omega
  · simp only [iv_eq hx hy, iv_lt hx hy, iv_le hx hy, iv_lt hy hx, iv_le hy hx, ne_eq, gt_iff_lt, ge_iff_le] at hc
    omega
theorem v_if_ne {x : Int} (hx : inR x) (hd : Dj M pc (.ifCond .ne off) 3 pc' off tgt) (kt : ¬ x = 0 → w_V E M R Z G I k n tgt ls st) (kf : x = 0 → w_V E M R Z G I k n pc' ls st) : w_V E M R Z G I k n pc ls (iv x :: st) := by
  obtain ⟨hd, rfl, ht⟩ := hd
  intro p e s m args below meth c H locs lz F hR hL hl
  have h0 : inR 0 := ⟨by omega, by omega⟩
  refine lv_if_ne F.1.1 F.1.2.1 hd ht (fun hc => kt ?_ p e s m args below meth c H locs lz F hR hL hl) (fun hc => kf ?_ p e s m args below meth c H locs lz F hR hL hl)
  · simp only [← iv_0, iv_eq hx h0, iv_lt hx h0, iv_le hx h0, iv_lt h0 hx, iv_le h0 hx, ne_eq, gt_iff_lt, ge_iff_le] at hc
    omega
  · simp only [← iv_0, iv_eq hx h0, iv_lt hx h0, iv_le hx h0, iv_lt h0 hx, iv_le h0 hx, ne_eq, gt_iff_lt, ge_iff_le] at hc
    omega
theorem v_icmp_ne {x y : Int} (hx : inR x) (hy : inR y) (hd : Dj M pc (.if_icmp .ne off) 3 pc' off tgt) (kt : ¬ x = y → w_V E M R Z G I k n tgt ls st) (kf : x = y → w_V E M R Z G I k n pc' ls st) : w_V E M R Z G I k n pc ls (iv y :: iv x :: st) := by
  obtain ⟨hd, rfl, ht⟩ := hd
  intro p e s m args below meth c H locs lz F hR hL hl
  refine lv_icmp_ne F.1.1 F.1.2.1 hd ht (fun hc => kt ?_ p e s m args below meth c H locs lz F hR hL hl) (fun hc => kf ?_ p e s m args below meth c H locs lz F hR hL hl)
  · simp only [iv_eq hx hy, iv_lt hx hy, iv_le hx hy, iv_lt hy hx, iv_le hy hx, ne_eq, gt_iff_lt, ge_iff_le] at hc
    omega
  · simp only [iv_eq hx hy, iv_lt hx hy, iv_le hx hy, iv_lt hy hx, iv_le hy hx, ne_eq, gt_iff_lt, ge_iff_le] at hc
    omega
theorem v_if_lt {x : Int} (hx : inR x) (hd : Dj M pc (.ifCond .lt off) 3 pc' off tgt) (kt : x < 0 → w_V E M R Z G I k n tgt ls st) (kf : 0 ≤ x → w_V E M R Z G I k n pc' ls st) : w_V E M R Z G I k n pc ls (iv x :: st) := by
  obtain ⟨hd, rfl, ht⟩ := hd
  intro p e s m args below meth c H locs lz F hR hL hl
  have h0 : inR 0 := ⟨by omega, by omega⟩
  refine lv_if_lt F.1.1 F.1.2.1 hd ht (fun hc => kt ?_ p e s m args below meth c H locs lz F hR hL hl) (fun hc => kf ?_ p e s m args below meth c H locs lz F hR hL hl)
  · simp only [← iv_0, iv_eq hx h0, iv_lt hx h0, iv_le hx h0, iv_lt h0 hx, iv_le h0 hx, ne_eq, gt_iff_lt, ge_iff_le] at hc
    omega
  · simp only [← iv_0, iv_eq hx h0, iv_lt hx h0, iv_le hx h0, iv_lt h0 hx, iv_le h0 hx, ne_eq, gt_iff_lt, ge_iff_le] at hc
    omega
theorem v_icmp_lt {x y : Int} (hx : inR x) (hy : inR y) (hd : Dj M pc (.if_icmp .lt off) 3 pc' off tgt) (kt : x < y → w_V E M R Z G I k n tgt ls st) (kf : y ≤ x → w_V E M R Z G I k n pc' ls st) : w_V E M R Z G I k n pc ls (iv y :: iv x :: st) := by
  obtain ⟨hd, rfl, ht⟩ := hd
  intro p e s m args below meth c H locs lz F hR hL hl
  refine lv_icmp_lt F.1.1 F.1.2.1 hd ht (fun hc => kt ?_ p e s m args below meth c H locs lz F hR hL hl) (fun hc => kf ?_ p e s m args below meth c H locs lz F hR hL hl)
  · simp only [iv_eq hx hy, iv_lt hx hy, iv_le hx hy, iv_lt hy hx, iv_le hy hx, ne_eq, gt_iff_lt, ge_iff_le] at hc
    omega
  · simp only [iv_eq hx hy, iv_lt hx hy, iv_le hx hy, iv_lt hy hx, iv_le hy hx, ne_eq, gt_iff_lt, ge_iff_le] at hc
    omega
theorem v_if_ge {x : Int} (hx : inR x) (hd : Dj M pc (.ifCond .ge off) 3 pc' off tgt) (kt : 0 ≤ x → w_V E M R Z G I k n tgt ls st) (kf : x < 0 → w_V E M R Z G I k n pc' ls st) : w_V E M R Z G I k n pc ls (iv x :: st) := by
  obtain ⟨hd, rfl, ht⟩ := hd
  intro p e s m args below meth c H locs lz F hR hL hl
  have h0 : inR 0 := ⟨by omega, by omega⟩
  refine lv_if_ge F.1.1 F.1.2.1 hd ht (fun hc => kt ?_ p e s m args below meth c H locs lz F hR hL hl) (fun hc => kf ?_ p e s m args below meth c H locs lz F hR hL hl)
  · simp only [← iv_0, iv_eq hx h0, iv_lt hx h0, iv_le hx h0, iv_lt h0 hx, iv_le h0 hx, ne_eq, gt_iff_lt, ge_iff_le] at hc
    omega
  · simp only [← iv_0, iv_eq hx h0, iv_lt hx h0, iv_le hx h0, iv_lt h0 hx, iv_le h0 hx, ne_eq, gt_iff_lt, ge_iff_le] at hc
    omega
theorem v_icmp_ge {x y : Int} (hx : inR x) (hy : inR y) (hd : Dj M pc (.if_icmp .ge off) 3 pc' off tgt) (kt : y ≤ x → w_V E M R Z G I k n tgt ls st) (kf : x < y → w_V E M R Z G I k n pc' ls st) : w_V E M R Z G I k n pc ls (iv y :: iv x :: st) := by
  obtain ⟨hd, rfl, ht⟩ := hd
  intro p e s m args below meth c H locs lz F hR hL hl
  refine lv_icmp_ge F.1.1 F.1.2.1 hd ht (fun hc => kt ?_ p e s m args below meth c H locs lz F hR hL hl) (fun hc => kf ?_ p e s m args below meth c H locs lz F hR hL hl)
  · simp only [iv_eq hx hy, iv_lt hx hy, iv_le hx hy, iv_lt hy hx, iv_le hy hx, ne_eq, gt_iff_lt, ge_iff_le] at hc
    omega
  · simp only [iv_eq hx hy, iv_lt hx hy, iv_le hx hy, iv_lt hy hx, iv_le hy hx, ne_eq, gt_iff_lt, ge_iff_le] at hc
    omega
theorem v_if_gt {x : Int} (hx : inR x) (hd : Dj M pc (.ifCond .gt off) 3 pc' off tgt) (kt : 0 < x → w_V E M R Z G I k n tgt ls st) (kf : x ≤ 0 → w_V E M R Z G I k n pc' ls st) : w_V E M R Z G I k n pc ls (iv x :: st) := by
  obtain ⟨hd, rfl, ht⟩ := hd
  intro p e s m args below meth c H locs lz F hR hL hl
  have h0 : inR 0 := ⟨by omega, by omega⟩
  refine lv_if_gt F.1.1 F.1.2.1 hd ht (fun hc => kt ?_ p e s m args below meth c H locs lz F hR hL hl) (fun hc => kf ?_ p e s m args below meth c H locs lz F hR hL hl)
  · simp only [← iv_0, iv_eq hx h0, iv_lt hx h0, iv_le hx h0, iv_lt h0 hx, iv_le h0 hx, ne_eq, gt_iff_lt, ge_iff_le] at hc
    omega
  · simp only [← iv_0, iv_eq hx h0, iv_lt hx h0, iv_le hx h0, iv_lt h0 hx, iv_le h0 hx, ne_eq, gt_iff_lt, ge_iff_le] at hc
    omega
theorem v_icmp_gt {x y : Int} (hx : inR x) (hy : inR y) (hd : Dj M pc (.if_icmp .gt off) 3 pc' off tgt) (kt : y < x → w_V E M R Z G I k n tgt ls st) (kf : x ≤ y → w_V E M R Z G I k n pc' ls st) : w_V E M R Z G I k n pc ls (iv y :: iv x :: st) := by
  obtain ⟨hd, rfl, ht⟩ := hd
  intro p e s m args below meth c H locs lz F hR hL hl
  refine lv_icmp_gt F.1.1 F.1.2.1 hd ht (fun hc => kt ?_ p e s m args below meth c H locs lz F hR hL hl) (fun hc => kf ?_ p e s m args below meth c H locs lz F hR hL hl)
  · simp only [iv_eq hx hy, iv_lt hx hy, iv_le hx hy, iv_lt hy hx, iv_le hy hx, ne_eq, gt_iff_lt, ge_iff_le] at hc
    omega
  · simp only [iv_eq hx hy, iv_lt hx hy, iv_le hx hy, iv_lt hy hx, iv_le hy hx, ne_eq, gt_iff_lt, ge_iff_le] at hc
    omega
theorem v_if_le {x : Int} (hx : inR x) (hd : Dj M pc (.ifCond .le off) 3 pc' off tgt) (kt : x ≤ 0 → w_V E M R Z G I k n tgt ls st) (kf : 0 < x → w_V E M R Z G I k n pc' ls st) : w_V E M R Z G I k n pc ls (iv x :: st) := by
  obtain ⟨hd, rfl, ht⟩ := hd
  intro p e s m args below meth c H locs lz F hR hL hl
  have h0 : inR 0 := ⟨by omega, by omega⟩
  refine lv_if_le F.1.1 F.1.2.1 hd ht (fun hc => kt ?_ p e s m args below meth c H locs lz F hR hL hl) (fun hc => kf ?_ p e s m args below meth c H locs lz F hR hL hl)
  · simp only [← iv_0, iv_eq hx h0, iv_lt hx h0, iv_le hx h0, iv_lt h0 hx, iv_le h0 hx, ne_eq, gt_iff_lt, ge_iff_le] at hc
    omega
  · simp only [← iv_0, iv_eq hx h0, iv_lt hx h0, iv_le hx h0, iv_lt h0 hx, iv_le h0 hx, ne_eq, gt_iff_lt, ge_iff_le] at hc
    omega
theorem v_icmp_le {x y : Int} (hx : inR x) (hy : inR y) (hd : Dj M pc (.if_icmp .le off) 3 pc' off tgt) (kt : x ≤ y → w_V E M R Z G I k n tgt ls st) (kf : y < x → w_V E M R Z G I k n pc' ls st) : w_V E M R Z G I k n pc ls (iv y :: iv x :: st) := by
  obtain ⟨hd, rfl, ht⟩ := hd
  intro p e s m args below meth c H locs lz F hR hL hl
  refine lv_icmp_le F.1.1 F.1.2.1 hd ht (fun hc => kt ?_ p e s m args below meth c H locs lz F hR hL hl) (fun hc => kf ?_ p e s m args below meth c H locs lz F hR hL hl)
  · simp only [iv_eq hx hy, iv_lt hx hy, iv_le hx hy, iv_lt hy hx, iv_le hy hx, ne_eq, gt_iff_lt, ge_iff_le] at hc
    omega
  · simp only [iv_eq hx hy, iv_lt hx hy, iv_le hx hy, iv_lt hy hx, iv_le hy hx, ne_eq, gt_iff_lt, ge_iff_le] at hc
    omega
end Rules
