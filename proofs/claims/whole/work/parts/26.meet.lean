/-! ===== rows that meet ===== -/
def mrgG (Q : cS) (L L2 : Nat → Int) : Nat → Int := fun k => joinK Q (L k) (L2 k)
def leastW (wt : Nat → Int) : Nat → Nat → Int
  | 0, _ => -1
  | m + 1, j => if wt j = 0 then leastW wt m (j + 1) else (j : Int)
theorem clsOK.map {I : w_Mm} {c a j : Nat} {Q : cS} {g : Nat → Int} (h : clsOK I c Q) (hc : c + 3 ≤ a) : clsOK (w_map I a j g) c Q := h.off (fun k => ⟨w_map_o (by omega), w_map_o (by omega), w_map_o (by omega)⟩)
theorem tX7_mergeRow {E : w_E} {G : w_Sh} {I : w_Mm} {v q c a b n : Nat} {Q : cS} (hTv : G.1 v = (7, 0)) (hRv : G.2.1 v 0 = some q) (hK : isK G q c) (hQ : clsOK I c Q) (hTa : G.1 a = (10, 8)) (hTb : G.1 b = (10, 8)) (hab : a ≠ b) (hca : c + 3 ≤ a) (hn : n ≤ 8) : w_Ct E mX7_mergeRow 2 [.ref v, .ref a, .ref b, iv (n : Int)] G I 0 0 (w_Pi (fun r G' J => G' = G ∧ J = w_map I a n (mrgG Q (I a) (I b)) ∧ ((r = 1 ∧ ∃ k, k < n ∧ ¬ (mrgG Q (I a) (I b)) k = I a k) ∨ (r = 0 ∧ ∀ k, k < n → (mrgG Q (I a) (I b)) k = I a k)))) := by
  refine w_Ct.of (ls := [some (.ref v), some (.ref a), some (.ref b), some (iv (n : Int)), none, none, none]) (by decide +kernel) (Nat.le_of_ble_eq_true rfl) rfl rfl (fun rng => ?_)
  refine v_iconst dX7_mergeRow_0 ?_
  refine v_istore dX7_mergeRow_1 (by decide) rfl ?_
  refine v_iconst dX7_mergeRow_3 ?_
  refine v_istore dX7_mergeRow_4 (by decide) rfl ?_
  have loop : ∀ m j : Nat, j + m = n → ∀ (ch : Int) (o6 : Option Value), ((ch = 1 ∧ ∃ k, k < j ∧ ¬ (mrgG Q (I a) (I b)) k = I a k) ∨ (ch = 0 ∧ ∀ k, k < j → (mrgG Q (I a) (I b)) k = I a k)) → (∀ k, k < j → inR ((mrgG Q (I a) (I b)) k)) → w_V E mX7_mergeRow (w_rm 2 0 0) (w_Z E 0 0 (w_Pi (fun r G' J => G' = G ∧ J = w_map I a n (mrgG Q (I a) (I b)) ∧ ((r = 1 ∧ ∃ k, k < n ∧ ¬ (mrgG Q (I a) (I b)) k = I a k) ∨ (r = 0 ∧ ∀ k, k < n → (mrgG Q (I a) (I b)) k = I a k))))) G (w_map I a j (mrgG Q (I a) (I b))) 0 0 6 [some (.ref v), some (.ref a), some (.ref b), some (iv (n : Int)), some (iv ch), some (iv (j : Int)), o6] [] := by
    intro m
    induction m with
    | zero =>
      intro j hj ch o6 hch hgj
      obtain rfl : j = n := by omega
      have hch2 : ch = 0 ∨ ch = 1 := by rcases hch with h | h; exact Or.inr h.1; exact Or.inl h.1
      refine v_iload dX7_mergeRow_6 rfl ?_
      refine v_iload_n dX7_mergeRow_8 rfl ?_
      refine v_icmp_ge ⟨by omega, by omega⟩ ⟨by omega, by omega⟩ dX7_mergeRow_9 (fun hb9 => ?_) (fun h => by exfalso; omega)
      refine v_iload dX7_mergeRow_62 rfl ?_
      exact v_zret rfl (by decide) (by decide) hch2 dX7_mergeRow_64 ⟨rfl, rfl, hch⟩
    | succ m ih =>
      intro j hj ch o6 hch hgj
      have rngj := w_rngm (a := a) rng hgj
      have hch2 : ch = 0 ∨ ch = 1 := by rcases hch with h | h; exact Or.inr h.1; exact Or.inl h.1
      refine v_iload dX7_mergeRow_6 rfl ?_
      refine v_iload_n dX7_mergeRow_8 rfl ?_
      refine v_icmp_ge ⟨by omega, by omega⟩ ⟨by omega, by omega⟩ dX7_mergeRow_9 (fun h => by exfalso; omega) (fun hb9 => ?_)
      refine v_aload_n dX7_mergeRow_12 rfl ?_
      refine v_getR fX7_18 rfl (by assumption) (by assumption) dX7_mergeRow_13 ?_
      refine v_aload_n dX7_mergeRow_16 rfl ?_
      refine v_iload dX7_mergeRow_17 rfl ?_
      refine v_iald' (i := j) (v := I (a) (j)) (by rw [w_map_o (by omega)]) (by assumption) rfl (by omega) (by omega) dX7_mergeRow_19 ?_
      refine v_aload_n dX7_mergeRow_20 rfl ?_
      refine v_iload dX7_mergeRow_21 rfl ?_
      refine v_iald' (i := j) (v := I (b) (j)) (by rw [w_map_o (by omega)]) (by assumption) rfl (by omega) (by omega) dX7_mergeRow_23 ?_
      refine v_VmN (tX3_merge hK (hQ.map hca) (rng _ _) (rng _ _)) kX7_150 hK.1 rfl rfl ⟨by decide, by decide⟩ ⟨by decide, by decide⟩ (Nat.le_of_ble_eq_true rfl) dX7_mergeRow_24 (fun r1 er1 hr1 rng2 => ?_)
      refine v_istore dX7_mergeRow_27 (by decide) rfl ?_
      refine v_iload dX7_mergeRow_29 rfl ?_
      refine v_if_ne ⟨by omega, by omega⟩ dX7_mergeRow_31 (fun h3 => ?_) (fun h3 => ?_)
      · refine v_iconst dX7_mergeRow_43 ?_
        refine v_goto dX7_mergeRow_44 ?_
        refine v_istore dX7_mergeRow_48 (by decide) rfl ?_
        refine v_aload_n dX7_mergeRow_50 rfl ?_
        refine v_iload dX7_mergeRow_51 rfl ?_
        refine v_iload dX7_mergeRow_53 rfl ?_
        refine v_iast (i := j) (by assumption) rfl (by omega) (by omega) hr1 dX7_mergeRow_55 ?_
        have rng4 := w_rng (a := a) (f := j) rngj (show inR (r1) from hr1)
        refine v_iinc dX7_mergeRow_56 rfl (by decide) rfl rfl ?_
        refine v_goto dX7_mergeRow_59 ?_
        refine v_mem (w_map_s (g := (mrgG Q (I a) (I b))) er1) ?_
        exact ih (j + 1) (by omega) 1 _ (by rcases hch with ⟨-, k, h1, h2⟩ | ⟨h0, -⟩; exact Or.inl ⟨rfl, k, by omega, h2⟩; exact absurd h0 h3) (lt_s hgj (by show inR (joinK Q (I a j) (I b j)); rw [← er1]; exact hr1))
      · refine v_iload dX7_mergeRow_34 rfl ?_
        refine v_aload_n dX7_mergeRow_36 rfl ?_
        refine v_iload dX7_mergeRow_37 rfl ?_
        refine v_iald' (i := j) (v := I (a) (j)) (by rw [w_map_o (by omega)]) (by assumption) rfl (by omega) (by omega) dX7_mergeRow_39 ?_
        refine v_icmp_eq hr1 (rng _ _) dX7_mergeRow_40 (fun h5 => ?_) (fun h5 => ?_)
        · refine v_iconst dX7_mergeRow_47 ?_
          refine v_istore dX7_mergeRow_48 (by decide) rfl ?_
          refine v_aload_n dX7_mergeRow_50 rfl ?_
          refine v_iload dX7_mergeRow_51 rfl ?_
          refine v_iload dX7_mergeRow_53 rfl ?_
          refine v_iast (i := j) (by assumption) rfl (by omega) (by omega) hr1 dX7_mergeRow_55 ?_
          have rng6 := w_rng (a := a) (f := j) rngj (show inR (r1) from hr1)
          refine v_iinc dX7_mergeRow_56 rfl (by decide) rfl rfl ?_
          refine v_goto dX7_mergeRow_59 ?_
          refine v_mem (w_map_s (g := (mrgG Q (I a) (I b))) er1) ?_
          exact ih (j + 1) (by omega) 0 _ (by rcases hch with ⟨h1, -⟩ | ⟨-, h2⟩; exact absurd (h1.symm.trans h3) (by decide); exact Or.inr ⟨rfl, lt_s h2 (er1.symm.trans h5)⟩) (lt_s hgj (by show inR (joinK Q (I a j) (I b j)); rw [← er1]; exact hr1))
        · refine v_iconst dX7_mergeRow_43 ?_
          refine v_goto dX7_mergeRow_44 ?_
          refine v_istore dX7_mergeRow_48 (by decide) rfl ?_
          refine v_aload_n dX7_mergeRow_50 rfl ?_
          refine v_iload dX7_mergeRow_51 rfl ?_
          refine v_iload dX7_mergeRow_53 rfl ?_
          refine v_iast (i := j) (by assumption) rfl (by omega) (by omega) hr1 dX7_mergeRow_55 ?_
          have rng7 := w_rng (a := a) (f := j) rngj (show inR (r1) from hr1)
          refine v_iinc dX7_mergeRow_56 rfl (by decide) rfl rfl ?_
          refine v_goto dX7_mergeRow_59 ?_
          refine v_mem (w_map_s (g := (mrgG Q (I a) (I b))) er1) ?_
          exact ih (j + 1) (by omega) 1 _ (Or.inl ⟨rfl, j, by omega, fun q => h5 (er1.trans q)⟩) (lt_s hgj (by show inR (joinK Q (I a j) (I b j)); rw [← er1]; exact hr1))
  exact v_mem w_map_0.symm (loop n 0 (by omega) 0 _ (Or.inr ⟨rfl, fun k hk => absurd hk (Nat.not_lt_zero k)⟩) (fun k hk => absurd hk (Nat.not_lt_zero k)))
abbrev canM (Q : cS) (φ ψ : fS) : Prop := φ.1 = ψ.1 ∧ ∀ k : Nat, (k : Int) < φ.1 → ¬ joinK Q (φ.2.2 k) (ψ.2.2 k) = 0
theorem tX7_canMeet {E : w_E} {G : w_Sh} {I : w_Mm} {v q c f o : Nat} {Q : cS} {φ ψ : fS} (hTv : G.1 v = (7, 0)) (hRv : G.2.1 v 0 = some q) (hK : isK G q c) (hQ : clsOK I c Q) (hF : isF G f) (hφ : frOK I f φ) (hO : isF G o) (hψ : frOK I o ψ) : w_Ct E mX7_canMeet 2 [.ref v, .ref f, .ref o] G I 0 0 (w_Pi (fun r G' I' => G' = G ∧ I' = I ∧ ((r = 1 ∧ (canM Q φ ψ)) ∨ (r = 0 ∧ ¬ (canM Q φ ψ))))) := by
  obtain ⟨hT0, hR0, hR1, hT1, hT2⟩ := hF
  obtain ⟨hT0o, hR0o, hR1o, hT1o, hT2o⟩ := hO
  obtain ⟨hd, hL, hP, hd1, hd8⟩ := hφ
  obtain ⟨hdo, hLo, hPo, hd1o, hd8o⟩ := hψ
  refine w_Ct.of (ls := [some (.ref v), some (.ref f), some (.ref o), none]) (by decide +kernel) (Nat.le_of_ble_eq_true rfl) rfl rfl (fun rng => ?_)
  refine v_aload_n dX7_canMeet_0 rfl ?_
  refine v_getI' (v := φ.1) hd fX7_70 rfl (by assumption) dX7_canMeet_1 ?_
  refine v_aload_n dX7_canMeet_4 rfl ?_
  refine v_getI' (v := ψ.1) hdo fX7_70 rfl (by assumption) dX7_canMeet_5 ?_
  refine v_icmp_eq ⟨by omega, by omega⟩ ⟨by omega, by omega⟩ dX7_canMeet_8 (fun h1 => ?_) (fun h1 => ?_)
  · refine v_iconst dX7_canMeet_13 ?_
    refine v_istore_n dX7_canMeet_14 (by decide) rfl ?_
    have loop : ∀ m j : Nat, (j : Int) + m = max φ.1 0 → (∀ k : Nat, k < j → ¬ joinK Q (φ.2.2 k) (ψ.2.2 k) = 0) → w_V E mX7_canMeet (w_rm 2 0 0) (w_Z E 0 0 (w_Pi (fun r G' I' => G' = G ∧ I' = I ∧ ((r = 1 ∧ (canM Q φ ψ)) ∨ (r = 0 ∧ ¬ (canM Q φ ψ)))))) G I 0 0 15 [some (.ref v), some (.ref f), some (.ref o), some (iv (j : Int))] [] := by
      intro m
      induction m with
      | zero =>
        intro j hj hp
        refine v_iload_n dX7_canMeet_15 rfl ?_
        refine v_aload_n dX7_canMeet_16 rfl ?_
        refine v_getI' (v := φ.1) hd fX7_70 rfl (by assumption) dX7_canMeet_17 ?_
        refine v_icmp_ge ⟨by omega, by omega⟩ ⟨by omega, by omega⟩ dX7_canMeet_20 (fun hb20 => ?_) (fun h => by exfalso; omega)
        refine v_iconst dX7_canMeet_53 ?_
        exact v_zret rfl (by decide) (by decide) (Or.inr rfl) dX7_canMeet_54 ⟨rfl, rfl, Or.inl ⟨rfl, by exact ⟨h1, fun k hk => hp k (by omega)⟩⟩⟩
      | succ m ih =>
        intro j hj hp
        refine v_iload_n dX7_canMeet_15 rfl ?_
        refine v_aload_n dX7_canMeet_16 rfl ?_
        refine v_getI' (v := φ.1) hd fX7_70 rfl (by assumption) dX7_canMeet_17 ?_
        refine v_icmp_ge ⟨by omega, by omega⟩ ⟨by omega, by omega⟩ dX7_canMeet_20 (fun h => by exfalso; omega) (fun hb20 => ?_)
        refine v_aload_n dX7_canMeet_23 rfl ?_
        refine v_getR fX7_18 rfl (by assumption) (by assumption) dX7_canMeet_24 ?_
        refine v_aload_n dX7_canMeet_27 rfl ?_
        refine v_getR fX7_140 rfl (by assumption) (by assumption) dX7_canMeet_28 ?_
        refine v_iload_n dX7_canMeet_31 rfl ?_
        refine v_iald' (i := j) (v := φ.2.2 (j)) (hP (j) (by omega)) (by assumption) rfl (by omega) (by omega) dX7_canMeet_32 ?_
        refine v_aload_n dX7_canMeet_33 rfl ?_
        refine v_getR fX7_140 rfl (by assumption) (by assumption) dX7_canMeet_34 ?_
        refine v_iload_n dX7_canMeet_37 rfl ?_
        refine v_iald' (i := j) (v := ψ.2.2 (j)) (hPo (j) (by omega)) (by assumption) rfl (by omega) (by omega) dX7_canMeet_38 ?_
        refine v_VmN (tX3_merge hK hQ (by rw [← hP (j) (by omega)]; exact rng _ _) (by rw [← hPo (j) (by omega)]; exact rng _ _)) kX7_150 hK.1 rfl rfl ⟨by decide, by decide⟩ ⟨by decide, by decide⟩ (Nat.le_of_ble_eq_true rfl) dX7_canMeet_39 (fun r1 er1 hr1 rng2 => ?_)
        refine v_if_ne hr1 dX7_canMeet_42 (fun h3 => ?_) (fun h3 => ?_)
        · refine v_iinc dX7_canMeet_47 rfl (by decide) rfl rfl ?_
          refine v_goto dX7_canMeet_50 ?_
          exact ih (j + 1) (by omega) (lt_s hp (er1 ▸ h3))
        · refine v_iconst dX7_canMeet_45 ?_
          exact v_zret rfl (by decide) (by decide) (Or.inl rfl) dX7_canMeet_46 ⟨rfl, rfl, Or.inr ⟨rfl, fun q => q.2 j (by omega) (er1.symm.trans h3)⟩⟩
    exact loop (max φ.1 0).toNat 0 (by omega) (fun k hk => absurd hk (Nat.not_lt_zero k))
  · refine v_iconst dX7_canMeet_11 ?_
    exact v_zret rfl (by decide) (by decide) (Or.inl rfl) dX7_canMeet_12 ⟨rfl, rfl, Or.inr ⟨rfl, by exact fun q => absurd q.1 (by omega)⟩⟩
theorem tX6_leastWaiting {E : w_E} {G : w_Sh} {I : w_Mm} {w : Nat} {wt : Nat → Int} (hW : isW G w) (hwt : ∀ i, i < 40 → I (w + 2) i = wt i) : w_Ct E mX6_leastWaiting 0 [.ref w] G I 0 0 (w_Pi (fun r G' I' => r = (leastW wt 40 0) ∧ G' = G ∧ I' = I)) := by
  obtain ⟨hTw, hRw0, hRw1, hTw1, hTw2, hWf⟩ := hW
  refine w_Ct.of (ls := [some (.ref w), none]) (by decide +kernel) (Nat.le_of_ble_eq_true rfl) rfl rfl (fun rng => ?_)
  refine v_iconst dX6_leastWaiting_0 ?_
  refine v_istore_n dX6_leastWaiting_1 (by decide) rfl ?_
  have loop : ∀ m j : Nat, j + m = 40 → ∀ z : Int, z = leastW wt m j → w_V E mX6_leastWaiting (w_rm 0 0 0) (w_Z E 0 0 (w_Pi (fun r G' I' => r = z ∧ G' = G ∧ I' = I))) G I 0 0 2 [some (.ref w), some (iv (j : Int))] [] := by
    intro m
    induction m with
    | zero =>
      intro j hj z hz
      refine v_iload_n dX6_leastWaiting_2 rfl ?_
      refine v_bipush dX6_leastWaiting_3 (by decide) ?_
      refine v_icmp_ge ⟨by omega, by omega⟩ ⟨by decide, by decide⟩ dX6_leastWaiting_5 (fun hb5 => ?_) (fun h => by exfalso; omega)
      refine v_iconst dX6_leastWaiting_25 ?_
      exact v_iret rfl (by decide) (by decide) ⟨by decide, by decide⟩ dX6_leastWaiting_26 ⟨hz.symm, rfl, rfl⟩
    | succ m ih =>
      intro j hj z hz
      refine v_iload_n dX6_leastWaiting_2 rfl ?_
      refine v_bipush dX6_leastWaiting_3 (by decide) ?_
      refine v_icmp_ge ⟨by omega, by omega⟩ ⟨by decide, by decide⟩ dX6_leastWaiting_5 (fun h => by exfalso; omega) (fun hb5 => ?_)
      refine v_aload_n dX6_leastWaiting_8 rfl ?_
      refine v_getR fX6_17 rfl (by assumption) (by assumption) dX6_leastWaiting_9 ?_
      refine v_iload_n dX6_leastWaiting_12 rfl ?_
      refine v_zald' (i := j) (v := wt (j)) (hwt (j) (by omega)) (by assumption) rfl (by omega) (by omega) dX6_leastWaiting_13 ?_
      refine v_if_eq (by rw [← hwt (j) (by omega)]; exact rng _ _) dX6_leastWaiting_14 (fun h1 => ?_) (fun h1 => ?_)
      · refine v_iinc dX6_leastWaiting_19 rfl (by decide) rfl rfl ?_
        refine v_goto dX6_leastWaiting_22 ?_
        exact ih (j + 1) (by omega) z (by rw [hz]; unfold leastW; rw [if_pos h1]; cases m <;> rfl)
      · refine v_iload_n dX6_leastWaiting_17 rfl ?_
        exact v_iret rfl (by decide) (by decide) ⟨by omega, by omega⟩ dX6_leastWaiting_18 ⟨(by rw [hz]; unfold leastW; rw [if_neg h1]), rfl, rfl⟩
  exact loop 40 0 rfl _ rfl
theorem tX6_note {E : w_E} {G : w_Sh} {I : w_Mm} {w : Nat} {hi d : Int} (hW : isW G w) (hhi : I w 6 = hi) (hd : inR d) : w_Ct E mX6_note 1 [.ref w, iv d] G I 0 0 (w_Pv (fun G' I' => G' = G ∧ I' = (w_up I w 6 (if hi < d then d else hi)))) := by
  obtain ⟨hTw, hRw0, hRw1, hTw1, hTw2, hWf⟩ := hW
  refine w_Ct.of (ls := [some (.ref w), some (iv d)]) (by decide +kernel) (Nat.le_of_ble_eq_true rfl) rfl rfl (fun rng => ?_)
  refine v_aload_n dX6_note_0 rfl ?_
  refine v_aload_n dX6_note_1 rfl ?_
  refine v_getI' (v := hi) hhi fX6_43 rfl (by assumption) dX6_note_2 ?_
  refine v_iload_n dX6_note_5 rfl ?_
  refine v_max (by rw [← hhi]; exact rng _ _) hd kX6_46 wmax2 wmath3 wmax4 (by decide) (Nat.le_of_ble_eq_true rfl) ⟨by decide, by decide⟩ dX6_note_6 ?_
  refine v_putI fX6_43 p6_6 rfl (by split <;> first | exact hd | exact (by rw [← hhi]; exact rng _ _)) (by assumption) dX6_note_9 ?_
  have rng1 := w_rng (a := w) (f := 6) rng (show inR ((if hi < d then d else hi)) from (by split <;> first | exact hd | exact (by rw [← hhi]; exact rng _ _)))
  exact v_vret rfl (by decide) (by decide) dX6_note_12 ⟨rfl, rfl⟩
theorem tX6_breakAt {E : w_E} {G : w_Sh} {I : w_Mm} {w : Nat} {x y : Int} (hW : isW G w) (hx : inR x) (hy : inR y) : w_Ct E mX6_breakAt 0 [.ref w, iv x, iv y] G I 0 0 (w_Pv (fun G' I' => G' = G ∧ I' = (w_up (w_up I w 4 x) w 3 y))) := by
  obtain ⟨hTw, hRw0, hRw1, hTw1, hTw2, hWf⟩ := hW
  refine w_Ct.of (ls := [some (.ref w), some (iv x), some (iv y)]) (by decide +kernel) (Nat.le_of_ble_eq_true rfl) rfl rfl (fun rng => ?_)
  refine v_aload_n dX6_breakAt_0 rfl ?_
  refine v_iload_n dX6_breakAt_1 rfl ?_
  refine v_putI fX6_37 p6_4 rfl hx (by assumption) dX6_breakAt_2 ?_
  have rng1 := w_rng (a := w) (f := 4) rng (show inR (x) from hx)
  refine v_aload_n dX6_breakAt_5 rfl ?_
  refine v_iload_n dX6_breakAt_6 rfl ?_
  refine v_putI fX6_34 p6_3 rfl hy (by assumption) dX6_breakAt_7 ?_
  have rng2 := w_rng (a := w) (f := 3) rng1 (show inR (y) from hy)
  exact v_vret rfl (by decide) (by decide) dX6_breakAt_10 ⟨rfl, rfl⟩
