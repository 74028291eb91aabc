/-! ===== what is told of a method ===== -/
def offM (I J : w_Mm) (m : Nat) : Prop := ∀ a k, (a < m ∨ m + 9 ≤ a) → ¬ (a = m + 9 ∧ k = 2) → J a k = I a k
def aArg (π : mS) (kd : Int) : mS := ((mRes π, mNA π + (if kd = 2 then 2 else 1), if kd = 2 then uL (uL (mBeg π) (mNA π) kd) (mNA π + 1) 3 else uL (mBeg π) (mNA π) kd), π.2)
def aOp (π : mS) (op a b : Int) : mS := (π.1, (mN π + 1, uL (mOp π) (mN π) op, uL (mA π) (mN π) a, uL (mB π) (mN π) b), π.2.2)
def aGd (π : mS) (f t h c : Int) : mS := (π.1, π.2.1, (mNG π + 1, uL (mGf π) (mNG π) f, uL (mGt π) (mNG π) t, uL (mGh π) (mNG π) h, uL (mGc π) (mNG π) c))
theorem met_arg1 {I : w_Mm} {m : Nat} {π : mS} {kd : Int} (h : metOK I m π) (h2 : ¬ kd = 2) (h8 : mNA π + 1 ≤ 8) : metOK (w_up (w_up (w_up I (m + 1) (mNA π) kd) m 2 ((mNA π : Int) + 1)) (m + 9) 2 0) m (aArg π kd) ∧ offM I (w_up (w_up (w_up I (m + 1) (mNA π) kd) m 2 ((mNA π : Int) + 1)) (m + 9) 2 0) m := by
  obtain ⟨g1, g2, g3, g4, g5, g6, g7, g8, g9, g10⟩ := h
  have e : aArg π kd = ((mRes π, mNA π + 1, uL (mBeg π) (mNA π) kd), π.2) := by unfold aArg; rw [if_neg h2, if_neg h2]
  rw [e]
  refine ⟨⟨by rw [w_up_n (by omega), w_up_n (by omega), w_up_n (by omega)]; exact g1, by rw [w_up_n (by omega), w_up_s]; rfl, h8, fun k hk => ?_, by rw [w_up_n (by omega), w_up_n (by omega), w_up_n (by omega)]; exact g5, g6, fun p hp => ?_, by rw [w_up_n (by omega), w_up_n (by omega), w_up_n (by omega)]; exact g8, g9, fun g hg => ?_⟩, fun a k h1 h2 => by rw [w_up_n (by omega), w_up_n (by omega), w_up_n (by omega)]⟩
  · show _ = uL (mBeg π) (mNA π) kd k
    by_cases e : k = mNA π
    · subst e; rw [w_up_n (by omega), w_up_n (by omega), w_up_s, uL_s]
    · rw [w_up_n (by omega), w_up_n (by omega), w_up_n (by omega), uL_n e]; exact g4 k hk
  · obtain ⟨a, b, c⟩ := g7 p hp
    exact ⟨by rw [w_up_n (by omega), w_up_n (by omega), w_up_n (by omega)]; exact a, by rw [w_up_n (by omega), w_up_n (by omega), w_up_n (by omega)]; exact b, by rw [w_up_n (by omega), w_up_n (by omega), w_up_n (by omega)]; exact c⟩
  · obtain ⟨a, b, c, d⟩ := g10 g hg
    exact ⟨by rw [w_up_n (by omega), w_up_n (by omega), w_up_n (by omega)]; exact a, by rw [w_up_n (by omega), w_up_n (by omega), w_up_n (by omega)]; exact b, by rw [w_up_n (by omega), w_up_n (by omega), w_up_n (by omega)]; exact c, by rw [w_up_n (by omega), w_up_n (by omega), w_up_n (by omega)]; exact d⟩
theorem met_arg2 {I : w_Mm} {m : Nat} {π : mS} (h : metOK I m π) (h8 : mNA π + 2 ≤ 8) : metOK (w_up (w_up (w_up (w_up I (m + 1) (mNA π) 2) (m + 1) (mNA π + 1) 3) m 2 ((mNA π : Int) + 2)) (m + 9) 2 0) m (aArg π 2) ∧ offM I (w_up (w_up (w_up (w_up I (m + 1) (mNA π) 2) (m + 1) (mNA π + 1) 3) m 2 ((mNA π : Int) + 2)) (m + 9) 2 0) m := by
  obtain ⟨g1, g2, g3, g4, g5, g6, g7, g8, g9, g10⟩ := h
  have e : aArg π 2 = ((mRes π, mNA π + 2, uL (uL (mBeg π) (mNA π) 2) (mNA π + 1) 3), π.2) := by unfold aArg; rw [if_pos rfl, if_pos rfl]
  rw [e]
  refine ⟨⟨by rw [w_up_n (by omega), w_up_n (by omega), w_up_n (by omega), w_up_n (by omega)]; exact g1, by rw [w_up_n (by omega), w_up_s]; rfl, h8, fun k hk => ?_, by rw [w_up_n (by omega), w_up_n (by omega), w_up_n (by omega), w_up_n (by omega)]; exact g5, g6, fun p hp => ?_, by rw [w_up_n (by omega), w_up_n (by omega), w_up_n (by omega), w_up_n (by omega)]; exact g8, g9, fun g hg => ?_⟩, fun a k h1 h2 => by rw [w_up_n (by omega), w_up_n (by omega), w_up_n (by omega), w_up_n (by omega)]⟩
  · show _ = uL (uL (mBeg π) (mNA π) 2) (mNA π + 1) 3 k
    by_cases e1 : k = mNA π + 1
    · subst e1; rw [w_up_n (by omega), w_up_n (by omega), w_up_s, uL_s]
    · by_cases e : k = mNA π
      · subst e; rw [w_up_n (by omega), w_up_n (by omega), w_up_n (by omega), w_up_s, uL_n (by omega), uL_s]
      · rw [w_up_n (by omega), w_up_n (by omega), w_up_n (by omega), w_up_n (by omega), uL_n e1, uL_n e]; exact g4 k hk
  · obtain ⟨a, b, c⟩ := g7 p hp
    exact ⟨by rw [w_up_n (by omega), w_up_n (by omega), w_up_n (by omega), w_up_n (by omega)]; exact a, by rw [w_up_n (by omega), w_up_n (by omega), w_up_n (by omega), w_up_n (by omega)]; exact b, by rw [w_up_n (by omega), w_up_n (by omega), w_up_n (by omega), w_up_n (by omega)]; exact c⟩
  · obtain ⟨a, b, c, d⟩ := g10 g hg
    exact ⟨by rw [w_up_n (by omega), w_up_n (by omega), w_up_n (by omega), w_up_n (by omega)]; exact a, by rw [w_up_n (by omega), w_up_n (by omega), w_up_n (by omega), w_up_n (by omega)]; exact b, by rw [w_up_n (by omega), w_up_n (by omega), w_up_n (by omega), w_up_n (by omega)]; exact c, by rw [w_up_n (by omega), w_up_n (by omega), w_up_n (by omega), w_up_n (by omega)]; exact d⟩
theorem met_op {I : w_Mm} {m : Nat} {π : mS} {x y z : Int} (h : metOK I m π) (h4 : mN π < 40) {J : w_Mm} (eJ : J = w_up (w_up (w_up (w_up (w_up I (m + 2) (mN π) x) (m + 3) (mN π) y) (m + 4) (mN π) z) m 6 ((mN π : Int) + 1)) (m + 9) 2 0) : metOK J m (aOp π x y z) ∧ offM I J m := by
  obtain ⟨g1, g2, g3, g4, g5, g6, g7, g8, g9, g10⟩ := h
  have o : ∀ a k, ¬ (a = m + 2 ∧ k = mN π) → ¬ (a = m + 3 ∧ k = mN π) → ¬ (a = m + 4 ∧ k = mN π) → ¬ (a = m ∧ k = 6) → ¬ (a = m + 9 ∧ k = 2) → J a k = I a k := fun a k h1 h2 h3 h4 h5 => by rw [eJ, w_up_n h5, w_up_n h4, w_up_n h3, w_up_n h2, w_up_n h1]
  refine ⟨⟨(o _ _ (by omega) (by omega) (by omega) (by omega) (by omega)).trans g1, (o _ _ (by omega) (by omega) (by omega) (by omega) (by omega)).trans g2, g3, fun k hk => (o _ _ (by omega) (by omega) (by omega) (by omega) (by omega)).trans (g4 k hk), ?_, h4, fun p hp => ?_, (o _ _ (by omega) (by omega) (by omega) (by omega) (by omega)).trans g8, g9, fun g hg => ?_⟩, fun a k h1 h2 => o a k (by omega) (by omega) (by omega) (by omega) h2⟩
  · rw [eJ, w_up_n (by omega), w_up_s]; rfl
  · show J _ p = uL (mOp π) (mN π) x p ∧ J _ p = uL (mA π) (mN π) y p ∧ J _ p = uL (mB π) (mN π) z p
    by_cases e : p = mN π
    · subst e
      rw [uL_s, uL_s, uL_s]
      refine ⟨?_, ?_, ?_⟩
      · rw [eJ, w_up_n (by omega), w_up_n (by omega), w_up_n (by omega), w_up_n (by omega), w_up_s]
      · rw [eJ, w_up_n (by omega), w_up_n (by omega), w_up_n (by omega), w_up_s]
      · rw [eJ, w_up_n (by omega), w_up_n (by omega), w_up_s]
    · rw [uL_n e, uL_n e, uL_n e]
      have hp' : p < mN π + 1 := hp
      obtain ⟨a, b, c⟩ := g7 p (by omega)
      exact ⟨(o _ _ (by omega) (by omega) (by omega) (by omega) (by omega)).trans a, (o _ _ (by omega) (by omega) (by omega) (by omega) (by omega)).trans b, (o _ _ (by omega) (by omega) (by omega) (by omega) (by omega)).trans c⟩
  · obtain ⟨a, b, c, d⟩ := g10 g hg
    exact ⟨(o _ _ (by omega) (by omega) (by omega) (by omega) (by omega)).trans a, (o _ _ (by omega) (by omega) (by omega) (by omega) (by omega)).trans b, (o _ _ (by omega) (by omega) (by omega) (by omega) (by omega)).trans c, (o _ _ (by omega) (by omega) (by omega) (by omega) (by omega)).trans d⟩
theorem met_gd {I : w_Mm} {m : Nat} {π : mS} {x y z u : Int} (h : metOK I m π) (h4 : mNG π < 6) {J : w_Mm} (eJ : J = w_up (w_up (w_up (w_up (w_up (w_up I (m + 5) (mNG π) x) (m + 6) (mNG π) y) (m + 7) (mNG π) z) (m + 8) (mNG π) u) m 11 ((mNG π : Int) + 1)) (m + 9) 2 0) : metOK J m (aGd π x y z u) ∧ offM I J m := by
  obtain ⟨g1, g2, g3, g4, g5, g6, g7, g8, g9, g10⟩ := h
  have o : ∀ a k, ¬ (a = m + 5 ∧ k = mNG π) → ¬ (a = m + 6 ∧ k = mNG π) → ¬ (a = m + 7 ∧ k = mNG π) → ¬ (a = m + 8 ∧ k = mNG π) → ¬ (a = m ∧ k = 11) → ¬ (a = m + 9 ∧ k = 2) → J a k = I a k := fun a k h1 h2 h3 h4 h5 h6 => by rw [eJ, w_up_n h6, w_up_n h5, w_up_n h4, w_up_n h3, w_up_n h2, w_up_n h1]
  refine ⟨⟨(o _ _ (by omega) (by omega) (by omega) (by omega) (by omega) (by omega)).trans g1, (o _ _ (by omega) (by omega) (by omega) (by omega) (by omega) (by omega)).trans g2, g3, fun k hk => (o _ _ (by omega) (by omega) (by omega) (by omega) (by omega) (by omega)).trans (g4 k hk), (o _ _ (by omega) (by omega) (by omega) (by omega) (by omega) (by omega)).trans g5, g6, fun p hp => ?_, ?_, h4, fun g hg => ?_⟩, fun a k h1 h2 => o a k (by omega) (by omega) (by omega) (by omega) (by omega) h2⟩
  · obtain ⟨a, b, c⟩ := g7 p hp
    exact ⟨(o _ _ (by omega) (by omega) (by omega) (by omega) (by omega) (by omega)).trans a, (o _ _ (by omega) (by omega) (by omega) (by omega) (by omega) (by omega)).trans b, (o _ _ (by omega) (by omega) (by omega) (by omega) (by omega) (by omega)).trans c⟩
  · rw [eJ, w_up_n (by omega), w_up_s]; rfl
  · show J _ g = uL (mGf π) (mNG π) x g ∧ J _ g = uL (mGt π) (mNG π) y g ∧ J _ g = uL (mGh π) (mNG π) z g ∧ J _ g = uL (mGc π) (mNG π) u g
    by_cases e : g = mNG π
    · subst e
      rw [uL_s, uL_s, uL_s, uL_s]
      refine ⟨?_, ?_, ?_, ?_⟩
      · rw [eJ, w_up_n (by omega), w_up_n (by omega), w_up_n (by omega), w_up_n (by omega), w_up_n (by omega), w_up_s]
      · rw [eJ, w_up_n (by omega), w_up_n (by omega), w_up_n (by omega), w_up_n (by omega), w_up_s]
      · rw [eJ, w_up_n (by omega), w_up_n (by omega), w_up_n (by omega), w_up_s]
      · rw [eJ, w_up_n (by omega), w_up_n (by omega), w_up_s]
    · rw [uL_n e, uL_n e, uL_n e, uL_n e]
      have hg' : g < mNG π + 1 := hg
      obtain ⟨a, b, c, d⟩ := g10 g (by omega)
      exact ⟨(o _ _ (by omega) (by omega) (by omega) (by omega) (by omega) (by omega)).trans a, (o _ _ (by omega) (by omega) (by omega) (by omega) (by omega) (by omega)).trans b, (o _ _ (by omega) (by omega) (by omega) (by omega) (by omega) (by omega)).trans c, (o _ _ (by omega) (by omega) (by omega) (by omega) (by omega) (by omega)).trans d⟩
/-- the locals that an op wants; that a method wants -/
def locOp (op a : Int) : Int := if op < 2 ∨ 7 < op then 0 else a + (if op = 4 ∨ op = 5 then 2 else 1)
def wantL (π : mS) (κ : kS) : Nat → Nat → Int → Int
  | 0, _, z => z
  | j + 1, p, z => wantL π κ j (p + 1) (if 0 ≤ (κ.1 p).1 then (if z < locOp (mOp π p) (mA π p) then locOp (mOp π p) (mA π p) else z) else z)
theorem tX4_addArgument {E : w_E} {G : w_Sh} {I : w_Mm} {m : Nat} {π : mS} (hM : isM G m) (hπ : metOK I m π) {kd : Int} (hkd : inR kd) : w_Ct E mX4_addArgument 0 [.ref m, iv kd] G I 0 0 (w_Pi (fun r G' J => G' = G ∧ ((r = -4 ∧ 8 < (mNA π : Int) + (if kd = 2 then 2 else 1) ∧ J = I) ∨ (r = (mNA (aArg π kd) : Int) ∧ (mNA π : Int) + (if kd = 2 then 2 else 1) ≤ 8 ∧ metOK J m (aArg π kd) ∧ J (m + 9) 2 = 0 ∧ offM I J m)))) := by
  have hM0 := hM
  obtain ⟨hTm, hRm1, hRm3, hRm4, hRm5, hRm7, hRm8, hRm9, hRm10, hRm12, hTm1, hTm2, hTm3, hTm4, hTm5, hTm6, hTm7, hTm8, hWk⟩ := hM
  have hπ0 := hπ
  obtain ⟨hp0, hp2, hpA, hpB, hp6, hpn, hpo, hp11, hpg, hpG⟩ := hπ
  refine w_Ct.of (ls := [some (.ref m), some (iv kd), none]) (by decide +kernel) (Nat.le_of_ble_eq_true rfl) rfl rfl (fun rng => ?_)
  refine v_aload_n dX4_addArgument_0 rfl ?_
  refine v_getI' (v := ((mNA π : Nat) : Int)) hp2 fX4_47 rfl hTm dX4_addArgument_1 ?_
  refine v_iload_n dX4_addArgument_4 rfl ?_
  refine v_iconst dX4_addArgument_5 ?_
  refine v_icmp_ne hkd ⟨by decide, by decide⟩ dX4_addArgument_6 (fun h1 => ?_) (fun h1 => ?_)
  · refine v_iconst dX4_addArgument_13 ?_
    refine v_iadd dX4_addArgument_14 ?_
    refine v_istore_n dX4_addArgument_15 (by decide) rfl ?_
    refine v_iload_n dX4_addArgument_16 rfl ?_
    refine v_bipush dX4_addArgument_17 (by decide) ?_
    refine v_icmp_le ⟨by omega, by omega⟩ ⟨by decide, by decide⟩ dX4_addArgument_19 (fun h2 => ?_) (fun h2 => ?_)
    · refine v_aload_n dX4_addArgument_25 rfl ?_
      refine v_getR fX4_9 rfl hTm (by assumption) dX4_addArgument_26 ?_
      refine v_aload_n dX4_addArgument_29 rfl ?_
      refine v_getI' (v := ((mNA π : Nat) : Int)) hp2 fX4_47 rfl hTm dX4_addArgument_30 ?_
      refine v_iload_n dX4_addArgument_33 rfl ?_
      refine v_iast (i := mNA π) (by assumption) (by omega) (by omega) (by omega) hkd dX4_addArgument_34 ?_
      have rng3 := w_rng (a := m + 1) (f := mNA π) rng (show inR (kd) from hkd)
      refine v_iload_n dX4_addArgument_35 rfl ?_
      refine v_iconst dX4_addArgument_36 ?_
      refine v_icmp_ne hkd ⟨by decide, by decide⟩ dX4_addArgument_37 (fun hb37 => ?_) (fun h => by exfalso; omega)
      refine v_aload_n dX4_addArgument_52 rfl ?_
      refine v_iload_n dX4_addArgument_53 rfl ?_
      refine v_putI fX4_47 p4_2 rfl ⟨by omega, by omega⟩ hTm dX4_addArgument_54 ?_
      have rng4 := w_rng (a := m) (f := 2) rng3 (show inR ((((mNA π : Nat) : Int) + 1)) from ⟨by omega, by omega⟩)
      refine v_aload_n dX4_addArgument_57 rfl ?_
      refine v_getR fX4_39 rfl hTm (by assumption) dX4_addArgument_58 ?_
      refine v_iconst dX4_addArgument_61 ?_
      refine v_putZ fX4_50 p6_2 rfl (Or.inl rfl) hWk.1 dX4_addArgument_62 ?_
      have rng5 := w_rng (a := m + 9) (f := 2) rng4 (show inR (0) from ⟨by decide, by decide⟩)
      refine v_iload_n dX4_addArgument_65 rfl ?_
      obtain ⟨g1, g2⟩ := met_arg1 hπ0 h1 (by omega)
      exact v_iret rfl (by decide) (by decide) ⟨by omega, by omega⟩ dX4_addArgument_66 ⟨rfl, Or.inr ⟨by unfold aArg mNA; rw [if_neg h1]; rfl, by rw [if_neg h1]; omega, g1, w_up_s, g2⟩⟩
    · refine v_bipush dX4_addArgument_22 (by decide) ?_
      exact v_iret rfl (by decide) (by decide) ⟨by decide, by decide⟩ dX4_addArgument_24 ⟨rfl, Or.inl ⟨rfl, by rw [if_neg h1]; omega, rfl⟩⟩
  · refine v_iconst dX4_addArgument_9 ?_
    refine v_goto dX4_addArgument_10 ?_
    refine v_iadd dX4_addArgument_14 ?_
    refine v_istore_n dX4_addArgument_15 (by decide) rfl ?_
    refine v_iload_n dX4_addArgument_16 rfl ?_
    refine v_bipush dX4_addArgument_17 (by decide) ?_
    refine v_icmp_le ⟨by omega, by omega⟩ ⟨by decide, by decide⟩ dX4_addArgument_19 (fun h6 => ?_) (fun h6 => ?_)
    · refine v_aload_n dX4_addArgument_25 rfl ?_
      refine v_getR fX4_9 rfl hTm (by assumption) dX4_addArgument_26 ?_
      refine v_aload_n dX4_addArgument_29 rfl ?_
      refine v_getI' (v := ((mNA π : Nat) : Int)) hp2 fX4_47 rfl hTm dX4_addArgument_30 ?_
      refine v_iload_n dX4_addArgument_33 rfl ?_
      refine v_iast (i := mNA π) (by assumption) (by omega) (by omega) (by omega) hkd dX4_addArgument_34 ?_
      have rng7 := w_rng (a := m + 1) (f := mNA π) rng (show inR (kd) from hkd)
      refine v_iload_n dX4_addArgument_35 rfl ?_
      refine v_iconst dX4_addArgument_36 ?_
      refine v_icmp_ne hkd ⟨by decide, by decide⟩ dX4_addArgument_37 (fun h => by exfalso; omega) (fun hb37 => ?_)
      refine v_aload_n dX4_addArgument_40 rfl ?_
      refine v_getR fX4_9 rfl hTm (by assumption) dX4_addArgument_41 ?_
      refine v_aload_n dX4_addArgument_44 rfl ?_
      refine v_getI' (v := ((mNA π : Nat) : Int)) (by rw [w_up_n (by omega), hp2]) fX4_47 rfl hTm dX4_addArgument_45 ?_
      refine v_iconst dX4_addArgument_48 ?_
      refine v_iadd dX4_addArgument_49 ?_
      refine v_iconst dX4_addArgument_50 ?_
      refine v_iast (i := (mNA π + 1)) (by assumption) (by omega) (by omega) (by omega) ⟨by decide, by decide⟩ dX4_addArgument_51 ?_
      have rng8 := w_rng (a := m + 1) (f := (mNA π + 1)) rng7 (show inR (3) from ⟨by decide, by decide⟩)
      refine v_aload_n dX4_addArgument_52 rfl ?_
      refine v_iload_n dX4_addArgument_53 rfl ?_
      refine v_putI fX4_47 p4_2 rfl ⟨by omega, by omega⟩ hTm dX4_addArgument_54 ?_
      have rng9 := w_rng (a := m) (f := 2) rng8 (show inR ((((mNA π : Nat) : Int) + 2)) from ⟨by omega, by omega⟩)
      refine v_aload_n dX4_addArgument_57 rfl ?_
      refine v_getR fX4_39 rfl hTm (by assumption) dX4_addArgument_58 ?_
      refine v_iconst dX4_addArgument_61 ?_
      refine v_putZ fX4_50 p6_2 rfl (Or.inl rfl) hWk.1 dX4_addArgument_62 ?_
      have rng10 := w_rng (a := m + 9) (f := 2) rng9 (show inR (0) from ⟨by decide, by decide⟩)
      refine v_iload_n dX4_addArgument_65 rfl ?_
      obtain rfl : kd = 2 := h1
      obtain ⟨g1, g2⟩ := met_arg2 hπ0 (by omega)
      exact v_iret rfl (by decide) (by decide) ⟨by omega, by omega⟩ dX4_addArgument_66 ⟨rfl, Or.inr ⟨by unfold aArg mNA; rw [if_pos rfl]; rfl, by rw [if_pos rfl]; omega, g1, w_up_s, g2⟩⟩
    · refine v_bipush dX4_addArgument_22 (by decide) ?_
      obtain rfl : kd = 2 := h1
      exact v_iret rfl (by decide) (by decide) ⟨by decide, by decide⟩ dX4_addArgument_24 ⟨rfl, Or.inl ⟨rfl, by rw [if_pos rfl]; omega, rfl⟩⟩
theorem tX4_addOp {E : w_E} {G : w_Sh} {I : w_Mm} {m : Nat} {π : mS} (hM : isM G m) (hπ : metOK I m π) {x y z : Int} (hx : inR x) (hy : inR y) (hz : inR z) : w_Ct E mX4_addOp 0 [.ref m, iv x, iv y, iv z] G I 0 0 (w_Pi (fun r G' J => G' = G ∧ ((r = -4 ∧ mN π = 40 ∧ J = I) ∨ (r = (mN π : Int) ∧ mN π < 40 ∧ metOK J m (aOp π x y z) ∧ J (m + 9) 2 = 0 ∧ offM I J m)))) := by
  have hM0 := hM
  obtain ⟨hTm, hRm1, hRm3, hRm4, hRm5, hRm7, hRm8, hRm9, hRm10, hRm12, hTm1, hTm2, hTm3, hTm4, hTm5, hTm6, hTm7, hTm8, hWk⟩ := hM
  have hπ0 := hπ
  obtain ⟨hp0, hp2, hpA, hpB, hp6, hpn, hpo, hp11, hpg, hpG⟩ := hπ
  refine w_Ct.of (ls := [some (.ref m), some (iv x), some (iv y), some (iv z)]) (by decide +kernel) (Nat.le_of_ble_eq_true rfl) rfl rfl (fun rng => ?_)
  refine v_aload_n dX4_addOp_0 rfl ?_
  refine v_getI' (v := ((mN π : Nat) : Int)) hp6 fX4_54 rfl hTm dX4_addOp_1 ?_
  refine v_bipush dX4_addOp_4 (by decide) ?_
  refine v_icmp_lt ⟨by omega, by omega⟩ ⟨by decide, by decide⟩ dX4_addOp_6 (fun h1 => ?_) (fun h1 => ?_)
  · refine v_aload_n dX4_addOp_12 rfl ?_
    refine v_getR fX4_15 rfl hTm (by assumption) dX4_addOp_13 ?_
    refine v_aload_n dX4_addOp_16 rfl ?_
    refine v_getI' (v := ((mN π : Nat) : Int)) hp6 fX4_54 rfl hTm dX4_addOp_17 ?_
    refine v_iload_n dX4_addOp_20 rfl ?_
    refine v_iast (i := mN π) (by assumption) (by omega) (by omega) (by omega) hx dX4_addOp_21 ?_
    have rng2 := w_rng (a := m + 2) (f := mN π) rng (show inR (x) from hx)
    refine v_aload_n dX4_addOp_22 rfl ?_
    refine v_getR fX4_18 rfl hTm (by assumption) dX4_addOp_23 ?_
    refine v_aload_n dX4_addOp_26 rfl ?_
    refine v_getI' (v := ((mN π : Nat) : Int)) (by rw [w_up_n (by omega), hp6]) fX4_54 rfl hTm dX4_addOp_27 ?_
    refine v_iload_n dX4_addOp_30 rfl ?_
    refine v_iast (i := mN π) (by assumption) (by omega) (by omega) (by omega) hy dX4_addOp_31 ?_
    have rng3 := w_rng (a := m + 3) (f := mN π) rng2 (show inR (y) from hy)
    refine v_aload_n dX4_addOp_32 rfl ?_
    refine v_getR fX4_21 rfl hTm (by assumption) dX4_addOp_33 ?_
    refine v_aload_n dX4_addOp_36 rfl ?_
    refine v_getI' (v := ((mN π : Nat) : Int)) (by rw [w_up_n (by omega), w_up_n (by omega), hp6]) fX4_54 rfl hTm dX4_addOp_37 ?_
    refine v_iload_n dX4_addOp_40 rfl ?_
    refine v_iast (i := mN π) (by assumption) (by omega) (by omega) (by omega) hz dX4_addOp_41 ?_
    have rng4 := w_rng (a := m + 4) (f := mN π) rng3 (show inR (z) from hz)
    refine v_aload_n dX4_addOp_42 rfl ?_
    refine v_dup dX4_addOp_43 rfl ?_
    refine v_getI' (v := ((mN π : Nat) : Int)) (by rw [w_up_n (by omega), w_up_n (by omega), w_up_n (by omega), hp6]) fX4_54 rfl hTm dX4_addOp_44 ?_
    refine v_iconst dX4_addOp_47 ?_
    refine v_iadd dX4_addOp_48 ?_
    refine v_putI fX4_54 p4_6 rfl ⟨by omega, by omega⟩ hTm dX4_addOp_49 ?_
    have rng5 := w_rng (a := m) (f := 6) rng4 (show inR ((((mN π : Nat) : Int) + 1)) from ⟨by omega, by omega⟩)
    refine v_aload_n dX4_addOp_52 rfl ?_
    refine v_getR fX4_39 rfl hTm (by assumption) dX4_addOp_53 ?_
    refine v_iconst dX4_addOp_56 ?_
    refine v_putZ fX4_50 p6_2 rfl (Or.inl rfl) hWk.1 dX4_addOp_57 ?_
    have rng6 := w_rng (a := m + 9) (f := 2) rng5 (show inR (0) from ⟨by decide, by decide⟩)
    refine v_aload_n dX4_addOp_60 rfl ?_
    refine v_getI' (v := (((mN π : Nat) : Int) + 1)) (by rw [w_up_n (by omega), w_up_s]) fX4_54 rfl hTm dX4_addOp_61 ?_
    refine v_iconst dX4_addOp_64 ?_
    refine v_isub dX4_addOp_65 ?_
    obtain ⟨g1, g2⟩ := met_op hπ0 (by omega) rfl
    exact v_iret rfl (by decide) (by decide) ⟨by omega, by omega⟩ dX4_addOp_66 ⟨rfl, Or.inr ⟨by omega, by omega, g1, w_up_s, g2⟩⟩
  · refine v_bipush dX4_addOp_9 (by decide) ?_
    exact v_iret rfl (by decide) (by decide) ⟨by decide, by decide⟩ dX4_addOp_11 ⟨rfl, Or.inl ⟨rfl, by omega, rfl⟩⟩
theorem tX4_addGuard {E : w_E} {G : w_Sh} {I : w_Mm} {m : Nat} {π : mS} (hM : isM G m) (hπ : metOK I m π) {x y z u : Int} (hx : inR x) (hy : inR y) (hz : inR z) (hu : inR u) : w_Ct E mX4_addGuard 0 [.ref m, iv x, iv y, iv z, iv u] G I 0 0 (w_Pi (fun r G' J => G' = G ∧ ((r = -4 ∧ mNG π = 6 ∧ J = I) ∨ (r = (mNG π : Int) ∧ mNG π < 6 ∧ metOK J m (aGd π x y z u) ∧ J (m + 9) 2 = 0 ∧ offM I J m)))) := by
  have hM0 := hM
  obtain ⟨hTm, hRm1, hRm3, hRm4, hRm5, hRm7, hRm8, hRm9, hRm10, hRm12, hTm1, hTm2, hTm3, hTm4, hTm5, hTm6, hTm7, hTm8, hWk⟩ := hM
  have hπ0 := hπ
  obtain ⟨hp0, hp2, hpA, hpB, hp6, hpn, hpo, hp11, hpg, hpG⟩ := hπ
  refine w_Ct.of (ls := [some (.ref m), some (iv x), some (iv y), some (iv z), some (iv u)]) (by decide +kernel) (Nat.le_of_ble_eq_true rfl) rfl rfl (fun rng => ?_)
  refine v_aload_n dX4_addGuard_0 rfl ?_
  refine v_getI' (v := ((mNG π : Nat) : Int)) hp11 fX4_57 rfl hTm dX4_addGuard_1 ?_
  refine v_bipush dX4_addGuard_4 (by decide) ?_
  refine v_icmp_lt ⟨by omega, by omega⟩ ⟨by decide, by decide⟩ dX4_addGuard_6 (fun h1 => ?_) (fun h1 => ?_)
  · refine v_aload_n dX4_addGuard_12 rfl ?_
    refine v_getR fX4_24 rfl hTm (by assumption) dX4_addGuard_13 ?_
    refine v_aload_n dX4_addGuard_16 rfl ?_
    refine v_getI' (v := ((mNG π : Nat) : Int)) hp11 fX4_57 rfl hTm dX4_addGuard_17 ?_
    refine v_iload_n dX4_addGuard_20 rfl ?_
    refine v_iast (i := mNG π) (by assumption) (by omega) (by omega) (by omega) hx dX4_addGuard_21 ?_
    have rng2 := w_rng (a := m + 5) (f := mNG π) rng (show inR (x) from hx)
    refine v_aload_n dX4_addGuard_22 rfl ?_
    refine v_getR fX4_27 rfl hTm (by assumption) dX4_addGuard_23 ?_
    refine v_aload_n dX4_addGuard_26 rfl ?_
    refine v_getI' (v := ((mNG π : Nat) : Int)) (by rw [w_up_n (by omega), hp11]) fX4_57 rfl hTm dX4_addGuard_27 ?_
    refine v_iload_n dX4_addGuard_30 rfl ?_
    refine v_iast (i := mNG π) (by assumption) (by omega) (by omega) (by omega) hy dX4_addGuard_31 ?_
    have rng3 := w_rng (a := m + 6) (f := mNG π) rng2 (show inR (y) from hy)
    refine v_aload_n dX4_addGuard_32 rfl ?_
    refine v_getR fX4_30 rfl hTm (by assumption) dX4_addGuard_33 ?_
    refine v_aload_n dX4_addGuard_36 rfl ?_
    refine v_getI' (v := ((mNG π : Nat) : Int)) (by rw [w_up_n (by omega), w_up_n (by omega), hp11]) fX4_57 rfl hTm dX4_addGuard_37 ?_
    refine v_iload_n dX4_addGuard_40 rfl ?_
    refine v_iast (i := mNG π) (by assumption) (by omega) (by omega) (by omega) hz dX4_addGuard_41 ?_
    have rng4 := w_rng (a := m + 7) (f := mNG π) rng3 (show inR (z) from hz)
    refine v_aload_n dX4_addGuard_42 rfl ?_
    refine v_getR fX4_33 rfl hTm (by assumption) dX4_addGuard_43 ?_
    refine v_aload_n dX4_addGuard_46 rfl ?_
    refine v_getI' (v := ((mNG π : Nat) : Int)) (by rw [w_up_n (by omega), w_up_n (by omega), w_up_n (by omega), hp11]) fX4_57 rfl hTm dX4_addGuard_47 ?_
    refine v_iload dX4_addGuard_50 rfl ?_
    refine v_iast (i := mNG π) (by assumption) (by omega) (by omega) (by omega) hu dX4_addGuard_52 ?_
    have rng5 := w_rng (a := m + 8) (f := mNG π) rng4 (show inR (u) from hu)
    refine v_aload_n dX4_addGuard_53 rfl ?_
    refine v_dup dX4_addGuard_54 rfl ?_
    refine v_getI' (v := ((mNG π : Nat) : Int)) (by rw [w_up_n (by omega), w_up_n (by omega), w_up_n (by omega), w_up_n (by omega), hp11]) fX4_57 rfl hTm dX4_addGuard_55 ?_
    refine v_iconst dX4_addGuard_58 ?_
    refine v_iadd dX4_addGuard_59 ?_
    refine v_putI fX4_57 p4_11 rfl ⟨by omega, by omega⟩ hTm dX4_addGuard_60 ?_
    have rng6 := w_rng (a := m) (f := 11) rng5 (show inR ((((mNG π : Nat) : Int) + 1)) from ⟨by omega, by omega⟩)
    refine v_aload_n dX4_addGuard_63 rfl ?_
    refine v_getR fX4_39 rfl hTm (by assumption) dX4_addGuard_64 ?_
    refine v_iconst dX4_addGuard_67 ?_
    refine v_putZ fX4_50 p6_2 rfl (Or.inl rfl) hWk.1 dX4_addGuard_68 ?_
    have rng7 := w_rng (a := m + 9) (f := 2) rng6 (show inR (0) from ⟨by decide, by decide⟩)
    refine v_aload_n dX4_addGuard_71 rfl ?_
    refine v_getI' (v := (((mNG π : Nat) : Int) + 1)) (by rw [w_up_n (by omega), w_up_s]) fX4_57 rfl hTm dX4_addGuard_72 ?_
    refine v_iconst dX4_addGuard_75 ?_
    refine v_isub dX4_addGuard_76 ?_
    obtain ⟨g1, g2⟩ := met_gd hπ0 (by omega) rfl
    exact v_iret rfl (by decide) (by decide) ⟨by omega, by omega⟩ dX4_addGuard_77 ⟨rfl, Or.inr ⟨by omega, by omega, g1, w_up_s, g2⟩⟩
  · refine v_bipush dX4_addGuard_9 (by decide) ?_
    exact v_iret rfl (by decide) (by decide) ⟨by decide, by decide⟩ dX4_addGuard_11 ⟨rfl, Or.inl ⟨rfl, by omega, rfl⟩⟩
theorem tX4_localsOfOp {E : w_E} {G : w_Sh} {I : w_Mm} {m : Nat} {π : mS} (hM : isM G m) (hπ : metOK I m π) {p : Nat} (hp : p < mN π) (ha : 2 ≤ mOp π p ∧ mOp π p ≤ 7 → 0 ≤ mA π p ∧ mA π p < 8) : w_Ct E mX4_localsOfOp 0 [.ref m, iv (p : Int)] G I 0 0 (w_Pi (fun r G' I' => r = (locOp (mOp π p) (mA π p)) ∧ G' = G ∧ I' = I)) := by
  have hM0 := hM
  obtain ⟨hTm, hRm1, hRm3, hRm4, hRm5, hRm7, hRm8, hRm9, hRm10, hRm12, hTm1, hTm2, hTm3, hTm4, hTm5, hTm6, hTm7, hTm8, hWk⟩ := hM
  have hπ0 := hπ
  obtain ⟨hp0, hp2, hpA, hpB, hp6, hpn, hpo, hp11, hpg, hpG⟩ := hπ
  refine w_Ct.of (ls := [some (.ref m), some (iv (p : Int)), none]) (by decide +kernel) (Nat.le_of_ble_eq_true rfl) rfl rfl (fun rng => ?_)
  refine v_aload_n dX4_localsOfOp_0 rfl ?_
  refine v_getR fX4_15 rfl hTm (by assumption) dX4_localsOfOp_1 ?_
  refine v_iload_n dX4_localsOfOp_4 rfl ?_
  refine v_iald' (i := p) (v := mOp π (p)) (hpo (p) (by omega)).1 (by assumption) rfl (by omega) (by omega) dX4_localsOfOp_5 ?_
  refine v_istore_n dX4_localsOfOp_6 (by decide) rfl ?_
  refine v_iload_n dX4_localsOfOp_7 rfl ?_
  refine v_iconst dX4_localsOfOp_8 ?_
  refine v_icmp_lt (by rw [← (hpo (p) (by omega)).1]; exact rng _ _) ⟨by decide, by decide⟩ dX4_localsOfOp_9 (fun h1 => ?_) (fun h1 => ?_)
  · refine v_iconst dX4_localsOfOp_18 ?_
    exact v_iret rfl (by decide) (by decide) ⟨by decide, by decide⟩ dX4_localsOfOp_19 ⟨(by unfold locOp; first | rw [if_pos (by omega)] | rw [if_neg (by omega), if_pos (by omega)] | rw [if_neg (by omega), if_neg (by omega)]), rfl, rfl⟩
  · refine v_iload_n dX4_localsOfOp_12 rfl ?_
    refine v_bipush dX4_localsOfOp_13 (by decide) ?_
    refine v_icmp_le (by rw [← (hpo (p) (by omega)).1]; exact rng _ _) ⟨by decide, by decide⟩ dX4_localsOfOp_15 (fun h2 => ?_) (fun h2 => ?_)
    · refine v_aload_n dX4_localsOfOp_20 rfl ?_
      refine v_getR fX4_18 rfl hTm (by assumption) dX4_localsOfOp_21 ?_
      refine v_iload_n dX4_localsOfOp_24 rfl ?_
      refine v_iald' (i := p) (v := mA π (p)) (hpo (p) (by omega)).2.1 (by assumption) rfl (by omega) (by omega) dX4_localsOfOp_25 ?_
      refine v_iload_n dX4_localsOfOp_26 rfl ?_
      refine v_iconst dX4_localsOfOp_27 ?_
      refine v_icmp_eq (by rw [← (hpo (p) (by omega)).1]; exact rng _ _) ⟨by decide, by decide⟩ dX4_localsOfOp_28 (fun h3 => ?_) (fun h3 => ?_)
      · refine v_iconst dX4_localsOfOp_36 ?_
        refine v_goto dX4_localsOfOp_37 ?_
        refine v_iadd dX4_localsOfOp_41 ?_
        exact v_iret rfl (by decide) (by decide) ⟨by omega, by omega⟩ dX4_localsOfOp_42 ⟨(by unfold locOp; first | rw [if_pos (by omega)] | rw [if_neg (by omega), if_pos (by omega)] | rw [if_neg (by omega), if_neg (by omega)]), rfl, rfl⟩
      · refine v_iload_n dX4_localsOfOp_31 rfl ?_
        refine v_iconst dX4_localsOfOp_32 ?_
        refine v_icmp_ne (by rw [← (hpo (p) (by omega)).1]; exact rng _ _) ⟨by decide, by decide⟩ dX4_localsOfOp_33 (fun h4 => ?_) (fun h4 => ?_)
        · refine v_iconst dX4_localsOfOp_40 ?_
          refine v_iadd dX4_localsOfOp_41 ?_
          exact v_iret rfl (by decide) (by decide) ⟨by omega, by omega⟩ dX4_localsOfOp_42 ⟨(by unfold locOp; first | rw [if_pos (by omega)] | rw [if_neg (by omega), if_pos (by omega)] | rw [if_neg (by omega), if_neg (by omega)]), rfl, rfl⟩
        · refine v_iconst dX4_localsOfOp_36 ?_
          refine v_goto dX4_localsOfOp_37 ?_
          refine v_iadd dX4_localsOfOp_41 ?_
          exact v_iret rfl (by decide) (by decide) ⟨by omega, by omega⟩ dX4_localsOfOp_42 ⟨(by unfold locOp; first | rw [if_pos (by omega)] | rw [if_neg (by omega), if_pos (by omega)] | rw [if_neg (by omega), if_neg (by omega)]), rfl, rfl⟩
    · refine v_iconst dX4_localsOfOp_18 ?_
      exact v_iret rfl (by decide) (by decide) ⟨by decide, by decide⟩ dX4_localsOfOp_19 ⟨(by unfold locOp; first | rw [if_pos (by omega)] | rw [if_neg (by omega), if_pos (by omega)] | rw [if_neg (by omega), if_neg (by omega)]), rfl, rfl⟩
theorem tX4_wantedLocals {E : w_E} {G : w_Sh} {I : w_Mm} {m : Nat} {π : mS} (hM : isM G m) (hπ : metOK I m π) {κ : kS} (hκ : wkOK I (m + 9) κ) (hal : ∀ p, p < mN π → 2 ≤ mOp π p ∧ mOp π p ≤ 7 → 0 ≤ mA π p ∧ mA π p < 8) : w_Ct E mX4_wantedLocals 1 [.ref m] G I 0 0 (w_Pi (fun r G' I' => r = (wantL π κ (mN π) 0 (mNA π : Int)) ∧ G' = G ∧ I' = I)) := by
  have hM0 := hM
  obtain ⟨hTm, hRm1, hRm3, hRm4, hRm5, hRm7, hRm8, hRm9, hRm10, hRm12, hTm1, hTm2, hTm3, hTm4, hTm5, hTm6, hTm7, hTm8, hWk⟩ := hM
  have hπ0 := hπ
  obtain ⟨hp0, hp2, hpA, hpB, hp6, hpn, hpo, hp11, hpg, hpG⟩ := hπ
  refine w_Ct.of (ls := [some (.ref m), none, none]) (by decide +kernel) (Nat.le_of_ble_eq_true rfl) rfl rfl (fun rng => ?_)
  refine v_aload_n dX4_wantedLocals_0 rfl ?_
  refine v_getI' (v := ((mNA π : Nat) : Int)) hp2 fX4_47 rfl hTm dX4_wantedLocals_1 ?_
  refine v_istore_n dX4_wantedLocals_4 (by decide) rfl ?_
  refine v_iconst dX4_wantedLocals_5 ?_
  refine v_istore_n dX4_wantedLocals_6 (by decide) rfl ?_
  have loop : ∀ (mm j : Nat) (zz : Int), j + mm = mN π → 0 ≤ zz → zz ≤ 9 → ∀ T, T = wantL π κ mm j zz → w_V E mX4_wantedLocals (w_rm 1 0 0) (w_Z E 0 0 (w_Pi (fun r G' I' => r = T ∧ G' = G ∧ I' = I))) G I 0 0 7 [some (.ref m), some (iv zz), some (iv (j : Int))] [] := by
    intro mm
    induction mm with
    | zero =>
      intro j zz hj h0 h9 T hT
      refine v_iload_n dX4_wantedLocals_7 rfl ?_
      refine v_aload_n dX4_wantedLocals_8 rfl ?_
      refine v_getI' (v := ((mN π : Nat) : Int)) hp6 fX4_54 rfl hTm dX4_wantedLocals_9 ?_
      refine v_icmp_ge ⟨by omega, by omega⟩ ⟨by omega, by omega⟩ dX4_wantedLocals_12 (fun hb12 => ?_) (fun h => by exfalso; omega)
      refine v_iload_n dX4_wantedLocals_46 rfl ?_
      exact v_iret rfl (by decide) (by decide) ⟨by omega, by omega⟩ dX4_wantedLocals_47 ⟨hT.symm, rfl, rfl⟩
    | succ mm ih =>
      intro j zz hj h0 h9 T hT
      have hW6 := hWk.2.2.2.2.2 j (by omega)
      have hfj := hκ.1 j (by omega)
      have hlo : 0 ≤ locOp (mOp π j) (mA π j) ∧ locOp (mOp π j) (mA π j) ≤ 9 := by
        have := hal j (by omega)
        unfold locOp
        split
        · omega
        · split <;> omega
      refine v_iload_n dX4_wantedLocals_7 rfl ?_
      refine v_aload_n dX4_wantedLocals_8 rfl ?_
      refine v_getI' (v := ((mN π : Nat) : Int)) hp6 fX4_54 rfl hTm dX4_wantedLocals_9 ?_
      refine v_icmp_ge ⟨by omega, by omega⟩ ⟨by omega, by omega⟩ dX4_wantedLocals_12 (fun h => by exfalso; omega) (fun hb12 => ?_)
      refine v_aload_n dX4_wantedLocals_15 rfl ?_
      refine v_getR fX4_39 rfl hTm (by assumption) dX4_wantedLocals_16 ?_
      refine v_getR fX4_69 rfl hWk.1 hWk.2.1 dX4_wantedLocals_19 ?_
      refine v_iload_n dX4_wantedLocals_22 rfl ?_
      refine v_aaldF (i := j) hWk.2.2.2.1 hW6.1 rfl (by omega) (by omega) dX4_wantedLocals_23 ?_
      refine v_Vb (tX2_isThere hW6.2 hfj) kX4_73 hW6.2.1 rfl rfl ⟨by decide, by decide⟩ ⟨by decide, by decide⟩ (Nat.le_of_ble_eq_true rfl) dX4_wantedLocals_24 (fun h1 => ?_) (fun h1 => ?_)
      · refine v_if_eq ⟨by decide, by decide⟩ dX4_wantedLocals_27 (fun h => by exfalso; omega) (fun hb27 => ?_)
        refine v_iload_n dX4_wantedLocals_30 rfl ?_
        refine v_aload_n dX4_wantedLocals_31 rfl ?_
        refine v_iload_n dX4_wantedLocals_32 rfl ?_
        refine v_VmN (tX4_localsOfOp hM0 hπ0 (p := j) (by omega) (hal _ (by omega))) kX4_79 hTm rfl rfl ⟨by decide, by decide⟩ ⟨by decide, by decide⟩ (Nat.le_of_ble_eq_true rfl) dX4_wantedLocals_33 (fun r2 er2 hr2 rng3 => ?_)
        refine v_max ⟨by omega, by omega⟩ hr2 kX4_83 wmax2 wmath3 wmax4 (by decide) (Nat.le_of_ble_eq_true rfl) ⟨by decide, by decide⟩ dX4_wantedLocals_36 ?_
        refine v_istore_n dX4_wantedLocals_39 (by decide) rfl ?_
        refine v_iinc dX4_wantedLocals_40 rfl (by decide) rfl rfl ?_
        refine v_goto dX4_wantedLocals_43 ?_
        subst er2
        exact ih (j + 1) _ (by omega) (by split <;> omega) (by split <;> omega) T (by rw [hT]; show wantL π κ (mm + 1) j zz = _; unfold wantL; rw [if_pos h1]; cases mm <;> rfl)
      · refine v_if_eq ⟨by decide, by decide⟩ dX4_wantedLocals_27 (fun hb27 => ?_) (fun h => by exfalso; omega)
        refine v_iinc dX4_wantedLocals_40 rfl (by decide) rfl rfl ?_
        refine v_goto dX4_wantedLocals_43 ?_
        exact ih (j + 1) _ (by omega) h0 h9 T (by rw [hT]; show wantL π κ (mm + 1) j zz = _; unfold wantL; rw [if_neg h1]; cases mm <;> rfl)
  exact loop (mN π) 0 _ (by omega) (by omega) (by omega) _ rfl
