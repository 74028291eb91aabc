theorem tX8_argument {E : w_E} {G : w_Sh} {I : w_Mm} {x : Nat} {s : xS} (hX : isX G x (xn s)) (hx : xOK I x s) {m0 : Int} (hm : inR m0) {kd : Int} (hkd : inR kd) : w_Ct E mX8_argument 3 [.ref x, iv m0, iv kd] G I 0 0 (w_Pi (fun r G' J => G' = G ∧ r = (xArg s m0 kd).1 ∧ xOK J x (xArg s m0 kd).2 ∧ offY I J x)) := by
  have hX0 := hX
  have hx0 := hx
  obtain ⟨hTx, hRx0, hRx1, hRx2, hRx3, hRx4, hTx17, hV, hH, hXm⟩ := hX
  obtain ⟨hxQ, hx5, hx6, hxm, hxr⟩ := hx
  have hK := hV.2.2.2.2.1
  have hC := hK.2.2
  refine w_Ct.of (ls := [some (.ref x), some (iv m0), some (iv kd), none]) (by decide +kernel) (Nat.le_of_ble_eq_true rfl) rfl rfl (fun rng => ?_)
  have hQ15 := hxQ.2.2.1
  by_cases hf : fnd s m0
  · obtain ⟨i, rfl⟩ : ∃ i : Nat, m0 = (i : Int) := ⟨m0.toNat, by omega⟩
    have hi : i < xn s := by omega
    obtain ⟨m, em⟩ : ∃ m, m = x + 47 + 132 * i := ⟨_, rfl⟩
    have hfind := tX8_find_s (E := E) hX0 hx0 hi
    rw [← em] at hfind
    have hQ16 := hxQ.2.2.1
    have hM := em ▸ (hXm i hi).2
    have hxi := hxm i hi
    rw [← em] at hxi
    obtain ⟨hπ, hκ, hst1, hst2, hst3⟩ := hxi
    have hM0 := hM
    obtain ⟨hTm, hRm1, hRm3, hRm4, hRm5, hRm7, hRm8, hRm9, hRm10, hRm12, hTm1, hTm2, hTm3, hTm4, hTm5, hTm6, hTm7, hTm8, hWk⟩ := hM
    have hπ0 := hπ
    obtain ⟨hp0, hp2, hpA, hpB, hp6, hpn, hpo, hp11, hpg, hpG⟩ := hπ
    have hσ : fnd s (i : Int) := hf
    refine v_aload_n dX8_argument_0 rfl ?_
    refine v_iload_n dX8_argument_1 rfl ?_
    refine v_Vs hfind kX8_83 hTx rfl rfl ⟨by decide, by decide⟩ ⟨by decide, by decide⟩ (Nat.le_of_ble_eq_true rfl) dX8_argument_2 ?_
    refine v_astore_n dX8_argument_5 (by decide) rfl ?_
    refine v_aload_n dX8_argument_6 rfl ?_
    refine v_ifnull dX8_argument_7 ?_
    refine v_aload_n dX8_argument_10 rfl ?_
    refine v_getR fX8_21 rfl (by assumption) (by assumption) dX8_argument_11 ?_
    refine v_iload_n dX8_argument_14 rfl ?_
    refine v_Vb (tX3_isArgument hK hxQ hkd) kX8_87 hK.1 rfl rfl ⟨by decide, by decide⟩ ⟨by decide, by decide⟩ (Nat.le_of_ble_eq_true rfl) dX8_argument_15 (fun h1 => ?_) (fun h1 => ?_)
    · refine v_if_ne ⟨by decide, by decide⟩ dX8_argument_18 (fun hb18 => ?_) (fun h => by exfalso; omega)
      refine v_aload_n dX8_argument_24 rfl ?_
      refine v_iload_n dX8_argument_25 rfl ?_
      refine v_Vi (tX4_addArgument hM0 hπ0 hkd) kX8_90 hTm rfl rfl ⟨by decide, by decide⟩ ⟨by decide, by decide⟩ (Nat.le_of_ble_eq_true rfl) dX8_argument_26 (fun r4 G9 J2 hr4 pJ2 rng3 => ?_)
      obtain ⟨hG9, ⟨rfl, g1, rfl⟩ | ⟨rfl, g1, g2, g3, g4⟩⟩ := pJ2
      all_goals obtain rfl := hG9.symm
      · rw [show xArg s (i : Int) kd = (-4, s) by unfold xArg; (try simp only [Int.toNat_natCast]); rw [if_neg (by omega), if_pos g1]]
        exact v_iret rfl (by decide) (by decide) ⟨by decide, by decide⟩ dX8_argument_29 ⟨rfl, rfl, hx0, fun _ _ _ _ => rfl⟩
      · rw [show xArg s (i : Int) kd = ((mNA (aArg (xπ s i) kd) : Int), uM s i (aArg (xπ s i) kd) (xκ s i) (0, (xst s i).2) (xρ s)) by unfold xArg; (try simp only [Int.toNat_natCast]); rw [if_neg (by omega), if_neg (Int.not_lt.mpr g1)]]
        subst em
        obtain ⟨u1, u2⟩ := hx0.updM hi g2 g3 g4
        exact v_iret rfl (by decide) (by decide) hr4 dX8_argument_29 ⟨rfl, rfl, u1, u2⟩
    · refine v_if_ne ⟨by decide, by decide⟩ dX8_argument_18 (fun h => by exfalso; omega) (fun hb18 => ?_)
      refine v_bipush dX8_argument_21 (by decide) ?_
      rw [show xArg s (i : Int) kd = (-2, s) by unfold xArg; (try simp only [Int.toNat_natCast]); rw [if_pos (by omega)]]
      exact v_iret rfl (by decide) (by decide) ⟨by decide, by decide⟩ dX8_argument_23 ⟨rfl, rfl, hx0, fun _ _ _ _ => rfl⟩
  · refine v_aload_n dX8_argument_0 rfl ?_
    refine v_iload_n dX8_argument_1 rfl ?_
    refine v_Vnl (tX8_find_n hX0 hx0 hm hf) kX8_83 hTx rfl rfl ⟨by decide, by decide⟩ ⟨by decide, by decide⟩ (Nat.le_of_ble_eq_true rfl) dX8_argument_2 ?_
    refine v_astore_nN dX8_argument_5 (by decide) rfl ?_
    refine v_aload_nN dX8_argument_6 rfl ?_
    refine v_ifnullN dX8_argument_7 ?_
    refine v_bipush dX8_argument_21 (by decide) ?_
    rw [show xArg s m0 kd = (-2, s) by unfold xArg; (try simp only [Int.toNat_natCast]); rw [if_pos (by omega)]]
    exact v_iret rfl (by decide) (by decide) ⟨by decide, by decide⟩ dX8_argument_23 ⟨rfl, rfl, hx0, fun _ _ _ _ => rfl⟩
theorem tX8_op {E : w_E} {G : w_Sh} {I : w_Mm} {x : Nat} {s : xS} (hX : isX G x (xn s)) (hx : xOK I x s) {m0 : Int} (hm : inR m0) {op a b : Int} (hop : inR op) (ha : inR a) (hb : inR b) : w_Ct E mX8_op 5 [.ref x, iv m0, iv op, iv a, iv b] G I 0 0 (w_Pi (fun r G' J => G' = G ∧ r = (xOp s m0 op a b).1 ∧ xOK J x (xOp s m0 op a b).2 ∧ offY I J x)) := by
  have hX0 := hX
  have hx0 := hx
  obtain ⟨hTx, hRx0, hRx1, hRx2, hRx3, hRx4, hTx17, hV, hH, hXm⟩ := hX
  obtain ⟨hxQ, hx5, hx6, hxm, hxr⟩ := hx
  have hK := hV.2.2.2.2.1
  have hC := hK.2.2
  refine w_Ct.of (ls := [some (.ref x), some (iv m0), some (iv op), some (iv a), some (iv b), none]) (by decide +kernel) (Nat.le_of_ble_eq_true rfl) rfl rfl (fun rng => ?_)
  have hQ15 := hxQ.2.2.1
  by_cases hf : fnd s m0
  · obtain ⟨i, rfl⟩ : ∃ i : Nat, m0 = (i : Int) := ⟨m0.toNat, by omega⟩
    have hi : i < xn s := by omega
    obtain ⟨m, em⟩ : ∃ m, m = x + 47 + 132 * i := ⟨_, rfl⟩
    have hfind := tX8_find_s (E := E) hX0 hx0 hi
    rw [← em] at hfind
    have hQ16 := hxQ.2.2.1
    have hM := em ▸ (hXm i hi).2
    have hxi := hxm i hi
    rw [← em] at hxi
    obtain ⟨hπ, hκ, hst1, hst2, hst3⟩ := hxi
    have hM0 := hM
    obtain ⟨hTm, hRm1, hRm3, hRm4, hRm5, hRm7, hRm8, hRm9, hRm10, hRm12, hTm1, hTm2, hTm3, hTm4, hTm5, hTm6, hTm7, hTm8, hWk⟩ := hM
    have hπ0 := hπ
    obtain ⟨hp0, hp2, hpA, hpB, hp6, hpn, hpo, hp11, hpg, hpG⟩ := hπ
    have hσ : fnd s (i : Int) := hf
    refine v_aload_n dX8_op_0 rfl ?_
    refine v_iload_n dX8_op_1 rfl ?_
    refine v_Vs hfind kX8_83 hTx rfl rfl ⟨by decide, by decide⟩ ⟨by decide, by decide⟩ (Nat.le_of_ble_eq_true rfl) dX8_op_2 ?_
    refine v_astore dX8_op_5 (by decide) rfl ?_
    refine v_aload dX8_op_7 rfl ?_
    refine v_ifnull dX8_op_9 ?_
    refine v_aload_n dX8_op_12 rfl ?_
    refine v_iload_n dX8_op_13 rfl ?_
    refine v_iload_n dX8_op_14 rfl ?_
    refine v_iload dX8_op_15 rfl ?_
    refine v_Vb (tX8_isOp hX0 hx0 hop ha hb) kX8_93 (by assumption) rfl rfl ⟨by decide, by decide⟩ ⟨by decide, by decide⟩ (Nat.le_of_ble_eq_true rfl) dX8_op_17 (fun h1 => ?_) (fun h1 => ?_)
    · refine v_if_ne ⟨by decide, by decide⟩ dX8_op_20 (fun hb20 => ?_) (fun h => by exfalso; omega)
      refine v_aload dX8_op_26 rfl ?_
      refine v_iload_n dX8_op_28 rfl ?_
      refine v_iload_n dX8_op_29 rfl ?_
      refine v_iload dX8_op_30 rfl ?_
      refine v_Vi (tX4_addOp hM0 hπ0 hop ha hb) kX8_97 hTm rfl rfl ⟨by decide, by decide⟩ ⟨by decide, by decide⟩ (Nat.le_of_ble_eq_true rfl) dX8_op_32 (fun r4 G9 J2 hr4 pJ2 rng3 => ?_)
      obtain ⟨hG9, ⟨rfl, g1, rfl⟩ | ⟨rfl, g1, g2, g3, g4⟩⟩ := pJ2
      all_goals obtain rfl := hG9.symm
      · rw [show xOp s (i : Int) op a b = (-4, s) by unfold xOp; (try simp only [Int.toNat_natCast]); rw [if_neg (by omega), if_pos g1]]
        exact v_iret rfl (by decide) (by decide) ⟨by decide, by decide⟩ dX8_op_35 ⟨rfl, rfl, hx0, fun _ _ _ _ => rfl⟩
      · rw [show xOp s (i : Int) op a b = ((mN (xπ s i) : Int), uM s i (aOp (xπ s i) op a b) (xκ s i) (0, (xst s i).2) (xρ s)) by unfold xOp; (try simp only [Int.toNat_natCast]); rw [if_neg (by omega), if_neg (Nat.ne_of_lt g1)]]
        subst em
        obtain ⟨u1, u2⟩ := hx0.updM hi g2 g3 g4
        exact v_iret rfl (by decide) (by decide) hr4 dX8_op_35 ⟨rfl, rfl, u1, u2⟩
    · refine v_if_ne ⟨by decide, by decide⟩ dX8_op_20 (fun h => by exfalso; omega) (fun hb20 => ?_)
      refine v_bipush dX8_op_23 (by decide) ?_
      rw [show xOp s (i : Int) op a b = (-2, s) by unfold xOp; (try simp only [Int.toNat_natCast]); rw [if_pos (by omega)]]
      exact v_iret rfl (by decide) (by decide) ⟨by decide, by decide⟩ dX8_op_25 ⟨rfl, rfl, hx0, fun _ _ _ _ => rfl⟩
  · refine v_aload_n dX8_op_0 rfl ?_
    refine v_iload_n dX8_op_1 rfl ?_
    refine v_Vnl (tX8_find_n hX0 hx0 hm hf) kX8_83 hTx rfl rfl ⟨by decide, by decide⟩ ⟨by decide, by decide⟩ (Nat.le_of_ble_eq_true rfl) dX8_op_2 ?_
    refine v_astoreN dX8_op_5 (by decide) rfl ?_
    refine v_aloadN dX8_op_7 rfl ?_
    refine v_ifnullN dX8_op_9 ?_
    refine v_bipush dX8_op_23 (by decide) ?_
    rw [show xOp s m0 op a b = (-2, s) by unfold xOp; (try simp only [Int.toNat_natCast]); rw [if_pos (by omega)]]
    exact v_iret rfl (by decide) (by decide) ⟨by decide, by decide⟩ dX8_op_25 ⟨rfl, rfl, hx0, fun _ _ _ _ => rfl⟩
theorem tX8_guard {E : w_E} {G : w_Sh} {I : w_Mm} {x : Nat} {s : xS} (hX : isX G x (xn s)) (hx : xOK I x s) {m0 : Int} (hm : inR m0) {f t h c : Int} (hff : inR f) (ht : inR t) (hh : inR h) (hc : inR c) : w_Ct E mX8_guard 1 [.ref x, iv m0, iv f, iv t, iv h, iv c] G I 0 0 (w_Pi (fun r G' J => G' = G ∧ r = (xGuard s m0 f t h c).1 ∧ xOK J x (xGuard s m0 f t h c).2 ∧ offY I J x)) := by
  have hX0 := hX
  have hx0 := hx
  obtain ⟨hTx, hRx0, hRx1, hRx2, hRx3, hRx4, hTx17, hV, hH, hXm⟩ := hX
  obtain ⟨hxQ, hx5, hx6, hxm, hxr⟩ := hx
  have hK := hV.2.2.2.2.1
  have hC := hK.2.2
  refine w_Ct.of (ls := [some (.ref x), some (iv m0), some (iv f), some (iv t), some (iv h), some (iv c), none]) (by decide +kernel) (Nat.le_of_ble_eq_true rfl) rfl rfl (fun rng => ?_)
  have hQ15 := hxQ.2.2.1
  by_cases hf : fnd s m0
  · obtain ⟨i, rfl⟩ : ∃ i : Nat, m0 = (i : Int) := ⟨m0.toNat, by omega⟩
    have hi : i < xn s := by omega
    obtain ⟨m, em⟩ : ∃ m, m = x + 47 + 132 * i := ⟨_, rfl⟩
    have hfind := tX8_find_s (E := E) hX0 hx0 hi
    rw [← em] at hfind
    have hQ16 := hxQ.2.2.1
    have hM := em ▸ (hXm i hi).2
    have hxi := hxm i hi
    rw [← em] at hxi
    obtain ⟨hπ, hκ, hst1, hst2, hst3⟩ := hxi
    have hM0 := hM
    obtain ⟨hTm, hRm1, hRm3, hRm4, hRm5, hRm7, hRm8, hRm9, hRm10, hRm12, hTm1, hTm2, hTm3, hTm4, hTm5, hTm6, hTm7, hTm8, hWk⟩ := hM
    have hπ0 := hπ
    obtain ⟨hp0, hp2, hpA, hpB, hp6, hpn, hpo, hp11, hpg, hpG⟩ := hπ
    have hσ : fnd s (i : Int) := hf
    refine v_aload_n dX8_guard_0 rfl ?_
    refine v_iload_n dX8_guard_1 rfl ?_
    refine v_Vs hfind kX8_83 hTx rfl rfl ⟨by decide, by decide⟩ ⟨by decide, by decide⟩ (Nat.le_of_ble_eq_true rfl) dX8_guard_2 ?_
    refine v_astore dX8_guard_5 (by decide) rfl ?_
    refine v_aload dX8_guard_7 rfl ?_
    refine v_ifnull dX8_guard_9 ?_
    refine v_iload_n dX8_guard_12 rfl ?_
    refine v_if_lt hff dX8_guard_13 (fun h1 => ?_) (fun h1 => ?_)
    · refine v_bipush dX8_guard_27 (by decide) ?_
      rw [show xGuard s (i : Int) f t h c = (-2, s) by unfold xGuard; (try simp only [Int.toNat_natCast]); rw [if_pos (by omega)]]
      exact v_iret rfl (by decide) (by decide) ⟨by decide, by decide⟩ dX8_guard_29 ⟨rfl, rfl, hx0, fun _ _ _ _ => rfl⟩
    · refine v_iload_n dX8_guard_16 rfl ?_
      refine v_iload_n dX8_guard_17 rfl ?_
      refine v_icmp_ge hff ht dX8_guard_18 (fun h2 => ?_) (fun h2 => ?_)
      · refine v_bipush dX8_guard_27 (by decide) ?_
        rw [show xGuard s (i : Int) f t h c = (-2, s) by unfold xGuard; (try simp only [Int.toNat_natCast]); rw [if_pos (by omega)]]
        exact v_iret rfl (by decide) (by decide) ⟨by decide, by decide⟩ dX8_guard_29 ⟨rfl, rfl, hx0, fun _ _ _ _ => rfl⟩
      · refine v_iload_n dX8_guard_21 rfl ?_
        refine v_bipush dX8_guard_22 (by decide) ?_
        refine v_icmp_le ht ⟨by decide, by decide⟩ dX8_guard_24 (fun h3 => ?_) (fun h3 => ?_)
        · refine v_iload dX8_guard_30 rfl ?_
          refine v_if_lt hh dX8_guard_32 (fun h4 => ?_) (fun h4 => ?_)
          · refine v_bipush dX8_guard_54 (by decide) ?_
            rw [show xGuard s (i : Int) f t h c = (-2, s) by unfold xGuard; (try simp only [Int.toNat_natCast]); rw [if_pos (by omega)]]
            exact v_iret rfl (by decide) (by decide) ⟨by decide, by decide⟩ dX8_guard_56 ⟨rfl, rfl, hx0, fun _ _ _ _ => rfl⟩
          · refine v_iload dX8_guard_35 rfl ?_
            refine v_bipush dX8_guard_37 (by decide) ?_
            refine v_icmp_ge hh ⟨by decide, by decide⟩ dX8_guard_39 (fun h5 => ?_) (fun h5 => ?_)
            · refine v_bipush dX8_guard_54 (by decide) ?_
              rw [show xGuard s (i : Int) f t h c = (-2, s) by unfold xGuard; (try simp only [Int.toNat_natCast]); rw [if_pos (by omega)]]
              exact v_iret rfl (by decide) (by decide) ⟨by decide, by decide⟩ dX8_guard_56 ⟨rfl, rfl, hx0, fun _ _ _ _ => rfl⟩
            · refine v_aload_n dX8_guard_42 rfl ?_
              refine v_getR fX8_10 rfl (by assumption) (by assumption) dX8_guard_43 ?_
              refine v_iload dX8_guard_46 rfl ?_
              refine v_Vb (tX0_has hC hxQ hc) kX8_51 hC.1 rfl rfl ⟨by decide, by decide⟩ ⟨by decide, by decide⟩ (Nat.le_of_ble_eq_true rfl) dX8_guard_48 (fun h6 => ?_) (fun h6 => ?_)
              · refine v_if_ne ⟨by decide, by decide⟩ dX8_guard_51 (fun hb51 => ?_) (fun h => by exfalso; omega)
                refine v_aload dX8_guard_57 rfl ?_
                refine v_iload_n dX8_guard_59 rfl ?_
                refine v_iload_n dX8_guard_60 rfl ?_
                refine v_iload dX8_guard_61 rfl ?_
                refine v_iload dX8_guard_63 rfl ?_
                refine v_Vi (tX4_addGuard hM0 hπ0 hff ht hh hc) kX8_101 hTm rfl rfl ⟨by decide, by decide⟩ ⟨by decide, by decide⟩ (Nat.le_of_ble_eq_true rfl) dX8_guard_65 (fun r9 G9 J7 hr9 pJ7 rng8 => ?_)
                obtain ⟨hG9, ⟨rfl, g1, rfl⟩ | ⟨rfl, g1, g2, g3, g4⟩⟩ := pJ7
                all_goals obtain rfl := hG9.symm
                · rw [show xGuard s (i : Int) f t h c = (-4, s) by unfold xGuard; (try simp only [Int.toNat_natCast]); rw [if_neg (by omega), if_pos g1]]
                  exact v_iret rfl (by decide) (by decide) ⟨by decide, by decide⟩ dX8_guard_68 ⟨rfl, rfl, hx0, fun _ _ _ _ => rfl⟩
                · rw [show xGuard s (i : Int) f t h c = ((mNG (xπ s i) : Int), uM s i (aGd (xπ s i) f t h c) (xκ s i) (0, (xst s i).2) (xρ s)) by unfold xGuard; (try simp only [Int.toNat_natCast]); rw [if_neg (by omega), if_neg (Nat.ne_of_lt g1)]]
                  subst em
                  obtain ⟨u1, u2⟩ := hx0.updM hi g2 g3 g4
                  exact v_iret rfl (by decide) (by decide) hr9 dX8_guard_68 ⟨rfl, rfl, u1, u2⟩
              · refine v_if_ne ⟨by decide, by decide⟩ dX8_guard_51 (fun h => by exfalso; omega) (fun hb51 => ?_)
                refine v_bipush dX8_guard_54 (by decide) ?_
                rw [show xGuard s (i : Int) f t h c = (-2, s) by unfold xGuard; (try simp only [Int.toNat_natCast]); rw [if_pos (by omega)]]
                exact v_iret rfl (by decide) (by decide) ⟨by decide, by decide⟩ dX8_guard_56 ⟨rfl, rfl, hx0, fun _ _ _ _ => rfl⟩
        · refine v_bipush dX8_guard_27 (by decide) ?_
          rw [show xGuard s (i : Int) f t h c = (-2, s) by unfold xGuard; (try simp only [Int.toNat_natCast]); rw [if_pos (by omega)]]
          exact v_iret rfl (by decide) (by decide) ⟨by decide, by decide⟩ dX8_guard_29 ⟨rfl, rfl, hx0, fun _ _ _ _ => rfl⟩
  · refine v_aload_n dX8_guard_0 rfl ?_
    refine v_iload_n dX8_guard_1 rfl ?_
    refine v_Vnl (tX8_find_n hX0 hx0 hm hf) kX8_83 hTx rfl rfl ⟨by decide, by decide⟩ ⟨by decide, by decide⟩ (Nat.le_of_ble_eq_true rfl) dX8_guard_2 ?_
    refine v_astoreN dX8_guard_5 (by decide) rfl ?_
    refine v_aloadN dX8_guard_7 rfl ?_
    refine v_ifnullN dX8_guard_9 ?_
    refine v_bipush dX8_guard_27 (by decide) ?_
    rw [show xGuard s m0 f t h c = (-2, s) by unfold xGuard; (try simp only [Int.toNat_natCast]); rw [if_pos (by omega)]]
    exact v_iret rfl (by decide) (by decide) ⟨by decide, by decide⟩ dX8_guard_29 ⟨rfl, rfl, hx0, fun _ _ _ _ => rfl⟩
theorem tX8_count {E : w_E} {G : w_Sh} {I : w_Mm} {x : Nat} {s : xS} (hX : isX G x (xn s)) (hx : xOK I x s) {m0 : Int} (hm : inR m0) {w : Int} (hw : inR w) : w_Ct E mX8_count 1 [.ref x, iv w, iv m0] G I 0 0 (w_Pi (fun r G' I' => r = (xCount s w m0) ∧ G' = G ∧ I' = I)) := by
  have hX0 := hX
  have hx0 := hx
  obtain ⟨hTx, hRx0, hRx1, hRx2, hRx3, hRx4, hTx17, hV, hH, hXm⟩ := hX
  obtain ⟨hxQ, hx5, hx6, hxm, hxr⟩ := hx
  have hK := hV.2.2.2.2.1
  have hC := hK.2.2
  refine w_Ct.of (ls := [some (.ref x), some (iv w), some (iv m0), none]) (by decide +kernel) (Nat.le_of_ble_eq_true rfl) rfl rfl (fun rng => ?_)
  have hQ15 := hxQ.2.2.1
  by_cases hf : fnd s m0
  · obtain ⟨i, rfl⟩ : ∃ i : Nat, m0 = (i : Int) := ⟨m0.toNat, by omega⟩
    have hi : i < xn s := by omega
    obtain ⟨m, em⟩ : ∃ m, m = x + 47 + 132 * i := ⟨_, rfl⟩
    have hfind := tX8_find_s (E := E) hX0 hx0 hi
    rw [← em] at hfind
    have hQ16 := hxQ.2.2.1
    have hM := em ▸ (hXm i hi).2
    have hxi := hxm i hi
    rw [← em] at hxi
    obtain ⟨hπ, hκ, hst1, hst2, hst3⟩ := hxi
    have hM0 := hM
    obtain ⟨hTm, hRm1, hRm3, hRm4, hRm5, hRm7, hRm8, hRm9, hRm10, hRm12, hTm1, hTm2, hTm3, hTm4, hTm5, hTm6, hTm7, hTm8, hWk⟩ := hM
    have hπ0 := hπ
    obtain ⟨hp0, hp2, hpA, hpB, hp6, hpn, hpo, hp11, hpg, hpG⟩ := hπ
    have hσ : fnd s (i : Int) := hf
    refine v_iload_n dX8_count_0 rfl ?_
    refine v_if_ne hw dX8_count_1 (fun h1 => ?_) (fun h1 => ?_)
    · refine v_iload_n dX8_count_12 rfl ?_
      refine v_iconst dX8_count_13 ?_
      refine v_icmp_ne hw ⟨by decide, by decide⟩ dX8_count_14 (fun h2 => ?_) (fun h2 => ?_)
      · refine v_aload_n dX8_count_22 rfl ?_
        refine v_iload_n dX8_count_23 rfl ?_
        refine v_Vs hfind kX8_83 hTx rfl rfl ⟨by decide, by decide⟩ ⟨by decide, by decide⟩ (Nat.le_of_ble_eq_true rfl) dX8_count_24 ?_
        refine v_astore_n dX8_count_27 (by decide) rfl ?_
        refine v_aload_n dX8_count_28 rfl ?_
        refine v_ifnull dX8_count_29 ?_
        refine v_iload_n dX8_count_32 rfl ?_
        refine v_iconst dX8_count_33 ?_
        refine v_icmp_lt hw ⟨by decide, by decide⟩ dX8_count_34 (fun h3 => ?_) (fun h3 => ?_)
        · refine v_bipush dX8_count_42 (by decide) ?_
          exact v_iret rfl (by decide) (by decide) ⟨by decide, by decide⟩ dX8_count_44 ⟨by unfold xCount; (try simp only [Int.toNat_natCast]); first | rw [if_pos (by omega)] | rw [if_neg (by omega), if_pos (by omega)] | rw [if_neg (by omega), if_neg (by omega), if_pos (by omega)] | (rw [if_neg (by omega), if_neg (by omega), if_neg (by omega), if_pos (by omega)]) | (rw [if_neg (by omega), if_neg (by omega), if_neg (by omega), if_neg (by omega)]), rfl, rfl⟩
        · refine v_iload_n dX8_count_37 rfl ?_
          refine v_iconst dX8_count_38 ?_
          refine v_icmp_le hw ⟨by decide, by decide⟩ dX8_count_39 (fun h4 => ?_) (fun h4 => ?_)
          · refine v_iload_n dX8_count_45 rfl ?_
            refine v_iconst dX8_count_46 ?_
            refine v_icmp_ne hw ⟨by decide, by decide⟩ dX8_count_47 (fun h5 => ?_) (fun h5 => ?_)
            · refine v_aload_n dX8_count_57 rfl ?_
              refine v_getI' (v := ((mNG (xπ s i) : Nat) : Int)) hp11 fX8_160 rfl hTm dX8_count_58 ?_
              exact v_iret rfl (by decide) (by decide) ⟨by omega, by omega⟩ dX8_count_61 ⟨by unfold xCount; (try simp only [Int.toNat_natCast]); first | rw [if_pos (by omega)] | rw [if_neg (by omega), if_pos (by omega)] | rw [if_neg (by omega), if_neg (by omega), if_pos (by omega)] | (rw [if_neg (by omega), if_neg (by omega), if_neg (by omega), if_pos (by omega)]) | (rw [if_neg (by omega), if_neg (by omega), if_neg (by omega), if_neg (by omega)]), rfl, rfl⟩
            · refine v_aload_n dX8_count_50 rfl ?_
              refine v_getI' (v := ((mN (xπ s i) : Nat) : Int)) hp6 fX8_105 rfl hTm dX8_count_51 ?_
              refine v_goto dX8_count_54 ?_
              exact v_iret rfl (by decide) (by decide) ⟨by omega, by omega⟩ dX8_count_61 ⟨by unfold xCount; (try simp only [Int.toNat_natCast]); first | rw [if_pos (by omega)] | rw [if_neg (by omega), if_pos (by omega)] | rw [if_neg (by omega), if_neg (by omega), if_pos (by omega)] | (rw [if_neg (by omega), if_neg (by omega), if_neg (by omega), if_pos (by omega)]) | (rw [if_neg (by omega), if_neg (by omega), if_neg (by omega), if_neg (by omega)]), rfl, rfl⟩
          · refine v_bipush dX8_count_42 (by decide) ?_
            exact v_iret rfl (by decide) (by decide) ⟨by decide, by decide⟩ dX8_count_44 ⟨by unfold xCount; (try simp only [Int.toNat_natCast]); first | rw [if_pos (by omega)] | rw [if_neg (by omega), if_pos (by omega)] | rw [if_neg (by omega), if_neg (by omega), if_pos (by omega)] | (rw [if_neg (by omega), if_neg (by omega), if_neg (by omega), if_pos (by omega)]) | (rw [if_neg (by omega), if_neg (by omega), if_neg (by omega), if_neg (by omega)]), rfl, rfl⟩
      · refine v_aload_n dX8_count_17 rfl ?_
        refine v_getI' (v := ((xn s : Nat) : Int)) hx5 fX8_47 rfl (by assumption) dX8_count_18 ?_
        exact v_iret rfl (by decide) (by decide) ⟨by omega, by omega⟩ dX8_count_21 ⟨by unfold xCount; (try simp only [Int.toNat_natCast]); first | rw [if_pos (by omega)] | rw [if_neg (by omega), if_pos (by omega)] | rw [if_neg (by omega), if_neg (by omega), if_pos (by omega)] | (rw [if_neg (by omega), if_neg (by omega), if_neg (by omega), if_pos (by omega)]) | (rw [if_neg (by omega), if_neg (by omega), if_neg (by omega), if_neg (by omega)]), rfl, rfl⟩
    · refine v_aload_n dX8_count_4 rfl ?_
      refine v_getR fX8_10 rfl (by assumption) (by assumption) dX8_count_5 ?_
      refine v_getI' (v := ((s.1.1 : Nat) : Int)) hxQ.1 fX8_157 rfl hC.1 dX8_count_8 ?_
      exact v_iret rfl (by decide) (by decide) ⟨by omega, by omega⟩ dX8_count_11 ⟨by unfold xCount; (try simp only [Int.toNat_natCast]); first | rw [if_pos (by omega)] | rw [if_neg (by omega), if_pos (by omega)] | rw [if_neg (by omega), if_neg (by omega), if_pos (by omega)] | (rw [if_neg (by omega), if_neg (by omega), if_neg (by omega), if_pos (by omega)]) | (rw [if_neg (by omega), if_neg (by omega), if_neg (by omega), if_neg (by omega)]), rfl, rfl⟩
  · refine v_iload_n dX8_count_0 rfl ?_
    refine v_if_ne hw dX8_count_1 (fun h1 => ?_) (fun h1 => ?_)
    · refine v_iload_n dX8_count_12 rfl ?_
      refine v_iconst dX8_count_13 ?_
      refine v_icmp_ne hw ⟨by decide, by decide⟩ dX8_count_14 (fun h2 => ?_) (fun h2 => ?_)
      · refine v_aload_n dX8_count_22 rfl ?_
        refine v_iload_n dX8_count_23 rfl ?_
        refine v_Vnl (tX8_find_n hX0 hx0 hm hf) kX8_83 hTx rfl rfl ⟨by decide, by decide⟩ ⟨by decide, by decide⟩ (Nat.le_of_ble_eq_true rfl) dX8_count_24 ?_
        refine v_astore_nN dX8_count_27 (by decide) rfl ?_
        refine v_aload_nN dX8_count_28 rfl ?_
        refine v_ifnullN dX8_count_29 ?_
        refine v_bipush dX8_count_42 (by decide) ?_
        exact v_iret rfl (by decide) (by decide) ⟨by decide, by decide⟩ dX8_count_44 ⟨by unfold xCount; (try simp only [Int.toNat_natCast]); first | rw [if_pos (by omega)] | rw [if_neg (by omega), if_pos (by omega)] | rw [if_neg (by omega), if_neg (by omega), if_pos (by omega)] | (rw [if_neg (by omega), if_neg (by omega), if_neg (by omega), if_pos (by omega)]) | (rw [if_neg (by omega), if_neg (by omega), if_neg (by omega), if_neg (by omega)]), rfl, rfl⟩
      · refine v_aload_n dX8_count_17 rfl ?_
        refine v_getI' (v := ((xn s : Nat) : Int)) hx5 fX8_47 rfl (by assumption) dX8_count_18 ?_
        exact v_iret rfl (by decide) (by decide) ⟨by omega, by omega⟩ dX8_count_21 ⟨by unfold xCount; (try simp only [Int.toNat_natCast]); first | rw [if_pos (by omega)] | rw [if_neg (by omega), if_pos (by omega)] | rw [if_neg (by omega), if_neg (by omega), if_pos (by omega)] | (rw [if_neg (by omega), if_neg (by omega), if_neg (by omega), if_pos (by omega)]) | (rw [if_neg (by omega), if_neg (by omega), if_neg (by omega), if_neg (by omega)]), rfl, rfl⟩
    · refine v_aload_n dX8_count_4 rfl ?_
      refine v_getR fX8_10 rfl (by assumption) (by assumption) dX8_count_5 ?_
      refine v_getI' (v := ((s.1.1 : Nat) : Int)) hxQ.1 fX8_157 rfl hC.1 dX8_count_8 ?_
      exact v_iret rfl (by decide) (by decide) ⟨by omega, by omega⟩ dX8_count_11 ⟨by unfold xCount; (try simp only [Int.toNat_natCast]); first | rw [if_pos (by omega)] | rw [if_neg (by omega), if_pos (by omega)] | rw [if_neg (by omega), if_neg (by omega), if_pos (by omega)] | (rw [if_neg (by omega), if_neg (by omega), if_neg (by omega), if_pos (by omega)]) | (rw [if_neg (by omega), if_neg (by omega), if_neg (by omega), if_neg (by omega)]), rfl, rfl⟩
theorem tX8_height {E : w_E} {G : w_Sh} {I : w_Mm} {x : Nat} {s : xS} (hX : isX G x (xn s)) (hx : xOK I x s) {m0 : Int} (hm : inR m0) {p0 : Int} (hp : inR p0) : w_Ct E mX8_height 1 [.ref x, iv m0, iv p0] G I 0 0 (w_Pi (fun r G' I' => r = (xHeight s m0 p0) ∧ G' = G ∧ I' = I)) := by
  have hX0 := hX
  have hx0 := hx
  obtain ⟨hTx, hRx0, hRx1, hRx2, hRx3, hRx4, hTx17, hV, hH, hXm⟩ := hX
  obtain ⟨hxQ, hx5, hx6, hxm, hxr⟩ := hx
  have hK := hV.2.2.2.2.1
  have hC := hK.2.2
  refine w_Ct.of (ls := [some (.ref x), some (iv m0), some (iv p0), none]) (by decide +kernel) (Nat.le_of_ble_eq_true rfl) rfl rfl (fun rng => ?_)
  have hQ15 := hxQ.2.2.1
  by_cases hf : fnd s m0
  · obtain ⟨i, rfl⟩ : ∃ i : Nat, m0 = (i : Int) := ⟨m0.toNat, by omega⟩
    have hi : i < xn s := by omega
    obtain ⟨m, em⟩ : ∃ m, m = x + 47 + 132 * i := ⟨_, rfl⟩
    have hfind := tX8_find_s (E := E) hX0 hx0 hi
    rw [← em] at hfind
    have hQ16 := hxQ.2.2.1
    have hM := em ▸ (hXm i hi).2
    have hxi := hxm i hi
    rw [← em] at hxi
    obtain ⟨hπ, hκ, hst1, hst2, hst3⟩ := hxi
    have hM0 := hM
    obtain ⟨hTm, hRm1, hRm3, hRm4, hRm5, hRm7, hRm8, hRm9, hRm10, hRm12, hTm1, hTm2, hTm3, hTm4, hTm5, hTm6, hTm7, hTm8, hWk⟩ := hM
    have hπ0 := hπ
    obtain ⟨hp0, hp2, hpA, hpB, hp6, hpn, hpo, hp11, hpg, hpG⟩ := hπ
    have hσ : fnd s (i : Int) := hf
    refine v_aload_n dX8_height_0 rfl ?_
    refine v_iload_n dX8_height_1 rfl ?_
    refine v_Vs hfind kX8_83 hTx rfl rfl ⟨by decide, by decide⟩ ⟨by decide, by decide⟩ (Nat.le_of_ble_eq_true rfl) dX8_height_2 ?_
    refine v_astore_n dX8_height_5 (by decide) rfl ?_
    refine v_aload_n dX8_height_6 rfl ?_
    refine v_ifnull dX8_height_7 ?_
    refine v_aload_n dX8_height_10 rfl ?_
    refine v_iload_n dX8_height_11 rfl ?_
    refine v_Vb (tX4_hasPlace hM0 hπ0 hp) kX8_138 hTm rfl rfl ⟨by decide, by decide⟩ ⟨by decide, by decide⟩ (Nat.le_of_ble_eq_true rfl) dX8_height_12 (fun h1 => ?_) (fun h1 => ?_)
    · refine v_if_ne ⟨by decide, by decide⟩ dX8_height_15 (fun hb15 => ?_) (fun h => by exfalso; omega)
      refine v_aload_n dX8_height_21 rfl ?_
      refine v_getR fX8_112 rfl hTm (by assumption) dX8_height_22 ?_
      refine v_getI' (v := (xst s i).1) hst1 fX8_121 rfl hWk.1 dX8_height_25 ?_
      refine v_if_ne (by rw [← hst1]; exact rng _ _) dX8_height_28 (fun h2 => ?_) (fun h2 => ?_)
      · obtain ⟨p, rfl⟩ : ∃ p : Nat, p0 = (p : Int) := ⟨p0.toNat, by omega⟩
        have hpn9 : p < mN (xπ s i) := by omega
        have hW6 := hWk.2.2.2.2.2 p (by omega)
        have hfp := hκ.1 p (by omega)
        refine v_aload_n dX8_height_34 rfl ?_
        refine v_getR fX8_112 rfl hTm (by assumption) dX8_height_35 ?_
        refine v_getR fX8_141 rfl hWk.1 hWk.2.1 dX8_height_38 ?_
        refine v_iload_n dX8_height_41 rfl ?_
        refine v_aaldF (i := p) hWk.2.2.2.1 hW6.1 rfl (by omega) (by omega) dX8_height_42 ?_
        refine v_getI' (v := ((xκ s i).1 p).1) hfp.1 fX8_150 rfl hW6.2.1 dX8_height_43 ?_
        exact v_iret rfl (by decide) (by decide) (by rw [← hfp.1]; exact rng _ _) dX8_height_46 ⟨by unfold xHeight plc; (try simp only [Int.toNat_natCast]); first | rw [if_pos (by omega)] | rw [if_neg (by omega), if_pos (by omega)] | (rw [if_neg (by omega), if_neg (by omega)]), rfl, rfl⟩
      · refine v_bipush dX8_height_31 (by decide) ?_
        exact v_iret rfl (by decide) (by decide) ⟨by decide, by decide⟩ dX8_height_33 ⟨by unfold xHeight plc; (try simp only [Int.toNat_natCast]); first | rw [if_pos (by omega)] | rw [if_neg (by omega), if_pos (by omega)] | (rw [if_neg (by omega), if_neg (by omega)]), rfl, rfl⟩
    · refine v_if_ne ⟨by decide, by decide⟩ dX8_height_15 (fun h => by exfalso; omega) (fun hb15 => ?_)
      refine v_bipush dX8_height_18 (by decide) ?_
      exact v_iret rfl (by decide) (by decide) ⟨by decide, by decide⟩ dX8_height_20 ⟨by unfold xHeight plc; (try simp only [Int.toNat_natCast]); first | rw [if_pos (by omega)] | rw [if_neg (by omega), if_pos (by omega)] | (rw [if_neg (by omega), if_neg (by omega)]), rfl, rfl⟩
  · refine v_aload_n dX8_height_0 rfl ?_
    refine v_iload_n dX8_height_1 rfl ?_
    refine v_Vnl (tX8_find_n hX0 hx0 hm hf) kX8_83 hTx rfl rfl ⟨by decide, by decide⟩ ⟨by decide, by decide⟩ (Nat.le_of_ble_eq_true rfl) dX8_height_2 ?_
    refine v_astore_nN dX8_height_5 (by decide) rfl ?_
    refine v_aload_nN dX8_height_6 rfl ?_
    refine v_ifnullN dX8_height_7 ?_
    refine v_bipush dX8_height_18 (by decide) ?_
    exact v_iret rfl (by decide) (by decide) ⟨by decide, by decide⟩ dX8_height_20 ⟨by unfold xHeight plc; (try simp only [Int.toNat_natCast]); first | rw [if_pos (by omega)] | rw [if_neg (by omega), if_pos (by omega)] | (rw [if_neg (by omega), if_neg (by omega)]), rfl, rfl⟩
theorem tX8_frame {E : w_E} {G : w_Sh} {I : w_Mm} {x : Nat} {s : xS} (hX : isX G x (xn s)) (hx : xOK I x s) {m0 : Int} (hm : inR m0) {p0 k0 : Int} (hp : inR p0) (hk0 : inR k0) : w_Ct E mX8_frame 2 [.ref x, iv m0, iv p0, iv k0] G I 0 0 (w_Pi (fun r G' I' => r = (xFrame s m0 p0 k0) ∧ G' = G ∧ I' = I)) := by
  have hX0 := hX
  have hx0 := hx
  obtain ⟨hTx, hRx0, hRx1, hRx2, hRx3, hRx4, hTx17, hV, hH, hXm⟩ := hX
  obtain ⟨hxQ, hx5, hx6, hxm, hxr⟩ := hx
  have hK := hV.2.2.2.2.1
  have hC := hK.2.2
  refine w_Ct.of (ls := [some (.ref x), some (iv m0), some (iv p0), some (iv k0), none]) (by decide +kernel) (Nat.le_of_ble_eq_true rfl) rfl rfl (fun rng => ?_)
  have hQ15 := hxQ.2.2.1
  by_cases hf : fnd s m0
  · obtain ⟨i, rfl⟩ : ∃ i : Nat, m0 = (i : Int) := ⟨m0.toNat, by omega⟩
    have hi : i < xn s := by omega
    obtain ⟨m, em⟩ : ∃ m, m = x + 47 + 132 * i := ⟨_, rfl⟩
    have hfind := tX8_find_s (E := E) hX0 hx0 hi
    rw [← em] at hfind
    have hQ16 := hxQ.2.2.1
    have hM := em ▸ (hXm i hi).2
    have hxi := hxm i hi
    rw [← em] at hxi
    obtain ⟨hπ, hκ, hst1, hst2, hst3⟩ := hxi
    have hM0 := hM
    obtain ⟨hTm, hRm1, hRm3, hRm4, hRm5, hRm7, hRm8, hRm9, hRm10, hRm12, hTm1, hTm2, hTm3, hTm4, hTm5, hTm6, hTm7, hTm8, hWk⟩ := hM
    have hπ0 := hπ
    obtain ⟨hp0, hp2, hpA, hpB, hp6, hpn, hpo, hp11, hpg, hpG⟩ := hπ
    have hσ : fnd s (i : Int) := hf
    refine v_aload_n dX8_frame_0 rfl ?_
    refine v_iload_n dX8_frame_1 rfl ?_
    refine v_Vs hfind kX8_83 hTx rfl rfl ⟨by decide, by decide⟩ ⟨by decide, by decide⟩ (Nat.le_of_ble_eq_true rfl) dX8_frame_2 ?_
    refine v_astore dX8_frame_5 (by decide) rfl ?_
    refine v_aload dX8_frame_7 rfl ?_
    refine v_ifnull dX8_frame_9 ?_
    refine v_aload dX8_frame_12 rfl ?_
    refine v_iload_n dX8_frame_14 rfl ?_
    refine v_Vb (tX4_hasPlace hM0 hπ0 hp) kX8_138 hTm rfl rfl ⟨by decide, by decide⟩ ⟨by decide, by decide⟩ (Nat.le_of_ble_eq_true rfl) dX8_frame_15 (fun h1 => ?_) (fun h1 => ?_)
    · refine v_if_eq ⟨by decide, by decide⟩ dX8_frame_18 (fun h => by exfalso; omega) (fun hb18 => ?_)
      refine v_iload_n dX8_frame_21 rfl ?_
      refine v_if_lt hk0 dX8_frame_22 (fun h2 => ?_) (fun h2 => ?_)
      · refine v_bipush dX8_frame_31 (by decide) ?_
        exact v_iret rfl (by decide) (by decide) ⟨by decide, by decide⟩ dX8_frame_33 ⟨by unfold xFrame plc; (try simp only [Int.toNat_natCast]); first | rw [if_pos (by omega)] | rw [if_neg (by omega), if_pos (by omega)] | (rw [if_neg (by omega), if_neg (by omega)]), rfl, rfl⟩
      · refine v_iload_n dX8_frame_25 rfl ?_
        refine v_bipush dX8_frame_26 (by decide) ?_
        refine v_icmp_lt hk0 ⟨by decide, by decide⟩ dX8_frame_28 (fun h3 => ?_) (fun h3 => ?_)
        · refine v_aload dX8_frame_34 rfl ?_
          refine v_getR fX8_112 rfl hTm (by assumption) dX8_frame_36 ?_
          refine v_getI' (v := (xst s i).1) hst1 fX8_121 rfl hWk.1 dX8_frame_39 ?_
          refine v_if_ne (by rw [← hst1]; exact rng _ _) dX8_frame_42 (fun h4 => ?_) (fun h4 => ?_)
          · obtain ⟨p, rfl⟩ : ∃ p : Nat, p0 = (p : Int) := ⟨p0.toNat, by omega⟩
            have hpn9 : p < mN (xπ s i) := by omega
            have hW6 := hWk.2.2.2.2.2 p (by omega)
            have hfp := hκ.1 p (by omega)
            refine v_aload dX8_frame_48 rfl ?_
            refine v_getR fX8_112 rfl hTm (by assumption) dX8_frame_50 ?_
            refine v_getR fX8_141 rfl hWk.1 hWk.2.1 dX8_frame_53 ?_
            refine v_iload_n dX8_frame_56 rfl ?_
            refine v_aaldF (i := p) hWk.2.2.2.1 hW6.1 rfl (by omega) (by omega) dX8_frame_57 ?_
            refine v_iload_n dX8_frame_58 rfl ?_
            refine v_VmN (tX2_slot hW6.2 hfp hk0) kX8_145 hW6.2.1 rfl rfl ⟨by decide, by decide⟩ ⟨by decide, by decide⟩ (Nat.le_of_ble_eq_true rfl) dX8_frame_59 (fun r5 er5 hr5 rng6 => ?_)
            exact v_iret rfl (by decide) (by decide) hr5 dX8_frame_62 ⟨by unfold xFrame plc; (try simp only [Int.toNat_natCast]); rw [if_neg (by omega), if_neg (by omega)]; exact er5, rfl, rfl⟩
          · refine v_bipush dX8_frame_45 (by decide) ?_
            exact v_iret rfl (by decide) (by decide) ⟨by decide, by decide⟩ dX8_frame_47 ⟨by unfold xFrame plc; (try simp only [Int.toNat_natCast]); first | rw [if_pos (by omega)] | rw [if_neg (by omega), if_pos (by omega)] | (rw [if_neg (by omega), if_neg (by omega)]), rfl, rfl⟩
        · refine v_bipush dX8_frame_31 (by decide) ?_
          exact v_iret rfl (by decide) (by decide) ⟨by decide, by decide⟩ dX8_frame_33 ⟨by unfold xFrame plc; (try simp only [Int.toNat_natCast]); first | rw [if_pos (by omega)] | rw [if_neg (by omega), if_pos (by omega)] | (rw [if_neg (by omega), if_neg (by omega)]), rfl, rfl⟩
    · refine v_if_eq ⟨by decide, by decide⟩ dX8_frame_18 (fun hb18 => ?_) (fun h => by exfalso; omega)
      refine v_bipush dX8_frame_31 (by decide) ?_
      exact v_iret rfl (by decide) (by decide) ⟨by decide, by decide⟩ dX8_frame_33 ⟨by unfold xFrame plc; (try simp only [Int.toNat_natCast]); first | rw [if_pos (by omega)] | rw [if_neg (by omega), if_pos (by omega)] | (rw [if_neg (by omega), if_neg (by omega)]), rfl, rfl⟩
  · refine v_aload_n dX8_frame_0 rfl ?_
    refine v_iload_n dX8_frame_1 rfl ?_
    refine v_Vnl (tX8_find_n hX0 hx0 hm hf) kX8_83 hTx rfl rfl ⟨by decide, by decide⟩ ⟨by decide, by decide⟩ (Nat.le_of_ble_eq_true rfl) dX8_frame_2 ?_
    refine v_astoreN dX8_frame_5 (by decide) rfl ?_
    refine v_aloadN dX8_frame_7 rfl ?_
    refine v_ifnullN dX8_frame_9 ?_
    refine v_bipush dX8_frame_31 (by decide) ?_
    exact v_iret rfl (by decide) (by decide) ⟨by decide, by decide⟩ dX8_frame_33 ⟨by unfold xFrame plc; (try simp only [Int.toNat_natCast]); first | rw [if_pos (by omega)] | rw [if_neg (by omega), if_pos (by omega)] | (rw [if_neg (by omega), if_neg (by omega)]), rfl, rfl⟩
theorem tX8_told {E : w_E} {G : w_Sh} {I : w_Mm} {x : Nat} {s : xS} (hX : isX G x (xn s)) (hx : xOK I x s) {m0 : Int} (hm : inR m0) {w0 : Int} (hw0 : inR w0) (hal : ∀ i, i < xn s → opsOK s.1 (xπ s i)) : w_Ct E mX8_told 2 [.ref x, iv m0, iv w0] G I 0 0 (w_Pi (fun r G' I' => r = (xTold s m0 w0) ∧ G' = G ∧ I' = I)) := by
  have hX0 := hX
  have hx0 := hx
  obtain ⟨hTx, hRx0, hRx1, hRx2, hRx3, hRx4, hTx17, hV, hH, hXm⟩ := hX
  obtain ⟨hxQ, hx5, hx6, hxm, hxr⟩ := hx
  have hK := hV.2.2.2.2.1
  have hC := hK.2.2
  refine w_Ct.of (ls := [some (.ref x), some (iv m0), some (iv w0), none]) (by decide +kernel) (Nat.le_of_ble_eq_true rfl) rfl rfl (fun rng => ?_)
  have hQ15 := hxQ.2.2.1
  by_cases hf : fnd s m0
  · obtain ⟨i, rfl⟩ : ∃ i : Nat, m0 = (i : Int) := ⟨m0.toNat, by omega⟩
    have hi : i < xn s := by omega
    obtain ⟨m, em⟩ : ∃ m, m = x + 47 + 132 * i := ⟨_, rfl⟩
    have hfind := tX8_find_s (E := E) hX0 hx0 hi
    rw [← em] at hfind
    have hQ16 := hxQ.2.2.1
    have hM := em ▸ (hXm i hi).2
    have hxi := hxm i hi
    rw [← em] at hxi
    obtain ⟨hπ, hκ, hst1, hst2, hst3⟩ := hxi
    have hM0 := hM
    obtain ⟨hTm, hRm1, hRm3, hRm4, hRm5, hRm7, hRm8, hRm9, hRm10, hRm12, hTm1, hTm2, hTm3, hTm4, hTm5, hTm6, hTm7, hTm8, hWk⟩ := hM
    have hπ0 := hπ
    obtain ⟨hp0, hp2, hpA, hpB, hp6, hpn, hpo, hp11, hpg, hpG⟩ := hπ
    have hσ : fnd s (i : Int) := hf
    refine v_aload_n dX8_told_0 rfl ?_
    refine v_iload_n dX8_told_1 rfl ?_
    refine v_Vs hfind kX8_83 hTx rfl rfl ⟨by decide, by decide⟩ ⟨by decide, by decide⟩ (Nat.le_of_ble_eq_true rfl) dX8_told_2 ?_
    refine v_astore_n dX8_told_5 (by decide) rfl ?_
    refine v_aload_n dX8_told_6 rfl ?_
    refine v_ifnull dX8_told_7 ?_
    refine v_iload_n dX8_told_10 rfl ?_
    refine v_if_lt hw0 dX8_told_11 (fun h1 => ?_) (fun h1 => ?_)
    · refine v_bipush dX8_told_19 (by decide) ?_
      exact v_iret rfl (by decide) (by decide) ⟨by decide, by decide⟩ dX8_told_21 ⟨by unfold xTold; (try simp only [Int.toNat_natCast]); first | rw [if_pos (by omega)] | rw [if_neg (by omega), if_pos (by omega)] | (rw [if_neg (by omega), if_neg (by omega)]), rfl, rfl⟩
    · refine v_iload_n dX8_told_14 rfl ?_
      refine v_iconst dX8_told_15 ?_
      refine v_icmp_le hw0 ⟨by decide, by decide⟩ dX8_told_16 (fun h2 => ?_) (fun h2 => ?_)
      · refine v_aload_n dX8_told_22 rfl ?_
        refine v_getR fX8_112 rfl hTm (by assumption) dX8_told_23 ?_
        refine v_getI' (v := (xst s i).1) hst1 fX8_121 rfl hWk.1 dX8_told_26 ?_
        refine v_if_ne (by rw [← hst1]; exact rng _ _) dX8_told_29 (fun h3 => ?_) (fun h3 => ?_)
        · refine v_iload_n dX8_told_35 rfl ?_
          have h4 : w0 = 0 ∨ w0 = 1 ∨ w0 = 2 ∨ w0 = 3 := by omega
          rcases h4 with rfl | rfl | rfl | rfl
          · refine v_tswIn (off := 28) (tgt := 64) dX8_told_36 ⟨by decide, by decide⟩ (by decide) (by decide) (by decide) (by decide) ?_
            refine v_aload_n dX8_told_64 rfl ?_
            refine v_getR fX8_112 rfl hTm (by assumption) dX8_told_65 ?_
            refine v_getI' (v := (xst s i).2.2) hst3 fX8_125 rfl hWk.1 dX8_told_68 ?_
            exact v_iret rfl (by decide) (by decide) (by rw [← hst3]; exact rng _ _) dX8_told_71 ⟨by unfold xTold; (try simp only [Int.toNat_natCast]); rw [if_neg (by omega), if_neg (by omega), if_pos (by first | omega | trivial)], rfl, rfl⟩
          · refine v_tswIn (off := 36) (tgt := 72) dX8_told_36 ⟨by decide, by decide⟩ (by decide) (by decide) (by decide) (by decide) ?_
            refine v_aload_n dX8_told_72 rfl ?_
            refine v_getR fX8_112 rfl hTm (by assumption) dX8_told_73 ?_
            refine v_getI' (v := (xκ s i).2.2.1) hκ.2.2.1 fX8_128 rfl hWk.1 dX8_told_76 ?_
            exact v_iret rfl (by decide) (by decide) (by rw [← hκ.2.2.1]; exact rng _ _) dX8_told_79 ⟨by unfold xTold; (try simp only [Int.toNat_natCast]); rw [if_neg (by omega), if_neg (by omega), if_neg (by omega), if_pos (by first | omega | trivial)], rfl, rfl⟩
          · refine v_tswIn (off := 44) (tgt := 80) dX8_told_36 ⟨by decide, by decide⟩ (by decide) (by decide) (by decide) (by decide) ?_
            refine v_aload_n dX8_told_80 rfl ?_
            refine v_getR fX8_112 rfl hTm (by assumption) dX8_told_81 ?_
            refine v_getI' (v := (xκ s i).2.2.2) hκ.2.2.2 fX8_131 rfl hWk.1 dX8_told_84 ?_
            exact v_iret rfl (by decide) (by decide) (by rw [← hκ.2.2.2]; exact rng _ _) dX8_told_87 ⟨by unfold xTold; (try simp only [Int.toNat_natCast]); rw [if_neg (by omega), if_neg (by omega), if_neg (by omega), if_neg (by omega), if_pos (by first | omega | trivial)], rfl, rfl⟩
          · refine v_tswOut (tgt := 88) dX8_told_36 ⟨by decide, by decide⟩ (by decide) (by decide) ?_
            refine v_aload_n dX8_told_88 rfl ?_
            refine v_VmN (tX4_wantedLocals hM0 hπ0 hκ (fun p hp h => (by have := hal i hi p hp; unfold opOK at this; omega))) kX8_134 hTm rfl rfl ⟨by decide, by decide⟩ ⟨by decide, by decide⟩ (Nat.le_of_ble_eq_true rfl) dX8_told_89 (fun r4 er4 hr4 rng5 => ?_)
            exact v_iret rfl (by decide) (by decide) hr4 dX8_told_92 ⟨by unfold xTold; (try simp only [Int.toNat_natCast]); rw [if_neg (by omega), if_neg (by omega), if_neg (by omega), if_neg (by omega), if_neg (by omega)]; exact er4, rfl, rfl⟩
        · refine v_bipush dX8_told_32 (by decide) ?_
          exact v_iret rfl (by decide) (by decide) ⟨by decide, by decide⟩ dX8_told_34 ⟨by unfold xTold; (try simp only [Int.toNat_natCast]); first | rw [if_pos (by omega)] | rw [if_neg (by omega), if_pos (by omega)] | (rw [if_neg (by omega), if_neg (by omega)]), rfl, rfl⟩
      · refine v_bipush dX8_told_19 (by decide) ?_
        exact v_iret rfl (by decide) (by decide) ⟨by decide, by decide⟩ dX8_told_21 ⟨by unfold xTold; (try simp only [Int.toNat_natCast]); first | rw [if_pos (by omega)] | rw [if_neg (by omega), if_pos (by omega)] | (rw [if_neg (by omega), if_neg (by omega)]), rfl, rfl⟩
  · refine v_aload_n dX8_told_0 rfl ?_
    refine v_iload_n dX8_told_1 rfl ?_
    refine v_Vnl (tX8_find_n hX0 hx0 hm hf) kX8_83 hTx rfl rfl ⟨by decide, by decide⟩ ⟨by decide, by decide⟩ (Nat.le_of_ble_eq_true rfl) dX8_told_2 ?_
    refine v_astore_nN dX8_told_5 (by decide) rfl ?_
    refine v_aload_nN dX8_told_6 rfl ?_
    refine v_ifnullN dX8_told_7 ?_
    refine v_bipush dX8_told_19 (by decide) ?_
    exact v_iret rfl (by decide) (by decide) ⟨by decide, by decide⟩ dX8_told_21 ⟨by unfold xTold; (try simp only [Int.toNat_natCast]); first | rw [if_pos (by omega)] | rw [if_neg (by omega), if_pos (by omega)] | (rw [if_neg (by omega), if_neg (by omega)]), rfl, rfl⟩
theorem tX8_form {E : w_E} {G : w_Sh} {I : w_Mm} {x : Nat} {s : xS} (hX : isX G x (xn s)) (hx : xOK I x s) {m0 : Int} (hm : inR m0) {p0 : Int} (hp : inR p0) : w_Ct E mX8_form 3 [.ref x, iv m0, iv p0] G I 0 0 (w_Pi (fun r G' J => G' = G ∧ r = xForm s m0 p0 ∧ xOK J x s ∧ offY I J x)) := by
  have hX0 := hX
  have hx0 := hx
  obtain ⟨hTx, hRx0, hRx1, hRx2, hRx3, hRx4, hTx17, hV, hH, hXm⟩ := hX
  obtain ⟨hxQ, hx5, hx6, hxm, hxr⟩ := hx
  have hK := hV.2.2.2.2.1
  have hC := hK.2.2
  refine w_Ct.of (ls := [some (.ref x), some (iv m0), some (iv p0), none]) (by decide +kernel) (Nat.le_of_ble_eq_true rfl) rfl rfl (fun rng => ?_)
  have hQ15 := hxQ.2.2.1
  by_cases hf : fnd s m0
  · obtain ⟨i, rfl⟩ : ∃ i : Nat, m0 = (i : Int) := ⟨m0.toNat, by omega⟩
    have hi : i < xn s := by omega
    obtain ⟨m, em⟩ : ∃ m, m = x + 47 + 132 * i := ⟨_, rfl⟩
    have hfind := tX8_find_s (E := E) hX0 hx0 hi
    rw [← em] at hfind
    have hQ16 := hxQ.2.2.1
    have hM := em ▸ (hXm i hi).2
    have hxi := hxm i hi
    rw [← em] at hxi
    obtain ⟨hπ, hκ, hst1, hst2, hst3⟩ := hxi
    have hM0 := hM
    obtain ⟨hTm, hRm1, hRm3, hRm4, hRm5, hRm7, hRm8, hRm9, hRm10, hRm12, hTm1, hTm2, hTm3, hTm4, hTm5, hTm6, hTm7, hTm8, hWk⟩ := hM
    have hπ0 := hπ
    obtain ⟨hp0, hp2, hpA, hpB, hp6, hpn, hpo, hp11, hpg, hpG⟩ := hπ
    have hσ : fnd s (i : Int) := hf
    refine v_aload_n dX8_form_0 rfl ?_
    refine v_iload_n dX8_form_1 rfl ?_
    refine v_Vs hfind kX8_83 hTx rfl rfl ⟨by decide, by decide⟩ ⟨by decide, by decide⟩ (Nat.le_of_ble_eq_true rfl) dX8_form_2 ?_
    refine v_astore_n dX8_form_5 (by decide) rfl ?_
    refine v_aload_n dX8_form_6 rfl ?_
    refine v_ifnull dX8_form_7 ?_
    refine v_aload_n dX8_form_10 rfl ?_
    refine v_iload_n dX8_form_11 rfl ?_
    refine v_Vb (tX4_hasPlace hM0 hπ0 hp) kX8_138 hTm rfl rfl ⟨by decide, by decide⟩ ⟨by decide, by decide⟩ (Nat.le_of_ble_eq_true rfl) dX8_form_12 (fun h1 => ?_) (fun h1 => ?_)
    · refine v_if_ne ⟨by decide, by decide⟩ dX8_form_15 (fun hb15 => ?_) (fun h => by exfalso; omega)
      refine v_aload_n dX8_form_21 rfl ?_
      refine v_getR fX8_112 rfl hTm (by assumption) dX8_form_22 ?_
      refine v_getI' (v := (xst s i).1) hst1 fX8_121 rfl hWk.1 dX8_form_25 ?_
      refine v_if_eq (by rw [← hst1]; exact rng _ _) dX8_form_28 (fun h2 => ?_) (fun h2 => ?_)
      · refine v_bipush dX8_form_41 (by decide) ?_
        rw [show xForm s (i : Int) p0 = -3 by unfold xForm plc; (try simp only [Int.toNat_natCast]); rw [if_neg (by omega), if_pos (by omega)]]
        exact v_iret rfl (by decide) (by decide) ⟨by decide, by decide⟩ dX8_form_43 ⟨rfl, rfl, hx0, fun _ _ _ _ => rfl⟩
      · refine v_aload_n dX8_form_31 rfl ?_
        refine v_getR fX8_112 rfl hTm (by assumption) dX8_form_32 ?_
        refine v_getI' (v := (xst s i).2.1) hst2 fX8_116 rfl hWk.1 dX8_form_35 ?_
        refine v_if_eq (by rw [← hst2]; exact rng _ _) dX8_form_38 (fun h3 => ?_) (fun h3 => ?_)
        · obtain ⟨p, rfl⟩ : ∃ p : Nat, p0 = (p : Int) := ⟨p0.toNat, by omega⟩
          have hpn9 : p < mN (xπ s i) := by omega
          have hW6 := hWk.2.2.2.2.2 p (by omega)
          have hfp := hκ.1 p (by omega)
          refine v_aload_n dX8_form_44 rfl ?_
          refine v_getR fX8_37 rfl (by assumption) (by assumption) dX8_form_45 ?_
          refine v_aload_n dX8_form_48 rfl ?_
          refine v_iload_n dX8_form_49 rfl ?_
          refine v_Vi (tX1_formAt hH hM0 hπ0 hκ (by omega) hpn9) kX8_153 hH.1 rfl rfl ⟨by decide, by decide⟩ ⟨by decide, by decide⟩ (Nat.le_of_ble_eq_true rfl) dX8_form_50 (fun r6 G9 J4 hr6 pJ4 rng5 => ?_)
          obtain ⟨hG9, rfl, oF⟩ := pJ4
          obtain rfl := hG9.symm
          rw [show xForm s (i : Int) (p : Int) = formX (xπ s i) (xκ s i) p by unfold xForm plc; (try simp only [Int.toNat_natCast]); rw [if_neg (by omega), if_neg (by omega)]]
          obtain ⟨u1, u2⟩ := hx0.offH oF
          exact v_iret rfl (by decide) (by decide) hr6 dX8_form_53 ⟨rfl, rfl, u1, u2⟩
        · refine v_bipush dX8_form_41 (by decide) ?_
          rw [show xForm s (i : Int) p0 = -3 by unfold xForm plc; (try simp only [Int.toNat_natCast]); rw [if_neg (by omega), if_pos (by omega)]]
          exact v_iret rfl (by decide) (by decide) ⟨by decide, by decide⟩ dX8_form_43 ⟨rfl, rfl, hx0, fun _ _ _ _ => rfl⟩
    · refine v_if_ne ⟨by decide, by decide⟩ dX8_form_15 (fun h => by exfalso; omega) (fun hb15 => ?_)
      refine v_bipush dX8_form_18 (by decide) ?_
      rw [show xForm s (i : Int) p0 = -2 by unfold xForm plc; (try simp only [Int.toNat_natCast]); rw [if_pos (by omega)]]
      exact v_iret rfl (by decide) (by decide) ⟨by decide, by decide⟩ dX8_form_20 ⟨rfl, rfl, hx0, fun _ _ _ _ => rfl⟩
  · refine v_aload_n dX8_form_0 rfl ?_
    refine v_iload_n dX8_form_1 rfl ?_
    refine v_Vnl (tX8_find_n hX0 hx0 hm hf) kX8_83 hTx rfl rfl ⟨by decide, by decide⟩ ⟨by decide, by decide⟩ (Nat.le_of_ble_eq_true rfl) dX8_form_2 ?_
    refine v_astore_nN dX8_form_5 (by decide) rfl ?_
    refine v_aload_nN dX8_form_6 rfl ?_
    refine v_ifnullN dX8_form_7 ?_
    refine v_bipush dX8_form_18 (by decide) ?_
    rw [show xForm s m0 p0 = -2 by unfold xForm plc; (try simp only [Int.toNat_natCast]); rw [if_pos (by omega)]]
    exact v_iret rfl (by decide) (by decide) ⟨by decide, by decide⟩ dX8_form_20 ⟨rfl, rfl, hx0, fun _ _ _ _ => rfl⟩
theorem tX8_compute {E : w_E} {G : w_Sh} {I : w_Mm} {x : Nat} {s : xS} (hX : isX G x (xn s)) (hx : xOK I x s) {m0 : Int} (hm : inR m0) (hI : xI s) : w_Ct E mX8_compute 7 [.ref x, iv m0] G I 0 0 (w_Pi (fun r G' J => G' = G ∧ r = (xComp s m0).1 ∧ xOK J x (xComp s m0).2 ∧ offY I J x)) := by
  have hX0 := hX
  have hx0 := hx
  obtain ⟨hTx, hRx0, hRx1, hRx2, hRx3, hRx4, hTx17, hV, hH, hXm⟩ := hX
  obtain ⟨hxQ, hx5, hx6, hxm, hxr⟩ := hx
  have hK := hV.2.2.2.2.1
  have hC := hK.2.2
  refine w_Ct.of (ls := [some (.ref x), some (iv m0), none]) (by decide +kernel) (Nat.le_of_ble_eq_true rfl) rfl rfl (fun rng => ?_)
  have hQ15 := hxQ.2.2.1
  by_cases hf : fnd s m0
  · obtain ⟨i, rfl⟩ : ∃ i : Nat, m0 = (i : Int) := ⟨m0.toNat, by omega⟩
    have hi : i < xn s := by omega
    obtain ⟨m, em⟩ : ∃ m, m = x + 47 + 132 * i := ⟨_, rfl⟩
    have hfind := tX8_find_s (E := E) hX0 hx0 hi
    rw [← em] at hfind
    have hQ16 := hxQ.2.2.1
    have hM := em ▸ (hXm i hi).2
    have hxi := hxm i hi
    rw [← em] at hxi
    obtain ⟨hπ, hκ, hst1, hst2, hst3⟩ := hxi
    have hM0 := hM
    obtain ⟨hTm, hRm1, hRm3, hRm4, hRm5, hRm7, hRm8, hRm9, hRm10, hRm12, hTm1, hTm2, hTm3, hTm4, hTm5, hTm6, hTm7, hTm8, hWk⟩ := hM
    have hπ0 := hπ
    obtain ⟨hp0, hp2, hpA, hpB, hp6, hpn, hpo, hp11, hpg, hpG⟩ := hπ
    have hσ : fnd s (i : Int) := hf
    obtain ⟨hI1, hI2, hI3, hI4⟩ := hI.1 i hi
    have hIr := hI.2
    refine v_aload_n dX8_compute_0 rfl ?_
    refine v_iload_n dX8_compute_1 rfl ?_
    refine v_Vs hfind kX8_83 hTx rfl rfl ⟨by decide, by decide⟩ ⟨by decide, by decide⟩ (Nat.le_of_ble_eq_true rfl) dX8_compute_2 ?_
    refine v_astore_n dX8_compute_5 (by decide) rfl ?_
    refine v_aload_n dX8_compute_6 rfl ?_
    refine v_ifnonnull dX8_compute_7 ?_
    refine v_aload_n dX8_compute_13 rfl ?_
    refine v_getI' (v := ((mN (xπ s i) : Nat) : Int)) hp6 fX8_105 rfl hTm dX8_compute_14 ?_
    refine v_if_ne ⟨by omega, by omega⟩ dX8_compute_17 (fun h1 => ?_) (fun h1 => ?_)
    · refine v_aload_n dX8_compute_23 rfl ?_
      refine v_getR fX8_30 rfl (by assumption) (by assumption) dX8_compute_24 ?_
      refine v_aload_n dX8_compute_27 rfl ?_
      refine v_Vv (tX7_run hV (by omega) hxQ hM0 hπ0 (by omega) hκ hxr hI3 hIr hI4 (by omega) hI2 hI1) kX8_108 hV.1 rfl rfl ⟨by decide, by decide⟩ ⟨by decide, by decide⟩ (Nat.le_of_ble_eq_true rfl) dX8_compute_28 (fun G9 J2 pJ2 rng3 => ?_)
      obtain ⟨hG9, k1, k2, k3, k4, k5, k6⟩ := pJ2
      obtain rfl := hG9.symm
      refine v_aload_n dX8_compute_31 rfl ?_
      refine v_getR fX8_112 rfl hTm (by assumption) dX8_compute_32 ?_
      refine v_getI' (v := (xT s i).1.1) k4 fX8_116 rfl hWk.1 dX8_compute_35 ?_
      rw [show xComp s (i : Int) = ((xT s i).1.1, uM s i (xπ s i) (xT s i).2.1 (1, (xT s i).1) (xT s i).2.2) by unfold xComp; (try simp only [Int.toNat_natCast]); rw [if_neg (by omega), if_neg (by omega)]]
      subst em
      have u1 := hx0.upd (i := i) (π := xπ s i) (κ := (xT s i).2.1) (t := (1, (xT s i).1)) (ρ := (xT s i).2.2) (fun a k h1 h2 => k6 a k (by omega) (by omega)) ⟨hπ0.off (fun a k _ _ => k6 a k (by omega) (by omega)), k1, k3, k4, k5⟩ k2
      exact v_iret rfl (by decide) (by decide) (by rw [show (xT s i).1.1 = _ from k4.symm]; exact rng3 _ _) dX8_compute_38 ⟨rfl, rfl, u1, fun a k h1 h2 => k6 a k (by omega) (by omega)⟩
    · refine v_bipush dX8_compute_20 (by decide) ?_
      rw [show xComp s (i : Int) = (-3, s) by unfold xComp; (try simp only [Int.toNat_natCast]); rw [if_neg (by omega), if_pos (by omega)]]
      exact v_iret rfl (by decide) (by decide) ⟨by decide, by decide⟩ dX8_compute_22 ⟨rfl, rfl, hx0, fun _ _ _ _ => rfl⟩
  · refine v_aload_n dX8_compute_0 rfl ?_
    refine v_iload_n dX8_compute_1 rfl ?_
    refine v_Vnl (tX8_find_n hX0 hx0 hm hf) kX8_83 hTx rfl rfl ⟨by decide, by decide⟩ ⟨by decide, by decide⟩ (Nat.le_of_ble_eq_true rfl) dX8_compute_2 ?_
    refine v_astore_nN dX8_compute_5 (by decide) rfl ?_
    refine v_aload_nN dX8_compute_6 rfl ?_
    refine v_ifnonnullN dX8_compute_7 ?_
    refine v_bipush dX8_compute_10 (by decide) ?_
    rw [show xComp s m0 = (-2, s) by unfold xComp; (try simp only [Int.toNat_natCast]); rw [if_pos hf]]
    exact v_iret rfl (by decide) (by decide) ⟨by decide, by decide⟩ dX8_compute_12 ⟨rfl, rfl, hx0, fun _ _ _ _ => rfl⟩
