/-! ===== the reference: what an op does ===== -/
def xDo (Q : cS) (π : mS) (σ : sS) (p : Nat) (op a b : Int) : sS := if 2 ≤ op ∧ op ≤ 7 then xUL Q σ op a.toNat else if op = 13 ∨ (15 ≤ op ∧ op ≤ 21) then xUT Q π σ p op a b else xUV Q σ op (mRes π)
theorem xPerf_do {Q : cS} {π : mS} {σ : sS} {p : Nat} : xPerf Q π σ p = xDo Q π σ p (mOp π p) (mA π p) (mB π p) := rfl
/-- no place of the pile is empty; a LONG on it is whole -/
def ppP (φ : fS) : Prop := ∀ k : Nat, (k : Int) < φ.1 → ¬ φ.2.2 k = 0 ∧ (φ.2.2 k = 2 → (k : Int) + 1 < φ.1 ∧ φ.2.2 (k + 1) = 3)
/-- a frame as THE WORK makes it -/
def okF (Q : cS) (N : Nat) (φ : fS) : Prop := (∀ k, k < 8 → knK Q N (φ.2.1 k)) ∧ pW φ.2.1 ∧ knP Q N φ ∧ ppP φ
theorem xLay_0 {σ : sS} : xLay σ 0 = σ := if_pos rfl
theorem uL_id {L : Nat → Int} {i : Nat} {z : Int} (h : L i = z) : uL L i z = L := by
  funext k
  unfold uL
  split
  · rename_i e; rw [e, h]
  · rfl
theorem layTop_eq {σ : sS} (h0 : σ.1 = 0) (h1 : 1 ≤ σ.2.1) (h8 : σ.2.1 ≤ 8) (n0 : ¬ (xTA σ).1 = 0) (n2 : ¬ (xTA σ).1 = 2) (n3 : ¬ (xTA σ).1 = 3) : xLayTop σ = xLay σ (xTA σ).1 := by
  unfold xLayTop
  rw [xChk_y n3]
  have e : xLay (xTA σ).2 (xTA σ).1 = σ := by
    rw [xLay_ok (by rw [xTA_hi h0 h1]; exact h0) n0 (by rw [if_neg n2, xTA_hi h0 h1]; show ¬ 8 < σ.2.1 - 1 + 1; omega)]
    unfold xLayP
    rw [if_neg n2, if_neg n2]
    have et : (xTA σ).1 = σ.2.2.2 (σ.2.1 - 1).toNat := by rw [xTA_hi h0 h1]
    have e2 : (xTA σ).2 = (σ.1, (σ.2.1 - 1, σ.2.2)) := by rw [xTA_hi h0 h1]
    rw [e2, et]
    show (σ.1, (σ.2.1 - 1 + 1, σ.2.2.1, uL σ.2.2.2 (σ.2.1 - 1).toNat (σ.2.2.2 (σ.2.1 - 1).toNat))) = σ
    rw [uL_id rfl, Int.sub_add_cancel]
  rw [e]
theorem yfr_repl {I J : w_Mm} {y d : Nat} {φ : fS} {ol kd : Int} (h : yfr I y φ) (hd : (d : Int) = φ.1) (eJ : J = w_map (w_map I (y + 24) 8 (fun k => if φ.2.1 k = ol then kd else φ.2.1 k)) (y + 25) d (fun k => if φ.2.2 k = ol then kd else φ.2.2 k)) : yfr J y (replF φ ol kd) ∧ offT I J y ∧ J y 28 = I y 28 := by
  obtain ⟨h1, h2, h3, h4, h5⟩ := h
  have o : ∀ a k, ¬ (a = y + 24 ∧ k < 8) → ¬ (a = y + 25 ∧ k < d) → J a k = I a k := fun a k u1 u2 => by rw [eJ, w_map_o u2, w_map_o u1]
  refine ⟨⟨(o _ _ (by omega) (by omega)).trans h1, h2, h3, fun k hk => by rw [eJ, w_map_o (by omega), w_map_i hk]; rfl, fun k hk => ?_⟩, fun a k u1 u2 u3 => o _ _ (by omega) (by omega), o _ _ (by omega) (by omega)⟩
  have hk2 : (k : Int) < φ.1 := hk
  rw [eJ, w_map_i (by omega)]
  show _ = if (k : Int) < φ.1 ∧ φ.2.2 k = ol then kd else φ.2.2 k
  by_cases q : φ.2.2 k = ol
  · rw [if_pos q, if_pos ⟨hk2, q⟩]
  · rw [if_neg q, if_neg (fun r => q r.2)]
theorem loadE_no {Q : cS} {N : Nat} {σ : sS} (kt : knK Q N (xTA (xTake Q σ 1)).1) (z : ¬ (xChk (xTA (xTake Q σ 1)).2 ((xTA (xTake Q σ 1)).1 = 5 ∨ (xTA (xTake Q σ 1)).1 = 4 ∨ (kRow (xTA (xTake Q σ 1)).1 ∧ hasC Q ((xTA (xTake Q σ 1)).1 - 40))) 3).1 = 0) : xLoadE Q σ = xChk (xTA (xTake Q σ 1)).2 ((xTA (xTake Q σ 1)).1 = 5 ∨ (xTA (xTake Q σ 1)).1 = 4 ∨ (kRow (xTA (xTake Q σ 1)).1 ∧ hasC Q ((xTA (xTake Q σ 1)).1 - 40))) 3 := by
  by_cases hz : (xTA (xTake Q σ 1)).2.1 = 0
  · by_cases hP : (xTA (xTake Q σ 1)).1 = 5 ∨ (xTA (xTake Q σ 1)).1 = 4 ∨ (kRow (xTA (xTake Q σ 1)).1 ∧ hasC Q ((xTA (xTake Q σ 1)).1 - 40))
    · rw [xChk_y hP] at z; exact absurd hz z
    · unfold xLoadE
      have h4 : ¬ (xTA (xTake Q σ 1)).1 = 4 := fun q => hP (Or.inr (Or.inl q))
      rw [if_neg (fun q => hP (Or.inl q)), if_neg (by omega), xChk_n h4, xChk_n hP]
      exact xLay_st (by rw [xBrk_0 hz]; show ¬ (3 : Int) = 0; decide)
  · unfold xLoadE
    rw [xChk_st hz, xChk_st hz, xLay_st hz, xLay_st hz, xLay_st hz]
    split
    · rfl
    · split <;> rfl
theorem tX9_reads {E : w_E} {G : w_Sh} {I : w_Mm} {y : Nat} {Q : cS} {N : Nat} {σ : sS} (hY : isY G y) (hQ : clsY I y Q) (h0 : σ.1 = 0) (hf : yfr I y σ.2) (hkn : knP Q N σ.2) (hN : N ≤ 40) : w_Ct E mX9_reads 4 [.ref y] G I 0 0 (w_Pi (fun r G' J => G' = G ∧ sPost y I J r (xLoadE Q σ))) := by
  obtain ⟨hTy, hYr⟩ := hY
  have hQ0 := hQ
  have hf0 := hf
  obtain ⟨hf27, hfh0, hfh8, hfL, hfP⟩ := hf
  refine w_Ct.of (ls := [some (.ref y), none]) (by decide +kernel) (Nat.le_of_ble_eq_true rfl) rfl rfl (fun rng => ?_)
  refine v_aload_n dX9_reads_0 rfl ?_
  refine v_iconst dX9_reads_1 ?_
  refine v_Vi (tX9_takes (⟨hTy, hYr⟩ : isY G y) hQ0 (σ := σ) h0 hf0 hkn hN (by first | exact Or.inl ⟨by decide, by decide⟩ | omega) (by omega)) kX9_163 hTy rfl rfl ⟨by decide, by decide⟩ ⟨by decide, by decide⟩ (Nat.le_of_ble_eq_true rfl) dX9_reads_2 (fun r3 G9 J1 hr3 pJ1 rng2 => ?_)
  obtain ⟨hG9, oJ1, ⟨rfl, zJ1, fJ1, bJ1⟩ | ⟨rfl, zJ1, bJ1⟩⟩ := pJ1
  all_goals obtain rfl := hG9.symm
  · have qJ1 := hQ0.T oJ1
    have kJ1 : knP Q N (xTake Q σ (1)).2 := hkn.take
    refine v_if_eq ⟨by decide, by decide⟩ dX9_reads_5 (fun h => by exfalso; omega) (fun hb5 => ?_)
    refine v_aload_n dX9_reads_8 rfl ?_
    refine v_iconst dX9_reads_9 ?_
    refine v_Vi (tX9_wants (⟨hTy, hYr⟩ : isY G y) (φ := (xTake Q σ (1)).2) fJ1 ⟨by decide, by decide⟩) kX9_154 hTy rfl rfl ⟨by decide, by decide⟩ ⟨by decide, by decide⟩ (Nat.le_of_ble_eq_true rfl) dX9_reads_10 (fun r6 G9 J4 hr6 pJ4 rng5 => ?_)
    obtain ⟨hG9, ⟨rfl, wJ4, eJ4⟩ | ⟨rfl, wJ4, rfl⟩⟩ := pJ4
    all_goals obtain rfl := hG9.symm
    · obtain rfl := eJ4.symm
      refine v_if_ne ⟨by decide, by decide⟩ dX9_reads_13 (fun hb13 => ?_) (fun h => by exfalso; omega)
      refine v_aload_n dX9_reads_18 rfl ?_
      refine v_VmN (tX9_top (⟨hTy, hYr⟩ : isY G y) qJ1 (σ := (xTake Q σ (1))) zJ1 fJ1 kJ1 hN wJ4) kX9_173 hTy rfl rfl ⟨by decide, by decide⟩ ⟨by decide, by decide⟩ (Nat.le_of_ble_eq_true rfl) dX9_reads_19 (fun r7 er7 hr7 rng8 => ?_)
      subst er7
      refine v_istore_n dX9_reads_22 (by decide) rfl ?_
      have kt := (kJ1).top
      have kt2 := kt.known hN
      refine v_aload_n dX9_reads_23 rfl ?_
      refine v_iload_n dX9_reads_24 rfl ?_
      refine v_iconst dX9_reads_25 ?_
      refine v_icmp_eq hr7 ⟨by decide, by decide⟩ dX9_reads_26 (fun h9 => ?_) (fun h9 => ?_)
      · refine v_iconst dX9_reads_42 ?_
        refine v_goto dX9_reads_43 ?_
        refine v_Vi (tX9_takesTop (⟨hTy, hYr⟩ : isY G y) qJ1 (σ := (xTake Q σ (1))) zJ1 fJ1 kJ1 hN wJ4 (P := (xTA (xTake Q σ (1))).1 = 5 ∨ (xTA (xTake Q σ (1))).1 = 4 ∨ (kRow (xTA (xTake Q σ (1))).1 ∧ hasC Q ((xTA (xTake Q σ (1))).1 - 40))) (by omega)) kX9_177 hTy rfl rfl ⟨by decide, by decide⟩ ⟨by decide, by decide⟩ (Nat.le_of_ble_eq_true rfl) dX9_reads_47 (fun r12 G9 J10 hr12 pJ10 rng11 => ?_)
        obtain ⟨hG9, oJ10, ⟨rfl, zJ10, fJ10, bJ10⟩ | ⟨rfl, zJ10, bJ10⟩⟩ := pJ10
        all_goals obtain rfl := hG9.symm
        · have qJ10 := qJ1.T oJ10
          have kJ10 : knP Q N (xChk (xTA (xTake Q σ (1))).2 ((xTA (xTake Q σ (1))).1 = 5 ∨ (xTA (xTake Q σ (1))).1 = 4 ∨ (kRow (xTA (xTake Q σ (1))).1 ∧ hasC Q ((xTA (xTake Q σ (1))).1 - 40))) 3).2 := kJ1.ta.chk
          refine v_if_ne ⟨by decide, by decide⟩ dX9_reads_50 (fun hb50 => ?_) (fun h => by exfalso; omega)
          refine v_aload_n dX9_reads_55 rfl ?_
          refine v_iload_n dX9_reads_56 rfl ?_
          refine v_iconst dX9_reads_57 ?_
          refine v_icmp_ne hr7 ⟨by decide, by decide⟩ dX9_reads_58 (fun h13 => ?_) (fun h13 => ?_)
          · refine v_iload_n dX9_reads_65 rfl ?_
            refine v_iconst dX9_reads_66 ?_
            refine v_icmp_ne hr7 ⟨by decide, by decide⟩ dX9_reads_67 (fun h14 => ?_) (fun h14 => ?_)
            · refine v_bipush dX9_reads_74 (by decide) ?_
              refine v_iload_n dX9_reads_76 rfl ?_
              refine v_iadd dX9_reads_77 ?_
              refine v_bipush dX9_reads_78 (by decide) ?_
              refine v_isub dX9_reads_80 ?_
              refine v_Vi (tX9_lays (⟨hTy, hYr⟩ : isY G y) qJ10 (σ := (xChk (xTA (xTake Q σ (1))).2 ((xTA (xTake Q σ (1))).1 = 5 ∨ (xTA (xTake Q σ (1))).1 = 4 ∨ (kRow (xTA (xTake Q σ (1))).1 ∧ hasC Q ((xTA (xTake Q σ (1))).1 - 40))) 3)) zJ10 fJ10 kJ10 hN (by first | exact Or.inl ⟨by decide, by decide⟩ | omega) (by omega)) kX9_160 hTy rfl rfl ⟨by decide, by decide⟩ ⟨by decide, by decide⟩ (Nat.le_of_ble_eq_true rfl) dX9_reads_81 (fun r17 G9 J15 hr17 pJ15 rng16 => ?_)
              obtain ⟨hG9, oJ15, ⟨rfl, zJ15, fJ15, bJ15⟩ | ⟨rfl, zJ15, bJ15⟩⟩ := pJ15
              all_goals obtain rfl := hG9.symm
              · have qJ15 := qJ10.T oJ15
                have eF : xLoadE Q σ = (xLay (xChk (xTA (xTake Q σ (1))).2 ((xTA (xTake Q σ (1))).1 = 5 ∨ (xTA (xTake Q σ (1))).1 = 4 ∨ (kRow (xTA (xTake Q σ (1))).1 ∧ hasC Q ((xTA (xTake Q σ (1))).1 - 40))) 3) (((10 + (xTA (xTake Q σ (1))).1) - 40))) := by unfold xLoadE; rw [if_neg h13, if_pos (by omega), xChk_y (show (xTA (xTake Q σ (1))).1 = 5 ∨ (xTA (xTake Q σ (1))).1 = 4 ∨ (kRow (xTA (xTake Q σ (1))).1 ∧ hasC Q ((xTA (xTake Q σ (1))).1 - 40)) by omega)]
                rw [eF]
                exact v_zret rfl (by decide) (by decide) (Or.inr rfl) dX9_reads_84 ⟨rfl, ((oJ1.tr oJ10).tr oJ15), Or.inl ⟨rfl, zJ15, fJ15, (bJ15.trans (bJ10.trans bJ1))⟩⟩
              · have eF : xLoadE Q σ = xLay (xChk (xTA (xTake Q σ (1))).2 ((xTA (xTake Q σ (1))).1 = 5 ∨ (xTA (xTake Q σ (1))).1 = 4 ∨ (kRow (xTA (xTake Q σ (1))).1 ∧ hasC Q ((xTA (xTake Q σ (1))).1 - 40))) 3) (((10 + (xTA (xTake Q σ (1))).1) - 40)) := by unfold xLoadE; rw [if_neg h13, if_pos (by omega), xChk_y (show (xTA (xTake Q σ (1))).1 = 5 ∨ (xTA (xTake Q σ (1))).1 = 4 ∨ (kRow (xTA (xTake Q σ (1))).1 ∧ hasC Q ((xTA (xTake Q σ (1))).1 - 40)) by omega)]
                rw [eF]
                exact v_zret rfl (by decide) (by decide) (Or.inl rfl) dX9_reads_84 ⟨rfl, ((oJ1.tr oJ10).tr oJ15), Or.inr ⟨rfl, zJ15, bJ15⟩⟩
            · refine v_iconst dX9_reads_70 ?_
              refine v_goto dX9_reads_71 ?_
              refine v_Vi (tX9_lays (⟨hTy, hYr⟩ : isY G y) qJ10 (σ := (xChk (xTA (xTake Q σ (1))).2 ((xTA (xTake Q σ (1))).1 = 5 ∨ (xTA (xTake Q σ (1))).1 = 4 ∨ (kRow (xTA (xTake Q σ (1))).1 ∧ hasC Q ((xTA (xTake Q σ (1))).1 - 40))) 3)) zJ10 fJ10 kJ10 hN (by first | exact Or.inl ⟨by decide, by decide⟩ | omega) (by omega)) kX9_160 hTy rfl rfl ⟨by decide, by decide⟩ ⟨by decide, by decide⟩ (Nat.le_of_ble_eq_true rfl) dX9_reads_81 (fun r20 G9 J18 hr20 pJ18 rng19 => ?_)
              obtain ⟨hG9, oJ18, ⟨rfl, zJ18, fJ18, bJ18⟩ | ⟨rfl, zJ18, bJ18⟩⟩ := pJ18
              all_goals obtain rfl := hG9.symm
              · have qJ18 := qJ10.T oJ18
                have eF : xLoadE Q σ = (xLay (xChk (xTA (xTake Q σ (1))).2 ((xTA (xTake Q σ (1))).1 = 5 ∨ (xTA (xTake Q σ (1))).1 = 4 ∨ (kRow (xTA (xTake Q σ (1))).1 ∧ hasC Q ((xTA (xTake Q σ (1))).1 - 40))) 3) (4)) := by unfold xLoadE; rw [if_neg h13, if_neg (by omega), xChk_y h14, xChk_y (Or.inr (Or.inl h14))]
                rw [eF]
                exact v_zret rfl (by decide) (by decide) (Or.inr rfl) dX9_reads_84 ⟨rfl, ((oJ1.tr oJ10).tr oJ18), Or.inl ⟨rfl, zJ18, fJ18, (bJ18.trans (bJ10.trans bJ1))⟩⟩
              · have eF : xLoadE Q σ = xLay (xChk (xTA (xTake Q σ (1))).2 ((xTA (xTake Q σ (1))).1 = 5 ∨ (xTA (xTake Q σ (1))).1 = 4 ∨ (kRow (xTA (xTake Q σ (1))).1 ∧ hasC Q ((xTA (xTake Q σ (1))).1 - 40))) 3) (4) := by unfold xLoadE; rw [if_neg h13, if_neg (by omega), xChk_y h14, xChk_y (Or.inr (Or.inl h14))]
                rw [eF]
                exact v_zret rfl (by decide) (by decide) (Or.inl rfl) dX9_reads_84 ⟨rfl, ((oJ1.tr oJ10).tr oJ18), Or.inr ⟨rfl, zJ18, bJ18⟩⟩
          · refine v_iconst dX9_reads_61 ?_
            refine v_goto dX9_reads_62 ?_
            refine v_Vi (tX9_lays (⟨hTy, hYr⟩ : isY G y) qJ10 (σ := (xChk (xTA (xTake Q σ (1))).2 ((xTA (xTake Q σ (1))).1 = 5 ∨ (xTA (xTake Q σ (1))).1 = 4 ∨ (kRow (xTA (xTake Q σ (1))).1 ∧ hasC Q ((xTA (xTake Q σ (1))).1 - 40))) 3)) zJ10 fJ10 kJ10 hN (by first | exact Or.inl ⟨by decide, by decide⟩ | omega) (by omega)) kX9_160 hTy rfl rfl ⟨by decide, by decide⟩ ⟨by decide, by decide⟩ (Nat.le_of_ble_eq_true rfl) dX9_reads_81 (fun r23 G9 J21 hr23 pJ21 rng22 => ?_)
            obtain ⟨hG9, oJ21, ⟨rfl, zJ21, fJ21, bJ21⟩ | ⟨rfl, zJ21, bJ21⟩⟩ := pJ21
            all_goals obtain rfl := hG9.symm
            · have qJ21 := qJ10.T oJ21
              have eF : xLoadE Q σ = (xLay (xChk (xTA (xTake Q σ (1))).2 ((xTA (xTake Q σ (1))).1 = 5 ∨ (xTA (xTake Q σ (1))).1 = 4 ∨ (kRow (xTA (xTake Q σ (1))).1 ∧ hasC Q ((xTA (xTake Q σ (1))).1 - 40))) 3) (1)) := by unfold xLoadE; rw [if_pos h13, xChk_y (Or.inl h13)]
              rw [eF]
              exact v_zret rfl (by decide) (by decide) (Or.inr rfl) dX9_reads_84 ⟨rfl, ((oJ1.tr oJ10).tr oJ21), Or.inl ⟨rfl, zJ21, fJ21, (bJ21.trans (bJ10.trans bJ1))⟩⟩
            · have eF : xLoadE Q σ = xLay (xChk (xTA (xTake Q σ (1))).2 ((xTA (xTake Q σ (1))).1 = 5 ∨ (xTA (xTake Q σ (1))).1 = 4 ∨ (kRow (xTA (xTake Q σ (1))).1 ∧ hasC Q ((xTA (xTake Q σ (1))).1 - 40))) 3) (1) := by unfold xLoadE; rw [if_pos h13, xChk_y (Or.inl h13)]
              rw [eF]
              exact v_zret rfl (by decide) (by decide) (Or.inl rfl) dX9_reads_84 ⟨rfl, ((oJ1.tr oJ10).tr oJ21), Or.inr ⟨rfl, zJ21, bJ21⟩⟩
        · exact absurd (by rw [xChk_y (by omega), xTA_hi zJ1 wJ4]; exact zJ1) zJ10
      · refine v_iload_n dX9_reads_29 rfl ?_
        refine v_iconst dX9_reads_30 ?_
        refine v_icmp_eq hr7 ⟨by decide, by decide⟩ dX9_reads_31 (fun h24 => ?_) (fun h24 => ?_)
        · refine v_iconst dX9_reads_42 ?_
          refine v_goto dX9_reads_43 ?_
          refine v_Vi (tX9_takesTop (⟨hTy, hYr⟩ : isY G y) qJ1 (σ := (xTake Q σ (1))) zJ1 fJ1 kJ1 hN wJ4 (P := (xTA (xTake Q σ (1))).1 = 5 ∨ (xTA (xTake Q σ (1))).1 = 4 ∨ (kRow (xTA (xTake Q σ (1))).1 ∧ hasC Q ((xTA (xTake Q σ (1))).1 - 40))) (by omega)) kX9_177 hTy rfl rfl ⟨by decide, by decide⟩ ⟨by decide, by decide⟩ (Nat.le_of_ble_eq_true rfl) dX9_reads_47 (fun r27 G9 J25 hr27 pJ25 rng26 => ?_)
          obtain ⟨hG9, oJ25, ⟨rfl, zJ25, fJ25, bJ25⟩ | ⟨rfl, zJ25, bJ25⟩⟩ := pJ25
          all_goals obtain rfl := hG9.symm
          · have qJ25 := qJ1.T oJ25
            have kJ25 : knP Q N (xChk (xTA (xTake Q σ (1))).2 ((xTA (xTake Q σ (1))).1 = 5 ∨ (xTA (xTake Q σ (1))).1 = 4 ∨ (kRow (xTA (xTake Q σ (1))).1 ∧ hasC Q ((xTA (xTake Q σ (1))).1 - 40))) 3).2 := kJ1.ta.chk
            refine v_if_ne ⟨by decide, by decide⟩ dX9_reads_50 (fun hb50 => ?_) (fun h => by exfalso; omega)
            refine v_aload_n dX9_reads_55 rfl ?_
            refine v_iload_n dX9_reads_56 rfl ?_
            refine v_iconst dX9_reads_57 ?_
            refine v_icmp_ne hr7 ⟨by decide, by decide⟩ dX9_reads_58 (fun h28 => ?_) (fun h28 => ?_)
            · refine v_iload_n dX9_reads_65 rfl ?_
              refine v_iconst dX9_reads_66 ?_
              refine v_icmp_ne hr7 ⟨by decide, by decide⟩ dX9_reads_67 (fun h29 => ?_) (fun h29 => ?_)
              · refine v_bipush dX9_reads_74 (by decide) ?_
                refine v_iload_n dX9_reads_76 rfl ?_
                refine v_iadd dX9_reads_77 ?_
                refine v_bipush dX9_reads_78 (by decide) ?_
                refine v_isub dX9_reads_80 ?_
                refine v_Vi (tX9_lays (⟨hTy, hYr⟩ : isY G y) qJ25 (σ := (xChk (xTA (xTake Q σ (1))).2 ((xTA (xTake Q σ (1))).1 = 5 ∨ (xTA (xTake Q σ (1))).1 = 4 ∨ (kRow (xTA (xTake Q σ (1))).1 ∧ hasC Q ((xTA (xTake Q σ (1))).1 - 40))) 3)) zJ25 fJ25 kJ25 hN (by first | exact Or.inl ⟨by decide, by decide⟩ | omega) (by omega)) kX9_160 hTy rfl rfl ⟨by decide, by decide⟩ ⟨by decide, by decide⟩ (Nat.le_of_ble_eq_true rfl) dX9_reads_81 (fun r32 G9 J30 hr32 pJ30 rng31 => ?_)
                obtain ⟨hG9, oJ30, ⟨rfl, zJ30, fJ30, bJ30⟩ | ⟨rfl, zJ30, bJ30⟩⟩ := pJ30
                all_goals obtain rfl := hG9.symm
                · have qJ30 := qJ25.T oJ30
                  have eF : xLoadE Q σ = (xLay (xChk (xTA (xTake Q σ (1))).2 ((xTA (xTake Q σ (1))).1 = 5 ∨ (xTA (xTake Q σ (1))).1 = 4 ∨ (kRow (xTA (xTake Q σ (1))).1 ∧ hasC Q ((xTA (xTake Q σ (1))).1 - 40))) 3) (((10 + (xTA (xTake Q σ (1))).1) - 40))) := by unfold xLoadE; rw [if_neg h28, if_pos (by omega), xChk_y (show (xTA (xTake Q σ (1))).1 = 5 ∨ (xTA (xTake Q σ (1))).1 = 4 ∨ (kRow (xTA (xTake Q σ (1))).1 ∧ hasC Q ((xTA (xTake Q σ (1))).1 - 40)) by omega)]
                  rw [eF]
                  exact v_zret rfl (by decide) (by decide) (Or.inr rfl) dX9_reads_84 ⟨rfl, ((oJ1.tr oJ25).tr oJ30), Or.inl ⟨rfl, zJ30, fJ30, (bJ30.trans (bJ25.trans bJ1))⟩⟩
                · have eF : xLoadE Q σ = xLay (xChk (xTA (xTake Q σ (1))).2 ((xTA (xTake Q σ (1))).1 = 5 ∨ (xTA (xTake Q σ (1))).1 = 4 ∨ (kRow (xTA (xTake Q σ (1))).1 ∧ hasC Q ((xTA (xTake Q σ (1))).1 - 40))) 3) (((10 + (xTA (xTake Q σ (1))).1) - 40)) := by unfold xLoadE; rw [if_neg h28, if_pos (by omega), xChk_y (show (xTA (xTake Q σ (1))).1 = 5 ∨ (xTA (xTake Q σ (1))).1 = 4 ∨ (kRow (xTA (xTake Q σ (1))).1 ∧ hasC Q ((xTA (xTake Q σ (1))).1 - 40)) by omega)]
                  rw [eF]
                  exact v_zret rfl (by decide) (by decide) (Or.inl rfl) dX9_reads_84 ⟨rfl, ((oJ1.tr oJ25).tr oJ30), Or.inr ⟨rfl, zJ30, bJ30⟩⟩
              · refine v_iconst dX9_reads_70 ?_
                refine v_goto dX9_reads_71 ?_
                refine v_Vi (tX9_lays (⟨hTy, hYr⟩ : isY G y) qJ25 (σ := (xChk (xTA (xTake Q σ (1))).2 ((xTA (xTake Q σ (1))).1 = 5 ∨ (xTA (xTake Q σ (1))).1 = 4 ∨ (kRow (xTA (xTake Q σ (1))).1 ∧ hasC Q ((xTA (xTake Q σ (1))).1 - 40))) 3)) zJ25 fJ25 kJ25 hN (by first | exact Or.inl ⟨by decide, by decide⟩ | omega) (by omega)) kX9_160 hTy rfl rfl ⟨by decide, by decide⟩ ⟨by decide, by decide⟩ (Nat.le_of_ble_eq_true rfl) dX9_reads_81 (fun r35 G9 J33 hr35 pJ33 rng34 => ?_)
                obtain ⟨hG9, oJ33, ⟨rfl, zJ33, fJ33, bJ33⟩ | ⟨rfl, zJ33, bJ33⟩⟩ := pJ33
                all_goals obtain rfl := hG9.symm
                · have qJ33 := qJ25.T oJ33
                  have eF : xLoadE Q σ = (xLay (xChk (xTA (xTake Q σ (1))).2 ((xTA (xTake Q σ (1))).1 = 5 ∨ (xTA (xTake Q σ (1))).1 = 4 ∨ (kRow (xTA (xTake Q σ (1))).1 ∧ hasC Q ((xTA (xTake Q σ (1))).1 - 40))) 3) (4)) := by unfold xLoadE; rw [if_neg h28, if_neg (by omega), xChk_y h29, xChk_y (Or.inr (Or.inl h29))]
                  rw [eF]
                  exact v_zret rfl (by decide) (by decide) (Or.inr rfl) dX9_reads_84 ⟨rfl, ((oJ1.tr oJ25).tr oJ33), Or.inl ⟨rfl, zJ33, fJ33, (bJ33.trans (bJ25.trans bJ1))⟩⟩
                · have eF : xLoadE Q σ = xLay (xChk (xTA (xTake Q σ (1))).2 ((xTA (xTake Q σ (1))).1 = 5 ∨ (xTA (xTake Q σ (1))).1 = 4 ∨ (kRow (xTA (xTake Q σ (1))).1 ∧ hasC Q ((xTA (xTake Q σ (1))).1 - 40))) 3) (4) := by unfold xLoadE; rw [if_neg h28, if_neg (by omega), xChk_y h29, xChk_y (Or.inr (Or.inl h29))]
                  rw [eF]
                  exact v_zret rfl (by decide) (by decide) (Or.inl rfl) dX9_reads_84 ⟨rfl, ((oJ1.tr oJ25).tr oJ33), Or.inr ⟨rfl, zJ33, bJ33⟩⟩
            · refine v_iconst dX9_reads_61 ?_
              refine v_goto dX9_reads_62 ?_
              refine v_Vi (tX9_lays (⟨hTy, hYr⟩ : isY G y) qJ25 (σ := (xChk (xTA (xTake Q σ (1))).2 ((xTA (xTake Q σ (1))).1 = 5 ∨ (xTA (xTake Q σ (1))).1 = 4 ∨ (kRow (xTA (xTake Q σ (1))).1 ∧ hasC Q ((xTA (xTake Q σ (1))).1 - 40))) 3)) zJ25 fJ25 kJ25 hN (by first | exact Or.inl ⟨by decide, by decide⟩ | omega) (by omega)) kX9_160 hTy rfl rfl ⟨by decide, by decide⟩ ⟨by decide, by decide⟩ (Nat.le_of_ble_eq_true rfl) dX9_reads_81 (fun r38 G9 J36 hr38 pJ36 rng37 => ?_)
              obtain ⟨hG9, oJ36, ⟨rfl, zJ36, fJ36, bJ36⟩ | ⟨rfl, zJ36, bJ36⟩⟩ := pJ36
              all_goals obtain rfl := hG9.symm
              · have qJ36 := qJ25.T oJ36
                have eF : xLoadE Q σ = (xLay (xChk (xTA (xTake Q σ (1))).2 ((xTA (xTake Q σ (1))).1 = 5 ∨ (xTA (xTake Q σ (1))).1 = 4 ∨ (kRow (xTA (xTake Q σ (1))).1 ∧ hasC Q ((xTA (xTake Q σ (1))).1 - 40))) 3) (1)) := by unfold xLoadE; rw [if_pos h28, xChk_y (Or.inl h28)]
                rw [eF]
                exact v_zret rfl (by decide) (by decide) (Or.inr rfl) dX9_reads_84 ⟨rfl, ((oJ1.tr oJ25).tr oJ36), Or.inl ⟨rfl, zJ36, fJ36, (bJ36.trans (bJ25.trans bJ1))⟩⟩
              · have eF : xLoadE Q σ = xLay (xChk (xTA (xTake Q σ (1))).2 ((xTA (xTake Q σ (1))).1 = 5 ∨ (xTA (xTake Q σ (1))).1 = 4 ∨ (kRow (xTA (xTake Q σ (1))).1 ∧ hasC Q ((xTA (xTake Q σ (1))).1 - 40))) 3) (1) := by unfold xLoadE; rw [if_pos h28, xChk_y (Or.inl h28)]
                rw [eF]
                exact v_zret rfl (by decide) (by decide) (Or.inl rfl) dX9_reads_84 ⟨rfl, ((oJ1.tr oJ25).tr oJ36), Or.inr ⟨rfl, zJ36, bJ36⟩⟩
          · exact absurd (by rw [xChk_y (by omega), xTA_hi zJ1 wJ4]; exact zJ1) zJ25
        · refine v_aload_n dX9_reads_34 rfl ?_
          refine v_iload_n dX9_reads_35 rfl ?_
          refine v_Vb (tX9_isThings (⟨hTy, hYr⟩ : isY G y) qJ1 hr7) kX9_120 hTy rfl rfl ⟨by decide, by decide⟩ ⟨by decide, by decide⟩ (Nat.le_of_ble_eq_true rfl) dX9_reads_36 (fun h39 => ?_) (fun h39 => ?_)
          · refine v_if_eq ⟨by decide, by decide⟩ dX9_reads_39 (fun h => by exfalso; omega) (fun hb39 => ?_)
            refine v_iconst dX9_reads_42 ?_
            refine v_goto dX9_reads_43 ?_
            refine v_Vi (tX9_takesTop (⟨hTy, hYr⟩ : isY G y) qJ1 (σ := (xTake Q σ (1))) zJ1 fJ1 kJ1 hN wJ4 (P := (xTA (xTake Q σ (1))).1 = 5 ∨ (xTA (xTake Q σ (1))).1 = 4 ∨ (kRow (xTA (xTake Q σ (1))).1 ∧ hasC Q ((xTA (xTake Q σ (1))).1 - 40))) (by omega)) kX9_177 hTy rfl rfl ⟨by decide, by decide⟩ ⟨by decide, by decide⟩ (Nat.le_of_ble_eq_true rfl) dX9_reads_47 (fun r42 G9 J40 hr42 pJ40 rng41 => ?_)
            obtain ⟨hG9, oJ40, ⟨rfl, zJ40, fJ40, bJ40⟩ | ⟨rfl, zJ40, bJ40⟩⟩ := pJ40
            all_goals obtain rfl := hG9.symm
            · have qJ40 := qJ1.T oJ40
              have kJ40 : knP Q N (xChk (xTA (xTake Q σ (1))).2 ((xTA (xTake Q σ (1))).1 = 5 ∨ (xTA (xTake Q σ (1))).1 = 4 ∨ (kRow (xTA (xTake Q σ (1))).1 ∧ hasC Q ((xTA (xTake Q σ (1))).1 - 40))) 3).2 := kJ1.ta.chk
              refine v_if_ne ⟨by decide, by decide⟩ dX9_reads_50 (fun hb50 => ?_) (fun h => by exfalso; omega)
              refine v_aload_n dX9_reads_55 rfl ?_
              refine v_iload_n dX9_reads_56 rfl ?_
              refine v_iconst dX9_reads_57 ?_
              refine v_icmp_ne hr7 ⟨by decide, by decide⟩ dX9_reads_58 (fun h43 => ?_) (fun h43 => ?_)
              · refine v_iload_n dX9_reads_65 rfl ?_
                refine v_iconst dX9_reads_66 ?_
                refine v_icmp_ne hr7 ⟨by decide, by decide⟩ dX9_reads_67 (fun h44 => ?_) (fun h44 => ?_)
                · refine v_bipush dX9_reads_74 (by decide) ?_
                  refine v_iload_n dX9_reads_76 rfl ?_
                  refine v_iadd dX9_reads_77 ?_
                  refine v_bipush dX9_reads_78 (by decide) ?_
                  refine v_isub dX9_reads_80 ?_
                  refine v_Vi (tX9_lays (⟨hTy, hYr⟩ : isY G y) qJ40 (σ := (xChk (xTA (xTake Q σ (1))).2 ((xTA (xTake Q σ (1))).1 = 5 ∨ (xTA (xTake Q σ (1))).1 = 4 ∨ (kRow (xTA (xTake Q σ (1))).1 ∧ hasC Q ((xTA (xTake Q σ (1))).1 - 40))) 3)) zJ40 fJ40 kJ40 hN (by first | exact Or.inl ⟨by decide, by decide⟩ | omega) (by omega)) kX9_160 hTy rfl rfl ⟨by decide, by decide⟩ ⟨by decide, by decide⟩ (Nat.le_of_ble_eq_true rfl) dX9_reads_81 (fun r47 G9 J45 hr47 pJ45 rng46 => ?_)
                  obtain ⟨hG9, oJ45, ⟨rfl, zJ45, fJ45, bJ45⟩ | ⟨rfl, zJ45, bJ45⟩⟩ := pJ45
                  all_goals obtain rfl := hG9.symm
                  · have qJ45 := qJ40.T oJ45
                    have eF : xLoadE Q σ = (xLay (xChk (xTA (xTake Q σ (1))).2 ((xTA (xTake Q σ (1))).1 = 5 ∨ (xTA (xTake Q σ (1))).1 = 4 ∨ (kRow (xTA (xTake Q σ (1))).1 ∧ hasC Q ((xTA (xTake Q σ (1))).1 - 40))) 3) (((10 + (xTA (xTake Q σ (1))).1) - 40))) := by unfold xLoadE; rw [if_neg h43, if_pos (by omega), xChk_y (show (xTA (xTake Q σ (1))).1 = 5 ∨ (xTA (xTake Q σ (1))).1 = 4 ∨ (kRow (xTA (xTake Q σ (1))).1 ∧ hasC Q ((xTA (xTake Q σ (1))).1 - 40)) by omega)]
                    rw [eF]
                    exact v_zret rfl (by decide) (by decide) (Or.inr rfl) dX9_reads_84 ⟨rfl, ((oJ1.tr oJ40).tr oJ45), Or.inl ⟨rfl, zJ45, fJ45, (bJ45.trans (bJ40.trans bJ1))⟩⟩
                  · have eF : xLoadE Q σ = xLay (xChk (xTA (xTake Q σ (1))).2 ((xTA (xTake Q σ (1))).1 = 5 ∨ (xTA (xTake Q σ (1))).1 = 4 ∨ (kRow (xTA (xTake Q σ (1))).1 ∧ hasC Q ((xTA (xTake Q σ (1))).1 - 40))) 3) (((10 + (xTA (xTake Q σ (1))).1) - 40)) := by unfold xLoadE; rw [if_neg h43, if_pos (by omega), xChk_y (show (xTA (xTake Q σ (1))).1 = 5 ∨ (xTA (xTake Q σ (1))).1 = 4 ∨ (kRow (xTA (xTake Q σ (1))).1 ∧ hasC Q ((xTA (xTake Q σ (1))).1 - 40)) by omega)]
                    rw [eF]
                    exact v_zret rfl (by decide) (by decide) (Or.inl rfl) dX9_reads_84 ⟨rfl, ((oJ1.tr oJ40).tr oJ45), Or.inr ⟨rfl, zJ45, bJ45⟩⟩
                · refine v_iconst dX9_reads_70 ?_
                  refine v_goto dX9_reads_71 ?_
                  refine v_Vi (tX9_lays (⟨hTy, hYr⟩ : isY G y) qJ40 (σ := (xChk (xTA (xTake Q σ (1))).2 ((xTA (xTake Q σ (1))).1 = 5 ∨ (xTA (xTake Q σ (1))).1 = 4 ∨ (kRow (xTA (xTake Q σ (1))).1 ∧ hasC Q ((xTA (xTake Q σ (1))).1 - 40))) 3)) zJ40 fJ40 kJ40 hN (by first | exact Or.inl ⟨by decide, by decide⟩ | omega) (by omega)) kX9_160 hTy rfl rfl ⟨by decide, by decide⟩ ⟨by decide, by decide⟩ (Nat.le_of_ble_eq_true rfl) dX9_reads_81 (fun r50 G9 J48 hr50 pJ48 rng49 => ?_)
                  obtain ⟨hG9, oJ48, ⟨rfl, zJ48, fJ48, bJ48⟩ | ⟨rfl, zJ48, bJ48⟩⟩ := pJ48
                  all_goals obtain rfl := hG9.symm
                  · have qJ48 := qJ40.T oJ48
                    have eF : xLoadE Q σ = (xLay (xChk (xTA (xTake Q σ (1))).2 ((xTA (xTake Q σ (1))).1 = 5 ∨ (xTA (xTake Q σ (1))).1 = 4 ∨ (kRow (xTA (xTake Q σ (1))).1 ∧ hasC Q ((xTA (xTake Q σ (1))).1 - 40))) 3) (4)) := by unfold xLoadE; rw [if_neg h43, if_neg (by omega), xChk_y h44, xChk_y (Or.inr (Or.inl h44))]
                    rw [eF]
                    exact v_zret rfl (by decide) (by decide) (Or.inr rfl) dX9_reads_84 ⟨rfl, ((oJ1.tr oJ40).tr oJ48), Or.inl ⟨rfl, zJ48, fJ48, (bJ48.trans (bJ40.trans bJ1))⟩⟩
                  · have eF : xLoadE Q σ = xLay (xChk (xTA (xTake Q σ (1))).2 ((xTA (xTake Q σ (1))).1 = 5 ∨ (xTA (xTake Q σ (1))).1 = 4 ∨ (kRow (xTA (xTake Q σ (1))).1 ∧ hasC Q ((xTA (xTake Q σ (1))).1 - 40))) 3) (4) := by unfold xLoadE; rw [if_neg h43, if_neg (by omega), xChk_y h44, xChk_y (Or.inr (Or.inl h44))]
                    rw [eF]
                    exact v_zret rfl (by decide) (by decide) (Or.inl rfl) dX9_reads_84 ⟨rfl, ((oJ1.tr oJ40).tr oJ48), Or.inr ⟨rfl, zJ48, bJ48⟩⟩
              · refine v_iconst dX9_reads_61 ?_
                refine v_goto dX9_reads_62 ?_
                refine v_Vi (tX9_lays (⟨hTy, hYr⟩ : isY G y) qJ40 (σ := (xChk (xTA (xTake Q σ (1))).2 ((xTA (xTake Q σ (1))).1 = 5 ∨ (xTA (xTake Q σ (1))).1 = 4 ∨ (kRow (xTA (xTake Q σ (1))).1 ∧ hasC Q ((xTA (xTake Q σ (1))).1 - 40))) 3)) zJ40 fJ40 kJ40 hN (by first | exact Or.inl ⟨by decide, by decide⟩ | omega) (by omega)) kX9_160 hTy rfl rfl ⟨by decide, by decide⟩ ⟨by decide, by decide⟩ (Nat.le_of_ble_eq_true rfl) dX9_reads_81 (fun r53 G9 J51 hr53 pJ51 rng52 => ?_)
                obtain ⟨hG9, oJ51, ⟨rfl, zJ51, fJ51, bJ51⟩ | ⟨rfl, zJ51, bJ51⟩⟩ := pJ51
                all_goals obtain rfl := hG9.symm
                · have qJ51 := qJ40.T oJ51
                  have eF : xLoadE Q σ = (xLay (xChk (xTA (xTake Q σ (1))).2 ((xTA (xTake Q σ (1))).1 = 5 ∨ (xTA (xTake Q σ (1))).1 = 4 ∨ (kRow (xTA (xTake Q σ (1))).1 ∧ hasC Q ((xTA (xTake Q σ (1))).1 - 40))) 3) (1)) := by unfold xLoadE; rw [if_pos h43, xChk_y (Or.inl h43)]
                  rw [eF]
                  exact v_zret rfl (by decide) (by decide) (Or.inr rfl) dX9_reads_84 ⟨rfl, ((oJ1.tr oJ40).tr oJ51), Or.inl ⟨rfl, zJ51, fJ51, (bJ51.trans (bJ40.trans bJ1))⟩⟩
                · have eF : xLoadE Q σ = xLay (xChk (xTA (xTake Q σ (1))).2 ((xTA (xTake Q σ (1))).1 = 5 ∨ (xTA (xTake Q σ (1))).1 = 4 ∨ (kRow (xTA (xTake Q σ (1))).1 ∧ hasC Q ((xTA (xTake Q σ (1))).1 - 40))) 3) (1) := by unfold xLoadE; rw [if_pos h43, xChk_y (Or.inl h43)]
                  rw [eF]
                  exact v_zret rfl (by decide) (by decide) (Or.inl rfl) dX9_reads_84 ⟨rfl, ((oJ1.tr oJ40).tr oJ51), Or.inr ⟨rfl, zJ51, bJ51⟩⟩
            · exact absurd (by rw [xChk_y (by omega), xTA_hi zJ1 wJ4]; exact zJ1) zJ40
          · refine v_if_eq ⟨by decide, by decide⟩ dX9_reads_39 (fun hb39 => ?_) (fun h => by exfalso; omega)
            refine v_iconst dX9_reads_46 ?_
            refine v_Vi (tX9_takesTop (⟨hTy, hYr⟩ : isY G y) qJ1 (σ := (xTake Q σ (1))) zJ1 fJ1 kJ1 hN wJ4 (P := (xTA (xTake Q σ (1))).1 = 5 ∨ (xTA (xTake Q σ (1))).1 = 4 ∨ (kRow (xTA (xTake Q σ (1))).1 ∧ hasC Q ((xTA (xTake Q σ (1))).1 - 40))) (by omega)) kX9_177 hTy rfl rfl ⟨by decide, by decide⟩ ⟨by decide, by decide⟩ (Nat.le_of_ble_eq_true rfl) dX9_reads_47 (fun r56 G9 J54 hr56 pJ54 rng55 => ?_)
            obtain ⟨hG9, oJ54, ⟨rfl, zJ54, fJ54, bJ54⟩ | ⟨rfl, zJ54, bJ54⟩⟩ := pJ54
            all_goals obtain rfl := hG9.symm
            · exact absurd zJ54 (by rw [xChk_n (by omega)]; exact xBrk_ne (by decide))
            · refine v_if_ne ⟨by decide, by decide⟩ dX9_reads_50 (fun h => by exfalso; omega) (fun hb50 => ?_)
              refine v_iconst dX9_reads_53 ?_
              have eF : xLoadE Q σ = xChk (xTA (xTake Q σ (1))).2 ((xTA (xTake Q σ (1))).1 = 5 ∨ (xTA (xTake Q σ (1))).1 = 4 ∨ (kRow (xTA (xTake Q σ (1))).1 ∧ hasC Q ((xTA (xTake Q σ (1))).1 - 40))) 3 := by exact loadE_no kt zJ54
              rw [eF]
              exact v_zret rfl (by decide) (by decide) (Or.inl rfl) dX9_reads_54 ⟨rfl, (oJ1.tr oJ54), Or.inr ⟨rfl, zJ54, bJ54⟩⟩
    · refine v_if_ne ⟨by decide, by decide⟩ dX9_reads_13 (fun h => by exfalso; omega) (fun hb13 => ?_)
      refine v_iconst dX9_reads_16 ?_
      have eF : (xLoadE Q σ).1 = 2 := by unfold xLoadE; rw [xTA_lo zJ1 (by omega), if_neg (show ¬ (0 : Int) = 5 by decide), if_neg (show ¬ kRow (0 : Int) by decide), xChk_st (show ¬ (2 : Int) = 0 by decide), xLay_st (show ¬ (2 : Int) = 0 by decide)]
      exact v_zret rfl (by decide) (by decide) (Or.inl rfl) dX9_reads_17 ⟨rfl, (oJ1).tr offT_28, Or.inr ⟨rfl, by rw [eF]; decide, by rw [eF, w_up_s]⟩⟩
  · refine v_if_eq ⟨by decide, by decide⟩ dX9_reads_5 (fun hb5 => ?_) (fun h => by exfalso; omega)
    refine v_iconst dX9_reads_16 ?_
    have eF : xLoadE Q σ = xTake Q σ (1) := by unfold xLoadE; simp only [xTake_st zJ1, xLay_st zJ1, xChk_st zJ1, xTA_st zJ1, xPut_st zJ1, ite_self]
    rw [eF]
    exact v_zret rfl (by decide) (by decide) (Or.inl rfl) dX9_reads_17 ⟨rfl, oJ1, Or.inr ⟨rfl, zJ1, bJ1⟩⟩
theorem tX9_writes {E : w_E} {G : w_Sh} {I : w_Mm} {y : Nat} {Q : cS} {N : Nat} {σ : sS} (hY : isY G y) (hQ : clsY I y Q) (h0 : σ.1 = 0) (hf : yfr I y σ.2) (hkn : knP Q N σ.2) (hN : N ≤ 40) : w_Ct E mX9_writes 4 [.ref y] G I 0 0 (w_Pi (fun r G' J => G' = G ∧ sPost y I J r (xStoreE Q σ))) := by
  obtain ⟨hTy, hYr⟩ := hY
  have hQ0 := hQ
  have hf0 := hf
  obtain ⟨hf27, hfh0, hfh8, hfL, hfP⟩ := hf
  refine w_Ct.of (ls := [some (.ref y), none, none]) (by decide +kernel) (Nat.le_of_ble_eq_true rfl) rfl rfl (fun rng => ?_)
  refine v_aload_n dX9_writes_0 rfl ?_
  refine v_iconst dX9_writes_1 ?_
  refine v_Vi (tX9_wants (⟨hTy, hYr⟩ : isY G y) (φ := σ.2) hf0 ⟨by decide, by decide⟩) kX9_154 hTy rfl rfl ⟨by decide, by decide⟩ ⟨by decide, by decide⟩ (Nat.le_of_ble_eq_true rfl) dX9_writes_2 (fun r3 G9 J1 hr3 pJ1 rng2 => ?_)
  obtain ⟨hG9, ⟨rfl, wJ1, eJ1⟩ | ⟨rfl, wJ1, rfl⟩⟩ := pJ1
  all_goals obtain rfl := hG9.symm
  · obtain rfl := eJ1.symm
    refine v_if_ne ⟨by decide, by decide⟩ dX9_writes_5 (fun hb5 => ?_) (fun h => by exfalso; omega)
    refine v_aload_n dX9_writes_10 rfl ?_
    refine v_VmN (tX9_top (⟨hTy, hYr⟩ : isY G y) hQ0 (σ := σ) h0 hf0 hkn hN wJ1) kX9_173 hTy rfl rfl ⟨by decide, by decide⟩ ⟨by decide, by decide⟩ (Nat.le_of_ble_eq_true rfl) dX9_writes_11 (fun r4 er4 hr4 rng5 => ?_)
    subst er4
    refine v_istore_n dX9_writes_14 (by decide) rfl ?_
    have kt := (hkn).top
    refine v_aload_n dX9_writes_15 rfl ?_
    refine v_iload_n dX9_writes_16 rfl ?_
    refine v_iconst dX9_writes_17 ?_
    refine v_icmp_eq hr4 ⟨by decide, by decide⟩ dX9_writes_18 (fun h6 => ?_) (fun h6 => ?_)
    · refine v_iconst dX9_writes_28 ?_
      refine v_goto dX9_writes_29 ?_
      refine v_Vi (tX9_takesTop (⟨hTy, hYr⟩ : isY G y) hQ0 (σ := σ) h0 hf0 hkn hN wJ1 (P := (xTA σ).1 = 1 ∨ kRef (xTA σ).1) (by omega)) kX9_177 hTy rfl rfl ⟨by decide, by decide⟩ ⟨by decide, by decide⟩ (Nat.le_of_ble_eq_true rfl) dX9_writes_33 (fun r9 G9 J7 hr9 pJ7 rng8 => ?_)
      obtain ⟨hG9, oJ7, ⟨rfl, zJ7, fJ7, bJ7⟩ | ⟨rfl, zJ7, bJ7⟩⟩ := pJ7
      all_goals obtain rfl := hG9.symm
      · have qJ7 := hQ0.T oJ7
        have kJ7 : knP Q N (xChk (xTA σ).2 ((xTA σ).1 = 1 ∨ kRef (xTA σ).1) 3).2 := hkn.ta.chk
        refine v_if_eq ⟨by decide, by decide⟩ dX9_writes_36 (fun h => by exfalso; omega) (fun hb36 => ?_)
        refine v_aload_n dX9_writes_39 rfl ?_
        refine v_iconst dX9_writes_40 ?_
        refine v_Vi (tX9_takes (⟨hTy, hYr⟩ : isY G y) qJ7 (σ := (xChk (xTA σ).2 ((xTA σ).1 = 1 ∨ kRef (xTA σ).1) 3)) zJ7 fJ7 kJ7 hN (by first | exact Or.inl ⟨by decide, by decide⟩ | omega) (by omega)) kX9_163 hTy rfl rfl ⟨by decide, by decide⟩ ⟨by decide, by decide⟩ (Nat.le_of_ble_eq_true rfl) dX9_writes_41 (fun r12 G9 J10 hr12 pJ10 rng11 => ?_)
        obtain ⟨hG9, oJ10, ⟨rfl, zJ10, fJ10, bJ10⟩ | ⟨rfl, zJ10, bJ10⟩⟩ := pJ10
        all_goals obtain rfl := hG9.symm
        · have qJ10 := qJ7.T oJ10
          have kJ10 : knP Q N (xTake Q (xChk (xTA σ).2 ((xTA σ).1 = 1 ∨ kRef (xTA σ).1) 3) (1)).2 := kJ7.take
          refine v_if_eq ⟨by decide, by decide⟩ dX9_writes_44 (fun h => by exfalso; omega) (fun hb44 => ?_)
          refine v_aload_n dX9_writes_47 rfl ?_
          refine v_iconst dX9_writes_48 ?_
          refine v_Vi (tX9_wants (⟨hTy, hYr⟩ : isY G y) (φ := (xTake Q (xChk (xTA σ).2 ((xTA σ).1 = 1 ∨ kRef (xTA σ).1) 3) (1)).2) fJ10 ⟨by decide, by decide⟩) kX9_154 hTy rfl rfl ⟨by decide, by decide⟩ ⟨by decide, by decide⟩ (Nat.le_of_ble_eq_true rfl) dX9_writes_49 (fun r15 G9 J13 hr15 pJ13 rng14 => ?_)
          obtain ⟨hG9, ⟨rfl, wJ13, eJ13⟩ | ⟨rfl, wJ13, rfl⟩⟩ := pJ13
          all_goals obtain rfl := hG9.symm
          · obtain rfl := eJ13.symm
            refine v_if_ne ⟨by decide, by decide⟩ dX9_writes_52 (fun hb52 => ?_) (fun h => by exfalso; omega)
            refine v_aload_n dX9_writes_57 rfl ?_
            refine v_VmN (tX9_top (⟨hTy, hYr⟩ : isY G y) qJ10 (σ := (xTake Q (xChk (xTA σ).2 ((xTA σ).1 = 1 ∨ kRef (xTA σ).1) 3) (1))) zJ10 fJ10 kJ10 hN wJ13) kX9_173 hTy rfl rfl ⟨by decide, by decide⟩ ⟨by decide, by decide⟩ (Nat.le_of_ble_eq_true rfl) dX9_writes_58 (fun r16 er16 hr16 rng17 => ?_)
            subst er16
            refine v_istore_n dX9_writes_61 (by decide) rfl ?_
            have ku := (kJ10).top
            refine v_aload_n dX9_writes_62 rfl ?_
            refine v_iload_n dX9_writes_63 rfl ?_
            refine v_iconst dX9_writes_64 ?_
            refine v_icmp_eq hr16 ⟨by decide, by decide⟩ dX9_writes_65 (fun h18 => ?_) (fun h18 => ?_)
            · refine v_iconst dX9_writes_89 ?_
              refine v_goto dX9_writes_90 ?_
              refine v_Vi (tX9_takesTop (⟨hTy, hYr⟩ : isY G y) qJ10 (σ := (xTake Q (xChk (xTA σ).2 ((xTA σ).1 = 1 ∨ kRef (xTA σ).1) 3) (1))) zJ10 fJ10 kJ10 hN wJ13 (P := (xTA (xTake Q (xChk (xTA σ).2 ((xTA σ).1 = 1 ∨ kRef (xTA σ).1) 3) (1))).1 = 4 ∨ ((xTA σ).1 = 1 ∧ (xTA (xTake Q (xChk (xTA σ).2 ((xTA σ).1 = 1 ∨ kRef (xTA σ).1) 3) (1))).1 = 5) ∨ (¬ (xTA σ).1 = 1 ∧ kRow (xTA (xTake Q (xChk (xTA σ).2 ((xTA σ).1 = 1 ∨ kRef (xTA σ).1) 3) (1))).1)) (by omega)) kX9_177 hTy rfl rfl ⟨by decide, by decide⟩ ⟨by decide, by decide⟩ (Nat.le_of_ble_eq_true rfl) dX9_writes_94 (fun r21 G9 J19 hr21 pJ19 rng20 => ?_)
              obtain ⟨hG9, oJ19, ⟨rfl, zJ19, fJ19, bJ19⟩ | ⟨rfl, zJ19, bJ19⟩⟩ := pJ19
              all_goals obtain rfl := hG9.symm
              · have qJ19 := qJ10.T oJ19
                have kJ19 : knP Q N (xChk (xTA (xTake Q (xChk (xTA σ).2 ((xTA σ).1 = 1 ∨ kRef (xTA σ).1) 3) (1))).2 ((xTA (xTake Q (xChk (xTA σ).2 ((xTA σ).1 = 1 ∨ kRef (xTA σ).1) 3) (1))).1 = 4 ∨ ((xTA σ).1 = 1 ∧ (xTA (xTake Q (xChk (xTA σ).2 ((xTA σ).1 = 1 ∨ kRef (xTA σ).1) 3) (1))).1 = 5) ∨ (¬ (xTA σ).1 = 1 ∧ kRow (xTA (xTake Q (xChk (xTA σ).2 ((xTA σ).1 = 1 ∨ kRef (xTA σ).1) 3) (1))).1)) 3).2 := kJ10.ta.chk
                exact v_zret rfl (by decide) (by decide) (Or.inr rfl) dX9_writes_97 ⟨rfl, ((oJ7.tr oJ10).tr oJ19), Or.inl ⟨rfl, zJ19, fJ19, (bJ19.trans (bJ10.trans bJ7))⟩⟩
              · exact absurd (by rw [xChk_y (by omega), xTA_hi zJ10 wJ13]; exact zJ10) zJ19
            · refine v_iload_n dX9_writes_68 rfl ?_
              refine v_iconst dX9_writes_69 ?_
              refine v_icmp_ne hr4 ⟨by decide, by decide⟩ dX9_writes_70 (fun h22 => ?_) (fun h22 => ?_)
              · refine v_aload_n dX9_writes_81 rfl ?_
                refine v_iload_n dX9_writes_82 rfl ?_
                refine v_Vb (tX9_isThings (⟨hTy, hYr⟩ : isY G y) qJ10 hr16) kX9_120 hTy rfl rfl ⟨by decide, by decide⟩ ⟨by decide, by decide⟩ (Nat.le_of_ble_eq_true rfl) dX9_writes_83 (fun h23 => ?_) (fun h23 => ?_)
                · refine v_if_eq ⟨by decide, by decide⟩ dX9_writes_86 (fun h => by exfalso; omega) (fun hb86 => ?_)
                  refine v_iconst dX9_writes_89 ?_
                  refine v_goto dX9_writes_90 ?_
                  refine v_Vi (tX9_takesTop (⟨hTy, hYr⟩ : isY G y) qJ10 (σ := (xTake Q (xChk (xTA σ).2 ((xTA σ).1 = 1 ∨ kRef (xTA σ).1) 3) (1))) zJ10 fJ10 kJ10 hN wJ13 (P := (xTA (xTake Q (xChk (xTA σ).2 ((xTA σ).1 = 1 ∨ kRef (xTA σ).1) 3) (1))).1 = 4 ∨ ((xTA σ).1 = 1 ∧ (xTA (xTake Q (xChk (xTA σ).2 ((xTA σ).1 = 1 ∨ kRef (xTA σ).1) 3) (1))).1 = 5) ∨ (¬ (xTA σ).1 = 1 ∧ kRow (xTA (xTake Q (xChk (xTA σ).2 ((xTA σ).1 = 1 ∨ kRef (xTA σ).1) 3) (1))).1)) (by omega)) kX9_177 hTy rfl rfl ⟨by decide, by decide⟩ ⟨by decide, by decide⟩ (Nat.le_of_ble_eq_true rfl) dX9_writes_94 (fun r26 G9 J24 hr26 pJ24 rng25 => ?_)
                  obtain ⟨hG9, oJ24, ⟨rfl, zJ24, fJ24, bJ24⟩ | ⟨rfl, zJ24, bJ24⟩⟩ := pJ24
                  all_goals obtain rfl := hG9.symm
                  · have qJ24 := qJ10.T oJ24
                    have kJ24 : knP Q N (xChk (xTA (xTake Q (xChk (xTA σ).2 ((xTA σ).1 = 1 ∨ kRef (xTA σ).1) 3) (1))).2 ((xTA (xTake Q (xChk (xTA σ).2 ((xTA σ).1 = 1 ∨ kRef (xTA σ).1) 3) (1))).1 = 4 ∨ ((xTA σ).1 = 1 ∧ (xTA (xTake Q (xChk (xTA σ).2 ((xTA σ).1 = 1 ∨ kRef (xTA σ).1) 3) (1))).1 = 5) ∨ (¬ (xTA σ).1 = 1 ∧ kRow (xTA (xTake Q (xChk (xTA σ).2 ((xTA σ).1 = 1 ∨ kRef (xTA σ).1) 3) (1))).1)) 3).2 := kJ10.ta.chk
                    exact v_zret rfl (by decide) (by decide) (Or.inr rfl) dX9_writes_97 ⟨rfl, ((oJ7.tr oJ10).tr oJ24), Or.inl ⟨rfl, zJ24, fJ24, (bJ24.trans (bJ10.trans bJ7))⟩⟩
                  · exact absurd (by rw [xChk_y (by omega), xTA_hi zJ10 wJ13]; exact zJ10) zJ24
                · refine v_if_eq ⟨by decide, by decide⟩ dX9_writes_86 (fun hb86 => ?_) (fun h => by exfalso; omega)
                  refine v_iconst dX9_writes_93 ?_
                  refine v_Vi (tX9_takesTop (⟨hTy, hYr⟩ : isY G y) qJ10 (σ := (xTake Q (xChk (xTA σ).2 ((xTA σ).1 = 1 ∨ kRef (xTA σ).1) 3) (1))) zJ10 fJ10 kJ10 hN wJ13 (P := (xTA (xTake Q (xChk (xTA σ).2 ((xTA σ).1 = 1 ∨ kRef (xTA σ).1) 3) (1))).1 = 4 ∨ ((xTA σ).1 = 1 ∧ (xTA (xTake Q (xChk (xTA σ).2 ((xTA σ).1 = 1 ∨ kRef (xTA σ).1) 3) (1))).1 = 5) ∨ (¬ (xTA σ).1 = 1 ∧ kRow (xTA (xTake Q (xChk (xTA σ).2 ((xTA σ).1 = 1 ∨ kRef (xTA σ).1) 3) (1))).1)) (by omega)) kX9_177 hTy rfl rfl ⟨by decide, by decide⟩ ⟨by decide, by decide⟩ (Nat.le_of_ble_eq_true rfl) dX9_writes_94 (fun r29 G9 J27 hr29 pJ27 rng28 => ?_)
                  obtain ⟨hG9, oJ27, ⟨rfl, zJ27, fJ27, bJ27⟩ | ⟨rfl, zJ27, bJ27⟩⟩ := pJ27
                  all_goals obtain rfl := hG9.symm
                  · exact absurd zJ27 (by rw [xChk_n (by omega)]; exact xBrk_ne (by decide))
                  · exact v_zret rfl (by decide) (by decide) (Or.inl rfl) dX9_writes_97 ⟨rfl, ((oJ7.tr oJ10).tr oJ27), Or.inr ⟨rfl, zJ27, bJ27⟩⟩
              · refine v_iload_n dX9_writes_73 rfl ?_
                refine v_iconst dX9_writes_74 ?_
                refine v_icmp_ne hr16 ⟨by decide, by decide⟩ dX9_writes_75 (fun h30 => ?_) (fun h30 => ?_)
                · refine v_iconst dX9_writes_93 ?_
                  refine v_Vi (tX9_takesTop (⟨hTy, hYr⟩ : isY G y) qJ10 (σ := (xTake Q (xChk (xTA σ).2 ((xTA σ).1 = 1 ∨ kRef (xTA σ).1) 3) (1))) zJ10 fJ10 kJ10 hN wJ13 (P := (xTA (xTake Q (xChk (xTA σ).2 ((xTA σ).1 = 1 ∨ kRef (xTA σ).1) 3) (1))).1 = 4 ∨ ((xTA σ).1 = 1 ∧ (xTA (xTake Q (xChk (xTA σ).2 ((xTA σ).1 = 1 ∨ kRef (xTA σ).1) 3) (1))).1 = 5) ∨ (¬ (xTA σ).1 = 1 ∧ kRow (xTA (xTake Q (xChk (xTA σ).2 ((xTA σ).1 = 1 ∨ kRef (xTA σ).1) 3) (1))).1)) (by omega)) kX9_177 hTy rfl rfl ⟨by decide, by decide⟩ ⟨by decide, by decide⟩ (Nat.le_of_ble_eq_true rfl) dX9_writes_94 (fun r33 G9 J31 hr33 pJ31 rng32 => ?_)
                  obtain ⟨hG9, oJ31, ⟨rfl, zJ31, fJ31, bJ31⟩ | ⟨rfl, zJ31, bJ31⟩⟩ := pJ31
                  all_goals obtain rfl := hG9.symm
                  · exact absurd zJ31 (by rw [xChk_n (by omega)]; exact xBrk_ne (by decide))
                  · exact v_zret rfl (by decide) (by decide) (Or.inl rfl) dX9_writes_97 ⟨rfl, ((oJ7.tr oJ10).tr oJ31), Or.inr ⟨rfl, zJ31, bJ31⟩⟩
                · refine v_goto dX9_writes_78 ?_
                  refine v_iconst dX9_writes_89 ?_
                  refine v_goto dX9_writes_90 ?_
                  refine v_Vi (tX9_takesTop (⟨hTy, hYr⟩ : isY G y) qJ10 (σ := (xTake Q (xChk (xTA σ).2 ((xTA σ).1 = 1 ∨ kRef (xTA σ).1) 3) (1))) zJ10 fJ10 kJ10 hN wJ13 (P := (xTA (xTake Q (xChk (xTA σ).2 ((xTA σ).1 = 1 ∨ kRef (xTA σ).1) 3) (1))).1 = 4 ∨ ((xTA σ).1 = 1 ∧ (xTA (xTake Q (xChk (xTA σ).2 ((xTA σ).1 = 1 ∨ kRef (xTA σ).1) 3) (1))).1 = 5) ∨ (¬ (xTA σ).1 = 1 ∧ kRow (xTA (xTake Q (xChk (xTA σ).2 ((xTA σ).1 = 1 ∨ kRef (xTA σ).1) 3) (1))).1)) (by omega)) kX9_177 hTy rfl rfl ⟨by decide, by decide⟩ ⟨by decide, by decide⟩ (Nat.le_of_ble_eq_true rfl) dX9_writes_94 (fun r36 G9 J34 hr36 pJ34 rng35 => ?_)
                  obtain ⟨hG9, oJ34, ⟨rfl, zJ34, fJ34, bJ34⟩ | ⟨rfl, zJ34, bJ34⟩⟩ := pJ34
                  all_goals obtain rfl := hG9.symm
                  · have qJ34 := qJ10.T oJ34
                    have kJ34 : knP Q N (xChk (xTA (xTake Q (xChk (xTA σ).2 ((xTA σ).1 = 1 ∨ kRef (xTA σ).1) 3) (1))).2 ((xTA (xTake Q (xChk (xTA σ).2 ((xTA σ).1 = 1 ∨ kRef (xTA σ).1) 3) (1))).1 = 4 ∨ ((xTA σ).1 = 1 ∧ (xTA (xTake Q (xChk (xTA σ).2 ((xTA σ).1 = 1 ∨ kRef (xTA σ).1) 3) (1))).1 = 5) ∨ (¬ (xTA σ).1 = 1 ∧ kRow (xTA (xTake Q (xChk (xTA σ).2 ((xTA σ).1 = 1 ∨ kRef (xTA σ).1) 3) (1))).1)) 3).2 := kJ10.ta.chk
                    exact v_zret rfl (by decide) (by decide) (Or.inr rfl) dX9_writes_97 ⟨rfl, ((oJ7.tr oJ10).tr oJ34), Or.inl ⟨rfl, zJ34, fJ34, (bJ34.trans (bJ10.trans bJ7))⟩⟩
                  · exact absurd (by rw [xChk_y (by omega), xTA_hi zJ10 wJ13]; exact zJ10) zJ34
          · refine v_if_ne ⟨by decide, by decide⟩ dX9_writes_52 (fun h => by exfalso; omega) (fun hb52 => ?_)
            refine v_iconst dX9_writes_55 ?_
            have eF : (xStoreE Q σ).1 = 2 := by have h9 : xTA (xTake Q (xChk (xTA σ).2 ((xTA σ).1 = 1 ∨ kRef (xTA σ).1) 3) (1)) = (0, (2, (xTake Q (xChk (xTA σ).2 ((xTA σ).1 = 1 ∨ kRef (xTA σ).1) 3) (1)).2)) := xTA_lo zJ10 (by omega); unfold xStoreE xSt1; rw [h9, xChk_st (show ¬ (2 : Int) = 0 by decide)]
            exact v_zret rfl (by decide) (by decide) (Or.inl rfl) dX9_writes_56 ⟨rfl, ((oJ7.tr oJ10)).tr offT_28, Or.inr ⟨rfl, by rw [eF]; decide, by rw [eF, w_up_s]⟩⟩
        · refine v_if_eq ⟨by decide, by decide⟩ dX9_writes_44 (fun hb44 => ?_) (fun h => by exfalso; omega)
          refine v_iconst dX9_writes_55 ?_
          have eF : xStoreE Q σ = xTake Q (xChk (xTA σ).2 ((xTA σ).1 = 1 ∨ kRef (xTA σ).1) 3) (1) := by unfold xStoreE xSt1; simp only [xTake_st zJ10, xLay_st zJ10, xChk_st zJ10, xTA_st zJ10, xPut_st zJ10]
          rw [eF]
          exact v_zret rfl (by decide) (by decide) (Or.inl rfl) dX9_writes_56 ⟨rfl, (oJ7.tr oJ10), Or.inr ⟨rfl, zJ10, bJ10⟩⟩
      · exact absurd (by rw [xChk_y (by omega), xTA_hi h0 wJ1]; exact h0) zJ7
    · refine v_iload_n dX9_writes_21 rfl ?_
      refine v_Sb (tX9_isReference hr4) kX9_114 rfl rfl ⟨by decide, by decide⟩ ⟨by decide, by decide⟩ (Nat.le_of_ble_eq_true rfl) dX9_writes_22 (fun h37 => ?_) (fun h37 => ?_)
      · refine v_if_eq ⟨by decide, by decide⟩ dX9_writes_25 (fun h => by exfalso; omega) (fun hb25 => ?_)
        refine v_iconst dX9_writes_28 ?_
        refine v_goto dX9_writes_29 ?_
        refine v_Vi (tX9_takesTop (⟨hTy, hYr⟩ : isY G y) hQ0 (σ := σ) h0 hf0 hkn hN wJ1 (P := (xTA σ).1 = 1 ∨ kRef (xTA σ).1) (by omega)) kX9_177 hTy rfl rfl ⟨by decide, by decide⟩ ⟨by decide, by decide⟩ (Nat.le_of_ble_eq_true rfl) dX9_writes_33 (fun r40 G9 J38 hr40 pJ38 rng39 => ?_)
        obtain ⟨hG9, oJ38, ⟨rfl, zJ38, fJ38, bJ38⟩ | ⟨rfl, zJ38, bJ38⟩⟩ := pJ38
        all_goals obtain rfl := hG9.symm
        · have qJ38 := hQ0.T oJ38
          have kJ38 : knP Q N (xChk (xTA σ).2 ((xTA σ).1 = 1 ∨ kRef (xTA σ).1) 3).2 := hkn.ta.chk
          refine v_if_eq ⟨by decide, by decide⟩ dX9_writes_36 (fun h => by exfalso; omega) (fun hb36 => ?_)
          refine v_aload_n dX9_writes_39 rfl ?_
          refine v_iconst dX9_writes_40 ?_
          refine v_Vi (tX9_takes (⟨hTy, hYr⟩ : isY G y) qJ38 (σ := (xChk (xTA σ).2 ((xTA σ).1 = 1 ∨ kRef (xTA σ).1) 3)) zJ38 fJ38 kJ38 hN (by first | exact Or.inl ⟨by decide, by decide⟩ | omega) (by omega)) kX9_163 hTy rfl rfl ⟨by decide, by decide⟩ ⟨by decide, by decide⟩ (Nat.le_of_ble_eq_true rfl) dX9_writes_41 (fun r43 G9 J41 hr43 pJ41 rng42 => ?_)
          obtain ⟨hG9, oJ41, ⟨rfl, zJ41, fJ41, bJ41⟩ | ⟨rfl, zJ41, bJ41⟩⟩ := pJ41
          all_goals obtain rfl := hG9.symm
          · have qJ41 := qJ38.T oJ41
            have kJ41 : knP Q N (xTake Q (xChk (xTA σ).2 ((xTA σ).1 = 1 ∨ kRef (xTA σ).1) 3) (1)).2 := kJ38.take
            refine v_if_eq ⟨by decide, by decide⟩ dX9_writes_44 (fun h => by exfalso; omega) (fun hb44 => ?_)
            refine v_aload_n dX9_writes_47 rfl ?_
            refine v_iconst dX9_writes_48 ?_
            refine v_Vi (tX9_wants (⟨hTy, hYr⟩ : isY G y) (φ := (xTake Q (xChk (xTA σ).2 ((xTA σ).1 = 1 ∨ kRef (xTA σ).1) 3) (1)).2) fJ41 ⟨by decide, by decide⟩) kX9_154 hTy rfl rfl ⟨by decide, by decide⟩ ⟨by decide, by decide⟩ (Nat.le_of_ble_eq_true rfl) dX9_writes_49 (fun r46 G9 J44 hr46 pJ44 rng45 => ?_)
            obtain ⟨hG9, ⟨rfl, wJ44, eJ44⟩ | ⟨rfl, wJ44, rfl⟩⟩ := pJ44
            all_goals obtain rfl := hG9.symm
            · obtain rfl := eJ44.symm
              refine v_if_ne ⟨by decide, by decide⟩ dX9_writes_52 (fun hb52 => ?_) (fun h => by exfalso; omega)
              refine v_aload_n dX9_writes_57 rfl ?_
              refine v_VmN (tX9_top (⟨hTy, hYr⟩ : isY G y) qJ41 (σ := (xTake Q (xChk (xTA σ).2 ((xTA σ).1 = 1 ∨ kRef (xTA σ).1) 3) (1))) zJ41 fJ41 kJ41 hN wJ44) kX9_173 hTy rfl rfl ⟨by decide, by decide⟩ ⟨by decide, by decide⟩ (Nat.le_of_ble_eq_true rfl) dX9_writes_58 (fun r47 er47 hr47 rng48 => ?_)
              subst er47
              refine v_istore_n dX9_writes_61 (by decide) rfl ?_
              have ku := (kJ41).top
              refine v_aload_n dX9_writes_62 rfl ?_
              refine v_iload_n dX9_writes_63 rfl ?_
              refine v_iconst dX9_writes_64 ?_
              refine v_icmp_eq hr47 ⟨by decide, by decide⟩ dX9_writes_65 (fun h49 => ?_) (fun h49 => ?_)
              · refine v_iconst dX9_writes_89 ?_
                refine v_goto dX9_writes_90 ?_
                refine v_Vi (tX9_takesTop (⟨hTy, hYr⟩ : isY G y) qJ41 (σ := (xTake Q (xChk (xTA σ).2 ((xTA σ).1 = 1 ∨ kRef (xTA σ).1) 3) (1))) zJ41 fJ41 kJ41 hN wJ44 (P := (xTA (xTake Q (xChk (xTA σ).2 ((xTA σ).1 = 1 ∨ kRef (xTA σ).1) 3) (1))).1 = 4 ∨ ((xTA σ).1 = 1 ∧ (xTA (xTake Q (xChk (xTA σ).2 ((xTA σ).1 = 1 ∨ kRef (xTA σ).1) 3) (1))).1 = 5) ∨ (¬ (xTA σ).1 = 1 ∧ kRow (xTA (xTake Q (xChk (xTA σ).2 ((xTA σ).1 = 1 ∨ kRef (xTA σ).1) 3) (1))).1)) (by omega)) kX9_177 hTy rfl rfl ⟨by decide, by decide⟩ ⟨by decide, by decide⟩ (Nat.le_of_ble_eq_true rfl) dX9_writes_94 (fun r52 G9 J50 hr52 pJ50 rng51 => ?_)
                obtain ⟨hG9, oJ50, ⟨rfl, zJ50, fJ50, bJ50⟩ | ⟨rfl, zJ50, bJ50⟩⟩ := pJ50
                all_goals obtain rfl := hG9.symm
                · have qJ50 := qJ41.T oJ50
                  have kJ50 : knP Q N (xChk (xTA (xTake Q (xChk (xTA σ).2 ((xTA σ).1 = 1 ∨ kRef (xTA σ).1) 3) (1))).2 ((xTA (xTake Q (xChk (xTA σ).2 ((xTA σ).1 = 1 ∨ kRef (xTA σ).1) 3) (1))).1 = 4 ∨ ((xTA σ).1 = 1 ∧ (xTA (xTake Q (xChk (xTA σ).2 ((xTA σ).1 = 1 ∨ kRef (xTA σ).1) 3) (1))).1 = 5) ∨ (¬ (xTA σ).1 = 1 ∧ kRow (xTA (xTake Q (xChk (xTA σ).2 ((xTA σ).1 = 1 ∨ kRef (xTA σ).1) 3) (1))).1)) 3).2 := kJ41.ta.chk
                  exact v_zret rfl (by decide) (by decide) (Or.inr rfl) dX9_writes_97 ⟨rfl, ((oJ38.tr oJ41).tr oJ50), Or.inl ⟨rfl, zJ50, fJ50, (bJ50.trans (bJ41.trans bJ38))⟩⟩
                · exact absurd (by rw [xChk_y (by omega), xTA_hi zJ41 wJ44]; exact zJ41) zJ50
              · refine v_iload_n dX9_writes_68 rfl ?_
                refine v_iconst dX9_writes_69 ?_
                refine v_icmp_ne hr4 ⟨by decide, by decide⟩ dX9_writes_70 (fun h53 => ?_) (fun h53 => ?_)
                · refine v_aload_n dX9_writes_81 rfl ?_
                  refine v_iload_n dX9_writes_82 rfl ?_
                  refine v_Vb (tX9_isThings (⟨hTy, hYr⟩ : isY G y) qJ41 hr47) kX9_120 hTy rfl rfl ⟨by decide, by decide⟩ ⟨by decide, by decide⟩ (Nat.le_of_ble_eq_true rfl) dX9_writes_83 (fun h54 => ?_) (fun h54 => ?_)
                  · refine v_if_eq ⟨by decide, by decide⟩ dX9_writes_86 (fun h => by exfalso; omega) (fun hb86 => ?_)
                    refine v_iconst dX9_writes_89 ?_
                    refine v_goto dX9_writes_90 ?_
                    refine v_Vi (tX9_takesTop (⟨hTy, hYr⟩ : isY G y) qJ41 (σ := (xTake Q (xChk (xTA σ).2 ((xTA σ).1 = 1 ∨ kRef (xTA σ).1) 3) (1))) zJ41 fJ41 kJ41 hN wJ44 (P := (xTA (xTake Q (xChk (xTA σ).2 ((xTA σ).1 = 1 ∨ kRef (xTA σ).1) 3) (1))).1 = 4 ∨ ((xTA σ).1 = 1 ∧ (xTA (xTake Q (xChk (xTA σ).2 ((xTA σ).1 = 1 ∨ kRef (xTA σ).1) 3) (1))).1 = 5) ∨ (¬ (xTA σ).1 = 1 ∧ kRow (xTA (xTake Q (xChk (xTA σ).2 ((xTA σ).1 = 1 ∨ kRef (xTA σ).1) 3) (1))).1)) (by omega)) kX9_177 hTy rfl rfl ⟨by decide, by decide⟩ ⟨by decide, by decide⟩ (Nat.le_of_ble_eq_true rfl) dX9_writes_94 (fun r57 G9 J55 hr57 pJ55 rng56 => ?_)
                    obtain ⟨hG9, oJ55, ⟨rfl, zJ55, fJ55, bJ55⟩ | ⟨rfl, zJ55, bJ55⟩⟩ := pJ55
                    all_goals obtain rfl := hG9.symm
                    · have qJ55 := qJ41.T oJ55
                      have kJ55 : knP Q N (xChk (xTA (xTake Q (xChk (xTA σ).2 ((xTA σ).1 = 1 ∨ kRef (xTA σ).1) 3) (1))).2 ((xTA (xTake Q (xChk (xTA σ).2 ((xTA σ).1 = 1 ∨ kRef (xTA σ).1) 3) (1))).1 = 4 ∨ ((xTA σ).1 = 1 ∧ (xTA (xTake Q (xChk (xTA σ).2 ((xTA σ).1 = 1 ∨ kRef (xTA σ).1) 3) (1))).1 = 5) ∨ (¬ (xTA σ).1 = 1 ∧ kRow (xTA (xTake Q (xChk (xTA σ).2 ((xTA σ).1 = 1 ∨ kRef (xTA σ).1) 3) (1))).1)) 3).2 := kJ41.ta.chk
                      exact v_zret rfl (by decide) (by decide) (Or.inr rfl) dX9_writes_97 ⟨rfl, ((oJ38.tr oJ41).tr oJ55), Or.inl ⟨rfl, zJ55, fJ55, (bJ55.trans (bJ41.trans bJ38))⟩⟩
                    · exact absurd (by rw [xChk_y (by omega), xTA_hi zJ41 wJ44]; exact zJ41) zJ55
                  · refine v_if_eq ⟨by decide, by decide⟩ dX9_writes_86 (fun hb86 => ?_) (fun h => by exfalso; omega)
                    refine v_iconst dX9_writes_93 ?_
                    refine v_Vi (tX9_takesTop (⟨hTy, hYr⟩ : isY G y) qJ41 (σ := (xTake Q (xChk (xTA σ).2 ((xTA σ).1 = 1 ∨ kRef (xTA σ).1) 3) (1))) zJ41 fJ41 kJ41 hN wJ44 (P := (xTA (xTake Q (xChk (xTA σ).2 ((xTA σ).1 = 1 ∨ kRef (xTA σ).1) 3) (1))).1 = 4 ∨ ((xTA σ).1 = 1 ∧ (xTA (xTake Q (xChk (xTA σ).2 ((xTA σ).1 = 1 ∨ kRef (xTA σ).1) 3) (1))).1 = 5) ∨ (¬ (xTA σ).1 = 1 ∧ kRow (xTA (xTake Q (xChk (xTA σ).2 ((xTA σ).1 = 1 ∨ kRef (xTA σ).1) 3) (1))).1)) (by omega)) kX9_177 hTy rfl rfl ⟨by decide, by decide⟩ ⟨by decide, by decide⟩ (Nat.le_of_ble_eq_true rfl) dX9_writes_94 (fun r60 G9 J58 hr60 pJ58 rng59 => ?_)
                    obtain ⟨hG9, oJ58, ⟨rfl, zJ58, fJ58, bJ58⟩ | ⟨rfl, zJ58, bJ58⟩⟩ := pJ58
                    all_goals obtain rfl := hG9.symm
                    · exact absurd zJ58 (by rw [xChk_n (by omega)]; exact xBrk_ne (by decide))
                    · exact v_zret rfl (by decide) (by decide) (Or.inl rfl) dX9_writes_97 ⟨rfl, ((oJ38.tr oJ41).tr oJ58), Or.inr ⟨rfl, zJ58, bJ58⟩⟩
                · refine v_iload_n dX9_writes_73 rfl ?_
                  refine v_iconst dX9_writes_74 ?_
                  refine v_icmp_ne hr47 ⟨by decide, by decide⟩ dX9_writes_75 (fun h61 => ?_) (fun h61 => ?_)
                  · refine v_iconst dX9_writes_93 ?_
                    refine v_Vi (tX9_takesTop (⟨hTy, hYr⟩ : isY G y) qJ41 (σ := (xTake Q (xChk (xTA σ).2 ((xTA σ).1 = 1 ∨ kRef (xTA σ).1) 3) (1))) zJ41 fJ41 kJ41 hN wJ44 (P := (xTA (xTake Q (xChk (xTA σ).2 ((xTA σ).1 = 1 ∨ kRef (xTA σ).1) 3) (1))).1 = 4 ∨ ((xTA σ).1 = 1 ∧ (xTA (xTake Q (xChk (xTA σ).2 ((xTA σ).1 = 1 ∨ kRef (xTA σ).1) 3) (1))).1 = 5) ∨ (¬ (xTA σ).1 = 1 ∧ kRow (xTA (xTake Q (xChk (xTA σ).2 ((xTA σ).1 = 1 ∨ kRef (xTA σ).1) 3) (1))).1)) (by omega)) kX9_177 hTy rfl rfl ⟨by decide, by decide⟩ ⟨by decide, by decide⟩ (Nat.le_of_ble_eq_true rfl) dX9_writes_94 (fun r64 G9 J62 hr64 pJ62 rng63 => ?_)
                    obtain ⟨hG9, oJ62, ⟨rfl, zJ62, fJ62, bJ62⟩ | ⟨rfl, zJ62, bJ62⟩⟩ := pJ62
                    all_goals obtain rfl := hG9.symm
                    · exact absurd zJ62 (by rw [xChk_n (by omega)]; exact xBrk_ne (by decide))
                    · exact v_zret rfl (by decide) (by decide) (Or.inl rfl) dX9_writes_97 ⟨rfl, ((oJ38.tr oJ41).tr oJ62), Or.inr ⟨rfl, zJ62, bJ62⟩⟩
                  · refine v_goto dX9_writes_78 ?_
                    refine v_iconst dX9_writes_89 ?_
                    refine v_goto dX9_writes_90 ?_
                    refine v_Vi (tX9_takesTop (⟨hTy, hYr⟩ : isY G y) qJ41 (σ := (xTake Q (xChk (xTA σ).2 ((xTA σ).1 = 1 ∨ kRef (xTA σ).1) 3) (1))) zJ41 fJ41 kJ41 hN wJ44 (P := (xTA (xTake Q (xChk (xTA σ).2 ((xTA σ).1 = 1 ∨ kRef (xTA σ).1) 3) (1))).1 = 4 ∨ ((xTA σ).1 = 1 ∧ (xTA (xTake Q (xChk (xTA σ).2 ((xTA σ).1 = 1 ∨ kRef (xTA σ).1) 3) (1))).1 = 5) ∨ (¬ (xTA σ).1 = 1 ∧ kRow (xTA (xTake Q (xChk (xTA σ).2 ((xTA σ).1 = 1 ∨ kRef (xTA σ).1) 3) (1))).1)) (by omega)) kX9_177 hTy rfl rfl ⟨by decide, by decide⟩ ⟨by decide, by decide⟩ (Nat.le_of_ble_eq_true rfl) dX9_writes_94 (fun r67 G9 J65 hr67 pJ65 rng66 => ?_)
                    obtain ⟨hG9, oJ65, ⟨rfl, zJ65, fJ65, bJ65⟩ | ⟨rfl, zJ65, bJ65⟩⟩ := pJ65
                    all_goals obtain rfl := hG9.symm
                    · have qJ65 := qJ41.T oJ65
                      have kJ65 : knP Q N (xChk (xTA (xTake Q (xChk (xTA σ).2 ((xTA σ).1 = 1 ∨ kRef (xTA σ).1) 3) (1))).2 ((xTA (xTake Q (xChk (xTA σ).2 ((xTA σ).1 = 1 ∨ kRef (xTA σ).1) 3) (1))).1 = 4 ∨ ((xTA σ).1 = 1 ∧ (xTA (xTake Q (xChk (xTA σ).2 ((xTA σ).1 = 1 ∨ kRef (xTA σ).1) 3) (1))).1 = 5) ∨ (¬ (xTA σ).1 = 1 ∧ kRow (xTA (xTake Q (xChk (xTA σ).2 ((xTA σ).1 = 1 ∨ kRef (xTA σ).1) 3) (1))).1)) 3).2 := kJ41.ta.chk
                      exact v_zret rfl (by decide) (by decide) (Or.inr rfl) dX9_writes_97 ⟨rfl, ((oJ38.tr oJ41).tr oJ65), Or.inl ⟨rfl, zJ65, fJ65, (bJ65.trans (bJ41.trans bJ38))⟩⟩
                    · exact absurd (by rw [xChk_y (by omega), xTA_hi zJ41 wJ44]; exact zJ41) zJ65
            · refine v_if_ne ⟨by decide, by decide⟩ dX9_writes_52 (fun h => by exfalso; omega) (fun hb52 => ?_)
              refine v_iconst dX9_writes_55 ?_
              have eF : (xStoreE Q σ).1 = 2 := by have h9 : xTA (xTake Q (xChk (xTA σ).2 ((xTA σ).1 = 1 ∨ kRef (xTA σ).1) 3) (1)) = (0, (2, (xTake Q (xChk (xTA σ).2 ((xTA σ).1 = 1 ∨ kRef (xTA σ).1) 3) (1)).2)) := xTA_lo zJ41 (by omega); unfold xStoreE xSt1; rw [h9, xChk_st (show ¬ (2 : Int) = 0 by decide)]
              exact v_zret rfl (by decide) (by decide) (Or.inl rfl) dX9_writes_56 ⟨rfl, ((oJ38.tr oJ41)).tr offT_28, Or.inr ⟨rfl, by rw [eF]; decide, by rw [eF, w_up_s]⟩⟩
          · refine v_if_eq ⟨by decide, by decide⟩ dX9_writes_44 (fun hb44 => ?_) (fun h => by exfalso; omega)
            refine v_iconst dX9_writes_55 ?_
            have eF : xStoreE Q σ = xTake Q (xChk (xTA σ).2 ((xTA σ).1 = 1 ∨ kRef (xTA σ).1) 3) (1) := by unfold xStoreE xSt1; simp only [xTake_st zJ41, xLay_st zJ41, xChk_st zJ41, xTA_st zJ41, xPut_st zJ41]
            rw [eF]
            exact v_zret rfl (by decide) (by decide) (Or.inl rfl) dX9_writes_56 ⟨rfl, (oJ38.tr oJ41), Or.inr ⟨rfl, zJ41, bJ41⟩⟩
        · exact absurd (by rw [xChk_y (by omega), xTA_hi h0 wJ1]; exact h0) zJ38
      · refine v_if_eq ⟨by decide, by decide⟩ dX9_writes_25 (fun hb25 => ?_) (fun h => by exfalso; omega)
        refine v_iconst dX9_writes_32 ?_
        refine v_Vi (tX9_takesTop (⟨hTy, hYr⟩ : isY G y) hQ0 (σ := σ) h0 hf0 hkn hN wJ1 (P := (xTA σ).1 = 1 ∨ kRef (xTA σ).1) (by omega)) kX9_177 hTy rfl rfl ⟨by decide, by decide⟩ ⟨by decide, by decide⟩ (Nat.le_of_ble_eq_true rfl) dX9_writes_33 (fun r70 G9 J68 hr70 pJ68 rng69 => ?_)
        obtain ⟨hG9, oJ68, ⟨rfl, zJ68, fJ68, bJ68⟩ | ⟨rfl, zJ68, bJ68⟩⟩ := pJ68
        all_goals obtain rfl := hG9.symm
        · exact absurd zJ68 (by rw [xChk_n (by omega)]; exact xBrk_ne (by decide))
        · refine v_if_eq ⟨by decide, by decide⟩ dX9_writes_36 (fun hb36 => ?_) (fun h => by exfalso; omega)
          refine v_iconst dX9_writes_55 ?_
          have eF : xStoreE Q σ = xChk (xTA σ).2 ((xTA σ).1 = 1 ∨ kRef (xTA σ).1) 3 := by unfold xStoreE xSt1; simp only [xTake_st zJ68, xLay_st zJ68, xChk_st zJ68, xTA_st zJ68, xPut_st zJ68]
          rw [eF]
          exact v_zret rfl (by decide) (by decide) (Or.inl rfl) dX9_writes_56 ⟨rfl, oJ68, Or.inr ⟨rfl, zJ68, bJ68⟩⟩
  · refine v_if_ne ⟨by decide, by decide⟩ dX9_writes_5 (fun h => by exfalso; omega) (fun hb5 => ?_)
    refine v_iconst dX9_writes_8 ?_
    have eF : (xStoreE Q σ).1 = 2 := by have h9 : xTA σ = (0, (2, σ.2)) := xTA_lo h0 (by omega); have n9 : ¬ ((2 : Int), σ.2).1 = 0 := (by decide : ¬ (2 : Int) = 0); unfold xStoreE xSt1; rw [h9]; simp only [xChk_st n9, xTake_st n9, xTA_st n9]
    exact v_zret rfl (by decide) (by decide) (Or.inl rfl) dX9_writes_9 ⟨rfl, offT_28, Or.inr ⟨rfl, by rw [eF]; decide, by rw [eF, w_up_s]⟩⟩
