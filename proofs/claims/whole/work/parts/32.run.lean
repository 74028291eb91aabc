/-! ===== Worker.run ===== -/
theorem xSt0_v (κ : kS) : ∀ j i, (xSt0 κ j).1 i = (if i < j then (-1, (κ.1 i).2) else κ.1 i) ∧ (xSt0 κ j).2.1 i = (if i < j then 0 else κ.2.1 i)
  | 0, i => ⟨by rw [if_neg (by omega)]; rfl, by rw [if_neg (by omega)]; rfl⟩
  | j + 1, i => by
    obtain ⟨h1, h2⟩ := xSt0_v κ j i
    by_cases e : i = j
    · subst e
      rw [if_neg (by omega)] at h1
      refine ⟨?_, ?_⟩
      · show uF (xSt0 κ i).1 i (-1, ((xSt0 κ i).1 i).2) i = _
        rw [uF_s, h1, if_pos (by omega)]
      · show uL (xSt0 κ i).2.1 i 0 i = _
        rw [uL_s, if_pos (by omega)]
    · refine ⟨?_, ?_⟩
      · show uF (xSt0 κ j).1 j _ i = _
        rw [uF_n e, h1]
        by_cases q : i < j
        · rw [if_pos q, if_pos (by omega)]
        · rw [if_neg q, if_neg (by omega)]
      · show uL (xSt0 κ j).2.1 j 0 i = _
        rw [uL_n e, h2]
        by_cases q : i < j
        · rw [if_pos q, if_pos (by omega)]
        · rw [if_neg q, if_neg (by omega)]
theorem kI_start {π : mS} {κ : kS} {β : Nat → Int} (hn : ∀ i, i < 40 → nnF (κ.1 i)) (hβ : ∀ k, k < 8 → 0 ≤ β k) (h1 : 1 ≤ mN π) : kI π (xStart κ β) := by
  intro i hi
  obtain ⟨g1, g2⟩ := xSt0_v κ 40 i
  rw [if_pos hi] at g1 g2
  by_cases e : i = 0
  · subst e
    refine ⟨fun _ => ⟨by omega, ?_⟩, ?_⟩
    · show 0 ≤ (uF (xSt0 κ 40).1 0 (0, β, ((xSt0 κ 40).1 0).2.2) 0).1
      rw [uF_s]; exact Int.le_refl 0
    · show nnF (uF (xSt0 κ 40).1 0 (0, β, ((xSt0 κ 40).1 0).2.2) 0)
      rw [uF_s, g1]
      exact fun k hk => ⟨hβ k hk, (hn 0 hi k hk).2⟩
  · refine ⟨fun hw => ?_, ?_⟩
    · exfalso; apply hw
      show uL (xSt0 κ 40).2.1 0 1 i = 0
      rw [uL_n e]; exact g2
    · show nnF (uF (xSt0 κ 40).1 0 _ i)
      rw [uF_n e, g1]
      exact fun k hk => hn i hi k hk
theorem kI_hi {π : mS} {κ : kS} {d : Int} (h : kI π κ) : kI π (xHi κ d) := h
theorem xPass_kI {Q : cS} {π : mS} {κ : kS} {ρ : fS} {p : Nat} (hgd : gdOK Q π) (hops : opsOK Q π) (hp : p < mN π) (hp40 : p < 40) (h : kI π κ) (hd : 0 ≤ (κ.1 p).1) (hd8 : ((xHands Q π p (mNG π) 0 (xP0 κ p) ρ).2.1.1 p).1 ≤ 8) (hr : ∀ k, k < 8 → 0 ≤ ρ.2.2 k) : kI π (xPass Q π κ ρ p).2.1 ∧ ∀ k, k < 8 → 0 ≤ (xPass Q π κ ρ p).2.2.2.2 k := by
  have g := xHands_kI hgd hp40 (mNG π) 0 (xP0 κ p) ρ (by omega) (kI_P0 h) hr
  have t := xHands_there (Q := Q) (π := π) (p := p) (mNG π) 0 (xP0 κ p) ρ p hd
  unfold xPass
  split
  · exact g
  · split
    · exact g
    · have s := gS_perf (Q := Q) (π := π) (σ := (0, (xHands Q π p (mNG π) 0 (xP0 κ p) ρ).2.1.1 p)) ⟨(g.1 p hp40).2, t, hd8⟩ (hops p hp)
      exact ⟨kI_go (kI_hi g.1) s.1 s.2.1, g.2⟩
theorem wkOK.numB {I : w_Mm} {w : Nat} {κ : kS} {x y : Int} (h : wkOK I w κ) : wkOK (w_up (w_up I w 4 x) w 3 y) w κ := (h.num (f := 4) (κ' := κ) rfl rfl (Or.inr ⟨by decide, rfl⟩) (Or.inr ⟨by decide, rfl⟩)).num (f := 3) (κ' := κ) rfl rfl (Or.inr ⟨by decide, rfl⟩) (Or.inr ⟨by decide, rfl⟩)
theorem xMeet_ps {Q : cS} {κ : kS} {p : Nat} {ψ : fS} : (xMeet Q κ p ψ).2.2.2.1 = κ.2.2.1 := by
  unfold xMeet
  split
  · rfl
  · split <;> rfl
theorem xHands_ps {Q : cS} {π : mS} {p : Nat} : ∀ (j g : Nat) (κ : kS) (ρ : fS), (xHands Q π p j g κ ρ).2.1.2.2.1 = κ.2.2.1
  | 0, _, κ, ρ => rfl
  | j + 1, g, κ, ρ => by
    unfold xHands
    split
    · exact xHands_ps j (g + 1) κ ρ
    · split
      · rfl
      · split
        · exact (xHands_ps j (g + 1) _ _).trans xMeet_ps
        · exact xMeet_ps
theorem xNext_ps {Q : cS} {π : mS} {κ : kS} {p : Nat} {ψ : fS} : (xNext Q π κ ψ p).2.2.2.1 = κ.2.2.1 := by
  unfold xNext
  split
  · rfl
  · split
    · exact xMeet_ps
    · exact xMeet_ps
theorem xGo_ps {Q : cS} {π : mS} {κ : kS} {p : Nat} {ψ : fS} : (xGo Q π κ ψ p).2.2.2.1 = κ.2.2.1 := by
  unfold xGo
  split
  · rfl
  · split
    · split
      · rfl
      · split
        · split
          · exact xMeet_ps
          · exact xNext_ps.trans xMeet_ps
        · exact xMeet_ps
    · exact xNext_ps
theorem xPass_ps {Q : cS} {π : mS} {κ : kS} {ρ : fS} {p : Nat} : (xPass Q π κ ρ p).2.1.2.2.1 = κ.2.2.1 + 1 := by
  unfold xPass
  have h := xHands_ps (Q := Q) (π := π) (p := p) (mNG π) 0 (xP0 κ p) ρ
  split
  · exact h
  · split
    · exact h
    · exact xGo_ps.trans h
def offQ (I J : w_Mm) (v m : Nat) : Prop := ∀ a k, (a < v ∨ v + 8 ≤ a) → (a < m + 9 ∨ m + 132 ≤ a) → J a k = I a k
theorem tX7_run {E : w_E} {G : w_Sh} {I : w_Mm} {v q c m : Nat} {Q : cS} {π : mS} {κ : kS} {ρ : fS} (hV : isV G v q c) (hcv : c + 3 ≤ v) (hQ : clsOK I c Q) (hM : isM G m) (hπ : metOK I m π) (hvm : v + 8 ≤ m) (hκ : wkOK I (m + 9) κ) (hρ : frOK I (v + 1) ρ) (hnn : ∀ i, i < 40 → nnF (κ.1 i)) (hρn : ∀ k, k < 8 → 0 ≤ ρ.2.2 k) (hbn : ∀ k, k < 8 → 0 ≤ mBeg π k) (hn1 : 1 ≤ mN π) (hgd : gdOK Q π) (hops : opsOK Q π) : w_Ct E mX7_run 6 [.ref v, .ref m] G I 0 0 (w_Pv (fun G' J => G' = G ∧ wkOK J (m + 9) (xRun Q π 1000000 (xStart κ (mBeg π)) ρ).2.1 ∧ frOK J (v + 1) (xRun Q π 1000000 (xStart κ (mBeg π)) ρ).2.2 ∧ J (m + 9) 2 = 1 ∧ J (m + 9) 3 = (xRun Q π 1000000 (xStart κ (mBeg π)) ρ).1.1 ∧ J (m + 9) 4 = (xRun Q π 1000000 (xStart κ (mBeg π)) ρ).1.2 ∧ offQ I J v m)) := by
  have hV0 := hV
  obtain ⟨hTv, hRv0, hRv1, hRv2, hK, hFr, hSt⟩ := hV
  have hM0 := hM
  obtain ⟨hTm, hRm1, hRm3, hRm4, hRm5, hRm7, hRm8, hRm9, hRm10, hRm12, hTm1, hTm2, hTm3, hTm4, hTm5, hTm6, hTm7, hTm8, hWk⟩ := hM
  have hπ0 := hπ
  obtain ⟨hp0, hp2, hpA, hpB, hp6, hpn, hpo, hp11, hpg, hpG⟩ := hπ
  have hSt0 := hSt
  obtain ⟨hTs, hRs0, hRs1, hKs, hFs⟩ := hSt
  refine w_Ct.of (ls := [some (.ref v), some (.ref m), none, none, none, none]) (by decide +kernel) (Nat.le_of_ble_eq_true rfl) rfl rfl (fun rng => ?_)
  refine v_aload_n dX7_run_0 rfl ?_
  refine v_getR fX7_31 rfl hTm (by assumption) dX7_run_1 ?_
  refine v_astore_n dX7_run_4 (by decide) rfl ?_
  refine v_aload_n dX7_run_5 rfl ?_
  refine v_aload_n dX7_run_6 rfl ?_
  refine v_getR fX7_37 rfl hTm (by assumption) dX7_run_7 ?_
  refine v_Vv (tX6_startWith hWk hκ hTm1 (by omega) hpB) kX7_41 hWk.1 rfl rfl ⟨by decide, by decide⟩ ⟨by decide, by decide⟩ (Nat.le_of_ble_eq_true rfl) dX7_run_10 (fun G9 J1 pJ1 rng2 => ?_)
  obtain ⟨hG9, sJ1, dJ1, uJ1, bJ1, oJ1⟩ := pJ1
  obtain rfl := hG9.symm
  refine v_iconst dX7_run_13 ?_
  refine v_istore_n dX7_run_14 (by decide) rfl ?_
  have loop : ∀ (jj ps : Nat) (κ : kS) (ρ : fS) (J : w_Mm) (o4 o5 : Option Value), ps + jj = 1000000 → wkOK J (m + 9) κ → frOK J (v + 1) ρ → offQ I J v m → J (m + 9) 2 = 1 → J (m + 9) 3 = 0 → J (m + 9) 4 = -1 → kI π κ → κ.2.2.1 = (ps : Int) → (∀ k, k < 8 → 0 ≤ ρ.2.2 k) → (∀ a k, inR (J a k)) → ∀ T, T = xRun Q π jj κ ρ → w_V E mX7_run (w_rm 6 0 0) (w_Z E 0 0 (w_Pv (fun G' J => G' = G ∧ wkOK J (m + 9) T.2.1 ∧ frOK J (v + 1) T.2.2 ∧ J (m + 9) 2 = 1 ∧ J (m + 9) 3 = T.1.1 ∧ J (m + 9) 4 = T.1.2 ∧ offQ I J v m))) G J 0 0 15 [some (.ref v), some (.ref m), some (.ref (m + 9)), some (iv (ps : Int)), o4, o5] [] := by
    clear hκ hρ hρn hnn sJ1 dJ1 uJ1 bJ1 oJ1
    intro jj
    induction jj with
    | zero =>
      intro ps κ ρ J o4 o5 hps hκ hρ hO f2 f3 f4 hI hpass hρn rngJ T hT
      refine v_iload_n dX7_run_15 rfl ?_
      refine v_ldc (z := 1000000) kcX7_47 dX7_run_16 ?_
      refine v_icmp_ge ⟨by omega, by omega⟩ ⟨by decide, by decide⟩ dX7_run_18 (fun hb18 => ?_) (fun h => by exfalso; omega)
      subst hT
      exact v_vret rfl (by decide) (by decide) dX7_run_126 ⟨rfl, hκ, hρ, f2, f3, f4, hO⟩
    | succ jj ih =>
      intro ps κ ρ J o4 o5 hps hκ hρ hO f2 f3 f4 hI hpass hρn rngJ T hT
      have hwt : ∀ i, i < 40 → J (m + 9 + 2) i = κ.2.1 i := fun i hi => (hκ.2.1 i hi).1
      rcases leastW_spec κ.2.1 40 0 with ⟨hl, -⟩ | ⟨p, -, hp40, hl, hwp, -⟩
      · have hLW : w_Cm E mX6_leastWaiting 0 [.ref (m + 9)] G J (-1) J := by rw [← hl]; exact tX6_leastWaiting hWk hwt
        refine v_iload_n dX7_run_15 rfl ?_
        refine v_ldc (z := 1000000) kcX7_47 dX7_run_16 ?_
        refine v_icmp_ge ⟨by omega, by omega⟩ ⟨by decide, by decide⟩ dX7_run_18 (fun h => by exfalso; omega) (fun hb18 => ?_)
        refine v_aload_n dX7_run_21 rfl ?_
        refine v_VmN hLW kX7_48 hWk.1 rfl rfl ⟨by decide, by decide⟩ ⟨by decide, by decide⟩ (Nat.le_of_ble_eq_true rfl) dX7_run_22 (fun r er hr _ => ?_)
        subst er
        refine v_istore dX7_run_25 (by decide) rfl ?_
        refine v_iload dX7_run_27 rfl ?_
        refine v_iconst dX7_run_29 ?_
        refine v_icmp_ne ⟨by decide, by decide⟩ ⟨by decide, by decide⟩ dX7_run_30 (fun h => by exfalso; omega) (fun hb30 => ?_)
        rw [hT, xRun_s, if_pos hl]
        exact v_vret rfl (by decide) (by decide) dX7_run_33 ⟨rfl, hκ, hρ, f2, f3, f4, hO⟩
      · have hLW : w_Cm E mX6_leastWaiting 0 [.ref (m + 9)] G J ((p : Nat) : Int) J := by rw [← hl]; exact tX6_leastWaiting hWk hwt
        have hkp := (hI p (by omega)).1 hwp
        have hpN := hkp.1
        have hok := hops p hpN
        rw [xRun_s, if_neg (by rw [hl]; omega), hl, Int.toNat_natCast] at hT
        refine v_iload_n dX7_run_15 rfl ?_
        refine v_ldc (z := 1000000) kcX7_47 dX7_run_16 ?_
        refine v_icmp_ge ⟨by omega, by omega⟩ ⟨by decide, by decide⟩ dX7_run_18 (fun h => by exfalso; omega) (fun hb18 => ?_)
        refine v_aload_n dX7_run_21 rfl ?_
        refine v_VmN hLW kX7_48 hWk.1 rfl rfl ⟨by decide, by decide⟩ ⟨by decide, by decide⟩ (Nat.le_of_ble_eq_true rfl) dX7_run_22 (fun r er hr _ => ?_)
        subst er
        refine v_istore dX7_run_25 (by decide) rfl ?_
        refine v_iload dX7_run_27 rfl ?_
        refine v_iconst dX7_run_29 ?_
        refine v_icmp_ne ⟨by omega, by omega⟩ ⟨by decide, by decide⟩ dX7_run_30 (fun hb30 => ?_) (fun h => by exfalso; omega)
        refine v_aload_n dX7_run_34 rfl ?_
        refine v_getR fX7_52 rfl hWk.1 hWk.2.2.1 dX7_run_35 ?_
        refine v_iload dX7_run_38 rfl ?_
        refine v_iconst dX7_run_40 ?_
        refine v_zast (i := p) hWk.2.2.2.2.1 rfl (by omega) (by omega) (Or.inl rfl) dX7_run_41 ?_
        have rng1 := w_rng (a := m + 9 + 2) (f := p) rngJ (show inR (0) from ⟨by decide, by decide⟩)
        refine v_aload_n dX7_run_42 rfl ?_
        refine v_dup dX7_run_43 rfl ?_
        refine v_getI' (v := κ.2.2.1) (by rw [w_up_n (by omega), hκ.2.2.1]) fX7_56 rfl hWk.1 dX7_run_44 ?_
        refine v_iconst dX7_run_47 ?_
        refine v_iadd dX7_run_48 ?_
        refine v_putI fX7_56 p6_5 rfl ⟨by omega, by omega⟩ hWk.1 dX7_run_49 ?_
        have rng2 := w_rng (a := m + 9) (f := 5) rng1 (show inR ((κ.2.2.1 + 1)) from ⟨by omega, by omega⟩)
        have w1 := (wkOK.wait (p := p) (z := 0) hκ (Or.inl rfl))
        have w2 := w1.1.num (f := 5) (z := κ.2.2.1 + 1) (κ' := xP0 κ p) rfl rfl (Or.inl ⟨rfl, rfl⟩) (Or.inr ⟨by decide, rfl⟩)
        have oo : offR J (w_up (w_up J (m + 9 + 2) p 0) (m + 9) 5 (κ.2.2.1 + 1)) v m := ⟨fun a k h1 h2 => by rw [w_up_n (by omega), w_up_n (by omega)], fun k hk => by rw [w_up_n (by omega), w_up_n (by omega)]⟩
        have r0 : frOK (w_up (w_up J (m + 9 + 2) p 0) (m + 9) 5 (κ.2.2.1 + 1)) (v + 1) ρ := hρ.same (by rw [w_up_n (by omega), w_up_n (by omega)]) (fun k _ => by rw [w_up_n (by omega), w_up_n (by omega)]) (fun k _ => by rw [w_up_n (by omega), w_up_n (by omega)])
        generalize w_up (w_up J (m + 9 + 2) p 0) (m + 9) 5 (κ.2.2.1 + 1) = K at w2 oo r0 rng2 ⊢
        have OK : offQ I K v m := fun a k h1 h2 => (oo.1 a k h1 h2).trans (hO a k h1 h2)
        have k2 : K (m + 9) 2 = 1 ∧ K (m + 9) 3 = 0 ∧ K (m + 9) 4 = -1 := ⟨(oo.2 2 (by decide)).trans f2, (oo.2 3 (by decide)).trans f3, (oo.2 4 (by decide)).trans f4⟩
        have πK := hπ0.off (fun a k h1 h2 => OK a k (by omega) (by omega))
        have QK := hQ.off (fun k => ⟨OK _ _ (by omega) (by omega), OK _ _ (by omega) (by omega), OK _ _ (by omega) (by omega)⟩)
        refine v_aload_n dX7_run_52 rfl ?_
        refine v_aload_n dX7_run_53 rfl ?_
        refine v_iload dX7_run_54 rfl ?_
        refine v_Vi (tX7_meetHandlers hV0 hcv QK hM0 πK hvm w2 (kI_P0 hI) hpN hkp.2 r0 hρn hgd) kX7_60 (by assumption) rfl rfl ⟨by decide, by decide⟩ ⟨by decide, by decide⟩ (Nat.le_of_ble_eq_true rfl) dX7_run_56 (fun r5 G9 J3 hr5 pJ3 rng4 => ?_)
        obtain ⟨rfl, rfl, sJ3, tJ3, oJ3⟩ := pJ3
        have PJ3 := πK.R hvm oJ3
        have QJ3 := QK.R hcv hvm oJ3
        have th := xHands_there (Q := Q) (π := π) (p := p) (mNG π) 0 (xP0 κ p) ρ p hkp.2
        have kh := xHands_kI hgd (by omega) (mNG π) 0 (xP0 κ p) ρ (by omega) (kI_P0 hI) hρn
        refine v_istore dX7_run_59 (by decide) rfl ?_
        refine v_iload dX7_run_61 rfl ?_
        refine v_if_ne hr5 dX7_run_63 (fun h6 => ?_) (fun h6 => ?_)
        · refine v_iload dX7_run_78 rfl ?_
          refine v_if_ne hr5 dX7_run_80 (fun hb80 => ?_) (fun h => by exfalso; omega)
          refine v_iload dX7_run_106 rfl ?_
          refine v_if_eq hr5 dX7_run_108 (fun h => by exfalso; omega) (fun hb108 => ?_)
          refine v_aload_n dX7_run_111 rfl ?_
          refine v_iload dX7_run_112 rfl ?_
          refine v_iload dX7_run_114 rfl ?_
          refine v_Vn (tX6_breakAt hWk ⟨by omega, by omega⟩ hr5) kX7_80 hWk.1 rfl rfl ⟨by decide, by decide⟩ ⟨by decide, by decide⟩ (Nat.le_of_ble_eq_true rfl) dX7_run_116 (fun rng7 => ?_)
          have eP : xPass Q π κ ρ p = (xHands Q π p (mNG π) 0 (xP0 κ p) ρ) := by unfold xPass; rw [if_pos h6]
          rw [eP, if_neg hb108] at hT
          subst hT
          refine v_vret rfl (by decide) (by decide) dX7_run_119 ⟨rfl, sJ3.numB, tJ3.same (by rw [w_up_n (by omega), w_up_n (by omega)]) (fun k _ => by rw [w_up_n (by omega), w_up_n (by omega)]) (fun k _ => by rw [w_up_n (by omega), w_up_n (by omega)]), ?_, w_up_s, ?_, fun a k h1 h2 => ?_⟩
          · rw [w_up_n (by omega), w_up_n (by omega)]; exact (oJ3.2 2 (by decide)).trans k2.1
          · rw [w_up_n (by omega), w_up_s]
          · rw [w_up_n (by omega), w_up_n (by omega)]; exact (oJ3.1 a k h1 h2).trans (OK a k h1 h2)
        · refine v_aload_n dX7_run_66 rfl ?_
          refine v_getR fX7_27 rfl (by assumption) (by assumption) dX7_run_67 ?_
          refine v_aload_n dX7_run_70 rfl ?_
          refine v_iload dX7_run_71 rfl ?_
          refine v_Vi (tX5_perform hSt0 (by omega) QJ3 hM0 PJ3 (by omega) hpN hok (sJ3.1 p (by omega)) th (fun k hk => Int.le_trans (by decide) ((kh.1 p (by omega)).2 k hk).2)) kX7_64 hTs rfl rfl ⟨by decide, by decide⟩ ⟨by decide, by decide⟩ (Nat.le_of_ble_eq_true rfl) dX7_run_73 (fun r10 G9 J8 hr10 pJ8 rng9 => ?_)
          obtain ⟨rfl, rfl, sJ8, oJ8⟩ := pJ8
          have RJ8 := (oJ8).R hvm
          have WJ8 := sJ3.off (fun a k h1 h2 => oJ8 a k (by omega) (by omega) (by omega) (by omega))
          have tJ8 := tJ3.same (oJ8 _ _ (by omega) (by omega) (by omega) (by omega)) (fun k _ => oJ8 _ _ (by omega) (by omega) (by omega) (by omega)) (fun k _ => oJ8 _ _ (by omega) (by omega) (by omega) (by omega))
          refine v_istore dX7_run_76 (by decide) rfl ?_
          refine v_iload dX7_run_78 rfl ?_
          refine v_if_ne hr10 dX7_run_80 (fun h11 => ?_) (fun h11 => ?_)
          · refine v_iload dX7_run_106 rfl ?_
            refine v_if_eq hr10 dX7_run_108 (fun h => by exfalso; omega) (fun hb108 => ?_)
            refine v_aload_n dX7_run_111 rfl ?_
            refine v_iload dX7_run_112 rfl ?_
            refine v_iload dX7_run_114 rfl ?_
            refine v_Vn (tX6_breakAt hWk ⟨by omega, by omega⟩ hr10) kX7_80 hWk.1 rfl rfl ⟨by decide, by decide⟩ ⟨by decide, by decide⟩ (Nat.le_of_ble_eq_true rfl) dX7_run_116 (fun rng12 => ?_)
            have eP : xPass Q π κ ρ p = ((xPerf Q π (0, (xHands Q π p (mNG π) 0 (xP0 κ p) ρ).2.1.1 p) p).1, (xHands Q π p (mNG π) 0 (xP0 κ p) ρ).2) := by unfold xPass; rw [if_neg (fun q => q h6), if_pos h11]
            rw [eP, if_neg hb108] at hT
            subst hT
            refine v_vret rfl (by decide) (by decide) dX7_run_119 ⟨rfl, WJ8.numB, tJ8.same (by rw [w_up_n (by omega), w_up_n (by omega)]) (fun k _ => by rw [w_up_n (by omega), w_up_n (by omega)]) (fun k _ => by rw [w_up_n (by omega), w_up_n (by omega)]), ?_, w_up_s, ?_, fun a k h1 h2 => ?_⟩
            · rw [w_up_n (by omega), w_up_n (by omega)]; exact ((oJ3.tr RJ8).2 2 (by decide)).trans k2.1
            · rw [w_up_n (by omega), w_up_s]
            · rw [w_up_n (by omega), w_up_n (by omega)]; exact ((oJ3.tr RJ8).1 a k h1 h2).trans (OK a k h1 h2)
          · refine v_aload_n dX7_run_83 rfl ?_
            refine v_aload_n dX7_run_84 rfl ?_
            refine v_getR fX7_27 rfl (by assumption) (by assumption) dX7_run_85 ?_
            refine v_getR fX7_67 rfl hTs hRs1 dX7_run_88 ?_
            refine v_getI' (v := (xPerf Q π (0, (xHands Q π p (mNG π) 0 (xP0 κ p) ρ).2.1.1 p) p).2.1) sJ8.2.1.1 fX7_70 rfl hFs.1 dX7_run_91 ?_
            refine v_Vn (tX6_note hWk WJ8.2.2.2 (by rw [← sJ8.2.1.1]; exact rng9 _ _)) kX7_73 hWk.1 rfl rfl ⟨by decide, by decide⟩ ⟨by decide, by decide⟩ (Nat.le_of_ble_eq_true rfl) dX7_run_94 (fun rng13 => ?_)
            have w3 := WJ8.num (f := 6) (κ' := xHi (xHands Q π p (mNG π) 0 (xP0 κ p) ρ).2.1 (xPerf Q π (0, (xHands Q π p (mNG π) 0 (xP0 κ p) ρ).2.1.1 p) p).2.1) (z := (if (xHands Q π p (mNG π) 0 (xP0 κ p) ρ).2.1.2.2.2 < (xPerf Q π (0, (xHands Q π p (mNG π) 0 (xP0 κ p) ρ).2.1.1 p) p).2.1 then (xPerf Q π (0, (xHands Q π p (mNG π) 0 (xP0 κ p) ρ).2.1.1 p) p).2.1 else (xHands Q π p (mNG π) 0 (xP0 κ p) ρ).2.1.2.2.2)) rfl rfl (Or.inr ⟨by decide, rfl⟩) (Or.inl ⟨rfl, rfl⟩)
            have o3 : ∀ a k, ¬ (a = m + 9 ∧ k = 6) → (w_up J8 (m + 9) 6 (if (xHands Q π p (mNG π) 0 (xP0 κ p) ρ).2.1.2.2.2 < (xPerf Q π (0, (xHands Q π p (mNG π) 0 (xP0 κ p) ρ).2.1.1 p) p).2.1 then (xPerf Q π (0, (xHands Q π p (mNG π) 0 (xP0 κ p) ρ).2.1.1 p) p).2.1 else (xHands Q π p (mNG π) 0 (xP0 κ p) ρ).2.1.2.2.2)) a k = J8 a k := fun a k h => w_up_n h
            generalize w_up J8 (m + 9) 6 (if (xHands Q π p (mNG π) 0 (xP0 κ p) ρ).2.1.2.2.2 < (xPerf Q π (0, (xHands Q π p (mNG π) 0 (xP0 κ p) ρ).2.1.1 p) p).2.1 then (xPerf Q π (0, (xHands Q π p (mNG π) 0 (xP0 κ p) ρ).2.1.1 p) p).2.1 else (xHands Q π p (mNG π) 0 (xP0 κ p) ρ).2.1.2.2.2) = K3 at w3 o3 rng13 ⊢
            have s3 : stOK K3 (v + 4) (xPerf Q π (0, (xHands Q π p (mNG π) 0 (xP0 κ p) ρ).2.1.1 p) p) := ⟨(o3 _ _ (by omega)).trans sJ8.1, sJ8.2.1.same (o3 _ _ (by omega)) (fun k _ => o3 _ _ (by omega)) (fun k _ => o3 _ _ (by omega)), sJ8.2.2⟩
            have t3 := tJ8.same (o3 _ _ (by omega)) (fun k _ => o3 _ _ (by omega)) (fun k _ => o3 _ _ (by omega))
            have O3 : offR K K3 v m := (oJ3.tr RJ8).tr ⟨fun a k h1 h2 => o3 a k (by omega), fun k hk => o3 _ k (by omega)⟩
            have P3 := πK.R hvm O3
            have Q3 := QK.R hcv hvm O3
            refine v_aload_n dX7_run_97 rfl ?_
            refine v_aload_n dX7_run_98 rfl ?_
            refine v_iload dX7_run_99 rfl ?_
            refine v_Vi (tX7_goOn hV0 hcv Q3 hM0 P3 hvm s3 hpN w3) kX7_77 (by assumption) rfl rfl ⟨by decide, by decide⟩ ⟨by decide, by decide⟩ (Nat.le_of_ble_eq_true rfl) dX7_run_101 (fun r16 G9 J14 hr16 pJ14 rng15 => ?_)
            obtain ⟨rfl, rfl, sJ14, oJ14⟩ := pJ14
            have O4 := O3.tr (oJ14.R (v := v))
            have t4 := t3.same (oJ14.1 _ _ (by omega)) (fun k _ => oJ14.1 _ _ (by omega)) (fun k _ => oJ14.1 _ _ (by omega))
            refine v_istore dX7_run_104 (by decide) rfl ?_
            refine v_iload dX7_run_106 rfl ?_
            refine v_if_eq hr16 dX7_run_108 (fun h17 => ?_) (fun h17 => ?_)
            · refine v_iinc dX7_run_120 rfl (by decide) rfl rfl ?_
              refine v_goto dX7_run_123 ?_
              have eP : xPass Q π κ ρ p = ((xGo Q π (xHi (xHands Q π p (mNG π) 0 (xP0 κ p) ρ).2.1 (xPerf Q π (0, (xHands Q π p (mNG π) 0 (xP0 κ p) ρ).2.1.1 p) p).2.1) (xPerf Q π (0, (xHands Q π p (mNG π) 0 (xP0 κ p) ρ).2.1.1 p) p).2 p).1, (xGo Q π (xHi (xHands Q π p (mNG π) 0 (xP0 κ p) ρ).2.1 (xPerf Q π (0, (xHands Q π p (mNG π) 0 (xP0 κ p) ρ).2.1.1 p) p).2.1) (xPerf Q π (0, (xHands Q π p (mNG π) 0 (xP0 κ p) ρ).2.1.1 p) p).2 p).2, (xHands Q π p (mNG π) 0 (xP0 κ p) ρ).2.2) := by unfold xPass; rw [if_neg (fun q => q h6), if_neg (fun q => q h11)]
              rw [eP, if_pos h17] at hT
              have kP := xPass_kI hgd hops hpN (by omega) hI hkp.2 (sJ3.1 p (by omega)).2.2.2.2 hρn
              have kQ := xPass_ps (Q := Q) (π := π) (κ := κ) (ρ := ρ) (p := p)
              rw [eP] at kP kQ
              exact ih (ps + 1) _ _ _ _ _ (by omega) sJ14 t4 (fun a k h1 h2 => (O4.1 a k h1 h2).trans (OK a k h1 h2)) ((O4.2 2 (by decide)).trans k2.1) ((O4.2 3 (by decide)).trans k2.2.1) ((O4.2 4 (by decide)).trans k2.2.2) kP.1 (kQ.trans (by omega)) kP.2 rng15 T hT
            · refine v_aload_n dX7_run_111 rfl ?_
              refine v_iload dX7_run_112 rfl ?_
              refine v_iload dX7_run_114 rfl ?_
              refine v_Vn (tX6_breakAt hWk ⟨by omega, by omega⟩ hr16) kX7_80 hWk.1 rfl rfl ⟨by decide, by decide⟩ ⟨by decide, by decide⟩ (Nat.le_of_ble_eq_true rfl) dX7_run_116 (fun rng18 => ?_)
              have eP : xPass Q π κ ρ p = ((xGo Q π (xHi (xHands Q π p (mNG π) 0 (xP0 κ p) ρ).2.1 (xPerf Q π (0, (xHands Q π p (mNG π) 0 (xP0 κ p) ρ).2.1.1 p) p).2.1) (xPerf Q π (0, (xHands Q π p (mNG π) 0 (xP0 κ p) ρ).2.1.1 p) p).2 p).1, (xGo Q π (xHi (xHands Q π p (mNG π) 0 (xP0 κ p) ρ).2.1 (xPerf Q π (0, (xHands Q π p (mNG π) 0 (xP0 κ p) ρ).2.1.1 p) p).2.1) (xPerf Q π (0, (xHands Q π p (mNG π) 0 (xP0 κ p) ρ).2.1.1 p) p).2 p).2, (xHands Q π p (mNG π) 0 (xP0 κ p) ρ).2.2) := by unfold xPass; rw [if_neg (fun q => q h6), if_neg (fun q => q h11)]
              rw [eP, if_neg h17] at hT
              subst hT
              refine v_vret rfl (by decide) (by decide) dX7_run_119 ⟨rfl, sJ14.numB, t4.same (by rw [w_up_n (by omega), w_up_n (by omega)]) (fun k _ => by rw [w_up_n (by omega), w_up_n (by omega)]) (fun k _ => by rw [w_up_n (by omega), w_up_n (by omega)]), ?_, w_up_s, ?_, fun a k h1 h2 => ?_⟩
              · rw [w_up_n (by omega), w_up_n (by omega)]; exact (O4.2 2 (by decide)).trans k2.1
              · rw [w_up_n (by omega), w_up_s]
              · rw [w_up_n (by omega), w_up_n (by omega)]; exact (O4.1 a k h1 h2).trans (OK a k h1 h2)
  exact loop 1000000 0 _ ρ _ _ _ (by omega) sJ1 (hρ.same (oJ1 _ _ (by omega)) (fun k _ => oJ1 _ _ (by omega)) (fun k _ => oJ1 _ _ (by omega))) (fun a k h1 h2 => oJ1 a k (by omega)) dJ1 uJ1 bJ1 (kI_start hnn hbn hn1) rfl hρn rng2 _ rfl
