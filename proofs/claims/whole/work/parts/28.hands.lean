/-! ===== what is never below 0; handlers ===== -/
def nnF (φ : fS) : Prop := ∀ k, k < 8 → 0 ≤ φ.2.1 k ∧ 0 ≤ φ.2.2 k
def kI (π : mS) (κ : kS) : Prop := ∀ i, i < 40 → (¬ κ.2.1 i = 0 → i < mN π ∧ 0 ≤ (κ.1 i).1) ∧ nnF (κ.1 i)
theorem nearC_nn {Q : cS} {x y : Int} : 0 ≤ nearC Q x y := by
  unfold nearC
  split
  · omega
  · decide
theorem joinK_nn {Q : cS} {k l : Int} (hk : 0 ≤ k) (hl : 0 ≤ l) : 0 ≤ joinK Q k l := by
  unfold joinK
  have h1 := nearC_nn (Q := Q) (x := k - 10) (y := l - 10)
  have h2 := nearC_nn (Q := Q) (x := k - 40) (y := l - 40)
  split
  · exact hk
  · split
    · decide
    · split
      · exact hl
      · split
        · exact hk
        · split
          · omega
          · split <;> omega
theorem nnF_mrg {Q : cS} {φ ψ : fS} (h : nnF φ) (g : nnF ψ) : nnF (mrgF Q φ ψ) := fun k hk => by
  refine ⟨joinK_nn (h k hk).1 (g k hk).1, ?_⟩
  show 0 ≤ if (k : Int) < φ.1 then joinK Q (φ.2.2 k) (ψ.2.2 k) else φ.2.2 k
  split
  · exact joinK_nn (h k hk).2 (g k hk).2
  · exact (h k hk).2
theorem nnF_rais {φ : fS} {P : Nat → Int} {kd : Int} (h : nnF φ) (hP : ∀ k, k < 8 → 0 ≤ P k) (hk : 0 ≤ kd) : nnF (raisF φ P kd) := fun k hk8 => by
  refine ⟨?_, ?_⟩
  · show 0 ≤ if 100 ≤ φ.2.1 k then 0 else φ.2.1 k
    split
    · decide
    · exact (h k hk8).1
  · show 0 ≤ uL P 0 kd k
    unfold uL
    split
    · exact hk
    · exact hP k hk8
theorem uF_s {fr : Nat → fS} {p : Nat} {φ : fS} : uF fr p φ p = φ := by simp [uF]
theorem uF_n {fr : Nat → fS} {p i : Nat} {φ : fS} (h : i ≠ p) : uF fr p φ i = fr i := by simp [uF, h]
theorem uL_s {L : Nat → Int} {p : Nat} {z : Int} : uL L p z p = z := by simp [uL]
theorem uL_n {L : Nat → Int} {p i : Nat} {z : Int} (h : i ≠ p) : uL L p z i = L i := by simp [uL, h]
/-- after a meeting: who has a frame keeps one -/
theorem xMeet_there {Q : cS} {κ : kS} {p : Nat} {ψ : fS} (hψ : 0 ≤ ψ.1) (i : Nat) (h : 0 ≤ (κ.1 i).1) : 0 ≤ ((xMeet Q κ p ψ).2.1 i).1 := by
  unfold xMeet
  split
  · show 0 ≤ (uF κ.1 p ψ i).1
    by_cases e : i = p
    · subst e; rw [uF_s]; exact hψ
    · rw [uF_n e]; exact h
  · split
    · show 0 ≤ (uF κ.1 p (mrgF Q (κ.1 p) ψ) i).1
      by_cases e : i = p
      · subst e; rw [uF_s]; exact h
      · rw [uF_n e]; exact h
    · exact h
theorem kI_meet {Q : cS} {π : mS} {κ : kS} {p : Nat} {ψ : fS} (h : kI π κ) (hp : p < mN π) (hψ : nnF ψ) (hd : 0 ≤ ψ.1) : kI π (xMeet Q κ p ψ).2 := by
  intro i hi
  obtain ⟨h1, h2⟩ := h i hi
  unfold xMeet
  split
  · show (¬ uL κ.2.1 p 1 i = 0 → i < mN π ∧ 0 ≤ (uF κ.1 p ψ i).1) ∧ nnF (uF κ.1 p ψ i)
    by_cases e : i = p
    · subst e; rw [uF_s]; exact ⟨fun _ => ⟨hp, hd⟩, hψ⟩
    · rw [uF_n e, uL_n e]; exact ⟨h1, h2⟩
  · rename_i hn
    split
    · show (¬ (if chgB Q (κ.1 p) ψ = true then uL κ.2.1 p 1 else κ.2.1) i = 0 → i < mN π ∧ 0 ≤ (uF κ.1 p (mrgF Q (κ.1 p) ψ) i).1) ∧ nnF (uF κ.1 p (mrgF Q (κ.1 p) ψ) i)
      by_cases e : i = p
      · subst e; rw [uF_s]
        exact ⟨fun _ => ⟨hp, show 0 ≤ (κ.1 i).1 by omega⟩, nnF_mrg h2 hψ⟩
      · rw [uF_n e]
        refine ⟨fun hw => ?_, h2⟩
        split at hw
        · rw [uL_n e] at hw; exact h1 hw
        · exact h1 hw
    · exact ⟨h1, h2⟩
def xHands (Q : cS) (π : mS) (p : Nat) : Nat → Nat → kS → fS → Int × kS × fS
  | 0, _, κ, ρ => (0, κ, ρ)
  | j + 1, g, κ, ρ => if ¬ (mGf π g ≤ (p : Int) ∧ (p : Int) < mGt π g) then xHands Q π p j (g + 1) κ ρ else if ¬ (0 ≤ mGh π g ∧ mGh π g < (mN π : Int)) then (6, κ, ρ)
    else if (xMeet Q κ (mGh π g).toNat (raisF (κ.1 p) ρ.2.2 (10 + mGc π g))).1 = true then xHands Q π p j (g + 1) (xMeet Q κ (mGh π g).toNat (raisF (κ.1 p) ρ.2.2 (10 + mGc π g))).2 (raisF (κ.1 p) ρ.2.2 (10 + mGc π g)) else (8, (xMeet Q κ (mGh π g).toNat (raisF (κ.1 p) ρ.2.2 (10 + mGc π g))).2, raisF (κ.1 p) ρ.2.2 (10 + mGc π g))
/-- nothing but the worker's own block and the method's work has changed -/
def offR (I J : w_Mm) (v m : Nat) : Prop := (∀ a k, (a < v ∨ v + 8 ≤ a) → (a < m + 9 ∨ m + 132 ≤ a) → J a k = I a k) ∧ ∀ k, k < 5 → J (m + 9) k = I (m + 9) k
theorem offR.rf {I : w_Mm} {v m : Nat} : offR I I v m := ⟨fun _ _ _ _ => rfl, fun _ _ => rfl⟩
theorem offR.tr {I J K : w_Mm} {v m : Nat} (h : offR I J v m) (g : offR J K v m) : offR I K v m := ⟨fun a k h1 h2 => (g.1 a k h1 h2).trans (h.1 a k h1 h2), fun k hk => (g.2 k hk).trans (h.2 k hk)⟩
theorem offW.R {I J : w_Mm} {v m : Nat} (h : offW I J (m + 9)) : offR I J v m := ⟨fun a k _ h2 => h.1 a k (by omega), h.2⟩
theorem offF.R {I J : w_Mm} {v m f : Nat} (h : offF I J f) (hf : v ≤ f ∧ f + 3 ≤ v + 8) (hvm : v + 8 ≤ m) : offR I J v m := ⟨fun a k h1 h2 => h a k (by omega) (by omega) (by omega), fun k hk => h _ _ (by omega) (by omega) (by omega)⟩
theorem offS.R {I J : w_Mm} {v m : Nat} (h : offS I J (v + 4)) (hvm : v + 8 ≤ m) : offR I J v m := ⟨fun a k h1 h2 => h a k (by omega) (by omega) (by omega) (by omega), fun k hk => h _ _ (by omega) (by omega) (by omega) (by omega)⟩
theorem metOK.R {I J : w_Mm} {v m : Nat} {π : mS} (h : metOK I m π) (hvm : v + 8 ≤ m) (ho : offR I J v m) : metOK J m π := h.off (fun a k h1 h2 => ho.1 a k (by omega) (by omega))
theorem clsOK.R {I J : w_Mm} {v m c : Nat} {Q : cS} (h : clsOK I c Q) (hcv : c + 3 ≤ v) (hvm : v + 8 ≤ m) (ho : offR I J v m) : clsOK J c Q := h.off (fun k => ⟨ho.1 _ _ (by omega) (by omega), ho.1 _ _ (by omega) (by omega), ho.1 _ _ (by omega) (by omega)⟩)
theorem wkOK.off {I J : w_Mm} {w : Nat} {κ : kS} (h : wkOK I w κ) (ho : ∀ a k, w ≤ a → a < w + 123 → J a k = I a k) : wkOK J w κ :=
  ⟨fun i hi => (h.1 i hi).same (ho _ _ (by omega) (by omega)) (fun k _ => ho _ _ (by omega) (by omega)) (fun k _ => ho _ _ (by omega) (by omega)), fun i hi => ⟨(ho _ _ (by omega) (by omega)).trans (h.2.1 i hi).1, (h.2.1 i hi).2⟩, (ho _ _ (by omega) (by omega)).trans h.2.2.1, (ho _ _ (by omega) (by omega)).trans h.2.2.2⟩
/-- what guard() has let in -/
def gdOK (Q : cS) (π : mS) : Prop := ∀ g, g < mNG π → 0 ≤ mGh π g ∧ mGh π g < 40 ∧ hasC Q (mGc π g)
theorem tX7_meetHandlers {E : w_E} {G : w_Sh} {I : w_Mm} {v q c m : Nat} {Q : cS} {π : mS} {κ : kS} (hV : isV G v q c) (hcv : c + 3 ≤ v) (hQ : clsOK I c Q) (hM : isM G m) (hπ : metOK I m π) (hvm : v + 8 ≤ m) (hκ : wkOK I (m + 9) κ) (hI : kI π κ) {p : Nat} (hp : p < mN π) (hd : 0 ≤ (κ.1 p).1) {ρ : fS} (hρ : frOK I (v + 1) ρ) (hρn : ∀ k, k < 8 → 0 ≤ ρ.2.2 k) (hgd : gdOK Q π) : w_Ct E mX7_meetHandlers 4 [.ref v, .ref m, iv (p : Int)] G I 0 0 (w_Pi (fun r G' J => G' = G ∧ r = (xHands Q π p (mNG π) 0 κ ρ).1 ∧ wkOK J (m + 9) (xHands Q π p (mNG π) 0 κ ρ).2.1 ∧ frOK J (v + 1) (xHands Q π p (mNG π) 0 κ ρ).2.2 ∧ offR I J v m)) := by
  have hV0 := hV
  obtain ⟨hTv, hRv0, hRv1, hRv2, hK, hFr, hSt⟩ := hV
  have hM0 := hM
  obtain ⟨hTm, hRm1, hRm3, hRm4, hRm5, hRm7, hRm8, hRm9, hRm10, hRm12, hTm1, hTm2, hTm3, hTm4, hTm5, hTm6, hTm7, hTm8, hWk⟩ := hM
  have hπ0 := hπ
  have hpn := hπ.2.2.2.2.2.1
  have hpg := hπ.2.2.2.2.2.2.2.2.1
  have hn16 := hQ.2.2.1
  have hW6 := hWk.2.2.2.2.2 p (by omega)
  refine w_Ct.of (ls := [some (.ref v), some (.ref m), some (iv (p : Int)), none]) (by decide +kernel) (Nat.le_of_ble_eq_true rfl) rfl rfl (fun rng => ?_)
  refine v_iconst dX7_meetHandlers_0 ?_
  refine v_istore_n dX7_meetHandlers_1 (by decide) rfl ?_
  have loop : ∀ (mm g : Nat) (κ : kS) (ρ : fS) (J : w_Mm), g + mm = mNG π → wkOK J (m + 9) κ → frOK J (v + 1) ρ → offR I J v m → kI π κ → 0 ≤ (κ.1 p).1 → (∀ k, k < 8 → 0 ≤ ρ.2.2 k) → (∀ a k, inR (J a k)) → ∀ T, T = xHands Q π p mm g κ ρ → w_V E mX7_meetHandlers (w_rm 4 0 0) (w_Z E 0 0 (w_Pi (fun r G' J => G' = G ∧ r = T.1 ∧ wkOK J (m + 9) T.2.1 ∧ frOK J (v + 1) T.2.2 ∧ offR I J v m))) G J 0 0 2 [some (.ref v), some (.ref m), some (iv (p : Int)), some (iv (g : Int))] [] := by
    intro mm
    induction mm with
    | zero =>
      intro g κ ρ J hg hκ hρ hO hI hd hρn rngJ T hT
      have hπJ := hπ0.R hvm hO
      have hQJ := hQ.R hcv hvm hO
      obtain ⟨hp0, hp2, hpA, hpB, hp6, -, hpo, hp11, -, hpG⟩ := hπJ
      have hπJ := hπ0.R hvm hO
      refine v_iload_n dX7_meetHandlers_2 rfl ?_
      refine v_aload_n dX7_meetHandlers_3 rfl ?_
      refine v_getI' (v := ((mNG π : Nat) : Int)) hp11 fX7_84 rfl hTm dX7_meetHandlers_4 ?_
      refine v_icmp_ge ⟨by omega, by omega⟩ ⟨by omega, by omega⟩ dX7_meetHandlers_7 (fun hb7 => ?_) (fun h => by exfalso; omega)
      refine v_iconst dX7_meetHandlers_93 ?_
      subst hT
      exact v_iret rfl (by decide) (by decide) ⟨by decide, by decide⟩ dX7_meetHandlers_94 ⟨rfl, rfl, hκ, hρ, hO⟩
    | succ mm ih =>
      intro g κ ρ J hg hκ hρ hO hI hd hρn rngJ T hT
      have hπJ := hπ0.R hvm hO
      have hQJ := hQ.R hcv hvm hO
      obtain ⟨hp0, hp2, hpA, hpB, hp6, -, hpo, hp11, -, hpG⟩ := hπJ
      have hπJ := hπ0.R hvm hO
      have hgg := hgd g (by omega)
      have hnF := (hI p (by omega)).2
      have hfp := hκ.1 p (by omega)
      refine v_iload_n dX7_meetHandlers_2 rfl ?_
      refine v_aload_n dX7_meetHandlers_3 rfl ?_
      refine v_getI' (v := ((mNG π : Nat) : Int)) hp11 fX7_84 rfl hTm dX7_meetHandlers_4 ?_
      refine v_icmp_ge ⟨by omega, by omega⟩ ⟨by omega, by omega⟩ dX7_meetHandlers_7 (fun h => by exfalso; omega) (fun hb7 => ?_)
      refine v_aload_n dX7_meetHandlers_10 rfl ?_
      refine v_iload_n dX7_meetHandlers_11 rfl ?_
      refine v_iload_n dX7_meetHandlers_12 rfl ?_
      refine v_Vb (tX4_isGuarded hM0 hπJ ⟨by omega, by omega⟩ (g := g) (by omega)) kX7_87 hTm rfl rfl ⟨by decide, by decide⟩ ⟨by decide, by decide⟩ (Nat.le_of_ble_eq_true rfl) dX7_meetHandlers_13 (fun h1 => ?_) (fun h1 => ?_)
      · refine v_if_ne ⟨by decide, by decide⟩ dX7_meetHandlers_16 (fun hb16 => ?_) (fun h => by exfalso; omega)
        refine v_aload_n dX7_meetHandlers_22 rfl ?_
        refine v_aload_n dX7_meetHandlers_23 rfl ?_
        refine v_getR fX7_91 rfl hTm (by assumption) dX7_meetHandlers_24 ?_
        refine v_iload_n dX7_meetHandlers_27 rfl ?_
        refine v_iald' (i := g) (v := mGh π (g)) (hpG (g) (by omega)).2.2.1 (by assumption) rfl (by omega) (by omega) dX7_meetHandlers_28 ?_
        refine v_Vb (tX4_hasPlace hM0 hπJ (by rw [← (hpG (g) (by omega)).2.2.1]; exact rngJ _ _)) kX7_94 hTm rfl rfl ⟨by decide, by decide⟩ ⟨by decide, by decide⟩ (Nat.le_of_ble_eq_true rfl) dX7_meetHandlers_29 (fun h2 => ?_) (fun h2 => ?_)
        · refine v_if_ne ⟨by decide, by decide⟩ dX7_meetHandlers_32 (fun hb32 => ?_) (fun h => by exfalso; omega)
          refine v_aload_n dX7_meetHandlers_38 rfl ?_
          refine v_getR fX7_12 rfl (by assumption) (by assumption) dX7_meetHandlers_39 ?_
          refine v_aload_n dX7_meetHandlers_42 rfl ?_
          refine v_getR fX7_31 rfl hTm (by assumption) dX7_meetHandlers_43 ?_
          refine v_getR fX7_98 rfl hWk.1 hWk.2.1 dX7_meetHandlers_46 ?_
          refine v_iload_n dX7_meetHandlers_49 rfl ?_
          refine v_aaldF (i := p) hWk.2.2.2.1 hW6.1 rfl (by omega) (by omega) dX7_meetHandlers_50 ?_
          refine v_bipush dX7_meetHandlers_51 (by decide) ?_
          refine v_aload_n dX7_meetHandlers_53 rfl ?_
          refine v_getR fX7_102 rfl hTm (by assumption) dX7_meetHandlers_54 ?_
          refine v_iload_n dX7_meetHandlers_57 rfl ?_
          refine v_iald' (i := g) (v := mGc π (g)) (hpG (g) (by omega)).2.2.2 (by assumption) rfl (by omega) (by omega) dX7_meetHandlers_58 ?_
          refine v_iadd dX7_meetHandlers_59 ?_
          refine v_Vv (tX2_becomeRaised hFr hρ hW6.2 hfp (by omega) ⟨by omega, by omega⟩) kX7_105 hFr.1 rfl rfl ⟨by decide, by decide⟩ ⟨by decide, by decide⟩ (Nat.le_of_ble_eq_true rfl) dX7_meetHandlers_60 (fun G9 J3 pJ3 rng4 => ?_)
          obtain ⟨rfl, fJ3, oJ3⟩ := pJ3
          have OJ3 := hO.tr ((oJ3).R ⟨by omega, by omega⟩ hvm)
          have WJ3 := hκ.off (fun a k h1 h2 => oJ3 a k (by omega) (by omega) (by omega))
          have QJ3 := hQ.R hcv hvm OJ3
          refine v_aload_n dX7_meetHandlers_63 rfl ?_
          refine v_aload_n dX7_meetHandlers_64 rfl ?_
          refine v_getR fX7_31 rfl hTm (by assumption) dX7_meetHandlers_65 ?_
          refine v_aload_n dX7_meetHandlers_68 rfl ?_
          refine v_getR fX7_91 rfl hTm (by assumption) dX7_meetHandlers_69 ?_
          refine v_iload_n dX7_meetHandlers_72 rfl ?_
          refine v_iald' (i := g) (v := ((mGh π (g)).toNat : Int)) ((oJ3 (m + 7) (g) (by omega) (by omega) (by omega)).trans ((hpG (g) (by omega)).2.2.1.trans (by omega))) (by assumption) rfl (by omega) (by omega) dX7_meetHandlers_73 ?_
          refine v_aload_n dX7_meetHandlers_74 rfl ?_
          refine v_getR fX7_12 rfl (by assumption) (by assumption) dX7_meetHandlers_75 ?_
          refine v_Vi (tX7_meet hV0 QJ3 (p := (mGh π (g)).toNat) hWk WJ3 (by omega) hFr fJ3 (by omega) (by omega)) kX7_109 (by assumption) rfl rfl ⟨by decide, by decide⟩ ⟨by decide, by decide⟩ (Nat.le_of_ble_eq_true rfl) dX7_meetHandlers_78 (fun r7 G9 J5 hr7 pJ5 rng6 => ?_)
          obtain ⟨rfl, ⟨rfl, xJ5⟩ | ⟨rfl, xJ5⟩, sJ5, oJ5⟩ := pJ5
          · have OJ5 := OJ3.tr (oJ5.R (v := v))
            have FJ5 := fJ3.same (oJ5.1 _ _ (by omega)) (fun k _ => oJ5.1 _ _ (by omega)) (fun k _ => oJ5.1 _ _ (by omega))
            refine v_if_ne ⟨by decide, by decide⟩ dX7_meetHandlers_81 (fun hb81 => ?_) (fun h => by exfalso; omega)
            refine v_iinc dX7_meetHandlers_87 rfl (by decide) rfl rfl ?_
            refine v_goto dX7_meetHandlers_90 ?_
            exact ih (g + 1) _ _ J5 (by omega) sJ5 FJ5 OJ5 (kI_meet hI (by omega) (nnF_rais hnF hρn (by omega)) (show (0 : Int) ≤ 1 by decide)) (xMeet_there (show (0 : Int) ≤ 1 by decide) p hd) (fun k hk => (nnF_rais hnF hρn (by omega) k hk).2) rng6 T (by rw [hT]; show xHands Q π p (mm + 1) g κ ρ = _; unfold xHands; rw [if_neg (by omega), if_neg (by omega), if_pos xJ5]; cases mm <;> rfl)
          · have OJ5 := OJ3.tr (oJ5.R (v := v))
            have FJ5 := fJ3.same (oJ5.1 _ _ (by omega)) (fun k _ => oJ5.1 _ _ (by omega)) (fun k _ => oJ5.1 _ _ (by omega))
            refine v_if_ne ⟨by decide, by decide⟩ dX7_meetHandlers_81 (fun h => by exfalso; omega) (fun hb81 => ?_)
            refine v_bipush dX7_meetHandlers_84 (by decide) ?_
            subst hT
            have eH : xHands Q π p (mm + 1) g κ ρ = (8, (xMeet Q κ (mGh π g).toNat (raisF (κ.1 p) ρ.2.2 (10 + mGc π g))).2, (raisF (κ.1 p) ρ.2.2 (10 + mGc π g))) := by unfold xHands; rw [if_neg (by omega), if_neg (by omega), if_neg (by rw [xJ5]; decide)]
            rw [eH]
            exact v_iret rfl (by decide) (by decide) ⟨by decide, by decide⟩ dX7_meetHandlers_86 ⟨rfl, rfl, sJ5, FJ5, OJ5⟩
        · refine v_if_ne ⟨by decide, by decide⟩ dX7_meetHandlers_32 (fun h => by exfalso; omega) (fun hb32 => ?_)
          refine v_bipush dX7_meetHandlers_35 (by decide) ?_
          subst hT
          have eH : xHands Q π p (mm + 1) g κ ρ = (6, κ, ρ) := by unfold xHands; rw [if_neg (by omega), if_pos (by omega)]
          rw [eH]
          exact v_iret rfl (by decide) (by decide) ⟨by decide, by decide⟩ dX7_meetHandlers_37 ⟨rfl, rfl, hκ, hρ, hO⟩
      · refine v_if_ne ⟨by decide, by decide⟩ dX7_meetHandlers_16 (fun h => by exfalso; omega) (fun hb16 => ?_)
        refine v_goto dX7_meetHandlers_19 ?_
        refine v_iinc dX7_meetHandlers_87 rfl (by decide) rfl rfl ?_
        refine v_goto dX7_meetHandlers_90 ?_
        exact ih (g + 1) κ ρ J (by omega) hκ hρ hO hI hd hρn rngJ T (by rw [hT]; show xHands Q π p (mm + 1) g κ ρ = _; unfold xHands; rw [if_pos h1]; cases mm <;> rfl)
  exact loop (mNG π) 0 κ ρ I (by omega) hκ hρ offR.rf hI hd hρn rng _ rfl
