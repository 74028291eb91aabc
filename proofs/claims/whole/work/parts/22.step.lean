/-! ===== a step on a frame: rule, frame ===== -/
abbrev sS : Type := Int × fS
def isS (G : w_Sh) (s q c : Nat) : Prop := G.1 s = (5, 0) ∧ G.2.1 s 0 = some q ∧ G.2.1 s 1 = some (s + 1) ∧ isK G q c ∧ isF G (s + 1)
def stOK (I : w_Mm) (s : Nat) (σ : sS) : Prop := I s 2 = σ.1 ∧ frOK I (s + 1) σ.2 ∧ 0 ≤ σ.2.1
def offS (I J : w_Mm) (s : Nat) : Prop := ∀ a k, a ≠ s → a ≠ s + 1 → a ≠ s + 2 → a ≠ s + 3 → J a k = I a k
theorem offS.rf {I : w_Mm} {s : Nat} : offS I I s := fun _ _ _ _ _ _ => rfl
theorem offS.tr {I J K : w_Mm} {s : Nat} (h : offS I J s) (g : offS J K s) : offS I K s := fun a k h1 h2 h3 h4 => (g a k h1 h2 h3 h4).trans (h a k h1 h2 h3 h4)
theorem offF.S {I J : w_Mm} {s : Nat} (h : offF I J (s + 1)) : offS I J s := fun a k h1 h2 h3 h4 => h a k (by omega) (by omega) (by omega)
theorem clsOK.off {I J : w_Mm} {c : Nat} {Q : cS} (h : clsOK I c Q) (ho : ∀ k, J c k = I c k ∧ J (c + 1) k = I (c + 1) k ∧ J (c + 2) k = I (c + 2) k) : clsOK J c Q :=
  ⟨(ho 2).1.trans h.1, h.2.1, h.2.2.1, fun j hj => ⟨(ho j).2.1.trans (h.2.2.2.1 j hj).1, (h.2.2.2.1 j hj).2⟩, fun j hj => ⟨(ho j).2.2.trans (h.2.2.2.2 j hj).1, (h.2.2.2.2 j hj).2⟩⟩
theorem clsOK.offS {I J : w_Mm} {c s : Nat} {Q : cS} (h : clsOK I c Q) (hcs : c + 3 ≤ s) (ho : offS I J s) : clsOK J c Q := h.off (fun k => ⟨ho c k (by omega) (by omega) (by omega) (by omega), ho _ k (by omega) (by omega) (by omega) (by omega), ho _ k (by omega) (by omega) (by omega) (by omega)⟩)
def fTop (φ : fS) : Int := if 0 < φ.1 then φ.2.2 (φ.1 - 1).toNat else 0
def xBrk (σ : sS) (n : Int) : sS := (if σ.1 = 0 then n else σ.1, σ.2)
def xExp (σ : sS) (b n : Int) : sS := if b = 0 then xBrk σ n else σ
def xDn (σ : sS) (n : Int) : sS := (σ.1, (σ.2.1 - n, σ.2.2))
def xW (σ : sS) (n r : Int) : sS := if σ.2.1 < n then xBrk σ r else σ
def xTA (σ : sS) : Int × sS := if (xW σ 1 2).1 = 0 then (fTop (xW σ 1 2).2, xDn (xW σ 1 2) 1) else (0, xW σ 1 2)
def xTL0 (σ : sS) : sS := if lngTop σ.2 then xW σ 2 2 else xBrk (xW σ 2 2) 3
def xTL (σ : sS) : sS := if (xTL0 σ).1 = 0 then xDn (xTL0 σ) 2 else xTL0 σ
def xTake (Q : cS) (σ : sS) (kd : Int) : sS := if kd = 2 then xTL σ else if kd = 0 then σ else if fitK Q (xTA σ).1 kd then (xTA σ).2 else xBrk (xTA σ).2 3
theorem xBrk_ne {σ : sS} {n : Int} (h : ¬ n = 0) : ¬ (xBrk σ n).1 = 0 := by
  unfold xBrk
  split
  · exact h
  · assumption
theorem stOK.brk {I : w_Mm} {s : Nat} {σ : sS} (h : stOK I s σ) (n : Int) : stOK (w_up I s 2 (xBrk σ n).1) s (xBrk σ n) ∧ offS I (w_up I s 2 (xBrk σ n).1) s :=
  ⟨⟨w_up_s, ⟨(w_up_n (by omega)).trans h.2.1.1, fun k hk => (w_up_n (by omega)).trans (h.2.1.2.1 k hk), fun k hk => (w_up_n (by omega)).trans (h.2.1.2.2.1 k hk), h.2.1.2.2.2⟩, h.2.2⟩, fun a k h1 h2 h3 h4 => w_up_n (by omega)⟩
theorem stOK.dn {I : w_Mm} {s : Nat} {σ : sS} (h : stOK I s σ) (n : Int) (hn : 0 ≤ n) (hd : n ≤ σ.2.1) : stOK (w_up I (s + 1) 2 (σ.2.1 - n)) s (xDn σ n) ∧ offS I (w_up I (s + 1) 2 (σ.2.1 - n)) s := by
  have h8 := h.2.1.2.2.2.2
  exact ⟨⟨(w_up_n (by omega)).trans h.1, ⟨w_up_s, fun k hk => (w_up_n (by omega)).trans (h.2.1.2.1 k hk), fun k hk => (w_up_n (by omega)).trans (h.2.1.2.2.1 k hk), show -1 ≤ σ.2.1 - n by omega, show σ.2.1 - n ≤ 8 by omega⟩, show 0 ≤ σ.2.1 - n by omega⟩, fun a k h1 h2 h3 h4 => w_up_n (by omega)⟩
theorem tX5_breakRule {E : w_E} {G : w_Sh} {I : w_Mm} {s q c : Nat} {Q : cS} {σ : sS} (hS : isS G s q c) (hcs : c + 3 ≤ s) (hQ : clsOK I c Q) (hσ : stOK I s σ) {nn : Int} (hn : inR nn) : w_Ct E mX5_breakRule 0 [.ref s, iv nn] G I 0 0 (w_Pv (fun G' J => G' = G ∧ stOK J s (xBrk σ nn) ∧ offS I J s)) := by
  have hS0 := hS
  obtain ⟨hTs, hRs0, hRs1, hK, hF⟩ := hS
  refine w_Ct.of (ls := [some (.ref s), some (iv nn)]) (by decide +kernel) (Nat.le_of_ble_eq_true rfl) rfl rfl (fun rng => ?_)
  refine v_aload_n dX5_breakRule_0 rfl ?_
  refine v_aload_n dX5_breakRule_1 rfl ?_
  refine v_getI' (v := (σ).1) hσ.1 fX5_38 rfl (by assumption) dX5_breakRule_2 ?_
  refine v_if_ne (by rw [← hσ.1]; exact rng _ _) dX5_breakRule_5 (fun h1 => ?_) (fun h1 => ?_)
  · refine v_aload_n dX5_breakRule_12 rfl ?_
    refine v_getI' (v := (σ).1) hσ.1 fX5_38 rfl (by assumption) dX5_breakRule_13 ?_
    refine v_putI fX5_38 p5_2 rfl (by rw [← hσ.1]; exact rng _ _) (by assumption) dX5_breakRule_16 ?_
    have rng2 := w_rng (a := s) (f := 2) rng (show inR ((σ).1) from (by rw [← hσ.1]; exact rng _ _))
    refine v_vret rfl (by decide) (by decide) dX5_breakRule_19 ⟨rfl, ?_⟩
    have e : σ.1 = (xBrk σ nn).1 := by unfold xBrk; exact (if_neg h1).symm
    have g := hσ.brk nn
    rw [← e] at g; exact g
  · refine v_iload_n dX5_breakRule_8 rfl ?_
    refine v_goto dX5_breakRule_9 ?_
    refine v_putI fX5_38 p5_2 rfl hn (by assumption) dX5_breakRule_16 ?_
    have rng3 := w_rng (a := s) (f := 2) rng (show inR (nn) from hn)
    refine v_vret rfl (by decide) (by decide) dX5_breakRule_19 ⟨rfl, ?_⟩
    have e : nn = (xBrk σ nn).1 := by unfold xBrk; exact (if_pos h1).symm
    have g := hσ.brk nn
    rw [← e] at g; exact g
theorem tX5_expect {E : w_E} {G : w_Sh} {I : w_Mm} {s q c : Nat} {Q : cS} {σ : sS} (hS : isS G s q c) (hcs : c + 3 ≤ s) (hQ : clsOK I c Q) (hσ : stOK I s σ) {b : Int} (hb : b = 0 ∨ b = 1) : w_Ct E mX5_expect 1 [.ref s, iv b] G I 0 0 (w_Pv (fun G' J => G' = G ∧ stOK J s (xExp σ b 3) ∧ offS I J s)) := by
  have hS0 := hS
  obtain ⟨hTs, hRs0, hRs1, hK, hF⟩ := hS
  refine w_Ct.of (ls := [some (.ref s), some (iv b)]) (by decide +kernel) (Nat.le_of_ble_eq_true rfl) rfl rfl (fun rng => ?_)
  refine v_iload_n dX5_expect_0 rfl ?_
  refine v_if_ne ⟨by omega, by omega⟩ dX5_expect_1 (fun h1 => ?_) (fun h1 => ?_)
  · refine v_vret rfl (by decide) (by decide) dX5_expect_9 ⟨rfl, ?_⟩
    rw [show xExp σ b 3 = σ from if_neg h1]
    exact ⟨hσ, offS.rf⟩
  · refine v_aload_n dX5_expect_4 rfl ?_
    refine v_iconst dX5_expect_5 ?_
    refine v_Vv (tX5_breakRule hS0 hcs hQ hσ ⟨by decide, by decide⟩) kX5_130 (by assumption) rfl rfl ⟨by decide, by decide⟩ ⟨by decide, by decide⟩ (Nat.le_of_ble_eq_true rfl) dX5_expect_6 (fun G9 J2 pJ2 rng3 => ?_)
    obtain ⟨rfl, sJ2, oJ2⟩ := pJ2
    have OJ2 := (offS.rf).tr oJ2
    have QJ2 := clsOK.offS hQ hcs OJ2
    refine v_vret rfl (by decide) (by decide) dX5_expect_9 ⟨rfl, ?_⟩
    rw [show xExp σ b 3 = xBrk σ 3 from if_pos h1]
    exact ⟨sJ2, OJ2⟩
theorem tX5_expect_1 {E : w_E} {G : w_Sh} {I : w_Mm} {s q c : Nat} {Q : cS} {σ : sS} (hS : isS G s q c) (hcs : c + 3 ≤ s) (hQ : clsOK I c Q) (hσ : stOK I s σ) {b : Int} {τ : sS} (hb : (b = 1 ∧ τ = σ) ∨ (b = 0 ∧ τ = xBrk σ 3)) : w_Ct E mX5_expect 1 [.ref s, iv b] G I 0 0 (w_Pv (fun G' J => G' = G ∧ stOK J s (τ) ∧ offS I J s)) := by
  have h := tX5_expect (E := E) hS hcs hQ hσ (b := b) (by omega)
  have e : xExp σ b 3 = τ := by rcases hb with ⟨rfl, rfl⟩ | ⟨rfl, rfl⟩ <;> rfl
  rw [e] at h; exact h
theorem tX5_expectInLocal {E : w_E} {G : w_Sh} {I : w_Mm} {s q c : Nat} {Q : cS} {σ : sS} (hS : isS G s q c) (hcs : c + 3 ≤ s) (hQ : clsOK I c Q) (hσ : stOK I s σ) {b : Int} (hb : b = 0 ∨ b = 1) : w_Ct E mX5_expectInLocal 1 [.ref s, iv b] G I 0 0 (w_Pv (fun G' J => G' = G ∧ stOK J s (xExp σ b 4) ∧ offS I J s)) := by
  have hS0 := hS
  obtain ⟨hTs, hRs0, hRs1, hK, hF⟩ := hS
  refine w_Ct.of (ls := [some (.ref s), some (iv b)]) (by decide +kernel) (Nat.le_of_ble_eq_true rfl) rfl rfl (fun rng => ?_)
  refine v_iload_n dX5_expectInLocal_0 rfl ?_
  refine v_if_ne ⟨by omega, by omega⟩ dX5_expectInLocal_1 (fun h1 => ?_) (fun h1 => ?_)
  · refine v_vret rfl (by decide) (by decide) dX5_expectInLocal_9 ⟨rfl, ?_⟩
    rw [show xExp σ b 4 = σ from if_neg h1]
    exact ⟨hσ, offS.rf⟩
  · refine v_aload_n dX5_expectInLocal_4 rfl ?_
    refine v_iconst dX5_expectInLocal_5 ?_
    refine v_Vv (tX5_breakRule hS0 hcs hQ hσ ⟨by decide, by decide⟩) kX5_130 (by assumption) rfl rfl ⟨by decide, by decide⟩ ⟨by decide, by decide⟩ (Nat.le_of_ble_eq_true rfl) dX5_expectInLocal_6 (fun G9 J2 pJ2 rng3 => ?_)
    obtain ⟨rfl, sJ2, oJ2⟩ := pJ2
    have OJ2 := (offS.rf).tr oJ2
    have QJ2 := clsOK.offS hQ hcs OJ2
    refine v_vret rfl (by decide) (by decide) dX5_expectInLocal_9 ⟨rfl, ?_⟩
    rw [show xExp σ b 4 = xBrk σ 4 from if_pos h1]
    exact ⟨sJ2, OJ2⟩
theorem tX5_expectInLocal_1 {E : w_E} {G : w_Sh} {I : w_Mm} {s q c : Nat} {Q : cS} {σ : sS} (hS : isS G s q c) (hcs : c + 3 ≤ s) (hQ : clsOK I c Q) (hσ : stOK I s σ) {b : Int} {τ : sS} (hb : (b = 1 ∧ τ = σ) ∨ (b = 0 ∧ τ = xBrk σ 4)) : w_Ct E mX5_expectInLocal 1 [.ref s, iv b] G I 0 0 (w_Pv (fun G' J => G' = G ∧ stOK J s (τ) ∧ offS I J s)) := by
  have h := tX5_expectInLocal (E := E) hS hcs hQ hσ (b := b) (by omega)
  have e : xExp σ b 4 = τ := by rcases hb with ⟨rfl, rfl⟩ | ⟨rfl, rfl⟩ <;> rfl
  rw [e] at h; exact h
theorem tX5_takeAny {E : w_E} {G : w_Sh} {I : w_Mm} {s q c : Nat} {Q : cS} {σ : sS} (hS : isS G s q c) (hcs : c + 3 ≤ s) (hQ : clsOK I c Q) (hσ : stOK I s σ) : w_Ct E mX5_takeAny 1 [.ref s] G I 0 0 (w_Pi (fun r G' J => G' = G ∧ r = (xTA σ).1 ∧ stOK J s ((xTA σ).2) ∧ offS I J s)) := by
  have hS0 := hS
  obtain ⟨hTs, hRs0, hRs1, hK, hF⟩ := hS
  have hd0 := hσ.2.2
  have hd8 := hσ.2.1.2.2.2.2
  rcases Int.lt_or_le σ.2.1 1 with hlt | hge
  · have eW : xW σ 1 2 = xBrk σ 2 := if_pos hlt
    have eT : xTA σ = (0, xBrk σ 2) := by unfold xTA; rw [eW, if_neg (xBrk_ne (by decide))]
    rw [eT]
    refine w_Ct.of (ls := [some (.ref s), none]) (by decide +kernel) (Nat.le_of_ble_eq_true rfl) rfl rfl (fun rng => ?_)
    refine v_aload_n dX5_takeAny_0 rfl ?_
    refine v_getR fX5_12 rfl (by assumption) (by assumption) dX5_takeAny_1 ?_
    refine v_getI' (v := (σ).2.1) hσ.2.1.1 fX5_133 rfl hF.1 dX5_takeAny_4 ?_
    refine v_iconst dX5_takeAny_7 ?_
    refine v_icmp_ge (by rw [← hσ.2.1.1]; exact rng _ _) ⟨by decide, by decide⟩ dX5_takeAny_8 (fun h => by exfalso; omega) (fun hb8 => ?_)
    refine v_aload_n dX5_takeAny_11 rfl ?_
    refine v_iconst dX5_takeAny_12 ?_
    refine v_Vv (tX5_breakRule hS0 hcs hQ hσ ⟨by decide, by decide⟩) kX5_130 (by assumption) rfl rfl ⟨by decide, by decide⟩ ⟨by decide, by decide⟩ (Nat.le_of_ble_eq_true rfl) dX5_takeAny_13 (fun G9 J1 pJ1 rng2 => ?_)
    obtain ⟨rfl, sJ1, oJ1⟩ := pJ1
    have OJ1 := (offS.rf).tr oJ1
    have QJ1 := clsOK.offS hQ hcs OJ1
    refine v_aload_n dX5_takeAny_16 rfl ?_
    refine v_getI' (v := (xBrk (σ) 2).1) sJ1.1 fX5_38 rfl (by assumption) dX5_takeAny_17 ?_
    refine v_if_eq (by rw [← sJ1.1]; exact rng2 _ _) dX5_takeAny_20 (fun h => absurd h (xBrk_ne (by decide))) (fun hb20 => ?_)
    refine v_iconst dX5_takeAny_23 ?_
    exact v_iret rfl (by decide) (by decide) ⟨by decide, by decide⟩ dX5_takeAny_24 ⟨rfl, rfl, sJ1, OJ1⟩
  · have eW : xW σ 1 2 = σ := if_neg (by omega)
    by_cases hr : σ.1 = 0
    · have eT : xTA σ = (fTop σ.2, xDn σ 1) := by unfold xTA; rw [eW, if_pos hr]
      rw [eT]
      refine w_Ct.of (ls := [some (.ref s), none]) (by decide +kernel) (Nat.le_of_ble_eq_true rfl) rfl rfl (fun rng => ?_)
      refine v_aload_n dX5_takeAny_0 rfl ?_
      refine v_getR fX5_12 rfl (by assumption) (by assumption) dX5_takeAny_1 ?_
      refine v_getI' (v := (σ).2.1) hσ.2.1.1 fX5_133 rfl hF.1 dX5_takeAny_4 ?_
      refine v_iconst dX5_takeAny_7 ?_
      refine v_icmp_ge (by rw [← hσ.2.1.1]; exact rng _ _) ⟨by decide, by decide⟩ dX5_takeAny_8 (fun hb8 => ?_) (fun h => by exfalso; omega)
      refine v_aload_n dX5_takeAny_16 rfl ?_
      refine v_getI' (v := (σ).1) hσ.1 fX5_38 rfl (by assumption) dX5_takeAny_17 ?_
      refine v_if_eq (by rw [← hσ.1]; exact rng _ _) dX5_takeAny_20 (fun hb20 => ?_) (fun h => by exfalso; omega)
      refine v_aload_n dX5_takeAny_25 rfl ?_
      refine v_getR fX5_12 rfl (by assumption) (by assumption) dX5_takeAny_26 ?_
      refine v_VmN (tX2_top hF hσ.2.1) kX5_136 hF.1 rfl rfl ⟨by decide, by decide⟩ ⟨by decide, by decide⟩ (Nat.le_of_ble_eq_true rfl) dX5_takeAny_29 (fun r1 er1 hr1 rng2 => ?_)
      refine v_istore_n dX5_takeAny_32 (by decide) rfl ?_
      refine v_aload_n dX5_takeAny_33 rfl ?_
      refine v_getR fX5_12 rfl (by assumption) (by assumption) dX5_takeAny_34 ?_
      refine v_dup dX5_takeAny_37 rfl ?_
      refine v_getI' (v := (σ).2.1) hσ.2.1.1 fX5_133 rfl hF.1 dX5_takeAny_38 ?_
      refine v_iconst dX5_takeAny_41 ?_
      refine v_isub dX5_takeAny_42 ?_
      refine v_putI fX5_133 p2_2 rfl ⟨by omega, by omega⟩ hF.1 dX5_takeAny_43 ?_
      have rng3 := w_rng (a := s + 1) (f := 2) rng (show inR (((σ).2.1 - 1)) from ⟨by omega, by omega⟩)
      refine v_iload_n dX5_takeAny_46 rfl ?_
      obtain ⟨g1, g2⟩ := hσ.dn 1 (by decide) hge
      exact v_iret rfl (by decide) (by decide) hr1 dX5_takeAny_47 ⟨rfl, er1, g1, g2⟩
    · have eT : xTA σ = (0, σ) := by unfold xTA; rw [eW, if_neg hr]
      rw [eT]
      refine w_Ct.of (ls := [some (.ref s), none]) (by decide +kernel) (Nat.le_of_ble_eq_true rfl) rfl rfl (fun rng => ?_)
      refine v_aload_n dX5_takeAny_0 rfl ?_
      refine v_getR fX5_12 rfl (by assumption) (by assumption) dX5_takeAny_1 ?_
      refine v_getI' (v := (σ).2.1) hσ.2.1.1 fX5_133 rfl hF.1 dX5_takeAny_4 ?_
      refine v_iconst dX5_takeAny_7 ?_
      refine v_icmp_ge (by rw [← hσ.2.1.1]; exact rng _ _) ⟨by decide, by decide⟩ dX5_takeAny_8 (fun hb8 => ?_) (fun h => by exfalso; omega)
      refine v_aload_n dX5_takeAny_16 rfl ?_
      refine v_getI' (v := (σ).1) hσ.1 fX5_38 rfl (by assumption) dX5_takeAny_17 ?_
      refine v_if_eq (by rw [← hσ.1]; exact rng _ _) dX5_takeAny_20 (fun h => by exfalso; omega) (fun hb20 => ?_)
      refine v_iconst dX5_takeAny_23 ?_
      exact v_iret rfl (by decide) (by decide) ⟨by decide, by decide⟩ dX5_takeAny_24 ⟨rfl, rfl, hσ, offS.rf⟩
theorem tX5_takeLong {E : w_E} {G : w_Sh} {I : w_Mm} {s q c : Nat} {Q : cS} {σ : sS} (hS : isS G s q c) (hcs : c + 3 ≤ s) (hQ : clsOK I c Q) (hσ : stOK I s σ) : w_Ct E mX5_takeLong 1 [.ref s] G I 0 0 (w_Pv (fun G' J => G' = G ∧ stOK J s (xTL σ) ∧ offS I J s)) := by
  have hS0 := hS
  obtain ⟨hTs, hRs0, hRs1, hK, hF⟩ := hS
  have hd0 := hσ.2.2
  have hd8 := hσ.2.1.2.2.2.2
  rcases Int.lt_or_le σ.2.1 2 with hlt | hge
  · have eW : xW σ 2 2 = xBrk σ 2 := if_pos hlt
    have nL : ¬ lngTop σ.2 := by omega
    have e0 : xTL0 σ = xBrk (xBrk σ 2) 3 := by unfold xTL0; rw [if_neg nL, eW]
    have eT : xTL σ = xBrk (xBrk σ 2) 3 := by unfold xTL; rw [e0, if_neg (xBrk_ne (by decide))]
    rw [eT]
    refine w_Ct.of (ls := [some (.ref s)]) (by decide +kernel) (Nat.le_of_ble_eq_true rfl) rfl rfl (fun rng => ?_)
    refine v_aload_n dX5_takeLong_0 rfl ?_
    refine v_getR fX5_12 rfl (by assumption) (by assumption) dX5_takeLong_1 ?_
    refine v_getI' (v := (σ).2.1) hσ.2.1.1 fX5_133 rfl hF.1 dX5_takeLong_4 ?_
    refine v_iconst dX5_takeLong_7 ?_
    refine v_icmp_ge (by rw [← hσ.2.1.1]; exact rng _ _) ⟨by decide, by decide⟩ dX5_takeLong_8 (fun h => by exfalso; omega) (fun hb8 => ?_)
    refine v_aload_n dX5_takeLong_11 rfl ?_
    refine v_iconst dX5_takeLong_12 ?_
    refine v_Vv (tX5_breakRule hS0 hcs hQ hσ ⟨by decide, by decide⟩) kX5_130 (by assumption) rfl rfl ⟨by decide, by decide⟩ ⟨by decide, by decide⟩ (Nat.le_of_ble_eq_true rfl) dX5_takeLong_13 (fun G9 J1 pJ1 rng2 => ?_)
    obtain ⟨rfl, sJ1, oJ1⟩ := pJ1
    have OJ1 := (offS.rf).tr oJ1
    have QJ1 := clsOK.offS hQ hcs OJ1
    refine v_aload_n dX5_takeLong_16 rfl ?_
    refine v_getR fX5_12 rfl (by assumption) (by assumption) dX5_takeLong_17 ?_
    refine v_Vb (tX2_hasLongOnTop hF sJ1.2.1) kX5_146 hF.1 rfl rfl ⟨by decide, by decide⟩ ⟨by decide, by decide⟩ (Nat.le_of_ble_eq_true rfl) dX5_takeLong_20 (fun h3 => absurd h3 nL) (fun h3 => ?_)
    refine v_if_ne ⟨by decide, by decide⟩ dX5_takeLong_23 (fun h => by exfalso; omega) (fun hb23 => ?_)
    refine v_aload_n dX5_takeLong_26 rfl ?_
    refine v_iconst dX5_takeLong_27 ?_
    refine v_Vv (tX5_breakRule hS0 hcs QJ1 sJ1 ⟨by decide, by decide⟩) kX5_130 (by assumption) rfl rfl ⟨by decide, by decide⟩ ⟨by decide, by decide⟩ (Nat.le_of_ble_eq_true rfl) dX5_takeLong_28 (fun G9 J4 pJ4 rng5 => ?_)
    obtain ⟨rfl, sJ4, oJ4⟩ := pJ4
    have OJ4 := (OJ1).tr oJ4
    have QJ4 := clsOK.offS hQ hcs OJ4
    refine v_aload_n dX5_takeLong_31 rfl ?_
    refine v_getI' (v := (xBrk (xBrk (σ) 2) 3).1) sJ4.1 fX5_38 rfl (by assumption) dX5_takeLong_32 ?_
    refine v_if_ne (by rw [← sJ4.1]; exact rng5 _ _) dX5_takeLong_35 (fun hb35 => ?_) (fun h => absurd h (xBrk_ne (by decide)))
    refine v_vret rfl (by decide) (by decide) dX5_takeLong_51 ⟨rfl, ?_⟩
    exact ⟨sJ4, OJ4⟩
  · have eW : xW σ 2 2 = σ := if_neg (by omega)
    by_cases hl : lngTop σ.2
    · have e0 : xTL0 σ = σ := by unfold xTL0; rw [if_pos hl, eW]
      by_cases hr : σ.1 = 0
      · have eT : xTL σ = xDn σ 2 := by unfold xTL; rw [e0, if_pos hr]
        rw [eT]
        refine w_Ct.of (ls := [some (.ref s)]) (by decide +kernel) (Nat.le_of_ble_eq_true rfl) rfl rfl (fun rng => ?_)
        refine v_aload_n dX5_takeLong_0 rfl ?_
        refine v_getR fX5_12 rfl (by assumption) (by assumption) dX5_takeLong_1 ?_
        refine v_getI' (v := (σ).2.1) hσ.2.1.1 fX5_133 rfl hF.1 dX5_takeLong_4 ?_
        refine v_iconst dX5_takeLong_7 ?_
        refine v_icmp_ge (by rw [← hσ.2.1.1]; exact rng _ _) ⟨by decide, by decide⟩ dX5_takeLong_8 (fun hb8 => ?_) (fun h => by exfalso; omega)
        refine v_aload_n dX5_takeLong_16 rfl ?_
        refine v_getR fX5_12 rfl (by assumption) (by assumption) dX5_takeLong_17 ?_
        refine v_Vb (tX2_hasLongOnTop hF hσ.2.1) kX5_146 hF.1 rfl rfl ⟨by decide, by decide⟩ ⟨by decide, by decide⟩ (Nat.le_of_ble_eq_true rfl) dX5_takeLong_20 (fun h1 => ?_) (fun h1 => by exfalso; omega)
        refine v_if_ne ⟨by decide, by decide⟩ dX5_takeLong_23 (fun hb23 => ?_) (fun h => by exfalso; omega)
        refine v_aload_n dX5_takeLong_31 rfl ?_
        refine v_getI' (v := (σ).1) hσ.1 fX5_38 rfl (by assumption) dX5_takeLong_32 ?_
        refine v_if_ne (by rw [← hσ.1]; exact rng _ _) dX5_takeLong_35 (fun h => by exfalso; omega) (fun hb35 => ?_)
        refine v_aload_n dX5_takeLong_38 rfl ?_
        refine v_getR fX5_12 rfl (by assumption) (by assumption) dX5_takeLong_39 ?_
        refine v_dup dX5_takeLong_42 rfl ?_
        refine v_getI' (v := (σ).2.1) hσ.2.1.1 fX5_133 rfl hF.1 dX5_takeLong_43 ?_
        refine v_iconst dX5_takeLong_46 ?_
        refine v_isub dX5_takeLong_47 ?_
        refine v_putI fX5_133 p2_2 rfl ⟨by omega, by omega⟩ hF.1 dX5_takeLong_48 ?_
        have rng2 := w_rng (a := s + 1) (f := 2) rng (show inR (((σ).2.1 - 2)) from ⟨by omega, by omega⟩)
        exact v_vret rfl (by decide) (by decide) dX5_takeLong_51 ⟨rfl, hσ.dn 2 (by decide) hge⟩
      · have eT : xTL σ = σ := by unfold xTL; rw [e0, if_neg hr]
        rw [eT]
        refine w_Ct.of (ls := [some (.ref s)]) (by decide +kernel) (Nat.le_of_ble_eq_true rfl) rfl rfl (fun rng => ?_)
        refine v_aload_n dX5_takeLong_0 rfl ?_
        refine v_getR fX5_12 rfl (by assumption) (by assumption) dX5_takeLong_1 ?_
        refine v_getI' (v := (σ).2.1) hσ.2.1.1 fX5_133 rfl hF.1 dX5_takeLong_4 ?_
        refine v_iconst dX5_takeLong_7 ?_
        refine v_icmp_ge (by rw [← hσ.2.1.1]; exact rng _ _) ⟨by decide, by decide⟩ dX5_takeLong_8 (fun hb8 => ?_) (fun h => by exfalso; omega)
        refine v_aload_n dX5_takeLong_16 rfl ?_
        refine v_getR fX5_12 rfl (by assumption) (by assumption) dX5_takeLong_17 ?_
        refine v_Vb (tX2_hasLongOnTop hF hσ.2.1) kX5_146 hF.1 rfl rfl ⟨by decide, by decide⟩ ⟨by decide, by decide⟩ (Nat.le_of_ble_eq_true rfl) dX5_takeLong_20 (fun h1 => ?_) (fun h1 => by exfalso; omega)
        refine v_if_ne ⟨by decide, by decide⟩ dX5_takeLong_23 (fun hb23 => ?_) (fun h => by exfalso; omega)
        refine v_aload_n dX5_takeLong_31 rfl ?_
        refine v_getI' (v := (σ).1) hσ.1 fX5_38 rfl (by assumption) dX5_takeLong_32 ?_
        refine v_if_ne (by rw [← hσ.1]; exact rng _ _) dX5_takeLong_35 (fun hb35 => ?_) (fun h => by exfalso; omega)
        refine v_vret rfl (by decide) (by decide) dX5_takeLong_51 ⟨rfl, ?_⟩
        exact ⟨hσ, offS.rf⟩
    · have e0 : xTL0 σ = xBrk σ 3 := by unfold xTL0; rw [if_neg hl, eW]
      have eT : xTL σ = xBrk σ 3 := by unfold xTL; rw [e0, if_neg (xBrk_ne (by decide))]
      rw [eT]
      refine w_Ct.of (ls := [some (.ref s)]) (by decide +kernel) (Nat.le_of_ble_eq_true rfl) rfl rfl (fun rng => ?_)
      refine v_aload_n dX5_takeLong_0 rfl ?_
      refine v_getR fX5_12 rfl (by assumption) (by assumption) dX5_takeLong_1 ?_
      refine v_getI' (v := (σ).2.1) hσ.2.1.1 fX5_133 rfl hF.1 dX5_takeLong_4 ?_
      refine v_iconst dX5_takeLong_7 ?_
      refine v_icmp_ge (by rw [← hσ.2.1.1]; exact rng _ _) ⟨by decide, by decide⟩ dX5_takeLong_8 (fun hb8 => ?_) (fun h => by exfalso; omega)
      refine v_aload_n dX5_takeLong_16 rfl ?_
      refine v_getR fX5_12 rfl (by assumption) (by assumption) dX5_takeLong_17 ?_
      refine v_Vb (tX2_hasLongOnTop hF hσ.2.1) kX5_146 hF.1 rfl rfl ⟨by decide, by decide⟩ ⟨by decide, by decide⟩ (Nat.le_of_ble_eq_true rfl) dX5_takeLong_20 (fun h1 => by exfalso; omega) (fun h1 => ?_)
      refine v_if_ne ⟨by decide, by decide⟩ dX5_takeLong_23 (fun h => by exfalso; omega) (fun hb23 => ?_)
      refine v_aload_n dX5_takeLong_26 rfl ?_
      refine v_iconst dX5_takeLong_27 ?_
      refine v_Vv (tX5_breakRule hS0 hcs hQ hσ ⟨by decide, by decide⟩) kX5_130 (by assumption) rfl rfl ⟨by decide, by decide⟩ ⟨by decide, by decide⟩ (Nat.le_of_ble_eq_true rfl) dX5_takeLong_28 (fun G9 J2 pJ2 rng3 => ?_)
      obtain ⟨rfl, sJ2, oJ2⟩ := pJ2
      have OJ2 := (offS.rf).tr oJ2
      have QJ2 := clsOK.offS hQ hcs OJ2
      refine v_aload_n dX5_takeLong_31 rfl ?_
      refine v_getI' (v := (xBrk (σ) 3).1) sJ2.1 fX5_38 rfl (by assumption) dX5_takeLong_32 ?_
      refine v_if_ne (by rw [← sJ2.1]; exact rng3 _ _) dX5_takeLong_35 (fun hb35 => ?_) (fun h => absurd h (xBrk_ne (by decide)))
      refine v_vret rfl (by decide) (by decide) dX5_takeLong_51 ⟨rfl, ?_⟩
      exact ⟨sJ2, OJ2⟩
theorem tX5_take {E : w_E} {G : w_Sh} {I : w_Mm} {s q c : Nat} {Q : cS} {σ : sS} (hS : isS G s q c) (hcs : c + 3 ≤ s) (hQ : clsOK I c Q) (hσ : stOK I s σ) {kd : Int} (hkd : inR kd) : w_Ct E mX5_take 2 [.ref s, iv kd] G I 0 0 (w_Pv (fun G' J => G' = G ∧ stOK J s (xTake Q σ kd) ∧ offS I J s)) := by
  have hS0 := hS
  obtain ⟨hTs, hRs0, hRs1, hK, hF⟩ := hS
  refine w_Ct.of (ls := [some (.ref s), some (iv kd), none]) (by decide +kernel) (Nat.le_of_ble_eq_true rfl) rfl rfl (fun rng => ?_)
  refine v_iload_n dX5_take_0 rfl ?_
  refine v_iconst dX5_take_1 ?_
  refine v_icmp_ne hkd ⟨by decide, by decide⟩ dX5_take_2 (fun h1 => ?_) (fun h1 => ?_)
  · refine v_iload_n dX5_take_12 rfl ?_
    refine v_if_eq hkd dX5_take_13 (fun h2 => ?_) (fun h2 => ?_)
    · refine v_vret rfl (by decide) (by decide) dX5_take_34 ⟨rfl, ?_⟩
      unfold xTake; rw [if_neg h1, if_pos h2]
      exact ⟨hσ, offS.rf⟩
    · refine v_aload_n dX5_take_16 rfl ?_
      refine v_Vi (tX5_takeAny hS0 hcs hQ hσ ) kX5_90 (by assumption) rfl rfl ⟨by decide, by decide⟩ ⟨by decide, by decide⟩ (Nat.le_of_ble_eq_true rfl) dX5_take_17 (fun r5 G9 J3 hr5 pJ3 rng4 => ?_)
      obtain ⟨rfl, rfl, sJ3, oJ3⟩ := pJ3
      have OJ3 := (offS.rf).tr oJ3
      have QJ3 := clsOK.offS hQ hcs OJ3
      refine v_istore_n dX5_take_20 (by decide) rfl ?_
      refine v_aload_n dX5_take_21 rfl ?_
      refine v_aload_n dX5_take_22 rfl ?_
      refine v_getR fX5_18 rfl (by assumption) (by assumption) dX5_take_23 ?_
      refine v_iload_n dX5_take_26 rfl ?_
      refine v_iload_n dX5_take_27 rfl ?_
      refine v_Vb (tX3_suits hK QJ3 hr5 hkd) kX5_142 hK.1 rfl rfl ⟨by decide, by decide⟩ ⟨by decide, by decide⟩ (Nat.le_of_ble_eq_true rfl) dX5_take_28 (fun h6 => ?_) (fun h6 => ?_)
      · refine v_Vv (tX5_expect_1 hS0 hcs QJ3 sJ3 (Or.inl ⟨rfl, rfl⟩)) kX5_94 (by assumption) rfl rfl ⟨by decide, by decide⟩ ⟨by decide, by decide⟩ (Nat.le_of_ble_eq_true rfl) dX5_take_31 (fun G9 J7 pJ7 rng8 => ?_)
        obtain ⟨rfl, sJ7, oJ7⟩ := pJ7
        have OJ7 := (OJ3).tr oJ7
        have QJ7 := clsOK.offS hQ hcs OJ7
        refine v_vret rfl (by decide) (by decide) dX5_take_34 ⟨rfl, ?_⟩
        unfold xTake; rw [if_neg h1, if_neg h2, if_pos h6]
        exact ⟨sJ7, OJ7⟩
      · refine v_Vv (tX5_expect_1 hS0 hcs QJ3 sJ3 (Or.inr ⟨rfl, rfl⟩)) kX5_94 (by assumption) rfl rfl ⟨by decide, by decide⟩ ⟨by decide, by decide⟩ (Nat.le_of_ble_eq_true rfl) dX5_take_31 (fun G9 J9 pJ9 rng10 => ?_)
        obtain ⟨rfl, sJ9, oJ9⟩ := pJ9
        have OJ9 := (OJ3).tr oJ9
        have QJ9 := clsOK.offS hQ hcs OJ9
        refine v_vret rfl (by decide) (by decide) dX5_take_34 ⟨rfl, ?_⟩
        unfold xTake; rw [if_neg h1, if_neg h2, if_neg h6]
        exact ⟨sJ9, OJ9⟩
  · refine v_aload_n dX5_take_5 rfl ?_
    refine v_Vv (tX5_takeLong hS0 hcs hQ hσ ) kX5_139 (by assumption) rfl rfl ⟨by decide, by decide⟩ ⟨by decide, by decide⟩ (Nat.le_of_ble_eq_true rfl) dX5_take_6 (fun G9 J11 pJ11 rng12 => ?_)
    obtain ⟨rfl, sJ11, oJ11⟩ := pJ11
    have OJ11 := (offS.rf).tr oJ11
    have QJ11 := clsOK.offS hQ hcs OJ11
    refine v_goto dX5_take_9 ?_
    refine v_vret rfl (by decide) (by decide) dX5_take_34 ⟨rfl, ?_⟩
    unfold xTake; rw [if_pos h1]
    exact ⟨sJ11, OJ11⟩
def xLay0 (σ : sS) (kd : Int) : sS := if 8 < σ.2.1 + (if kd = 2 then 2 else 1) then xBrk σ 1 else σ
def xLayP (σ : sS) (kd : Int) : sS := (σ.1, (σ.2.1 + (if kd = 2 then 2 else 1), σ.2.2.1, if kd = 2 then uL (uL σ.2.2.2 σ.2.1.toNat kd) (σ.2.1 + 1).toNat 3 else uL σ.2.2.2 σ.2.1.toNat kd))
def xLay (σ : sS) (kd : Int) : sS := if kd = 0 then σ else if (xLay0 σ kd).1 = 0 then xLayP (xLay0 σ kd) kd else xLay0 σ kd
def xPut (σ : sS) (i : Nat) (kd : Int) : sS := if σ.1 = 0 then (σ.1, (σ.2.1, uL (brkL σ.2.2.1 (i : Int)) i kd, σ.2.2.2)) else σ
def xPutL (σ : sS) (i : Nat) : sS := xPut (xPut σ i 2) (i + 1) 3
theorem stOK.layP {I : w_Mm} {s d : Nat} {σ : sS} {kd : Int} (h : stOK I s σ) (hd : σ.2.1 = (d : Int)) (h1 : d + 1 ≤ 8) (hk : ¬ kd = 2) : stOK (w_up (w_up I (s + 1 + 2) d kd) (s + 1) 2 (σ.2.1 + 1)) s (xLayP σ kd) ∧ offS I (w_up (w_up I (s + 1 + 2) d kd) (s + 1) 2 (σ.2.1 + 1)) s := by
  have e : xLayP σ kd = (σ.1, (σ.2.1 + 1, σ.2.2.1, uL σ.2.2.2 d kd)) := by unfold xLayP; rw [if_neg hk, if_neg hk, hd]; rfl
  rw [e]
  refine ⟨⟨by rw [w_up_n (by omega), w_up_n (by omega)]; exact h.1, ⟨w_up_s, fun k hk => by rw [w_up_n (by omega), w_up_n (by omega)]; exact h.2.1.2.1 k hk, fun k hk => ?_, show -1 ≤ σ.2.1 + 1 by omega, show σ.2.1 + 1 ≤ 8 by omega⟩, show 0 ≤ σ.2.1 + 1 by omega⟩, fun a k h1 h2 h3 h4 => by rw [w_up_n (by omega), w_up_n (by omega)]⟩
  by_cases e : k = d
  · subst e
    rw [w_up_n (by omega), w_up_s]; simp [uL]
  · rw [w_up_n (by omega), w_up_n (by omega), h.2.1.2.2.1 k hk]; simp [uL, e]
theorem stOK.layP2 {I : w_Mm} {s d : Nat} {σ : sS} (h : stOK I s σ) (hd : σ.2.1 = (d : Int)) (h1 : d + 2 ≤ 8) : stOK (w_up (w_up (w_up I (s + 1 + 2) d 2) (s + 1 + 2) (d + 1) 3) (s + 1) 2 (σ.2.1 + 2)) s (xLayP σ 2) ∧ offS I (w_up (w_up (w_up I (s + 1 + 2) d 2) (s + 1 + 2) (d + 1) 3) (s + 1) 2 (σ.2.1 + 2)) s := by
  have e : xLayP σ 2 = (σ.1, (σ.2.1 + 2, σ.2.2.1, uL (uL σ.2.2.2 d 2) (d + 1) 3)) := by unfold xLayP; rw [if_pos rfl, if_pos rfl, hd]; rfl
  rw [e]
  refine ⟨⟨by rw [w_up_n (by omega), w_up_n (by omega), w_up_n (by omega)]; exact h.1, ⟨w_up_s, fun k hk => by rw [w_up_n (by omega), w_up_n (by omega), w_up_n (by omega)]; exact h.2.1.2.1 k hk, fun k hk => ?_, show -1 ≤ σ.2.1 + 2 by omega, show σ.2.1 + 2 ≤ 8 by omega⟩, show 0 ≤ σ.2.1 + 2 by omega⟩, fun a k h1 h2 h3 h4 => by rw [w_up_n (by omega), w_up_n (by omega), w_up_n (by omega)]⟩
  by_cases e1 : k = d + 1
  · subst e1
    rw [w_up_n (by omega), w_up_s]; simp [uL]
  · by_cases e : k = d
    · subst e
      rw [w_up_n (by omega), w_up_n (by omega), w_up_s]; simp [uL]
    · rw [w_up_n (by omega), w_up_n (by omega), w_up_n (by omega), h.2.1.2.2.1 k hk]; simp [uL, e, e1]
theorem stOK.put {I J : w_Mm} {s i : Nat} {σ : sS} {L : Nat → Int} {kd : Int} (h : stOK I s σ) (hJ : frOK J (s + 1) (σ.2.1, L, σ.2.2.2)) (ho : offF I J (s + 1)) (hi : i < 8) : stOK (w_up J (s + 1 + 1) i kd) s (σ.1, (σ.2.1, uL L i kd, σ.2.2.2)) ∧ offS I (w_up J (s + 1 + 1) i kd) s := by
  have g := frOK_L (z := kd) hJ hi rfl
  refine ⟨⟨?_, g.1, h.2.2⟩, ?_⟩
  · rw [w_up_n (by omega), ho s 2 (by omega) (by omega) (by omega)]; exact h.1
  · exact (ho.tr g.2).S
theorem tX5_lay {E : w_E} {G : w_Sh} {I : w_Mm} {s q c : Nat} {Q : cS} {σ : sS} (hS : isS G s q c) (hcs : c + 3 ≤ s) (hQ : clsOK I c Q) (hσ : stOK I s σ) {kd : Int} (hkd : inR kd) : w_Ct E mX5_lay 1 [.ref s, iv kd] G I 0 0 (w_Pv (fun G' J => G' = G ∧ stOK J s (xLay σ kd) ∧ offS I J s)) := by
  have hS0 := hS
  obtain ⟨hTs, hRs0, hRs1, hK, hF⟩ := hS
  have hd0 := hσ.2.2
  have hd8 := hσ.2.1.2.2.2.2
  obtain ⟨d, hd⟩ := Int.eq_ofNat_of_zero_le hd0
  by_cases k0 : kd = 0
  · rw [show xLay σ kd = σ from if_pos k0]
    refine w_Ct.of (ls := [some (.ref s), some (iv kd), none]) (by decide +kernel) (Nat.le_of_ble_eq_true rfl) rfl rfl (fun rng => ?_)
    refine v_iload_n dX5_lay_0 rfl ?_
    refine v_if_ne hkd dX5_lay_1 (fun h => by exfalso; omega) (fun hb1 => ?_)
    refine v_vret rfl (by decide) (by decide) dX5_lay_4 ⟨rfl, ?_⟩
    exact ⟨hσ, offS.rf⟩
  · have eL : xLay σ kd = if (xLay0 σ kd).1 = 0 then xLayP (xLay0 σ kd) kd else xLay0 σ kd := if_neg k0
    rw [eL]
    by_cases k2 : kd = 2
    · have ew : (if kd = 2 then 2 else 1 : Int) = 2 := if_pos k2
      by_cases hh : 8 < σ.2.1 + 2
      · have e0 : xLay0 σ kd = xBrk σ 1 := by unfold xLay0; rw [ew, if_pos hh]
        rw [e0, if_neg (xBrk_ne (by decide))]
        refine w_Ct.of (ls := [some (.ref s), some (iv kd), none]) (by decide +kernel) (Nat.le_of_ble_eq_true rfl) rfl rfl (fun rng => ?_)
        refine v_iload_n dX5_lay_0 rfl ?_
        refine v_if_ne hkd dX5_lay_1 (fun hb1 => ?_) (fun h => by exfalso; omega)
        refine v_aload_n dX5_lay_5 rfl ?_
        refine v_getR fX5_12 rfl (by assumption) (by assumption) dX5_lay_6 ?_
        refine v_getI' (v := ((d : Nat) : Int)) (hσ.2.1.1.trans hd) fX5_133 rfl hF.1 dX5_lay_9 ?_
        refine v_iload_n dX5_lay_12 rfl ?_
        refine v_iconst dX5_lay_13 ?_
        refine v_icmp_ne hkd ⟨by decide, by decide⟩ dX5_lay_14 (fun h => by exfalso; omega) (fun hb14 => ?_)
        refine v_iconst dX5_lay_17 ?_
        refine v_goto dX5_lay_18 ?_
        refine v_iadd dX5_lay_22 ?_
        refine v_istore_n dX5_lay_23 (by decide) rfl ?_
        refine v_iload_n dX5_lay_24 rfl ?_
        refine v_bipush dX5_lay_25 (by decide) ?_
        refine v_icmp_le ⟨by omega, by omega⟩ ⟨by decide, by decide⟩ dX5_lay_27 (fun h => by exfalso; omega) (fun hb27 => ?_)
        refine v_aload_n dX5_lay_30 rfl ?_
        refine v_iconst dX5_lay_31 ?_
        refine v_Vv (tX5_breakRule hS0 hcs hQ hσ ⟨by decide, by decide⟩) kX5_130 (by assumption) rfl rfl ⟨by decide, by decide⟩ ⟨by decide, by decide⟩ (Nat.le_of_ble_eq_true rfl) dX5_lay_32 (fun G9 J1 pJ1 rng2 => ?_)
        obtain ⟨rfl, sJ1, oJ1⟩ := pJ1
        have OJ1 := (offS.rf).tr oJ1
        have QJ1 := clsOK.offS hQ hcs OJ1
        refine v_aload_n dX5_lay_35 rfl ?_
        refine v_getI' (v := (xBrk (σ) 1).1) sJ1.1 fX5_38 rfl (by assumption) dX5_lay_36 ?_
        refine v_if_eq (by rw [← sJ1.1]; exact rng2 _ _) dX5_lay_39 (fun h => absurd h (xBrk_ne (by decide))) (fun hb39 => ?_)
        refine v_vret rfl (by decide) (by decide) dX5_lay_42 ⟨rfl, ?_⟩
        exact ⟨sJ1, OJ1⟩
      · have e0 : xLay0 σ kd = σ := by unfold xLay0; rw [ew, if_neg hh]
        by_cases hr : σ.1 = 0
        · rw [e0, if_pos hr]
          refine w_Ct.of (ls := [some (.ref s), some (iv kd), none]) (by decide +kernel) (Nat.le_of_ble_eq_true rfl) rfl rfl (fun rng => ?_)
          refine v_iload_n dX5_lay_0 rfl ?_
          refine v_if_ne hkd dX5_lay_1 (fun hb1 => ?_) (fun h => by exfalso; omega)
          refine v_aload_n dX5_lay_5 rfl ?_
          refine v_getR fX5_12 rfl (by assumption) (by assumption) dX5_lay_6 ?_
          refine v_getI' (v := ((d : Nat) : Int)) (hσ.2.1.1.trans hd) fX5_133 rfl hF.1 dX5_lay_9 ?_
          refine v_iload_n dX5_lay_12 rfl ?_
          refine v_iconst dX5_lay_13 ?_
          refine v_icmp_ne hkd ⟨by decide, by decide⟩ dX5_lay_14 (fun h => by exfalso; omega) (fun hb14 => ?_)
          refine v_iconst dX5_lay_17 ?_
          refine v_goto dX5_lay_18 ?_
          refine v_iadd dX5_lay_22 ?_
          refine v_istore_n dX5_lay_23 (by decide) rfl ?_
          refine v_iload_n dX5_lay_24 rfl ?_
          refine v_bipush dX5_lay_25 (by decide) ?_
          refine v_icmp_le ⟨by omega, by omega⟩ ⟨by decide, by decide⟩ dX5_lay_27 (fun hb27 => ?_) (fun h => by exfalso; omega)
          refine v_aload_n dX5_lay_35 rfl ?_
          refine v_getI' (v := (σ).1) hσ.1 fX5_38 rfl (by assumption) dX5_lay_36 ?_
          refine v_if_eq (by rw [← hσ.1]; exact rng _ _) dX5_lay_39 (fun hb39 => ?_) (fun h => by exfalso; omega)
          refine v_aload_n dX5_lay_43 rfl ?_
          refine v_getR fX5_12 rfl (by assumption) (by assumption) dX5_lay_44 ?_
          refine v_getR fX5_150 rfl hF.1 hF.2.2.1 dX5_lay_47 ?_
          refine v_aload_n dX5_lay_50 rfl ?_
          refine v_getR fX5_12 rfl (by assumption) (by assumption) dX5_lay_51 ?_
          refine v_getI' (v := ((d : Nat) : Int)) (hσ.2.1.1.trans hd) fX5_133 rfl hF.1 dX5_lay_54 ?_
          refine v_iload_n dX5_lay_57 rfl ?_
          refine v_iast (i := d) hF.2.2.2.2 rfl (by omega) (by omega) hkd dX5_lay_58 ?_
          have rng1 := w_rng (a := s + 1 + 2) (f := d) rng (show inR (kd) from hkd)
          refine v_iload_n dX5_lay_59 rfl ?_
          refine v_iconst dX5_lay_60 ?_
          refine v_icmp_ne hkd ⟨by decide, by decide⟩ dX5_lay_61 (fun h => by exfalso; omega) (fun hb61 => ?_)
          refine v_aload_n dX5_lay_64 rfl ?_
          refine v_getR fX5_12 rfl (by assumption) (by assumption) dX5_lay_65 ?_
          refine v_getR fX5_150 rfl hF.1 hF.2.2.1 dX5_lay_68 ?_
          refine v_aload_n dX5_lay_71 rfl ?_
          refine v_getR fX5_12 rfl (by assumption) (by assumption) dX5_lay_72 ?_
          refine v_getI' (v := ((d : Nat) : Int)) (by rw [w_up_n (by omega), (hσ.2.1.1.trans hd)]) fX5_133 rfl hF.1 dX5_lay_75 ?_
          refine v_iconst dX5_lay_78 ?_
          refine v_iadd dX5_lay_79 ?_
          refine v_iconst dX5_lay_80 ?_
          refine v_iast (i := (d + 1)) hF.2.2.2.2 (by omega) (by omega) (by omega) ⟨by decide, by decide⟩ dX5_lay_81 ?_
          have rng2 := w_rng (a := s + 1 + 2) (f := (d + 1)) rng1 (show inR (3) from ⟨by decide, by decide⟩)
          refine v_aload_n dX5_lay_82 rfl ?_
          refine v_getR fX5_12 rfl (by assumption) (by assumption) dX5_lay_83 ?_
          refine v_iload_n dX5_lay_86 rfl ?_
          refine v_putI fX5_133 p2_2 rfl ⟨by omega, by omega⟩ hF.1 dX5_lay_87 ?_
          have rng3 := w_rng (a := s + 1) (f := 2) rng2 (show inR ((((d : Nat) : Int) + 2)) from ⟨by omega, by omega⟩)
          subst k2
          have g := hσ.layP2 hd (by omega)
          rw [hd] at g
          exact v_vret rfl (by decide) (by decide) dX5_lay_90 ⟨rfl, g⟩
        · rw [e0, if_neg hr]
          refine w_Ct.of (ls := [some (.ref s), some (iv kd), none]) (by decide +kernel) (Nat.le_of_ble_eq_true rfl) rfl rfl (fun rng => ?_)
          refine v_iload_n dX5_lay_0 rfl ?_
          refine v_if_ne hkd dX5_lay_1 (fun hb1 => ?_) (fun h => by exfalso; omega)
          refine v_aload_n dX5_lay_5 rfl ?_
          refine v_getR fX5_12 rfl (by assumption) (by assumption) dX5_lay_6 ?_
          refine v_getI' (v := ((d : Nat) : Int)) (hσ.2.1.1.trans hd) fX5_133 rfl hF.1 dX5_lay_9 ?_
          refine v_iload_n dX5_lay_12 rfl ?_
          refine v_iconst dX5_lay_13 ?_
          refine v_icmp_ne hkd ⟨by decide, by decide⟩ dX5_lay_14 (fun h => by exfalso; omega) (fun hb14 => ?_)
          refine v_iconst dX5_lay_17 ?_
          refine v_goto dX5_lay_18 ?_
          refine v_iadd dX5_lay_22 ?_
          refine v_istore_n dX5_lay_23 (by decide) rfl ?_
          refine v_iload_n dX5_lay_24 rfl ?_
          refine v_bipush dX5_lay_25 (by decide) ?_
          refine v_icmp_le ⟨by omega, by omega⟩ ⟨by decide, by decide⟩ dX5_lay_27 (fun hb27 => ?_) (fun h => by exfalso; omega)
          refine v_aload_n dX5_lay_35 rfl ?_
          refine v_getI' (v := (σ).1) hσ.1 fX5_38 rfl (by assumption) dX5_lay_36 ?_
          refine v_if_eq (by rw [← hσ.1]; exact rng _ _) dX5_lay_39 (fun h => by exfalso; omega) (fun hb39 => ?_)
          refine v_vret rfl (by decide) (by decide) dX5_lay_42 ⟨rfl, ?_⟩
          exact ⟨hσ, offS.rf⟩
    · have ew : (if kd = 2 then 2 else 1 : Int) = 1 := if_neg k2
      by_cases hh : 8 < σ.2.1 + 1
      · have e0 : xLay0 σ kd = xBrk σ 1 := by unfold xLay0; rw [ew, if_pos hh]
        rw [e0, if_neg (xBrk_ne (by decide))]
        refine w_Ct.of (ls := [some (.ref s), some (iv kd), none]) (by decide +kernel) (Nat.le_of_ble_eq_true rfl) rfl rfl (fun rng => ?_)
        refine v_iload_n dX5_lay_0 rfl ?_
        refine v_if_ne hkd dX5_lay_1 (fun hb1 => ?_) (fun h => by exfalso; omega)
        refine v_aload_n dX5_lay_5 rfl ?_
        refine v_getR fX5_12 rfl (by assumption) (by assumption) dX5_lay_6 ?_
        refine v_getI' (v := ((d : Nat) : Int)) (hσ.2.1.1.trans hd) fX5_133 rfl hF.1 dX5_lay_9 ?_
        refine v_iload_n dX5_lay_12 rfl ?_
        refine v_iconst dX5_lay_13 ?_
        refine v_icmp_ne hkd ⟨by decide, by decide⟩ dX5_lay_14 (fun hb14 => ?_) (fun h => by exfalso; omega)
        refine v_iconst dX5_lay_21 ?_
        refine v_iadd dX5_lay_22 ?_
        refine v_istore_n dX5_lay_23 (by decide) rfl ?_
        refine v_iload_n dX5_lay_24 rfl ?_
        refine v_bipush dX5_lay_25 (by decide) ?_
        refine v_icmp_le ⟨by omega, by omega⟩ ⟨by decide, by decide⟩ dX5_lay_27 (fun h => by exfalso; omega) (fun hb27 => ?_)
        refine v_aload_n dX5_lay_30 rfl ?_
        refine v_iconst dX5_lay_31 ?_
        refine v_Vv (tX5_breakRule hS0 hcs hQ hσ ⟨by decide, by decide⟩) kX5_130 (by assumption) rfl rfl ⟨by decide, by decide⟩ ⟨by decide, by decide⟩ (Nat.le_of_ble_eq_true rfl) dX5_lay_32 (fun G9 J1 pJ1 rng2 => ?_)
        obtain ⟨rfl, sJ1, oJ1⟩ := pJ1
        have OJ1 := (offS.rf).tr oJ1
        have QJ1 := clsOK.offS hQ hcs OJ1
        refine v_aload_n dX5_lay_35 rfl ?_
        refine v_getI' (v := (xBrk (σ) 1).1) sJ1.1 fX5_38 rfl (by assumption) dX5_lay_36 ?_
        refine v_if_eq (by rw [← sJ1.1]; exact rng2 _ _) dX5_lay_39 (fun h => absurd h (xBrk_ne (by decide))) (fun hb39 => ?_)
        refine v_vret rfl (by decide) (by decide) dX5_lay_42 ⟨rfl, ?_⟩
        exact ⟨sJ1, OJ1⟩
      · have e0 : xLay0 σ kd = σ := by unfold xLay0; rw [ew, if_neg hh]
        by_cases hr : σ.1 = 0
        · rw [e0, if_pos hr]
          refine w_Ct.of (ls := [some (.ref s), some (iv kd), none]) (by decide +kernel) (Nat.le_of_ble_eq_true rfl) rfl rfl (fun rng => ?_)
          refine v_iload_n dX5_lay_0 rfl ?_
          refine v_if_ne hkd dX5_lay_1 (fun hb1 => ?_) (fun h => by exfalso; omega)
          refine v_aload_n dX5_lay_5 rfl ?_
          refine v_getR fX5_12 rfl (by assumption) (by assumption) dX5_lay_6 ?_
          refine v_getI' (v := ((d : Nat) : Int)) (hσ.2.1.1.trans hd) fX5_133 rfl hF.1 dX5_lay_9 ?_
          refine v_iload_n dX5_lay_12 rfl ?_
          refine v_iconst dX5_lay_13 ?_
          refine v_icmp_ne hkd ⟨by decide, by decide⟩ dX5_lay_14 (fun hb14 => ?_) (fun h => by exfalso; omega)
          refine v_iconst dX5_lay_21 ?_
          refine v_iadd dX5_lay_22 ?_
          refine v_istore_n dX5_lay_23 (by decide) rfl ?_
          refine v_iload_n dX5_lay_24 rfl ?_
          refine v_bipush dX5_lay_25 (by decide) ?_
          refine v_icmp_le ⟨by omega, by omega⟩ ⟨by decide, by decide⟩ dX5_lay_27 (fun hb27 => ?_) (fun h => by exfalso; omega)
          refine v_aload_n dX5_lay_35 rfl ?_
          refine v_getI' (v := (σ).1) hσ.1 fX5_38 rfl (by assumption) dX5_lay_36 ?_
          refine v_if_eq (by rw [← hσ.1]; exact rng _ _) dX5_lay_39 (fun hb39 => ?_) (fun h => by exfalso; omega)
          refine v_aload_n dX5_lay_43 rfl ?_
          refine v_getR fX5_12 rfl (by assumption) (by assumption) dX5_lay_44 ?_
          refine v_getR fX5_150 rfl hF.1 hF.2.2.1 dX5_lay_47 ?_
          refine v_aload_n dX5_lay_50 rfl ?_
          refine v_getR fX5_12 rfl (by assumption) (by assumption) dX5_lay_51 ?_
          refine v_getI' (v := ((d : Nat) : Int)) (hσ.2.1.1.trans hd) fX5_133 rfl hF.1 dX5_lay_54 ?_
          refine v_iload_n dX5_lay_57 rfl ?_
          refine v_iast (i := d) hF.2.2.2.2 rfl (by omega) (by omega) hkd dX5_lay_58 ?_
          have rng1 := w_rng (a := s + 1 + 2) (f := d) rng (show inR (kd) from hkd)
          refine v_iload_n dX5_lay_59 rfl ?_
          refine v_iconst dX5_lay_60 ?_
          refine v_icmp_ne hkd ⟨by decide, by decide⟩ dX5_lay_61 (fun hb61 => ?_) (fun h => by exfalso; omega)
          refine v_aload_n dX5_lay_82 rfl ?_
          refine v_getR fX5_12 rfl (by assumption) (by assumption) dX5_lay_83 ?_
          refine v_iload_n dX5_lay_86 rfl ?_
          refine v_putI fX5_133 p2_2 rfl ⟨by omega, by omega⟩ hF.1 dX5_lay_87 ?_
          have rng2 := w_rng (a := s + 1) (f := 2) rng1 (show inR ((((d : Nat) : Int) + 1)) from ⟨by omega, by omega⟩)
          have g := hσ.layP (kd := kd) hd (by omega) k2
          rw [hd] at g
          exact v_vret rfl (by decide) (by decide) dX5_lay_90 ⟨rfl, g⟩
        · rw [e0, if_neg hr]
          refine w_Ct.of (ls := [some (.ref s), some (iv kd), none]) (by decide +kernel) (Nat.le_of_ble_eq_true rfl) rfl rfl (fun rng => ?_)
          refine v_iload_n dX5_lay_0 rfl ?_
          refine v_if_ne hkd dX5_lay_1 (fun hb1 => ?_) (fun h => by exfalso; omega)
          refine v_aload_n dX5_lay_5 rfl ?_
          refine v_getR fX5_12 rfl (by assumption) (by assumption) dX5_lay_6 ?_
          refine v_getI' (v := ((d : Nat) : Int)) (hσ.2.1.1.trans hd) fX5_133 rfl hF.1 dX5_lay_9 ?_
          refine v_iload_n dX5_lay_12 rfl ?_
          refine v_iconst dX5_lay_13 ?_
          refine v_icmp_ne hkd ⟨by decide, by decide⟩ dX5_lay_14 (fun hb14 => ?_) (fun h => by exfalso; omega)
          refine v_iconst dX5_lay_21 ?_
          refine v_iadd dX5_lay_22 ?_
          refine v_istore_n dX5_lay_23 (by decide) rfl ?_
          refine v_iload_n dX5_lay_24 rfl ?_
          refine v_bipush dX5_lay_25 (by decide) ?_
          refine v_icmp_le ⟨by omega, by omega⟩ ⟨by decide, by decide⟩ dX5_lay_27 (fun hb27 => ?_) (fun h => by exfalso; omega)
          refine v_aload_n dX5_lay_35 rfl ?_
          refine v_getI' (v := (σ).1) hσ.1 fX5_38 rfl (by assumption) dX5_lay_36 ?_
          refine v_if_eq (by rw [← hσ.1]; exact rng _ _) dX5_lay_39 (fun h => by exfalso; omega) (fun hb39 => ?_)
          refine v_vret rfl (by decide) (by decide) dX5_lay_42 ⟨rfl, ?_⟩
          exact ⟨hσ, offS.rf⟩
theorem tX5_put {E : w_E} {G : w_Sh} {I : w_Mm} {s q c : Nat} {Q : cS} {σ : sS} (hS : isS G s q c) (hcs : c + 3 ≤ s) (hQ : clsOK I c Q) (hσ : stOK I s σ) {i : Nat} {kd : Int} (hi : i < 8) (hkd : inR kd) : w_Ct E mX5_put 2 [.ref s, iv (i : Int), iv kd] G I 0 0 (w_Pv (fun G' J => G' = G ∧ stOK J s (xPut σ i kd) ∧ offS I J s)) := by
  have hS0 := hS
  obtain ⟨hTs, hRs0, hRs1, hK, hF⟩ := hS
  refine w_Ct.of (ls := [some (.ref s), some (iv (i : Int)), some (iv kd)]) (by decide +kernel) (Nat.le_of_ble_eq_true rfl) rfl rfl (fun rng => ?_)
  refine v_aload_n dX5_put_0 rfl ?_
  refine v_getI' (v := (σ).1) hσ.1 fX5_38 rfl (by assumption) dX5_put_1 ?_
  refine v_if_ne (by rw [← hσ.1]; exact rng _ _) dX5_put_4 (fun h1 => ?_) (fun h1 => ?_)
  · refine v_vret rfl (by decide) (by decide) dX5_put_25 ⟨rfl, ?_⟩
    rw [show xPut σ i kd = σ from if_neg h1]; exact ⟨hσ, offS.rf⟩
  · refine v_aload_n dX5_put_7 rfl ?_
    refine v_getR fX5_12 rfl (by assumption) (by assumption) dX5_put_8 ?_
    refine v_iload_n dX5_put_11 rfl ?_
    refine v_Vv (tX2_breakLong hF hσ.2.1 ⟨by omega, by omega⟩ (by omega)) kX5_153 hF.1 rfl rfl ⟨by decide, by decide⟩ ⟨by decide, by decide⟩ (Nat.le_of_ble_eq_true rfl) dX5_put_12 (fun G9 J2 pJ2 rng3 => ?_)
    obtain ⟨rfl, fJ2, oJ2⟩ := pJ2
    refine v_aload_n dX5_put_15 rfl ?_
    refine v_getR fX5_12 rfl (by assumption) (by assumption) dX5_put_16 ?_
    refine v_getR fX5_63 rfl hF.1 hF.2.1 dX5_put_19 ?_
    refine v_iload_n dX5_put_22 rfl ?_
    refine v_iload_n dX5_put_23 rfl ?_
    refine v_iast (i := i) hF.2.2.2.1 rfl (by omega) (by omega) hkd dX5_put_24 ?_
    have rng4 := w_rng (a := s + 1 + 1) (f := i) rng3 (show inR (kd) from hkd)
    refine v_vret rfl (by decide) (by decide) dX5_put_25 ⟨rfl, ?_⟩
    rw [show xPut σ i kd = (σ.1, (σ.2.1, uL (brkL σ.2.2.1 (i : Int)) i kd, σ.2.2.2)) from if_pos h1]; exact hσ.put fJ2 oJ2 hi
theorem tX5_putLong {E : w_E} {G : w_Sh} {I : w_Mm} {s q c : Nat} {Q : cS} {σ : sS} (hS : isS G s q c) (hcs : c + 3 ≤ s) (hQ : clsOK I c Q) (hσ : stOK I s σ) {i : Nat} (hi : i < 7) : w_Ct E mX5_putLong 3 [.ref s, iv (i : Int)] G I 0 0 (w_Pv (fun G' J => G' = G ∧ stOK J s (xPutL σ i) ∧ offS I J s)) := by
  have hS0 := hS
  obtain ⟨hTs, hRs0, hRs1, hK, hF⟩ := hS
  refine w_Ct.of (ls := [some (.ref s), some (iv (i : Int))]) (by decide +kernel) (Nat.le_of_ble_eq_true rfl) rfl rfl (fun rng => ?_)
  refine v_aload_n dX5_putLong_0 rfl ?_
  refine v_iload_n dX5_putLong_1 rfl ?_
  refine v_iconst dX5_putLong_2 ?_
  refine v_Vv (tX5_put hS0 hcs hQ hσ (i := i) (by omega) ⟨by decide, by decide⟩) kX5_77 (by assumption) rfl rfl ⟨by decide, by decide⟩ ⟨by decide, by decide⟩ (Nat.le_of_ble_eq_true rfl) dX5_putLong_3 (fun G9 J1 pJ1 rng2 => ?_)
  obtain ⟨rfl, sJ1, oJ1⟩ := pJ1
  have OJ1 := (offS.rf).tr oJ1
  have QJ1 := clsOK.offS hQ hcs OJ1
  refine v_aload_n dX5_putLong_6 rfl ?_
  refine v_iload_n dX5_putLong_7 rfl ?_
  refine v_iconst dX5_putLong_8 ?_
  refine v_iadd dX5_putLong_9 ?_
  refine v_iconst dX5_putLong_10 ?_
  refine v_Vv (tX5_put hS0 hcs QJ1 sJ1 (i := (i + 1)) (by omega) ⟨by decide, by decide⟩) kX5_77 (by assumption) rfl rfl ⟨by decide, by decide⟩ ⟨by decide, by decide⟩ (Nat.le_of_ble_eq_true rfl) dX5_putLong_11 (fun G9 J3 pJ3 rng4 => ?_)
  obtain ⟨rfl, sJ3, oJ3⟩ := pJ3
  have OJ3 := (OJ1).tr oJ3
  have QJ3 := clsOK.offS hQ hcs OJ3
  refine v_vret rfl (by decide) (by decide) dX5_putLong_14 ⟨rfl, ?_⟩
  unfold xPutL
  exact ⟨sJ3, OJ3⟩
