/-! ===== the reference: kinds ===== -/
theorem tX9_fitsKind {E : w_E} {G : w_Sh} {I : w_Mm} {y : Nat} {Q : cS} (hY : isY G y) (hQ : clsY I y Q) {k l : Int} (hk : knownK Q k) (hl : knownK Q l) : w_Cb E mX9_fitsKind 2 [.ref y, iv k, iv l] G I (fitK Q k l) := by
  obtain ⟨hTy, hYr⟩ := hY
  have hQ0 := hQ
  obtain ⟨hq0, hq2, hq16, hqF, hch⟩ := hQ
  have hkr : inR k := ⟨by omega, by omega⟩
  have hlr : inR l := ⟨by omega, by omega⟩
  refine w_Ct.of (ls := [some (.ref y), some (iv k), some (iv l)]) (by decide +kernel) (Nat.le_of_ble_eq_true rfl) rfl rfl (fun rng => ?_)
  refine v_iload_n dX9_fitsKind_0 rfl ?_
  refine v_iload_n dX9_fitsKind_1 rfl ?_
  refine v_icmp_eq hkr hlr dX9_fitsKind_2 (fun h1 => ?_) (fun h1 => ?_)
  · refine v_iconst dX9_fitsKind_17 ?_
    exact v_zret rfl (by decide) (by decide) (Or.inr rfl) dX9_fitsKind_18 ⟨rfl, rfl, Or.inl ⟨rfl, by omega⟩⟩
  · refine v_iload_n dX9_fitsKind_5 rfl ?_
    refine v_iconst dX9_fitsKind_6 ?_
    refine v_icmp_ne hkr ⟨by decide, by decide⟩ dX9_fitsKind_7 (fun h2 => ?_) (fun h2 => ?_)
    · refine v_aload_n dX9_fitsKind_19 rfl ?_
      refine v_iload_n dX9_fitsKind_20 rfl ?_
      refine v_Vb (tX9_isThing (⟨hTy, hYr⟩ : isY G y) hQ0 hkr) kX9_117 hTy rfl rfl ⟨by decide, by decide⟩ ⟨by decide, by decide⟩ (Nat.le_of_ble_eq_true rfl) dX9_fitsKind_21 (fun h3 => ?_) (fun h3 => ?_)
      · refine v_if_eq ⟨by decide, by decide⟩ dX9_fitsKind_24 (fun h => by exfalso; omega) (fun hb24 => ?_)
        refine v_aload_n dX9_fitsKind_27 rfl ?_
        refine v_iload_n dX9_fitsKind_28 rfl ?_
        refine v_Vb (tX9_isThing (⟨hTy, hYr⟩ : isY G y) hQ0 hlr) kX9_117 hTy rfl rfl ⟨by decide, by decide⟩ ⟨by decide, by decide⟩ (Nat.le_of_ble_eq_true rfl) dX9_fitsKind_29 (fun h4 => ?_) (fun h4 => ?_)
        · refine v_if_eq ⟨by decide, by decide⟩ dX9_fitsKind_32 (fun h => by exfalso; omega) (fun hb32 => ?_)
          refine v_aload_n dX9_fitsKind_35 rfl ?_
          refine v_iload_n dX9_fitsKind_36 rfl ?_
          refine v_bipush dX9_fitsKind_37 (by decide) ?_
          refine v_isub dX9_fitsKind_39 ?_
          refine v_iload_n dX9_fitsKind_40 rfl ?_
          refine v_bipush dX9_fitsKind_41 (by decide) ?_
          refine v_isub dX9_fitsKind_43 ?_
          refine v_Vb (tX9_fitsClass (⟨hTy, hYr⟩ : isY G y) hQ0 (by omega) (by omega)) kX9_111 hTy rfl rfl ⟨by decide, by decide⟩ ⟨by decide, by decide⟩ (Nat.le_of_ble_eq_true rfl) dX9_fitsKind_44 (fun h5 => ?_) (fun h5 => ?_)
          · exact v_zret rfl (by decide) (by decide) (Or.inr rfl) dX9_fitsKind_47 ⟨rfl, rfl, Or.inl ⟨rfl, by omega⟩⟩
          · exact v_zret rfl (by decide) (by decide) (Or.inl rfl) dX9_fitsKind_47 ⟨rfl, rfl, Or.inr ⟨rfl, by omega⟩⟩
        · refine v_if_eq ⟨by decide, by decide⟩ dX9_fitsKind_32 (fun hb32 => ?_) (fun h => by exfalso; omega)
          refine v_aload_n dX9_fitsKind_48 rfl ?_
          refine v_iload_n dX9_fitsKind_49 rfl ?_
          refine v_Vb (tX9_isThings (⟨hTy, hYr⟩ : isY G y) hQ0 hkr) kX9_120 hTy rfl rfl ⟨by decide, by decide⟩ ⟨by decide, by decide⟩ (Nat.le_of_ble_eq_true rfl) dX9_fitsKind_50 (fun h6 => ?_) (fun h6 => ?_)
          · refine v_if_eq ⟨by decide, by decide⟩ dX9_fitsKind_53 (fun h => by exfalso; omega) (fun hb53 => ?_)
            refine v_aload_n dX9_fitsKind_56 rfl ?_
            refine v_iload_n dX9_fitsKind_57 rfl ?_
            refine v_Vb (tX9_isThings (⟨hTy, hYr⟩ : isY G y) hQ0 hlr) kX9_120 hTy rfl rfl ⟨by decide, by decide⟩ ⟨by decide, by decide⟩ (Nat.le_of_ble_eq_true rfl) dX9_fitsKind_58 (fun h7 => ?_) (fun h7 => ?_)
            · refine v_if_eq ⟨by decide, by decide⟩ dX9_fitsKind_61 (fun h => by exfalso; omega) (fun hb61 => ?_)
              refine v_aload_n dX9_fitsKind_64 rfl ?_
              refine v_iload_n dX9_fitsKind_65 rfl ?_
              refine v_bipush dX9_fitsKind_66 (by decide) ?_
              refine v_isub dX9_fitsKind_68 ?_
              refine v_iload_n dX9_fitsKind_69 rfl ?_
              refine v_bipush dX9_fitsKind_70 (by decide) ?_
              refine v_isub dX9_fitsKind_72 ?_
              refine v_Vb (tX9_fitsClass (⟨hTy, hYr⟩ : isY G y) hQ0 (by omega) (by omega)) kX9_111 hTy rfl rfl ⟨by decide, by decide⟩ ⟨by decide, by decide⟩ (Nat.le_of_ble_eq_true rfl) dX9_fitsKind_73 (fun h8 => ?_) (fun h8 => ?_)
              · exact v_zret rfl (by decide) (by decide) (Or.inr rfl) dX9_fitsKind_76 ⟨rfl, rfl, Or.inl ⟨rfl, by omega⟩⟩
              · exact v_zret rfl (by decide) (by decide) (Or.inl rfl) dX9_fitsKind_76 ⟨rfl, rfl, Or.inr ⟨rfl, by omega⟩⟩
            · refine v_if_eq ⟨by decide, by decide⟩ dX9_fitsKind_61 (fun hb61 => ?_) (fun h => by exfalso; omega)
              refine v_iload_n dX9_fitsKind_77 rfl ?_
              refine v_iconst dX9_fitsKind_78 ?_
              refine v_icmp_eq hkr ⟨by decide, by decide⟩ dX9_fitsKind_79 (fun h9 => ?_) (fun h9 => ?_)
              · refine v_iload_n dX9_fitsKind_90 rfl ?_
                refine v_bipush dX9_fitsKind_91 (by decide) ?_
                refine v_icmp_ne hlr ⟨by decide, by decide⟩ dX9_fitsKind_93 (fun h10 => ?_) (fun h10 => ?_)
                · refine v_iconst dX9_fitsKind_100 ?_
                  exact v_zret rfl (by decide) (by decide) (Or.inl rfl) dX9_fitsKind_101 ⟨rfl, rfl, Or.inr ⟨rfl, by omega⟩⟩
                · refine v_iconst dX9_fitsKind_96 ?_
                  refine v_goto dX9_fitsKind_97 ?_
                  exact v_zret rfl (by decide) (by decide) (Or.inr rfl) dX9_fitsKind_101 ⟨rfl, rfl, Or.inl ⟨rfl, by omega⟩⟩
              · refine v_aload_n dX9_fitsKind_82 rfl ?_
                refine v_iload_n dX9_fitsKind_83 rfl ?_
                refine v_Vb (tX9_isThings (⟨hTy, hYr⟩ : isY G y) hQ0 hkr) kX9_120 hTy rfl rfl ⟨by decide, by decide⟩ ⟨by decide, by decide⟩ (Nat.le_of_ble_eq_true rfl) dX9_fitsKind_84 (fun h11 => ?_) (fun h11 => ?_)
                · refine v_if_eq ⟨by decide, by decide⟩ dX9_fitsKind_87 (fun h => by exfalso; omega) (fun hb87 => ?_)
                  refine v_iload_n dX9_fitsKind_90 rfl ?_
                  refine v_bipush dX9_fitsKind_91 (by decide) ?_
                  refine v_icmp_ne hlr ⟨by decide, by decide⟩ dX9_fitsKind_93 (fun h12 => ?_) (fun h12 => ?_)
                  · refine v_iconst dX9_fitsKind_100 ?_
                    exact v_zret rfl (by decide) (by decide) (Or.inl rfl) dX9_fitsKind_101 ⟨rfl, rfl, Or.inr ⟨rfl, by omega⟩⟩
                  · refine v_iconst dX9_fitsKind_96 ?_
                    refine v_goto dX9_fitsKind_97 ?_
                    exact v_zret rfl (by decide) (by decide) (Or.inr rfl) dX9_fitsKind_101 ⟨rfl, rfl, Or.inl ⟨rfl, by omega⟩⟩
                · refine v_if_eq ⟨by decide, by decide⟩ dX9_fitsKind_87 (fun hb87 => ?_) (fun h => by exfalso; omega)
                  refine v_iconst dX9_fitsKind_100 ?_
                  exact v_zret rfl (by decide) (by decide) (Or.inl rfl) dX9_fitsKind_101 ⟨rfl, rfl, Or.inr ⟨rfl, by omega⟩⟩
          · refine v_if_eq ⟨by decide, by decide⟩ dX9_fitsKind_53 (fun hb53 => ?_) (fun h => by exfalso; omega)
            refine v_iload_n dX9_fitsKind_77 rfl ?_
            refine v_iconst dX9_fitsKind_78 ?_
            refine v_icmp_eq hkr ⟨by decide, by decide⟩ dX9_fitsKind_79 (fun h13 => ?_) (fun h13 => ?_)
            · refine v_iload_n dX9_fitsKind_90 rfl ?_
              refine v_bipush dX9_fitsKind_91 (by decide) ?_
              refine v_icmp_ne hlr ⟨by decide, by decide⟩ dX9_fitsKind_93 (fun h14 => ?_) (fun h14 => ?_)
              · refine v_iconst dX9_fitsKind_100 ?_
                exact v_zret rfl (by decide) (by decide) (Or.inl rfl) dX9_fitsKind_101 ⟨rfl, rfl, Or.inr ⟨rfl, by omega⟩⟩
              · refine v_iconst dX9_fitsKind_96 ?_
                refine v_goto dX9_fitsKind_97 ?_
                exact v_zret rfl (by decide) (by decide) (Or.inr rfl) dX9_fitsKind_101 ⟨rfl, rfl, Or.inl ⟨rfl, by omega⟩⟩
            · refine v_aload_n dX9_fitsKind_82 rfl ?_
              refine v_iload_n dX9_fitsKind_83 rfl ?_
              refine v_Vb (tX9_isThings (⟨hTy, hYr⟩ : isY G y) hQ0 hkr) kX9_120 hTy rfl rfl ⟨by decide, by decide⟩ ⟨by decide, by decide⟩ (Nat.le_of_ble_eq_true rfl) dX9_fitsKind_84 (fun h15 => ?_) (fun h15 => ?_)
              · refine v_if_eq ⟨by decide, by decide⟩ dX9_fitsKind_87 (fun h => by exfalso; omega) (fun hb87 => ?_)
                refine v_iload_n dX9_fitsKind_90 rfl ?_
                refine v_bipush dX9_fitsKind_91 (by decide) ?_
                refine v_icmp_ne hlr ⟨by decide, by decide⟩ dX9_fitsKind_93 (fun h16 => ?_) (fun h16 => ?_)
                · refine v_iconst dX9_fitsKind_100 ?_
                  exact v_zret rfl (by decide) (by decide) (Or.inl rfl) dX9_fitsKind_101 ⟨rfl, rfl, Or.inr ⟨rfl, by omega⟩⟩
                · refine v_iconst dX9_fitsKind_96 ?_
                  refine v_goto dX9_fitsKind_97 ?_
                  exact v_zret rfl (by decide) (by decide) (Or.inr rfl) dX9_fitsKind_101 ⟨rfl, rfl, Or.inl ⟨rfl, by omega⟩⟩
              · refine v_if_eq ⟨by decide, by decide⟩ dX9_fitsKind_87 (fun hb87 => ?_) (fun h => by exfalso; omega)
                refine v_iconst dX9_fitsKind_100 ?_
                exact v_zret rfl (by decide) (by decide) (Or.inl rfl) dX9_fitsKind_101 ⟨rfl, rfl, Or.inr ⟨rfl, by omega⟩⟩
      · refine v_if_eq ⟨by decide, by decide⟩ dX9_fitsKind_24 (fun hb24 => ?_) (fun h => by exfalso; omega)
        refine v_aload_n dX9_fitsKind_48 rfl ?_
        refine v_iload_n dX9_fitsKind_49 rfl ?_
        refine v_Vb (tX9_isThings (⟨hTy, hYr⟩ : isY G y) hQ0 hkr) kX9_120 hTy rfl rfl ⟨by decide, by decide⟩ ⟨by decide, by decide⟩ (Nat.le_of_ble_eq_true rfl) dX9_fitsKind_50 (fun h17 => ?_) (fun h17 => ?_)
        · refine v_if_eq ⟨by decide, by decide⟩ dX9_fitsKind_53 (fun h => by exfalso; omega) (fun hb53 => ?_)
          refine v_aload_n dX9_fitsKind_56 rfl ?_
          refine v_iload_n dX9_fitsKind_57 rfl ?_
          refine v_Vb (tX9_isThings (⟨hTy, hYr⟩ : isY G y) hQ0 hlr) kX9_120 hTy rfl rfl ⟨by decide, by decide⟩ ⟨by decide, by decide⟩ (Nat.le_of_ble_eq_true rfl) dX9_fitsKind_58 (fun h18 => ?_) (fun h18 => ?_)
          · refine v_if_eq ⟨by decide, by decide⟩ dX9_fitsKind_61 (fun h => by exfalso; omega) (fun hb61 => ?_)
            refine v_aload_n dX9_fitsKind_64 rfl ?_
            refine v_iload_n dX9_fitsKind_65 rfl ?_
            refine v_bipush dX9_fitsKind_66 (by decide) ?_
            refine v_isub dX9_fitsKind_68 ?_
            refine v_iload_n dX9_fitsKind_69 rfl ?_
            refine v_bipush dX9_fitsKind_70 (by decide) ?_
            refine v_isub dX9_fitsKind_72 ?_
            refine v_Vb (tX9_fitsClass (⟨hTy, hYr⟩ : isY G y) hQ0 (by omega) (by omega)) kX9_111 hTy rfl rfl ⟨by decide, by decide⟩ ⟨by decide, by decide⟩ (Nat.le_of_ble_eq_true rfl) dX9_fitsKind_73 (fun h19 => ?_) (fun h19 => ?_)
            · exact v_zret rfl (by decide) (by decide) (Or.inr rfl) dX9_fitsKind_76 ⟨rfl, rfl, Or.inl ⟨rfl, by omega⟩⟩
            · exact v_zret rfl (by decide) (by decide) (Or.inl rfl) dX9_fitsKind_76 ⟨rfl, rfl, Or.inr ⟨rfl, by omega⟩⟩
          · refine v_if_eq ⟨by decide, by decide⟩ dX9_fitsKind_61 (fun hb61 => ?_) (fun h => by exfalso; omega)
            refine v_iload_n dX9_fitsKind_77 rfl ?_
            refine v_iconst dX9_fitsKind_78 ?_
            refine v_icmp_eq hkr ⟨by decide, by decide⟩ dX9_fitsKind_79 (fun h20 => ?_) (fun h20 => ?_)
            · refine v_iload_n dX9_fitsKind_90 rfl ?_
              refine v_bipush dX9_fitsKind_91 (by decide) ?_
              refine v_icmp_ne hlr ⟨by decide, by decide⟩ dX9_fitsKind_93 (fun h21 => ?_) (fun h21 => ?_)
              · refine v_iconst dX9_fitsKind_100 ?_
                exact v_zret rfl (by decide) (by decide) (Or.inl rfl) dX9_fitsKind_101 ⟨rfl, rfl, Or.inr ⟨rfl, by omega⟩⟩
              · refine v_iconst dX9_fitsKind_96 ?_
                refine v_goto dX9_fitsKind_97 ?_
                exact v_zret rfl (by decide) (by decide) (Or.inr rfl) dX9_fitsKind_101 ⟨rfl, rfl, Or.inl ⟨rfl, by omega⟩⟩
            · refine v_aload_n dX9_fitsKind_82 rfl ?_
              refine v_iload_n dX9_fitsKind_83 rfl ?_
              refine v_Vb (tX9_isThings (⟨hTy, hYr⟩ : isY G y) hQ0 hkr) kX9_120 hTy rfl rfl ⟨by decide, by decide⟩ ⟨by decide, by decide⟩ (Nat.le_of_ble_eq_true rfl) dX9_fitsKind_84 (fun h22 => ?_) (fun h22 => ?_)
              · refine v_if_eq ⟨by decide, by decide⟩ dX9_fitsKind_87 (fun h => by exfalso; omega) (fun hb87 => ?_)
                refine v_iload_n dX9_fitsKind_90 rfl ?_
                refine v_bipush dX9_fitsKind_91 (by decide) ?_
                refine v_icmp_ne hlr ⟨by decide, by decide⟩ dX9_fitsKind_93 (fun h23 => ?_) (fun h23 => ?_)
                · refine v_iconst dX9_fitsKind_100 ?_
                  exact v_zret rfl (by decide) (by decide) (Or.inl rfl) dX9_fitsKind_101 ⟨rfl, rfl, Or.inr ⟨rfl, by omega⟩⟩
                · refine v_iconst dX9_fitsKind_96 ?_
                  refine v_goto dX9_fitsKind_97 ?_
                  exact v_zret rfl (by decide) (by decide) (Or.inr rfl) dX9_fitsKind_101 ⟨rfl, rfl, Or.inl ⟨rfl, by omega⟩⟩
              · refine v_if_eq ⟨by decide, by decide⟩ dX9_fitsKind_87 (fun hb87 => ?_) (fun h => by exfalso; omega)
                refine v_iconst dX9_fitsKind_100 ?_
                exact v_zret rfl (by decide) (by decide) (Or.inl rfl) dX9_fitsKind_101 ⟨rfl, rfl, Or.inr ⟨rfl, by omega⟩⟩
        · refine v_if_eq ⟨by decide, by decide⟩ dX9_fitsKind_53 (fun hb53 => ?_) (fun h => by exfalso; omega)
          refine v_iload_n dX9_fitsKind_77 rfl ?_
          refine v_iconst dX9_fitsKind_78 ?_
          refine v_icmp_eq hkr ⟨by decide, by decide⟩ dX9_fitsKind_79 (fun h24 => ?_) (fun h24 => ?_)
          · refine v_iload_n dX9_fitsKind_90 rfl ?_
            refine v_bipush dX9_fitsKind_91 (by decide) ?_
            refine v_icmp_ne hlr ⟨by decide, by decide⟩ dX9_fitsKind_93 (fun h25 => ?_) (fun h25 => ?_)
            · refine v_iconst dX9_fitsKind_100 ?_
              exact v_zret rfl (by decide) (by decide) (Or.inl rfl) dX9_fitsKind_101 ⟨rfl, rfl, Or.inr ⟨rfl, by omega⟩⟩
            · refine v_iconst dX9_fitsKind_96 ?_
              refine v_goto dX9_fitsKind_97 ?_
              exact v_zret rfl (by decide) (by decide) (Or.inr rfl) dX9_fitsKind_101 ⟨rfl, rfl, Or.inl ⟨rfl, by omega⟩⟩
          · refine v_aload_n dX9_fitsKind_82 rfl ?_
            refine v_iload_n dX9_fitsKind_83 rfl ?_
            refine v_Vb (tX9_isThings (⟨hTy, hYr⟩ : isY G y) hQ0 hkr) kX9_120 hTy rfl rfl ⟨by decide, by decide⟩ ⟨by decide, by decide⟩ (Nat.le_of_ble_eq_true rfl) dX9_fitsKind_84 (fun h26 => ?_) (fun h26 => ?_)
            · refine v_if_eq ⟨by decide, by decide⟩ dX9_fitsKind_87 (fun h => by exfalso; omega) (fun hb87 => ?_)
              refine v_iload_n dX9_fitsKind_90 rfl ?_
              refine v_bipush dX9_fitsKind_91 (by decide) ?_
              refine v_icmp_ne hlr ⟨by decide, by decide⟩ dX9_fitsKind_93 (fun h27 => ?_) (fun h27 => ?_)
              · refine v_iconst dX9_fitsKind_100 ?_
                exact v_zret rfl (by decide) (by decide) (Or.inl rfl) dX9_fitsKind_101 ⟨rfl, rfl, Or.inr ⟨rfl, by omega⟩⟩
              · refine v_iconst dX9_fitsKind_96 ?_
                refine v_goto dX9_fitsKind_97 ?_
                exact v_zret rfl (by decide) (by decide) (Or.inr rfl) dX9_fitsKind_101 ⟨rfl, rfl, Or.inl ⟨rfl, by omega⟩⟩
            · refine v_if_eq ⟨by decide, by decide⟩ dX9_fitsKind_87 (fun hb87 => ?_) (fun h => by exfalso; omega)
              refine v_iconst dX9_fitsKind_100 ?_
              exact v_zret rfl (by decide) (by decide) (Or.inl rfl) dX9_fitsKind_101 ⟨rfl, rfl, Or.inr ⟨rfl, by omega⟩⟩
    · refine v_iload_n dX9_fitsKind_10 rfl ?_
      refine v_Sb (tX9_isReference hlr) kX9_114 rfl rfl ⟨by decide, by decide⟩ ⟨by decide, by decide⟩ (Nat.le_of_ble_eq_true rfl) dX9_fitsKind_11 (fun h28 => ?_) (fun h28 => ?_)
      · refine v_if_eq ⟨by decide, by decide⟩ dX9_fitsKind_14 (fun h => by exfalso; omega) (fun hb14 => ?_)
        refine v_iconst dX9_fitsKind_17 ?_
        exact v_zret rfl (by decide) (by decide) (Or.inr rfl) dX9_fitsKind_18 ⟨rfl, rfl, Or.inl ⟨rfl, by omega⟩⟩
      · refine v_if_eq ⟨by decide, by decide⟩ dX9_fitsKind_14 (fun hb14 => ?_) (fun h => by exfalso; omega)
        refine v_aload_n dX9_fitsKind_19 rfl ?_
        refine v_iload_n dX9_fitsKind_20 rfl ?_
        refine v_Vb (tX9_isThing (⟨hTy, hYr⟩ : isY G y) hQ0 hkr) kX9_117 hTy rfl rfl ⟨by decide, by decide⟩ ⟨by decide, by decide⟩ (Nat.le_of_ble_eq_true rfl) dX9_fitsKind_21 (fun h29 => ?_) (fun h29 => ?_)
        · refine v_if_eq ⟨by decide, by decide⟩ dX9_fitsKind_24 (fun h => by exfalso; omega) (fun hb24 => ?_)
          refine v_aload_n dX9_fitsKind_27 rfl ?_
          refine v_iload_n dX9_fitsKind_28 rfl ?_
          refine v_Vb (tX9_isThing (⟨hTy, hYr⟩ : isY G y) hQ0 hlr) kX9_117 hTy rfl rfl ⟨by decide, by decide⟩ ⟨by decide, by decide⟩ (Nat.le_of_ble_eq_true rfl) dX9_fitsKind_29 (fun h30 => ?_) (fun h30 => ?_)
          · refine v_if_eq ⟨by decide, by decide⟩ dX9_fitsKind_32 (fun h => by exfalso; omega) (fun hb32 => ?_)
            refine v_aload_n dX9_fitsKind_35 rfl ?_
            refine v_iload_n dX9_fitsKind_36 rfl ?_
            refine v_bipush dX9_fitsKind_37 (by decide) ?_
            refine v_isub dX9_fitsKind_39 ?_
            refine v_iload_n dX9_fitsKind_40 rfl ?_
            refine v_bipush dX9_fitsKind_41 (by decide) ?_
            refine v_isub dX9_fitsKind_43 ?_
            refine v_Vb (tX9_fitsClass (⟨hTy, hYr⟩ : isY G y) hQ0 (by omega) (by omega)) kX9_111 hTy rfl rfl ⟨by decide, by decide⟩ ⟨by decide, by decide⟩ (Nat.le_of_ble_eq_true rfl) dX9_fitsKind_44 (fun h31 => ?_) (fun h31 => ?_)
            · exact v_zret rfl (by decide) (by decide) (Or.inr rfl) dX9_fitsKind_47 ⟨rfl, rfl, Or.inl ⟨rfl, by omega⟩⟩
            · exact v_zret rfl (by decide) (by decide) (Or.inl rfl) dX9_fitsKind_47 ⟨rfl, rfl, Or.inr ⟨rfl, by omega⟩⟩
          · refine v_if_eq ⟨by decide, by decide⟩ dX9_fitsKind_32 (fun hb32 => ?_) (fun h => by exfalso; omega)
            refine v_aload_n dX9_fitsKind_48 rfl ?_
            refine v_iload_n dX9_fitsKind_49 rfl ?_
            refine v_Vb (tX9_isThings (⟨hTy, hYr⟩ : isY G y) hQ0 hkr) kX9_120 hTy rfl rfl ⟨by decide, by decide⟩ ⟨by decide, by decide⟩ (Nat.le_of_ble_eq_true rfl) dX9_fitsKind_50 (fun h32 => ?_) (fun h32 => ?_)
            · refine v_if_eq ⟨by decide, by decide⟩ dX9_fitsKind_53 (fun h => by exfalso; omega) (fun hb53 => ?_)
              refine v_aload_n dX9_fitsKind_56 rfl ?_
              refine v_iload_n dX9_fitsKind_57 rfl ?_
              refine v_Vb (tX9_isThings (⟨hTy, hYr⟩ : isY G y) hQ0 hlr) kX9_120 hTy rfl rfl ⟨by decide, by decide⟩ ⟨by decide, by decide⟩ (Nat.le_of_ble_eq_true rfl) dX9_fitsKind_58 (fun h33 => ?_) (fun h33 => ?_)
              · refine v_if_eq ⟨by decide, by decide⟩ dX9_fitsKind_61 (fun h => by exfalso; omega) (fun hb61 => ?_)
                refine v_aload_n dX9_fitsKind_64 rfl ?_
                refine v_iload_n dX9_fitsKind_65 rfl ?_
                refine v_bipush dX9_fitsKind_66 (by decide) ?_
                refine v_isub dX9_fitsKind_68 ?_
                refine v_iload_n dX9_fitsKind_69 rfl ?_
                refine v_bipush dX9_fitsKind_70 (by decide) ?_
                refine v_isub dX9_fitsKind_72 ?_
                refine v_Vb (tX9_fitsClass (⟨hTy, hYr⟩ : isY G y) hQ0 (by omega) (by omega)) kX9_111 hTy rfl rfl ⟨by decide, by decide⟩ ⟨by decide, by decide⟩ (Nat.le_of_ble_eq_true rfl) dX9_fitsKind_73 (fun h34 => ?_) (fun h34 => ?_)
                · exact v_zret rfl (by decide) (by decide) (Or.inr rfl) dX9_fitsKind_76 ⟨rfl, rfl, Or.inl ⟨rfl, by omega⟩⟩
                · exact v_zret rfl (by decide) (by decide) (Or.inl rfl) dX9_fitsKind_76 ⟨rfl, rfl, Or.inr ⟨rfl, by omega⟩⟩
              · refine v_if_eq ⟨by decide, by decide⟩ dX9_fitsKind_61 (fun hb61 => ?_) (fun h => by exfalso; omega)
                refine v_iload_n dX9_fitsKind_77 rfl ?_
                refine v_iconst dX9_fitsKind_78 ?_
                refine v_icmp_eq hkr ⟨by decide, by decide⟩ dX9_fitsKind_79 (fun h35 => ?_) (fun h35 => ?_)
                · refine v_iload_n dX9_fitsKind_90 rfl ?_
                  refine v_bipush dX9_fitsKind_91 (by decide) ?_
                  refine v_icmp_ne hlr ⟨by decide, by decide⟩ dX9_fitsKind_93 (fun h36 => ?_) (fun h36 => ?_)
                  · refine v_iconst dX9_fitsKind_100 ?_
                    exact v_zret rfl (by decide) (by decide) (Or.inl rfl) dX9_fitsKind_101 ⟨rfl, rfl, Or.inr ⟨rfl, by omega⟩⟩
                  · refine v_iconst dX9_fitsKind_96 ?_
                    refine v_goto dX9_fitsKind_97 ?_
                    exact v_zret rfl (by decide) (by decide) (Or.inr rfl) dX9_fitsKind_101 ⟨rfl, rfl, Or.inl ⟨rfl, by omega⟩⟩
                · refine v_aload_n dX9_fitsKind_82 rfl ?_
                  refine v_iload_n dX9_fitsKind_83 rfl ?_
                  refine v_Vb (tX9_isThings (⟨hTy, hYr⟩ : isY G y) hQ0 hkr) kX9_120 hTy rfl rfl ⟨by decide, by decide⟩ ⟨by decide, by decide⟩ (Nat.le_of_ble_eq_true rfl) dX9_fitsKind_84 (fun h37 => ?_) (fun h37 => ?_)
                  · refine v_if_eq ⟨by decide, by decide⟩ dX9_fitsKind_87 (fun h => by exfalso; omega) (fun hb87 => ?_)
                    refine v_iload_n dX9_fitsKind_90 rfl ?_
                    refine v_bipush dX9_fitsKind_91 (by decide) ?_
                    refine v_icmp_ne hlr ⟨by decide, by decide⟩ dX9_fitsKind_93 (fun h38 => ?_) (fun h38 => ?_)
                    · refine v_iconst dX9_fitsKind_100 ?_
                      exact v_zret rfl (by decide) (by decide) (Or.inl rfl) dX9_fitsKind_101 ⟨rfl, rfl, Or.inr ⟨rfl, by omega⟩⟩
                    · refine v_iconst dX9_fitsKind_96 ?_
                      refine v_goto dX9_fitsKind_97 ?_
                      exact v_zret rfl (by decide) (by decide) (Or.inr rfl) dX9_fitsKind_101 ⟨rfl, rfl, Or.inl ⟨rfl, by omega⟩⟩
                  · refine v_if_eq ⟨by decide, by decide⟩ dX9_fitsKind_87 (fun hb87 => ?_) (fun h => by exfalso; omega)
                    refine v_iconst dX9_fitsKind_100 ?_
                    exact v_zret rfl (by decide) (by decide) (Or.inl rfl) dX9_fitsKind_101 ⟨rfl, rfl, Or.inr ⟨rfl, by omega⟩⟩
            · refine v_if_eq ⟨by decide, by decide⟩ dX9_fitsKind_53 (fun hb53 => ?_) (fun h => by exfalso; omega)
              refine v_iload_n dX9_fitsKind_77 rfl ?_
              refine v_iconst dX9_fitsKind_78 ?_
              refine v_icmp_eq hkr ⟨by decide, by decide⟩ dX9_fitsKind_79 (fun h39 => ?_) (fun h39 => ?_)
              · refine v_iload_n dX9_fitsKind_90 rfl ?_
                refine v_bipush dX9_fitsKind_91 (by decide) ?_
                refine v_icmp_ne hlr ⟨by decide, by decide⟩ dX9_fitsKind_93 (fun h40 => ?_) (fun h40 => ?_)
                · refine v_iconst dX9_fitsKind_100 ?_
                  exact v_zret rfl (by decide) (by decide) (Or.inl rfl) dX9_fitsKind_101 ⟨rfl, rfl, Or.inr ⟨rfl, by omega⟩⟩
                · refine v_iconst dX9_fitsKind_96 ?_
                  refine v_goto dX9_fitsKind_97 ?_
                  exact v_zret rfl (by decide) (by decide) (Or.inr rfl) dX9_fitsKind_101 ⟨rfl, rfl, Or.inl ⟨rfl, by omega⟩⟩
              · refine v_aload_n dX9_fitsKind_82 rfl ?_
                refine v_iload_n dX9_fitsKind_83 rfl ?_
                refine v_Vb (tX9_isThings (⟨hTy, hYr⟩ : isY G y) hQ0 hkr) kX9_120 hTy rfl rfl ⟨by decide, by decide⟩ ⟨by decide, by decide⟩ (Nat.le_of_ble_eq_true rfl) dX9_fitsKind_84 (fun h41 => ?_) (fun h41 => ?_)
                · refine v_if_eq ⟨by decide, by decide⟩ dX9_fitsKind_87 (fun h => by exfalso; omega) (fun hb87 => ?_)
                  refine v_iload_n dX9_fitsKind_90 rfl ?_
                  refine v_bipush dX9_fitsKind_91 (by decide) ?_
                  refine v_icmp_ne hlr ⟨by decide, by decide⟩ dX9_fitsKind_93 (fun h42 => ?_) (fun h42 => ?_)
                  · refine v_iconst dX9_fitsKind_100 ?_
                    exact v_zret rfl (by decide) (by decide) (Or.inl rfl) dX9_fitsKind_101 ⟨rfl, rfl, Or.inr ⟨rfl, by omega⟩⟩
                  · refine v_iconst dX9_fitsKind_96 ?_
                    refine v_goto dX9_fitsKind_97 ?_
                    exact v_zret rfl (by decide) (by decide) (Or.inr rfl) dX9_fitsKind_101 ⟨rfl, rfl, Or.inl ⟨rfl, by omega⟩⟩
                · refine v_if_eq ⟨by decide, by decide⟩ dX9_fitsKind_87 (fun hb87 => ?_) (fun h => by exfalso; omega)
                  refine v_iconst dX9_fitsKind_100 ?_
                  exact v_zret rfl (by decide) (by decide) (Or.inl rfl) dX9_fitsKind_101 ⟨rfl, rfl, Or.inr ⟨rfl, by omega⟩⟩
        · refine v_if_eq ⟨by decide, by decide⟩ dX9_fitsKind_24 (fun hb24 => ?_) (fun h => by exfalso; omega)
          refine v_aload_n dX9_fitsKind_48 rfl ?_
          refine v_iload_n dX9_fitsKind_49 rfl ?_
          refine v_Vb (tX9_isThings (⟨hTy, hYr⟩ : isY G y) hQ0 hkr) kX9_120 hTy rfl rfl ⟨by decide, by decide⟩ ⟨by decide, by decide⟩ (Nat.le_of_ble_eq_true rfl) dX9_fitsKind_50 (fun h43 => ?_) (fun h43 => ?_)
          · refine v_if_eq ⟨by decide, by decide⟩ dX9_fitsKind_53 (fun h => by exfalso; omega) (fun hb53 => ?_)
            refine v_aload_n dX9_fitsKind_56 rfl ?_
            refine v_iload_n dX9_fitsKind_57 rfl ?_
            refine v_Vb (tX9_isThings (⟨hTy, hYr⟩ : isY G y) hQ0 hlr) kX9_120 hTy rfl rfl ⟨by decide, by decide⟩ ⟨by decide, by decide⟩ (Nat.le_of_ble_eq_true rfl) dX9_fitsKind_58 (fun h44 => ?_) (fun h44 => ?_)
            · refine v_if_eq ⟨by decide, by decide⟩ dX9_fitsKind_61 (fun h => by exfalso; omega) (fun hb61 => ?_)
              refine v_aload_n dX9_fitsKind_64 rfl ?_
              refine v_iload_n dX9_fitsKind_65 rfl ?_
              refine v_bipush dX9_fitsKind_66 (by decide) ?_
              refine v_isub dX9_fitsKind_68 ?_
              refine v_iload_n dX9_fitsKind_69 rfl ?_
              refine v_bipush dX9_fitsKind_70 (by decide) ?_
              refine v_isub dX9_fitsKind_72 ?_
              refine v_Vb (tX9_fitsClass (⟨hTy, hYr⟩ : isY G y) hQ0 (by omega) (by omega)) kX9_111 hTy rfl rfl ⟨by decide, by decide⟩ ⟨by decide, by decide⟩ (Nat.le_of_ble_eq_true rfl) dX9_fitsKind_73 (fun h45 => ?_) (fun h45 => ?_)
              · exact v_zret rfl (by decide) (by decide) (Or.inr rfl) dX9_fitsKind_76 ⟨rfl, rfl, Or.inl ⟨rfl, by omega⟩⟩
              · exact v_zret rfl (by decide) (by decide) (Or.inl rfl) dX9_fitsKind_76 ⟨rfl, rfl, Or.inr ⟨rfl, by omega⟩⟩
            · refine v_if_eq ⟨by decide, by decide⟩ dX9_fitsKind_61 (fun hb61 => ?_) (fun h => by exfalso; omega)
              refine v_iload_n dX9_fitsKind_77 rfl ?_
              refine v_iconst dX9_fitsKind_78 ?_
              refine v_icmp_eq hkr ⟨by decide, by decide⟩ dX9_fitsKind_79 (fun h46 => ?_) (fun h46 => ?_)
              · refine v_iload_n dX9_fitsKind_90 rfl ?_
                refine v_bipush dX9_fitsKind_91 (by decide) ?_
                refine v_icmp_ne hlr ⟨by decide, by decide⟩ dX9_fitsKind_93 (fun h47 => ?_) (fun h47 => ?_)
                · refine v_iconst dX9_fitsKind_100 ?_
                  exact v_zret rfl (by decide) (by decide) (Or.inl rfl) dX9_fitsKind_101 ⟨rfl, rfl, Or.inr ⟨rfl, by omega⟩⟩
                · refine v_iconst dX9_fitsKind_96 ?_
                  refine v_goto dX9_fitsKind_97 ?_
                  exact v_zret rfl (by decide) (by decide) (Or.inr rfl) dX9_fitsKind_101 ⟨rfl, rfl, Or.inl ⟨rfl, by omega⟩⟩
              · refine v_aload_n dX9_fitsKind_82 rfl ?_
                refine v_iload_n dX9_fitsKind_83 rfl ?_
                refine v_Vb (tX9_isThings (⟨hTy, hYr⟩ : isY G y) hQ0 hkr) kX9_120 hTy rfl rfl ⟨by decide, by decide⟩ ⟨by decide, by decide⟩ (Nat.le_of_ble_eq_true rfl) dX9_fitsKind_84 (fun h48 => ?_) (fun h48 => ?_)
                · refine v_if_eq ⟨by decide, by decide⟩ dX9_fitsKind_87 (fun h => by exfalso; omega) (fun hb87 => ?_)
                  refine v_iload_n dX9_fitsKind_90 rfl ?_
                  refine v_bipush dX9_fitsKind_91 (by decide) ?_
                  refine v_icmp_ne hlr ⟨by decide, by decide⟩ dX9_fitsKind_93 (fun h49 => ?_) (fun h49 => ?_)
                  · refine v_iconst dX9_fitsKind_100 ?_
                    exact v_zret rfl (by decide) (by decide) (Or.inl rfl) dX9_fitsKind_101 ⟨rfl, rfl, Or.inr ⟨rfl, by omega⟩⟩
                  · refine v_iconst dX9_fitsKind_96 ?_
                    refine v_goto dX9_fitsKind_97 ?_
                    exact v_zret rfl (by decide) (by decide) (Or.inr rfl) dX9_fitsKind_101 ⟨rfl, rfl, Or.inl ⟨rfl, by omega⟩⟩
                · refine v_if_eq ⟨by decide, by decide⟩ dX9_fitsKind_87 (fun hb87 => ?_) (fun h => by exfalso; omega)
                  refine v_iconst dX9_fitsKind_100 ?_
                  exact v_zret rfl (by decide) (by decide) (Or.inl rfl) dX9_fitsKind_101 ⟨rfl, rfl, Or.inr ⟨rfl, by omega⟩⟩
          · refine v_if_eq ⟨by decide, by decide⟩ dX9_fitsKind_53 (fun hb53 => ?_) (fun h => by exfalso; omega)
            refine v_iload_n dX9_fitsKind_77 rfl ?_
            refine v_iconst dX9_fitsKind_78 ?_
            refine v_icmp_eq hkr ⟨by decide, by decide⟩ dX9_fitsKind_79 (fun h50 => ?_) (fun h50 => ?_)
            · refine v_iload_n dX9_fitsKind_90 rfl ?_
              refine v_bipush dX9_fitsKind_91 (by decide) ?_
              refine v_icmp_ne hlr ⟨by decide, by decide⟩ dX9_fitsKind_93 (fun h51 => ?_) (fun h51 => ?_)
              · refine v_iconst dX9_fitsKind_100 ?_
                exact v_zret rfl (by decide) (by decide) (Or.inl rfl) dX9_fitsKind_101 ⟨rfl, rfl, Or.inr ⟨rfl, by omega⟩⟩
              · refine v_iconst dX9_fitsKind_96 ?_
                refine v_goto dX9_fitsKind_97 ?_
                exact v_zret rfl (by decide) (by decide) (Or.inr rfl) dX9_fitsKind_101 ⟨rfl, rfl, Or.inl ⟨rfl, by omega⟩⟩
            · refine v_aload_n dX9_fitsKind_82 rfl ?_
              refine v_iload_n dX9_fitsKind_83 rfl ?_
              refine v_Vb (tX9_isThings (⟨hTy, hYr⟩ : isY G y) hQ0 hkr) kX9_120 hTy rfl rfl ⟨by decide, by decide⟩ ⟨by decide, by decide⟩ (Nat.le_of_ble_eq_true rfl) dX9_fitsKind_84 (fun h52 => ?_) (fun h52 => ?_)
              · refine v_if_eq ⟨by decide, by decide⟩ dX9_fitsKind_87 (fun h => by exfalso; omega) (fun hb87 => ?_)
                refine v_iload_n dX9_fitsKind_90 rfl ?_
                refine v_bipush dX9_fitsKind_91 (by decide) ?_
                refine v_icmp_ne hlr ⟨by decide, by decide⟩ dX9_fitsKind_93 (fun h53 => ?_) (fun h53 => ?_)
                · refine v_iconst dX9_fitsKind_100 ?_
                  exact v_zret rfl (by decide) (by decide) (Or.inl rfl) dX9_fitsKind_101 ⟨rfl, rfl, Or.inr ⟨rfl, by omega⟩⟩
                · refine v_iconst dX9_fitsKind_96 ?_
                  refine v_goto dX9_fitsKind_97 ?_
                  exact v_zret rfl (by decide) (by decide) (Or.inr rfl) dX9_fitsKind_101 ⟨rfl, rfl, Or.inl ⟨rfl, by omega⟩⟩
              · refine v_if_eq ⟨by decide, by decide⟩ dX9_fitsKind_87 (fun hb87 => ?_) (fun h => by exfalso; omega)
                refine v_iconst dX9_fitsKind_100 ?_
                exact v_zret rfl (by decide) (by decide) (Or.inl rfl) dX9_fitsKind_101 ⟨rfl, rfl, Or.inr ⟨rfl, by omega⟩⟩
theorem tX9_joined {E : w_E} {G : w_Sh} {I : w_Mm} {y : Nat} {Q : cS} (hY : isY G y) (hQ : clsY I y Q) {k l : Int} (hk : knownK Q k) (hl : knownK Q l) : w_Cm E mX9_joined 2 [.ref y, iv k, iv l] G I (joinK Q k l) I := by
  obtain ⟨hTy, hYr⟩ := hY
  have hQ0 := hQ
  obtain ⟨hq0, hq2, hq16, hqF, hch⟩ := hQ
  have hkr : inR k := ⟨by omega, by omega⟩
  have hlr : inR l := ⟨by omega, by omega⟩
  have hne : ∀ x y : Int, 0 ≤ nearC Q x y ∧ nearC Q x y ≤ 15 := fun x y => by
    have h2 := nearF_le (Q.2.1 x.toNat &&& Q.2.1 y.toNat) (Q.1 - 1)
    unfold nearC
    split <;> omega
  have hne1 := hne (k - 10) (l - 10)
  have hne2 := hne (k - 40) (l - 40)
  refine w_Ct.of (ls := [some (.ref y), some (iv k), some (iv l)]) (by decide +kernel) (Nat.le_of_ble_eq_true rfl) rfl rfl (fun rng => ?_)
  refine v_iload_n dX9_joined_0 rfl ?_
  refine v_iload_n dX9_joined_1 rfl ?_
  refine v_icmp_ne hkr hlr dX9_joined_2 (fun h1 => ?_) (fun h1 => ?_)
  · refine v_iload_n dX9_joined_7 rfl ?_
    refine v_Sb (tX9_isReference hkr) kX9_114 rfl rfl ⟨by decide, by decide⟩ ⟨by decide, by decide⟩ (Nat.le_of_ble_eq_true rfl) dX9_joined_8 (fun h2 => ?_) (fun h2 => ?_)
    · refine v_if_eq ⟨by decide, by decide⟩ dX9_joined_11 (fun h => by exfalso; omega) (fun hb11 => ?_)
      refine v_iload_n dX9_joined_14 rfl ?_
      refine v_Sb (tX9_isReference hlr) kX9_114 rfl rfl ⟨by decide, by decide⟩ ⟨by decide, by decide⟩ (Nat.le_of_ble_eq_true rfl) dX9_joined_15 (fun h3 => ?_) (fun h3 => ?_)
      · refine v_if_ne ⟨by decide, by decide⟩ dX9_joined_18 (fun hb18 => ?_) (fun h => by exfalso; omega)
        refine v_iload_n dX9_joined_23 rfl ?_
        refine v_iconst dX9_joined_24 ?_
        refine v_icmp_eq hkr ⟨by decide, by decide⟩ dX9_joined_25 (fun h4 => ?_) (fun h4 => ?_)
        · refine v_iload_n dX9_joined_33 rfl ?_
          refine v_iconst dX9_joined_34 ?_
          refine v_icmp_ne hkr ⟨by decide, by decide⟩ dX9_joined_35 (fun h5 => ?_) (fun h5 => ?_)
          · refine v_iload_n dX9_joined_42 rfl ?_
            exact v_iret rfl (by decide) (by decide) hkr dX9_joined_43 ⟨(by unfold joinK; split <;> first | omega | (split <;> first | omega | (split <;> first | omega | (split <;> first | omega | (split <;> first | omega | (split <;> omega)))))), rfl, rfl⟩
          · refine v_iload_n dX9_joined_38 rfl ?_
            refine v_goto dX9_joined_39 ?_
            exact v_iret rfl (by decide) (by decide) hlr dX9_joined_43 ⟨(by unfold joinK; split <;> first | omega | (split <;> first | omega | (split <;> first | omega | (split <;> first | omega | (split <;> first | omega | (split <;> omega)))))), rfl, rfl⟩
        · refine v_iload_n dX9_joined_28 rfl ?_
          refine v_iconst dX9_joined_29 ?_
          refine v_icmp_ne hlr ⟨by decide, by decide⟩ dX9_joined_30 (fun h6 => ?_) (fun h6 => ?_)
          · refine v_aload_n dX9_joined_44 rfl ?_
            refine v_iload_n dX9_joined_45 rfl ?_
            refine v_Vb (tX9_isThing (⟨hTy, hYr⟩ : isY G y) hQ0 hkr) kX9_117 hTy rfl rfl ⟨by decide, by decide⟩ ⟨by decide, by decide⟩ (Nat.le_of_ble_eq_true rfl) dX9_joined_46 (fun h7 => ?_) (fun h7 => ?_)
            · refine v_if_eq ⟨by decide, by decide⟩ dX9_joined_49 (fun h => by exfalso; omega) (fun hb49 => ?_)
              refine v_aload_n dX9_joined_52 rfl ?_
              refine v_iload_n dX9_joined_53 rfl ?_
              refine v_Vb (tX9_isThing (⟨hTy, hYr⟩ : isY G y) hQ0 hlr) kX9_117 hTy rfl rfl ⟨by decide, by decide⟩ ⟨by decide, by decide⟩ (Nat.le_of_ble_eq_true rfl) dX9_joined_54 (fun h8 => ?_) (fun h8 => ?_)
              · refine v_if_eq ⟨by decide, by decide⟩ dX9_joined_57 (fun h => by exfalso; omega) (fun hb57 => ?_)
                refine v_bipush dX9_joined_60 (by decide) ?_
                refine v_aload_n dX9_joined_62 rfl ?_
                refine v_iload_n dX9_joined_63 rfl ?_
                refine v_bipush dX9_joined_64 (by decide) ?_
                refine v_isub dX9_joined_66 ?_
                refine v_iload_n dX9_joined_67 rfl ?_
                refine v_bipush dX9_joined_68 (by decide) ?_
                refine v_isub dX9_joined_70 ?_
                refine v_VmN (tX9_joinClass (⟨hTy, hYr⟩ : isY G y) hQ0 (by omega) (by omega)) kX9_123 hTy rfl rfl ⟨by decide, by decide⟩ ⟨by decide, by decide⟩ (Nat.le_of_ble_eq_true rfl) dX9_joined_71 (fun r9 er9 hr9 rng10 => ?_)
                refine v_iadd dX9_joined_74 ?_
                exact v_iret rfl (by decide) (by decide) ⟨by omega, by omega⟩ dX9_joined_75 ⟨(by unfold joinK; split <;> first | omega | (split <;> first | omega | (split <;> first | omega | (split <;> first | omega | (split <;> first | omega | (split <;> omega)))))), rfl, rfl⟩
              · refine v_if_eq ⟨by decide, by decide⟩ dX9_joined_57 (fun hb57 => ?_) (fun h => by exfalso; omega)
                refine v_aload_n dX9_joined_76 rfl ?_
                refine v_iload_n dX9_joined_77 rfl ?_
                refine v_Vb (tX9_isThings (⟨hTy, hYr⟩ : isY G y) hQ0 hkr) kX9_120 hTy rfl rfl ⟨by decide, by decide⟩ ⟨by decide, by decide⟩ (Nat.le_of_ble_eq_true rfl) dX9_joined_78 (fun h11 => ?_) (fun h11 => ?_)
                · refine v_if_eq ⟨by decide, by decide⟩ dX9_joined_81 (fun h => by exfalso; omega) (fun hb81 => ?_)
                  refine v_aload_n dX9_joined_84 rfl ?_
                  refine v_iload_n dX9_joined_85 rfl ?_
                  refine v_Vb (tX9_isThings (⟨hTy, hYr⟩ : isY G y) hQ0 hlr) kX9_120 hTy rfl rfl ⟨by decide, by decide⟩ ⟨by decide, by decide⟩ (Nat.le_of_ble_eq_true rfl) dX9_joined_86 (fun h12 => ?_) (fun h12 => ?_)
                  · refine v_if_eq ⟨by decide, by decide⟩ dX9_joined_89 (fun h => by exfalso; omega) (fun hb89 => ?_)
                    refine v_bipush dX9_joined_92 (by decide) ?_
                    refine v_aload_n dX9_joined_94 rfl ?_
                    refine v_iload_n dX9_joined_95 rfl ?_
                    refine v_bipush dX9_joined_96 (by decide) ?_
                    refine v_isub dX9_joined_98 ?_
                    refine v_iload_n dX9_joined_99 rfl ?_
                    refine v_bipush dX9_joined_100 (by decide) ?_
                    refine v_isub dX9_joined_102 ?_
                    refine v_VmN (tX9_joinClass (⟨hTy, hYr⟩ : isY G y) hQ0 (by omega) (by omega)) kX9_123 hTy rfl rfl ⟨by decide, by decide⟩ ⟨by decide, by decide⟩ (Nat.le_of_ble_eq_true rfl) dX9_joined_103 (fun r13 er13 hr13 rng14 => ?_)
                    refine v_iadd dX9_joined_106 ?_
                    refine v_goto dX9_joined_107 ?_
                    exact v_iret rfl (by decide) (by decide) ⟨by omega, by omega⟩ dX9_joined_112 ⟨(by unfold joinK; split <;> first | omega | (split <;> first | omega | (split <;> first | omega | (split <;> first | omega | (split <;> first | omega | (split <;> omega)))))), rfl, rfl⟩
                  · refine v_if_eq ⟨by decide, by decide⟩ dX9_joined_89 (fun hb89 => ?_) (fun h => by exfalso; omega)
                    refine v_bipush dX9_joined_110 (by decide) ?_
                    exact v_iret rfl (by decide) (by decide) ⟨by decide, by decide⟩ dX9_joined_112 ⟨(by unfold joinK; split <;> first | omega | (split <;> first | omega | (split <;> first | omega | (split <;> first | omega | (split <;> first | omega | (split <;> omega)))))), rfl, rfl⟩
                · refine v_if_eq ⟨by decide, by decide⟩ dX9_joined_81 (fun hb81 => ?_) (fun h => by exfalso; omega)
                  refine v_bipush dX9_joined_110 (by decide) ?_
                  exact v_iret rfl (by decide) (by decide) ⟨by decide, by decide⟩ dX9_joined_112 ⟨(by unfold joinK; split <;> first | omega | (split <;> first | omega | (split <;> first | omega | (split <;> first | omega | (split <;> first | omega | (split <;> omega)))))), rfl, rfl⟩
            · refine v_if_eq ⟨by decide, by decide⟩ dX9_joined_49 (fun hb49 => ?_) (fun h => by exfalso; omega)
              refine v_aload_n dX9_joined_76 rfl ?_
              refine v_iload_n dX9_joined_77 rfl ?_
              refine v_Vb (tX9_isThings (⟨hTy, hYr⟩ : isY G y) hQ0 hkr) kX9_120 hTy rfl rfl ⟨by decide, by decide⟩ ⟨by decide, by decide⟩ (Nat.le_of_ble_eq_true rfl) dX9_joined_78 (fun h15 => ?_) (fun h15 => ?_)
              · refine v_if_eq ⟨by decide, by decide⟩ dX9_joined_81 (fun h => by exfalso; omega) (fun hb81 => ?_)
                refine v_aload_n dX9_joined_84 rfl ?_
                refine v_iload_n dX9_joined_85 rfl ?_
                refine v_Vb (tX9_isThings (⟨hTy, hYr⟩ : isY G y) hQ0 hlr) kX9_120 hTy rfl rfl ⟨by decide, by decide⟩ ⟨by decide, by decide⟩ (Nat.le_of_ble_eq_true rfl) dX9_joined_86 (fun h16 => ?_) (fun h16 => ?_)
                · refine v_if_eq ⟨by decide, by decide⟩ dX9_joined_89 (fun h => by exfalso; omega) (fun hb89 => ?_)
                  refine v_bipush dX9_joined_92 (by decide) ?_
                  refine v_aload_n dX9_joined_94 rfl ?_
                  refine v_iload_n dX9_joined_95 rfl ?_
                  refine v_bipush dX9_joined_96 (by decide) ?_
                  refine v_isub dX9_joined_98 ?_
                  refine v_iload_n dX9_joined_99 rfl ?_
                  refine v_bipush dX9_joined_100 (by decide) ?_
                  refine v_isub dX9_joined_102 ?_
                  refine v_VmN (tX9_joinClass (⟨hTy, hYr⟩ : isY G y) hQ0 (by omega) (by omega)) kX9_123 hTy rfl rfl ⟨by decide, by decide⟩ ⟨by decide, by decide⟩ (Nat.le_of_ble_eq_true rfl) dX9_joined_103 (fun r17 er17 hr17 rng18 => ?_)
                  refine v_iadd dX9_joined_106 ?_
                  refine v_goto dX9_joined_107 ?_
                  exact v_iret rfl (by decide) (by decide) ⟨by omega, by omega⟩ dX9_joined_112 ⟨(by unfold joinK; split <;> first | omega | (split <;> first | omega | (split <;> first | omega | (split <;> first | omega | (split <;> first | omega | (split <;> omega)))))), rfl, rfl⟩
                · refine v_if_eq ⟨by decide, by decide⟩ dX9_joined_89 (fun hb89 => ?_) (fun h => by exfalso; omega)
                  refine v_bipush dX9_joined_110 (by decide) ?_
                  exact v_iret rfl (by decide) (by decide) ⟨by decide, by decide⟩ dX9_joined_112 ⟨(by unfold joinK; split <;> first | omega | (split <;> first | omega | (split <;> first | omega | (split <;> first | omega | (split <;> first | omega | (split <;> omega)))))), rfl, rfl⟩
              · refine v_if_eq ⟨by decide, by decide⟩ dX9_joined_81 (fun hb81 => ?_) (fun h => by exfalso; omega)
                refine v_bipush dX9_joined_110 (by decide) ?_
                exact v_iret rfl (by decide) (by decide) ⟨by decide, by decide⟩ dX9_joined_112 ⟨(by unfold joinK; split <;> first | omega | (split <;> first | omega | (split <;> first | omega | (split <;> first | omega | (split <;> first | omega | (split <;> omega)))))), rfl, rfl⟩
          · refine v_iload_n dX9_joined_33 rfl ?_
            refine v_iconst dX9_joined_34 ?_
            refine v_icmp_ne hkr ⟨by decide, by decide⟩ dX9_joined_35 (fun h19 => ?_) (fun h19 => ?_)
            · refine v_iload_n dX9_joined_42 rfl ?_
              exact v_iret rfl (by decide) (by decide) hkr dX9_joined_43 ⟨(by unfold joinK; split <;> first | omega | (split <;> first | omega | (split <;> first | omega | (split <;> first | omega | (split <;> first | omega | (split <;> omega)))))), rfl, rfl⟩
            · refine v_iload_n dX9_joined_38 rfl ?_
              refine v_goto dX9_joined_39 ?_
              exact v_iret rfl (by decide) (by decide) hlr dX9_joined_43 ⟨(by unfold joinK; split <;> first | omega | (split <;> first | omega | (split <;> first | omega | (split <;> first | omega | (split <;> first | omega | (split <;> omega)))))), rfl, rfl⟩
      · refine v_if_ne ⟨by decide, by decide⟩ dX9_joined_18 (fun h => by exfalso; omega) (fun hb18 => ?_)
        refine v_iconst dX9_joined_21 ?_
        exact v_iret rfl (by decide) (by decide) ⟨by decide, by decide⟩ dX9_joined_22 ⟨(by unfold joinK; split <;> first | omega | (split <;> first | omega | (split <;> first | omega | (split <;> first | omega | (split <;> first | omega | (split <;> omega)))))), rfl, rfl⟩
    · refine v_if_eq ⟨by decide, by decide⟩ dX9_joined_11 (fun hb11 => ?_) (fun h => by exfalso; omega)
      refine v_iconst dX9_joined_21 ?_
      exact v_iret rfl (by decide) (by decide) ⟨by decide, by decide⟩ dX9_joined_22 ⟨(by unfold joinK; split <;> first | omega | (split <;> first | omega | (split <;> first | omega | (split <;> first | omega | (split <;> first | omega | (split <;> omega)))))), rfl, rfl⟩
  · refine v_iload_n dX9_joined_5 rfl ?_
    exact v_iret rfl (by decide) (by decide) hkr dX9_joined_6 ⟨(by unfold joinK; split <;> first | omega | (split <;> first | omega | (split <;> first | omega | (split <;> first | omega | (split <;> first | omega | (split <;> omega)))))), rfl, rfl⟩
theorem tX9_isKind {E : w_E} {G : w_Sh} {I : w_Mm} {y : Nat} {Q : cS} (hY : isY G y) (hQ : clsY I y Q) {k : Int} (hk : inR k) : w_Cb E mX9_isKind 2 [.ref y, iv k] G I (knownK Q k) := by
  obtain ⟨hTy, hYr⟩ := hY
  have hQ0 := hQ
  obtain ⟨hq0, hq2, hq16, hqF, hch⟩ := hQ
  refine w_Ct.of (ls := [some (.ref y), some (iv k)]) (by decide +kernel) (Nat.le_of_ble_eq_true rfl) rfl rfl (fun rng => ?_)
  refine v_iload_n dX9_isKind_0 rfl ?_
  refine v_iconst dX9_isKind_1 ?_
  refine v_iconst dX9_isKind_2 ?_
  refine v_Sb (tX9_in hk ⟨by decide, by decide⟩ ⟨by decide, by decide⟩) kX9_99 rfl rfl ⟨by decide, by decide⟩ ⟨by decide, by decide⟩ (Nat.le_of_ble_eq_true rfl) dX9_isKind_3 (fun h1 => ?_) (fun h1 => ?_)
  · refine v_if_ne ⟨by decide, by decide⟩ dX9_isKind_6 (fun hb6 => ?_) (fun h => by exfalso; omega)
    refine v_iconst dX9_isKind_37 ?_
    refine v_goto dX9_isKind_38 ?_
    exact v_zret rfl (by decide) (by decide) (Or.inr rfl) dX9_isKind_42 ⟨rfl, rfl, Or.inl ⟨rfl, by omega⟩⟩
  · refine v_if_ne ⟨by decide, by decide⟩ dX9_isKind_6 (fun h => by exfalso; omega) (fun hb6 => ?_)
    refine v_aload_n dX9_isKind_9 rfl ?_
    refine v_iload_n dX9_isKind_10 rfl ?_
    refine v_Vb (tX9_isThing (⟨hTy, hYr⟩ : isY G y) hQ0 hk) kX9_117 hTy rfl rfl ⟨by decide, by decide⟩ ⟨by decide, by decide⟩ (Nat.le_of_ble_eq_true rfl) dX9_isKind_11 (fun h2 => ?_) (fun h2 => ?_)
    · refine v_if_ne ⟨by decide, by decide⟩ dX9_isKind_14 (fun hb14 => ?_) (fun h => by exfalso; omega)
      refine v_iconst dX9_isKind_37 ?_
      refine v_goto dX9_isKind_38 ?_
      exact v_zret rfl (by decide) (by decide) (Or.inr rfl) dX9_isKind_42 ⟨rfl, rfl, Or.inl ⟨rfl, by omega⟩⟩
    · refine v_if_ne ⟨by decide, by decide⟩ dX9_isKind_14 (fun h => by exfalso; omega) (fun hb14 => ?_)
      refine v_aload_n dX9_isKind_17 rfl ?_
      refine v_iload_n dX9_isKind_18 rfl ?_
      refine v_Vb (tX9_isThings (⟨hTy, hYr⟩ : isY G y) hQ0 hk) kX9_120 hTy rfl rfl ⟨by decide, by decide⟩ ⟨by decide, by decide⟩ (Nat.le_of_ble_eq_true rfl) dX9_isKind_19 (fun h3 => ?_) (fun h3 => ?_)
      · refine v_if_ne ⟨by decide, by decide⟩ dX9_isKind_22 (fun hb22 => ?_) (fun h => by exfalso; omega)
        refine v_iconst dX9_isKind_37 ?_
        refine v_goto dX9_isKind_38 ?_
        exact v_zret rfl (by decide) (by decide) (Or.inr rfl) dX9_isKind_42 ⟨rfl, rfl, Or.inl ⟨rfl, by omega⟩⟩
      · refine v_if_ne ⟨by decide, by decide⟩ dX9_isKind_22 (fun h => by exfalso; omega) (fun hb22 => ?_)
        refine v_iload_n dX9_isKind_25 rfl ?_
        refine v_bipush dX9_isKind_26 (by decide) ?_
        refine v_sipush dX9_isKind_28 (by decide) ?_
        refine v_Sb (tX9_in hk ⟨by decide, by decide⟩ ⟨by decide, by decide⟩) kX9_99 rfl rfl ⟨by decide, by decide⟩ ⟨by decide, by decide⟩ (Nat.le_of_ble_eq_true rfl) dX9_isKind_31 (fun h4 => ?_) (fun h4 => ?_)
        · refine v_if_eq ⟨by decide, by decide⟩ dX9_isKind_34 (fun h => by exfalso; omega) (fun hb34 => ?_)
          refine v_iconst dX9_isKind_37 ?_
          refine v_goto dX9_isKind_38 ?_
          exact v_zret rfl (by decide) (by decide) (Or.inr rfl) dX9_isKind_42 ⟨rfl, rfl, Or.inl ⟨rfl, by omega⟩⟩
        · refine v_if_eq ⟨by decide, by decide⟩ dX9_isKind_34 (fun hb34 => ?_) (fun h => by exfalso; omega)
          refine v_iconst dX9_isKind_41 ?_
          exact v_zret rfl (by decide) (by decide) (Or.inl rfl) dX9_isKind_42 ⟨rfl, rfl, Or.inr ⟨rfl, by omega⟩⟩
theorem tX9_isArgument {E : w_E} {G : w_Sh} {I : w_Mm} {y : Nat} {Q : cS} (hY : isY G y) (hQ : clsY I y Q) {k : Int} (hk : inR k) : w_Cb E mX9_isArgument 2 [.ref y, iv k] G I (argK Q k) := by
  obtain ⟨hTy, hYr⟩ := hY
  have hQ0 := hQ
  obtain ⟨hq0, hq2, hq16, hqF, hch⟩ := hQ
  refine w_Ct.of (ls := [some (.ref y), some (iv k)]) (by decide +kernel) (Nat.le_of_ble_eq_true rfl) rfl rfl (fun rng => ?_)
  refine v_iload_n dX9_isArgument_0 rfl ?_
  refine v_iconst dX9_isArgument_1 ?_
  refine v_icmp_eq hk ⟨by decide, by decide⟩ dX9_isArgument_2 (fun h1 => ?_) (fun h1 => ?_)
  · refine v_iconst dX9_isArgument_31 ?_
    refine v_goto dX9_isArgument_32 ?_
    exact v_zret rfl (by decide) (by decide) (Or.inr rfl) dX9_isArgument_36 ⟨rfl, rfl, Or.inl ⟨rfl, by omega⟩⟩
  · refine v_iload_n dX9_isArgument_5 rfl ?_
    refine v_iconst dX9_isArgument_6 ?_
    refine v_icmp_eq hk ⟨by decide, by decide⟩ dX9_isArgument_7 (fun h2 => ?_) (fun h2 => ?_)
    · refine v_iconst dX9_isArgument_31 ?_
      refine v_goto dX9_isArgument_32 ?_
      exact v_zret rfl (by decide) (by decide) (Or.inr rfl) dX9_isArgument_36 ⟨rfl, rfl, Or.inl ⟨rfl, by omega⟩⟩
    · refine v_iload_n dX9_isArgument_10 rfl ?_
      refine v_iconst dX9_isArgument_11 ?_
      refine v_icmp_eq hk ⟨by decide, by decide⟩ dX9_isArgument_12 (fun h3 => ?_) (fun h3 => ?_)
      · refine v_iconst dX9_isArgument_31 ?_
        refine v_goto dX9_isArgument_32 ?_
        exact v_zret rfl (by decide) (by decide) (Or.inr rfl) dX9_isArgument_36 ⟨rfl, rfl, Or.inl ⟨rfl, by omega⟩⟩
      · refine v_aload_n dX9_isArgument_15 rfl ?_
        refine v_iload_n dX9_isArgument_16 rfl ?_
        refine v_Vb (tX9_isThing (⟨hTy, hYr⟩ : isY G y) hQ0 hk) kX9_117 hTy rfl rfl ⟨by decide, by decide⟩ ⟨by decide, by decide⟩ (Nat.le_of_ble_eq_true rfl) dX9_isArgument_17 (fun h4 => ?_) (fun h4 => ?_)
        · refine v_if_ne ⟨by decide, by decide⟩ dX9_isArgument_20 (fun hb20 => ?_) (fun h => by exfalso; omega)
          refine v_iconst dX9_isArgument_31 ?_
          refine v_goto dX9_isArgument_32 ?_
          exact v_zret rfl (by decide) (by decide) (Or.inr rfl) dX9_isArgument_36 ⟨rfl, rfl, Or.inl ⟨rfl, by omega⟩⟩
        · refine v_if_ne ⟨by decide, by decide⟩ dX9_isArgument_20 (fun h => by exfalso; omega) (fun hb20 => ?_)
          refine v_aload_n dX9_isArgument_23 rfl ?_
          refine v_iload_n dX9_isArgument_24 rfl ?_
          refine v_Vb (tX9_isThings (⟨hTy, hYr⟩ : isY G y) hQ0 hk) kX9_120 hTy rfl rfl ⟨by decide, by decide⟩ ⟨by decide, by decide⟩ (Nat.le_of_ble_eq_true rfl) dX9_isArgument_25 (fun h5 => ?_) (fun h5 => ?_)
          · refine v_if_eq ⟨by decide, by decide⟩ dX9_isArgument_28 (fun h => by exfalso; omega) (fun hb28 => ?_)
            refine v_iconst dX9_isArgument_31 ?_
            refine v_goto dX9_isArgument_32 ?_
            exact v_zret rfl (by decide) (by decide) (Or.inr rfl) dX9_isArgument_36 ⟨rfl, rfl, Or.inl ⟨rfl, by omega⟩⟩
          · refine v_if_eq ⟨by decide, by decide⟩ dX9_isArgument_28 (fun hb28 => ?_) (fun h => by exfalso; omega)
            refine v_iconst dX9_isArgument_35 ?_
            exact v_zret rfl (by decide) (by decide) (Or.inl rfl) dX9_isArgument_36 ⟨rfl, rfl, Or.inr ⟨rfl, by omega⟩⟩
theorem tX9_join {E : w_E} {G : w_Sh} {I : w_Mm} {y : Nat} {Q : cS} (hY : isY G y) (hQ : clsY I y Q) {a b : Int} (ha : inR a) (hb : inR b) : w_Ct E mX9_join 3 [.ref y, iv a, iv b] G I 0 0 (w_Pi (fun r G' I' => r = (xJoin Q a b) ∧ G' = G ∧ I' = I)) := by
  obtain ⟨hTy, hYr⟩ := hY
  have hQ0 := hQ
  obtain ⟨hq0, hq2, hq16, hqF, hch⟩ := hQ
  refine w_Ct.of (ls := [some (.ref y), some (iv a), some (iv b)]) (by decide +kernel) (Nat.le_of_ble_eq_true rfl) rfl rfl (fun rng => ?_)
  refine v_aload_n dX9_join_0 rfl ?_
  refine v_iload_n dX9_join_1 rfl ?_
  refine v_Vb (tX9_isKind (⟨hTy, hYr⟩ : isY G y) hQ0 ha) kX9_127 hTy rfl rfl ⟨by decide, by decide⟩ ⟨by decide, by decide⟩ (Nat.le_of_ble_eq_true rfl) dX9_join_2 (fun h1 => ?_) (fun h1 => ?_)
  · refine v_if_eq ⟨by decide, by decide⟩ dX9_join_5 (fun h => by exfalso; omega) (fun hb5 => ?_)
    refine v_aload_n dX9_join_8 rfl ?_
    refine v_iload_n dX9_join_9 rfl ?_
    refine v_Vb (tX9_isKind (⟨hTy, hYr⟩ : isY G y) hQ0 hb) kX9_127 hTy rfl rfl ⟨by decide, by decide⟩ ⟨by decide, by decide⟩ (Nat.le_of_ble_eq_true rfl) dX9_join_10 (fun h2 => ?_) (fun h2 => ?_)
    · refine v_if_eq ⟨by decide, by decide⟩ dX9_join_13 (fun h => by exfalso; omega) (fun hb13 => ?_)
      refine v_aload_n dX9_join_16 rfl ?_
      refine v_iload_n dX9_join_17 rfl ?_
      refine v_iload_n dX9_join_18 rfl ?_
      refine v_VmN (tX9_joined (⟨hTy, hYr⟩ : isY G y) hQ0 (by omega) (by omega)) kX9_130 hTy rfl rfl ⟨by decide, by decide⟩ ⟨by decide, by decide⟩ (Nat.le_of_ble_eq_true rfl) dX9_join_19 (fun r3 er3 hr3 rng4 => ?_)
      refine v_goto dX9_join_22 ?_
      exact v_iret rfl (by decide) (by decide) hr3 dX9_join_27 ⟨(by unfold xJoin; rw [if_neg (by omega)]; exact er3), rfl, rfl⟩
    · refine v_if_eq ⟨by decide, by decide⟩ dX9_join_13 (fun hb13 => ?_) (fun h => by exfalso; omega)
      refine v_bipush dX9_join_25 (by decide) ?_
      exact v_iret rfl (by decide) (by decide) ⟨by decide, by decide⟩ dX9_join_27 ⟨(by unfold xJoin; rw [if_pos (by omega)]), rfl, rfl⟩
  · refine v_if_eq ⟨by decide, by decide⟩ dX9_join_5 (fun hb5 => ?_) (fun h => by exfalso; omega)
    refine v_bipush dX9_join_25 (by decide) ?_
    exact v_iret rfl (by decide) (by decide) ⟨by decide, by decide⟩ dX9_join_27 ⟨(by unfold xJoin; rw [if_pos (by omega)]), rfl, rfl⟩
theorem tX9_fits {E : w_E} {G : w_Sh} {I : w_Mm} {y : Nat} {Q : cS} (hY : isY G y) (hQ : clsY I y Q) {a b : Int} (ha : inR a) (hb : inR b) : w_Ct E mX9_fits 2 [.ref y, iv a, iv b] G I 0 0 (w_Pi (fun r G' I' => r = (xFits Q a b) ∧ G' = G ∧ I' = I)) := by
  obtain ⟨hTy, hYr⟩ := hY
  have hQ0 := hQ
  obtain ⟨hq0, hq2, hq16, hqF, hch⟩ := hQ
  refine w_Ct.of (ls := [some (.ref y), some (iv a), some (iv b)]) (by decide +kernel) (Nat.le_of_ble_eq_true rfl) rfl rfl (fun rng => ?_)
  refine v_aload_n dX9_fits_0 rfl ?_
  refine v_iload_n dX9_fits_1 rfl ?_
  refine v_Vb (tX9_isClass (⟨hTy, hYr⟩ : isY G y) hQ0 ha) kX9_103 hTy rfl rfl ⟨by decide, by decide⟩ ⟨by decide, by decide⟩ (Nat.le_of_ble_eq_true rfl) dX9_fits_2 (fun h1 => ?_) (fun h1 => ?_)
  · refine v_if_eq ⟨by decide, by decide⟩ dX9_fits_5 (fun h => by exfalso; omega) (fun hb5 => ?_)
    refine v_aload_n dX9_fits_8 rfl ?_
    refine v_iload_n dX9_fits_9 rfl ?_
    refine v_Vb (tX9_isClass (⟨hTy, hYr⟩ : isY G y) hQ0 hb) kX9_103 hTy rfl rfl ⟨by decide, by decide⟩ ⟨by decide, by decide⟩ (Nat.le_of_ble_eq_true rfl) dX9_fits_10 (fun h2 => ?_) (fun h2 => ?_)
    · refine v_if_ne ⟨by decide, by decide⟩ dX9_fits_13 (fun hb13 => ?_) (fun h => by exfalso; omega)
      refine v_aload_n dX9_fits_21 rfl ?_
      refine v_iload_n dX9_fits_22 rfl ?_
      refine v_iload_n dX9_fits_23 rfl ?_
      refine v_Vb (tX9_fitsClass (⟨hTy, hYr⟩ : isY G y) hQ0 (by omega) (by omega)) kX9_111 hTy rfl rfl ⟨by decide, by decide⟩ ⟨by decide, by decide⟩ (Nat.le_of_ble_eq_true rfl) dX9_fits_24 (fun h3 => ?_) (fun h3 => ?_)
      · refine v_if_eq ⟨by decide, by decide⟩ dX9_fits_27 (fun h => by exfalso; omega) (fun hb27 => ?_)
        refine v_iconst dX9_fits_30 ?_
        refine v_goto dX9_fits_31 ?_
        exact v_iret rfl (by decide) (by decide) ⟨by decide, by decide⟩ dX9_fits_35 ⟨(by unfold xFits; rw [if_neg (by omega), if_pos h3]), rfl, rfl⟩
      · refine v_if_eq ⟨by decide, by decide⟩ dX9_fits_27 (fun hb27 => ?_) (fun h => by exfalso; omega)
        refine v_iconst dX9_fits_34 ?_
        exact v_iret rfl (by decide) (by decide) ⟨by decide, by decide⟩ dX9_fits_35 ⟨(by unfold xFits; rw [if_neg (by omega), if_neg h3]), rfl, rfl⟩
    · refine v_if_ne ⟨by decide, by decide⟩ dX9_fits_13 (fun h => by exfalso; omega) (fun hb13 => ?_)
      refine v_bipush dX9_fits_16 (by decide) ?_
      refine v_goto dX9_fits_18 ?_
      exact v_iret rfl (by decide) (by decide) ⟨by decide, by decide⟩ dX9_fits_35 ⟨(by unfold xFits; rw [if_pos (by omega)]), rfl, rfl⟩
  · refine v_if_eq ⟨by decide, by decide⟩ dX9_fits_5 (fun hb5 => ?_) (fun h => by exfalso; omega)
    refine v_bipush dX9_fits_16 (by decide) ?_
    refine v_goto dX9_fits_18 ?_
    exact v_iret rfl (by decide) (by decide) ⟨by decide, by decide⟩ dX9_fits_35 ⟨(by unfold xFits; rw [if_pos (by omega)]), rfl, rfl⟩
theorem tX9_isOp {E : w_E} {G : w_Sh} {I : w_Mm} {y : Nat} {Q : cS} (hY : isY G y) (hQ : clsY I y Q) {op a b : Int} (hop : inR op) (ha : inR a) (hb : inR b) : w_Cb E mX9_isOp 3 [.ref y, iv op, iv a, iv b] G I (opQ Q op a b) := by
  obtain ⟨hTy, hYr⟩ := hY
  have hQ0 := hQ
  obtain ⟨hq0, hq2, hq16, hqF, hch⟩ := hQ
  refine w_Ct.of (ls := [some (.ref y), some (iv op), some (iv a), some (iv b)]) (by decide +kernel) (Nat.le_of_ble_eq_true rfl) rfl rfl (fun rng => ?_)
  by_cases hc : 2 ≤ op ∧ op ≤ 19
  · obtain ⟨c1, c2⟩ := hc
    have hcs : op = 2 ∨ op = 3 ∨ op = 4 ∨ op = 5 ∨ op = 6 ∨ op = 7 ∨ op = 8 ∨ op = 9 ∨ op = 10 ∨ op = 11 ∨ op = 12 ∨ op = 13 ∨ op = 14 ∨ op = 15 ∨ op = 16 ∨ op = 17 ∨ op = 18 ∨ op = 19 := by omega
    rcases hcs with rfl | rfl | rfl | rfl | rfl | rfl | rfl | rfl | rfl | rfl | rfl | rfl | rfl | rfl | rfl | rfl | rfl | rfl
    · refine v_iload_n dX9_isOp_0 rfl ?_
      refine v_tswIn (off := 87) (tgt := 88) dX9_isOp_1 ⟨by decide, by decide⟩ (by decide) (by decide) (by decide) (by decide) ?_
      refine v_iload_n dX9_isOp_88 rfl ?_
      refine v_iconst dX9_isOp_89 ?_
      refine v_bipush dX9_isOp_90 (by decide) ?_
      refine v_Sb (tX9_in ha ⟨by decide, by decide⟩ ⟨by decide, by decide⟩) kX9_99 rfl rfl ⟨by decide, by decide⟩ ⟨by decide, by decide⟩ (Nat.le_of_ble_eq_true rfl) dX9_isOp_92 (fun h1 => ?_) (fun h1 => ?_)
      · exact v_zret rfl (by decide) (by decide) (Or.inr rfl) dX9_isOp_95 ⟨rfl, rfl, Or.inl ⟨rfl, by omega⟩⟩
      · exact v_zret rfl (by decide) (by decide) (Or.inl rfl) dX9_isOp_95 ⟨rfl, rfl, Or.inr ⟨rfl, by omega⟩⟩
    · refine v_iload_n dX9_isOp_0 rfl ?_
      refine v_tswIn (off := 87) (tgt := 88) dX9_isOp_1 ⟨by decide, by decide⟩ (by decide) (by decide) (by decide) (by decide) ?_
      refine v_iload_n dX9_isOp_88 rfl ?_
      refine v_iconst dX9_isOp_89 ?_
      refine v_bipush dX9_isOp_90 (by decide) ?_
      refine v_Sb (tX9_in ha ⟨by decide, by decide⟩ ⟨by decide, by decide⟩) kX9_99 rfl rfl ⟨by decide, by decide⟩ ⟨by decide, by decide⟩ (Nat.le_of_ble_eq_true rfl) dX9_isOp_92 (fun h1 => ?_) (fun h1 => ?_)
      · exact v_zret rfl (by decide) (by decide) (Or.inr rfl) dX9_isOp_95 ⟨rfl, rfl, Or.inl ⟨rfl, by omega⟩⟩
      · exact v_zret rfl (by decide) (by decide) (Or.inl rfl) dX9_isOp_95 ⟨rfl, rfl, Or.inr ⟨rfl, by omega⟩⟩
    · refine v_iload_n dX9_isOp_0 rfl ?_
      refine v_tswIn (off := 95) (tgt := 96) dX9_isOp_1 ⟨by decide, by decide⟩ (by decide) (by decide) (by decide) (by decide) ?_
      refine v_iload_n dX9_isOp_96 rfl ?_
      refine v_iconst dX9_isOp_97 ?_
      refine v_bipush dX9_isOp_98 (by decide) ?_
      refine v_Sb (tX9_in ha ⟨by decide, by decide⟩ ⟨by decide, by decide⟩) kX9_99 rfl rfl ⟨by decide, by decide⟩ ⟨by decide, by decide⟩ (Nat.le_of_ble_eq_true rfl) dX9_isOp_100 (fun h1 => ?_) (fun h1 => ?_)
      · exact v_zret rfl (by decide) (by decide) (Or.inr rfl) dX9_isOp_103 ⟨rfl, rfl, Or.inl ⟨rfl, by omega⟩⟩
      · exact v_zret rfl (by decide) (by decide) (Or.inl rfl) dX9_isOp_103 ⟨rfl, rfl, Or.inr ⟨rfl, by omega⟩⟩
    · refine v_iload_n dX9_isOp_0 rfl ?_
      refine v_tswIn (off := 95) (tgt := 96) dX9_isOp_1 ⟨by decide, by decide⟩ (by decide) (by decide) (by decide) (by decide) ?_
      refine v_iload_n dX9_isOp_96 rfl ?_
      refine v_iconst dX9_isOp_97 ?_
      refine v_bipush dX9_isOp_98 (by decide) ?_
      refine v_Sb (tX9_in ha ⟨by decide, by decide⟩ ⟨by decide, by decide⟩) kX9_99 rfl rfl ⟨by decide, by decide⟩ ⟨by decide, by decide⟩ (Nat.le_of_ble_eq_true rfl) dX9_isOp_100 (fun h1 => ?_) (fun h1 => ?_)
      · exact v_zret rfl (by decide) (by decide) (Or.inr rfl) dX9_isOp_103 ⟨rfl, rfl, Or.inl ⟨rfl, by omega⟩⟩
      · exact v_zret rfl (by decide) (by decide) (Or.inl rfl) dX9_isOp_103 ⟨rfl, rfl, Or.inr ⟨rfl, by omega⟩⟩
    · refine v_iload_n dX9_isOp_0 rfl ?_
      refine v_tswIn (off := 87) (tgt := 88) dX9_isOp_1 ⟨by decide, by decide⟩ (by decide) (by decide) (by decide) (by decide) ?_
      refine v_iload_n dX9_isOp_88 rfl ?_
      refine v_iconst dX9_isOp_89 ?_
      refine v_bipush dX9_isOp_90 (by decide) ?_
      refine v_Sb (tX9_in ha ⟨by decide, by decide⟩ ⟨by decide, by decide⟩) kX9_99 rfl rfl ⟨by decide, by decide⟩ ⟨by decide, by decide⟩ (Nat.le_of_ble_eq_true rfl) dX9_isOp_92 (fun h1 => ?_) (fun h1 => ?_)
      · exact v_zret rfl (by decide) (by decide) (Or.inr rfl) dX9_isOp_95 ⟨rfl, rfl, Or.inl ⟨rfl, by omega⟩⟩
      · exact v_zret rfl (by decide) (by decide) (Or.inl rfl) dX9_isOp_95 ⟨rfl, rfl, Or.inr ⟨rfl, by omega⟩⟩
    · refine v_iload_n dX9_isOp_0 rfl ?_
      refine v_tswIn (off := 87) (tgt := 88) dX9_isOp_1 ⟨by decide, by decide⟩ (by decide) (by decide) (by decide) (by decide) ?_
      refine v_iload_n dX9_isOp_88 rfl ?_
      refine v_iconst dX9_isOp_89 ?_
      refine v_bipush dX9_isOp_90 (by decide) ?_
      refine v_Sb (tX9_in ha ⟨by decide, by decide⟩ ⟨by decide, by decide⟩) kX9_99 rfl rfl ⟨by decide, by decide⟩ ⟨by decide, by decide⟩ (Nat.le_of_ble_eq_true rfl) dX9_isOp_92 (fun h1 => ?_) (fun h1 => ?_)
      · exact v_zret rfl (by decide) (by decide) (Or.inr rfl) dX9_isOp_95 ⟨rfl, rfl, Or.inl ⟨rfl, by omega⟩⟩
      · exact v_zret rfl (by decide) (by decide) (Or.inl rfl) dX9_isOp_95 ⟨rfl, rfl, Or.inr ⟨rfl, by omega⟩⟩
    · refine v_iload_n dX9_isOp_0 rfl ?_
      refine v_tswIn (off := 164) (tgt := 165) dX9_isOp_1 ⟨by decide, by decide⟩ (by decide) (by decide) (by decide) (by decide) ?_
      refine v_iload_n dX9_isOp_165 rfl ?_
      refine v_iconst dX9_isOp_166 ?_
      refine v_bipush dX9_isOp_167 (by decide) ?_
      refine v_Sb (tX9_in ⟨by decide, by decide⟩ ⟨by decide, by decide⟩ ⟨by decide, by decide⟩) kX9_99 rfl rfl ⟨by decide, by decide⟩ ⟨by decide, by decide⟩ (Nat.le_of_ble_eq_true rfl) dX9_isOp_169 (fun h1 => ?_) (fun h1 => ?_)
      · exact v_zret rfl (by decide) (by decide) (Or.inr rfl) dX9_isOp_172 ⟨rfl, rfl, Or.inl ⟨rfl, by omega⟩⟩
      · exact v_zret rfl (by decide) (by decide) (Or.inl rfl) dX9_isOp_172 ⟨rfl, rfl, Or.inr ⟨rfl, by omega⟩⟩
    · refine v_iload_n dX9_isOp_0 rfl ?_
      refine v_tswIn (off := 164) (tgt := 165) dX9_isOp_1 ⟨by decide, by decide⟩ (by decide) (by decide) (by decide) (by decide) ?_
      refine v_iload_n dX9_isOp_165 rfl ?_
      refine v_iconst dX9_isOp_166 ?_
      refine v_bipush dX9_isOp_167 (by decide) ?_
      refine v_Sb (tX9_in ⟨by decide, by decide⟩ ⟨by decide, by decide⟩ ⟨by decide, by decide⟩) kX9_99 rfl rfl ⟨by decide, by decide⟩ ⟨by decide, by decide⟩ (Nat.le_of_ble_eq_true rfl) dX9_isOp_169 (fun h1 => ?_) (fun h1 => ?_)
      · exact v_zret rfl (by decide) (by decide) (Or.inr rfl) dX9_isOp_172 ⟨rfl, rfl, Or.inl ⟨rfl, by omega⟩⟩
      · exact v_zret rfl (by decide) (by decide) (Or.inl rfl) dX9_isOp_172 ⟨rfl, rfl, Or.inr ⟨rfl, by omega⟩⟩
    · refine v_iload_n dX9_isOp_0 rfl ?_
      refine v_tswIn (off := 164) (tgt := 165) dX9_isOp_1 ⟨by decide, by decide⟩ (by decide) (by decide) (by decide) (by decide) ?_
      refine v_iload_n dX9_isOp_165 rfl ?_
      refine v_iconst dX9_isOp_166 ?_
      refine v_bipush dX9_isOp_167 (by decide) ?_
      refine v_Sb (tX9_in ⟨by decide, by decide⟩ ⟨by decide, by decide⟩ ⟨by decide, by decide⟩) kX9_99 rfl rfl ⟨by decide, by decide⟩ ⟨by decide, by decide⟩ (Nat.le_of_ble_eq_true rfl) dX9_isOp_169 (fun h1 => ?_) (fun h1 => ?_)
      · exact v_zret rfl (by decide) (by decide) (Or.inr rfl) dX9_isOp_172 ⟨rfl, rfl, Or.inl ⟨rfl, by omega⟩⟩
      · exact v_zret rfl (by decide) (by decide) (Or.inl rfl) dX9_isOp_172 ⟨rfl, rfl, Or.inr ⟨rfl, by omega⟩⟩
    · refine v_iload_n dX9_isOp_0 rfl ?_
      refine v_tswIn (off := 103) (tgt := 104) dX9_isOp_1 ⟨by decide, by decide⟩ (by decide) (by decide) (by decide) (by decide) ?_
      refine v_iload_n dX9_isOp_104 rfl ?_
      refine v_if_lt ha dX9_isOp_105 (fun h1 => ?_) (fun h1 => ?_)
      · refine v_iconst dX9_isOp_112 ?_
        exact v_zret rfl (by decide) (by decide) (Or.inl rfl) dX9_isOp_113 ⟨rfl, rfl, Or.inr ⟨rfl, by omega⟩⟩
      · refine v_iconst dX9_isOp_108 ?_
        refine v_goto dX9_isOp_109 ?_
        exact v_zret rfl (by decide) (by decide) (Or.inr rfl) dX9_isOp_113 ⟨rfl, rfl, Or.inl ⟨rfl, by omega⟩⟩
    · refine v_iload_n dX9_isOp_0 rfl ?_
      refine v_tswIn (off := 103) (tgt := 104) dX9_isOp_1 ⟨by decide, by decide⟩ (by decide) (by decide) (by decide) (by decide) ?_
      refine v_iload_n dX9_isOp_104 rfl ?_
      refine v_if_lt ha dX9_isOp_105 (fun h1 => ?_) (fun h1 => ?_)
      · refine v_iconst dX9_isOp_112 ?_
        exact v_zret rfl (by decide) (by decide) (Or.inl rfl) dX9_isOp_113 ⟨rfl, rfl, Or.inr ⟨rfl, by omega⟩⟩
      · refine v_iconst dX9_isOp_108 ?_
        refine v_goto dX9_isOp_109 ?_
        exact v_zret rfl (by decide) (by decide) (Or.inr rfl) dX9_isOp_113 ⟨rfl, rfl, Or.inl ⟨rfl, by omega⟩⟩
    · refine v_iload_n dX9_isOp_0 rfl ?_
      refine v_tswIn (off := 113) (tgt := 114) dX9_isOp_1 ⟨by decide, by decide⟩ (by decide) (by decide) (by decide) (by decide) ?_
      refine v_aload_n dX9_isOp_114 rfl ?_
      refine v_iload_n dX9_isOp_115 rfl ?_
      refine v_Vb (tX9_isClass (⟨hTy, hYr⟩ : isY G y) hQ0 ha) kX9_103 hTy rfl rfl ⟨by decide, by decide⟩ ⟨by decide, by decide⟩ (Nat.le_of_ble_eq_true rfl) dX9_isOp_116 (fun h1 => ?_) (fun h1 => ?_)
      · exact v_zret rfl (by decide) (by decide) (Or.inr rfl) dX9_isOp_119 ⟨rfl, rfl, Or.inl ⟨rfl, by omega⟩⟩
      · exact v_zret rfl (by decide) (by decide) (Or.inl rfl) dX9_isOp_119 ⟨rfl, rfl, Or.inr ⟨rfl, by omega⟩⟩
    · refine v_iload_n dX9_isOp_0 rfl ?_
      refine v_tswIn (off := 164) (tgt := 165) dX9_isOp_1 ⟨by decide, by decide⟩ (by decide) (by decide) (by decide) (by decide) ?_
      refine v_iload_n dX9_isOp_165 rfl ?_
      refine v_iconst dX9_isOp_166 ?_
      refine v_bipush dX9_isOp_167 (by decide) ?_
      refine v_Sb (tX9_in ⟨by decide, by decide⟩ ⟨by decide, by decide⟩ ⟨by decide, by decide⟩) kX9_99 rfl rfl ⟨by decide, by decide⟩ ⟨by decide, by decide⟩ (Nat.le_of_ble_eq_true rfl) dX9_isOp_169 (fun h1 => ?_) (fun h1 => ?_)
      · exact v_zret rfl (by decide) (by decide) (Or.inr rfl) dX9_isOp_172 ⟨rfl, rfl, Or.inl ⟨rfl, by omega⟩⟩
      · exact v_zret rfl (by decide) (by decide) (Or.inl rfl) dX9_isOp_172 ⟨rfl, rfl, Or.inr ⟨rfl, by omega⟩⟩
    · refine v_iload_n dX9_isOp_0 rfl ?_
      refine v_tswIn (off := 113) (tgt := 114) dX9_isOp_1 ⟨by decide, by decide⟩ (by decide) (by decide) (by decide) (by decide) ?_
      refine v_aload_n dX9_isOp_114 rfl ?_
      refine v_iload_n dX9_isOp_115 rfl ?_
      refine v_Vb (tX9_isClass (⟨hTy, hYr⟩ : isY G y) hQ0 ha) kX9_103 hTy rfl rfl ⟨by decide, by decide⟩ ⟨by decide, by decide⟩ (Nat.le_of_ble_eq_true rfl) dX9_isOp_116 (fun h1 => ?_) (fun h1 => ?_)
      · exact v_zret rfl (by decide) (by decide) (Or.inr rfl) dX9_isOp_119 ⟨rfl, rfl, Or.inl ⟨rfl, by omega⟩⟩
      · exact v_zret rfl (by decide) (by decide) (Or.inl rfl) dX9_isOp_119 ⟨rfl, rfl, Or.inr ⟨rfl, by omega⟩⟩
    · refine v_iload_n dX9_isOp_0 rfl ?_
      refine v_tswIn (off := 119) (tgt := 120) dX9_isOp_1 ⟨by decide, by decide⟩ (by decide) (by decide) (by decide) (by decide) ?_
      refine v_aload_n dX9_isOp_120 rfl ?_
      refine v_iload_n dX9_isOp_121 rfl ?_
      refine v_Vb (tX9_isClass (⟨hTy, hYr⟩ : isY G y) hQ0 ha) kX9_103 hTy rfl rfl ⟨by decide, by decide⟩ ⟨by decide, by decide⟩ (Nat.le_of_ble_eq_true rfl) dX9_isOp_122 (fun h1 => ?_) (fun h1 => ?_)
      · refine v_if_eq ⟨by decide, by decide⟩ dX9_isOp_125 (fun h => by exfalso; omega) (fun hb125 => ?_)
        refine v_iload_n dX9_isOp_128 rfl ?_
        refine v_if_eq hb dX9_isOp_129 (fun h2 => ?_) (fun h2 => ?_)
        · refine v_iconst dX9_isOp_140 ?_
          refine v_goto dX9_isOp_141 ?_
          exact v_zret rfl (by decide) (by decide) (Or.inr rfl) dX9_isOp_145 ⟨rfl, rfl, Or.inl ⟨rfl, by omega⟩⟩
        · refine v_aload_n dX9_isOp_132 rfl ?_
          refine v_iload_n dX9_isOp_133 rfl ?_
          refine v_Vb (tX9_isArgument (⟨hTy, hYr⟩ : isY G y) hQ0 hb) kX9_136 hTy rfl rfl ⟨by decide, by decide⟩ ⟨by decide, by decide⟩ (Nat.le_of_ble_eq_true rfl) dX9_isOp_134 (fun h3 => ?_) (fun h3 => ?_)
          · refine v_if_eq ⟨by decide, by decide⟩ dX9_isOp_137 (fun h => by exfalso; omega) (fun hb137 => ?_)
            refine v_iconst dX9_isOp_140 ?_
            refine v_goto dX9_isOp_141 ?_
            exact v_zret rfl (by decide) (by decide) (Or.inr rfl) dX9_isOp_145 ⟨rfl, rfl, Or.inl ⟨rfl, by omega⟩⟩
          · refine v_if_eq ⟨by decide, by decide⟩ dX9_isOp_137 (fun hb137 => ?_) (fun h => by exfalso; omega)
            refine v_iconst dX9_isOp_144 ?_
            exact v_zret rfl (by decide) (by decide) (Or.inl rfl) dX9_isOp_145 ⟨rfl, rfl, Or.inr ⟨rfl, by omega⟩⟩
      · refine v_if_eq ⟨by decide, by decide⟩ dX9_isOp_125 (fun hb125 => ?_) (fun h => by exfalso; omega)
        refine v_iconst dX9_isOp_144 ?_
        exact v_zret rfl (by decide) (by decide) (Or.inl rfl) dX9_isOp_145 ⟨rfl, rfl, Or.inr ⟨rfl, by omega⟩⟩
    · refine v_iload_n dX9_isOp_0 rfl ?_
      refine v_tswIn (off := 164) (tgt := 165) dX9_isOp_1 ⟨by decide, by decide⟩ (by decide) (by decide) (by decide) (by decide) ?_
      refine v_iload_n dX9_isOp_165 rfl ?_
      refine v_iconst dX9_isOp_166 ?_
      refine v_bipush dX9_isOp_167 (by decide) ?_
      refine v_Sb (tX9_in ⟨by decide, by decide⟩ ⟨by decide, by decide⟩ ⟨by decide, by decide⟩) kX9_99 rfl rfl ⟨by decide, by decide⟩ ⟨by decide, by decide⟩ (Nat.le_of_ble_eq_true rfl) dX9_isOp_169 (fun h1 => ?_) (fun h1 => ?_)
      · exact v_zret rfl (by decide) (by decide) (Or.inr rfl) dX9_isOp_172 ⟨rfl, rfl, Or.inl ⟨rfl, by omega⟩⟩
      · exact v_zret rfl (by decide) (by decide) (Or.inl rfl) dX9_isOp_172 ⟨rfl, rfl, Or.inr ⟨rfl, by omega⟩⟩
    · refine v_iload_n dX9_isOp_0 rfl ?_
      refine v_tswIn (off := 113) (tgt := 114) dX9_isOp_1 ⟨by decide, by decide⟩ (by decide) (by decide) (by decide) (by decide) ?_
      refine v_aload_n dX9_isOp_114 rfl ?_
      refine v_iload_n dX9_isOp_115 rfl ?_
      refine v_Vb (tX9_isClass (⟨hTy, hYr⟩ : isY G y) hQ0 ha) kX9_103 hTy rfl rfl ⟨by decide, by decide⟩ ⟨by decide, by decide⟩ (Nat.le_of_ble_eq_true rfl) dX9_isOp_116 (fun h1 => ?_) (fun h1 => ?_)
      · exact v_zret rfl (by decide) (by decide) (Or.inr rfl) dX9_isOp_119 ⟨rfl, rfl, Or.inl ⟨rfl, by omega⟩⟩
      · exact v_zret rfl (by decide) (by decide) (Or.inl rfl) dX9_isOp_119 ⟨rfl, rfl, Or.inr ⟨rfl, by omega⟩⟩
    · refine v_iload_n dX9_isOp_0 rfl ?_
      refine v_tswIn (off := 145) (tgt := 146) dX9_isOp_1 ⟨by decide, by decide⟩ (by decide) (by decide) (by decide) (by decide) ?_
      refine v_iload_n dX9_isOp_146 rfl ?_
      refine v_iconst dX9_isOp_147 ?_
      refine v_icmp_eq ha ⟨by decide, by decide⟩ dX9_isOp_148 (fun h1 => ?_) (fun h1 => ?_)
      · refine v_iconst dX9_isOp_159 ?_
        refine v_goto dX9_isOp_160 ?_
        exact v_zret rfl (by decide) (by decide) (Or.inr rfl) dX9_isOp_164 ⟨rfl, rfl, Or.inl ⟨rfl, by omega⟩⟩
      · refine v_aload_n dX9_isOp_151 rfl ?_
        refine v_iload_n dX9_isOp_152 rfl ?_
        refine v_Vb (tX9_isClass (⟨hTy, hYr⟩ : isY G y) hQ0 ha) kX9_103 hTy rfl rfl ⟨by decide, by decide⟩ ⟨by decide, by decide⟩ (Nat.le_of_ble_eq_true rfl) dX9_isOp_153 (fun h2 => ?_) (fun h2 => ?_)
        · refine v_if_eq ⟨by decide, by decide⟩ dX9_isOp_156 (fun h => by exfalso; omega) (fun hb156 => ?_)
          refine v_iconst dX9_isOp_159 ?_
          refine v_goto dX9_isOp_160 ?_
          exact v_zret rfl (by decide) (by decide) (Or.inr rfl) dX9_isOp_164 ⟨rfl, rfl, Or.inl ⟨rfl, by omega⟩⟩
        · refine v_if_eq ⟨by decide, by decide⟩ dX9_isOp_156 (fun hb156 => ?_) (fun h => by exfalso; omega)
          refine v_iconst dX9_isOp_163 ?_
          exact v_zret rfl (by decide) (by decide) (Or.inl rfl) dX9_isOp_164 ⟨rfl, rfl, Or.inr ⟨rfl, by omega⟩⟩
  · refine v_iload_n dX9_isOp_0 rfl ?_
    refine v_tswOut (tgt := 165) dX9_isOp_1 hop (by omega) (by decide) ?_
    refine v_iload_n dX9_isOp_165 rfl ?_
    refine v_iconst dX9_isOp_166 ?_
    refine v_bipush dX9_isOp_167 (by decide) ?_
    refine v_Sb (tX9_in hop ⟨by decide, by decide⟩ ⟨by decide, by decide⟩) kX9_99 rfl rfl ⟨by decide, by decide⟩ ⟨by decide, by decide⟩ (Nat.le_of_ble_eq_true rfl) dX9_isOp_169 (fun h1 => ?_) (fun h1 => ?_)
    · exact v_zret rfl (by decide) (by decide) (Or.inr rfl) dX9_isOp_172 ⟨rfl, rfl, Or.inl ⟨rfl, by omega⟩⟩
    · exact v_zret rfl (by decide) (by decide) (Or.inl rfl) dX9_isOp_172 ⟨rfl, rfl, Or.inr ⟨rfl, by omega⟩⟩
