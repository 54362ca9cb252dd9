theorem lvA_rng {σ : Sto} (hW : WOK σ) (hp : PlOK σ) {l aT : Int} (h0 : 0 ≤ l) (h1 : l < gN σ 153 38) : -60 ≤ lvA σ l aT ∧ lvA σ l aT ≤ 1680 := by
  have hR := hW.1
  have q := hp.2 l h0 h1
  have b := hW.2.2.2.1 (gN σ 173 l) (by omega) (by omega)
  have s := hW.2.2.2.2.2.2 (gN σ 173 l) (by omega) (by omega)
  unfold lvA
  split <;> omega
theorem rdW_rng {σ : Sto} (hW : WOK σ) (hp : PlOK σ) {l s : Int} (h0 : 0 ≤ l) (h1 : l < gN σ 153 38) (hs0 : 0 ≤ s) (hs1 : s < 10) : 0 ≤ rdW σ l s ∧ rdW σ l s ≤ 1000000 := by
  have hR := hW.1
  have q := hp.2 l h0 h1
  unfold rdW
  split
  · have q0 := hp.2 0 (by omega) (by omega)
    have b := hW.2.2.2.1 (gN σ 173 0) (by omega) (by omega)
    exact hW.2.2.2.2.1 s _ hs0 hs1 b.2.1.1 b.2.1.2
  · have q1 := hp.2 (l - 1) (by omega) (by omega)
    exact btw_rng hW (by omega) (by omega) (by omega) (by omega)
theorem rdy_rng {σ : Sto} (hW : WOK σ) (hp : PlOK σ) {l s m aT : Int} (h0 : 0 ≤ l) (h1 : l < gN σ 153 38) (hs0 : 0 ≤ s) (hs1 : s < 10) (hm : mnt m) : -60 ≤ rdy σ l s m aT ∧ rdy σ l s m aT ≤ 1010000 := by
  have hR := hW.1
  have q := hp.2 l h0 h1
  have w := rdW_rng hW hp h0 h1 hs0 hs1
  unfold rdy
  split
  · omega
  · split
    · omega
    · have q1 := hp.2 (l - 1) (by omega) (by omega)
      have b := hW.2.2.2.1 (gN σ 174 (l - 1)) (by omega) (by omega)
      have s := hW.2.2.2.2.2.2 (gN σ 174 (l - 1)) (by omega) (by omega)
      split <;> omega

set_option maxRecDepth 20000 in
theorem t_leavesAt (σ : Sto) (l aT : Int) (hW : WOK σ) (hp : PlOK σ) (h0 : 0 ≤ l) (h1 : l < gN σ 153 38) (ha : aT = 0 ∨ aT = 1) : MetI mX9_leavesAt [ar 153, ai l, ai aT] σ (lvA σ l aT) σ := by
  have hR := hW.1
  have q := hp.2 l h0 h1
  have hl := hp.1
  refine a_entry (by decide) (Nat.le_of_ble_eq_true rfl) ?_
  refine a_aload_n dX9_leavesAt_0 rfl rfl ?_
  refine a_aload_n dX9_leavesAt_1 rfl rfl ?_
  refine a_getF (d := 173) fX9_73 k153 rfl r153_36 dX9_leavesAt_2 ?_
  refine a_iload_n dX9_leavesAt_5 rfl rfl ?_
  refine a_ild k173 n173 (by omega) (by omega) dX9_leavesAt_6 ?_
  refine a_iconst dX9_leavesAt_7 ?_
  refine a_cI (c := 153) (as := [ai (gN σ 173 l), ai 3]) (rest := []) (t_told σ (gN σ 173 l) 3 (by omega) (by omega)) mvX9_told lX9_201 k153 (by decide) rfl rfl rfl rfl (Nat.le_of_ble_eq_true rfl) (Nat.le_of_ble_eq_true rfl) (Nat.le_of_ble_eq_true rfl) dX9_leavesAt_8 ?_
  refine a_iload_n dX9_leavesAt_11 rfl rfl ?_
  refine a_if_eq (tgt := 19) dX9_leavesAt_12 (by decide) (inR_of (by omega) (by omega)) (fun c12 => ?_) (fun c12 => ?_)
  · refine a_aload_n dX9_leavesAt_19 rfl rfl ?_
    refine a_getF (d := 158) fX9_26 k153 rfl r153_16 dX9_leavesAt_20 ?_
    refine a_aload_n dX9_leavesAt_23 rfl rfl ?_
    refine a_getF (d := 173) fX9_73 k153 rfl r153_36 dX9_leavesAt_24 ?_
    refine a_iload_n dX9_leavesAt_27 rfl rfl ?_
    refine a_ild k173 n173 (by omega) (by omega) dX9_leavesAt_28 ?_
    refine a_ild k158 n158 (by omega) (by omega) dX9_leavesAt_29 ?_
    refine a_iadd dX9_leavesAt_30 ?_
    exact a_iret rfl ⟨by unfold lvA; grind, rfl⟩ dX9_leavesAt_31
  · refine a_iconst dX9_leavesAt_15 ?_
    refine a_goto (tgt := 30) dX9_leavesAt_16 (by decide) ?_
    refine a_iadd dX9_leavesAt_30 ?_
    exact a_iret rfl ⟨by unfold lvA; grind, rfl⟩ dX9_leavesAt_31

set_option maxRecDepth 20000 in
theorem t_ready (σ : Sto) (l s m aT : Int) (hW : WOK σ) (hp : PlOK σ) (h0 : 0 ≤ l) (h1 : l < gN σ 153 38) (hs0 : 0 ≤ s) (hs1 : s < 10) (hm : mnt m) (ha : aT = 0 ∨ aT = 1) : MetI mX9_ready [ar 153, ai l, ai s, ai m, ai aT] σ (rdy σ l s m aT) σ := by
  have hR := hW.1
  have q := hp.2 l h0 h1
  have hl := hp.1
  have q0 := hp.2 0 (by omega) (by omega)
  have b0 := hW.2.2.2.1 (gN σ 173 0) (by omega) (by omega)
  have w0 := hW.2.2.2.2.1 s _ hs0 hs1 b0.2.1.1 b0.2.1.2
  have w9 := rdW_rng hW hp h0 h1 hs0 hs1
  have q1 : l = 0 ∨ (0 ≤ gN σ 173 (l - 1) ∧ gN σ 173 (l - 1) ≤ gN σ 174 (l - 1) ∧ gN σ 174 (l - 1) < gN σ 155 3) := by
    by_cases e : l = 0
    · exact Or.inl e
    · exact Or.inr (hp.2 (l - 1) (by omega) (by omega))
  refine a_entry (by decide) (Nat.le_of_ble_eq_true rfl) ?_
  refine a_iload dX9_ready_0 rfl ?_
  refine a_if_eq (tgt := 9) dX9_ready_2 (by decide) (inR_of (by omega) (by omega)) (fun c2 => ?_) (fun c2 => ?_)
  · refine a_iload_n dX9_ready_9 rfl rfl ?_
    refine a_if_ne (tgt := 17) dX9_ready_10 (by decide) (inR_of (by omega) (by omega)) (fun c10 => ?_) (fun c10 => ?_)
    · refine a_aload_n dX9_ready_17 rfl rfl ?_
      refine a_getF (d := 158) fX9_26 k153 rfl r153_16 dX9_ready_18 ?_
      refine a_aload_n dX9_ready_21 rfl rfl ?_
      refine a_getF (d := 174) fX9_76 k153 rfl r153_37 dX9_ready_22 ?_
      refine a_iload_n dX9_ready_25 rfl rfl ?_
      refine a_iconst dX9_ready_26 ?_
      refine a_isub dX9_ready_27 ?_
      refine a_ild k174 n174 (by omega) (by omega) dX9_ready_28 ?_
      refine a_ild k158 n158 (by omega) (by omega) dX9_ready_29 ?_
      refine a_istore (ls' := [(5, ai (gN σ 158 (gN σ 174 (l - 1)))), (0, ar 153), (1, ai l), (2, ai s), (3, ai m), (4, ai aT)]) dX9_ready_30 (Nat.le_of_ble_eq_true rfl) rfl ?_
      refine a_iload_n dX9_ready_32 rfl rfl ?_
      refine a_if_ne (tgt := 55) dX9_ready_33 (by decide) (inR_of (by omega) (by omega)) (fun c33 => ?_) (fun c33 => ?_)
      · refine a_aload_n dX9_ready_55 rfl rfl ?_
        refine a_aload_n dX9_ready_56 rfl rfl ?_
        refine a_getF (d := 174) fX9_76 k153 rfl r153_37 dX9_ready_57 ?_
        refine a_iload_n dX9_ready_60 rfl rfl ?_
        refine a_iconst dX9_ready_61 ?_
        refine a_isub dX9_ready_62 ?_
        refine a_ild k174 n174 (by omega) (by omega) dX9_ready_63 ?_
        refine a_aload_n dX9_ready_64 rfl rfl ?_
        refine a_getF (d := 173) fX9_73 k153 rfl r153_36 dX9_ready_65 ?_
        refine a_iload_n dX9_ready_68 rfl rfl ?_
        refine a_ild k173 n173 (by omega) (by omega) dX9_ready_69 ?_
        refine a_cI (c := 153) (as := [ai (gN σ 174 (l - 1)), ai (gN σ 173 l)]) (rest := []) (t_btw σ (gN σ 174 (l - 1)) (gN σ 173 l) hW (by omega) (by omega) (by omega) (by omega)) mvX9_between lX9_246 k153 (by decide) rfl rfl rfl rfl (Nat.le_of_ble_eq_true rfl) (Nat.le_of_ble_eq_true rfl) (Nat.le_of_ble_eq_true rfl) dX9_ready_70 ?_
        have bb := btw_rng hW (i := (gN σ 174 (l - 1))) (k := (gN σ 173 l)) (by omega) (by omega) (by omega) (by omega)
        refine a_istore (ls' := [(6, ai (btw σ (gN σ 174 (l - 1)) (gN σ 173 l))), (5, ai (gN σ 158 (gN σ 174 (l - 1)))), (0, ar 153), (1, ai l), (2, ai s), (3, ai m), (4, ai aT)]) dX9_ready_73 (Nat.le_of_ble_eq_true rfl) rfl ?_
        refine a_iload dX9_ready_75 rfl ?_
        refine a_ldc (x := 1000000) cX9_175 (by decide) dX9_ready_77 ?_
        refine a_icmp_lt (tgt := 85) dX9_ready_79 (by decide) (inR_of (by omega) (by omega)) (inR_of (by omega) (by omega)) (fun c79 => ?_) (fun c79 => ?_)
        · refine a_iload dX9_ready_85 rfl ?_
          refine a_iload_n dX9_ready_87 rfl rfl ?_
          refine a_if_ne (tgt := 95) dX9_ready_88 (by decide) (inR_of (by omega) (by omega)) (fun c88 => ?_) (fun c88 => ?_)
          · refine a_aload_n dX9_ready_95 rfl rfl ?_
            refine a_aload_n dX9_ready_96 rfl rfl ?_
            refine a_getF (d := 174) fX9_76 k153 rfl r153_37 dX9_ready_97 ?_
            refine a_iload_n dX9_ready_100 rfl rfl ?_
            refine a_iconst dX9_ready_101 ?_
            refine a_isub dX9_ready_102 ?_
            refine a_ild k174 n174 (by omega) (by omega) dX9_ready_103 ?_
            refine a_iconst dX9_ready_104 ?_
            refine a_cI (c := 153) (as := [ai (gN σ 174 (l - 1)), ai 4]) (rest := [ai (btw σ (gN σ 174 (l - 1)) (gN σ 173 l))]) (t_told σ (gN σ 174 (l - 1)) 4 (by omega) (by omega)) mvX9_told lX9_201 k153 (by decide) rfl rfl rfl rfl (Nat.le_of_ble_eq_true rfl) (Nat.le_of_ble_eq_true rfl) (Nat.le_of_ble_eq_true rfl) dX9_ready_105 ?_
            refine a_iload dX9_ready_108 rfl ?_
            refine a_iadd dX9_ready_110 ?_
            refine a_iadd dX9_ready_111 ?_
            exact a_iret rfl ⟨by unfold rdy rdW; grind, rfl⟩ dX9_ready_112
          · refine a_iload_n dX9_ready_91 rfl rfl ?_
            refine a_goto (tgt := 111) dX9_ready_92 (by decide) ?_
            refine a_iadd dX9_ready_111 ?_
            exact a_iret rfl ⟨by unfold rdy rdW; grind, rfl⟩ dX9_ready_112
        · refine a_ldc (x := 1000000) cX9_175 (by decide) dX9_ready_82 ?_
          exact a_iret rfl ⟨by unfold rdy rdW; grind, rfl⟩ dX9_ready_84
      · refine a_aload_n dX9_ready_36 rfl rfl ?_
        refine a_iload_n dX9_ready_37 rfl rfl ?_
        refine a_aload_n dX9_ready_38 rfl rfl ?_
        refine a_aload_n dX9_ready_39 rfl rfl ?_
        refine a_getF (d := 173) fX9_73 k153 rfl r153_36 dX9_ready_40 ?_
        refine a_iconst dX9_ready_43 ?_
        refine a_ild k173 n173 (by omega) (by omega) dX9_ready_44 ?_
        refine a_iconst dX9_ready_45 ?_
        refine a_cI (c := 153) (as := [ai (gN σ 173 0), ai 1]) (rest := [ai s, ar 153]) (t_told σ (gN σ 173 0) 1 (by omega) (by omega)) mvX9_told lX9_201 k153 (by decide) rfl rfl rfl rfl (Nat.le_of_ble_eq_true rfl) (Nat.le_of_ble_eq_true rfl) (Nat.le_of_ble_eq_true rfl) dX9_ready_46 ?_
        refine a_cI (c := 153) (as := [ai s, ai (gN σ 155 (115 + 5 * (gN σ 173 0) + 1))]) (rest := []) (t_walked σ s (gN σ 155 (115 + 5 * (gN σ 173 0) + 1)) (by omega) (by omega)) mvX9_walked lX9_216 k153 (by decide) rfl rfl rfl rfl (Nat.le_of_ble_eq_true rfl) (Nat.le_of_ble_eq_true rfl) (Nat.le_of_ble_eq_true rfl) dX9_ready_49 ?_
        refine a_goto (tgt := 73) dX9_ready_52 (by decide) ?_
        refine a_istore (ls' := [(6, ai (gN σ 155 (15 + 10 * s + (gN σ 155 (115 + 5 * (gN σ 173 0) + 1))))), (5, ai (gN σ 158 (gN σ 174 (l - 1)))), (0, ar 153), (1, ai l), (2, ai s), (3, ai m), (4, ai aT)]) dX9_ready_73 (Nat.le_of_ble_eq_true rfl) rfl ?_
        refine a_iload dX9_ready_75 rfl ?_
        refine a_ldc (x := 1000000) cX9_175 (by decide) dX9_ready_77 ?_
        refine a_icmp_lt (tgt := 85) dX9_ready_79 (by decide) (inR_gN _ _ _) (inR_of (by omega) (by omega)) (fun c79 => ?_) (fun c79 => ?_)
        · refine a_iload dX9_ready_85 rfl ?_
          refine a_iload_n dX9_ready_87 rfl rfl ?_
          refine a_if_ne (tgt := 95) dX9_ready_88 (by decide) (inR_of (by omega) (by omega)) (fun c88 => ?_) (fun c88 => ?_)
          · refine a_aload_n dX9_ready_95 rfl rfl ?_
            refine a_aload_n dX9_ready_96 rfl rfl ?_
            refine a_getF (d := 174) fX9_76 k153 rfl r153_37 dX9_ready_97 ?_
            refine a_iload_n dX9_ready_100 rfl rfl ?_
            refine a_iconst dX9_ready_101 ?_
            refine a_isub dX9_ready_102 ?_
            refine a_ild k174 n174 (by omega) (by omega) dX9_ready_103 ?_
            refine a_iconst dX9_ready_104 ?_
            refine a_cI (c := 153) (as := [ai (gN σ 174 (l - 1)), ai 4]) (rest := [ai (gN σ 155 (15 + 10 * s + (gN σ 155 (115 + 5 * (gN σ 173 0) + 1))))]) (t_told σ (gN σ 174 (l - 1)) 4 (by omega) (by omega)) mvX9_told lX9_201 k153 (by decide) rfl rfl rfl rfl (Nat.le_of_ble_eq_true rfl) (Nat.le_of_ble_eq_true rfl) (Nat.le_of_ble_eq_true rfl) dX9_ready_105 ?_
            refine a_iload dX9_ready_108 rfl ?_
            refine a_iadd dX9_ready_110 ?_
            refine a_iadd dX9_ready_111 ?_
            exact a_iret rfl ⟨by unfold rdy rdW; grind, rfl⟩ dX9_ready_112
          · refine a_iload_n dX9_ready_91 rfl rfl ?_
            refine a_goto (tgt := 111) dX9_ready_92 (by decide) ?_
            refine a_iadd dX9_ready_111 ?_
            exact a_iret rfl ⟨by unfold rdy rdW; grind, rfl⟩ dX9_ready_112
        · refine a_ldc (x := 1000000) cX9_175 (by decide) dX9_ready_82 ?_
          exact a_iret rfl ⟨by unfold rdy rdW; grind, rfl⟩ dX9_ready_84
    · refine a_iconst dX9_ready_13 ?_
      refine a_goto (tgt := 30) dX9_ready_14 (by decide) ?_
      refine a_istore (ls' := [(5, ai 0), (0, ar 153), (1, ai l), (2, ai s), (3, ai m), (4, ai aT)]) dX9_ready_30 (Nat.le_of_ble_eq_true rfl) rfl ?_
      refine a_iload_n dX9_ready_32 rfl rfl ?_
      refine a_if_ne (tgt := 55) dX9_ready_33 (by decide) (inR_of (by omega) (by omega)) (fun c33 => ?_) (fun c33 => ?_)
      · refine a_aload_n dX9_ready_55 rfl rfl ?_
        refine a_aload_n dX9_ready_56 rfl rfl ?_
        refine a_getF (d := 174) fX9_76 k153 rfl r153_37 dX9_ready_57 ?_
        refine a_iload_n dX9_ready_60 rfl rfl ?_
        refine a_iconst dX9_ready_61 ?_
        refine a_isub dX9_ready_62 ?_
        refine a_ild k174 n174 (by omega) (by omega) dX9_ready_63 ?_
        refine a_aload_n dX9_ready_64 rfl rfl ?_
        refine a_getF (d := 173) fX9_73 k153 rfl r153_36 dX9_ready_65 ?_
        refine a_iload_n dX9_ready_68 rfl rfl ?_
        refine a_ild k173 n173 (by omega) (by omega) dX9_ready_69 ?_
        refine a_cI (c := 153) (as := [ai (gN σ 174 (l - 1)), ai (gN σ 173 l)]) (rest := []) (t_btw σ (gN σ 174 (l - 1)) (gN σ 173 l) hW (by omega) (by omega) (by omega) (by omega)) mvX9_between lX9_246 k153 (by decide) rfl rfl rfl rfl (Nat.le_of_ble_eq_true rfl) (Nat.le_of_ble_eq_true rfl) (Nat.le_of_ble_eq_true rfl) dX9_ready_70 ?_
        have bb := btw_rng hW (i := (gN σ 174 (l - 1))) (k := (gN σ 173 l)) (by omega) (by omega) (by omega) (by omega)
        refine a_istore (ls' := [(6, ai (btw σ (gN σ 174 (l - 1)) (gN σ 173 l))), (5, ai 0), (0, ar 153), (1, ai l), (2, ai s), (3, ai m), (4, ai aT)]) dX9_ready_73 (Nat.le_of_ble_eq_true rfl) rfl ?_
        refine a_iload dX9_ready_75 rfl ?_
        refine a_ldc (x := 1000000) cX9_175 (by decide) dX9_ready_77 ?_
        refine a_icmp_lt (tgt := 85) dX9_ready_79 (by decide) (inR_of (by omega) (by omega)) (inR_of (by omega) (by omega)) (fun c79 => ?_) (fun c79 => ?_)
        · refine a_iload dX9_ready_85 rfl ?_
          refine a_iload_n dX9_ready_87 rfl rfl ?_
          refine a_if_ne (tgt := 95) dX9_ready_88 (by decide) (inR_of (by omega) (by omega)) (fun c88 => ?_) (fun c88 => ?_)
          · refine a_aload_n dX9_ready_95 rfl rfl ?_
            refine a_aload_n dX9_ready_96 rfl rfl ?_
            refine a_getF (d := 174) fX9_76 k153 rfl r153_37 dX9_ready_97 ?_
            refine a_iload_n dX9_ready_100 rfl rfl ?_
            refine a_iconst dX9_ready_101 ?_
            refine a_isub dX9_ready_102 ?_
            refine a_ild k174 n174 (by omega) (by omega) dX9_ready_103 ?_
            refine a_iconst dX9_ready_104 ?_
            refine a_cI (c := 153) (as := [ai (gN σ 174 (l - 1)), ai 4]) (rest := [ai (btw σ (gN σ 174 (l - 1)) (gN σ 173 l))]) (t_told σ (gN σ 174 (l - 1)) 4 (by omega) (by omega)) mvX9_told lX9_201 k153 (by decide) rfl rfl rfl rfl (Nat.le_of_ble_eq_true rfl) (Nat.le_of_ble_eq_true rfl) (Nat.le_of_ble_eq_true rfl) dX9_ready_105 ?_
            refine a_iload dX9_ready_108 rfl ?_
            refine a_iadd dX9_ready_110 ?_
            refine a_iadd dX9_ready_111 ?_
            exact a_iret rfl ⟨by unfold rdy rdW; grind, rfl⟩ dX9_ready_112
          · refine a_iload_n dX9_ready_91 rfl rfl ?_
            refine a_goto (tgt := 111) dX9_ready_92 (by decide) ?_
            refine a_iadd dX9_ready_111 ?_
            exact a_iret rfl ⟨by unfold rdy rdW; grind, rfl⟩ dX9_ready_112
        · refine a_ldc (x := 1000000) cX9_175 (by decide) dX9_ready_82 ?_
          exact a_iret rfl ⟨by unfold rdy rdW; grind, rfl⟩ dX9_ready_84
      · refine a_aload_n dX9_ready_36 rfl rfl ?_
        refine a_iload_n dX9_ready_37 rfl rfl ?_
        refine a_aload_n dX9_ready_38 rfl rfl ?_
        refine a_aload_n dX9_ready_39 rfl rfl ?_
        refine a_getF (d := 173) fX9_73 k153 rfl r153_36 dX9_ready_40 ?_
        refine a_iconst dX9_ready_43 ?_
        refine a_ild k173 n173 (by omega) (by omega) dX9_ready_44 ?_
        refine a_iconst dX9_ready_45 ?_
        refine a_cI (c := 153) (as := [ai (gN σ 173 0), ai 1]) (rest := [ai s, ar 153]) (t_told σ (gN σ 173 0) 1 (by omega) (by omega)) mvX9_told lX9_201 k153 (by decide) rfl rfl rfl rfl (Nat.le_of_ble_eq_true rfl) (Nat.le_of_ble_eq_true rfl) (Nat.le_of_ble_eq_true rfl) dX9_ready_46 ?_
        refine a_cI (c := 153) (as := [ai s, ai (gN σ 155 (115 + 5 * (gN σ 173 0) + 1))]) (rest := []) (t_walked σ s (gN σ 155 (115 + 5 * (gN σ 173 0) + 1)) (by omega) (by omega)) mvX9_walked lX9_216 k153 (by decide) rfl rfl rfl rfl (Nat.le_of_ble_eq_true rfl) (Nat.le_of_ble_eq_true rfl) (Nat.le_of_ble_eq_true rfl) dX9_ready_49 ?_
        refine a_goto (tgt := 73) dX9_ready_52 (by decide) ?_
        refine a_istore (ls' := [(6, ai (gN σ 155 (15 + 10 * s + (gN σ 155 (115 + 5 * (gN σ 173 0) + 1))))), (5, ai 0), (0, ar 153), (1, ai l), (2, ai s), (3, ai m), (4, ai aT)]) dX9_ready_73 (Nat.le_of_ble_eq_true rfl) rfl ?_
        refine a_iload dX9_ready_75 rfl ?_
        refine a_ldc (x := 1000000) cX9_175 (by decide) dX9_ready_77 ?_
        refine a_icmp_lt (tgt := 85) dX9_ready_79 (by decide) (inR_gN _ _ _) (inR_of (by omega) (by omega)) (fun c79 => ?_) (fun c79 => ?_)
        · refine a_iload dX9_ready_85 rfl ?_
          refine a_iload_n dX9_ready_87 rfl rfl ?_
          refine a_if_ne (tgt := 95) dX9_ready_88 (by decide) (inR_of (by omega) (by omega)) (fun c88 => ?_) (fun c88 => ?_)
          · refine a_aload_n dX9_ready_95 rfl rfl ?_
            refine a_aload_n dX9_ready_96 rfl rfl ?_
            refine a_getF (d := 174) fX9_76 k153 rfl r153_37 dX9_ready_97 ?_
            refine a_iload_n dX9_ready_100 rfl rfl ?_
            refine a_iconst dX9_ready_101 ?_
            refine a_isub dX9_ready_102 ?_
            refine a_ild k174 n174 (by omega) (by omega) dX9_ready_103 ?_
            refine a_iconst dX9_ready_104 ?_
            refine a_cI (c := 153) (as := [ai (gN σ 174 (l - 1)), ai 4]) (rest := [ai (gN σ 155 (15 + 10 * s + (gN σ 155 (115 + 5 * (gN σ 173 0) + 1))))]) (t_told σ (gN σ 174 (l - 1)) 4 (by omega) (by omega)) mvX9_told lX9_201 k153 (by decide) rfl rfl rfl rfl (Nat.le_of_ble_eq_true rfl) (Nat.le_of_ble_eq_true rfl) (Nat.le_of_ble_eq_true rfl) dX9_ready_105 ?_
            refine a_iload dX9_ready_108 rfl ?_
            refine a_iadd dX9_ready_110 ?_
            refine a_iadd dX9_ready_111 ?_
            exact a_iret rfl ⟨by unfold rdy rdW; grind, rfl⟩ dX9_ready_112
          · refine a_iload_n dX9_ready_91 rfl rfl ?_
            refine a_goto (tgt := 111) dX9_ready_92 (by decide) ?_
            refine a_iadd dX9_ready_111 ?_
            exact a_iret rfl ⟨by unfold rdy rdW; grind, rfl⟩ dX9_ready_112
        · refine a_ldc (x := 1000000) cX9_175 (by decide) dX9_ready_82 ?_
          exact a_iret rfl ⟨by unfold rdy rdW; grind, rfl⟩ dX9_ready_84
  · refine a_iconst dX9_ready_5 ?_
    refine a_goto (tgt := 30) dX9_ready_6 (by decide) ?_
    refine a_istore (ls' := [(5, ai 0), (0, ar 153), (1, ai l), (2, ai s), (3, ai m), (4, ai aT)]) dX9_ready_30 (Nat.le_of_ble_eq_true rfl) rfl ?_
    refine a_iload_n dX9_ready_32 rfl rfl ?_
    refine a_if_ne (tgt := 55) dX9_ready_33 (by decide) (inR_of (by omega) (by omega)) (fun c33 => ?_) (fun c33 => ?_)
    · refine a_aload_n dX9_ready_55 rfl rfl ?_
      refine a_aload_n dX9_ready_56 rfl rfl ?_
      refine a_getF (d := 174) fX9_76 k153 rfl r153_37 dX9_ready_57 ?_
      refine a_iload_n dX9_ready_60 rfl rfl ?_
      refine a_iconst dX9_ready_61 ?_
      refine a_isub dX9_ready_62 ?_
      refine a_ild k174 n174 (by omega) (by omega) dX9_ready_63 ?_
      refine a_aload_n dX9_ready_64 rfl rfl ?_
      refine a_getF (d := 173) fX9_73 k153 rfl r153_36 dX9_ready_65 ?_
      refine a_iload_n dX9_ready_68 rfl rfl ?_
      refine a_ild k173 n173 (by omega) (by omega) dX9_ready_69 ?_
      refine a_cI (c := 153) (as := [ai (gN σ 174 (l - 1)), ai (gN σ 173 l)]) (rest := []) (t_btw σ (gN σ 174 (l - 1)) (gN σ 173 l) hW (by omega) (by omega) (by omega) (by omega)) mvX9_between lX9_246 k153 (by decide) rfl rfl rfl rfl (Nat.le_of_ble_eq_true rfl) (Nat.le_of_ble_eq_true rfl) (Nat.le_of_ble_eq_true rfl) dX9_ready_70 ?_
      have bb := btw_rng hW (i := (gN σ 174 (l - 1))) (k := (gN σ 173 l)) (by omega) (by omega) (by omega) (by omega)
      refine a_istore (ls' := [(6, ai (btw σ (gN σ 174 (l - 1)) (gN σ 173 l))), (5, ai 0), (0, ar 153), (1, ai l), (2, ai s), (3, ai m), (4, ai aT)]) dX9_ready_73 (Nat.le_of_ble_eq_true rfl) rfl ?_
      refine a_iload dX9_ready_75 rfl ?_
      refine a_ldc (x := 1000000) cX9_175 (by decide) dX9_ready_77 ?_
      refine a_icmp_lt (tgt := 85) dX9_ready_79 (by decide) (inR_of (by omega) (by omega)) (inR_of (by omega) (by omega)) (fun c79 => ?_) (fun c79 => ?_)
      · refine a_iload dX9_ready_85 rfl ?_
        refine a_iload_n dX9_ready_87 rfl rfl ?_
        refine a_if_ne (tgt := 95) dX9_ready_88 (by decide) (inR_of (by omega) (by omega)) (fun c88 => ?_) (fun c88 => ?_)
        · refine a_aload_n dX9_ready_95 rfl rfl ?_
          refine a_aload_n dX9_ready_96 rfl rfl ?_
          refine a_getF (d := 174) fX9_76 k153 rfl r153_37 dX9_ready_97 ?_
          refine a_iload_n dX9_ready_100 rfl rfl ?_
          refine a_iconst dX9_ready_101 ?_
          refine a_isub dX9_ready_102 ?_
          refine a_ild k174 n174 (by omega) (by omega) dX9_ready_103 ?_
          refine a_iconst dX9_ready_104 ?_
          refine a_cI (c := 153) (as := [ai (gN σ 174 (l - 1)), ai 4]) (rest := [ai (btw σ (gN σ 174 (l - 1)) (gN σ 173 l))]) (t_told σ (gN σ 174 (l - 1)) 4 (by omega) (by omega)) mvX9_told lX9_201 k153 (by decide) rfl rfl rfl rfl (Nat.le_of_ble_eq_true rfl) (Nat.le_of_ble_eq_true rfl) (Nat.le_of_ble_eq_true rfl) dX9_ready_105 ?_
          refine a_iload dX9_ready_108 rfl ?_
          refine a_iadd dX9_ready_110 ?_
          refine a_iadd dX9_ready_111 ?_
          exact a_iret rfl ⟨by unfold rdy rdW; grind, rfl⟩ dX9_ready_112
        · refine a_iload_n dX9_ready_91 rfl rfl ?_
          refine a_goto (tgt := 111) dX9_ready_92 (by decide) ?_
          refine a_iadd dX9_ready_111 ?_
          exact a_iret rfl ⟨by unfold rdy rdW; grind, rfl⟩ dX9_ready_112
      · refine a_ldc (x := 1000000) cX9_175 (by decide) dX9_ready_82 ?_
        exact a_iret rfl ⟨by unfold rdy rdW; grind, rfl⟩ dX9_ready_84
    · refine a_aload_n dX9_ready_36 rfl rfl ?_
      refine a_iload_n dX9_ready_37 rfl rfl ?_
      refine a_aload_n dX9_ready_38 rfl rfl ?_
      refine a_aload_n dX9_ready_39 rfl rfl ?_
      refine a_getF (d := 173) fX9_73 k153 rfl r153_36 dX9_ready_40 ?_
      refine a_iconst dX9_ready_43 ?_
      refine a_ild k173 n173 (by omega) (by omega) dX9_ready_44 ?_
      refine a_iconst dX9_ready_45 ?_
      refine a_cI (c := 153) (as := [ai (gN σ 173 0), ai 1]) (rest := [ai s, ar 153]) (t_told σ (gN σ 173 0) 1 (by omega) (by omega)) mvX9_told lX9_201 k153 (by decide) rfl rfl rfl rfl (Nat.le_of_ble_eq_true rfl) (Nat.le_of_ble_eq_true rfl) (Nat.le_of_ble_eq_true rfl) dX9_ready_46 ?_
      refine a_cI (c := 153) (as := [ai s, ai (gN σ 155 (115 + 5 * (gN σ 173 0) + 1))]) (rest := []) (t_walked σ s (gN σ 155 (115 + 5 * (gN σ 173 0) + 1)) (by omega) (by omega)) mvX9_walked lX9_216 k153 (by decide) rfl rfl rfl rfl (Nat.le_of_ble_eq_true rfl) (Nat.le_of_ble_eq_true rfl) (Nat.le_of_ble_eq_true rfl) dX9_ready_49 ?_
      refine a_goto (tgt := 73) dX9_ready_52 (by decide) ?_
      refine a_istore (ls' := [(6, ai (gN σ 155 (15 + 10 * s + (gN σ 155 (115 + 5 * (gN σ 173 0) + 1))))), (5, ai 0), (0, ar 153), (1, ai l), (2, ai s), (3, ai m), (4, ai aT)]) dX9_ready_73 (Nat.le_of_ble_eq_true rfl) rfl ?_
      refine a_iload dX9_ready_75 rfl ?_
      refine a_ldc (x := 1000000) cX9_175 (by decide) dX9_ready_77 ?_
      refine a_icmp_lt (tgt := 85) dX9_ready_79 (by decide) (inR_gN _ _ _) (inR_of (by omega) (by omega)) (fun c79 => ?_) (fun c79 => ?_)
      · refine a_iload dX9_ready_85 rfl ?_
        refine a_iload_n dX9_ready_87 rfl rfl ?_
        refine a_if_ne (tgt := 95) dX9_ready_88 (by decide) (inR_of (by omega) (by omega)) (fun c88 => ?_) (fun c88 => ?_)
        · refine a_aload_n dX9_ready_95 rfl rfl ?_
          refine a_aload_n dX9_ready_96 rfl rfl ?_
          refine a_getF (d := 174) fX9_76 k153 rfl r153_37 dX9_ready_97 ?_
          refine a_iload_n dX9_ready_100 rfl rfl ?_
          refine a_iconst dX9_ready_101 ?_
          refine a_isub dX9_ready_102 ?_
          refine a_ild k174 n174 (by omega) (by omega) dX9_ready_103 ?_
          refine a_iconst dX9_ready_104 ?_
          refine a_cI (c := 153) (as := [ai (gN σ 174 (l - 1)), ai 4]) (rest := [ai (gN σ 155 (15 + 10 * s + (gN σ 155 (115 + 5 * (gN σ 173 0) + 1))))]) (t_told σ (gN σ 174 (l - 1)) 4 (by omega) (by omega)) mvX9_told lX9_201 k153 (by decide) rfl rfl rfl rfl (Nat.le_of_ble_eq_true rfl) (Nat.le_of_ble_eq_true rfl) (Nat.le_of_ble_eq_true rfl) dX9_ready_105 ?_
          refine a_iload dX9_ready_108 rfl ?_
          refine a_iadd dX9_ready_110 ?_
          refine a_iadd dX9_ready_111 ?_
          exact a_iret rfl ⟨by unfold rdy rdW; grind, rfl⟩ dX9_ready_112
        · refine a_iload_n dX9_ready_91 rfl rfl ?_
          refine a_goto (tgt := 111) dX9_ready_92 (by decide) ?_
          refine a_iadd dX9_ready_111 ?_
          exact a_iret rfl ⟨by unfold rdy rdW; grind, rfl⟩ dX9_ready_112
      · refine a_ldc (x := 1000000) cX9_175 (by decide) dX9_ready_82 ?_
        exact a_iret rfl ⟨by unfold rdy rdW; grind, rfl⟩ dX9_ready_84

abbrev pBk (c : Nat) (j : Int) : Prop := c = 153 ∧ j = 39
theorem Bk_Q {σ u : Sto} (h : Fr pBk σ u) : Fr pQ σ u := h.mono (fun c j q => by unfold pBk at q; unfold pQ; omega)

set_option maxRecDepth 20000 in
theorem t_bk_i (σ : Sto) (hW : WOK σ) (hp : PlOK σ) (s t m aT : Int) (hs0 : 0 ≤ s) (hs1 : s < 10) (ht0 : 0 ≤ t) (ht1 : t < 10) (hm : mnt m) (ha : aT = 0 ∨ aT = 1) (V : Int × Int) (hz : aT = 0) (l : Int) (hl0 : 0 ≤ l) (hl1 : l < gN σ 153 38) (τ : Sto) (hF : Fr pBk σ τ) (h39 : gN τ 153 39 = l) (B : Bool) (h1x : B = true → V = (1, l)) (hx : B = false → RunA mX9_breaks (fun r v => r = some (ai V.1) ∧ Fr pBk σ v ∧ gN v 153 39 = V.2) 61 [(5, ai l), (0, ar 153), (1, ai s), (2, ai t), (3, ai m), (4, ai aT)] [] τ) : ∀ (n : Nat) (i : Int), 0 ≤ i → i ≤ gN σ 174 l + 1 → n = (gN σ 174 l - i + 1).toNat → B = anyZ (fun i => decide (ofB σ i)) n i → RunA mX9_breaks (fun r v => r = some (ai V.1) ∧ Fr pBk σ v ∧ gN v 153 39 = V.2) 27 [(6, ai i), (5, ai l), (0, ar 153), (1, ai s), (2, ai t), (3, ai m), (4, ai aT)] [] τ := by
  have hR := hW.1
  have q := hp.2 l hl0 hl1
  have hl := hp.1
  have e4 := Q174 (Bk_Q hF) l
  intro n
  induction n with
  | zero =>
    intro i h0 h5 hn hE
    refine a_iload dX9_breaks_27 rfl ?_
    refine a_aload_n dX9_breaks_29 rfl rfl ?_
    refine a_getF (d := 174) fX9_76 k153 rfl r153_37 dX9_breaks_30 ?_
    refine a_iload dX9_breaks_33 rfl ?_
    refine a_ild k174 n174 (by omega) (by omega) dX9_breaks_35 ?_
    refine a_icmp_gt (tgt := 61) dX9_breaks_36 (by decide) (inR_of (by omega) (by omega)) (inR_gN _ _ _) (fun c36 => ?_) (fun c36 => ?_)
    · exact a_keep (by simp) (hx (by rw [hE]; rfl))
    · exfalso; omega
  | succ n ih =>
    intro i h0 h5 hn hE
    refine a_iload dX9_breaks_27 rfl ?_
    refine a_aload_n dX9_breaks_29 rfl rfl ?_
    refine a_getF (d := 174) fX9_76 k153 rfl r153_37 dX9_breaks_30 ?_
    refine a_iload dX9_breaks_33 rfl ?_
    refine a_ild k174 n174 (by omega) (by omega) dX9_breaks_35 ?_
    refine a_icmp_gt (tgt := 61) dX9_breaks_36 (by decide) (inR_of (by omega) (by omega)) (inR_gN _ _ _) (fun c36 => ?_) (fun c36 => ?_)
    · exfalso; omega
    · refine a_iload dX9_breaks_39 rfl ?_
      refine a_if_ne (tgt := 61) dX9_breaks_41 (by decide) (inR_of (by omega) (by omega)) (fun c41 => ?_) (fun c41 => ?_)
      · exfalso; omega
      · refine a_aload_n dX9_breaks_44 rfl rfl ?_
        refine a_iload dX9_breaks_45 rfl ?_
        refine a_cI (c := 153) (as := [ai i]) (rest := []) (t_isOff τ i) mvX9_isOff lX9_207 k153 (by decide) rfl rfl rfl rfl (Nat.le_of_ble_eq_true rfl) (Nat.le_of_ble_eq_true rfl) (Nat.le_of_ble_eq_true rfl) dX9_breaks_47 ?_
        refine a_topI (y := if ofB σ i then 1 else 0) (by rw [Q17 (Bk_Q hF)]) ?_
        refine a_ifb_eq (tgt := 55) dX9_breaks_50 (by decide) (fun c50 => ?_) (fun c50 => ?_)
        · refine a_iinc (y := i + 1) (ls' := [(6, ai (i + 1)), (5, ai l), (0, ar 153), (1, ai s), (2, ai t), (3, ai m), (4, ai aT)]) dX9_breaks_55 rfl rfl (Nat.le_of_ble_eq_true rfl) rfl ?_
          refine a_goto (tgt := 27) dX9_breaks_58 (by decide) ?_
          have hp9 : (fun i => decide (ofB σ i)) i = false := by grind
          exact a_keep (by simp) (ih (i + 1) (by omega) (by omega) (by omega) (by rw [hE]; show (decide (ofB σ i) || _) = _; rw [show decide (ofB σ i) = false from hp9, Bool.false_or]))
        · refine a_iconst dX9_breaks_53 ?_
          exact a_iret rfl ⟨by rw [h1x (by rw [hE]; exact anyZ_here (decide_eq_true (by assumption)))], hF, by rw [h39, h1x (by rw [hE]; exact anyZ_here (decide_eq_true (by assumption)))]⟩ dX9_breaks_54

set_option maxRecDepth 20000 in
theorem t_bk_l (σ : Sto) (hW : WOK σ) (hp : PlOK σ) (s t m aT : Int) (hs0 : 0 ≤ s) (hs1 : s < 10) (ht0 : 0 ≤ t) (ht1 : t < 10) (hm : mnt m) (ha : aT = 0 ∨ aT = 1) (V : Int × Int) (hpos : 0 < gN σ 153 38) : ∀ (n : Nat) (l : Int) (τ : Sto), 0 ≤ l → l + n = gN σ 153 38 → Fr pBk σ τ → V = brkF σ s t m aT n l → RunA mX9_breaks (fun r v => r = some (ai V.1) ∧ Fr pBk σ v ∧ gN v 153 39 = V.2) 3 [(5, ai l), (0, ar 153), (1, ai s), (2, ai t), (3, ai m), (4, ai aT)] [] τ := by
  have hR := hW.1
  have hl := hp.1
  intro n
  induction n with
  | zero =>
    intro l τ h0 hn hF hE
    have e38 := Q38 (Bk_Q hF)
    refine a_iload dX9_breaks_3 rfl ?_
    refine a_aload_n dX9_breaks_5 rfl rfl ?_
    refine a_getI (J := 38) fX9_186 k153 rfl rfl dX9_breaks_6 ?_
    refine a_icmp_ge (tgt := 90) dX9_breaks_9 (by decide) (inR_of (by omega) (by omega)) (inR_gN _ _ _) (fun c9 => ?_) (fun c9 => ?_)
    · have qe := hp.2 (gN σ 153 38 - 1) (by omega) (by omega)
      have be := hW.2.2.2.1 (gN σ 174 (gN σ 153 38 - 1)) (by omega) (by omega)
      have we := hW.2.2.2.2.1 _ t be.2.2.1.1 be.2.2.1.2 ht0 ht1
      refine a_aload_n dX9_breaks_90 rfl rfl ?_
      refine a_aload_n dX9_breaks_91 rfl rfl ?_
      refine a_getI (J := 38) fX9_186 k153 rfl rfl dX9_breaks_92 ?_
      refine a_topI (y := gN σ 153 38) e38 ?_
      refine a_putI (J := 39) fX9_335 k153 rfl rfl rfl dX9_breaks_95 ?_
      refine a_aload_n dX9_breaks_98 rfl rfl ?_
      refine a_aload_n dX9_breaks_99 rfl rfl ?_
      refine a_aload_n dX9_breaks_100 rfl rfl ?_
      refine a_getF (d := 174) fX9_76 k153 rfl r153_37 dX9_breaks_101 ?_
      refine a_aload_n dX9_breaks_104 rfl rfl ?_
      refine a_getI (J := 38) fX9_186 k153 rfl rfl dX9_breaks_105 ?_
      refine a_topI (y := gN σ 153 38) (by rw [gN_sN, if_neg (by omega)]; exact e38) ?_
      refine a_iconst dX9_breaks_108 ?_
      refine a_isub dX9_breaks_109 ?_
      refine a_ild k174 n174 (by omega) (by omega) dX9_breaks_110 ?_
      refine a_topI (y := gN σ 174 (gN σ 153 38 - 1)) (Q174 (Bk_Q (hF.sN ⟨rfl, rfl⟩)) _) ?_
      refine a_iconst dX9_breaks_111 ?_
      refine a_cI (c := 153) (as := [ai (gN σ 174 (gN σ 153 38 - 1)), ai 2]) (rest := [ar 153]) (t_told (sN τ 153 39 (gN σ 153 38)) (gN σ 174 (gN σ 153 38 - 1)) 2 (by omega) (by omega)) mvX9_told lX9_201 k153 (by decide) rfl rfl rfl rfl (Nat.le_of_ble_eq_true rfl) (Nat.le_of_ble_eq_true rfl) (Nat.le_of_ble_eq_true rfl) dX9_breaks_112 ?_
      refine a_topI (y := gN σ 155 (115 + 5 * (gN σ 174 (gN σ 153 38 - 1)) + 2)) (Q155 (Bk_Q (hF.sN ⟨rfl, rfl⟩)) _) ?_
      refine a_iload_n dX9_breaks_115 rfl rfl ?_
      refine a_cI (c := 153) (as := [ai (gN σ 155 (115 + 5 * (gN σ 174 (gN σ 153 38 - 1)) + 2)), ai t]) (rest := []) (t_walked (sN τ 153 39 (gN σ 153 38)) (gN σ 155 (115 + 5 * (gN σ 174 (gN σ 153 38 - 1)) + 2)) t (by omega) (by omega)) mvX9_walked lX9_216 k153 (by decide) rfl rfl rfl rfl (Nat.le_of_ble_eq_true rfl) (Nat.le_of_ble_eq_true rfl) (Nat.le_of_ble_eq_true rfl) dX9_breaks_116 ?_
      refine a_topI (y := gN σ 155 (15 + 10 * (gN σ 155 (115 + 5 * (gN σ 174 (gN σ 153 38 - 1)) + 2)) + t)) (Q155 (Bk_Q (hF.sN ⟨rfl, rfl⟩)) _) ?_
      refine a_ldc (x := 1000000) cX9_175 (by decide) dX9_breaks_119 ?_
      refine a_icmp_lt (tgt := 128) dX9_breaks_121 (by decide) (inR_gN _ _ _) (inR_of (by omega) (by omega)) (fun c121 => ?_) (fun c121 => ?_)
      · refine a_iconst dX9_breaks_128 ?_
        exact a_iret rfl ⟨by rw [hE]; unfold brkF; grind, hF.sN ⟨rfl, rfl⟩, by rw [hE, gN_sN, if_pos ⟨rfl, rfl⟩, nrm_of (inR_of (by omega) (by omega))]; rfl⟩ dX9_breaks_129
      · refine a_iconst dX9_breaks_124 ?_
        refine a_goto (tgt := 129) dX9_breaks_125 (by decide) ?_
        exact a_iret rfl ⟨by rw [hE]; unfold brkF; grind, hF.sN ⟨rfl, rfl⟩, by rw [hE, gN_sN, if_pos ⟨rfl, rfl⟩, nrm_of (inR_of (by omega) (by omega))]; rfl⟩ dX9_breaks_129
    · exfalso; omega
  | succ n ih =>
    intro l τ h0 hn hF hE
    have e38 := Q38 (Bk_Q hF)
    refine a_iload dX9_breaks_3 rfl ?_
    refine a_aload_n dX9_breaks_5 rfl rfl ?_
    refine a_getI (J := 38) fX9_186 k153 rfl rfl dX9_breaks_6 ?_
    refine a_icmp_ge (tgt := 90) dX9_breaks_9 (by decide) (inR_of (by omega) (by omega)) (inR_gN _ _ _) (fun c9 => ?_) (fun c9 => ?_)
    · exfalso; omega
    · have q := hp.2 l (by omega) (by omega)
      refine a_aload_n dX9_breaks_12 rfl rfl ?_
      refine a_iload dX9_breaks_13 rfl ?_
      refine a_putI (J := 39) fX9_335 k153 rfl rfl rfl dX9_breaks_15 ?_
      refine a_aload_n dX9_breaks_18 rfl rfl ?_
      refine a_getF (d := 173) fX9_73 k153 rfl r153_36 dX9_breaks_19 ?_
      refine a_iload dX9_breaks_22 rfl ?_
      refine a_ild k173 n173 (by omega) (by omega) dX9_breaks_24 ?_
      refine a_istore (ls' := [(6, ai (gN (sN τ 153 39 l) 173 l)), (5, ai l), (0, ar 153), (1, ai s), (2, ai t), (3, ai m), (4, ai aT)]) dX9_breaks_25 (Nat.le_of_ble_eq_true rfl) rfl ?_
      have hF1 : Fr pBk σ (sN τ 153 39 l) := hF.sN ⟨rfl, rfl⟩
      have h39 : gN (sN τ 153 39 l) 153 39 = l := by rw [gN_sN, if_pos ⟨rfl, rfl⟩, nrm_of (inR_of (by omega) (by omega))]
      have e3 := Q173 (Bk_Q hF1) l
      have e4 := Q174 (Bk_Q hF1) l
      refine a_keep (ls' := [(6, ai (gN σ 173 l)), (5, ai l), (0, ar 153), (1, ai s), (2, ai t), (3, ai m), (4, ai aT)]) (by rw [e3]; simp) ?_
      by_cases hz : aT = 0
      · refine t_bk_i σ hW hp s t m aT hs0 hs1 ht0 ht1 hm ha V hz l (by omega) (by omega) _ hF1 h39 (anyZ (fun i => decide (ofB σ i)) (gN σ 174 l - gN σ 173 l + 1).toNat (gN σ 173 l)) (fun hb => ?_) (fun hb => ?_) _ (gN σ 173 l) (by omega) (by omega) (by omega) rfl
        · rw [hE]; show (if _ then _ else _) = _; rw [if_pos ⟨hz, hb⟩]
        · refine a_aload_n dX9_breaks_61 rfl rfl ?_
          refine a_iload dX9_breaks_62 rfl ?_
          refine a_iload_n dX9_breaks_64 rfl rfl ?_
          refine a_iload_n dX9_breaks_65 rfl rfl ?_
          refine a_iload dX9_breaks_66 rfl ?_
          refine a_cI (c := 153) (as := [ai l, ai s, ai m, ai aT]) (rest := []) (t_ready (sN τ 153 39 l) l s m aT (Q_W (Bk_Q hF1) hW) (hp.of (Bk_Q hF1)) (by omega) (by rw [Q38 (Bk_Q hF1)]; omega) hs0 hs1 hm ha) mvX9_ready lX9_338 k153 (by decide) rfl rfl rfl rfl (Nat.le_of_ble_eq_true rfl) (Nat.le_of_ble_eq_true rfl) (Nat.le_of_ble_eq_true rfl) dX9_breaks_68 ?_
          refine a_topI (y := rdy σ l s m aT) (rdy_eq (Bk_Q hF1) _ _ _ _) ?_
          have rr := rdy_rng hW hp (l := l) (s := s) (m := m) (aT := aT) (by omega) (by omega) hs0 hs1 hm
          refine a_aload_n dX9_breaks_71 rfl rfl ?_
          refine a_iload dX9_breaks_72 rfl ?_
          refine a_iload dX9_breaks_74 rfl ?_
          refine a_cI (c := 153) (as := [ai l, ai aT]) (rest := [ai (rdy σ l s m aT)]) (t_leavesAt (sN τ 153 39 l) l aT (Q_W (Bk_Q hF1) hW) (hp.of (Bk_Q hF1)) (by omega) (by rw [Q38 (Bk_Q hF1)]; omega) ha) mvX9_leavesAt lX9_342 k153 (by decide) rfl rfl rfl rfl (Nat.le_of_ble_eq_true rfl) (Nat.le_of_ble_eq_true rfl) (Nat.le_of_ble_eq_true rfl) dX9_breaks_76 ?_
          refine a_topI (y := lvA σ l aT) (lvA_eq (Bk_Q hF1) _ _) ?_
          have rl := lvA_rng hW hp (l := l) (aT := aT) (by omega) (by omega)
          refine a_icmp_le (tgt := 84) dX9_breaks_79 (by decide) (inR_of (by omega) (by omega)) (inR_of (by omega) (by omega)) (fun c79 => ?_) (fun c79 => ?_)
          · refine a_iinc (y := l + 1) (ls' := [(5, ai (l + 1)), (0, ar 153), (1, ai s), (2, ai t), (3, ai m), (4, ai aT)]) dX9_breaks_84 rfl rfl (Nat.le_of_ble_eq_true rfl) rfl ?_
            refine a_goto (tgt := 3) dX9_breaks_87 (by decide) ?_
            exact a_keep (by simp) (ih (l + 1) (sN τ 153 39 l) (by omega) (by omega) hF1 (by rw [hE]; show (if _ then _ else if _ then _ else _) = _; rw [if_neg (by grind), if_neg (by omega)]))
          · refine a_iconst dX9_breaks_82 ?_
            exact a_iret rfl ⟨by rw [hE]; show some (ai 2) = some (ai (Prod.fst (if _ then _ else if _ then _ else _))); rw [if_neg (by grind), if_pos (by omega)], hF1, by rw [h39, hE]; show _ = Prod.snd (if _ then _ else if _ then _ else _); rw [if_neg (by grind), if_pos (by omega)]⟩ dX9_breaks_83
      · refine a_iload dX9_breaks_27 rfl ?_
        refine a_aload_n dX9_breaks_29 rfl rfl ?_
        refine a_getF (d := 174) fX9_76 k153 rfl r153_37 dX9_breaks_30 ?_
        refine a_iload dX9_breaks_33 rfl ?_
        refine a_ild k174 n174 (by omega) (by omega) dX9_breaks_35 ?_
        refine a_icmp_gt (tgt := 61) dX9_breaks_36 (by decide) (inR_gN _ _ _) (inR_gN _ _ _) (fun c36 => ?_) (fun c36 => ?_)
        · refine a_keep (ls' := [(5, ai l), (0, ar 153), (1, ai s), (2, ai t), (3, ai m), (4, ai aT)]) (by simp) ?_
          refine a_aload_n dX9_breaks_61 rfl rfl ?_
          refine a_iload dX9_breaks_62 rfl ?_
          refine a_iload_n dX9_breaks_64 rfl rfl ?_
          refine a_iload_n dX9_breaks_65 rfl rfl ?_
          refine a_iload dX9_breaks_66 rfl ?_
          refine a_cI (c := 153) (as := [ai l, ai s, ai m, ai aT]) (rest := []) (t_ready (sN τ 153 39 l) l s m aT (Q_W (Bk_Q hF1) hW) (hp.of (Bk_Q hF1)) (by omega) (by rw [Q38 (Bk_Q hF1)]; omega) hs0 hs1 hm ha) mvX9_ready lX9_338 k153 (by decide) rfl rfl rfl rfl (Nat.le_of_ble_eq_true rfl) (Nat.le_of_ble_eq_true rfl) (Nat.le_of_ble_eq_true rfl) dX9_breaks_68 ?_
          refine a_topI (y := rdy σ l s m aT) (rdy_eq (Bk_Q hF1) _ _ _ _) ?_
          have rr := rdy_rng hW hp (l := l) (s := s) (m := m) (aT := aT) (by omega) (by omega) hs0 hs1 hm
          refine a_aload_n dX9_breaks_71 rfl rfl ?_
          refine a_iload dX9_breaks_72 rfl ?_
          refine a_iload dX9_breaks_74 rfl ?_
          refine a_cI (c := 153) (as := [ai l, ai aT]) (rest := [ai (rdy σ l s m aT)]) (t_leavesAt (sN τ 153 39 l) l aT (Q_W (Bk_Q hF1) hW) (hp.of (Bk_Q hF1)) (by omega) (by rw [Q38 (Bk_Q hF1)]; omega) ha) mvX9_leavesAt lX9_342 k153 (by decide) rfl rfl rfl rfl (Nat.le_of_ble_eq_true rfl) (Nat.le_of_ble_eq_true rfl) (Nat.le_of_ble_eq_true rfl) dX9_breaks_76 ?_
          refine a_topI (y := lvA σ l aT) (lvA_eq (Bk_Q hF1) _ _) ?_
          have rl := lvA_rng hW hp (l := l) (aT := aT) (by omega) (by omega)
          refine a_icmp_le (tgt := 84) dX9_breaks_79 (by decide) (inR_of (by omega) (by omega)) (inR_of (by omega) (by omega)) (fun c79 => ?_) (fun c79 => ?_)
          · refine a_iinc (y := l + 1) (ls' := [(5, ai (l + 1)), (0, ar 153), (1, ai s), (2, ai t), (3, ai m), (4, ai aT)]) dX9_breaks_84 rfl rfl (Nat.le_of_ble_eq_true rfl) rfl ?_
            refine a_goto (tgt := 3) dX9_breaks_87 (by decide) ?_
            exact a_keep (by simp) (ih (l + 1) (sN τ 153 39 l) (by omega) (by omega) hF1 (by rw [hE]; show (if _ then _ else if _ then _ else _) = _; rw [if_neg (by grind), if_neg (by omega)]))
          · refine a_iconst dX9_breaks_82 ?_
            exact a_iret rfl ⟨by rw [hE]; show some (ai 2) = some (ai (Prod.fst (if _ then _ else if _ then _ else _))); rw [if_neg (by grind), if_pos (by omega)], hF1, by rw [h39, hE]; show _ = Prod.snd (if _ then _ else if _ then _ else _); rw [if_neg (by grind), if_pos (by omega)]⟩ dX9_breaks_83
        · refine a_iload dX9_breaks_39 rfl ?_
          refine a_if_ne (tgt := 61) dX9_breaks_41 (by decide) (inR_of (by omega) (by omega)) (fun c41 => ?_) (fun c41 => ?_)
          · refine a_keep (ls' := [(5, ai l), (0, ar 153), (1, ai s), (2, ai t), (3, ai m), (4, ai aT)]) (by simp) ?_
            refine a_aload_n dX9_breaks_61 rfl rfl ?_
            refine a_iload dX9_breaks_62 rfl ?_
            refine a_iload_n dX9_breaks_64 rfl rfl ?_
            refine a_iload_n dX9_breaks_65 rfl rfl ?_
            refine a_iload dX9_breaks_66 rfl ?_
            refine a_cI (c := 153) (as := [ai l, ai s, ai m, ai aT]) (rest := []) (t_ready (sN τ 153 39 l) l s m aT (Q_W (Bk_Q hF1) hW) (hp.of (Bk_Q hF1)) (by omega) (by rw [Q38 (Bk_Q hF1)]; omega) hs0 hs1 hm ha) mvX9_ready lX9_338 k153 (by decide) rfl rfl rfl rfl (Nat.le_of_ble_eq_true rfl) (Nat.le_of_ble_eq_true rfl) (Nat.le_of_ble_eq_true rfl) dX9_breaks_68 ?_
            refine a_topI (y := rdy σ l s m aT) (rdy_eq (Bk_Q hF1) _ _ _ _) ?_
            have rr := rdy_rng hW hp (l := l) (s := s) (m := m) (aT := aT) (by omega) (by omega) hs0 hs1 hm
            refine a_aload_n dX9_breaks_71 rfl rfl ?_
            refine a_iload dX9_breaks_72 rfl ?_
            refine a_iload dX9_breaks_74 rfl ?_
            refine a_cI (c := 153) (as := [ai l, ai aT]) (rest := [ai (rdy σ l s m aT)]) (t_leavesAt (sN τ 153 39 l) l aT (Q_W (Bk_Q hF1) hW) (hp.of (Bk_Q hF1)) (by omega) (by rw [Q38 (Bk_Q hF1)]; omega) ha) mvX9_leavesAt lX9_342 k153 (by decide) rfl rfl rfl rfl (Nat.le_of_ble_eq_true rfl) (Nat.le_of_ble_eq_true rfl) (Nat.le_of_ble_eq_true rfl) dX9_breaks_76 ?_
            refine a_topI (y := lvA σ l aT) (lvA_eq (Bk_Q hF1) _ _) ?_
            have rl := lvA_rng hW hp (l := l) (aT := aT) (by omega) (by omega)
            refine a_icmp_le (tgt := 84) dX9_breaks_79 (by decide) (inR_of (by omega) (by omega)) (inR_of (by omega) (by omega)) (fun c79 => ?_) (fun c79 => ?_)
            · refine a_iinc (y := l + 1) (ls' := [(5, ai (l + 1)), (0, ar 153), (1, ai s), (2, ai t), (3, ai m), (4, ai aT)]) dX9_breaks_84 rfl rfl (Nat.le_of_ble_eq_true rfl) rfl ?_
              refine a_goto (tgt := 3) dX9_breaks_87 (by decide) ?_
              exact a_keep (by simp) (ih (l + 1) (sN τ 153 39 l) (by omega) (by omega) hF1 (by rw [hE]; show (if _ then _ else if _ then _ else _) = _; rw [if_neg (by grind), if_neg (by omega)]))
            · refine a_iconst dX9_breaks_82 ?_
              exact a_iret rfl ⟨by rw [hE]; show some (ai 2) = some (ai (Prod.fst (if _ then _ else if _ then _ else _))); rw [if_neg (by grind), if_pos (by omega)], hF1, by rw [h39, hE]; show _ = Prod.snd (if _ then _ else if _ then _ else _); rw [if_neg (by grind), if_pos (by omega)]⟩ dX9_breaks_83
          · exfalso; omega

set_option maxRecDepth 20000 in
theorem t_bk (σ : Sto) (hW : WOK σ) (hp : PlOK σ) (s t m aT : Int) (hs0 : 0 ≤ s) (hs1 : s < 10) (ht0 : 0 ≤ t) (ht1 : t < 10) (hm : mnt m) (ha : aT = 0 ∨ aT = 1) (hpos : 0 < gN σ 153 38) : MetA mX9_breaks [ar 153, ai s, ai t, ai m, ai aT] σ (fun r v => r = some (ai (brk σ s t m aT).1) ∧ Fr pBk σ v ∧ gN v 153 39 = (brk σ s t m aT).2) := by
  have hl := hp.1
  refine a_entry (by decide) (Nat.le_of_ble_eq_true rfl) ?_
  refine a_iconst dX9_breaks_0 ?_
  refine a_istore (ls' := [(5, ai 0), (0, ar 153), (1, ai s), (2, ai t), (3, ai m), (4, ai aT)]) dX9_breaks_1 (Nat.le_of_ble_eq_true rfl) rfl ?_
  exact a_keep (by simp) (t_bk_l σ hW hp s t m aT hs0 hs1 ht0 ht1 hm ha (brk σ s t m aT) hpos (gN σ 153 38).toNat 0 σ (by omega) (by omega) Fr.rfl rfl)

