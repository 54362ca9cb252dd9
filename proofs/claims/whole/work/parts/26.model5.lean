set_option maxRecDepth 20000 in
theorem t_cand_c (σ : Sto) (hW : WOK σ) (hT : TOK σ) (s t : Int) (hs0 : 0 ≤ s) (hs1 : s < 10) (ht0 : 0 ≤ t) (ht1 : t < 10) (i dep : Int) (hi0 : 0 ≤ i) (hi1 : i < gN σ 155 3) (hd0 : -1000 ≤ dep) (hd1 : dep ≤ 4000) (X : List Cd) (hx : ∀ τ : Sto, Fr pCa σ τ → CdIs τ X → RunA mX9_laysCandidates (fun r u => r = none ∧ Fr pCa σ u ∧ CdIs u (candL σ s t)) 122 [(3, ai i), (0, ar 153), (1, ai s), (2, ai t)] [] τ) : ∀ (n : Nat) (k : Int) (τ : Sto) (L : List Cd) (set : Int64), 0 ≤ k → k ≤ 5 → n = (5 - k).toNat → (L.length : Int) ≤ 5 * i + k → Fr pCa σ τ → CdIs τ L → X = (itr (cdF σ t dep) n k (L, set)).1 → RunA mX9_laysCandidates (fun r u => r = none ∧ Fr pCa σ u ∧ CdIs u (candL σ s t)) 43 [(7, ai k), (5, al set), (4, ai dep), (3, ai i), (0, ar 153), (1, ai s), (2, ai t)] [] τ := by
  have hR := hW.1
  intro n
  induction n with
  | zero =>
    intro k τ L set h0 h5 hn hlen hF hC hE
    refine a_iload dX9_laysCandidates_43 rfl ?_
    refine a_iconst dX9_laysCandidates_45 ?_
    refine a_icmp_gt (tgt := 122) dX9_laysCandidates_46 (by decide) (inR_of (by omega) (by omega)) (inR_of (by omega) (by omega)) (fun c46 => ?_) (fun c46 => ?_)
    · exact a_keep (by simp) (hx τ hF (by rw [hE]; exact hC))
    · exfalso; omega
  | succ n ih =>
    intro k τ L set h0 h5 hn hlen hF hC hE
    refine a_iload dX9_laysCandidates_43 rfl ?_
    refine a_iconst dX9_laysCandidates_45 ?_
    refine a_icmp_gt (tgt := 122) dX9_laysCandidates_46 (by decide) (inR_of (by omega) (by omega)) (inR_of (by omega) (by omega)) (fun c46 => ?_) (fun c46 => ?_)
    · exfalso; omega
    · have ba := arrivesF_rng hW hT (set := set) ht0 ht1
      refine a_aload_n dX9_laysCandidates_49 rfl rfl ?_
      refine a_lload dX9_laysCandidates_50 rfl ?_
      refine a_iload_n dX9_laysCandidates_52 rfl rfl ?_
      refine a_cI (c := 153) (as := [al set, ai t]) (rest := []) (t_arrives τ set t ((pCa_Rd hF).W hW) ((pCa_Rd hF).T hT) (by omega) (by omega)) mvX9_arrives lX9_260 k153 (by decide) rfl rfl rfl rfl (Nat.le_of_ble_eq_true rfl) (Nat.le_of_ble_eq_true rfl) (Nat.le_of_ble_eq_true rfl) dX9_laysCandidates_53 ?_
      refine a_topI (y := arrivesF σ set t) ((pCa_Rd hF).arrives _ _) ?_
      refine a_istore (ls' := [(8, ai (arrivesF σ set t)), (7, ai k), (5, al set), (4, ai dep), (3, ai i), (0, ar 153), (1, ai s), (2, ai t)]) dX9_laysCandidates_56 (Nat.le_of_ble_eq_true rfl) rfl ?_
      refine a_iload dX9_laysCandidates_58 rfl ?_
      refine a_ldc (x := 1000000) cX9_175 (by decide) dX9_laysCandidates_60 ?_
      refine a_icmp_ge (tgt := 108) dX9_laysCandidates_62 (by decide) (inR_of (by omega) (by omega)) (inR_of (by omega) (by omega)) (fun c62 => ?_) (fun c62 => ?_)
      · refine a_aload_n dX9_laysCandidates_108 rfl rfl ?_
        refine a_lload dX9_laysCandidates_109 rfl ?_
        refine a_cL (c := 153) (as := [al set]) (rest := []) (t_changed τ set ((pCa_Rd hF).W hW)) mvX9_changed lX9_264 k153 (by decide) rfl rfl rfl rfl (Nat.le_of_ble_eq_true rfl) (Nat.le_of_ble_eq_true rfl) (Nat.le_of_ble_eq_true rfl) dX9_laysCandidates_111 ?_
        refine a_topL (y := changedF σ set) ((pCa_Rd hF).changed _) ?_
        refine a_lstore (ls' := [(5, al (changedF σ set)), (8, ai (arrivesF σ set t)), (7, ai k), (4, ai dep), (3, ai i), (0, ar 153), (1, ai s), (2, ai t)]) dX9_laysCandidates_114 (Nat.le_of_ble_eq_true rfl) rfl ?_
        refine a_iinc (y := k + 1) (ls' := [(7, ai (k + 1)), (5, al (changedF σ set)), (8, ai (arrivesF σ set t)), (4, ai dep), (3, ai i), (0, ar 153), (1, ai s), (2, ai t)]) dX9_laysCandidates_116 rfl rfl (Nat.le_of_ble_eq_true rfl) rfl ?_
        refine a_goto (tgt := 43) dX9_laysCandidates_119 (by decide) ?_
        have e : cdF σ t dep k (L, set) = (L, changedF σ set) := by unfold cdF; grind
        exact a_keep (by simp) (ih (k + 1) τ L (changedF σ set) (by omega) (by omega) (by omega) (by omega) hF hC (by rw [hE, itr_s, e]))
      · have h28 := hC.1
        refine a_aload_n dX9_laysCandidates_65 rfl rfl ?_
        refine a_getF (d := 164) fX9_45 k153 rfl r153_25 dX9_laysCandidates_66 ?_
        refine a_aload_n dX9_laysCandidates_69 rfl rfl ?_
        refine a_getI (J := 28) fX9_267 k153 rfl rfl dX9_laysCandidates_70 ?_
        refine a_iload dX9_laysCandidates_73 rfl ?_
        refine a_ist k164 n164 (by omega) (by omega) dX9_laysCandidates_75 ?_
        refine a_aload_n dX9_laysCandidates_76 rfl rfl ?_
        refine a_getF (d := 165) fX9_48 k153 rfl r153_26 dX9_laysCandidates_77 ?_
        refine a_aload_n dX9_laysCandidates_80 rfl rfl ?_
        refine a_getI (J := 28) fX9_267 k153 rfl rfl dX9_laysCandidates_81 ?_
        refine a_topI (y := gN τ 153 28) (by simp [gN_sN]) ?_
        refine a_iload dX9_laysCandidates_84 rfl ?_
        refine a_ist k165 n165 (by omega) (by omega) dX9_laysCandidates_86 ?_
        refine a_aload_n dX9_laysCandidates_87 rfl rfl ?_
        refine a_getF (d := 166) fX9_51 k153 rfl r153_27 dX9_laysCandidates_88 ?_
        refine a_aload_n dX9_laysCandidates_91 rfl rfl ?_
        refine a_getI (J := 28) fX9_267 k153 rfl rfl dX9_laysCandidates_92 ?_
        refine a_topI (y := gN τ 153 28) (by simp [gN_sN]) ?_
        refine a_iload dX9_laysCandidates_95 rfl ?_
        refine a_ist k166 n166 (by omega) (by omega) dX9_laysCandidates_97 ?_
        refine a_aload_n dX9_laysCandidates_98 rfl rfl ?_
        refine a_dup dX9_laysCandidates_99 rfl ?_
        refine a_getI (J := 28) fX9_267 k153 rfl rfl dX9_laysCandidates_100 ?_
        refine a_topI (y := gN τ 153 28) (by simp [gN_sN]) ?_
        refine a_iconst dX9_laysCandidates_103 ?_
        refine a_iadd dX9_laysCandidates_104 ?_
        refine a_putI (J := 28) fX9_267 k153 rfl rfl rfl dX9_laysCandidates_105 ?_
        refine a_aload_n dX9_laysCandidates_108 rfl rfl ?_
        refine a_lload dX9_laysCandidates_109 rfl ?_
        refine a_cL (c := 153) (as := [al set]) (rest := []) (t_changed (sN (sN (sN (sN τ 164 (gN τ 153 28) dep) 165 (gN τ 153 28) (arrivesF σ set t)) 166 (gN τ 153 28) k) 153 28 (gN τ 153 28 + 1)) set ((pCa_Rd ((((hF.sN (by unfold pCa; omega)).sN (by unfold pCa; omega)).sN (by unfold pCa; omega)).sN (by unfold pCa; omega))).W hW)) mvX9_changed lX9_264 k153 (by decide) rfl rfl rfl rfl (Nat.le_of_ble_eq_true rfl) (Nat.le_of_ble_eq_true rfl) (Nat.le_of_ble_eq_true rfl) dX9_laysCandidates_111 ?_
        refine a_topL (y := changedF σ set) ((pCa_Rd ((((hF.sN (by unfold pCa; omega)).sN (by unfold pCa; omega)).sN (by unfold pCa; omega)).sN (by unfold pCa; omega))).changed _) ?_
        refine a_lstore (ls' := [(5, al (changedF σ set)), (8, ai (arrivesF σ set t)), (7, ai k), (4, ai dep), (3, ai i), (0, ar 153), (1, ai s), (2, ai t)]) dX9_laysCandidates_114 (Nat.le_of_ble_eq_true rfl) rfl ?_
        refine a_iinc (y := k + 1) (ls' := [(7, ai (k + 1)), (5, al (changedF σ set)), (8, ai (arrivesF σ set t)), (4, ai dep), (3, ai i), (0, ar 153), (1, ai s), (2, ai t)]) dX9_laysCandidates_116 rfl rfl (Nat.le_of_ble_eq_true rfl) rfl ?_
        refine a_goto (tgt := 43) dX9_laysCandidates_119 (by decide) ?_
        have e : cdF σ t dep k (L, set) = (L ++ [(dep, arrivesF σ set t, k)], changedF σ set) := by unfold cdF; grind
        exact a_keep (by simp) (ih (k + 1) (sN (sN (sN (sN τ 164 (gN τ 153 28) dep) 165 (gN τ 153 28) (arrivesF σ set t)) 166 (gN τ 153 28) k) 153 28 (gN τ 153 28 + 1)) (L ++ [(dep, arrivesF σ set t, k)]) (changedF σ set) (by omega) (by omega) (by omega) (by simp; omega) (((((hF.sN (by unfold pCa; omega)).sN (by unfold pCa; omega)).sN (by unfold pCa; omega)).sN (by unfold pCa; omega))) (by have := hC.push (d := dep) (a := arrivesF σ set t) (n := k) (by omega) (inR_of (by omega) (by omega)) (inR_of (by omega) (by omega)) (inR_of (by omega) (by omega)); simpa [gN_sN] using this) (by rw [hE, itr_s, e]))

set_option maxRecDepth 20000 in
theorem t_cand_b (σ : Sto) (hW : WOK σ) (hT : TOK σ) (s t : Int) (hs0 : 0 ≤ s) (hs1 : s < 10) (ht0 : 0 ≤ t) (ht1 : t < 10) : ∀ (n : Nat) (i : Int) (τ : Sto) (L : List Cd), 0 ≤ i → i ≤ 60 → n = (gN σ 155 3 - i).toNat → (L.length : Int) ≤ 5 * i → Fr pCa σ τ → CdIs τ L → candL σ s t = itr (caF σ s t) n i L → RunA mX9_laysCandidates (fun r u => r = none ∧ Fr pCa σ u ∧ CdIs u (candL σ s t)) 7 [(3, ai i), (0, ar 153), (1, ai s), (2, ai t)] [] τ := by
  have hR := hW.1
  intro n
  induction n with
  | zero =>
    intro i τ L h0 h60 hn hlen hF hC hE
    refine a_iload_n dX9_laysCandidates_7 rfl rfl ?_
    refine a_aload_n dX9_laysCandidates_8 rfl rfl ?_
    refine a_cI (c := 153) (as := []) (rest := [ai i]) (t_rides τ  ) mvX9_rides lX9_198 k153 (by decide) rfl rfl rfl rfl (Nat.le_of_ble_eq_true rfl) (Nat.le_of_ble_eq_true rfl) (Nat.le_of_ble_eq_true rfl) dX9_laysCandidates_9 ?_
    refine a_topI (y := gN σ 155 3) ((pCa_Rd hF).1 _) ?_
    refine a_icmp_ge (tgt := 128) dX9_laysCandidates_12 (by decide) (inR_of (by omega) (by omega)) (inR_gN _ _ _) (fun c12 => ?_) (fun c12 => ?_)
    · exact a_vret rfl ⟨rfl, hF, by rw [hE]; exact hC⟩ dX9_laysCandidates_128
    · exfalso; omega
  | succ n ih =>
    intro i τ L h0 h60 hn hlen hF hC hE
    refine a_iload_n dX9_laysCandidates_7 rfl rfl ?_
    refine a_aload_n dX9_laysCandidates_8 rfl rfl ?_
    refine a_cI (c := 153) (as := []) (rest := [ai i]) (t_rides τ  ) mvX9_rides lX9_198 k153 (by decide) rfl rfl rfl rfl (Nat.le_of_ble_eq_true rfl) (Nat.le_of_ble_eq_true rfl) (Nat.le_of_ble_eq_true rfl) dX9_laysCandidates_9 ?_
    refine a_topI (y := gN σ 155 3) ((pCa_Rd hF).1 _) ?_
    refine a_icmp_ge (tgt := 128) dX9_laysCandidates_12 (by decide) (inR_of (by omega) (by omega)) (inR_gN _ _ _) (fun c12 => ?_) (fun c12 => ?_)
    · exfalso; omega
    · have bl := lfF_rng hW hT hs0 hs1 (i := i) (by omega) (by omega)
      refine a_aload_n dX9_laysCandidates_15 rfl rfl ?_
      refine a_iload_n dX9_laysCandidates_16 rfl rfl ?_
      refine a_iload_n dX9_laysCandidates_17 rfl rfl ?_
      refine a_cI (c := 153) (as := [ai s, ai i]) (rest := []) (t_leavesFrom τ s i ((pCa_Rd hF).W hW) (by omega) (by omega) (by omega) (by omega)) mvX9_leavesFrom lX9_257 k153 (by decide) rfl rfl rfl rfl (Nat.le_of_ble_eq_true rfl) (Nat.le_of_ble_eq_true rfl) (Nat.le_of_ble_eq_true rfl) dX9_laysCandidates_18 ?_
      refine a_topI (y := lfF σ s i) ((pCa_Rd hF).lf _ _) ?_
      refine a_istore (ls' := [(4, ai (lfF σ s i)), (3, ai i), (0, ar 153), (1, ai s), (2, ai t)]) dX9_laysCandidates_21 (Nat.le_of_ble_eq_true rfl) rfl ?_
      refine a_iload dX9_laysCandidates_23 rfl ?_
      refine a_if_ge (tgt := 31) dX9_laysCandidates_25 (by decide) (inR_of (by omega) (by omega)) (fun c25 => ?_) (fun c25 => ?_)
      · refine a_aload_n dX9_laysCandidates_31 rfl rfl ?_
        refine a_lconst (v := 1) dX9_laysCandidates_32 rfl ?_
        refine a_iload_n dX9_laysCandidates_33 rfl rfl ?_
        refine a_lshl dX9_laysCandidates_34 ?_
        refine a_cL (c := 153) (as := [al (shlL 1 i)]) (rest := []) (t_stays τ (shlL 1 i) ((pCa_Rd hF).W hW)) mvX9_stays lX9_253 k153 (by decide) rfl rfl rfl rfl (Nat.le_of_ble_eq_true rfl) (Nat.le_of_ble_eq_true rfl) (Nat.le_of_ble_eq_true rfl) dX9_laysCandidates_35 ?_
        refine a_topL (y := staysF σ (shlL 1 i)) ((pCa_Rd hF).stays _) ?_
        refine a_lstore (ls' := [(5, al (staysF σ (shlL 1 i))), (4, ai (lfF σ s i)), (3, ai i), (0, ar 153), (1, ai s), (2, ai t)]) dX9_laysCandidates_38 (Nat.le_of_ble_eq_true rfl) rfl ?_
        refine a_iconst dX9_laysCandidates_40 ?_
        refine a_istore (ls' := [(7, ai 0), (5, al (staysF σ (shlL 1 i))), (4, ai (lfF σ s i)), (3, ai i), (0, ar 153), (1, ai s), (2, ai t)]) dX9_laysCandidates_41 (Nat.le_of_ble_eq_true rfl) rfl ?_
        refine a_keep (ls' := [(7, ai 0), (5, al (staysF σ (shlL 1 i))), (4, ai (lfF σ s i)), (3, ai i), (0, ar 153), (1, ai s), (2, ai t)]) (by simp) ?_
        have e : caF σ s t i L = (itr (cdF σ t (lfF σ s i)) 5 0 (L, staysF σ (shlL 1 i))).1 := by unfold caF; rw [if_neg (by omega)]
        have el := cd_len (σ := σ) (t := t) (dep := lfF σ s i) 5 0 (L, staysF σ (shlL 1 i))
        refine t_cand_c σ hW hT s t hs0 hs1 ht0 ht1 i (lfF σ s i) (by omega) (by omega) (by omega) (by omega) (caF σ s t i L) (fun υ hFu hCu => ?_) 5 0 τ L (staysF σ (shlL 1 i)) (by omega) (by omega) (by omega) (by omega) hF hC e
        refine a_iinc (y := i + 1) (ls' := [(3, ai (i + 1)), (0, ar 153), (1, ai s), (2, ai t)]) dX9_laysCandidates_122 rfl rfl (Nat.le_of_ble_eq_true rfl) rfl ?_
        refine a_goto (tgt := 7) dX9_laysCandidates_125 (by decide) ?_
        exact ih (i + 1) υ (caF σ s t i L) (by omega) (by omega) (by omega) (by rw [e]; simp only at el; omega) hFu hCu (by rw [hE, itr_s])
      · refine a_goto (tgt := 122) dX9_laysCandidates_28 (by decide) ?_
        refine a_iinc (y := i + 1) (ls' := [(3, ai (i + 1)), (4, ai (lfF σ s i)), (0, ar 153), (1, ai s), (2, ai t)]) dX9_laysCandidates_122 rfl rfl (Nat.le_of_ble_eq_true rfl) rfl ?_
        refine a_goto (tgt := 7) dX9_laysCandidates_125 (by decide) ?_
        have e : caF σ s t i L = L := by unfold caF; grind
        exact a_keep (by simp) (ih (i + 1) τ L (by omega) (by omega) (by omega) (by omega) hF hC (by rw [hE, itr_s, e]))

set_option maxRecDepth 20000 in
theorem t_laysCandidates (σ : Sto) (hW : WOK σ) (hT : TOK σ) (s t : Int) (hs0 : 0 ≤ s) (hs1 : s < 10) (ht0 : 0 ≤ t) (ht1 : t < 10) : MetA mX9_laysCandidates [ar 153, ai s, ai t] σ (fun r u => r = none ∧ Fr pCa σ u ∧ CdIs u (candL σ s t)) := by
  refine a_entry (by decide) (Nat.le_of_ble_eq_true rfl) ?_
  refine a_aload_n dX9_laysCandidates_0 rfl rfl ?_
  refine a_iconst dX9_laysCandidates_1 ?_
  refine a_putI (J := 28) fX9_267 k153 rfl rfl rfl dX9_laysCandidates_2 ?_
  refine a_iconst dX9_laysCandidates_5 ?_
  refine a_istore_n (ls' := [(3, ai 0), (0, ar 153), (1, ai s), (2, ai t)]) dX9_laysCandidates_6 rfl (Nat.le_of_ble_eq_true rfl) rfl ?_
  exact a_keep (by simp) (t_cand_b σ hW hT s t hs0 hs1 ht0 ht1 (gN σ 155 3).toNat 0 (sN σ 153 28 0) [] (by omega) (by omega) (by omega) (by simp) (Fr.rfl.sN (by unfold pCa; omega)) ⟨by rw [gN_sN, if_pos ⟨rfl, rfl⟩]; rfl, fun k q h => by simp at h⟩ rfl)

