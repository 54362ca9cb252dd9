theorem hr_rng {σ : Sto} (hT : TpOK σ) (p : Int) : -1 ≤ hrF (fun j => gN σ 154 j) (gN σ 153 6) p ∧ hrF (fun j => gN σ 154 j) (gN σ 153 6) p ≤ 255 := by
  have := hT p
  unfold hrF
  dsimp only
  split <;> omega
theorem hr_end {σ : Sto} {p : Int} (h : gN σ 153 6 ≤ p) : hrF (fun j => gN σ 154 j) (gN σ 153 6) p = -1 := by unfold hrF; rw [if_neg (by omega)]
theorem Tk6 {σ τ : Sto} (h : Fr pTk σ τ) : gN τ 153 6 = gN σ 153 6 := h.1 153 6 (by unfold pTk; omega)
theorem Tk154 {σ τ : Sto} (h : Fr pTk σ τ) (j : Int) : gN τ 154 j = gN σ 154 j := h.1 154 j (by unfold pTk; omega)
theorem here_eq {σ τ : Sto} (h : Fr pTk σ τ) {p : Int} (h7 : gN τ 153 7 = p) : (if gN τ 153 7 < gN τ 153 6 then gN τ 154 (gN τ 153 7) else -1) = hrF (fun j => gN σ 154 j) (gN σ 153 6) p := by
  rw [h7, Tk6 h, Tk154 h]
  rfl

set_option maxRecDepth 20000 in
theorem t_tok_c (σ : Sto) (hT : TpOK σ) (hs0 : 0 ≤ gN σ 153 6) (hs1 : gN σ 153 6 ≤ 900) (Z : Tk) (c pl wo : Int) : ∀ (n : Nat) (p : Int) (v : Int) (τ : Sto), 0 ≤ p → p ≤ gN σ 153 6 → n = (gN σ 153 6 - p).toNat → Fr pTk σ τ → gN τ 153 7 = p → gN τ 153 8 = pl → gN τ 153 9 = 1 → gN τ 153 10 = v → gN τ 153 11 = wo → 0 ≤ v → v ≤ 1000000 → Z = (spn (isDg (fun j => gN σ 154 j) (gN σ 153 6)) n p, pl, 1, nmF (fun j => gN σ 154 j) (gN σ 153 6) n p v, wo) → RunA mX9_token (fun r u => r = none ∧ Fr pTk σ u ∧ TkIs u Z) 177 [(1, ai c), (0, ar 153)] [] τ := by
  intro n
  induction n with
  | zero =>
    intro p v τ h0 h5 hn hF h7 h8 h9 h10 h11 hv0 hv1 hZ
    refine a_aload_n dX9_token_177 rfl rfl ?_
    refine a_cI (c := 153) (as := []) (rest := []) (t_here τ (by have h9 : gN τ 153 7 = p := h7; omega) (by rw [Tk6 hF]; omega)) mvX9_here lX9_97 k153 (by decide) rfl rfl rfl rfl (Nat.le_of_ble_eq_true rfl) (Nat.le_of_ble_eq_true rfl) (Nat.le_of_ble_eq_true rfl) dX9_token_178 ?_
    refine a_topI (y := hrF (fun j => gN σ 154 j) (gN σ 153 6) p) (here_eq hF (h7)) ?_
    refine a_sI (as := [ai (hrF (fun j => gN σ 154 j) (gN σ 153 6) p)]) (rest := []) (t_isDigit τ (hrF (fun j => gN σ 154 j) (gN σ 153 6) p) (inR_of (by have := hr_rng hT p; omega) (by have := hr_rng hT p; omega))) mvX9_isDigit lX9_120 rfl rfl rfl (Nat.le_of_ble_eq_true rfl) (Nat.le_of_ble_eq_true rfl) (Nat.le_of_ble_eq_true rfl) dX9_token_181 ?_
    refine a_ifb_eq (tgt := 260) dX9_token_184 (by decide) (fun c184 => ?_) (fun c184 => ?_)
    · exact a_vret rfl ⟨rfl, hF, by rw [hZ]; exact ⟨h7, h8, h9, h10, h11⟩⟩ dX9_token_260
    · exfalso; rw [hr_end (by omega)] at c184; omega
  | succ n ih =>
    intro p v τ h0 h5 hn hF h7 h8 h9 h10 h11 hv0 hv1 hZ
    refine a_aload_n dX9_token_177 rfl rfl ?_
    refine a_cI (c := 153) (as := []) (rest := []) (t_here τ (by have h9 : gN τ 153 7 = p := h7; omega) (by rw [Tk6 hF]; omega)) mvX9_here lX9_97 k153 (by decide) rfl rfl rfl rfl (Nat.le_of_ble_eq_true rfl) (Nat.le_of_ble_eq_true rfl) (Nat.le_of_ble_eq_true rfl) dX9_token_178 ?_
    refine a_topI (y := hrF (fun j => gN σ 154 j) (gN σ 153 6) p) (here_eq hF (h7)) ?_
    refine a_sI (as := [ai (hrF (fun j => gN σ 154 j) (gN σ 153 6) p)]) (rest := []) (t_isDigit τ (hrF (fun j => gN σ 154 j) (gN σ 153 6) p) (inR_of (by have := hr_rng hT p; omega) (by have := hr_rng hT p; omega))) mvX9_isDigit lX9_120 rfl rfl rfl (Nat.le_of_ble_eq_true rfl) (Nat.le_of_ble_eq_true rfl) (Nat.le_of_ble_eq_true rfl) dX9_token_181 ?_
    refine a_ifb_eq (tgt := 260) dX9_token_184 (by decide) (fun c184 => ?_) (fun c184 => ?_)
    · have hq : isDg (fun j => gN σ 154 j) (gN σ 153 6) p = false := by (unfold isDg; exact decide_eq_false (by assumption))
      exact a_vret rfl ⟨rfl, hF, by rw [hZ]; unfold TkIs; show _ ∧ _ ∧ _ ∧ _ ∧ _; refine ⟨?_, h8, h9, ?_, h11⟩; show _ = (if isDg _ _ _ = true then _ else _); rw [if_neg (by rw [hq]; decide)]; exact h7; show _ = (if isDg _ _ _ = true then _ else _); rw [if_neg (by rw [hq]; decide)]; exact h10⟩ dX9_token_260
    · have hd : dig (hrF (fun j => gN σ 154 j) (gN σ 153 6) p) := by assumption
      refine a_aload_n dX9_token_187 rfl rfl ?_
      refine a_aload_n dX9_token_188 rfl rfl ?_
      refine a_getI (J := 10) fX9_117 k153 rfl rfl dX9_token_189 ?_
      refine a_topI (y := v) h10 ?_
      refine a_ldc (x := 99999) cX9_123 (by decide) dX9_token_192 ?_
      refine a_icmp_le (tgt := 204) dX9_token_194 (by decide) (inR_of (by omega) (by omega)) (inR_of (by omega) (by omega)) (fun c194 => ?_) (fun c194 => ?_)
      · refine a_bipush (x := 10) dX9_token_204 (by decide) ?_
        refine a_aload_n dX9_token_206 rfl rfl ?_
        refine a_getI (J := 10) fX9_117 k153 rfl rfl dX9_token_207 ?_
        refine a_topI (y := v) h10 ?_
        refine a_imul dX9_token_210 ?_
        refine a_aload_n dX9_token_211 rfl rfl ?_
        refine a_cI (c := 153) (as := []) (rest := [ai (10 * v), ar 153]) (t_here τ (by have h9 : gN τ 153 7 = p := h7; omega) (by rw [Tk6 hF]; omega)) mvX9_here lX9_97 k153 (by decide) rfl rfl rfl rfl (Nat.le_of_ble_eq_true rfl) (Nat.le_of_ble_eq_true rfl) (Nat.le_of_ble_eq_true rfl) dX9_token_212 ?_
        refine a_topI (y := hrF (fun j => gN σ 154 j) (gN σ 153 6) p) (here_eq hF (h7)) ?_
        refine a_iadd dX9_token_215 ?_
        refine a_bipush (x := 48) dX9_token_216 (by decide) ?_
        refine a_isub dX9_token_218 ?_
        refine a_putI (J := 10) fX9_117 k153 rfl rfl rfl dX9_token_219 ?_
        refine a_aload_n dX9_token_222 rfl rfl ?_
        refine a_dup dX9_token_223 rfl ?_
        refine a_getI (J := 7) fX9_91 k153 rfl rfl dX9_token_224 ?_
        refine a_topI (y := p) (by rw [gN_sN, if_neg (by omega)]; exact h7) ?_
        refine a_iconst dX9_token_227 ?_
        refine a_iadd dX9_token_228 ?_
        refine a_putI (J := 7) fX9_91 k153 rfl rfl rfl dX9_token_229 ?_
        refine a_goto (tgt := 177) dX9_token_232 (by decide) ?_
        have hq : isDg (fun j => gN σ 154 j) (gN σ 153 6) p = true := by unfold isDg; exact decide_eq_true (by assumption)
        refine a_keep (by simp) (ih (p + 1) _ (sN (sN τ 153 10 ((10 * v + (hrF (fun j => gN σ 154 j) (gN σ 153 6) p)) - 48)) 153 7 (p + 1)) (by omega) (by omega) (by omega) ((hF.sN (by unfold pTk; omega)).sN (by unfold pTk; omega)) (by rw [gN_sN, if_pos ⟨rfl, rfl⟩, nrm_of (inR_of (by omega) (by omega))]) (by rw [gN_sN, if_neg (by omega), gN_sN, if_neg (by omega)]; exact h8) (by rw [gN_sN, if_neg (by omega), gN_sN, if_neg (by omega)]; exact h9) (by rw [gN_sN, if_neg (by omega), gN_sN, if_pos ⟨rfl, rfl⟩, nrm_of (inR_of (by omega) (by omega))]) (by rw [gN_sN, if_neg (by omega), gN_sN, if_neg (by omega)]; exact h11) (by omega) (by omega) ?_)
        rw [hZ]
        show (if isDg _ _ _ = true then _ else _, _, _, (if isDg _ _ _ = true then _ else _), _) = _
        rw [if_pos hq, if_pos hq]
        grind
      · refine a_aload_n dX9_token_197 rfl rfl ?_
        refine a_getI (J := 10) fX9_117 k153 rfl rfl dX9_token_198 ?_
        refine a_topI (y := v) h10 ?_
        refine a_goto (tgt := 219) dX9_token_201 (by decide) ?_
        refine a_putI (J := 10) fX9_117 k153 rfl rfl rfl dX9_token_219 ?_
        refine a_aload_n dX9_token_222 rfl rfl ?_
        refine a_dup dX9_token_223 rfl ?_
        refine a_getI (J := 7) fX9_91 k153 rfl rfl dX9_token_224 ?_
        refine a_topI (y := p) (by rw [gN_sN, if_neg (by omega)]; exact h7) ?_
        refine a_iconst dX9_token_227 ?_
        refine a_iadd dX9_token_228 ?_
        refine a_putI (J := 7) fX9_91 k153 rfl rfl rfl dX9_token_229 ?_
        refine a_goto (tgt := 177) dX9_token_232 (by decide) ?_
        have hq : isDg (fun j => gN σ 154 j) (gN σ 153 6) p = true := by unfold isDg; exact decide_eq_true (by assumption)
        refine a_keep (by simp) (ih (p + 1) _ (sN (sN τ 153 10 v) 153 7 (p + 1)) (by omega) (by omega) (by omega) ((hF.sN (by unfold pTk; omega)).sN (by unfold pTk; omega)) (by rw [gN_sN, if_pos ⟨rfl, rfl⟩, nrm_of (inR_of (by omega) (by omega))]) (by rw [gN_sN, if_neg (by omega), gN_sN, if_neg (by omega)]; exact h8) (by rw [gN_sN, if_neg (by omega), gN_sN, if_neg (by omega)]; exact h9) (by rw [gN_sN, if_neg (by omega), gN_sN, if_pos ⟨rfl, rfl⟩, nrm_of (inR_of (by omega) (by omega))]) (by rw [gN_sN, if_neg (by omega), gN_sN, if_neg (by omega)]; exact h11) (by omega) (by omega) ?_)
        rw [hZ]
        show (if isDg _ _ _ = true then _ else _, _, _, (if isDg _ _ _ = true then _ else _), _) = _
        rw [if_pos hq, if_pos hq]
        grind

set_option maxRecDepth 20000 in
theorem t_tok_b (σ : Sto) (hT : TpOK σ) (hs0 : 0 ≤ gN σ 153 6) (hs1 : gN σ 153 6 ≤ 900) (Z : Tk) (c pl : Int) (hpl : 0 ≤ pl) (E X : Int) (hx : ∀ τ : Sto, Fr pTk σ τ → gN τ 153 7 = E → gN τ 153 8 = pl → gN τ 153 11 = X → pl ≤ E → E ≤ gN σ 153 6 → RunA mX9_token (fun r u => r = none ∧ Fr pTk σ u ∧ TkIs u Z) 126 [(1, ai c), (0, ar 153)] [] τ) : ∀ (n : Nat) (p : Int) (wv : Int) (τ : Sto), pl ≤ p → p ≤ gN σ 153 6 → n = (gN σ 153 6 - p).toNat → Fr pTk σ τ → gN τ 153 7 = p → gN τ 153 8 = pl → gN τ 153 11 = wv → inR wv → E = spn (isSm (fun j => gN σ 154 j) (gN σ 153 6)) n p → X = wdF (fun j => gN σ 154 j) (gN σ 153 6) pl n p wv → RunA mX9_token (fun r u => r = none ∧ Fr pTk σ u ∧ TkIs u Z) 69 [(1, ai c), (0, ar 153)] [] τ := by
  intro n
  induction n with
  | zero =>
    intro p wv τ h0 h5 hn hF h7 h8 h11 hwr hE1 hE2
    refine a_aload_n dX9_token_69 rfl rfl ?_
    refine a_cI (c := 153) (as := []) (rest := []) (t_here τ (by have h9 : gN τ 153 7 = p := h7; omega) (by rw [Tk6 hF]; omega)) mvX9_here lX9_97 k153 (by decide) rfl rfl rfl rfl (Nat.le_of_ble_eq_true rfl) (Nat.le_of_ble_eq_true rfl) (Nat.le_of_ble_eq_true rfl) dX9_token_70 ?_
    refine a_topI (y := hrF (fun j => gN σ 154 j) (gN σ 153 6) p) (here_eq hF (h7)) ?_
    refine a_sI (as := [ai (hrF (fun j => gN σ 154 j) (gN σ 153 6) p)]) (rest := []) (t_isSmall τ (hrF (fun j => gN σ 154 j) (gN σ 153 6) p) (inR_of (by have := hr_rng hT p; omega) (by have := hr_rng hT p; omega))) mvX9_isSmall lX9_107 rfl rfl rfl (Nat.le_of_ble_eq_true rfl) (Nat.le_of_ble_eq_true rfl) (Nat.le_of_ble_eq_true rfl) dX9_token_73 ?_
    refine a_ifb_eq (tgt := 126) dX9_token_76 (by decide) (fun c76 => ?_) (fun c76 => ?_)
    · exact a_keep (by simp) (hx τ hF (by rw [hE1]; exact h7) h8 (by rw [hE2]; exact h11) (by rw [hE1]; exact h0) (by rw [hE1]; exact h5))
    · exfalso; rw [hr_end (by omega)] at c76; omega
  | succ n ih =>
    intro p wv τ h0 h5 hn hF h7 h8 h11 hwr hE1 hE2
    refine a_aload_n dX9_token_69 rfl rfl ?_
    refine a_cI (c := 153) (as := []) (rest := []) (t_here τ (by have h9 : gN τ 153 7 = p := h7; omega) (by rw [Tk6 hF]; omega)) mvX9_here lX9_97 k153 (by decide) rfl rfl rfl rfl (Nat.le_of_ble_eq_true rfl) (Nat.le_of_ble_eq_true rfl) (Nat.le_of_ble_eq_true rfl) dX9_token_70 ?_
    refine a_topI (y := hrF (fun j => gN σ 154 j) (gN σ 153 6) p) (here_eq hF (h7)) ?_
    refine a_sI (as := [ai (hrF (fun j => gN σ 154 j) (gN σ 153 6) p)]) (rest := []) (t_isSmall τ (hrF (fun j => gN σ 154 j) (gN σ 153 6) p) (inR_of (by have := hr_rng hT p; omega) (by have := hr_rng hT p; omega))) mvX9_isSmall lX9_107 rfl rfl rfl (Nat.le_of_ble_eq_true rfl) (Nat.le_of_ble_eq_true rfl) (Nat.le_of_ble_eq_true rfl) dX9_token_73 ?_
    refine a_ifb_eq (tgt := 126) dX9_token_76 (by decide) (fun c76 => ?_) (fun c76 => ?_)
    · have hq : isSm (fun j => gN σ 154 j) (gN σ 153 6) p = false := by unfold isSm; exact decide_eq_false (by assumption)
      have e1 : E = p := by rw [hE1]; show (if isSm _ _ _ = true then _ else _) = _; rw [if_neg (by rw [hq]; decide)]
      have e2 : X = wv := by rw [hE2]; show (if isSm _ _ _ = true then _ else _) = _; rw [if_neg (by rw [hq]; decide)]
      exact a_keep (by simp) (hx τ hF (by rw [e1]; exact h7) h8 (by rw [e2]; exact h11) (by omega) (by omega))
    · refine a_aload_n dX9_token_79 rfl rfl ?_
      refine a_getI (J := 7) fX9_91 k153 rfl rfl dX9_token_80 ?_
      refine a_topI (y := p) h7 ?_
      refine a_aload_n dX9_token_83 rfl rfl ?_
      refine a_getI (J := 8) fX9_101 k153 rfl rfl dX9_token_84 ?_
      refine a_topI (y := pl) h8 ?_
      refine a_isub dX9_token_87 ?_
      refine a_bipush (x := 6) dX9_token_88 (by decide) ?_
      refine a_icmp_ge (tgt := 113) dX9_token_90 (by decide) (inR_of (by omega) (by omega)) (inR_of (by omega) (by omega)) (fun c90 => ?_) (fun c90 => ?_)
      · refine a_aload_n dX9_token_113 rfl rfl ?_
        refine a_dup dX9_token_114 rfl ?_
        refine a_getI (J := 7) fX9_91 k153 rfl rfl dX9_token_115 ?_
        refine a_topI (y := p) (h7) ?_
        refine a_iconst dX9_token_118 ?_
        refine a_iadd dX9_token_119 ?_
        refine a_putI (J := 7) fX9_91 k153 rfl rfl rfl dX9_token_120 ?_
        refine a_goto (tgt := 69) dX9_token_123 (by decide) ?_
        have hq : isSm (fun j => gN σ 154 j) (gN σ 153 6) p = true := by unfold isSm; exact decide_eq_true (by assumption)
        refine a_keep (by simp) (ih (p + 1) _ (sN τ 153 7 (p + 1)) (by omega) (by omega) (by omega) (hF.sN (by unfold pTk; omega)) (by rw [gN_sN, if_pos ⟨rfl, rfl⟩, nrm_of (inR_of (by omega) (by omega))]) (by rw [gN_sN, if_neg (by omega)]; exact h8) (by rw [gN_sN, if_neg (by omega)]; exact h11) hwr ?_ ?_)
        · rw [hE1]; show (if isSm _ _ _ = true then _ else _) = _; rw [if_pos hq]
        · rw [hE2]; show (if isSm _ _ _ = true then _ else _) = _; rw [if_pos hq, if_neg (by omega)]
      · refine a_aload_n dX9_token_93 rfl rfl ?_
        refine a_aload_n dX9_token_94 rfl rfl ?_
        refine a_getI (J := 11) fX9_111 k153 rfl rfl dX9_token_95 ?_
        refine a_topI (y := wv) h11 ?_
        refine a_iconst dX9_token_98 ?_
        refine a_ishl (z := shlI wv 5) dX9_token_99 (Int32.ofInt_toInt _).symm ?_
        refine a_aload_n dX9_token_100 rfl rfl ?_
        refine a_cI (c := 153) (as := []) (rest := [ai (shlI wv 5), ar 153]) (t_here τ (by have h9 : gN τ 153 7 = p := h7; omega) (by rw [Tk6 hF]; omega)) mvX9_here lX9_97 k153 (by decide) rfl rfl rfl rfl (Nat.le_of_ble_eq_true rfl) (Nat.le_of_ble_eq_true rfl) (Nat.le_of_ble_eq_true rfl) dX9_token_101 ?_
        refine a_topI (y := hrF (fun j => gN σ 154 j) (gN σ 153 6) p) (here_eq hF (h7)) ?_
        refine a_bipush (x := 97) dX9_token_104 (by decide) ?_
        refine a_isub dX9_token_106 ?_
        refine a_iconst dX9_token_107 ?_
        refine a_iadd dX9_token_108 ?_
        refine a_ior (z := orI (shlI wv 5) (((hrF (fun j => gN σ 154 j) (gN σ 153 6) p) - 97) + 1)) dX9_token_109 (Int32.ofInt_toInt _).symm ?_
        refine a_putI (J := 11) fX9_111 k153 rfl rfl rfl dX9_token_110 ?_
        refine a_aload_n dX9_token_113 rfl rfl ?_
        refine a_dup dX9_token_114 rfl ?_
        refine a_getI (J := 7) fX9_91 k153 rfl rfl dX9_token_115 ?_
        refine a_topI (y := p) (by rw [gN_sN, if_neg (by omega)]; exact h7) ?_
        refine a_iconst dX9_token_118 ?_
        refine a_iadd dX9_token_119 ?_
        refine a_putI (J := 7) fX9_91 k153 rfl rfl rfl dX9_token_120 ?_
        refine a_goto (tgt := 69) dX9_token_123 (by decide) ?_
        have hq : isSm (fun j => gN σ 154 j) (gN σ 153 6) p = true := by unfold isSm; exact decide_eq_true (by assumption)
        refine a_keep (by simp) (ih (p + 1) _ (sN (sN τ 153 11 (orI (shlI wv 5) (((hrF (fun j => gN σ 154 j) (gN σ 153 6) p) - 97) + 1))) 153 7 (p + 1)) (by omega) (by omega) (by omega) ((hF.sN (by unfold pTk; omega)).sN (by unfold pTk; omega)) (by rw [gN_sN, if_pos ⟨rfl, rfl⟩, nrm_of (inR_of (by omega) (by omega))]) (by rw [gN_sN, if_neg (by omega), gN_sN, if_neg (by omega)]; exact h8) (by rw [gN_sN, if_neg (by omega), gN_sN, if_pos ⟨rfl, rfl⟩, nrm_of (show inR (orI _ _) from inR32 _)]) (show inR (orI _ _) from inR32 _) ?_ ?_)
        · rw [hE1]; show (if isSm _ _ _ = true then _ else _) = _; rw [if_pos hq]
        · rw [hE2]; show (if isSm _ _ _ = true then _ else _) = _; rw [if_pos hq, if_pos (by omega)]

theorem nrm_4 : nrm 4 = 4 := by decide
theorem nrm_3 : nrm 3 = 3 := by decide
theorem wh_rng (T : Int → Int) (p e : Int) : inR (whF T p e) := by
  unfold whF
  split
  · have h : ∀ (n : Nat) (k : Int), 0 ≤ k → k + n ≤ 3 → inR (fs2 (wkB T p) (-1) n k) := by
      intro n
      induction n with
      | zero => intro k h0 h1; unfold fs2 inR; omega
      | succ n ih =>
        intro k h0 h1
        unfold fs2
        split
        · unfold inR; omega
        · exact ih (k + 1) (by omega) (by omega)
    exact h 3 0 (by omega) (by omega)
  · unfold inR; omega
/-- the token at p, where no blank stands -/
def tokT (T : Int → Int) (n p va wo : Int) : Tk :=
  if hrF T n p = -1 then (p, p, 3, va, wo)
  else if sml (hrF T n p) then (spn (isSm T n) (n - p).toNat p, p, if spn (isSm T n) (n - p).toNat p - p ≤ 6 then 0 else 4, whF T p (spn (isSm T n) (n - p).toNat p), wdF T n p (n - p).toNat p 0)
  else if dig (hrF T n p) then (spn (isDg T n) (n - p).toNat p, p, 1, nmF T n (n - p).toNat p 0, wo)
  else (p + 1, p, if hrF T n p = 59 then 2 else 4, va, wo)
theorem tokF_T (T : Int → Int) (n : Int) (q : Tk) : tokF T n q = tokT T n (spn (isBl T n) (n - q.1).toNat q.1) q.2.2.2.1 q.2.2.2.2 := rfl

set_option maxRecDepth 20000 in
theorem t_tok_t (σ : Sto) (hT : TpOK σ) (hs0 : 0 ≤ gN σ 153 6) (hs1 : gN σ 153 6 ≤ 900) (Z : Tk) (p va wo : Int) (τ : Sto) (h0 : 0 ≤ p) (h5 : p ≤ gN σ 153 6) (hF : Fr pTk σ τ) (h7 : gN τ 153 7 = p) (h10 : gN τ 153 10 = va) (h11 : gN τ 153 11 = wo) (hZ : Z = tokT (fun j => gN σ 154 j) (gN σ 153 6) p va wo) : RunA mX9_token (fun r u => r = none ∧ Fr pTk σ u ∧ TkIs u Z) 31 [(0, ar 153)] [] τ := by
  refine a_aload_n dX9_token_31 rfl rfl ?_
  refine a_aload_n dX9_token_32 rfl rfl ?_
  refine a_getI (J := 7) fX9_91 k153 rfl rfl dX9_token_33 ?_
  refine a_topI (y := p) h7 ?_
  refine a_putI (J := 8) fX9_101 k153 rfl rfl rfl dX9_token_36 ?_
  refine a_aload_n dX9_token_39 rfl rfl ?_
  refine a_cI (c := 153) (as := []) (rest := []) (t_here (sN τ 153 8 p) (by have h9 : gN (sN τ 153 8 p) 153 7 = p := (by rw [gN_sN, if_neg (by omega)]; exact h7); omega) (by rw [Tk6 (hF.sN (by unfold pTk; omega))]; omega)) mvX9_here lX9_97 k153 (by decide) rfl rfl rfl rfl (Nat.le_of_ble_eq_true rfl) (Nat.le_of_ble_eq_true rfl) (Nat.le_of_ble_eq_true rfl) dX9_token_40 ?_
  refine a_topI (y := hrF (fun j => gN σ 154 j) (gN σ 153 6) p) (here_eq (hF.sN (by unfold pTk; omega)) ((by rw [gN_sN, if_neg (by omega)]; exact h7))) ?_
  refine a_istore_n (ls' := [(1, ai (hrF (fun j => gN σ 154 j) (gN σ 153 6) p)), (0, ar 153)]) dX9_token_43 rfl (Nat.le_of_ble_eq_true rfl) rfl ?_
  refine a_iload_n dX9_token_44 rfl rfl ?_
  refine a_iconst dX9_token_45 ?_
  refine a_icmp_ne (tgt := 57) dX9_token_46 (by decide) (inR_of (by have := hr_rng hT p; omega) (by have := hr_rng hT p; omega)) (inR_of (by omega) (by omega)) (fun c46 => ?_) (fun c46 => ?_)
  · refine a_iload_n dX9_token_57 rfl rfl ?_
    refine a_sI (as := [ai (hrF (fun j => gN σ 154 j) (gN σ 153 6) p)]) (rest := []) (t_isSmall (sN τ 153 8 p) (hrF (fun j => gN σ 154 j) (gN σ 153 6) p) (inR_of (by have := hr_rng hT p; omega) (by have := hr_rng hT p; omega))) mvX9_isSmall lX9_107 rfl rfl rfl (Nat.le_of_ble_eq_true rfl) (Nat.le_of_ble_eq_true rfl) (Nat.le_of_ble_eq_true rfl) dX9_token_58 ?_
    refine a_ifb_eq (tgt := 160) dX9_token_61 (by decide) (fun c61 => ?_) (fun c61 => ?_)
    · refine a_iload_n dX9_token_160 rfl rfl ?_
      refine a_sI (as := [ai (hrF (fun j => gN σ 154 j) (gN σ 153 6) p)]) (rest := []) (t_isDigit (sN τ 153 8 p) (hrF (fun j => gN σ 154 j) (gN σ 153 6) p) (inR_of (by have := hr_rng hT p; omega) (by have := hr_rng hT p; omega))) mvX9_isDigit lX9_120 rfl rfl rfl (Nat.le_of_ble_eq_true rfl) (Nat.le_of_ble_eq_true rfl) (Nat.le_of_ble_eq_true rfl) dX9_token_161 ?_
      refine a_ifb_eq (tgt := 235) dX9_token_164 (by decide) (fun c164 => ?_) (fun c164 => ?_)
      · refine a_aload_n dX9_token_235 rfl rfl ?_
        refine a_iload_n dX9_token_236 rfl rfl ?_
        refine a_bipush (x := 59) dX9_token_237 (by decide) ?_
        refine a_icmp_ne (tgt := 246) dX9_token_239 (by decide) (inR_of (by have := hr_rng hT p; omega) (by have := hr_rng hT p; omega)) (inR_of (by omega) (by omega)) (fun c239 => ?_) (fun c239 => ?_)
        · refine a_iconst dX9_token_246 ?_
          refine a_putI (J := 9) fX9_104 k153 rfl rfl rfl dX9_token_247 ?_
          refine a_aload_n dX9_token_250 rfl rfl ?_
          refine a_dup dX9_token_251 rfl ?_
          refine a_getI (J := 7) fX9_91 k153 rfl rfl dX9_token_252 ?_
          refine a_topI (y := p) (by rw [gN_sN, if_neg (by omega)]; rw [gN_sN, if_neg (by omega)]; exact h7) ?_
          refine a_iconst dX9_token_255 ?_
          refine a_iadd dX9_token_256 ?_
          refine a_putI (J := 7) fX9_91 k153 rfl rfl rfl dX9_token_257 ?_
          exact a_vret rfl ⟨rfl, (((hF.sN (by unfold pTk; omega)).sN (by unfold pTk; omega)).sN (by unfold pTk; omega)), by rw [hZ]; unfold tokT TkIs; simp only [gN_sN]; have q7 := h7; have q10 := h10; have q11 := h11; have r1 := nrm_of (x := p) (inR_of (by omega) (by omega)); have r2 := nrm_of (x := p + 1) (inR_of (by omega) (by omega)); grind [nrm_2, nrm_3, nrm_4]⟩ dX9_token_260
        · refine a_iconst dX9_token_242 ?_
          refine a_goto (tgt := 247) dX9_token_243 (by decide) ?_
          refine a_putI (J := 9) fX9_104 k153 rfl rfl rfl dX9_token_247 ?_
          refine a_aload_n dX9_token_250 rfl rfl ?_
          refine a_dup dX9_token_251 rfl ?_
          refine a_getI (J := 7) fX9_91 k153 rfl rfl dX9_token_252 ?_
          refine a_topI (y := p) (by rw [gN_sN, if_neg (by omega)]; rw [gN_sN, if_neg (by omega)]; exact h7) ?_
          refine a_iconst dX9_token_255 ?_
          refine a_iadd dX9_token_256 ?_
          refine a_putI (J := 7) fX9_91 k153 rfl rfl rfl dX9_token_257 ?_
          exact a_vret rfl ⟨rfl, (((hF.sN (by unfold pTk; omega)).sN (by unfold pTk; omega)).sN (by unfold pTk; omega)), by rw [hZ]; unfold tokT TkIs; simp only [gN_sN]; have q7 := h7; have q10 := h10; have q11 := h11; have r1 := nrm_of (x := p) (inR_of (by omega) (by omega)); have r2 := nrm_of (x := p + 1) (inR_of (by omega) (by omega)); grind [nrm_2, nrm_3, nrm_4]⟩ dX9_token_260
      · refine a_aload_n dX9_token_167 rfl rfl ?_
        refine a_iconst dX9_token_168 ?_
        refine a_putI (J := 9) fX9_104 k153 rfl rfl rfl dX9_token_169 ?_
        refine a_aload_n dX9_token_172 rfl rfl ?_
        refine a_iconst dX9_token_173 ?_
        refine a_putI (J := 10) fX9_117 k153 rfl rfl rfl dX9_token_174 ?_
        exact a_keep (by simp) (t_tok_c σ hT hs0 hs1 Z (hrF (fun j => gN σ 154 j) (gN σ 153 6) p) p wo (gN σ 153 6 - p).toNat p 0 (sN (sN (sN τ 153 8 p) 153 9 1) 153 10 0) h0 (by omega) rfl (((hF.sN (by unfold pTk; omega)).sN (by unfold pTk; omega)).sN (by unfold pTk; omega)) (by rw [gN_sN, if_neg (by omega)]; rw [gN_sN, if_neg (by omega)]; rw [gN_sN, if_neg (by omega)]; exact h7) (by rw [gN_sN, if_neg (by omega), gN_sN, if_neg (by omega), gN_sN, if_pos ⟨rfl, rfl⟩, nrm_of (inR_of (by omega) (by omega))]) (by rw [gN_sN, if_neg (by omega), gN_sN, if_pos ⟨rfl, rfl⟩]; rfl) (by rw [gN_sN, if_pos ⟨rfl, rfl⟩]; rfl) (by rw [gN_sN, if_neg (by omega), gN_sN, if_neg (by omega), gN_sN, if_neg (by omega)]; exact h11) (by omega) (by omega) (by rw [hZ]; unfold tokT; rw [if_neg (by omega), if_neg (by assumption), if_pos (by assumption)]))
    · refine a_aload_n dX9_token_64 rfl rfl ?_
      refine a_iconst dX9_token_65 ?_
      refine a_putI (J := 11) fX9_111 k153 rfl rfl rfl dX9_token_66 ?_
      refine t_tok_b σ hT hs0 hs1 Z (hrF (fun j => gN σ 154 j) (gN σ 153 6) p) p h0 (spn (isSm (fun j => gN σ 154 j) (gN σ 153 6)) (gN σ 153 6 - p).toNat p) (wdF (fun j => gN σ 154 j) (gN σ 153 6) p (gN σ 153 6 - p).toNat p 0) (fun υ a1 a2 a3 a4 a5 a6 => ?_) (gN σ 153 6 - p).toNat p 0 (sN (sN τ 153 8 p) 153 11 0) (Int.le_refl _) (by omega) rfl ((hF.sN (by unfold pTk; omega)).sN (by unfold pTk; omega)) (by rw [gN_sN, if_neg (by omega)]; rw [gN_sN, if_neg (by omega)]; exact h7) (by rw [gN_sN, if_neg (by omega), gN_sN, if_pos ⟨rfl, rfl⟩, nrm_of (inR_of (by omega) (by omega))]) (by rw [gN_sN, if_pos ⟨rfl, rfl⟩]; rfl) (by unfold inR; omega) rfl rfl
      refine a_aload_n dX9_token_126 rfl rfl ?_
      refine a_aload_n dX9_token_127 rfl rfl ?_
      refine a_getI (J := 7) fX9_91 k153 rfl rfl dX9_token_128 ?_
      refine a_topI (y := (spn (isSm (fun j => gN σ 154 j) (gN σ 153 6)) (gN σ 153 6 - p).toNat p)) a2 ?_
      refine a_aload_n dX9_token_131 rfl rfl ?_
      refine a_getI (J := 8) fX9_101 k153 rfl rfl dX9_token_132 ?_
      refine a_topI (y := p) a3 ?_
      refine a_isub dX9_token_135 ?_
      refine a_bipush (x := 6) dX9_token_136 (by decide) ?_
      refine a_icmp_gt (tgt := 145) dX9_token_138 (by decide) (inR_of (by omega) (by omega)) (inR_of (by omega) (by omega)) (fun c138 => ?_) (fun c138 => ?_)
      · refine a_iconst dX9_token_145 ?_
        refine a_putI (J := 9) fX9_104 k153 rfl rfl rfl dX9_token_146 ?_
        refine a_aload_n dX9_token_149 rfl rfl ?_
        refine a_aload_n dX9_token_150 rfl rfl ?_
        refine a_cI (c := 153) (as := []) (rest := [ar 153]) (t_wordHere (sN υ 153 9 4) (by rw [gN_sN, if_neg (by omega), a3]; omega) (by rw [gN_sN, if_neg (by omega), gN_sN, if_neg (by omega), a2, a3]; omega) (by rw [gN_sN, if_neg (by omega), a2]; omega)) mvX9_wordHere lX9_114 k153 (by decide) rfl rfl rfl rfl (Nat.le_of_ble_eq_true rfl) (Nat.le_of_ble_eq_true rfl) (Nat.le_of_ble_eq_true rfl) dX9_token_151 ?_
        refine a_topI (y := whF (fun j => gN σ 154 j) p (spn (isSm (fun j => gN σ 154 j) (gN σ 153 6)) (gN σ 153 6 - p).toNat p)) (by rw [gN_sN, if_neg (by omega), gN_sN, if_neg (by omega), a2, a3, show (fun j => gN (sN υ 153 9 4) 154 j) = fun j => gN σ 154 j from funext (Tk154 (a1.sN (by unfold pTk; omega)))]) ?_
        refine a_putI (J := 10) fX9_117 k153 rfl rfl rfl dX9_token_154 ?_
        refine a_goto (tgt := 260) dX9_token_157 (by decide) ?_
        exact a_vret rfl ⟨rfl, ((a1.sN (by unfold pTk; omega)).sN (by unfold pTk; omega)), by rw [hZ]; unfold tokT; rw [if_neg (by omega), if_pos (by assumption)]; exact ⟨by rw [gN_sN, if_neg (by omega), gN_sN, if_neg (by omega)]; exact a2, by rw [gN_sN, if_neg (by omega), gN_sN, if_neg (by omega)]; exact a3, by rw [gN_sN, if_neg (by omega), gN_sN, if_pos ⟨rfl, rfl⟩]; grind [nrm_0, nrm_4], by rw [gN_sN, if_pos ⟨rfl, rfl⟩, nrm_of (wh_rng _ _ _)], by rw [gN_sN, if_neg (by omega), gN_sN, if_neg (by omega)]; exact a4⟩⟩ dX9_token_260
      · refine a_iconst dX9_token_141 ?_
        refine a_goto (tgt := 146) dX9_token_142 (by decide) ?_
        refine a_putI (J := 9) fX9_104 k153 rfl rfl rfl dX9_token_146 ?_
        refine a_aload_n dX9_token_149 rfl rfl ?_
        refine a_aload_n dX9_token_150 rfl rfl ?_
        refine a_cI (c := 153) (as := []) (rest := [ar 153]) (t_wordHere (sN υ 153 9 0) (by rw [gN_sN, if_neg (by omega), a3]; omega) (by rw [gN_sN, if_neg (by omega), gN_sN, if_neg (by omega), a2, a3]; omega) (by rw [gN_sN, if_neg (by omega), a2]; omega)) mvX9_wordHere lX9_114 k153 (by decide) rfl rfl rfl rfl (Nat.le_of_ble_eq_true rfl) (Nat.le_of_ble_eq_true rfl) (Nat.le_of_ble_eq_true rfl) dX9_token_151 ?_
        refine a_topI (y := whF (fun j => gN σ 154 j) p (spn (isSm (fun j => gN σ 154 j) (gN σ 153 6)) (gN σ 153 6 - p).toNat p)) (by rw [gN_sN, if_neg (by omega), gN_sN, if_neg (by omega), a2, a3, show (fun j => gN (sN υ 153 9 0) 154 j) = fun j => gN σ 154 j from funext (Tk154 (a1.sN (by unfold pTk; omega)))]) ?_
        refine a_putI (J := 10) fX9_117 k153 rfl rfl rfl dX9_token_154 ?_
        refine a_goto (tgt := 260) dX9_token_157 (by decide) ?_
        exact a_vret rfl ⟨rfl, ((a1.sN (by unfold pTk; omega)).sN (by unfold pTk; omega)), by rw [hZ]; unfold tokT; rw [if_neg (by omega), if_pos (by assumption)]; exact ⟨by rw [gN_sN, if_neg (by omega), gN_sN, if_neg (by omega)]; exact a2, by rw [gN_sN, if_neg (by omega), gN_sN, if_neg (by omega)]; exact a3, by rw [gN_sN, if_neg (by omega), gN_sN, if_pos ⟨rfl, rfl⟩]; grind [nrm_0, nrm_4], by rw [gN_sN, if_pos ⟨rfl, rfl⟩, nrm_of (wh_rng _ _ _)], by rw [gN_sN, if_neg (by omega), gN_sN, if_neg (by omega)]; exact a4⟩⟩ dX9_token_260
  · refine a_aload_n dX9_token_49 rfl rfl ?_
    refine a_iconst dX9_token_50 ?_
    refine a_putI (J := 9) fX9_104 k153 rfl rfl rfl dX9_token_51 ?_
    refine a_goto (tgt := 260) dX9_token_54 (by decide) ?_
    exact a_vret rfl ⟨rfl, ((hF.sN (by unfold pTk; omega)).sN (by unfold pTk; omega)), by rw [hZ]; unfold tokT TkIs; simp only [gN_sN]; have q7 := h7; have q10 := h10; have q11 := h11; have r1 := nrm_of (x := p) (inR_of (by omega) (by omega)); have r2 := nrm_of (x := p + 1) (inR_of (by omega) (by omega)); grind [nrm_2, nrm_3, nrm_4]⟩ dX9_token_260

set_option maxRecDepth 20000 in
theorem t_tok_a (σ : Sto) (hT : TpOK σ) (hs0 : 0 ≤ gN σ 153 6) (hs1 : gN σ 153 6 ≤ 900) (Z : Tk) (va wo : Int) : ∀ (n : Nat) (p : Int) (τ : Sto), 0 ≤ p → p ≤ gN σ 153 6 → n = (gN σ 153 6 - p).toNat → Fr pTk σ τ → gN τ 153 7 = p → gN τ 153 10 = va → gN τ 153 11 = wo → Z = tokT (fun j => gN σ 154 j) (gN σ 153 6) (spn (isBl (fun j => gN σ 154 j) (gN σ 153 6)) n p) va wo → RunA mX9_token (fun r u => r = none ∧ Fr pTk σ u ∧ TkIs u Z) 0 [(0, ar 153)] [] τ := by
  intro n
  induction n with
  | zero =>
    intro p τ h0 h5 hn hF h7 h10 h11 hZ
    refine a_aload_n dX9_token_0 rfl rfl ?_
    refine a_cI (c := 153) (as := []) (rest := []) (t_here τ (by have h9 : gN τ 153 7 = p := h7; omega) (by rw [Tk6 hF]; omega)) mvX9_here lX9_97 k153 (by decide) rfl rfl rfl rfl (Nat.le_of_ble_eq_true rfl) (Nat.le_of_ble_eq_true rfl) (Nat.le_of_ble_eq_true rfl) dX9_token_1 ?_
    refine a_topI (y := hrF (fun j => gN σ 154 j) (gN σ 153 6) p) (here_eq hF (h7)) ?_
    refine a_bipush (x := 10) dX9_token_4 (by decide) ?_
    refine a_icmp_eq (tgt := 18) dX9_token_6 (by decide) (inR_of (by have := hr_rng hT p; omega) (by have := hr_rng hT p; omega)) (inR_of (by omega) (by omega)) (fun c6 => ?_) (fun c6 => ?_)
    · exfalso; rw [hr_end (by omega)] at c6; omega
    · refine a_aload_n dX9_token_9 rfl rfl ?_
      refine a_cI (c := 153) (as := []) (rest := []) (t_here τ (by have h9 : gN τ 153 7 = p := h7; omega) (by rw [Tk6 hF]; omega)) mvX9_here lX9_97 k153 (by decide) rfl rfl rfl rfl (Nat.le_of_ble_eq_true rfl) (Nat.le_of_ble_eq_true rfl) (Nat.le_of_ble_eq_true rfl) dX9_token_10 ?_
      refine a_topI (y := hrF (fun j => gN σ 154 j) (gN σ 153 6) p) (here_eq hF (h7)) ?_
      refine a_bipush (x := 32) dX9_token_13 (by decide) ?_
      refine a_icmp_ne (tgt := 31) dX9_token_15 (by decide) (inR_of (by have := hr_rng hT p; omega) (by have := hr_rng hT p; omega)) (inR_of (by omega) (by omega)) (fun c15 => ?_) (fun c15 => ?_)
      · exact t_tok_t σ hT hs0 hs1 Z p va wo τ h0 h5 hF h7 h10 h11 (by rw [hZ]; rfl)
      · exfalso; rw [hr_end (by omega)] at c15; omega
  | succ n ih =>
    intro p τ h0 h5 hn hF h7 h10 h11 hZ
    refine a_aload_n dX9_token_0 rfl rfl ?_
    refine a_cI (c := 153) (as := []) (rest := []) (t_here τ (by have h9 : gN τ 153 7 = p := h7; omega) (by rw [Tk6 hF]; omega)) mvX9_here lX9_97 k153 (by decide) rfl rfl rfl rfl (Nat.le_of_ble_eq_true rfl) (Nat.le_of_ble_eq_true rfl) (Nat.le_of_ble_eq_true rfl) dX9_token_1 ?_
    refine a_topI (y := hrF (fun j => gN σ 154 j) (gN σ 153 6) p) (here_eq hF (h7)) ?_
    refine a_bipush (x := 10) dX9_token_4 (by decide) ?_
    refine a_icmp_eq (tgt := 18) dX9_token_6 (by decide) (inR_of (by have := hr_rng hT p; omega) (by have := hr_rng hT p; omega)) (inR_of (by omega) (by omega)) (fun c6 => ?_) (fun c6 => ?_)
    · have hlt : p < gN σ 153 6 := by omega
      refine a_aload_n dX9_token_18 rfl rfl ?_
      refine a_dup dX9_token_19 rfl ?_
      refine a_getI (J := 7) fX9_91 k153 rfl rfl dX9_token_20 ?_
      refine a_topI (y := p) h7 ?_
      refine a_iconst dX9_token_23 ?_
      refine a_iadd dX9_token_24 ?_
      refine a_putI (J := 7) fX9_91 k153 rfl rfl rfl dX9_token_25 ?_
      refine a_goto (tgt := 0) dX9_token_28 (by decide) ?_
      have hq : isBl (fun j => gN σ 154 j) (gN σ 153 6) p = true := by unfold isBl; exact decide_eq_true (by omega)
      refine a_keep (by simp) (ih (p + 1) (sN τ 153 7 (p + 1)) (by omega) (by omega) (by omega) (hF.sN (by unfold pTk; omega)) (by rw [gN_sN, if_pos ⟨rfl, rfl⟩, nrm_of (inR_of (by omega) (by omega))]) (by rw [gN_sN, if_neg (by omega)]; exact h10) (by rw [gN_sN, if_neg (by omega)]; exact h11) ?_)
      rw [hZ]; show tokT _ _ (if isBl _ _ _ = true then _ else _) _ _ = _; rw [if_pos hq]
    · refine a_aload_n dX9_token_9 rfl rfl ?_
      refine a_cI (c := 153) (as := []) (rest := []) (t_here τ (by have h9 : gN τ 153 7 = p := h7; omega) (by rw [Tk6 hF]; omega)) mvX9_here lX9_97 k153 (by decide) rfl rfl rfl rfl (Nat.le_of_ble_eq_true rfl) (Nat.le_of_ble_eq_true rfl) (Nat.le_of_ble_eq_true rfl) dX9_token_10 ?_
      refine a_topI (y := hrF (fun j => gN σ 154 j) (gN σ 153 6) p) (here_eq hF (h7)) ?_
      refine a_bipush (x := 32) dX9_token_13 (by decide) ?_
      refine a_icmp_ne (tgt := 31) dX9_token_15 (by decide) (inR_of (by have := hr_rng hT p; omega) (by have := hr_rng hT p; omega)) (inR_of (by omega) (by omega)) (fun c15 => ?_) (fun c15 => ?_)
      · have hq : isBl (fun j => gN σ 154 j) (gN σ 153 6) p = false := by unfold isBl; exact decide_eq_false (by omega)
        exact t_tok_t σ hT hs0 hs1 Z p va wo τ h0 h5 hF h7 h10 h11 (by rw [hZ]; show tokT _ _ (if isBl _ _ _ = true then _ else _) _ _ = _; rw [if_neg (by rw [hq]; decide)])
      · have hlt : p < gN σ 153 6 := by omega
        refine a_aload_n dX9_token_18 rfl rfl ?_
        refine a_dup dX9_token_19 rfl ?_
        refine a_getI (J := 7) fX9_91 k153 rfl rfl dX9_token_20 ?_
        refine a_topI (y := p) h7 ?_
        refine a_iconst dX9_token_23 ?_
        refine a_iadd dX9_token_24 ?_
        refine a_putI (J := 7) fX9_91 k153 rfl rfl rfl dX9_token_25 ?_
        refine a_goto (tgt := 0) dX9_token_28 (by decide) ?_
        have hq : isBl (fun j => gN σ 154 j) (gN σ 153 6) p = true := by unfold isBl; exact decide_eq_true (by omega)
        refine a_keep (by simp) (ih (p + 1) (sN τ 153 7 (p + 1)) (by omega) (by omega) (by omega) (hF.sN (by unfold pTk; omega)) (by rw [gN_sN, if_pos ⟨rfl, rfl⟩, nrm_of (inR_of (by omega) (by omega))]) (by rw [gN_sN, if_neg (by omega)]; exact h10) (by rw [gN_sN, if_neg (by omega)]; exact h11) ?_)
        rw [hZ]; show tokT _ _ (if isBl _ _ _ = true then _ else _) _ _ = _; rw [if_pos hq]

set_option maxRecDepth 20000 in
theorem t_token (σ : Sto) (hT : TpOK σ) (hs0 : 0 ≤ gN σ 153 6) (hs1 : gN σ 153 6 ≤ 900) (h70 : 0 ≤ gN σ 153 7) (h71 : gN σ 153 7 ≤ gN σ 153 6) : MetA mX9_token [ar 153] σ (fun r u => r = none ∧ Fr pTk σ u ∧ TkIs u (tokF (fun j => gN σ 154 j) (gN σ 153 6) (gN σ 153 7, gN σ 153 8, gN σ 153 9, gN σ 153 10, gN σ 153 11))) := by
  refine a_entry (by decide) (Nat.le_of_ble_eq_true rfl) ?_
  exact t_tok_a σ hT hs0 hs1 _ _ _ _ (gN σ 153 7) σ h70 h71 rfl Fr.rfl rfl rfl rfl rfl

