theorem hr_rng {σ : Sto} (hT : TpOK σ) (p : Int) : -1 ≤ hrF (fun j => gN σ 154 j) (gN σ 153 6) p ∧ hrF (fun j => gN σ 154 j) (gN σ 153 6) p ≤ 255 := by
  have := hT p
  unfold hrF
  split <;> omega
theorem hr_end {σ : Sto} {p : Int} (h : gN σ 153 6 ≤ p) : hrF (fun j => gN σ 154 j) (gN σ 153 6) p = -1 := by unfold hrF; rw [if_neg (by omega)]
theorem Tk6 {σ τ : Sto} (h : Fr pTk σ τ) : gN τ 153 6 = gN σ 153 6 := h.1 153 6 (by unfold pTk; omega)
theorem Tk154 {σ τ : Sto} (h : Fr pTk σ τ) (j : Int) : gN τ 154 j = gN σ 154 j := h.1 154 j (by unfold pTk; omega)
theorem here_eq {σ τ : Sto} (h : Fr pTk σ τ) {p : Int} (h7 : gN τ 153 7 = p) : (if gN τ 153 7 < gN τ 153 6 then gN τ 154 (gN τ 153 7) else -1) = hrF (fun j => gN σ 154 j) (gN σ 153 6) p := by
  rw [h7, Tk6 h, Tk154 h]
  rfl

set_option maxRecDepth 20000 in
theorem t_tok_c (σ : Sto) (hT : TpOK σ) (hs0 : 0 ≤ gN σ 153 6) (hs1 : gN σ 153 6 ≤ 900) (Z : Tk) (c pl wo : Int) : ∀ (n : Nat) (p : Int) (v : Int) (τ : Sto), 0 ≤ p → p ≤ gN σ 153 6 → n = (gN σ 153 6 - p).toNat → Fr pTk σ τ → gN τ 153 7 = p → gN τ 153 8 = pl → gN τ 153 9 = 1 → gN τ 153 10 = v → gN τ 153 11 = wo → 0 ≤ v → v ≤ 1000000 → Z = (spn (isDg (fun j => gN σ 154 j) (gN σ 153 6)) n p, pl, 1, nmF (fun j => gN σ 154 j) (gN σ 153 6) n p v, wo) → RunA mX9_token (fun r u => r = none ∧ Fr pTk σ u ∧ TkIs u Z) 177 [(1, ai c), (0, ar 153)] [] τ := by
  intro n
  induction n with
  | zero =>
    intro p v τ h0 h5 hn hF h7 h8 h9 h10 h11 hv0 hv1 hZ
    refine a_aload_n dX9_token_177 rfl rfl ?_
    refine a_cI (c := 153) (as := []) (rest := []) (t_here τ (by rw [h7]; omega) (by rw [Tk6 hF]; omega)) mvX9_here lX9_97 k153 (by decide) rfl rfl rfl rfl (Nat.le_of_ble_eq_true rfl) (Nat.le_of_ble_eq_true rfl) (Nat.le_of_ble_eq_true rfl) dX9_token_178 ?_
    refine a_topI (y := hrF (fun j => gN σ 154 j) (gN σ 153 6) p) (here_eq hF (h7)) ?_
    refine a_sI (as := [ai (hrF (fun j => gN σ 154 j) (gN σ 153 6) p)]) (rest := []) (t_isDigit τ (hrF (fun j => gN σ 154 j) (gN σ 153 6) p) (inR_of (by have := hr_rng hT p; omega) (by have := hr_rng hT p; omega))) mvX9_isDigit lX9_120 rfl rfl rfl (Nat.le_of_ble_eq_true rfl) (Nat.le_of_ble_eq_true rfl) (Nat.le_of_ble_eq_true rfl) dX9_token_181 ?_
    refine a_ifb_eq (tgt := 260) dX9_token_184 (by decide) (fun c184 => ?_) (fun c184 => ?_)
    · exact a_vret rfl ⟨rfl, hF, by rw [hZ]; exact ⟨h7, h8, h9, h10, h11⟩⟩ dX9_token_260
    · exfalso; rw [hr_end (by omega)] at c184; omega
  | succ n ih =>
    intro p v τ h0 h5 hn hF h7 h8 h9 h10 h11 hv0 hv1 hZ
    refine a_aload_n dX9_token_177 rfl rfl ?_
    refine a_cI (c := 153) (as := []) (rest := []) (t_here τ (by rw [h7]; omega) (by rw [Tk6 hF]; omega)) mvX9_here lX9_97 k153 (by decide) rfl rfl rfl rfl (Nat.le_of_ble_eq_true rfl) (Nat.le_of_ble_eq_true rfl) (Nat.le_of_ble_eq_true rfl) dX9_token_178 ?_
    refine a_topI (y := hrF (fun j => gN σ 154 j) (gN σ 153 6) p) (here_eq hF (h7)) ?_
    refine a_sI (as := [ai (hrF (fun j => gN σ 154 j) (gN σ 153 6) p)]) (rest := []) (t_isDigit τ (hrF (fun j => gN σ 154 j) (gN σ 153 6) p) (inR_of (by have := hr_rng hT p; omega) (by have := hr_rng hT p; omega))) mvX9_isDigit lX9_120 rfl rfl rfl (Nat.le_of_ble_eq_true rfl) (Nat.le_of_ble_eq_true rfl) (Nat.le_of_ble_eq_true rfl) dX9_token_181 ?_
    refine a_ifb_eq (tgt := 260) dX9_token_184 (by decide) (fun c184 => ?_) (fun c184 => ?_)
    · have hq : isDg (fun j => gN σ 154 j) (gN σ 153 6) p = false := by (unfold isDg; exact decide_eq_false (by assumption))
      exact a_vret rfl ⟨rfl, hF, by rw [hZ]; unfold TkIs; show _ ∧ _ ∧ _ ∧ _ ∧ _; refine ⟨?_, h8, h9, ?_, h11⟩; show _ = (if isDg _ _ _ = true then _ else _); rw [if_neg (by rw [hq]; decide)]; exact h7; show _ = (if isDg _ _ _ = true then _ else _); rw [if_neg (by rw [hq]; decide)]; exact h10⟩ dX9_token_260
    · have hd : dig (hrF (fun j => gN σ 154 j) (gN σ 153 6) p) := by assumption
      refine a_aload_n dX9_token_187 rfl rfl ?_
      refine a_aload_n dX9_token_188 rfl rfl ?_
      refine a_getI (J := 10) fX9_117 k153 rfl rfl dX9_token_189 ?_
      refine a_topI (y := v) h10 ?_
      refine a_ldc (x := 99999) cX9_123 (by decide) dX9_token_192 ?_
      refine a_icmp_le (tgt := 204) dX9_token_194 (by decide) (inR_of (by omega) (by omega)) (inR_of (by omega) (by omega)) (fun c194 => ?_) (fun c194 => ?_)
      · refine a_bipush (x := 10) dX9_token_204 (by decide) ?_
        refine a_aload_n dX9_token_206 rfl rfl ?_
        refine a_getI (J := 10) fX9_117 k153 rfl rfl dX9_token_207 ?_
        refine a_topI (y := v) h10 ?_
        refine a_imul dX9_token_210 ?_
        refine a_aload_n dX9_token_211 rfl rfl ?_
        refine a_cI (c := 153) (as := []) (rest := [ai (10 * v), ar 153]) (t_here τ (by rw [h7]; omega) (by rw [Tk6 hF]; omega)) mvX9_here lX9_97 k153 (by decide) rfl rfl rfl rfl (Nat.le_of_ble_eq_true rfl) (Nat.le_of_ble_eq_true rfl) (Nat.le_of_ble_eq_true rfl) dX9_token_212 ?_
        refine a_topI (y := hrF (fun j => gN σ 154 j) (gN σ 153 6) p) (here_eq hF (h7)) ?_
        refine a_iadd dX9_token_215 ?_
        refine a_bipush (x := 48) dX9_token_216 (by decide) ?_
        refine a_isub dX9_token_218 ?_
        refine a_putI (J := 10) fX9_117 k153 rfl rfl rfl dX9_token_219 ?_
        refine a_aload_n dX9_token_222 rfl rfl ?_
        refine a_dup dX9_token_223 rfl ?_
        refine a_getI (J := 7) fX9_91 k153 rfl rfl dX9_token_224 ?_
        refine a_topI (y := p) (by rw [gN_sN, if_neg (by omega)]; exact h7) ?_
        refine a_iconst dX9_token_227 ?_
        refine a_iadd dX9_token_228 ?_
        refine a_putI (J := 7) fX9_91 k153 rfl rfl rfl dX9_token_229 ?_
        refine a_goto (tgt := 177) dX9_token_232 (by decide) ?_
        have hq : isDg (fun j => gN σ 154 j) (gN σ 153 6) p = true := by unfold isDg; exact decide_eq_true (by assumption)
        refine a_keep (by simp) (ih (p + 1) _ (sN (sN τ 153 10 ((10 * v + (hrF (fun j => gN σ 154 j) (gN σ 153 6) p)) - 48)) 153 7 (p + 1)) (by omega) (by omega) (by omega) ((hF.sN (by unfold pTk; omega)).sN (by unfold pTk; omega)) (by rw [gN_sN, if_pos ⟨rfl, rfl⟩, nrm_of (inR_of (by omega) (by omega))]) (by rw [gN_sN, if_neg (by omega), gN_sN, if_neg (by omega)]; exact h8) (by rw [gN_sN, if_neg (by omega), gN_sN, if_neg (by omega)]; exact h9) (by rw [gN_sN, if_neg (by omega), gN_sN, if_pos ⟨rfl, rfl⟩, nrm_of (inR_of (by omega) (by omega))]) (by rw [gN_sN, if_neg (by omega), gN_sN, if_neg (by omega)]; exact h11) (by omega) (by omega) ?_)
        rw [hZ]
        show (if isDg _ _ _ = true then _ else _, _, _, (if isDg _ _ _ = true then _ else _), _) = _
        rw [if_pos hq, if_pos hq]
        grind
      · refine a_aload_n dX9_token_197 rfl rfl ?_
        refine a_getI (J := 10) fX9_117 k153 rfl rfl dX9_token_198 ?_
        refine a_topI (y := v) h10 ?_
        refine a_goto (tgt := 219) dX9_token_201 (by decide) ?_
        refine a_putI (J := 10) fX9_117 k153 rfl rfl rfl dX9_token_219 ?_
        refine a_aload_n dX9_token_222 rfl rfl ?_
        refine a_dup dX9_token_223 rfl ?_
        refine a_getI (J := 7) fX9_91 k153 rfl rfl dX9_token_224 ?_
        refine a_topI (y := p) (by rw [gN_sN, if_neg (by omega)]; exact h7) ?_
        refine a_iconst dX9_token_227 ?_
        refine a_iadd dX9_token_228 ?_
        refine a_putI (J := 7) fX9_91 k153 rfl rfl rfl dX9_token_229 ?_
        refine a_goto (tgt := 177) dX9_token_232 (by decide) ?_
        have hq : isDg (fun j => gN σ 154 j) (gN σ 153 6) p = true := by unfold isDg; exact decide_eq_true (by assumption)
        refine a_keep (by simp) (ih (p + 1) _ (sN (sN τ 153 10 v) 153 7 (p + 1)) (by omega) (by omega) (by omega) ((hF.sN (by unfold pTk; omega)).sN (by unfold pTk; omega)) (by rw [gN_sN, if_pos ⟨rfl, rfl⟩, nrm_of (inR_of (by omega) (by omega))]) (by rw [gN_sN, if_neg (by omega), gN_sN, if_neg (by omega)]; exact h8) (by rw [gN_sN, if_neg (by omega), gN_sN, if_neg (by omega)]; exact h9) (by rw [gN_sN, if_neg (by omega), gN_sN, if_pos ⟨rfl, rfl⟩, nrm_of (inR_of (by omega) (by omega))]) (by rw [gN_sN, if_neg (by omega), gN_sN, if_neg (by omega)]; exact h11) (by omega) (by omega) ?_)
        rw [hZ]
        show (if isDg _ _ _ = true then _ else _, _, _, (if isDg _ _ _ = true then _ else _), _) = _
        rw [if_pos hq, if_pos hq]
        grind

