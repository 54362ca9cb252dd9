def lkI1 (σ : Sto) (trip later gone : Int) (i : Int) (τ : Sto) : Prop := Fr pLk σ τ ∧ TOK τ ∧ (∀ j : Int, 0 ≤ j → j < i → gN τ 161 j = lkL σ trip later j ∧ gN τ 162 j = lkC σ trip later j) ∧ gL τ 153 23 = itr (lkOf σ trip gone) i.toNat 0 (gL σ 153 17)
def lkI2 (σ : Sto) (trip later gone : Int) (i : Int) (τ : Sto) : Prop := Fr pLk σ τ ∧ TOK τ ∧ (∀ j : Int, 0 ≤ j → j < gN σ 155 3 → gN τ 161 j = lkL σ trip later j ∧ gN τ 162 j = lkC σ trip later j) ∧ gL τ 153 23 = lkO σ trip gone ∧ ∀ j : Int, 0 ≤ j → j < i → gL τ 163 j = lkH σ trip later gone j
theorem Fr.W {p : Nat → Int → Prop} {σ τ : Sto} (h : Fr p σ τ) (h1 : ∀ j, ¬ p 155 j) (h2 : ∀ j, ¬ p 158 j) (hW : WOK σ) : WOK τ := hW.of (fun j => h.1 155 j (h1 j)) (fun j => h.1 158 j (h2 j))
theorem Lk155 {σ τ : Sto} (h : Fr pLk σ τ) (j : Int) : gN τ 155 j = gN σ 155 j := h.1 155 j (by unfold pLk; omega)
theorem Lk158 {σ τ : Sto} (h : Fr pLk σ τ) (j : Int) : gN τ 158 j = gN σ 158 j := h.1 158 j (by unfold pLk; omega)
theorem Lk17 {σ τ : Sto} (h : Fr pLk σ τ) : gL τ 153 17 = gL σ 153 17 := h.2.1 153 17 (by unfold pLk; omega)
theorem btw_eq {σ τ : Sto} (h : ∀ j, gN τ 155 j = gN σ 155 j) (i k : Int) : btw τ i k = btw σ i k := by unfold btw; simp only [h]

set_option maxRecDepth 20000 in
theorem t_looks_c (σ : Sto) (hW : WOK σ) (trip later gone : Int) (htr : inR trip) (hl0 : -60 ≤ later) (hl1 : later ≤ 240) (hg : gone = 0 ∨ gone = 1) (i : Int) (hi0 : 0 ≤ i) (hi1 : i < gN σ 155 3) (hx : ∀ τ : Sto, lkI2 σ trip later gone i τ → gL τ 163 i = lkH σ trip later gone i → RunA mX9_looks (fun r u => r = none ∧ Lkd σ u trip later gone) 206 [(4, ai i), (0, ar 153), (1, ai trip), (2, ai later), (3, ai gone)] [] τ) : ∀ (n : Nat) (k : Int) (τ : Sto), 0 ≤ k → k ≤ 60 → n = (gN σ 155 3 - k).toNat → lkI2 σ trip later gone i τ → lkH σ trip later gone i = itr (lkHf σ (lkL σ trip later) (lkC σ trip later) (lkO σ trip gone) i) n k (gL τ 163 i) → RunA mX9_looks (fun r u => r = none ∧ Lkd σ u trip later gone) 137 [(5, ai k), (4, ai i), (0, ar 153), (1, ai trip), (2, ai later), (3, ai gone)] [] τ := by
  have hR := hW.1
  intro n
  induction n with
  | zero =>
    intro k τ h0 h60 hn hI hh
    have eo := hI.2.2.2.1
    have hWt := hI.1.W (by unfold pLk; omega) (by unfold pLk; omega) hW
    have r3 := Lk155 hI.1 3
    refine a_iload dX9_looks_137 rfl ?_
    refine a_aload_n dX9_looks_139 rfl rfl ?_
    refine a_cI (c := 153) (as := []) (rest := [ai k]) (t_rides τ  ) mvX9_rides lX9_198 k153 (by decide) rfl rfl rfl rfl (Nat.le_of_ble_eq_true rfl) (Nat.le_of_ble_eq_true rfl) (Nat.le_of_ble_eq_true rfl) dX9_looks_140 ?_
    refine a_icmp_ge (tgt := 206) dX9_looks_143 (by decide) (inR_of (by omega) (by omega)) (inR_gN _ _ _) (fun c143 => ?_) (fun c143 => ?_)
    · exact a_keep (by simp) (hx τ hI (by rw [hh]; rfl))
    · exfalso; omega
  | succ n ih =>
    intro k τ h0 h60 hn hI hh
    have eo := hI.2.2.2.1
    have hWt := hI.1.W (by unfold pLk; omega) (by unfold pLk; omega) hW
    have r3 := Lk155 hI.1 3
    refine a_iload dX9_looks_137 rfl ?_
    refine a_aload_n dX9_looks_139 rfl rfl ?_
    refine a_cI (c := 153) (as := []) (rest := [ai k]) (t_rides τ  ) mvX9_rides lX9_198 k153 (by decide) rfl rfl rfl rfl (Nat.le_of_ble_eq_true rfl) (Nat.le_of_ble_eq_true rfl) (Nat.le_of_ble_eq_true rfl) dX9_looks_140 ?_
    refine a_icmp_ge (tgt := 206) dX9_looks_143 (by decide) (inR_of (by omega) (by omega)) (inR_gN _ _ _) (fun c143 => ?_) (fun c143 => ?_)
    · exfalso; omega
    · refine a_aload_n dX9_looks_146 rfl rfl ?_
      refine a_getL (J := 23) fX9_243 k153 rfl rfl dX9_looks_147 ?_
      refine a_iload dX9_looks_150 rfl ?_
      refine a_lshr dX9_looks_152 ?_
      refine a_lconst (v := 1) dX9_looks_153 rfl ?_
      refine a_land dX9_looks_154 ?_
      refine a_lconst (v := 0) dX9_looks_155 rfl ?_
      refine a_lcmp_ne (tgt := 200) dX9_looks_156 dX9_looks_157 (by decide) (fun c156 => ?_) (fun c156 => ?_)
      · refine a_iinc (y := k + 1) (ls' := [(5, ai (k + 1)), (4, ai i), (0, ar 153), (1, ai trip), (2, ai later), (3, ai gone)]) dX9_looks_200 rfl rfl (Nat.le_of_ble_eq_true rfl) rfl ?_
        refine a_goto (tgt := 137) dX9_looks_203 (by decide) ?_
        have e : lkHf σ (lkL σ trip later) (lkC σ trip later) (lkO σ trip gone) i k (gL τ 163 i) = gL τ 163 i := by unfold lkHf; grind
        exact a_keep (by simp) (ih (k + 1) τ (by omega) (by omega) (by omega) hI (by rw [hh, itr_s, e]))
      · have bk := hI.2.2.1 k (by omega) (by omega)
        have bi := hI.2.2.1 i (by omega) (by omega)
        have rk := lkL_rng hW (trip := trip) (i := k) (by omega) (by omega) hl0 hl1
        have ri := lkL_rng hW (trip := trip) (i := i) (by omega) (by omega) hl0 hl1
        have rb := btw_rng hWt (i := i) (k := k) (by omega) (by omega) (by omega) (by omega)
        have eb := btw_eq (Lk155 hI.1) i k
        refine a_aload_n dX9_looks_160 rfl rfl ?_
        refine a_getF (d := 161) fX9_36 k153 rfl r153_21 dX9_looks_161 ?_
        refine a_iload dX9_looks_164 rfl ?_
        refine a_ild k161 n161 (by omega) (by omega) dX9_looks_166 ?_
        refine a_aload_n dX9_looks_167 rfl rfl ?_
        refine a_getF (d := 162) fX9_39 k153 rfl r153_22 dX9_looks_168 ?_
        refine a_iload dX9_looks_171 rfl ?_
        refine a_ild k162 n162 (by omega) (by omega) dX9_looks_173 ?_
        refine a_isub dX9_looks_174 ?_
        refine a_aload_n dX9_looks_175 rfl rfl ?_
        refine a_iload dX9_looks_176 rfl ?_
        refine a_iload dX9_looks_178 rfl ?_
        refine a_cI (c := 153) (as := [ai i, ai k]) (rest := [ai (gN τ 161 k - (gN τ 162 i))]) (t_btw τ i k hWt (by omega) (by omega) (by omega) (by omega)) mvX9_between lX9_246 k153 (by decide) rfl rfl rfl rfl (Nat.le_of_ble_eq_true rfl) (Nat.le_of_ble_eq_true rfl) (Nat.le_of_ble_eq_true rfl) dX9_looks_180 ?_
        refine a_icmp_lt (tgt := 200) dX9_looks_183 (by decide) (inR_of (by omega) (by omega)) (inR_of (by omega) (by omega)) (fun c183 => ?_) (fun c183 => ?_)
        · refine a_iinc (y := k + 1) (ls' := [(5, ai (k + 1)), (4, ai i), (0, ar 153), (1, ai trip), (2, ai later), (3, ai gone)]) dX9_looks_200 rfl rfl (Nat.le_of_ble_eq_true rfl) rfl ?_
          refine a_goto (tgt := 137) dX9_looks_203 (by decide) ?_
          have e : lkHf σ (lkL σ trip later) (lkC σ trip later) (lkO σ trip gone) i k (gL τ 163 i) = gL τ 163 i := by unfold lkHf; grind
          exact a_keep (by simp) (ih (k + 1) τ (by omega) (by omega) (by omega) hI (by rw [hh, itr_s, e]))
        · refine a_aload_n dX9_looks_186 rfl rfl ?_
          refine a_getF (d := 163) fX9_42 k153 rfl r153_24 dX9_looks_187 ?_
          refine a_iload dX9_looks_190 rfl ?_
          refine a_dup2 dX9_looks_192 rfl rfl ?_
          refine a_lld k163 n163 (by omega) (by omega) dX9_looks_193 ?_
          refine a_lconst (v := 1) dX9_looks_194 rfl ?_
          refine a_iload dX9_looks_195 rfl ?_
          refine a_lshl dX9_looks_197 ?_
          refine a_lor dX9_looks_198 ?_
          refine a_lst k163 n163 (by omega) (by omega) dX9_looks_199 ?_
          refine a_iinc (y := k + 1) (ls' := [(5, ai (k + 1)), (4, ai i), (0, ar 153), (1, ai trip), (2, ai later), (3, ai gone)]) dX9_looks_200 rfl rfl (Nat.le_of_ble_eq_true rfl) rfl ?_
          refine a_goto (tgt := 137) dX9_looks_203 (by decide) ?_
          have e : lkHf σ (lkL σ trip later) (lkC σ trip later) (lkO σ trip gone) i k (gL τ 163 i) = gL τ 163 i ||| shlL 1 k := by unfold lkHf; grind
          have hI2 : lkI2 σ trip later gone i (sL τ 163 i ((gL τ 163 i) ||| (shlL 1 k))) := ⟨hI.1.sL (by unfold pLk; omega), hI.2.1, hI.2.2.1, by rw [gL_sL, if_neg (by omega)]; exact hI.2.2.2.1, fun j h0 h1 => by rw [gL_sL, if_neg (by omega)]; exact hI.2.2.2.2 j h0 h1⟩
          exact a_keep (by simp) (ih (k + 1) (sL τ 163 i ((gL τ 163 i) ||| (shlL 1 k))) (by omega) (by omega) (by omega) hI2 (by rw [gL_sL, if_pos ⟨rfl, rfl⟩, ← e, hh, itr_s]))

set_option maxRecDepth 20000 in
theorem t_looks_b (σ : Sto) (hW : WOK σ) (trip later gone : Int) (htr : inR trip) (hl0 : -60 ≤ later) (hl1 : later ≤ 240) (hg : gone = 0 ∨ gone = 1) : ∀ (n : Nat) (i : Int) (τ : Sto), 0 ≤ i → i ≤ 60 → n = (gN σ 155 3 - i).toNat → lkI2 σ trip later gone i τ → RunA mX9_looks (fun r u => r = none ∧ Lkd σ u trip later gone) 117 [(4, ai i), (0, ar 153), (1, ai trip), (2, ai later), (3, ai gone)] [] τ := by
  have hR := hW.1
  intro n
  induction n with
  | zero =>
    intro i τ h0 h60 hn hI
    have r3 := Lk155 hI.1 3
    refine a_iload dX9_looks_117 rfl ?_
    refine a_aload_n dX9_looks_119 rfl rfl ?_
    refine a_cI (c := 153) (as := []) (rest := [ai i]) (t_rides τ  ) mvX9_rides lX9_198 k153 (by decide) rfl rfl rfl rfl (Nat.le_of_ble_eq_true rfl) (Nat.le_of_ble_eq_true rfl) (Nat.le_of_ble_eq_true rfl) dX9_looks_120 ?_
    refine a_icmp_ge (tgt := 212) dX9_looks_123 (by decide) (inR_of (by omega) (by omega)) (inR_gN _ _ _) (fun c123 => ?_) (fun c123 => ?_)
    · exact a_vret rfl ⟨rfl, hI.1, hI.2.1, fun j q0 q1 => ⟨(hI.2.2.1 j q0 q1).1, (hI.2.2.1 j q0 q1).2, hI.2.2.2.2 j q0 (by omega)⟩, hI.2.2.2.1⟩ dX9_looks_212
    · exfalso; omega
  | succ n ih =>
    intro i τ h0 h60 hn hI
    have r3 := Lk155 hI.1 3
    refine a_iload dX9_looks_117 rfl ?_
    refine a_aload_n dX9_looks_119 rfl rfl ?_
    refine a_cI (c := 153) (as := []) (rest := [ai i]) (t_rides τ  ) mvX9_rides lX9_198 k153 (by decide) rfl rfl rfl rfl (Nat.le_of_ble_eq_true rfl) (Nat.le_of_ble_eq_true rfl) (Nat.le_of_ble_eq_true rfl) dX9_looks_120 ?_
    refine a_icmp_ge (tgt := 212) dX9_looks_123 (by decide) (inR_of (by omega) (by omega)) (inR_gN _ _ _) (fun c123 => ?_) (fun c123 => ?_)
    · exfalso; omega
    · refine a_aload_n dX9_looks_126 rfl rfl ?_
      refine a_getF (d := 163) fX9_42 k153 rfl r153_24 dX9_looks_127 ?_
      refine a_iload dX9_looks_130 rfl ?_
      refine a_lconst (v := 0) dX9_looks_132 rfl ?_
      refine a_lst k163 n163 (by omega) (by omega) dX9_looks_133 ?_
      refine a_iconst dX9_looks_134 ?_
      refine a_istore (ls' := [(5, ai 0), (4, ai i), (0, ar 153), (1, ai trip), (2, ai later), (3, ai gone)]) dX9_looks_135 (Nat.le_of_ble_eq_true rfl) rfl ?_
      refine a_keep (ls' := [(5, ai 0), (4, ai i), (0, ar 153), (1, ai trip), (2, ai later), (3, ai gone)]) (by simp) ?_
      refine t_looks_c σ hW trip later gone htr hl0 hl1 hg i (by omega) (by omega) (fun υ hυ hv => ?_) (gN σ 155 3).toNat 0 (sL τ 163 i 0) (by omega) (by omega) (by omega) ?_ ?_
      · refine a_iinc (y := i + 1) (ls' := [(4, ai (i + 1)), (0, ar 153), (1, ai trip), (2, ai later), (3, ai gone)]) dX9_looks_206 rfl rfl (Nat.le_of_ble_eq_true rfl) rfl ?_
        refine a_goto (tgt := 117) dX9_looks_209 (by decide) ?_
        refine ih (i + 1) υ (by omega) (by omega) (by omega) ⟨hυ.1, hυ.2.1, hυ.2.2.1, hυ.2.2.2.1, fun j q0 q1 => ?_⟩
        rcases Int.lt_or_le j i with q | q
        · exact hυ.2.2.2.2 j q0 q
        · rw [show j = i by omega]; exact hv
      · exact ⟨hI.1.sL (by unfold pLk; omega), hI.2.1, hI.2.2.1, by rw [gL_sL, if_neg (by omega)]; exact hI.2.2.2.1, fun j q0 q1 => by rw [gL_sL, if_neg (by omega)]; exact hI.2.2.2.2 j q0 q1⟩
      · rw [gL_sL, if_pos ⟨rfl, rfl⟩]; rfl

set_option maxRecDepth 20000 in
theorem t_looks_a (σ : Sto) (hW : WOK σ) (trip later gone : Int) (htr : inR trip) (hl0 : -60 ≤ later) (hl1 : later ≤ 240) (hg : gone = 0 ∨ gone = 1) : ∀ (n : Nat) (i : Int) (τ : Sto), 0 ≤ i → i ≤ gN σ 155 3 → n = (gN σ 155 3 - i).toNat → lkI1 σ trip later gone i τ → RunA mX9_looks (fun r u => r = none ∧ Lkd σ u trip later gone) 11 [(4, ai i), (0, ar 153), (1, ai trip), (2, ai later), (3, ai gone)] [] τ := by
  have hR := hW.1
  intro n
  induction n with
  | zero =>
    intro i τ h0 h60 hn hI
    have hWt := hI.1.W (by unfold pLk; omega) (by unfold pLk; omega) hW
    have r3 := Lk155 hI.1 3
    refine a_iload dX9_looks_11 rfl ?_
    refine a_aload_n dX9_looks_13 rfl rfl ?_
    refine a_cI (c := 153) (as := []) (rest := [ai i]) (t_rides τ  ) mvX9_rides lX9_198 k153 (by decide) rfl rfl rfl rfl (Nat.le_of_ble_eq_true rfl) (Nat.le_of_ble_eq_true rfl) (Nat.le_of_ble_eq_true rfl) dX9_looks_14 ?_
    refine a_icmp_ge (tgt := 114) dX9_looks_17 (by decide) (inR_of (by omega) (by omega)) (inR_gN _ _ _) (fun c17 => ?_) (fun c17 => ?_)
    · refine a_iconst dX9_looks_114 ?_
      refine a_istore (ls' := [(4, ai 0), (0, ar 153), (1, ai trip), (2, ai later), (3, ai gone)]) dX9_looks_115 (Nat.le_of_ble_eq_true rfl) rfl ?_
      exact a_keep (by simp) (t_looks_b σ hW trip later gone htr hl0 hl1 hg (gN σ 155 3).toNat 0 τ (by omega) (by omega) (by omega) ⟨hI.1, hI.2.1, fun j q0 q1 => hI.2.2.1 j q0 (by omega), by rw [hI.2.2.2]; unfold lkO; rw [show gN σ 155 3 = i by omega], fun j q0 q1 => by omega⟩)
    · exfalso; omega
  | succ n ih =>
    intro i τ h0 h60 hn hI
    have hWt := hI.1.W (by unfold pLk; omega) (by unfold pLk; omega) hW
    have r3 := Lk155 hI.1 3
    refine a_iload dX9_looks_11 rfl ?_
    refine a_aload_n dX9_looks_13 rfl rfl ?_
    refine a_cI (c := 153) (as := []) (rest := [ai i]) (t_rides τ  ) mvX9_rides lX9_198 k153 (by decide) rfl rfl rfl rfl (Nat.le_of_ble_eq_true rfl) (Nat.le_of_ble_eq_true rfl) (Nat.le_of_ble_eq_true rfl) dX9_looks_14 ?_
    refine a_icmp_ge (tgt := 114) dX9_looks_17 (by decide) (inR_of (by omega) (by omega)) (inR_gN _ _ _) (fun c17 => ?_) (fun c17 => ?_)
    · exfalso; omega
    · have b := hW.2.2.2.1 i (by omega) (by omega)
      have b2 := hW.2.2.2.2.2.2 i (by omega) (by omega)
      have e0 := Lk155 hI.1 (115 + 5 * i + 0)
      have e3 := Lk155 hI.1 (115 + 5 * i + 3)
      have e4 := Lk155 hI.1 (115 + 5 * i + 4)
      have es := Lk158 hI.1 i
      have rl := lkL_rng hW (trip := trip) (i := i) (by omega) (by omega) hl0 hl1
      refine a_aload_n dX9_looks_20 rfl rfl ?_
      refine a_getF (d := 158) fX9_26 k153 rfl r153_16 dX9_looks_21 ?_
      refine a_iload dX9_looks_24 rfl ?_
      refine a_ild k158 n158 (by omega) (by omega) dX9_looks_26 ?_
      refine a_aload_n dX9_looks_27 rfl rfl ?_
      refine a_iload dX9_looks_28 rfl ?_
      refine a_iconst dX9_looks_30 ?_
      refine a_cI (c := 153) (as := [ai i, ai 0]) (rest := [ai (gN τ 158 i)]) (t_told τ i 0 (by omega) (by omega)) mvX9_told lX9_201 k153 (by decide) rfl rfl rfl rfl (Nat.le_of_ble_eq_true rfl) (Nat.le_of_ble_eq_true rfl) (Nat.le_of_ble_eq_true rfl) dX9_looks_31 ?_
      refine a_topI (y := gN σ 155 (115 + 5 * i + 0)) (Lk155 hI.1 _) ?_
      refine a_iload_n dX9_looks_34 rfl rfl ?_
      refine a_icmp_ne (tgt := 42) dX9_looks_35 (by decide) (inR_gN _ _ _) htr (fun c35 => ?_) (fun c35 => ?_)
      · refine a_iconst dX9_looks_42 ?_
        refine a_iadd dX9_looks_43 ?_
        refine a_istore (ls' := [(5, ai (gN τ 158 i + 0)), (4, ai i), (0, ar 153), (1, ai trip), (2, ai later), (3, ai gone)]) dX9_looks_44 (Nat.le_of_ble_eq_true rfl) rfl ?_
        refine a_aload_n dX9_looks_46 rfl rfl ?_
        refine a_getF (d := 161) fX9_36 k153 rfl r153_21 dX9_looks_47 ?_
        refine a_iload dX9_looks_50 rfl ?_
        refine a_aload_n dX9_looks_52 rfl rfl ?_
        refine a_iload dX9_looks_53 rfl ?_
        refine a_iconst dX9_looks_55 ?_
        refine a_cI (c := 153) (as := [ai i, ai 3]) (rest := [ai i, ar 161]) (t_told τ i 3 (by omega) (by omega)) mvX9_told lX9_201 k153 (by decide) rfl rfl rfl rfl (Nat.le_of_ble_eq_true rfl) (Nat.le_of_ble_eq_true rfl) (Nat.le_of_ble_eq_true rfl) dX9_looks_56 ?_
        refine a_topI (y := gN σ 155 (115 + 5 * i + 3)) (Lk155 hI.1 _) ?_
        refine a_iload dX9_looks_59 rfl ?_
        refine a_iadd dX9_looks_61 ?_
        refine a_topI (y := lkL σ trip later i) (by unfold lkL; grind) ?_
        refine a_ist k161 n161 (by omega) (by omega) dX9_looks_62 ?_
        refine a_aload_n dX9_looks_63 rfl rfl ?_
        refine a_getF (d := 162) fX9_39 k153 rfl r153_22 dX9_looks_64 ?_
        refine a_iload dX9_looks_67 rfl ?_
        refine a_aload_n dX9_looks_69 rfl rfl ?_
        refine a_iload dX9_looks_70 rfl ?_
        refine a_iconst dX9_looks_72 ?_
        refine a_cI (c := 153) (as := [ai i, ai 4]) (rest := [ai i, ar 162]) (t_told (sN τ 161 i (lkL σ trip later i)) i 4 (by omega) (by omega)) mvX9_told lX9_201 k153 (by decide) rfl rfl rfl rfl (Nat.le_of_ble_eq_true rfl) (Nat.le_of_ble_eq_true rfl) (Nat.le_of_ble_eq_true rfl) dX9_looks_73 ?_
        refine a_topI (y := gN σ 155 (115 + 5 * i + 4)) (Lk155 (hI.1.sN (by unfold pLk; omega)) _) ?_
        refine a_iload dX9_looks_76 rfl ?_
        refine a_iadd dX9_looks_78 ?_
        refine a_topI (y := lkC σ trip later i) (by unfold lkC; grind) ?_
        refine a_ist k162 n162 (by omega) (by omega) dX9_looks_79 ?_
        refine a_iload_n dX9_looks_80 rfl rfl ?_
        refine a_if_eq (tgt := 108) dX9_looks_81 (by decide) (by rcases hg with h | h <;> subst h <;> (unfold inR; omega)) (fun c81 => ?_) (fun c81 => ?_)
        · refine a_iinc (y := i + 1) (ls' := [(4, ai (i + 1)), (5, ai (gN τ 158 i + 0)), (0, ar 153), (1, ai trip), (2, ai later), (3, ai gone)]) dX9_looks_108 rfl rfl (Nat.le_of_ble_eq_true rfl) rfl ?_
          refine a_goto (tgt := 11) dX9_looks_111 (by decide) ?_
          refine a_keep (ls' := [(4, ai (i + 1)), (0, ar 153), (1, ai trip), (2, ai later), (3, ai gone)]) (by simp) ?_
          refine ih (i + 1) (sN (sN τ 161 i (lkL σ trip later i)) 162 i (lkC σ trip later i)) (by omega) (by omega) (by omega) ?_
          have vL : gN (sN (sN τ 161 i (lkL σ trip later i)) 162 i (lkC σ trip later i)) 161 i = lkL σ trip later i := by simp [gN_sN, gN_sL]; exact nrm_of (inR_of (by omega) (by omega))
          have vC : gN (sN (sN τ 161 i (lkL σ trip later i)) 162 i (lkC σ trip later i)) 162 i = lkC σ trip later i := by simp [gN_sN, gN_sL]; exact nrm_of (inR_of (by omega) (by omega))
          have vO : gL (sN (sN τ 161 i (lkL σ trip later i)) 162 i (lkC σ trip later i)) 153 23 = itr (lkOf σ trip gone) (i + 1).toNat 0 (gL σ 153 17) := by rw [itr_to h0, ← hI.2.2.2]; unfold lkOf; grind [gL_sL, gL_sN]
          have o1 : ∀ j : Int, j ≠ i → gN (sN (sN τ 161 i (lkL σ trip later i)) 162 i (lkC σ trip later i)) 161 j = gN τ 161 j ∧ gN (sN (sN τ 161 i (lkL σ trip later i)) 162 i (lkC σ trip later i)) 162 j = gN τ 162 j := fun j q => by simp [gN_sN, gN_sL, q]
          refine ⟨((hI.1.sN (by unfold pLk; omega)).sN (by unfold pLk; omega)), fun j q0 q1 => ?_, fun j q0 q1 => ?_, vO⟩
          · by_cases q : j = i
            · rw [q, vL, vC]; omega
            · rw [(o1 j q).1, (o1 j q).2]; exact hI.2.1 j q0 q1
          · by_cases q : j = i
            · rw [q, vL, vC]; exact ⟨rfl, rfl⟩
            · rw [(o1 j q).1, (o1 j q).2]; exact hI.2.2.1 j q0 (by omega)
        · refine a_aload_n dX9_looks_84 rfl rfl ?_
          refine a_iload dX9_looks_85 rfl ?_
          refine a_iconst dX9_looks_87 ?_
          refine a_cI (c := 153) (as := [ai i, ai 0]) (rest := []) (t_told (sN (sN τ 161 i (lkL σ trip later i)) 162 i (lkC σ trip later i)) i 0 (by omega) (by omega)) mvX9_told lX9_201 k153 (by decide) rfl rfl rfl rfl (Nat.le_of_ble_eq_true rfl) (Nat.le_of_ble_eq_true rfl) (Nat.le_of_ble_eq_true rfl) dX9_looks_88 ?_
          refine a_topI (y := gN σ 155 (115 + 5 * i + 0)) (Lk155 ((hI.1.sN (by unfold pLk; omega)).sN (by unfold pLk; omega)) _) ?_
          refine a_iload_n dX9_looks_91 rfl rfl ?_
          refine a_icmp_ne (tgt := 108) dX9_looks_92 (by decide) (inR_gN _ _ _) htr (fun c92 => ?_) (fun c92 => ?_)
          · refine a_iinc (y := i + 1) (ls' := [(4, ai (i + 1)), (5, ai (gN τ 158 i + 0)), (0, ar 153), (1, ai trip), (2, ai later), (3, ai gone)]) dX9_looks_108 rfl rfl (Nat.le_of_ble_eq_true rfl) rfl ?_
            refine a_goto (tgt := 11) dX9_looks_111 (by decide) ?_
            refine a_keep (ls' := [(4, ai (i + 1)), (0, ar 153), (1, ai trip), (2, ai later), (3, ai gone)]) (by simp) ?_
            refine ih (i + 1) (sN (sN τ 161 i (lkL σ trip later i)) 162 i (lkC σ trip later i)) (by omega) (by omega) (by omega) ?_
            have vL : gN (sN (sN τ 161 i (lkL σ trip later i)) 162 i (lkC σ trip later i)) 161 i = lkL σ trip later i := by simp [gN_sN, gN_sL]; exact nrm_of (inR_of (by omega) (by omega))
            have vC : gN (sN (sN τ 161 i (lkL σ trip later i)) 162 i (lkC σ trip later i)) 162 i = lkC σ trip later i := by simp [gN_sN, gN_sL]; exact nrm_of (inR_of (by omega) (by omega))
            have vO : gL (sN (sN τ 161 i (lkL σ trip later i)) 162 i (lkC σ trip later i)) 153 23 = itr (lkOf σ trip gone) (i + 1).toNat 0 (gL σ 153 17) := by rw [itr_to h0, ← hI.2.2.2]; unfold lkOf; grind [gL_sL, gL_sN]
            have o1 : ∀ j : Int, j ≠ i → gN (sN (sN τ 161 i (lkL σ trip later i)) 162 i (lkC σ trip later i)) 161 j = gN τ 161 j ∧ gN (sN (sN τ 161 i (lkL σ trip later i)) 162 i (lkC σ trip later i)) 162 j = gN τ 162 j := fun j q => by simp [gN_sN, gN_sL, q]
            refine ⟨((hI.1.sN (by unfold pLk; omega)).sN (by unfold pLk; omega)), fun j q0 q1 => ?_, fun j q0 q1 => ?_, vO⟩
            · by_cases q : j = i
              · rw [q, vL, vC]; omega
              · rw [(o1 j q).1, (o1 j q).2]; exact hI.2.1 j q0 q1
            · by_cases q : j = i
              · rw [q, vL, vC]; exact ⟨rfl, rfl⟩
              · rw [(o1 j q).1, (o1 j q).2]; exact hI.2.2.1 j q0 (by omega)
          · refine a_aload_n dX9_looks_95 rfl rfl ?_
            refine a_dup dX9_looks_96 rfl ?_
            refine a_getL (J := 23) fX9_243 k153 rfl rfl dX9_looks_97 ?_
            refine a_lconst (v := 1) dX9_looks_100 rfl ?_
            refine a_iload dX9_looks_101 rfl ?_
            refine a_lshl dX9_looks_103 ?_
            refine a_lor dX9_looks_104 ?_
            refine a_putL (J := 23) fX9_243 k153 rfl rfl rfl dX9_looks_105 ?_
            refine a_iinc (y := i + 1) (ls' := [(4, ai (i + 1)), (5, ai (gN τ 158 i + 0)), (0, ar 153), (1, ai trip), (2, ai later), (3, ai gone)]) dX9_looks_108 rfl rfl (Nat.le_of_ble_eq_true rfl) rfl ?_
            refine a_goto (tgt := 11) dX9_looks_111 (by decide) ?_
            refine a_keep (ls' := [(4, ai (i + 1)), (0, ar 153), (1, ai trip), (2, ai later), (3, ai gone)]) (by simp) ?_
            refine ih (i + 1) (sL (sN (sN τ 161 i (lkL σ trip later i)) 162 i (lkC σ trip later i)) 153 23 ((gL (sN (sN τ 161 i (lkL σ trip later i)) 162 i (lkC σ trip later i)) 153 23) ||| (shlL 1 i))) (by omega) (by omega) (by omega) ?_
            have vL : gN (sL (sN (sN τ 161 i (lkL σ trip later i)) 162 i (lkC σ trip later i)) 153 23 ((gL (sN (sN τ 161 i (lkL σ trip later i)) 162 i (lkC σ trip later i)) 153 23) ||| (shlL 1 i))) 161 i = lkL σ trip later i := by simp [gN_sN, gN_sL]; exact nrm_of (inR_of (by omega) (by omega))
            have vC : gN (sL (sN (sN τ 161 i (lkL σ trip later i)) 162 i (lkC σ trip later i)) 153 23 ((gL (sN (sN τ 161 i (lkL σ trip later i)) 162 i (lkC σ trip later i)) 153 23) ||| (shlL 1 i))) 162 i = lkC σ trip later i := by simp [gN_sN, gN_sL]; exact nrm_of (inR_of (by omega) (by omega))
            have vO : gL (sL (sN (sN τ 161 i (lkL σ trip later i)) 162 i (lkC σ trip later i)) 153 23 ((gL (sN (sN τ 161 i (lkL σ trip later i)) 162 i (lkC σ trip later i)) 153 23) ||| (shlL 1 i))) 153 23 = itr (lkOf σ trip gone) (i + 1).toNat 0 (gL σ 153 17) := by rw [itr_to h0, ← hI.2.2.2]; unfold lkOf; grind [gL_sL, gL_sN]
            have o1 : ∀ j : Int, j ≠ i → gN (sL (sN (sN τ 161 i (lkL σ trip later i)) 162 i (lkC σ trip later i)) 153 23 ((gL (sN (sN τ 161 i (lkL σ trip later i)) 162 i (lkC σ trip later i)) 153 23) ||| (shlL 1 i))) 161 j = gN τ 161 j ∧ gN (sL (sN (sN τ 161 i (lkL σ trip later i)) 162 i (lkC σ trip later i)) 153 23 ((gL (sN (sN τ 161 i (lkL σ trip later i)) 162 i (lkC σ trip later i)) 153 23) ||| (shlL 1 i))) 162 j = gN τ 162 j := fun j q => by simp [gN_sN, gN_sL, q]
            refine ⟨(((hI.1.sN (by unfold pLk; omega)).sN (by unfold pLk; omega)).sL (by unfold pLk; omega)), fun j q0 q1 => ?_, fun j q0 q1 => ?_, vO⟩
            · by_cases q : j = i
              · rw [q, vL, vC]; omega
              · rw [(o1 j q).1, (o1 j q).2]; exact hI.2.1 j q0 q1
            · by_cases q : j = i
              · rw [q, vL, vC]; exact ⟨rfl, rfl⟩
              · rw [(o1 j q).1, (o1 j q).2]; exact hI.2.2.1 j q0 (by omega)
      · refine a_iload_n dX9_looks_38 rfl rfl ?_
        refine a_goto (tgt := 43) dX9_looks_39 (by decide) ?_
        refine a_iadd dX9_looks_43 ?_
        refine a_istore (ls' := [(5, ai (gN τ 158 i + later)), (4, ai i), (0, ar 153), (1, ai trip), (2, ai later), (3, ai gone)]) dX9_looks_44 (Nat.le_of_ble_eq_true rfl) rfl ?_
        refine a_aload_n dX9_looks_46 rfl rfl ?_
        refine a_getF (d := 161) fX9_36 k153 rfl r153_21 dX9_looks_47 ?_
        refine a_iload dX9_looks_50 rfl ?_
        refine a_aload_n dX9_looks_52 rfl rfl ?_
        refine a_iload dX9_looks_53 rfl ?_
        refine a_iconst dX9_looks_55 ?_
        refine a_cI (c := 153) (as := [ai i, ai 3]) (rest := [ai i, ar 161]) (t_told τ i 3 (by omega) (by omega)) mvX9_told lX9_201 k153 (by decide) rfl rfl rfl rfl (Nat.le_of_ble_eq_true rfl) (Nat.le_of_ble_eq_true rfl) (Nat.le_of_ble_eq_true rfl) dX9_looks_56 ?_
        refine a_topI (y := gN σ 155 (115 + 5 * i + 3)) (Lk155 hI.1 _) ?_
        refine a_iload dX9_looks_59 rfl ?_
        refine a_iadd dX9_looks_61 ?_
        refine a_topI (y := lkL σ trip later i) (by unfold lkL; grind) ?_
        refine a_ist k161 n161 (by omega) (by omega) dX9_looks_62 ?_
        refine a_aload_n dX9_looks_63 rfl rfl ?_
        refine a_getF (d := 162) fX9_39 k153 rfl r153_22 dX9_looks_64 ?_
        refine a_iload dX9_looks_67 rfl ?_
        refine a_aload_n dX9_looks_69 rfl rfl ?_
        refine a_iload dX9_looks_70 rfl ?_
        refine a_iconst dX9_looks_72 ?_
        refine a_cI (c := 153) (as := [ai i, ai 4]) (rest := [ai i, ar 162]) (t_told (sN τ 161 i (lkL σ trip later i)) i 4 (by omega) (by omega)) mvX9_told lX9_201 k153 (by decide) rfl rfl rfl rfl (Nat.le_of_ble_eq_true rfl) (Nat.le_of_ble_eq_true rfl) (Nat.le_of_ble_eq_true rfl) dX9_looks_73 ?_
        refine a_topI (y := gN σ 155 (115 + 5 * i + 4)) (Lk155 (hI.1.sN (by unfold pLk; omega)) _) ?_
        refine a_iload dX9_looks_76 rfl ?_
        refine a_iadd dX9_looks_78 ?_
        refine a_topI (y := lkC σ trip later i) (by unfold lkC; grind) ?_
        refine a_ist k162 n162 (by omega) (by omega) dX9_looks_79 ?_
        refine a_iload_n dX9_looks_80 rfl rfl ?_
        refine a_if_eq (tgt := 108) dX9_looks_81 (by decide) (by rcases hg with h | h <;> subst h <;> (unfold inR; omega)) (fun c81 => ?_) (fun c81 => ?_)
        · refine a_iinc (y := i + 1) (ls' := [(4, ai (i + 1)), (5, ai (gN τ 158 i + later)), (0, ar 153), (1, ai trip), (2, ai later), (3, ai gone)]) dX9_looks_108 rfl rfl (Nat.le_of_ble_eq_true rfl) rfl ?_
          refine a_goto (tgt := 11) dX9_looks_111 (by decide) ?_
          refine a_keep (ls' := [(4, ai (i + 1)), (0, ar 153), (1, ai trip), (2, ai later), (3, ai gone)]) (by simp) ?_
          refine ih (i + 1) (sN (sN τ 161 i (lkL σ trip later i)) 162 i (lkC σ trip later i)) (by omega) (by omega) (by omega) ?_
          have vL : gN (sN (sN τ 161 i (lkL σ trip later i)) 162 i (lkC σ trip later i)) 161 i = lkL σ trip later i := by simp [gN_sN, gN_sL]; exact nrm_of (inR_of (by omega) (by omega))
          have vC : gN (sN (sN τ 161 i (lkL σ trip later i)) 162 i (lkC σ trip later i)) 162 i = lkC σ trip later i := by simp [gN_sN, gN_sL]; exact nrm_of (inR_of (by omega) (by omega))
          have vO : gL (sN (sN τ 161 i (lkL σ trip later i)) 162 i (lkC σ trip later i)) 153 23 = itr (lkOf σ trip gone) (i + 1).toNat 0 (gL σ 153 17) := by rw [itr_to h0, ← hI.2.2.2]; unfold lkOf; grind [gL_sL, gL_sN]
          have o1 : ∀ j : Int, j ≠ i → gN (sN (sN τ 161 i (lkL σ trip later i)) 162 i (lkC σ trip later i)) 161 j = gN τ 161 j ∧ gN (sN (sN τ 161 i (lkL σ trip later i)) 162 i (lkC σ trip later i)) 162 j = gN τ 162 j := fun j q => by simp [gN_sN, gN_sL, q]
          refine ⟨((hI.1.sN (by unfold pLk; omega)).sN (by unfold pLk; omega)), fun j q0 q1 => ?_, fun j q0 q1 => ?_, vO⟩
          · by_cases q : j = i
            · rw [q, vL, vC]; omega
            · rw [(o1 j q).1, (o1 j q).2]; exact hI.2.1 j q0 q1
          · by_cases q : j = i
            · rw [q, vL, vC]; exact ⟨rfl, rfl⟩
            · rw [(o1 j q).1, (o1 j q).2]; exact hI.2.2.1 j q0 (by omega)
        · refine a_aload_n dX9_looks_84 rfl rfl ?_
          refine a_iload dX9_looks_85 rfl ?_
          refine a_iconst dX9_looks_87 ?_
          refine a_cI (c := 153) (as := [ai i, ai 0]) (rest := []) (t_told (sN (sN τ 161 i (lkL σ trip later i)) 162 i (lkC σ trip later i)) i 0 (by omega) (by omega)) mvX9_told lX9_201 k153 (by decide) rfl rfl rfl rfl (Nat.le_of_ble_eq_true rfl) (Nat.le_of_ble_eq_true rfl) (Nat.le_of_ble_eq_true rfl) dX9_looks_88 ?_
          refine a_topI (y := gN σ 155 (115 + 5 * i + 0)) (Lk155 ((hI.1.sN (by unfold pLk; omega)).sN (by unfold pLk; omega)) _) ?_
          refine a_iload_n dX9_looks_91 rfl rfl ?_
          refine a_icmp_ne (tgt := 108) dX9_looks_92 (by decide) (inR_gN _ _ _) htr (fun c92 => ?_) (fun c92 => ?_)
          · refine a_iinc (y := i + 1) (ls' := [(4, ai (i + 1)), (5, ai (gN τ 158 i + later)), (0, ar 153), (1, ai trip), (2, ai later), (3, ai gone)]) dX9_looks_108 rfl rfl (Nat.le_of_ble_eq_true rfl) rfl ?_
            refine a_goto (tgt := 11) dX9_looks_111 (by decide) ?_
            refine a_keep (ls' := [(4, ai (i + 1)), (0, ar 153), (1, ai trip), (2, ai later), (3, ai gone)]) (by simp) ?_
            refine ih (i + 1) (sN (sN τ 161 i (lkL σ trip later i)) 162 i (lkC σ trip later i)) (by omega) (by omega) (by omega) ?_
            have vL : gN (sN (sN τ 161 i (lkL σ trip later i)) 162 i (lkC σ trip later i)) 161 i = lkL σ trip later i := by simp [gN_sN, gN_sL]; exact nrm_of (inR_of (by omega) (by omega))
            have vC : gN (sN (sN τ 161 i (lkL σ trip later i)) 162 i (lkC σ trip later i)) 162 i = lkC σ trip later i := by simp [gN_sN, gN_sL]; exact nrm_of (inR_of (by omega) (by omega))
            have vO : gL (sN (sN τ 161 i (lkL σ trip later i)) 162 i (lkC σ trip later i)) 153 23 = itr (lkOf σ trip gone) (i + 1).toNat 0 (gL σ 153 17) := by rw [itr_to h0, ← hI.2.2.2]; unfold lkOf; grind [gL_sL, gL_sN]
            have o1 : ∀ j : Int, j ≠ i → gN (sN (sN τ 161 i (lkL σ trip later i)) 162 i (lkC σ trip later i)) 161 j = gN τ 161 j ∧ gN (sN (sN τ 161 i (lkL σ trip later i)) 162 i (lkC σ trip later i)) 162 j = gN τ 162 j := fun j q => by simp [gN_sN, gN_sL, q]
            refine ⟨((hI.1.sN (by unfold pLk; omega)).sN (by unfold pLk; omega)), fun j q0 q1 => ?_, fun j q0 q1 => ?_, vO⟩
            · by_cases q : j = i
              · rw [q, vL, vC]; omega
              · rw [(o1 j q).1, (o1 j q).2]; exact hI.2.1 j q0 q1
            · by_cases q : j = i
              · rw [q, vL, vC]; exact ⟨rfl, rfl⟩
              · rw [(o1 j q).1, (o1 j q).2]; exact hI.2.2.1 j q0 (by omega)
          · refine a_aload_n dX9_looks_95 rfl rfl ?_
            refine a_dup dX9_looks_96 rfl ?_
            refine a_getL (J := 23) fX9_243 k153 rfl rfl dX9_looks_97 ?_
            refine a_lconst (v := 1) dX9_looks_100 rfl ?_
            refine a_iload dX9_looks_101 rfl ?_
            refine a_lshl dX9_looks_103 ?_
            refine a_lor dX9_looks_104 ?_
            refine a_putL (J := 23) fX9_243 k153 rfl rfl rfl dX9_looks_105 ?_
            refine a_iinc (y := i + 1) (ls' := [(4, ai (i + 1)), (5, ai (gN τ 158 i + later)), (0, ar 153), (1, ai trip), (2, ai later), (3, ai gone)]) dX9_looks_108 rfl rfl (Nat.le_of_ble_eq_true rfl) rfl ?_
            refine a_goto (tgt := 11) dX9_looks_111 (by decide) ?_
            refine a_keep (ls' := [(4, ai (i + 1)), (0, ar 153), (1, ai trip), (2, ai later), (3, ai gone)]) (by simp) ?_
            refine ih (i + 1) (sL (sN (sN τ 161 i (lkL σ trip later i)) 162 i (lkC σ trip later i)) 153 23 ((gL (sN (sN τ 161 i (lkL σ trip later i)) 162 i (lkC σ trip later i)) 153 23) ||| (shlL 1 i))) (by omega) (by omega) (by omega) ?_
            have vL : gN (sL (sN (sN τ 161 i (lkL σ trip later i)) 162 i (lkC σ trip later i)) 153 23 ((gL (sN (sN τ 161 i (lkL σ trip later i)) 162 i (lkC σ trip later i)) 153 23) ||| (shlL 1 i))) 161 i = lkL σ trip later i := by simp [gN_sN, gN_sL]; exact nrm_of (inR_of (by omega) (by omega))
            have vC : gN (sL (sN (sN τ 161 i (lkL σ trip later i)) 162 i (lkC σ trip later i)) 153 23 ((gL (sN (sN τ 161 i (lkL σ trip later i)) 162 i (lkC σ trip later i)) 153 23) ||| (shlL 1 i))) 162 i = lkC σ trip later i := by simp [gN_sN, gN_sL]; exact nrm_of (inR_of (by omega) (by omega))
            have vO : gL (sL (sN (sN τ 161 i (lkL σ trip later i)) 162 i (lkC σ trip later i)) 153 23 ((gL (sN (sN τ 161 i (lkL σ trip later i)) 162 i (lkC σ trip later i)) 153 23) ||| (shlL 1 i))) 153 23 = itr (lkOf σ trip gone) (i + 1).toNat 0 (gL σ 153 17) := by rw [itr_to h0, ← hI.2.2.2]; unfold lkOf; grind [gL_sL, gL_sN]
            have o1 : ∀ j : Int, j ≠ i → gN (sL (sN (sN τ 161 i (lkL σ trip later i)) 162 i (lkC σ trip later i)) 153 23 ((gL (sN (sN τ 161 i (lkL σ trip later i)) 162 i (lkC σ trip later i)) 153 23) ||| (shlL 1 i))) 161 j = gN τ 161 j ∧ gN (sL (sN (sN τ 161 i (lkL σ trip later i)) 162 i (lkC σ trip later i)) 153 23 ((gL (sN (sN τ 161 i (lkL σ trip later i)) 162 i (lkC σ trip later i)) 153 23) ||| (shlL 1 i))) 162 j = gN τ 162 j := fun j q => by simp [gN_sN, gN_sL, q]
            refine ⟨(((hI.1.sN (by unfold pLk; omega)).sN (by unfold pLk; omega)).sL (by unfold pLk; omega)), fun j q0 q1 => ?_, fun j q0 q1 => ?_, vO⟩
            · by_cases q : j = i
              · rw [q, vL, vC]; omega
              · rw [(o1 j q).1, (o1 j q).2]; exact hI.2.1 j q0 q1
            · by_cases q : j = i
              · rw [q, vL, vC]; exact ⟨rfl, rfl⟩
              · rw [(o1 j q).1, (o1 j q).2]; exact hI.2.2.1 j q0 (by omega)

set_option maxRecDepth 20000 in
theorem t_looks (σ : Sto) (hW : WOK σ) (trip later gone : Int) (htr : inR trip) (hl0 : -60 ≤ later) (hl1 : later ≤ 240) (hg : gone = 0 ∨ gone = 1) (hT : TOK σ) : MetA mX9_looks [ar 153, ai trip, ai later, ai gone] σ (fun r u => r = none ∧ Lkd σ u trip later gone) := by
  refine a_entry (by decide) (Nat.le_of_ble_eq_true rfl) ?_
  refine a_aload_n dX9_looks_0 rfl rfl ?_
  refine a_aload_n dX9_looks_1 rfl rfl ?_
  refine a_getL (J := 17) fX9_179 k153 rfl rfl dX9_looks_2 ?_
  refine a_putL (J := 23) fX9_243 k153 rfl rfl rfl dX9_looks_5 ?_
  refine a_iconst dX9_looks_8 ?_
  refine a_istore (ls' := [(4, ai 0), (0, ar 153), (1, ai trip), (2, ai later), (3, ai gone)]) dX9_looks_9 (Nat.le_of_ble_eq_true rfl) rfl ?_
  exact a_keep (by simp) (t_looks_a σ hW trip later gone htr hl0 hl1 hg (gN σ 155 3).toNat 0 (sL σ 153 23 (gL σ 153 17)) (by omega) hW.1.1 (by omega) ⟨Fr.rfl.sL (by unfold pLk; omega), hT, fun j q0 q1 => by omega, by rw [gL_sL, if_pos ⟨rfl, rfl⟩]; rfl⟩)

