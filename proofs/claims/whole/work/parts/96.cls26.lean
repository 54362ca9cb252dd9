/-! The class's reader: tokens. -/
def sgB (x : Int) : Int := if x < 128 then x else x - 256
/-- the class's reader reads the tape T, n bytes of it -/
def RdI (σ : Sto) (T : Int → Int) (n : Int) : Prop := gR σ 2 3 = some 1 ∧ gN σ 2 4 = n ∧ (0 ≤ n ∧ n ≤ 900) ∧ (∀ j : Int, 0 ≤ j → j < n → gN σ 1 j = sgB (T j)) ∧ ∀ j : Int, 0 ≤ T j ∧ T j ≤ 255
theorem RdI.put {σ : Sto} {T : Int → Int} {n j v : Int} (h : RdI σ T n) (hj : 6 ≤ j) : RdI (sN σ 2 j v) T n := ⟨h.1, by rw [gN_sN, if_neg (by omega)]; exact h.2.1, h.2.2.1, fun i a b => by rw [gN_sN, if_neg (by omega)]; exact h.2.2.2.1 i a b, h.2.2.2.2⟩
abbrev pAd (c : Nat) (j : Int) : Prop := c = 2 ∧ (6 ≤ j ∧ j ≤ 9)
theorem RdI.fr {σ u : Sto} {T : Int → Int} {n : Int} (h : RdI σ T n) (hF : Fg pAd σ u) : RdI u T n := ⟨(hF.r (by unfold pAd; omega)).trans h.1, (hF.n (by unfold pAd; omega)).trans h.2.1, h.2.2.1, fun i a b => (hF.n (by unfold pAd; omega)).trans (h.2.2.2.1 i a b), h.2.2.2.2⟩
def kdF (T : Int → Int) (n p : Int) : Int := if n ≤ p then 0 else if sml (T p) then 1 else if dig (T p) then 2 else if T p = 59 then 3 else if blk (T p) then 4 else 5
theorem kdF_rng (T : Int → Int) (n p : Int) : 0 ≤ kdF T n p ∧ kdF T n p ≤ 5 := by
  unfold kdF
  (repeat' split) <;> omega
theorem kdF_in {T : Int → Int} {n p : Int} (h : kdF T n p ≠ 0) : p < n := by
  unfold kdF at h
  split at h <;> omega
def ltF (T : Int → Int) : Nat → Int → Int → Int
  | 0, _, v => v
  | d + 1, p, v => ltF T d (p + 1) (v * 27 + (T p - 97 + 1))
def dgF (T : Int → Int) : Nat → Int → Int → Int
  | 0, _, v => v
  | d + 1, p, v => if v < 1000000 then dgF T d (p + 1) (v * 10 + (T p - 48)) else v
def spK (T : Int → Int) (n k : Int) : Nat → Int → Int := spn (fun y => decide (kdF T n y = k))
theorem spn_s1 {q : Int → Bool} {d : Nat} {p : Int} (h : q p = true) : spn q (d + 1) p = spn q d (p + 1) := by
  show (if q p = true then spn q d (p + 1) else p) = _
  rw [if_pos h]
theorem spn_s0 {q : Int → Bool} {d : Nat} {p : Int} (h : q p = false) : spn q (d + 1) p = p := by
  show (if q p = true then spn q d (p + 1) else p) = _
  rw [if_neg (by rw [h]; decide)]

set_option maxRecDepth 20000 in
theorem c_kindAt (σ : Sto) (T : Int → Int) (n0 : Int) (hI : RdI σ T n0) (p : Int) (hp0 : 0 ≤ p) (hp1 : p ≤ 900) : MetI mX5_kindAt [ar 2, ai p] σ (kdF T n0 p) σ := by
  have hn0 := hI.2.2.1
  refine a_entry (by decide) (Nat.le_of_ble_eq_true rfl) ?_
  refine a_ls (ls' := [(0, ar 2), (1, ai p)]) rfl ?_
  refine a_iload_n dX5_kindAt_0 rfl rfl ?_
  refine a_aload_n dX5_kindAt_1 rfl rfl ?_
  refine a_getI (J := 4) fX5_25 k2 rfl rfl dX5_kindAt_2 ?_
  refine a_topI (y := n0) hI.2.1 ?_
  refine a_icmp_lt (tgt := 10) dX5_kindAt_5 (by decide) (inR_of (by omega) (by omega)) (inR_of (by omega) (by omega)) (fun c5 => ?_) (fun c5 => ?_)
  · refine a_aload_n dX5_kindAt_10 rfl rfl ?_
    refine a_getR (d := 1) (J := 3) fX5_15 k2 rfl q2_3 rfl hI.1 dX5_kindAt_11 ?_
    refine a_iload_n dX5_kindAt_14 rfl rfl ?_
    refine a_bld k1 n1 (by omega) (by omega) dX5_kindAt_15 ?_
    refine a_topI (y := sgB (T p)) (hI.2.2.2.1 p (by omega) (by omega)) ?_
    have hb107 := hI.2.2.2.2 p
    have hsg : (sgB (T p) = T p ∧ T p < 128) ∨ (sgB (T p) = T p - 256 ∧ 128 ≤ T p) := by unfold sgB; split <;> omega
    refine a_istore_n (ls' := [(2, ai (sgB (T p))), (0, ar 2), (1, ai p)]) dX5_kindAt_16 rfl (Nat.le_of_ble_eq_true rfl) rfl ?_
    refine a_iload_n dX5_kindAt_17 rfl rfl ?_
    refine a_bipush (x := 97) dX5_kindAt_18 (by decide) ?_
    refine a_icmp_lt (tgt := 31) dX5_kindAt_20 (by decide) (inR_of (by omega) (by omega)) (inR_of (by omega) (by omega)) (fun c20 => ?_) (fun c20 => ?_)
    · refine a_iload_n dX5_kindAt_31 rfl rfl ?_
      refine a_bipush (x := 48) dX5_kindAt_32 (by decide) ?_
      refine a_icmp_lt (tgt := 45) dX5_kindAt_34 (by decide) (inR_of (by omega) (by omega)) (inR_of (by omega) (by omega)) (fun c34 => ?_) (fun c34 => ?_)
      · refine a_iload_n dX5_kindAt_45 rfl rfl ?_
        refine a_bipush (x := 59) dX5_kindAt_46 (by decide) ?_
        refine a_icmp_ne (tgt := 53) dX5_kindAt_48 (by decide) (inR_of (by omega) (by omega)) (inR_of (by omega) (by omega)) (fun c48 => ?_) (fun c48 => ?_)
        · refine a_iload_n dX5_kindAt_53 rfl rfl ?_
          refine a_bipush (x := 10) dX5_kindAt_54 (by decide) ?_
          refine a_icmp_eq (tgt := 65) dX5_kindAt_56 (by decide) (inR_of (by omega) (by omega)) (inR_of (by omega) (by omega)) (fun c56 => ?_) (fun c56 => ?_)
          · refine a_iconst dX5_kindAt_65 ?_
            refine a_goto (tgt := 70) dX5_kindAt_66 (by decide) ?_
            exact a_iret rfl ⟨by unfold kdF; (repeat' split) <;> first | rfl | (exfalso; omega), rfl⟩ dX5_kindAt_70
          · refine a_iload_n dX5_kindAt_59 rfl rfl ?_
            refine a_bipush (x := 32) dX5_kindAt_60 (by decide) ?_
            refine a_icmp_ne (tgt := 69) dX5_kindAt_62 (by decide) (inR_of (by omega) (by omega)) (inR_of (by omega) (by omega)) (fun c62 => ?_) (fun c62 => ?_)
            · refine a_iconst dX5_kindAt_69 ?_
              exact a_iret rfl ⟨by unfold kdF; (repeat' split) <;> first | rfl | (exfalso; omega), rfl⟩ dX5_kindAt_70
            · refine a_iconst dX5_kindAt_65 ?_
              refine a_goto (tgt := 70) dX5_kindAt_66 (by decide) ?_
              exact a_iret rfl ⟨by unfold kdF; (repeat' split) <;> first | rfl | (exfalso; omega), rfl⟩ dX5_kindAt_70
        · refine a_iconst dX5_kindAt_51 ?_
          exact a_iret rfl ⟨by unfold kdF; (repeat' split) <;> first | rfl | (exfalso; omega), rfl⟩ dX5_kindAt_52
      · refine a_iload_n dX5_kindAt_37 rfl rfl ?_
        refine a_bipush (x := 57) dX5_kindAt_38 (by decide) ?_
        refine a_icmp_gt (tgt := 45) dX5_kindAt_40 (by decide) (inR_of (by omega) (by omega)) (inR_of (by omega) (by omega)) (fun c40 => ?_) (fun c40 => ?_)
        · refine a_iload_n dX5_kindAt_45 rfl rfl ?_
          refine a_bipush (x := 59) dX5_kindAt_46 (by decide) ?_
          refine a_icmp_ne (tgt := 53) dX5_kindAt_48 (by decide) (inR_of (by omega) (by omega)) (inR_of (by omega) (by omega)) (fun c48 => ?_) (fun c48 => ?_)
          · refine a_iload_n dX5_kindAt_53 rfl rfl ?_
            refine a_bipush (x := 10) dX5_kindAt_54 (by decide) ?_
            refine a_icmp_eq (tgt := 65) dX5_kindAt_56 (by decide) (inR_of (by omega) (by omega)) (inR_of (by omega) (by omega)) (fun c56 => ?_) (fun c56 => ?_)
            · refine a_iconst dX5_kindAt_65 ?_
              refine a_goto (tgt := 70) dX5_kindAt_66 (by decide) ?_
              exact a_iret rfl ⟨by unfold kdF; (repeat' split) <;> first | rfl | (exfalso; omega), rfl⟩ dX5_kindAt_70
            · refine a_iload_n dX5_kindAt_59 rfl rfl ?_
              refine a_bipush (x := 32) dX5_kindAt_60 (by decide) ?_
              refine a_icmp_ne (tgt := 69) dX5_kindAt_62 (by decide) (inR_of (by omega) (by omega)) (inR_of (by omega) (by omega)) (fun c62 => ?_) (fun c62 => ?_)
              · refine a_iconst dX5_kindAt_69 ?_
                exact a_iret rfl ⟨by unfold kdF; (repeat' split) <;> first | rfl | (exfalso; omega), rfl⟩ dX5_kindAt_70
              · refine a_iconst dX5_kindAt_65 ?_
                refine a_goto (tgt := 70) dX5_kindAt_66 (by decide) ?_
                exact a_iret rfl ⟨by unfold kdF; (repeat' split) <;> first | rfl | (exfalso; omega), rfl⟩ dX5_kindAt_70
          · refine a_iconst dX5_kindAt_51 ?_
            exact a_iret rfl ⟨by unfold kdF; (repeat' split) <;> first | rfl | (exfalso; omega), rfl⟩ dX5_kindAt_52
        · refine a_iconst dX5_kindAt_43 ?_
          exact a_iret rfl ⟨by unfold kdF; (repeat' split) <;> first | rfl | (exfalso; omega), rfl⟩ dX5_kindAt_44
    · refine a_iload_n dX5_kindAt_23 rfl rfl ?_
      refine a_bipush (x := 122) dX5_kindAt_24 (by decide) ?_
      refine a_icmp_gt (tgt := 31) dX5_kindAt_26 (by decide) (inR_of (by omega) (by omega)) (inR_of (by omega) (by omega)) (fun c26 => ?_) (fun c26 => ?_)
      · refine a_iload_n dX5_kindAt_31 rfl rfl ?_
        refine a_bipush (x := 48) dX5_kindAt_32 (by decide) ?_
        refine a_icmp_lt (tgt := 45) dX5_kindAt_34 (by decide) (inR_of (by omega) (by omega)) (inR_of (by omega) (by omega)) (fun c34 => ?_) (fun c34 => ?_)
        · refine a_iload_n dX5_kindAt_45 rfl rfl ?_
          refine a_bipush (x := 59) dX5_kindAt_46 (by decide) ?_
          refine a_icmp_ne (tgt := 53) dX5_kindAt_48 (by decide) (inR_of (by omega) (by omega)) (inR_of (by omega) (by omega)) (fun c48 => ?_) (fun c48 => ?_)
          · refine a_iload_n dX5_kindAt_53 rfl rfl ?_
            refine a_bipush (x := 10) dX5_kindAt_54 (by decide) ?_
            refine a_icmp_eq (tgt := 65) dX5_kindAt_56 (by decide) (inR_of (by omega) (by omega)) (inR_of (by omega) (by omega)) (fun c56 => ?_) (fun c56 => ?_)
            · refine a_iconst dX5_kindAt_65 ?_
              refine a_goto (tgt := 70) dX5_kindAt_66 (by decide) ?_
              exact a_iret rfl ⟨by unfold kdF; (repeat' split) <;> first | rfl | (exfalso; omega), rfl⟩ dX5_kindAt_70
            · refine a_iload_n dX5_kindAt_59 rfl rfl ?_
              refine a_bipush (x := 32) dX5_kindAt_60 (by decide) ?_
              refine a_icmp_ne (tgt := 69) dX5_kindAt_62 (by decide) (inR_of (by omega) (by omega)) (inR_of (by omega) (by omega)) (fun c62 => ?_) (fun c62 => ?_)
              · refine a_iconst dX5_kindAt_69 ?_
                exact a_iret rfl ⟨by unfold kdF; (repeat' split) <;> first | rfl | (exfalso; omega), rfl⟩ dX5_kindAt_70
              · refine a_iconst dX5_kindAt_65 ?_
                refine a_goto (tgt := 70) dX5_kindAt_66 (by decide) ?_
                exact a_iret rfl ⟨by unfold kdF; (repeat' split) <;> first | rfl | (exfalso; omega), rfl⟩ dX5_kindAt_70
          · refine a_iconst dX5_kindAt_51 ?_
            exact a_iret rfl ⟨by unfold kdF; (repeat' split) <;> first | rfl | (exfalso; omega), rfl⟩ dX5_kindAt_52
        · refine a_iload_n dX5_kindAt_37 rfl rfl ?_
          refine a_bipush (x := 57) dX5_kindAt_38 (by decide) ?_
          refine a_icmp_gt (tgt := 45) dX5_kindAt_40 (by decide) (inR_of (by omega) (by omega)) (inR_of (by omega) (by omega)) (fun c40 => ?_) (fun c40 => ?_)
          · refine a_iload_n dX5_kindAt_45 rfl rfl ?_
            refine a_bipush (x := 59) dX5_kindAt_46 (by decide) ?_
            refine a_icmp_ne (tgt := 53) dX5_kindAt_48 (by decide) (inR_of (by omega) (by omega)) (inR_of (by omega) (by omega)) (fun c48 => ?_) (fun c48 => ?_)
            · refine a_iload_n dX5_kindAt_53 rfl rfl ?_
              refine a_bipush (x := 10) dX5_kindAt_54 (by decide) ?_
              refine a_icmp_eq (tgt := 65) dX5_kindAt_56 (by decide) (inR_of (by omega) (by omega)) (inR_of (by omega) (by omega)) (fun c56 => ?_) (fun c56 => ?_)
              · refine a_iconst dX5_kindAt_65 ?_
                refine a_goto (tgt := 70) dX5_kindAt_66 (by decide) ?_
                exact a_iret rfl ⟨by unfold kdF; (repeat' split) <;> first | rfl | (exfalso; omega), rfl⟩ dX5_kindAt_70
              · refine a_iload_n dX5_kindAt_59 rfl rfl ?_
                refine a_bipush (x := 32) dX5_kindAt_60 (by decide) ?_
                refine a_icmp_ne (tgt := 69) dX5_kindAt_62 (by decide) (inR_of (by omega) (by omega)) (inR_of (by omega) (by omega)) (fun c62 => ?_) (fun c62 => ?_)
                · refine a_iconst dX5_kindAt_69 ?_
                  exact a_iret rfl ⟨by unfold kdF; (repeat' split) <;> first | rfl | (exfalso; omega), rfl⟩ dX5_kindAt_70
                · refine a_iconst dX5_kindAt_65 ?_
                  refine a_goto (tgt := 70) dX5_kindAt_66 (by decide) ?_
                  exact a_iret rfl ⟨by unfold kdF; (repeat' split) <;> first | rfl | (exfalso; omega), rfl⟩ dX5_kindAt_70
            · refine a_iconst dX5_kindAt_51 ?_
              exact a_iret rfl ⟨by unfold kdF; (repeat' split) <;> first | rfl | (exfalso; omega), rfl⟩ dX5_kindAt_52
          · refine a_iconst dX5_kindAt_43 ?_
            exact a_iret rfl ⟨by unfold kdF; (repeat' split) <;> first | rfl | (exfalso; omega), rfl⟩ dX5_kindAt_44
      · refine a_iconst dX5_kindAt_29 ?_
        exact a_iret rfl ⟨by unfold kdF; (repeat' split) <;> first | rfl | (exfalso; omega), rfl⟩ dX5_kindAt_30
  · refine a_iconst dX5_kindAt_8 ?_
    exact a_iret rfl ⟨by unfold kdF; (repeat' split) <;> first | rfl | (exfalso; omega), rfl⟩ dX5_kindAt_9

set_option maxRecDepth 20000 in
theorem c_lt_l (σ : Sto) (T : Int → Int) (n0 : Int) (hI : RdI σ T n0) (p e : Int) (h6 : gN σ 2 6 = p) (h7 : gN σ 2 7 = e) (hp0 : 0 ≤ p) (hpe : p ≤ e) (he : e ≤ n0) (hsm : ∀ j : Int, p ≤ j → j < e → 97 ≤ T j ∧ T j ≤ 122) (V : Int) : ∀ (n : Nat) (i : Int) (v : Int), p ≤ i → i ≤ e → n = (e - i).toNat → V = ltF T n i v → RunA mX5_letters (qI V σ) 7 [(2, ai i), (1, ai v), (0, ar 2)] [] σ := by
  have hn0 := hI.2.2.1
  intro n
  induction n with
  | zero =>
    intro i v h0 h5 hn hE
    refine a_iload_n dX5_letters_7 rfl rfl ?_
    refine a_aload_n dX5_letters_8 rfl rfl ?_
    refine a_getI (J := 7) fX5_43 k2 rfl rfl dX5_letters_9 ?_
    refine a_topI (y := e) h7 ?_
    refine a_icmp_ge (tgt := 38) dX5_letters_12 (by decide) (inR_of (by omega) (by omega)) (inR_of (by omega) (by omega)) (fun c12 => ?_) (fun c12 => ?_)
    · refine a_iload_n dX5_letters_38 rfl rfl ?_
      exact a_iret rfl ⟨by rw [hE]; rfl, rfl⟩ dX5_letters_39
    · exfalso; omega
  | succ n ih =>
    intro i v h0 h5 hn hE
    refine a_iload_n dX5_letters_7 rfl rfl ?_
    refine a_aload_n dX5_letters_8 rfl rfl ?_
    refine a_getI (J := 7) fX5_43 k2 rfl rfl dX5_letters_9 ?_
    refine a_topI (y := e) h7 ?_
    refine a_icmp_ge (tgt := 38) dX5_letters_12 (by decide) (inR_of (by omega) (by omega)) (inR_of (by omega) (by omega)) (fun c12 => ?_) (fun c12 => ?_)
    · exfalso; omega
    · refine a_iload_n dX5_letters_15 rfl rfl ?_
      refine a_bipush (x := 27) dX5_letters_16 (by decide) ?_
      refine a_imul dX5_letters_18 ?_
      refine a_aload_n dX5_letters_19 rfl rfl ?_
      refine a_getR (d := 1) (J := 3) fX5_15 k2 rfl q2_3 rfl hI.1 dX5_letters_20 ?_
      refine a_iload_n dX5_letters_23 rfl rfl ?_
      refine a_bld k1 n1 (by omega) (by omega) dX5_letters_24 ?_
      refine a_topI (y := sgB (T i)) (hI.2.2.2.1 i (by omega) (by omega)) ?_
      have hb108 := hI.2.2.2.2 i
      refine a_topI (y := T i) (by have hz := hsm i (by omega) (by omega); unfold sgB; rw [if_pos (by omega)]) ?_
      refine a_bipush (x := 97) dX5_letters_25 (by decide) ?_
      refine a_isub dX5_letters_27 ?_
      refine a_iconst dX5_letters_28 ?_
      refine a_iadd dX5_letters_29 ?_
      refine a_iadd dX5_letters_30 ?_
      refine a_istore_n (ls' := [(1, ai (v * 27 + (T i - 97 + 1))), (2, ai i), (0, ar 2)]) dX5_letters_31 rfl (Nat.le_of_ble_eq_true rfl) rfl ?_
      refine a_iinc (y := i + 1) (ls' := [(2, ai (i + 1)), (1, ai (v * 27 + (T i - 97 + 1))), (0, ar 2)]) dX5_letters_32 rfl rfl (Nat.le_of_ble_eq_true rfl) rfl ?_
      refine a_goto (tgt := 7) dX5_letters_35 (by decide) ?_
      exact a_keep (by simp) (ih (i + 1) (v * 27 + (T i - 97 + 1)) (by omega) (by omega) (by omega) (by rw [hE]; rfl))

set_option maxRecDepth 20000 in
theorem c_letters (σ : Sto) (T : Int → Int) (n0 : Int) (hI : RdI σ T n0) (p e : Int) (h6 : gN σ 2 6 = p) (h7 : gN σ 2 7 = e) (hp0 : 0 ≤ p) (hpe : p ≤ e) (he : e ≤ n0) (hsm : ∀ j : Int, p ≤ j → j < e → 97 ≤ T j ∧ T j ≤ 122) : MetI mX5_letters [ar 2] σ (ltF T (e - p).toNat p 0) σ := by
  have hn0 := hI.2.2.1
  refine a_entry (by decide) (Nat.le_of_ble_eq_true rfl) ?_
  refine a_ls (ls' := [(0, ar 2)]) rfl ?_
  refine a_iconst dX5_letters_0 ?_
  refine a_istore_n (ls' := [(1, ai 0), (0, ar 2)]) dX5_letters_1 rfl (Nat.le_of_ble_eq_true rfl) rfl ?_
  refine a_aload_n dX5_letters_2 rfl rfl ?_
  refine a_getI (J := 6) fX5_139 k2 rfl rfl dX5_letters_3 ?_
  refine a_topI (y := p) h6 ?_
  refine a_istore_n (ls' := [(2, ai p), (1, ai 0), (0, ar 2)]) dX5_letters_6 rfl (Nat.le_of_ble_eq_true rfl) rfl ?_
  exact a_keep (by simp) (c_lt_l σ T n0 hI p e h6 h7 hp0 hpe he hsm _ (e - p).toNat p 0 (by omega) (by omega) (by omega) rfl)

set_option maxRecDepth 20000 in
theorem c_dg_l (σ : Sto) (T : Int → Int) (n0 : Int) (hI : RdI σ T n0) (p e : Int) (h6 : gN σ 2 6 = p) (h7 : gN σ 2 7 = e) (hp0 : 0 ≤ p) (hpe : p ≤ e) (he : e ≤ n0) (k : Int) (h8 : gN σ 2 8 = k) (hk : inR k) (hdg : k = 2 → ∀ j : Int, p ≤ j → j < e → 48 ≤ T j ∧ T j ≤ 57) (V : Int) : ∀ (n : Nat) (i : Int) (v : Int), p ≤ i → i ≤ e → n = (e - i).toNat → 0 ≤ v → v ≤ 10000009 → V = (if k = 2 then dgF T n i v else v) → RunA mX5_digits (qI V σ) 7 [(2, ai i), (1, ai v), (0, ar 2)] [] σ := by
  have hn0 := hI.2.2.1
  intro n
  induction n with
  | zero =>
    intro i v h0 h5 hn hv0 hv1 hE
    refine a_iload_n dX5_digits_7 rfl rfl ?_
    refine a_aload_n dX5_digits_8 rfl rfl ?_
    refine a_getI (J := 7) fX5_43 k2 rfl rfl dX5_digits_9 ?_
    refine a_topI (y := e) h7 ?_
    refine a_icmp_ge (tgt := 50) dX5_digits_12 (by decide) (inR_of (by omega) (by omega)) (inR_of (by omega) (by omega)) (fun c12 => ?_) (fun c12 => ?_)
    · refine a_iload_n dX5_digits_50 rfl rfl ?_
      exact a_iret rfl ⟨by rw [hE]; split <;> rfl, rfl⟩ dX5_digits_51
    · exfalso; omega
  | succ n ih =>
    intro i v h0 h5 hn hv0 hv1 hE
    refine a_iload_n dX5_digits_7 rfl rfl ?_
    refine a_aload_n dX5_digits_8 rfl rfl ?_
    refine a_getI (J := 7) fX5_43 k2 rfl rfl dX5_digits_9 ?_
    refine a_topI (y := e) h7 ?_
    refine a_icmp_ge (tgt := 50) dX5_digits_12 (by decide) (inR_of (by omega) (by omega)) (inR_of (by omega) (by omega)) (fun c12 => ?_) (fun c12 => ?_)
    · exfalso; omega
    · refine a_aload_n dX5_digits_15 rfl rfl ?_
      refine a_getI (J := 8) fX5_49 k2 rfl rfl dX5_digits_16 ?_
      refine a_topI (y := k) h8 ?_
      refine a_iconst dX5_digits_19 ?_
      refine a_icmp_ne (tgt := 50) dX5_digits_20 (by decide) hk (inR_of (by omega) (by omega)) (fun c20 => ?_) (fun c20 => ?_)
      · refine a_iload_n dX5_digits_50 rfl rfl ?_
        exact a_iret rfl ⟨by rw [hE, if_neg (by omega)], rfl⟩ dX5_digits_51
      · refine a_iload_n dX5_digits_23 rfl rfl ?_
        refine a_ldc (x := 1000000) cX5_155 (by decide) dX5_digits_24 ?_
        refine a_icmp_ge (tgt := 50) dX5_digits_26 (by decide) (inR_of (by omega) (by omega)) (inR_of (by omega) (by omega)) (fun c26 => ?_) (fun c26 => ?_)
        · refine a_iload_n dX5_digits_50 rfl rfl ?_
          exact a_iret rfl ⟨by rw [hE, if_pos (by omega), dgF, if_neg (by omega)], rfl⟩ dX5_digits_51
        · refine a_iload_n dX5_digits_29 rfl rfl ?_
          refine a_bipush (x := 10) dX5_digits_30 (by decide) ?_
          refine a_imul dX5_digits_32 ?_
          refine a_aload_n dX5_digits_33 rfl rfl ?_
          refine a_getR (d := 1) (J := 3) fX5_15 k2 rfl q2_3 rfl hI.1 dX5_digits_34 ?_
          refine a_iload_n dX5_digits_37 rfl rfl ?_
          refine a_bld k1 n1 (by omega) (by omega) dX5_digits_38 ?_
          refine a_topI (y := sgB (T i)) (hI.2.2.2.1 i (by omega) (by omega)) ?_
          have hb109 := hI.2.2.2.2 i
          have hz := hdg (by omega) i (by omega) (by omega)
          refine a_topI (y := T i) (by unfold sgB; rw [if_pos (by omega)]) ?_
          refine a_bipush (x := 48) dX5_digits_39 (by decide) ?_
          refine a_isub dX5_digits_41 ?_
          refine a_iadd dX5_digits_42 ?_
          refine a_istore_n (ls' := [(1, ai (v * 10 + (T i - 48))), (2, ai i), (0, ar 2)]) dX5_digits_43 rfl (Nat.le_of_ble_eq_true rfl) rfl ?_
          refine a_iinc (y := i + 1) (ls' := [(2, ai (i + 1)), (1, ai (v * 10 + (T i - 48))), (0, ar 2)]) dX5_digits_44 rfl rfl (Nat.le_of_ble_eq_true rfl) rfl ?_
          refine a_goto (tgt := 7) dX5_digits_47 (by decide) ?_
          exact a_keep (by simp) (ih (i + 1) (v * 10 + (T i - 48)) (by omega) (by omega) (by omega) (by omega) (by omega) (by rw [hE, if_pos (by omega), if_pos (by omega), dgF, if_pos (by omega)]))

set_option maxRecDepth 20000 in
theorem c_digits (σ : Sto) (T : Int → Int) (n0 : Int) (hI : RdI σ T n0) (p e : Int) (h6 : gN σ 2 6 = p) (h7 : gN σ 2 7 = e) (hp0 : 0 ≤ p) (hpe : p ≤ e) (he : e ≤ n0) (k : Int) (h8 : gN σ 2 8 = k) (hk : inR k) (hdg : k = 2 → ∀ j : Int, p ≤ j → j < e → 48 ≤ T j ∧ T j ≤ 57) : MetI mX5_digits [ar 2] σ (if k = 2 then dgF T (e - p).toNat p 0 else 0) σ := by
  have hn0 := hI.2.2.1
  refine a_entry (by decide) (Nat.le_of_ble_eq_true rfl) ?_
  refine a_ls (ls' := [(0, ar 2)]) rfl ?_
  refine a_iconst dX5_digits_0 ?_
  refine a_istore_n (ls' := [(1, ai 0), (0, ar 2)]) dX5_digits_1 rfl (Nat.le_of_ble_eq_true rfl) rfl ?_
  refine a_aload_n dX5_digits_2 rfl rfl ?_
  refine a_getI (J := 6) fX5_139 k2 rfl rfl dX5_digits_3 ?_
  refine a_topI (y := p) h6 ?_
  refine a_istore_n (ls' := [(2, ai p), (1, ai 0), (0, ar 2)]) dX5_digits_6 rfl (Nat.le_of_ble_eq_true rfl) rfl ?_
  exact a_keep (by simp) (c_dg_l σ T n0 hI p e h6 h7 hp0 hpe he k h8 hk hdg _ (e - p).toNat p 0 (by omega) (by omega) (by omega) (by omega) (by omega) rfl)

def adP (T : Int → Int) (n b : Int) : Int := spK T n 4 (n - b).toNat b
def adE (T : Int → Int) (n p : Int) : Int := if kdF T n p = 1 ∨ kdF T n p = 2 then spK T n (kdF T n p) (n - p).toNat p else if p + 1 < n then p + 1 else n
def adK (T : Int → Int) (n p : Int) : Int := if kdF T n p = 1 ∧ 6 < adE T n p - p then 5 else kdF T n p
def adV (T : Int → Int) (n p : Int) : Int := if adK T n p = 1 then ltF T (adE T n p - p).toNat p 0 else if adK T n p = 2 then dgF T (adE T n p - p).toNat p 0 else 0
def AdP (σ u : Sto) (T : Int → Int) (n p : Int) : Prop := Fg pAd σ u ∧ gN u 2 6 = p ∧ gN u 2 7 = adE T n p ∧ gN u 2 8 = adK T n p ∧ gN u 2 9 = nrm (adV T n p)
theorem spn_all {q : Int → Bool} : ∀ (d : Nat) (p j : Int), p ≤ j → j < spn q d p → q j = true
  | 0, p, j, h0, h1 => by unfold spn at h1; omega
  | d + 1, p, j, h0, h1 => by
    unfold spn at h1
    split at h1
    · by_cases e : j = p
      · rw [e]; assumption
      · exact spn_all d (p + 1) j (by omega) h1
    · omega
theorem ad_rng {T : Int → Int} {n b : Int} (h0 : 0 ≤ b) (h1 : b ≤ n) : b ≤ adP T n b ∧ adP T n b ≤ n := by
  have z := spn_ge (q := fun y => decide (kdF T n y = 4)) (n - b).toNat b
  unfold adP spK
  omega
theorem adE_rng {T : Int → Int} {n p : Int} (h1 : p ≤ n) : p ≤ adE T n p ∧ adE T n p ≤ n := by
  have z := spn_ge (q := fun y => decide (kdF T n y = kdF T n p)) (n - p).toNat p
  unfold adE spK
  split
  · omega
  · split <;> omega
theorem adE_all {T : Int → Int} {n p : Int} (hk : kdF T n p = 1 ∨ kdF T n p = 2) : ∀ j, p ≤ j → j < adE T n p → kdF T n j = kdF T n p := by
  intro j h0 h1
  unfold adE at h1
  rw [if_pos hk] at h1
  exact of_decide_eq_true (spn_all _ _ j h0 h1)
theorem kd1 {T : Int → Int} {n j : Int} (h : kdF T n j = 1) : 97 ≤ T j ∧ T j ≤ 122 := by
  unfold kdF at h
  (repeat' split at h) <;> first | assumption | omega
theorem kd2 {T : Int → Int} {n j : Int} (h : kdF T n j = 2) : 48 ≤ T j ∧ T j ≤ 57 := by
  unfold kdF at h
  (repeat' split at h) <;> first | assumption | omega

set_option maxRecDepth 20000 in
theorem c_ad_1 (σ : Sto) (T : Int → Int) (n0 : Int) (hI : RdI σ T n0) (Q : Option Av → Sto → Prop) (Pz : Int) (hx : ∀ υ : Sto, Fg (fun c j => c = 2 ∧ j = 6) σ υ → gN υ 2 6 = Pz → RunA mX5_advance Q 44 [(0, ar 2)] [] υ) : ∀ (n : Nat) (x : Int) (τ : Sto), 0 ≤ x → x ≤ n0 → n = (n0 - x).toNat → Fg (fun c j => c = 2 ∧ j = 6) σ τ → gN τ 2 6 = x → Pz = spK T n0 4 n x → RunA mX5_advance Q 8 [(0, ar 2)] [] τ := by
  have hn0 := hI.2.2.1
  intro n
  induction n with
  | zero =>
    intro x τ h0 h5 hn hF hx6 hE
    have hIτ : RdI τ T n0 := hI.fr (hF.mono (fun c j z => by unfold pAd; omega))
    refine a_aload_n dX5_advance_8 rfl rfl ?_
    refine a_getI (J := 6) fX5_139 k2 rfl rfl dX5_advance_9 ?_
    refine a_topI (y := x) hx6 ?_
    refine a_aload_n dX5_advance_12 rfl rfl ?_
    refine a_getI (J := 4) fX5_25 k2 rfl rfl dX5_advance_13 ?_
    refine a_topI (y := n0) hIτ.2.1 ?_
    refine a_icmp_ge (tgt := 44) dX5_advance_16 (by decide) (inR_of (by omega) (by omega)) (inR_of (by omega) (by omega)) (fun c16 => ?_) (fun c16 => ?_)
    · exact a_keep (by simp) (hx τ hF (by rw [hE]; exact hx6))
    · exfalso; omega
  | succ n ih =>
    intro x τ h0 h5 hn hF hx6 hE
    have hIτ : RdI τ T n0 := hI.fr (hF.mono (fun c j z => by unfold pAd; omega))
    refine a_aload_n dX5_advance_8 rfl rfl ?_
    refine a_getI (J := 6) fX5_139 k2 rfl rfl dX5_advance_9 ?_
    refine a_topI (y := x) hx6 ?_
    refine a_aload_n dX5_advance_12 rfl rfl ?_
    refine a_getI (J := 4) fX5_25 k2 rfl rfl dX5_advance_13 ?_
    refine a_topI (y := n0) hIτ.2.1 ?_
    refine a_icmp_ge (tgt := 44) dX5_advance_16 (by decide) (inR_of (by omega) (by omega)) (inR_of (by omega) (by omega)) (fun c16 => ?_) (fun c16 => ?_)
    · exfalso; omega
    · refine a_aload_n dX5_advance_19 rfl rfl ?_
      refine a_aload_n dX5_advance_20 rfl rfl ?_
      refine a_getI (J := 6) fX5_139 k2 rfl rfl dX5_advance_21 ?_
      refine a_topI (y := x) hx6 ?_
      refine a_cI (c := 2) (as := [ai x]) (rest := []) (c_kindAt τ T n0 hIτ x (by omega) (by omega)) mvX5_kindAt lX5_146 k2 (by decide) rfl rfl rfl rfl (Nat.le_of_ble_eq_true rfl) (Nat.le_of_ble_eq_true rfl) (Nat.le_of_ble_eq_true rfl) dX5_advance_24 ?_
      have hkr128 := kdF_rng T n0 x
      refine a_iconst dX5_advance_27 ?_
      refine a_icmp_ne (tgt := 44) dX5_advance_28 (by decide) (inR_of (by omega) (by omega)) (inR_of (by omega) (by omega)) (fun c28 => ?_) (fun c28 => ?_)
      · exact a_keep (by simp) (hx τ hF (by rw [hE, spK, spn_s0 (decide_eq_false (by assumption))]; exact hx6))
      · refine a_aload_n dX5_advance_31 rfl rfl ?_
        refine a_dup dX5_advance_32 rfl ?_
        refine a_getI (J := 6) fX5_139 k2 rfl rfl dX5_advance_33 ?_
        refine a_topI (y := x) hx6 ?_
        refine a_iconst dX5_advance_36 ?_
        refine a_iadd dX5_advance_37 ?_
        refine a_putI (J := 6) fX5_139 k2 rfl rfl rfl dX5_advance_38 ?_
        refine a_goto (tgt := 8) dX5_advance_41 (by decide) ?_
        refine a_keep (by simp) (ih (x + 1) (sN τ 2 6 (x + 1)) (by omega) (by omega) (by omega) (hF.sN (by omega)) (by rw [gN_sN, if_pos ⟨rfl, rfl⟩, nrm_of (inR_of (by omega) (by omega))]) (by rw [hE]; exact spn_s1 (decide_eq_true (by omega))))

set_option maxRecDepth 20000 in
theorem c_ad_3 (σ : Sto) (T : Int → Int) (n0 : Int) (hI : RdI σ T n0) (Q : Option Av → Sto → Prop) (p : Int) (hp0 : 0 ≤ p) (hp1 : p ≤ n0) (h6 : gN σ 2 6 = p) (h7 : gN σ 2 7 = adE T n0 p) (h8 : gN σ 2 8 = kdF T n0 p) (hQ : ∀ u, AdP σ u T n0 p → Q none u) : RunA mX5_advance Q 128 [(0, ar 2)] [] σ := by
  have hn0 := hI.2.2.1
  have her := adE_rng (T := T) (n := n0) (p := p) hp1
  have hkr := kdF_rng T n0 p
  refine a_aload_n dX5_advance_128 rfl rfl ?_
  refine a_getI (J := 8) fX5_49 k2 rfl rfl dX5_advance_129 ?_
  refine a_topI (y := kdF T n0 p) h8 ?_
  refine a_iconst dX5_advance_132 ?_
  refine a_icmp_ne (tgt := 155) dX5_advance_133 (by decide) (inR_of (by omega) (by omega)) (inR_of (by omega) (by omega)) (fun c133 => ?_) (fun c133 => ?_)
  · refine a_aload_n dX5_advance_155 rfl rfl ?_
    refine a_aload_n dX5_advance_156 rfl rfl ?_
    refine a_getI (J := 8) fX5_49 k2 rfl rfl dX5_advance_157 ?_
    refine a_topI (y := kdF T n0 p) h8 ?_
    refine a_iconst dX5_advance_160 ?_
    refine a_icmp_ne (tgt := 171) dX5_advance_161 (by decide) (inR_of (by omega) (by omega)) (inR_of (by omega) (by omega)) (fun c161 => ?_) (fun c161 => ?_)
    · refine a_aload_n dX5_advance_171 rfl rfl ?_
      refine a_cI (c := 2) (as := []) (rest := [ar 2]) (c_digits σ T n0 hI p (adE T n0 p) h6 h7 hp0 her.1 her.2 (kdF T n0 p) h8 (inR_of (by omega) (by omega)) (fun e j j0 j1 => kd2 ((adE_all (Or.inr e) j j0 j1).trans e))) mvX5_digits lX5_152 k2 (by decide) rfl rfl rfl rfl (Nat.le_of_ble_eq_true rfl) (Nat.le_of_ble_eq_true rfl) (Nat.le_of_ble_eq_true rfl) dX5_advance_172 ?_
      refine a_putI (J := 9) fX5_62 k2 rfl rfl rfl dX5_advance_175 ?_
      exact a_vret rfl (by
    have ek : adK T n0 p = kdF T n0 p := by unfold adK; rw [if_neg (by omega)]
    exact hQ _ ⟨Fg.rfl.sN (by unfold pAd; omega), by rw [gN_sN, if_neg (by omega)]; exact h6, by rw [gN_sN, if_neg (by omega)]; exact h7, by rw [gN_sN, if_neg (by omega), ek]; exact h8, by rw [gN_sN, if_pos ⟨rfl, rfl⟩]; unfold adV; rw [ek]; rw [if_neg (show ¬ kdF T n0 p = 1 by omega)]⟩) dX5_advance_178
    · refine a_aload_n dX5_advance_164 rfl rfl ?_
      refine a_cI (c := 2) (as := []) (rest := [ar 2]) (c_letters σ T n0 hI p (adE T n0 p) h6 h7 hp0 her.1 her.2 (fun j j0 j1 => kd1 ((adE_all (by omega) j j0 j1).trans (by omega)))) mvX5_letters lX5_149 k2 (by decide) rfl rfl rfl rfl (Nat.le_of_ble_eq_true rfl) (Nat.le_of_ble_eq_true rfl) (Nat.le_of_ble_eq_true rfl) dX5_advance_165 ?_
      refine a_goto (tgt := 175) dX5_advance_168 (by decide) ?_
      refine a_putI (J := 9) fX5_62 k2 rfl rfl rfl dX5_advance_175 ?_
      exact a_vret rfl (by
    have ek : adK T n0 p = kdF T n0 p := by unfold adK; rw [if_neg (by omega)]
    exact hQ _ ⟨Fg.rfl.sN (by unfold pAd; omega), by rw [gN_sN, if_neg (by omega)]; exact h6, by rw [gN_sN, if_neg (by omega)]; exact h7, by rw [gN_sN, if_neg (by omega), ek]; exact h8, by rw [gN_sN, if_pos ⟨rfl, rfl⟩]; unfold adV; rw [ek]; rw [if_pos (by omega)]⟩) dX5_advance_178
  · refine a_aload_n dX5_advance_136 rfl rfl ?_
    refine a_getI (J := 7) fX5_43 k2 rfl rfl dX5_advance_137 ?_
    refine a_topI (y := adE T n0 p) h7 ?_
    refine a_aload_n dX5_advance_140 rfl rfl ?_
    refine a_getI (J := 6) fX5_139 k2 rfl rfl dX5_advance_141 ?_
    refine a_topI (y := p) h6 ?_
    refine a_isub dX5_advance_144 ?_
    refine a_bipush (x := 6) dX5_advance_145 (by decide) ?_
    refine a_icmp_le (tgt := 155) dX5_advance_147 (by decide) (inR_of (by omega) (by omega)) (inR_of (by omega) (by omega)) (fun c147 => ?_) (fun c147 => ?_)
    · refine a_aload_n dX5_advance_155 rfl rfl ?_
      refine a_aload_n dX5_advance_156 rfl rfl ?_
      refine a_getI (J := 8) fX5_49 k2 rfl rfl dX5_advance_157 ?_
      refine a_topI (y := kdF T n0 p) h8 ?_
      refine a_iconst dX5_advance_160 ?_
      refine a_icmp_ne (tgt := 171) dX5_advance_161 (by decide) (inR_of (by omega) (by omega)) (inR_of (by omega) (by omega)) (fun c161 => ?_) (fun c161 => ?_)
      · refine a_aload_n dX5_advance_171 rfl rfl ?_
        refine a_cI (c := 2) (as := []) (rest := [ar 2]) (c_digits σ T n0 hI p (adE T n0 p) h6 h7 hp0 her.1 her.2 (kdF T n0 p) h8 (inR_of (by omega) (by omega)) (fun e j j0 j1 => kd2 ((adE_all (Or.inr e) j j0 j1).trans e))) mvX5_digits lX5_152 k2 (by decide) rfl rfl rfl rfl (Nat.le_of_ble_eq_true rfl) (Nat.le_of_ble_eq_true rfl) (Nat.le_of_ble_eq_true rfl) dX5_advance_172 ?_
        refine a_putI (J := 9) fX5_62 k2 rfl rfl rfl dX5_advance_175 ?_
        exact a_vret rfl (by
    have ek : adK T n0 p = kdF T n0 p := by unfold adK; rw [if_neg (by omega)]
    exact hQ _ ⟨Fg.rfl.sN (by unfold pAd; omega), by rw [gN_sN, if_neg (by omega)]; exact h6, by rw [gN_sN, if_neg (by omega)]; exact h7, by rw [gN_sN, if_neg (by omega), ek]; exact h8, by rw [gN_sN, if_pos ⟨rfl, rfl⟩]; unfold adV; rw [ek]; rw [if_neg (show ¬ kdF T n0 p = 1 by omega)]⟩) dX5_advance_178
      · refine a_aload_n dX5_advance_164 rfl rfl ?_
        refine a_cI (c := 2) (as := []) (rest := [ar 2]) (c_letters σ T n0 hI p (adE T n0 p) h6 h7 hp0 her.1 her.2 (fun j j0 j1 => kd1 ((adE_all (by omega) j j0 j1).trans (by omega)))) mvX5_letters lX5_149 k2 (by decide) rfl rfl rfl rfl (Nat.le_of_ble_eq_true rfl) (Nat.le_of_ble_eq_true rfl) (Nat.le_of_ble_eq_true rfl) dX5_advance_165 ?_
        refine a_goto (tgt := 175) dX5_advance_168 (by decide) ?_
        refine a_putI (J := 9) fX5_62 k2 rfl rfl rfl dX5_advance_175 ?_
        exact a_vret rfl (by
    have ek : adK T n0 p = kdF T n0 p := by unfold adK; rw [if_neg (by omega)]
    exact hQ _ ⟨Fg.rfl.sN (by unfold pAd; omega), by rw [gN_sN, if_neg (by omega)]; exact h6, by rw [gN_sN, if_neg (by omega)]; exact h7, by rw [gN_sN, if_neg (by omega), ek]; exact h8, by rw [gN_sN, if_pos ⟨rfl, rfl⟩]; unfold adV; rw [ek]; rw [if_pos (by omega)]⟩) dX5_advance_178
    · refine a_aload_n dX5_advance_150 rfl rfl ?_
      refine a_iconst dX5_advance_151 ?_
      refine a_putI (J := 8) fX5_49 k2 rfl rfl rfl dX5_advance_152 ?_
      refine a_aload_n dX5_advance_155 rfl rfl ?_
      refine a_aload_n dX5_advance_156 rfl rfl ?_
      refine a_getI (J := 8) fX5_49 k2 rfl rfl dX5_advance_157 ?_
      refine a_topI (y := 5) (by rw [gN_sN, if_pos ⟨rfl, rfl⟩]; rfl) ?_
      refine a_iconst dX5_advance_160 ?_
      refine a_icmp_ne (tgt := 171) dX5_advance_161 (by decide) (inR_of (by omega) (by omega)) (inR_of (by omega) (by omega)) (fun c161 => ?_) (fun c161 => ?_)
      · refine a_aload_n dX5_advance_171 rfl rfl ?_
        refine a_cI (c := 2) (as := []) (rest := [ar 2]) (c_digits (sN σ 2 8 5) T n0 (hI.put (by omega)) p (adE T n0 p) (by rw [gN_sN, if_neg (by omega)]; exact h6) (by rw [gN_sN, if_neg (by omega)]; exact h7) hp0 her.1 her.2 5 (by rw [gN_sN, if_pos ⟨rfl, rfl⟩]; rfl) (inR_of (by omega) (by omega)) (fun e => absurd e (by decide))) mvX5_digits lX5_152 k2 (by decide) rfl rfl rfl rfl (Nat.le_of_ble_eq_true rfl) (Nat.le_of_ble_eq_true rfl) (Nat.le_of_ble_eq_true rfl) dX5_advance_172 ?_
        refine a_putI (J := 9) fX5_62 k2 rfl rfl rfl dX5_advance_175 ?_
        exact a_vret rfl (by
    have ek : adK T n0 p = 5 := by unfold adK; rw [if_pos (by omega)]
    exact hQ _ ⟨(Fg.rfl.sN (by unfold pAd; omega)).sN (by unfold pAd; omega), by rw [gN_sN, if_neg (by omega), gN_sN, if_neg (by omega)]; exact h6, by rw [gN_sN, if_neg (by omega), gN_sN, if_neg (by omega)]; exact h7, by rw [gN_sN, if_neg (by omega), gN_sN, if_pos ⟨rfl, rfl⟩, ek]; rfl, by rw [gN_sN, if_pos ⟨rfl, rfl⟩]; unfold adV; rw [ek]; rfl⟩) dX5_advance_178
      · exact absurd c161 (by decide)

set_option maxRecDepth 20000 in
theorem c_ad_2 (σ : Sto) (T : Int → Int) (n0 : Int) (hI : RdI σ T n0) (Q : Option Av → Sto → Prop) (p : Int) (hp0 : 0 ≤ p) (hp1 : p ≤ n0) (h6 : gN σ 2 6 = p) (h8 : gN σ 2 8 = kdF T n0 p) (hk : kdF T n0 p = 1 ∨ kdF T n0 p = 2) (hx : ∀ υ : Sto, Fg (fun c j => c = 2 ∧ j = 7) σ υ → gN υ 2 7 = adE T n0 p → RunA mX5_advance Q 128 [(0, ar 2)] [] υ) : ∀ (n : Nat) (x : Int) (τ : Sto), p < x → x ≤ n0 → n = (n0 - x).toNat → Fg (fun c j => c = 2 ∧ j = 7) σ τ → gN τ 2 7 = x → adE T n0 p = spK T n0 (kdF T n0 p) n x → RunA mX5_advance Q 89 [(0, ar 2)] [] τ := by
  have hn0 := hI.2.2.1
  intro n
  induction n with
  | zero =>
    intro x τ h0 h5 hn hF hx7 hE
    have hIτ : RdI τ T n0 := hI.fr (hF.mono (fun c j z => by unfold pAd; omega))
    have h6τ : gN τ 2 6 = p := (hF.n (by omega)).trans h6
    have h8τ : gN τ 2 8 = kdF T n0 p := (hF.n (by omega)).trans h8
    refine a_aload_n dX5_advance_89 rfl rfl ?_
    refine a_getI (J := 7) fX5_43 k2 rfl rfl dX5_advance_90 ?_
    refine a_topI (y := x) hx7 ?_
    refine a_aload_n dX5_advance_93 rfl rfl ?_
    refine a_getI (J := 4) fX5_25 k2 rfl rfl dX5_advance_94 ?_
    refine a_topI (y := n0) hIτ.2.1 ?_
    refine a_icmp_ge (tgt := 128) dX5_advance_97 (by decide) (inR_of (by omega) (by omega)) (inR_of (by omega) (by omega)) (fun c97 => ?_) (fun c97 => ?_)
    · exact a_keep (by simp) (hx τ hF (by rw [hE]; exact hx7))
    · exfalso; omega
  | succ n ih =>
    intro x τ h0 h5 hn hF hx7 hE
    have hIτ : RdI τ T n0 := hI.fr (hF.mono (fun c j z => by unfold pAd; omega))
    have h6τ : gN τ 2 6 = p := (hF.n (by omega)).trans h6
    have h8τ : gN τ 2 8 = kdF T n0 p := (hF.n (by omega)).trans h8
    refine a_aload_n dX5_advance_89 rfl rfl ?_
    refine a_getI (J := 7) fX5_43 k2 rfl rfl dX5_advance_90 ?_
    refine a_topI (y := x) hx7 ?_
    refine a_aload_n dX5_advance_93 rfl rfl ?_
    refine a_getI (J := 4) fX5_25 k2 rfl rfl dX5_advance_94 ?_
    refine a_topI (y := n0) hIτ.2.1 ?_
    refine a_icmp_ge (tgt := 128) dX5_advance_97 (by decide) (inR_of (by omega) (by omega)) (inR_of (by omega) (by omega)) (fun c97 => ?_) (fun c97 => ?_)
    · exfalso; omega
    · refine a_aload_n dX5_advance_100 rfl rfl ?_
      refine a_aload_n dX5_advance_101 rfl rfl ?_
      refine a_getI (J := 7) fX5_43 k2 rfl rfl dX5_advance_102 ?_
      refine a_topI (y := x) hx7 ?_
      refine a_cI (c := 2) (as := [ai x]) (rest := []) (c_kindAt τ T n0 hIτ x (by omega) (by omega)) mvX5_kindAt lX5_146 k2 (by decide) rfl rfl rfl rfl (Nat.le_of_ble_eq_true rfl) (Nat.le_of_ble_eq_true rfl) (Nat.le_of_ble_eq_true rfl) dX5_advance_105 ?_
      have hkr129 := kdF_rng T n0 x
      refine a_aload_n dX5_advance_108 rfl rfl ?_
      refine a_getI (J := 8) fX5_49 k2 rfl rfl dX5_advance_109 ?_
      refine a_topI (y := kdF T n0 p) h8τ ?_
      refine a_icmp_ne (tgt := 128) dX5_advance_112 (by decide) (inR_of (by omega) (by omega)) (inR_of (by omega) (by omega)) (fun c112 => ?_) (fun c112 => ?_)
      · exact a_keep (by simp) (hx τ hF (by rw [hE, spK, spn_s0 (decide_eq_false (by assumption))]; exact hx7))
      · refine a_aload_n dX5_advance_115 rfl rfl ?_
        refine a_dup dX5_advance_116 rfl ?_
        refine a_getI (J := 7) fX5_43 k2 rfl rfl dX5_advance_117 ?_
        refine a_topI (y := x) hx7 ?_
        refine a_iconst dX5_advance_120 ?_
        refine a_iadd dX5_advance_121 ?_
        refine a_putI (J := 7) fX5_43 k2 rfl rfl rfl dX5_advance_122 ?_
        refine a_goto (tgt := 89) dX5_advance_125 (by decide) ?_
        refine a_keep (by simp) (ih (x + 1) (sN τ 2 7 (x + 1)) (by omega) (by omega) (by omega) (hF.sN (by omega)) (by rw [gN_sN, if_pos ⟨rfl, rfl⟩, nrm_of (inR_of (by omega) (by omega))]) (by rw [hE]; exact spn_s1 (decide_eq_true (by assumption))))

set_option maxRecDepth 20000 in
theorem c_ad_4 (σ : Sto) (T : Int → Int) (n0 : Int) (hI : RdI σ T n0) (Q : Option Av → Sto → Prop) (p : Int) (hp0 : 0 ≤ p) (hp1 : p ≤ n0) (h6 : gN σ 2 6 = p) (hQ : ∀ u, AdP σ u T n0 p → Q none u) : RunA mX5_advance Q 44 [(0, ar 2)] [] σ := by
  have hn0 := hI.2.2.1
  have hkr := kdF_rng T n0 p
  refine a_aload_n dX5_advance_44 rfl rfl ?_
  refine a_aload_n dX5_advance_45 rfl rfl ?_
  refine a_aload_n dX5_advance_46 rfl rfl ?_
  refine a_getI (J := 6) fX5_139 k2 rfl rfl dX5_advance_47 ?_
  refine a_topI (y := p) h6 ?_
  refine a_cI (c := 2) (as := [ai p]) (rest := [ar 2]) (c_kindAt σ T n0 hI p (by omega) (by omega)) mvX5_kindAt lX5_146 k2 (by decide) rfl rfl rfl rfl (Nat.le_of_ble_eq_true rfl) (Nat.le_of_ble_eq_true rfl) (Nat.le_of_ble_eq_true rfl) dX5_advance_50 ?_
  have hkr130 := kdF_rng T n0 p
  refine a_putI (J := 8) fX5_49 k2 rfl rfl rfl dX5_advance_53 ?_
  refine a_aload_n dX5_advance_56 rfl rfl ?_
  refine a_aload_n dX5_advance_57 rfl rfl ?_
  refine a_getI (J := 6) fX5_139 k2 rfl rfl dX5_advance_58 ?_
  refine a_topI (y := p) (by rw [gN_sN, if_neg (by omega)]; exact h6) ?_
  refine a_iconst dX5_advance_61 ?_
  refine a_iadd dX5_advance_62 ?_
  refine a_aload_n dX5_advance_63 rfl rfl ?_
  refine a_getI (J := 4) fX5_25 k2 rfl rfl dX5_advance_64 ?_
  refine a_topI (y := n0) (by rw [gN_sN, if_neg (by omega)]; exact hI.2.1) ?_
  refine a_mmin lm5_19 (inR_of (by omega) (by omega)) (inR_of (by omega) (by omega)) (Nat.le_of_ble_eq_true rfl) (Nat.le_of_ble_eq_true rfl) (Nat.le_of_ble_eq_true rfl) dX5_advance_67 ?_
  obtain ⟨be, hbe⟩ : ∃ z, z = (if n0 < p + 1 then n0 else p + 1) := ⟨_, rfl⟩
  refine a_topI (y := be) hbe.symm ?_
  have hbr : p ≤ be ∧ be ≤ n0 ∧ (p < n0 → be = p + 1) := by rw [hbe]; split <;> omega
  refine a_putI (J := 7) fX5_43 k2 rfl rfl rfl dX5_advance_70 ?_
  refine a_aload_n dX5_advance_73 rfl rfl ?_
  refine a_getI (J := 8) fX5_49 k2 rfl rfl dX5_advance_74 ?_
  refine a_topI (y := kdF T n0 p) (by rw [gN_sN, if_neg (by omega), gN_sN, if_pos ⟨rfl, rfl⟩, nrm_of (inR_of (by omega) (by omega))]) ?_
  refine a_iconst dX5_advance_77 ?_
  refine a_icmp_eq (tgt := 89) dX5_advance_78 (by decide) (inR_of (by omega) (by omega)) (inR_of (by omega) (by omega)) (fun c78 => ?_) (fun c78 => ?_)
  · have hpn : p < n0 := kdF_in (T := T) (n := n0) (p := p) (by omega)
    have hF1 : Fg pAd σ (sN (sN σ 2 8 (kdF T n0 p)) 2 7 be) := (Fg.rfl.sN (by unfold pAd; omega)).sN (by unfold pAd; omega)
    have hI1 := hI.fr hF1
    have e6 : gN (sN (sN σ 2 8 (kdF T n0 p)) 2 7 be) 2 6 = p := by rw [gN_sN, if_neg (by omega), gN_sN, if_neg (by omega)]; exact h6
    have e8 : gN (sN (sN σ 2 8 (kdF T n0 p)) 2 7 be) 2 8 = kdF T n0 p := by rw [gN_sN, if_neg (by omega), gN_sN, if_pos ⟨rfl, rfl⟩, nrm_of (inR_of (by omega) (by omega))]
    have hk : kdF T n0 p = 1 ∨ kdF T n0 p = 2 := by omega
    refine a_keep (by simp) (c_ad_2 (sN (sN σ 2 8 (kdF T n0 p)) 2 7 be) T n0 hI1 _ p hp0 hp1 e6 e8 hk (fun υ a1 a2 => ?_) (n0 - be).toNat be _ (by omega) (by omega) (by omega) Fg.rfl (by rw [gN_sN, if_pos ⟨rfl, rfl⟩, nrm_of (inR_of (by omega) (by omega))]) ?_)
    · exact c_ad_3 υ T n0 (hI1.fr (a1.mono (fun c j z => by unfold pAd; omega))) _ p hp0 hp1 ((a1.n (by omega)).trans e6) a2 ((a1.n (by omega)).trans e8) (fun u hu => hQ u ⟨(hF1.trans (a1.mono (fun c j z => by unfold pAd; omega))).trans hu.1, hu.2⟩)
    · unfold adE
      rw [if_pos hk, show (n0 - p).toNat = (n0 - be).toNat + 1 by omega, spK, spn_s1 (decide_eq_true rfl), show p + 1 = be by omega]
  · refine a_aload_n dX5_advance_81 rfl rfl ?_
    refine a_getI (J := 8) fX5_49 k2 rfl rfl dX5_advance_82 ?_
    refine a_topI (y := kdF T n0 p) (by rw [gN_sN, if_neg (by omega), gN_sN, if_pos ⟨rfl, rfl⟩, nrm_of (inR_of (by omega) (by omega))]) ?_
    refine a_iconst dX5_advance_85 ?_
    refine a_icmp_ne (tgt := 128) dX5_advance_86 (by decide) (inR_of (by omega) (by omega)) (inR_of (by omega) (by omega)) (fun c86 => ?_) (fun c86 => ?_)
    · have hF1 : Fg pAd σ (sN (sN σ 2 8 (kdF T n0 p)) 2 7 be) := (Fg.rfl.sN (by unfold pAd; omega)).sN (by unfold pAd; omega)
      exact c_ad_3 (sN (sN σ 2 8 (kdF T n0 p)) 2 7 be) T n0 (hI.fr hF1) _ p hp0 hp1 (by rw [gN_sN, if_neg (by omega), gN_sN, if_neg (by omega)]; exact h6) (by rw [gN_sN, if_pos ⟨rfl, rfl⟩, nrm_of (inR_of (by omega) (by omega)), adE, if_neg (by omega), hbe]; split <;> split <;> omega) (by rw [gN_sN, if_neg (by omega), gN_sN, if_pos ⟨rfl, rfl⟩, nrm_of (inR_of (by omega) (by omega))]) (fun u hu => hQ u ⟨hF1.trans hu.1, hu.2⟩)
    · have hpn : p < n0 := kdF_in (T := T) (n := n0) (p := p) (by omega)
      have hF1 : Fg pAd σ (sN (sN σ 2 8 (kdF T n0 p)) 2 7 be) := (Fg.rfl.sN (by unfold pAd; omega)).sN (by unfold pAd; omega)
      have hI1 := hI.fr hF1
      have e6 : gN (sN (sN σ 2 8 (kdF T n0 p)) 2 7 be) 2 6 = p := by rw [gN_sN, if_neg (by omega), gN_sN, if_neg (by omega)]; exact h6
      have e8 : gN (sN (sN σ 2 8 (kdF T n0 p)) 2 7 be) 2 8 = kdF T n0 p := by rw [gN_sN, if_neg (by omega), gN_sN, if_pos ⟨rfl, rfl⟩, nrm_of (inR_of (by omega) (by omega))]
      have hk : kdF T n0 p = 1 ∨ kdF T n0 p = 2 := by omega
      refine a_keep (by simp) (c_ad_2 (sN (sN σ 2 8 (kdF T n0 p)) 2 7 be) T n0 hI1 _ p hp0 hp1 e6 e8 hk (fun υ a1 a2 => ?_) (n0 - be).toNat be _ (by omega) (by omega) (by omega) Fg.rfl (by rw [gN_sN, if_pos ⟨rfl, rfl⟩, nrm_of (inR_of (by omega) (by omega))]) ?_)
      · exact c_ad_3 υ T n0 (hI1.fr (a1.mono (fun c j z => by unfold pAd; omega))) _ p hp0 hp1 ((a1.n (by omega)).trans e6) a2 ((a1.n (by omega)).trans e8) (fun u hu => hQ u ⟨(hF1.trans (a1.mono (fun c j z => by unfold pAd; omega))).trans hu.1, hu.2⟩)
      · unfold adE
        rw [if_pos hk, show (n0 - p).toNat = (n0 - be).toNat + 1 by omega, spK, spn_s1 (decide_eq_true rfl), show p + 1 = be by omega]

set_option maxRecDepth 20000 in
theorem c_advance (σ : Sto) (T : Int → Int) (n0 : Int) (hI : RdI σ T n0) (b : Int) (h7 : gN σ 2 7 = b) (hb0 : 0 ≤ b) (hb1 : b ≤ n0) : MetA mX5_advance [ar 2] σ (fun r u => r = none ∧ AdP σ u T n0 (adP T n0 b)) := by
  have hn0 := hI.2.2.1
  refine a_entry (by decide) (Nat.le_of_ble_eq_true rfl) ?_
  refine a_ls (ls' := [(0, ar 2)]) rfl ?_
  refine a_aload_n dX5_advance_0 rfl rfl ?_
  refine a_aload_n dX5_advance_1 rfl rfl ?_
  refine a_getI (J := 7) fX5_43 k2 rfl rfl dX5_advance_2 ?_
  refine a_topI (y := b) h7 ?_
  refine a_putI (J := 6) fX5_139 k2 rfl rfl rfl dX5_advance_5 ?_
  have hF1 : Fg (fun c j => c = 2 ∧ j = 6) σ (sN σ 2 6 b) := Fg.rfl.sN (by omega)
  have hI1 : RdI (sN σ 2 6 b) T n0 := hI.put (by omega)
  have hpr := ad_rng (T := T) hb0 hb1
  exact a_keep (by simp) (c_ad_1 (sN σ 2 6 b) T n0 hI1 _ (adP T n0 b) (fun υ a1 a2 => c_ad_4 υ T n0 (hI1.fr (a1.mono (fun c j z => by unfold pAd; omega))) _ (adP T n0 b) (by omega) (by omega) a2 (fun u hu => ⟨rfl, ((hF1.trans a1).mono (fun c j z => by unfold pAd; omega)).trans hu.1, hu.2⟩)) (n0 - b).toNat b _ (by omega) (by omega) (by omega) Fg.rfl (by rw [gN_sN, if_pos ⟨rfl, rfl⟩, nrm_of (inR_of (by omega) (by omega))]) rfl)

