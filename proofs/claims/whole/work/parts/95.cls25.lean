/-! The class's network as it is told. -/
abbrev pNw (N : Nat) (c : Nat) (_ : Int) : Prop := c = N ∨ (N + 11 ≤ c ∧ c ≤ N + 20)
def NwIs (u : Sto) (N : Nat) (w : Int → Int) : Prop := ∀ a b : Int, 0 ≤ a → a < 10 → 0 ≤ b → b < 10 → gN u (N + 11 + a.toNat) b = w (15 + 10 * a + b)
def cl0 (a b : Int) : Int := if a = b then 0 else 1000000
def NcP (σ u : Sto) (N : Nat) : Prop := Fg (pNw N) σ u ∧ gN u N 0 = 0 ∧ gN u N 1 = 0 ∧ gN u N 2 = 0 ∧ gN u N 3 = 0 ∧ ∀ a b : Int, 0 ≤ a → a < 10 → 0 ≤ b → b < 10 → gN u (N + 11 + a.toNat) b = cl0 a b

set_option maxRecDepth 20000 in
theorem c_ncl_b (y : Sto) (N : Nat) (hNk : Nok N) (Q : Option Av → Sto → Prop) (a : Int) (ha0 : 0 ≤ a) (ha1 : a < 10) (hx : ∀ υ : Sto, Fg (fun c _ => N + 11 ≤ c ∧ c ≤ N + 20) y υ → (∀ x z : Int, 0 ≤ x → x < 10 → 0 ≤ z → z < 10 → x < a + 1 → gN υ (N + 11 + x.toNat) z = cl0 x z) → RunA mX2_clear Q 61 [(1, ai a), (0, ar N)] [] υ) : ∀ (n : Nat) (b : Int) (τ : Sto), 0 ≤ b → b ≤ 10 → n = (10 - b).toNat → Fg (fun c _ => N + 11 ≤ c ∧ c ≤ N + 20) y τ → (∀ x z : Int, 0 ≤ x → x < 10 → 0 ≤ z → z < 10 → x < a ∨ (x = a ∧ z < b) → gN τ (N + 11 + x.toNat) z = cl0 x z) → RunA mX2_clear Q 30 [(2, ai b), (1, ai a), (0, ar N)] [] τ := by
  intro n
  induction n with
  | zero =>
    intro b τ h0 h5 hn hF hZ
    refine a_iload_n dX2_clear_30 rfl rfl ?_
    refine a_bipush (x := 10) dX2_clear_31 (by decide) ?_
    refine a_icmp_ge (tgt := 61) dX2_clear_33 (by decide) (inR_of (by omega) (by omega)) (inR_of (by omega) (by omega)) (fun c33 => ?_) (fun c33 => ?_)
    · exact a_keep (by simp) (hx τ hF (fun x z x0 x1 z0 z1 q => hZ x z x0 x1 z0 z1 (by omega)))
    · exfalso; omega
  | succ n ih =>
    intro b τ h0 h5 hn hF hZ
    refine a_iload_n dX2_clear_30 rfl rfl ?_
    refine a_bipush (x := 10) dX2_clear_31 (by decide) ?_
    refine a_icmp_ge (tgt := 61) dX2_clear_33 (by decide) (inR_of (by omega) (by omega)) (inR_of (by omega) (by omega)) (fun c33 => ?_) (fun c33 => ?_)
    · exfalso; omega
    · refine a_aload_n dX2_clear_36 rfl rfl ?_
      refine a_getF (d := (N + 3)) fX2_20 (kN hNk) rfl (rN_6 hNk) dX2_clear_37 ?_
      refine a_iload_n dX2_clear_40 rfl rfl ?_
      refine a_ald (d := (N + 11 + a.toNat)) (kN_3 hNk) (nN_3 hNk) (by omega) (by omega) (rowN_w hNk (by omega) (by omega)) dX2_clear_41 ?_
      refine a_iload_n dX2_clear_42 rfl rfl ?_
      refine a_iload_n dX2_clear_43 rfl rfl ?_
      refine a_iload_n dX2_clear_44 rfl rfl ?_
      refine a_icmp_ne (tgt := 52) dX2_clear_45 (by decide) (inR_of (by omega) (by omega)) (inR_of (by omega) (by omega)) (fun c45 => ?_) (fun c45 => ?_)
      · refine a_ldc (x := 1000000) cX2_57 (by decide) dX2_clear_52 ?_
        refine a_ist (kNw hNk (by omega) (by omega)) (nNw hNk (by omega) (by omega)) (by omega) (by omega) dX2_clear_54 ?_
        refine a_iinc (y := b + 1) (ls' := [(2, ai (b + 1)), (1, ai a), (0, ar N)]) dX2_clear_55 rfl rfl (Nat.le_of_ble_eq_true rfl) rfl ?_
        refine a_goto (tgt := 30) dX2_clear_58 (by decide) ?_
        refine a_keep (by simp) (ih (b + 1) (sN τ (N + 11 + a.toNat) b 1000000) (by omega) (by omega) (by omega) (hF.sN (by omega)) (fun x z x0 x1 z0 z1 q => ?_))
        rw [gN_sN]
        by_cases e : x = a ∧ z = b
        · rw [if_pos (by rw [e.1, e.2]; exact ⟨rfl, rfl⟩), e.1, e.2, cl0, if_neg (by omega)]; rfl
        · rw [if_neg (by omega)]; exact hZ x z x0 x1 z0 z1 (by omega)
      · refine a_iconst dX2_clear_48 ?_
        refine a_goto (tgt := 54) dX2_clear_49 (by decide) ?_
        refine a_ist (kNw hNk (by omega) (by omega)) (nNw hNk (by omega) (by omega)) (by omega) (by omega) dX2_clear_54 ?_
        refine a_iinc (y := b + 1) (ls' := [(2, ai (b + 1)), (1, ai a), (0, ar N)]) dX2_clear_55 rfl rfl (Nat.le_of_ble_eq_true rfl) rfl ?_
        refine a_goto (tgt := 30) dX2_clear_58 (by decide) ?_
        refine a_keep (by simp) (ih (b + 1) (sN τ (N + 11 + a.toNat) b 0) (by omega) (by omega) (by omega) (hF.sN (by omega)) (fun x z x0 x1 z0 z1 q => ?_))
        rw [gN_sN]
        by_cases e : x = a ∧ z = b
        · rw [if_pos (by rw [e.1, e.2]; exact ⟨rfl, rfl⟩), e.1, e.2, cl0, if_pos (by omega)]; rfl
        · rw [if_neg (by omega)]; exact hZ x z x0 x1 z0 z1 (by omega)

set_option maxRecDepth 20000 in
theorem c_ncl_a (y : Sto) (N : Nat) (hNk : Nok N) : ∀ (n : Nat) (a : Int) (τ : Sto), 0 ≤ a → a ≤ 10 → n = (10 - a).toNat → Fg (fun c _ => N + 11 ≤ c ∧ c ≤ N + 20) y τ → (∀ x z : Int, 0 ≤ x → x < 10 → 0 ≤ z → z < 10 → x < a → gN τ (N + 11 + x.toNat) z = cl0 x z) → RunA mX2_clear (fun r u => r = none ∧ Fg (fun c _ => N + 11 ≤ c ∧ c ≤ N + 20) y u ∧ ∀ x z : Int, 0 ≤ x → x < 10 → 0 ≤ z → z < 10 → gN u (N + 11 + x.toNat) z = cl0 x z) 22 [(1, ai a), (0, ar N)] [] τ := by
  intro n
  induction n with
  | zero =>
    intro a τ h0 h5 hn hF hZ
    refine a_iload_n dX2_clear_22 rfl rfl ?_
    refine a_bipush (x := 10) dX2_clear_23 (by decide) ?_
    refine a_icmp_ge (tgt := 67) dX2_clear_25 (by decide) (inR_of (by omega) (by omega)) (inR_of (by omega) (by omega)) (fun c25 => ?_) (fun c25 => ?_)
    · exact a_vret rfl ⟨rfl, hF, fun x z x0 x1 z0 z1 => hZ x z x0 x1 z0 z1 (by omega)⟩ dX2_clear_67
    · exfalso; omega
  | succ n ih =>
    intro a τ h0 h5 hn hF hZ
    refine a_iload_n dX2_clear_22 rfl rfl ?_
    refine a_bipush (x := 10) dX2_clear_23 (by decide) ?_
    refine a_icmp_ge (tgt := 67) dX2_clear_25 (by decide) (inR_of (by omega) (by omega)) (inR_of (by omega) (by omega)) (fun c25 => ?_) (fun c25 => ?_)
    · exfalso; omega
    · refine a_iconst dX2_clear_28 ?_
      refine a_istore_n (ls' := [(2, ai 0), (1, ai a), (0, ar N)]) dX2_clear_29 rfl (Nat.le_of_ble_eq_true rfl) rfl ?_
      refine a_keep (ls' := [(2, ai 0), (1, ai a), (0, ar N)]) (by simp) ?_
      refine c_ncl_b y N hNk _ a (by omega) (by omega) (fun υ a1 a2 => ?_) 10 0 τ (by omega) (by omega) (by omega) hF (fun x z x0 x1 z0 z1 q => hZ x z x0 x1 z0 z1 (by omega))
      refine a_iinc (y := a + 1) (ls' := [(1, ai (a + 1)), (0, ar N)]) dX2_clear_61 rfl rfl (Nat.le_of_ble_eq_true rfl) rfl ?_
      refine a_goto (tgt := 22) dX2_clear_64 (by decide) ?_
      exact ih (a + 1) υ (by omega) (by omega) (by omega) a1 a2

set_option maxRecDepth 20000 in
theorem c_nClear (σ : Sto) (N : Nat) (hNk : Nok N) : MetA mX2_clear [ar N] σ (fun r u => r = none ∧ NcP σ u N) := by
  refine a_entry (by decide) (Nat.le_of_ble_eq_true rfl) ?_
  refine a_ls (ls' := [(0, ar N)]) rfl ?_
  refine a_aload_n dX2_clear_0 rfl rfl ?_
  refine a_iconst dX2_clear_1 ?_
  refine a_putI (J := 0) fX2_44 (kN hNk) rfl rfl rfl dX2_clear_2 ?_
  refine a_aload_n dX2_clear_5 rfl rfl ?_
  refine a_iconst dX2_clear_6 ?_
  refine a_putI (J := 1) fX2_48 (kN hNk) rfl rfl rfl dX2_clear_7 ?_
  refine a_aload_n dX2_clear_10 rfl rfl ?_
  refine a_iconst dX2_clear_11 ?_
  refine a_putI (J := 2) fX2_51 (kN hNk) rfl rfl rfl dX2_clear_12 ?_
  refine a_aload_n dX2_clear_15 rfl rfl ?_
  refine a_iconst dX2_clear_16 ?_
  refine a_putI (J := 3) fX2_54 (kN hNk) rfl rfl rfl dX2_clear_17 ?_
  refine a_iconst dX2_clear_20 ?_
  refine a_istore_n (ls' := [(1, ai 0), (0, ar N)]) dX2_clear_21 rfl (Nat.le_of_ble_eq_true rfl) rfl ?_
  refine a_keep (by simp) ((c_ncl_a (sN (sN (sN (sN σ N 0 0) N 1 0) N 2 0) N 3 0) N hNk 10 0 _ (by omega) (by omega) (by omega) Fg.rfl (fun x z x0 x1 z0 z1 q => by omega)).mono (fun r u hu => ⟨hu.1, ((((Fg.rfl.sN (Or.inl rfl)).sN (Or.inl rfl)).sN (Or.inl rfl)).sN (Or.inl rfl)).trans (hu.2.1.mono (fun c j z => Or.inr z)), ?_, ?_, ?_, ?_, hu.2.2⟩))
  · rw [hu.2.1.n (by omega)]; simp [gN_sN]; rfl
  · rw [hu.2.1.n (by omega)]; simp [gN_sN]; rfl
  · rw [hu.2.1.n (by omega)]; simp [gN_sN]; rfl
  · rw [hu.2.1.n (by omega)]; simp [gN_sN]; rfl

set_option maxRecDepth 20000 in
theorem c_nsn_l (σ : Sto) (N : Nat) (hNk : Nok N) (S : Int) (hS : gN σ N 0 = S) (hS0 : 0 ≤ S) (hS1 : S ≤ 10) (x : Int) (hx : inR x) (V : Int) : ∀ (n : Nat) (k : Int), 0 ≤ k → k ≤ S → n = (S - k).toNat → V = fs2 (fun k => decide (gN σ (N + 1) k = x)) (-1) n k → RunA mX2_stopNamed (qI V σ) 2 [(2, ai k), (0, ar N), (1, ai x)] [] σ := by
  intro n
  induction n with
  | zero =>
    intro k h0 h5 hn hV
    refine a_iload_n dX2_stopNamed_2 rfl rfl ?_
    refine a_aload_n dX2_stopNamed_3 rfl rfl ?_
    refine a_getI (J := 0) fX2_44 (kN hNk) rfl rfl dX2_stopNamed_4 ?_
    refine a_topI (y := S) hS ?_
    refine a_icmp_ge (tgt := 28) dX2_stopNamed_7 (by decide) (inR_of (by omega) (by omega)) (inR_of (by omega) (by omega)) (fun c7 => ?_) (fun c7 => ?_)
    · refine a_iconst dX2_stopNamed_28 ?_
      exact a_iret rfl ⟨by rw [hV]; rfl, rfl⟩ dX2_stopNamed_29
    · exfalso; omega
  | succ n ih =>
    intro k h0 h5 hn hV
    refine a_iload_n dX2_stopNamed_2 rfl rfl ?_
    refine a_aload_n dX2_stopNamed_3 rfl rfl ?_
    refine a_getI (J := 0) fX2_44 (kN hNk) rfl rfl dX2_stopNamed_4 ?_
    refine a_topI (y := S) hS ?_
    refine a_icmp_ge (tgt := 28) dX2_stopNamed_7 (by decide) (inR_of (by omega) (by omega)) (inR_of (by omega) (by omega)) (fun c7 => ?_) (fun c7 => ?_)
    · exfalso; omega
    · refine a_aload_n dX2_stopNamed_10 rfl rfl ?_
      refine a_getF (d := (N + 1)) fX2_9 (kN hNk) rfl (rN_4 hNk) dX2_stopNamed_11 ?_
      refine a_iload_n dX2_stopNamed_14 rfl rfl ?_
      refine a_ild (kN_1 hNk) (nN_1 hNk) (by omega) (by omega) dX2_stopNamed_15 ?_
      refine a_iload_n dX2_stopNamed_16 rfl rfl ?_
      refine a_icmp_ne (tgt := 22) dX2_stopNamed_17 (by decide) (inR_gN _ _ _) hx (fun c17 => ?_) (fun c17 => ?_)
      · refine a_iinc (y := k + 1) (ls' := [(2, ai (k + 1)), (0, ar N), (1, ai x)]) dX2_stopNamed_22 rfl rfl (Nat.le_of_ble_eq_true rfl) rfl ?_
        refine a_goto (tgt := 2) dX2_stopNamed_25 (by decide) ?_
        exact a_keep (by simp) (ih (k + 1) (by omega) (by omega) (by omega) (by rw [hV, fs2_no (decide_eq_false (by assumption))]))
      · refine a_iload_n dX2_stopNamed_20 rfl rfl ?_
        exact a_iret rfl ⟨by rw [hV, fs2_yes (decide_eq_true (by assumption))], rfl⟩ dX2_stopNamed_21

set_option maxRecDepth 20000 in
theorem c_nStopNamed (σ : Sto) (N : Nat) (hNk : Nok N) (S : Int) (hS : gN σ N 0 = S) (hS0 : 0 ≤ S) (hS1 : S ≤ 10) (x : Int) (hx : inR x) : MetI mX2_stopNamed [ar N, ai x] σ (fs2 (fun k => decide (gN σ (N + 1) k = x)) (-1) S.toNat 0) σ := by
  refine a_entry (by decide) (Nat.le_of_ble_eq_true rfl) ?_
  refine a_ls (ls' := [(0, ar N), (1, ai x)]) rfl ?_
  refine a_iconst dX2_stopNamed_0 ?_
  refine a_istore_n (ls' := [(2, ai 0), (0, ar N), (1, ai x)]) dX2_stopNamed_1 rfl (Nat.le_of_ble_eq_true rfl) rfl ?_
  exact a_keep (by simp) (c_nsn_l σ N hNk S hS hS0 hS1 x hx _ S.toNat 0 (by omega) (by omega) (by omega) rfl)

set_option maxRecDepth 20000 in
theorem c_addStop (σ : Sto) (N : Nat) (hNk : Nok N) (S : Int) (hS : gN σ N 0 = S) (hS0 : 0 ≤ S) (hS1 : S ≤ 10) (hS2 : S < 10) (x m : Int) : MetV mX2_addStop [ar N, ai x, ai m] σ (sN (sN (sN σ (N + 1) S x) (N + 2) S m) N 0 (S + 1)) := by
  refine a_entry (by decide) (Nat.le_of_ble_eq_true rfl) ?_
  refine a_ls (ls' := [(0, ar N), (1, ai x), (2, ai m)]) rfl ?_
  refine a_aload_n dX2_addStop_0 rfl rfl ?_
  refine a_getI (J := 0) fX2_44 (kN hNk) rfl rfl dX2_addStop_1 ?_
  refine a_topI (y := S) hS ?_
  refine a_bipush (x := 10) dX2_addStop_4 (by decide) ?_
  refine a_icmp_ge (tgt := 39) dX2_addStop_6 (by decide) (inR_of (by omega) (by omega)) (inR_of (by omega) (by omega)) (fun c6 => ?_) (fun c6 => ?_)
  · exfalso; omega
  · refine a_aload_n dX2_addStop_9 rfl rfl ?_
    refine a_getF (d := (N + 1)) fX2_9 (kN hNk) rfl (rN_4 hNk) dX2_addStop_10 ?_
    refine a_aload_n dX2_addStop_13 rfl rfl ?_
    refine a_getI (J := 0) fX2_44 (kN hNk) rfl rfl dX2_addStop_14 ?_
    refine a_topI (y := S) hS ?_
    refine a_iload_n dX2_addStop_17 rfl rfl ?_
    refine a_ist (kN_1 hNk) (nN_1 hNk) (by omega) (by omega) dX2_addStop_18 ?_
    refine a_aload_n dX2_addStop_19 rfl rfl ?_
    refine a_getF (d := (N + 2)) fX2_15 (kN hNk) rfl (rN_5 hNk) dX2_addStop_20 ?_
    refine a_aload_n dX2_addStop_23 rfl rfl ?_
    refine a_getI (J := 0) fX2_44 (kN hNk) rfl rfl dX2_addStop_24 ?_
    refine a_topI (y := S) (by rw [gN_sN, if_neg (by omega)]; exact hS) ?_
    refine a_iload_n dX2_addStop_27 rfl rfl ?_
    refine a_ist (kN_2 hNk) (nN_2 hNk) (by omega) (by omega) dX2_addStop_28 ?_
    refine a_aload_n dX2_addStop_29 rfl rfl ?_
    refine a_dup dX2_addStop_30 rfl ?_
    refine a_getI (J := 0) fX2_44 (kN hNk) rfl rfl dX2_addStop_31 ?_
    refine a_topI (y := S) (by rw [gN_sN, if_neg (by omega), gN_sN, if_neg (by omega)]; exact hS) ?_
    refine a_iconst dX2_addStop_34 ?_
    refine a_iadd dX2_addStop_35 ?_
    refine a_putI (J := 0) fX2_44 (kN hNk) rfl rfl rfl dX2_addStop_36 ?_
    exact a_vret rfl ⟨rfl, rfl⟩ dX2_addStop_39

def AwP (σ u : Sto) (N : Nat) (W a b m : Int) : Prop := Fg (fun c j => (c = N ∧ j = 1) ∨ (N + 11 ≤ c ∧ c ≤ N + 20)) σ u ∧ gN u N 1 = W + 1 ∧ ∀ x y : Int, 0 ≤ x → x < 10 → 0 ≤ y → y < 10 → gN u (N + 11 + x.toNat) y = if (x = a ∧ y = b) ∨ (x = b ∧ y = a) then (if m < gN σ (N + 11 + a.toNat) b then m else gN σ (N + 11 + a.toNat) b) else gN σ (N + 11 + x.toNat) y

set_option maxRecDepth 20000 in
theorem c_addWalk (σ : Sto) (N : Nat) (hNk : Nok N) (W : Int) (hWk : gN σ N 1 = W) (hW0 : 0 ≤ W) (hW1 : W ≤ 12) (a b m : Int) (ha0 : 0 ≤ a) (ha1 : a < 10) (hb0 : 0 ≤ b) (hb1 : b < 10) (hm : inR m) : MetA mX2_addWalk [ar N, ai a, ai b, ai m] σ (fun r u => r = none ∧ AwP σ u N W a b m) := by
  obtain ⟨mm, hmm⟩ : ∃ z, z = (if m < gN σ (N + 11 + a.toNat) b then m else gN σ (N + 11 + a.toNat) b) := ⟨_, rfl⟩
  have hmr : inR mm := by rw [hmm]; split
                          · exact hm
                          · exact inR_gN _ _ _
  refine a_entry (by decide) (Nat.le_of_ble_eq_true rfl) ?_
  refine a_ls (ls' := [(0, ar N), (1, ai a), (2, ai b), (3, ai m)]) rfl ?_
  refine a_aload_n dX2_addWalk_0 rfl rfl ?_
  refine a_getF (d := (N + 3)) fX2_20 (kN hNk) rfl (rN_6 hNk) dX2_addWalk_1 ?_
  refine a_iload_n dX2_addWalk_4 rfl rfl ?_
  refine a_ald (d := (N + 11 + a.toNat)) (kN_3 hNk) (nN_3 hNk) (by omega) (by omega) (rowN_w hNk (by omega) (by omega)) dX2_addWalk_5 ?_
  refine a_iload_n dX2_addWalk_6 rfl rfl ?_
  refine a_aload_n dX2_addWalk_7 rfl rfl ?_
  refine a_getF (d := (N + 3)) fX2_20 (kN hNk) rfl (rN_6 hNk) dX2_addWalk_8 ?_
  refine a_iload_n dX2_addWalk_11 rfl rfl ?_
  refine a_ald (d := (N + 11 + a.toNat)) (kN_3 hNk) (nN_3 hNk) (by omega) (by omega) (rowN_w hNk (by omega) (by omega)) dX2_addWalk_12 ?_
  refine a_iload_n dX2_addWalk_13 rfl rfl ?_
  refine a_ild (kNw hNk (by omega) (by omega)) (nNw hNk (by omega) (by omega)) (by omega) (by omega) dX2_addWalk_14 ?_
  refine a_iload_n dX2_addWalk_15 rfl rfl ?_
  refine a_mmin lm2_58 (inR_gN _ _ _) hm (Nat.le_of_ble_eq_true rfl) (Nat.le_of_ble_eq_true rfl) (Nat.le_of_ble_eq_true rfl) dX2_addWalk_16 ?_
  refine a_topI (y := mm) hmm.symm ?_
  refine a_ist (kNw hNk (by omega) (by omega)) (nNw hNk (by omega) (by omega)) (by omega) (by omega) dX2_addWalk_19 ?_
  refine a_aload_n dX2_addWalk_20 rfl rfl ?_
  refine a_getF (d := (N + 3)) fX2_20 (kN hNk) rfl (rN_6 hNk) dX2_addWalk_21 ?_
  refine a_iload_n dX2_addWalk_24 rfl rfl ?_
  refine a_ald (d := (N + 11 + b.toNat)) (kN_3 hNk) (nN_3 hNk) (by omega) (by omega) (rowN_w hNk (by omega) (by omega)) dX2_addWalk_25 ?_
  refine a_iload_n dX2_addWalk_26 rfl rfl ?_
  refine a_aload_n dX2_addWalk_27 rfl rfl ?_
  refine a_getF (d := (N + 3)) fX2_20 (kN hNk) rfl (rN_6 hNk) dX2_addWalk_28 ?_
  refine a_iload_n dX2_addWalk_31 rfl rfl ?_
  refine a_ald (d := (N + 11 + a.toNat)) (kN_3 hNk) (nN_3 hNk) (by omega) (by omega) (rowN_w hNk (by omega) (by omega)) dX2_addWalk_32 ?_
  refine a_iload_n dX2_addWalk_33 rfl rfl ?_
  refine a_ild (kNw hNk (by omega) (by omega)) (nNw hNk (by omega) (by omega)) (by omega) (by omega) dX2_addWalk_34 ?_
  refine a_topI (y := mm) (by rw [gN_sN, if_pos ⟨rfl, rfl⟩, nrm_of hmr]) ?_
  refine a_ist (kNw hNk (by omega) (by omega)) (nNw hNk (by omega) (by omega)) (by omega) (by omega) dX2_addWalk_35 ?_
  refine a_aload_n dX2_addWalk_36 rfl rfl ?_
  refine a_dup dX2_addWalk_37 rfl ?_
  refine a_getI (J := 1) fX2_48 (kN hNk) rfl rfl dX2_addWalk_38 ?_
  refine a_topI (y := W) (by rw [gN_sN, if_neg (by omega), gN_sN, if_neg (by omega)]; exact hWk) ?_
  refine a_iconst dX2_addWalk_41 ?_
  refine a_iadd dX2_addWalk_42 ?_
  refine a_putI (J := 1) fX2_48 (kN hNk) rfl rfl rfl dX2_addWalk_43 ?_
  exact a_vret rfl (by
    refine ⟨rfl, ((Fg.rfl.sN (by omega)).sN (by omega)).sN (by omega), ?_, fun x y x0 x1 y0 y1 => ?_⟩
    · rw [gN_sN, if_pos ⟨rfl, rfl⟩, nrm_of (inR_of (by omega) (by omega))]
    · rw [gN_sN, if_neg (by omega), gN_sN, gN_sN, ← hmm, nrm_of hmr]
      by_cases e : x = b ∧ y = a
      · rw [if_pos (by rw [e.1, e.2]; exact ⟨rfl, rfl⟩), if_pos (Or.inr e)]
      · rw [if_neg (by omega)]
        by_cases e2 : x = a ∧ y = b
        · rw [if_pos (by rw [e2.1, e2.2]; exact ⟨rfl, rfl⟩), if_pos (Or.inl e2)]
        · rw [if_neg (by omega), if_neg (by omega)]) dX2_addWalk_46

set_option maxRecDepth 20000 in
theorem c_addTrip (σ : Sto) (N : Nat) (hNk : Nok N) (T R : Int) (hT : gN σ N 2 = T) (hT0 : 0 ≤ T) (hT1 : T < 20) (hR : gN σ N 3 = R) : MetV mX2_addTrip [ar N] σ (sN (sN (sN σ (N + 5) T R) N 2 (T + 1)) (N + 5) (T + 1) R) := by
  refine a_entry (by decide) (Nat.le_of_ble_eq_true rfl) ?_
  refine a_ls (ls' := [(0, ar N)]) rfl ?_
  refine a_aload_n dX2_addTrip_0 rfl rfl ?_
  refine a_getI (J := 2) fX2_51 (kN hNk) rfl rfl dX2_addTrip_1 ?_
  refine a_topI (y := T) hT ?_
  refine a_bipush (x := 20) dX2_addTrip_4 (by decide) ?_
  refine a_icmp_ge (tgt := 45) dX2_addTrip_6 (by decide) (inR_of (by omega) (by omega)) (inR_of (by omega) (by omega)) (fun c6 => ?_) (fun c6 => ?_)
  · exfalso; omega
  · refine a_aload_n dX2_addTrip_9 rfl rfl ?_
    refine a_getF (d := (N + 5)) fX2_26 (kN hNk) rfl (rN_8 hNk) dX2_addTrip_10 ?_
    refine a_aload_n dX2_addTrip_13 rfl rfl ?_
    refine a_getI (J := 2) fX2_51 (kN hNk) rfl rfl dX2_addTrip_14 ?_
    refine a_topI (y := T) hT ?_
    refine a_aload_n dX2_addTrip_17 rfl rfl ?_
    refine a_getI (J := 3) fX2_54 (kN hNk) rfl rfl dX2_addTrip_18 ?_
    refine a_topI (y := R) hR ?_
    refine a_ist (kN_5 hNk) (nN_5 hNk) (by omega) (by omega) dX2_addTrip_21 ?_
    refine a_aload_n dX2_addTrip_22 rfl rfl ?_
    refine a_dup dX2_addTrip_23 rfl ?_
    refine a_getI (J := 2) fX2_51 (kN hNk) rfl rfl dX2_addTrip_24 ?_
    refine a_topI (y := T) (by rw [gN_sN, if_neg (by omega)]; exact hT) ?_
    refine a_iconst dX2_addTrip_27 ?_
    refine a_iadd dX2_addTrip_28 ?_
    refine a_putI (J := 2) fX2_51 (kN hNk) rfl rfl rfl dX2_addTrip_29 ?_
    refine a_aload_n dX2_addTrip_32 rfl rfl ?_
    refine a_getF (d := (N + 5)) fX2_26 (kN hNk) rfl (rN_8 hNk) dX2_addTrip_33 ?_
    refine a_aload_n dX2_addTrip_36 rfl rfl ?_
    refine a_getI (J := 2) fX2_51 (kN hNk) rfl rfl dX2_addTrip_37 ?_
    refine a_topI (y := T + 1) (by rw [gN_sN, if_pos ⟨rfl, rfl⟩, nrm_of (inR_of (by omega) (by omega))]) ?_
    refine a_aload_n dX2_addTrip_40 rfl rfl ?_
    refine a_getI (J := 3) fX2_54 (kN hNk) rfl rfl dX2_addTrip_41 ?_
    refine a_topI (y := R) (by rw [gN_sN, if_neg (by omega), gN_sN, if_neg (by omega)]; exact hR) ?_
    refine a_ist (kN_5 hNk) (nN_5 hNk) (by omega) (by omega) dX2_addTrip_44 ?_
    exact a_vret rfl ⟨rfl, rfl⟩ dX2_addTrip_45

set_option maxRecDepth 20000 in
theorem c_addRide (σ : Sto) (N : Nat) (hNk : Nok N) (T R : Int) (hT : gN σ N 2 = T) (hT0 : 1 ≤ T) (hT1 : T ≤ 20) (hR : gN σ N 3 = R) (hR0 : 0 ≤ R) (hR1 : R < 60) (a l c b : Int) : MetV mX2_addRide [ar N, ai a, ai l, ai c, ai b] σ (sN (sN (sN (sN (sN (sN (sN σ (N + 6) R (T - 1)) (N + 7) R a) (N + 8) R b) (N + 9) R l) (N + 10) R c) N 3 (R + 1)) (N + 5) T (R + 1)) := by
  refine a_entry (by decide) (Nat.le_of_ble_eq_true rfl) ?_
  refine a_ls (ls' := [(0, ar N), (1, ai a), (2, ai l), (3, ai c), (4, ai b)]) rfl ?_
  refine a_aload_n dX2_addRide_0 rfl rfl ?_
  refine a_getI (J := 3) fX2_54 (kN hNk) rfl rfl dX2_addRide_1 ?_
  refine a_topI (y := R) hR ?_
  refine a_bipush (x := 60) dX2_addRide_4 (by decide) ?_
  refine a_icmp_ge (tgt := 88) dX2_addRide_6 (by decide) (inR_of (by omega) (by omega)) (inR_of (by omega) (by omega)) (fun c6 => ?_) (fun c6 => ?_)
  · exfalso; omega
  · refine a_aload_n dX2_addRide_9 rfl rfl ?_
    refine a_getF (d := (N + 6)) fX2_29 (kN hNk) rfl (rN_9 hNk) dX2_addRide_10 ?_
    refine a_aload_n dX2_addRide_13 rfl rfl ?_
    refine a_getI (J := 3) fX2_54 (kN hNk) rfl rfl dX2_addRide_14 ?_
    refine a_topI (y := R) hR ?_
    refine a_aload_n dX2_addRide_17 rfl rfl ?_
    refine a_getI (J := 2) fX2_51 (kN hNk) rfl rfl dX2_addRide_18 ?_
    refine a_topI (y := T) hT ?_
    refine a_iconst dX2_addRide_21 ?_
    refine a_isub dX2_addRide_22 ?_
    refine a_ist (kN_6 hNk) (nN_6 hNk) (by omega) (by omega) dX2_addRide_23 ?_
    refine a_aload_n dX2_addRide_24 rfl rfl ?_
    refine a_getF (d := (N + 7)) fX2_32 (kN hNk) rfl (rN_10 hNk) dX2_addRide_25 ?_
    refine a_aload_n dX2_addRide_28 rfl rfl ?_
    refine a_getI (J := 3) fX2_54 (kN hNk) rfl rfl dX2_addRide_29 ?_
    refine a_topI (y := R) (by rw [gN_sN, if_neg (by omega)]; exact hR) ?_
    refine a_iload_n dX2_addRide_32 rfl rfl ?_
    refine a_ist (kN_7 hNk) (nN_7 hNk) (by omega) (by omega) dX2_addRide_33 ?_
    refine a_aload_n dX2_addRide_34 rfl rfl ?_
    refine a_getF (d := (N + 8)) fX2_35 (kN hNk) rfl (rN_11 hNk) dX2_addRide_35 ?_
    refine a_aload_n dX2_addRide_38 rfl rfl ?_
    refine a_getI (J := 3) fX2_54 (kN hNk) rfl rfl dX2_addRide_39 ?_
    refine a_topI (y := R) (by rw [gN_sN, if_neg (by omega), gN_sN, if_neg (by omega)]; exact hR) ?_
    refine a_iload dX2_addRide_42 rfl ?_
    refine a_ist (kN_8 hNk) (nN_8 hNk) (by omega) (by omega) dX2_addRide_44 ?_
    refine a_aload_n dX2_addRide_45 rfl rfl ?_
    refine a_getF (d := (N + 9)) fX2_38 (kN hNk) rfl (rN_12 hNk) dX2_addRide_46 ?_
    refine a_aload_n dX2_addRide_49 rfl rfl ?_
    refine a_getI (J := 3) fX2_54 (kN hNk) rfl rfl dX2_addRide_50 ?_
    refine a_topI (y := R) (by rw [gN_sN, if_neg (by omega), gN_sN, if_neg (by omega), gN_sN, if_neg (by omega)]; exact hR) ?_
    refine a_iload_n dX2_addRide_53 rfl rfl ?_
    refine a_ist (kN_9 hNk) (nN_9 hNk) (by omega) (by omega) dX2_addRide_54 ?_
    refine a_aload_n dX2_addRide_55 rfl rfl ?_
    refine a_getF (d := (N + 10)) fX2_41 (kN hNk) rfl (rN_13 hNk) dX2_addRide_56 ?_
    refine a_aload_n dX2_addRide_59 rfl rfl ?_
    refine a_getI (J := 3) fX2_54 (kN hNk) rfl rfl dX2_addRide_60 ?_
    refine a_topI (y := R) (by rw [gN_sN, if_neg (by omega), gN_sN, if_neg (by omega), gN_sN, if_neg (by omega), gN_sN, if_neg (by omega)]; exact hR) ?_
    refine a_iload_n dX2_addRide_63 rfl rfl ?_
    refine a_ist (kN_10 hNk) (nN_10 hNk) (by omega) (by omega) dX2_addRide_64 ?_
    refine a_aload_n dX2_addRide_65 rfl rfl ?_
    refine a_dup dX2_addRide_66 rfl ?_
    refine a_getI (J := 3) fX2_54 (kN hNk) rfl rfl dX2_addRide_67 ?_
    refine a_topI (y := R) (by rw [gN_sN, if_neg (by omega), gN_sN, if_neg (by omega), gN_sN, if_neg (by omega), gN_sN, if_neg (by omega), gN_sN, if_neg (by omega)]; exact hR) ?_
    refine a_iconst dX2_addRide_70 ?_
    refine a_iadd dX2_addRide_71 ?_
    refine a_putI (J := 3) fX2_54 (kN hNk) rfl rfl rfl dX2_addRide_72 ?_
    refine a_aload_n dX2_addRide_75 rfl rfl ?_
    refine a_getF (d := (N + 5)) fX2_26 (kN hNk) rfl (rN_8 hNk) dX2_addRide_76 ?_
    refine a_aload_n dX2_addRide_79 rfl rfl ?_
    refine a_getI (J := 2) fX2_51 (kN hNk) rfl rfl dX2_addRide_80 ?_
    refine a_topI (y := T) (by rw [gN_sN, if_neg (by omega), gN_sN, if_neg (by omega), gN_sN, if_neg (by omega), gN_sN, if_neg (by omega), gN_sN, if_neg (by omega), gN_sN, if_neg (by omega)]; exact hT) ?_
    refine a_aload_n dX2_addRide_83 rfl rfl ?_
    refine a_getI (J := 3) fX2_54 (kN hNk) rfl rfl dX2_addRide_84 ?_
    refine a_topI (y := R + 1) (by rw [gN_sN, if_pos ⟨rfl, rfl⟩, nrm_of (inR_of (by omega) (by omega))]) ?_
    refine a_ist (kN_5 hNk) (nN_5 hNk) (by omega) (by omega) dX2_addRide_87 ?_
    exact a_vret rfl ⟨rfl, rfl⟩ dX2_addRide_88

def cjB (S : Nat) (y a : Int) (w : Int → Int) : Int → Int := itr (clB y a) S 0 w
def cjA (S : Nat) (y : Int) (w : Int → Int) : Int → Int := itr (cjB S y) S 0 w
def cjF (S : Nat) (w : Int → Int) : Int → Int := itr (cjA S) S 0 w
theorem NwIs.put {u : Sto} {N : Nat} {w : Int → Int} {y a b v : Int} (h : NwIs u N w) (hB : WlkB w) (hy0 : 0 ≤ y) (hy1 : y < 10) (ha0 : 0 ≤ a) (ha1 : a < 10) (hb0 : 0 ≤ b) (hb1 : b < 10) (hv : v = if w (15 + 10 * a + y) + w (15 + 10 * y + b) < w (15 + 10 * a + b) then w (15 + 10 * a + y) + w (15 + 10 * y + b) else w (15 + 10 * a + b)) : NwIs (sN u (N + 11 + a.toNat) b v) N (clB y a b w) := by
  intro x z x0 x1 z0 z1
  rw [gN_sN]
  unfold clB
  have b1 := hB (15 + 10 * a + y) (by omega) (by omega)
  have b2 := hB (15 + 10 * y + b) (by omega) (by omega)
  have b3 := hB (15 + 10 * a + b) (by omega) (by omega)
  by_cases e : x = a ∧ z = b
  · have hr : inR v := by rw [hv]; split <;> exact inR_of (by omega) (by omega)
    rw [if_pos (by rw [e.1, e.2]; exact ⟨rfl, rfl⟩), nrm_of hr, e.1, e.2, hv]
    split
    · rw [if_pos ⟨rfl, by assumption⟩]
    · rw [if_neg (fun q => absurd q.2 (by assumption))]
  · rw [if_neg (by omega), if_neg (by omega)]
    exact h x z x0 x1 z0 z1

set_option maxRecDepth 20000 in
theorem c_jw_b (y0 : Sto) (N : Nat) (hNk : Nok N) (S : Int) (hS : gN y0 N 0 = S) (hS0 : 0 ≤ S) (hS1 : S ≤ 10) (Q : Option Av → Sto → Prop) (y a : Int) (hy0 : 0 ≤ y) (hy1 : y < 10) (ha0 : 0 ≤ a) (ha1 : a < 10) (Y : Int → Int) (hx : ∀ υ : Sto, Fg (fun c _ => N + 11 ≤ c ∧ c ≤ N + 20) y0 υ → NwIs υ N Y → WlkB Y → RunA mX2_joinWalks Q 72 [(2, ai a), (1, ai y), (0, ar N)] [] υ) : ∀ (n : Nat) (b : Int) (τ : Sto) (w : Int → Int), 0 ≤ b → b ≤ S → n = (S - b).toNat → Fg (fun c _ => N + 11 ≤ c ∧ c ≤ N + 20) y0 τ → NwIs τ N w → WlkB w → Y = itr (clB y a) n b w → RunA mX2_joinWalks Q 22 [(3, ai b), (2, ai a), (1, ai y), (0, ar N)] [] τ := by
  intro n
  induction n with
  | zero =>
    intro b τ w h0 h5 hn hF hW hB hE
    have hSτ : gN τ N 0 = S := (hF.n (by omega)).trans hS
    refine a_iload_n dX2_joinWalks_22 rfl rfl ?_
    refine a_aload_n dX2_joinWalks_23 rfl rfl ?_
    refine a_getI (J := 0) fX2_44 (kN hNk) rfl rfl dX2_joinWalks_24 ?_
    refine a_topI (y := S) hSτ ?_
    refine a_icmp_ge (tgt := 72) dX2_joinWalks_27 (by decide) (inR_of (by omega) (by omega)) (inR_of (by omega) (by omega)) (fun c27 => ?_) (fun c27 => ?_)
    · exact a_keep (by simp) (hx τ hF (by rw [hE]; exact hW) (by rw [hE]; exact hB))
    · exfalso; omega
  | succ n ih =>
    intro b τ w h0 h5 hn hF hW hB hE
    have hSτ : gN τ N 0 = S := (hF.n (by omega)).trans hS
    refine a_iload_n dX2_joinWalks_22 rfl rfl ?_
    refine a_aload_n dX2_joinWalks_23 rfl rfl ?_
    refine a_getI (J := 0) fX2_44 (kN hNk) rfl rfl dX2_joinWalks_24 ?_
    refine a_topI (y := S) hSτ ?_
    refine a_icmp_ge (tgt := 72) dX2_joinWalks_27 (by decide) (inR_of (by omega) (by omega)) (inR_of (by omega) (by omega)) (fun c27 => ?_) (fun c27 => ?_)
    · exfalso; omega
    · refine a_aload_n dX2_joinWalks_30 rfl rfl ?_
      refine a_getF (d := (N + 3)) fX2_20 (kN hNk) rfl (rN_6 hNk) dX2_joinWalks_31 ?_
      refine a_iload_n dX2_joinWalks_34 rfl rfl ?_
      refine a_ald (d := (N + 11 + a.toNat)) (kN_3 hNk) (nN_3 hNk) (by omega) (by omega) (rowN_w hNk (by omega) (by omega)) dX2_joinWalks_35 ?_
      refine a_iload_n dX2_joinWalks_36 rfl rfl ?_
      refine a_aload_n dX2_joinWalks_37 rfl rfl ?_
      refine a_getF (d := (N + 3)) fX2_20 (kN hNk) rfl (rN_6 hNk) dX2_joinWalks_38 ?_
      refine a_iload_n dX2_joinWalks_41 rfl rfl ?_
      refine a_ald (d := (N + 11 + a.toNat)) (kN_3 hNk) (nN_3 hNk) (by omega) (by omega) (rowN_w hNk (by omega) (by omega)) dX2_joinWalks_42 ?_
      refine a_iload_n dX2_joinWalks_43 rfl rfl ?_
      refine a_ild (kNw hNk (by omega) (by omega)) (nNw hNk (by omega) (by omega)) (by omega) (by omega) dX2_joinWalks_44 ?_
      refine a_topI (y := w (15 + 10 * a + b)) (hW a b (by omega) (by omega) (by omega) (by omega)) ?_
      have hb104 := hB (15 + 10 * a + b) (by omega) (by omega)
      refine a_aload_n dX2_joinWalks_45 rfl rfl ?_
      refine a_getF (d := (N + 3)) fX2_20 (kN hNk) rfl (rN_6 hNk) dX2_joinWalks_46 ?_
      refine a_iload_n dX2_joinWalks_49 rfl rfl ?_
      refine a_ald (d := (N + 11 + a.toNat)) (kN_3 hNk) (nN_3 hNk) (by omega) (by omega) (rowN_w hNk (by omega) (by omega)) dX2_joinWalks_50 ?_
      refine a_iload_n dX2_joinWalks_51 rfl rfl ?_
      refine a_ild (kNw hNk (by omega) (by omega)) (nNw hNk (by omega) (by omega)) (by omega) (by omega) dX2_joinWalks_52 ?_
      refine a_topI (y := w (15 + 10 * a + y)) (hW a y (by omega) (by omega) (by omega) (by omega)) ?_
      have hb105 := hB (15 + 10 * a + y) (by omega) (by omega)
      refine a_aload_n dX2_joinWalks_53 rfl rfl ?_
      refine a_getF (d := (N + 3)) fX2_20 (kN hNk) rfl (rN_6 hNk) dX2_joinWalks_54 ?_
      refine a_iload_n dX2_joinWalks_57 rfl rfl ?_
      refine a_ald (d := (N + 11 + y.toNat)) (kN_3 hNk) (nN_3 hNk) (by omega) (by omega) (rowN_w hNk (by omega) (by omega)) dX2_joinWalks_58 ?_
      refine a_iload_n dX2_joinWalks_59 rfl rfl ?_
      refine a_ild (kNw hNk (by omega) (by omega)) (nNw hNk (by omega) (by omega)) (by omega) (by omega) dX2_joinWalks_60 ?_
      refine a_topI (y := w (15 + 10 * y + b)) (hW y b (by omega) (by omega) (by omega) (by omega)) ?_
      have hb106 := hB (15 + 10 * y + b) (by omega) (by omega)
      refine a_iadd dX2_joinWalks_61 ?_
      refine a_mmin lm2_58 (inR_of (by omega) (by omega)) (inR_of (by omega) (by omega)) (Nat.le_of_ble_eq_true rfl) (Nat.le_of_ble_eq_true rfl) (Nat.le_of_ble_eq_true rfl) dX2_joinWalks_62 ?_
      obtain ⟨mm, hmm⟩ : ∃ z, z = (if w (15 + 10 * a + y) + w (15 + 10 * y + b) < w (15 + 10 * a + b) then w (15 + 10 * a + y) + w (15 + 10 * y + b) else w (15 + 10 * a + b)) := ⟨_, rfl⟩
      refine a_topI (y := mm) hmm.symm ?_
      refine a_ist (kNw hNk (by omega) (by omega)) (nNw hNk (by omega) (by omega)) (by omega) (by omega) dX2_joinWalks_65 ?_
      refine a_iinc (y := b + 1) (ls' := [(3, ai (b + 1)), (2, ai a), (1, ai y), (0, ar N)]) dX2_joinWalks_66 rfl rfl (Nat.le_of_ble_eq_true rfl) rfl ?_
      refine a_goto (tgt := 22) dX2_joinWalks_69 (by decide) ?_
      exact a_keep (by simp) (ih (b + 1) (sN τ (N + 11 + a.toNat) b mm) (clB y a b w) (by omega) (by omega) (by omega) (hF.sN (by omega)) (hW.put hB hy0 hy1 ha0 ha1 (by omega) (by omega) hmm) (clB_B hB hy0 hy1 ha0 ha1 (by omega) (by omega)) (by rw [hE, itr_s]))

set_option maxRecDepth 20000 in
theorem c_jw_a (y0 : Sto) (N : Nat) (hNk : Nok N) (S : Int) (hS : gN y0 N 0 = S) (hS0 : 0 ≤ S) (hS1 : S ≤ 10) (Q : Option Av → Sto → Prop) (y : Int) (hy0 : 0 ≤ y) (hy1 : y < 10) (Y : Int → Int) (hx : ∀ υ : Sto, Fg (fun c _ => N + 11 ≤ c ∧ c ≤ N + 20) y0 υ → NwIs υ N Y → WlkB Y → RunA mX2_joinWalks Q 78 [(1, ai y), (0, ar N)] [] υ) : ∀ (n : Nat) (a : Int) (τ : Sto) (w : Int → Int), 0 ≤ a → a ≤ S → n = (S - a).toNat → Fg (fun c _ => N + 11 ≤ c ∧ c ≤ N + 20) y0 τ → NwIs τ N w → WlkB w → Y = itr (cjB S.toNat y) n a w → RunA mX2_joinWalks Q 12 [(2, ai a), (1, ai y), (0, ar N)] [] τ := by
  intro n
  induction n with
  | zero =>
    intro a τ w h0 h5 hn hF hW hB hE
    have hSτ : gN τ N 0 = S := (hF.n (by omega)).trans hS
    refine a_iload_n dX2_joinWalks_12 rfl rfl ?_
    refine a_aload_n dX2_joinWalks_13 rfl rfl ?_
    refine a_getI (J := 0) fX2_44 (kN hNk) rfl rfl dX2_joinWalks_14 ?_
    refine a_topI (y := S) hSτ ?_
    refine a_icmp_ge (tgt := 78) dX2_joinWalks_17 (by decide) (inR_of (by omega) (by omega)) (inR_of (by omega) (by omega)) (fun c17 => ?_) (fun c17 => ?_)
    · exact a_keep (by simp) (hx τ hF (by rw [hE]; exact hW) (by rw [hE]; exact hB))
    · exfalso; omega
  | succ n ih =>
    intro a τ w h0 h5 hn hF hW hB hE
    have hSτ : gN τ N 0 = S := (hF.n (by omega)).trans hS
    refine a_iload_n dX2_joinWalks_12 rfl rfl ?_
    refine a_aload_n dX2_joinWalks_13 rfl rfl ?_
    refine a_getI (J := 0) fX2_44 (kN hNk) rfl rfl dX2_joinWalks_14 ?_
    refine a_topI (y := S) hSτ ?_
    refine a_icmp_ge (tgt := 78) dX2_joinWalks_17 (by decide) (inR_of (by omega) (by omega)) (inR_of (by omega) (by omega)) (fun c17 => ?_) (fun c17 => ?_)
    · exfalso; omega
    · refine a_iconst dX2_joinWalks_20 ?_
      refine a_istore_n (ls' := [(3, ai 0), (2, ai a), (1, ai y), (0, ar N)]) dX2_joinWalks_21 rfl (Nat.le_of_ble_eq_true rfl) rfl ?_
      refine a_keep (ls' := [(3, ai 0), (2, ai a), (1, ai y), (0, ar N)]) (by simp) ?_
      refine c_jw_b y0 N hNk S hS hS0 hS1 _ y a hy0 hy1 (by omega) (by omega) (cjB S.toNat y a w) (fun υ a1 a2 a3 => ?_) S.toNat 0 τ w (by omega) (by omega) (by omega) hF hW hB rfl
      refine a_iinc (y := a + 1) (ls' := [(2, ai (a + 1)), (1, ai y), (0, ar N)]) dX2_joinWalks_72 rfl rfl (Nat.le_of_ble_eq_true rfl) rfl ?_
      refine a_goto (tgt := 12) dX2_joinWalks_75 (by decide) ?_
      exact ih (a + 1) υ (cjB S.toNat y a w) (by omega) (by omega) (by omega) a1 a2 a3 (by rw [hE, itr_s])

set_option maxRecDepth 20000 in
theorem c_jw_y (y0 : Sto) (N : Nat) (hNk : Nok N) (S : Int) (hS : gN y0 N 0 = S) (hS0 : 0 ≤ S) (hS1 : S ≤ 10) (Y : Int → Int) : ∀ (n : Nat) (y : Int) (τ : Sto) (w : Int → Int), 0 ≤ y → y ≤ S → n = (S - y).toNat → Fg (fun c _ => N + 11 ≤ c ∧ c ≤ N + 20) y0 τ → NwIs τ N w → WlkB w → Y = itr (cjA S.toNat) n y w → RunA mX2_joinWalks (fun r u => r = none ∧ Fg (fun c _ => N + 11 ≤ c ∧ c ≤ N + 20) y0 u ∧ NwIs u N Y ∧ WlkB Y) 2 [(1, ai y), (0, ar N)] [] τ := by
  intro n
  induction n with
  | zero =>
    intro y τ w h0 h5 hn hF hW hB hE
    have hSτ : gN τ N 0 = S := (hF.n (by omega)).trans hS
    refine a_iload_n dX2_joinWalks_2 rfl rfl ?_
    refine a_aload_n dX2_joinWalks_3 rfl rfl ?_
    refine a_getI (J := 0) fX2_44 (kN hNk) rfl rfl dX2_joinWalks_4 ?_
    refine a_topI (y := S) hSτ ?_
    refine a_icmp_ge (tgt := 84) dX2_joinWalks_7 (by decide) (inR_of (by omega) (by omega)) (inR_of (by omega) (by omega)) (fun c7 => ?_) (fun c7 => ?_)
    · exact a_vret rfl ⟨rfl, hF, by rw [hE]; exact hW, by rw [hE]; exact hB⟩ dX2_joinWalks_84
    · exfalso; omega
  | succ n ih =>
    intro y τ w h0 h5 hn hF hW hB hE
    have hSτ : gN τ N 0 = S := (hF.n (by omega)).trans hS
    refine a_iload_n dX2_joinWalks_2 rfl rfl ?_
    refine a_aload_n dX2_joinWalks_3 rfl rfl ?_
    refine a_getI (J := 0) fX2_44 (kN hNk) rfl rfl dX2_joinWalks_4 ?_
    refine a_topI (y := S) hSτ ?_
    refine a_icmp_ge (tgt := 84) dX2_joinWalks_7 (by decide) (inR_of (by omega) (by omega)) (inR_of (by omega) (by omega)) (fun c7 => ?_) (fun c7 => ?_)
    · exfalso; omega
    · refine a_iconst dX2_joinWalks_10 ?_
      refine a_istore_n (ls' := [(2, ai 0), (1, ai y), (0, ar N)]) dX2_joinWalks_11 rfl (Nat.le_of_ble_eq_true rfl) rfl ?_
      refine a_keep (ls' := [(2, ai 0), (1, ai y), (0, ar N)]) (by simp) ?_
      refine c_jw_a y0 N hNk S hS hS0 hS1 _ y (by omega) (by omega) (cjA S.toNat y w) (fun υ a1 a2 a3 => ?_) S.toNat 0 τ w (by omega) (by omega) (by omega) hF hW hB rfl
      refine a_iinc (y := y + 1) (ls' := [(1, ai (y + 1)), (0, ar N)]) dX2_joinWalks_78 rfl rfl (Nat.le_of_ble_eq_true rfl) rfl ?_
      refine a_goto (tgt := 2) dX2_joinWalks_81 (by decide) ?_
      exact ih (y + 1) υ (cjA S.toNat y w) (by omega) (by omega) (by omega) a1 a2 a3 (by rw [hE, itr_s])

set_option maxRecDepth 20000 in
theorem c_joinWalks (σ : Sto) (N : Nat) (hNk : Nok N) (S : Int) (hS : gN σ N 0 = S) (hS0 : 0 ≤ S) (hS1 : S ≤ 10) (w : Int → Int) (hW : NwIs σ N w) (hB : WlkB w) : MetA mX2_joinWalks [ar N] σ (fun r u => r = none ∧ Fg (fun c _ => N + 11 ≤ c ∧ c ≤ N + 20) σ u ∧ NwIs u N (cjF S.toNat w) ∧ WlkB (cjF S.toNat w)) := by
  refine a_entry (by decide) (Nat.le_of_ble_eq_true rfl) ?_
  refine a_ls (ls' := [(0, ar N)]) rfl ?_
  refine a_iconst dX2_joinWalks_0 ?_
  refine a_istore_n (ls' := [(1, ai 0), (0, ar N)]) dX2_joinWalks_1 rfl (Nat.le_of_ble_eq_true rfl) rfl ?_
  exact a_keep (by simp) (c_jw_y σ N hNk S hS hS0 hS1 _ S.toNat 0 σ w (by omega) (by omega) (by omega) Fg.rfl hW hB rfl)

def StP (u y0 : Sto) (N : Nat) (x z : Int) : Prop := gN u (N + 21 + x.toNat) z = if x = z then gN y0 (N + 2) x else gN y0 (N + 11 + x.toNat) z

set_option maxRecDepth 20000 in
theorem c_st_b (y0 : Sto) (N : Nat) (hNk : Nok N) (S : Int) (hS : gN y0 N 0 = S) (hS0 : 0 ≤ S) (hS1 : S ≤ 10) (Q : Option Av → Sto → Prop) (a : Int) (ha0 : 0 ≤ a) (ha1 : a < S) (hx : ∀ υ : Sto, Fg (fun c _ => N + 21 ≤ c ∧ c ≤ N + 30) y0 υ → (∀ x z : Int, 0 ≤ x → x < S → 0 ≤ z → z < S → x < a + 1 → StP υ y0 N x z) → RunA mX2_settleTransfers Q 56 [(1, ai a), (0, ar N)] [] υ) : ∀ (n : Nat) (b : Int) (τ : Sto), 0 ≤ b → b ≤ S → n = (S - b).toNat → Fg (fun c _ => N + 21 ≤ c ∧ c ≤ N + 30) y0 τ → (∀ x z : Int, 0 ≤ x → x < S → 0 ≤ z → z < S → x < a ∨ (x = a ∧ z < b) → StP τ y0 N x z) → RunA mX2_settleTransfers Q 12 [(2, ai b), (1, ai a), (0, ar N)] [] τ := by
  intro n
  induction n with
  | zero =>
    intro b τ h0 h5 hn hF hZ
    have hSτ : gN τ N 0 = S := (hF.n (by omega)).trans hS
    refine a_iload_n dX2_settleTransfers_12 rfl rfl ?_
    refine a_aload_n dX2_settleTransfers_13 rfl rfl ?_
    refine a_getI (J := 0) fX2_44 (kN hNk) rfl rfl dX2_settleTransfers_14 ?_
    refine a_topI (y := S) hSτ ?_
    refine a_icmp_ge (tgt := 56) dX2_settleTransfers_17 (by decide) (inR_of (by omega) (by omega)) (inR_of (by omega) (by omega)) (fun c17 => ?_) (fun c17 => ?_)
    · exact a_keep (by simp) (hx τ hF (fun x z x0 x1 z0 z1 q => hZ x z x0 x1 z0 z1 (by omega)))
    · exfalso; omega
  | succ n ih =>
    intro b τ h0 h5 hn hF hZ
    have hSτ : gN τ N 0 = S := (hF.n (by omega)).trans hS
    refine a_iload_n dX2_settleTransfers_12 rfl rfl ?_
    refine a_aload_n dX2_settleTransfers_13 rfl rfl ?_
    refine a_getI (J := 0) fX2_44 (kN hNk) rfl rfl dX2_settleTransfers_14 ?_
    refine a_topI (y := S) hSτ ?_
    refine a_icmp_ge (tgt := 56) dX2_settleTransfers_17 (by decide) (inR_of (by omega) (by omega)) (inR_of (by omega) (by omega)) (fun c17 => ?_) (fun c17 => ?_)
    · exfalso; omega
    · refine a_aload_n dX2_settleTransfers_20 rfl rfl ?_
      refine a_getF (d := (N + 4)) fX2_23 (kN hNk) rfl (rN_7 hNk) dX2_settleTransfers_21 ?_
      refine a_iload_n dX2_settleTransfers_24 rfl rfl ?_
      refine a_ald (d := (N + 21 + a.toNat)) (kN_4 hNk) (nN_4 hNk) (by omega) (by omega) (rowN_t hNk (by omega) (by omega)) dX2_settleTransfers_25 ?_
      refine a_iload_n dX2_settleTransfers_26 rfl rfl ?_
      refine a_iload_n dX2_settleTransfers_27 rfl rfl ?_
      refine a_iload_n dX2_settleTransfers_28 rfl rfl ?_
      refine a_icmp_ne (tgt := 41) dX2_settleTransfers_29 (by decide) (inR_of (by omega) (by omega)) (inR_of (by omega) (by omega)) (fun c29 => ?_) (fun c29 => ?_)
      · refine a_aload_n dX2_settleTransfers_41 rfl rfl ?_
        refine a_getF (d := (N + 3)) fX2_20 (kN hNk) rfl (rN_6 hNk) dX2_settleTransfers_42 ?_
        refine a_iload_n dX2_settleTransfers_45 rfl rfl ?_
        refine a_ald (d := (N + 11 + a.toNat)) (kN_3 hNk) (nN_3 hNk) (by omega) (by omega) (rowN_w hNk (by omega) (by omega)) dX2_settleTransfers_46 ?_
        refine a_iload_n dX2_settleTransfers_47 rfl rfl ?_
        refine a_ild (kNw hNk (by omega) (by omega)) (nNw hNk (by omega) (by omega)) (by omega) (by omega) dX2_settleTransfers_48 ?_
        refine a_topI (y := gN y0 (N + 11 + a.toNat) b) (hF.n (by omega)) ?_
        refine a_ist (kNt hNk (by omega) (by omega)) (nNt hNk (by omega) (by omega)) (by omega) (by omega) dX2_settleTransfers_49 ?_
        refine a_iinc (y := b + 1) (ls' := [(2, ai (b + 1)), (1, ai a), (0, ar N)]) dX2_settleTransfers_50 rfl rfl (Nat.le_of_ble_eq_true rfl) rfl ?_
        refine a_goto (tgt := 12) dX2_settleTransfers_53 (by decide) ?_
        refine a_keep (by simp) (ih (b + 1) (sN τ (N + 21 + a.toNat) b (gN y0 (N + 11 + a.toNat) b)) (by omega) (by omega) (by omega) (hF.sN (by omega)) (fun x z x0 x1 z0 z1 q => ?_))
        unfold StP
        rw [gN_sN]
        by_cases e : x = a ∧ z = b
        · rw [if_pos (by rw [e.1, e.2]; exact ⟨rfl, rfl⟩), e.1, e.2, if_neg (by omega), nrm_of (inR_gN _ _ _)]
        · rw [if_neg (by omega)]; exact hZ x z x0 x1 z0 z1 (by omega)
      · refine a_aload_n dX2_settleTransfers_32 rfl rfl ?_
        refine a_getF (d := (N + 2)) fX2_15 (kN hNk) rfl (rN_5 hNk) dX2_settleTransfers_33 ?_
        refine a_iload_n dX2_settleTransfers_36 rfl rfl ?_
        refine a_ild (kN_2 hNk) (nN_2 hNk) (by omega) (by omega) dX2_settleTransfers_37 ?_
        refine a_topI (y := gN y0 (N + 2) a) (hF.n (by omega)) ?_
        refine a_goto (tgt := 49) dX2_settleTransfers_38 (by decide) ?_
        refine a_ist (kNt hNk (by omega) (by omega)) (nNt hNk (by omega) (by omega)) (by omega) (by omega) dX2_settleTransfers_49 ?_
        refine a_iinc (y := b + 1) (ls' := [(2, ai (b + 1)), (1, ai a), (0, ar N)]) dX2_settleTransfers_50 rfl rfl (Nat.le_of_ble_eq_true rfl) rfl ?_
        refine a_goto (tgt := 12) dX2_settleTransfers_53 (by decide) ?_
        refine a_keep (by simp) (ih (b + 1) (sN τ (N + 21 + a.toNat) b (gN y0 (N + 2) a)) (by omega) (by omega) (by omega) (hF.sN (by omega)) (fun x z x0 x1 z0 z1 q => ?_))
        unfold StP
        rw [gN_sN]
        by_cases e : x = a ∧ z = b
        · rw [if_pos (by rw [e.1, e.2]; exact ⟨rfl, rfl⟩), e.1, e.2, if_pos (by omega), nrm_of (inR_gN _ _ _)]
        · rw [if_neg (by omega)]; exact hZ x z x0 x1 z0 z1 (by omega)

set_option maxRecDepth 20000 in
theorem c_st_a (y0 : Sto) (N : Nat) (hNk : Nok N) (S : Int) (hS : gN y0 N 0 = S) (hS0 : 0 ≤ S) (hS1 : S ≤ 10) : ∀ (n : Nat) (a : Int) (τ : Sto), 0 ≤ a → a ≤ S → n = (S - a).toNat → Fg (fun c _ => N + 21 ≤ c ∧ c ≤ N + 30) y0 τ → (∀ x z : Int, 0 ≤ x → x < S → 0 ≤ z → z < S → x < a → StP τ y0 N x z) → RunA mX2_settleTransfers (fun r u => r = none ∧ Fg (fun c _ => N + 21 ≤ c ∧ c ≤ N + 30) y0 u ∧ ∀ x z : Int, 0 ≤ x → x < S → 0 ≤ z → z < S → StP u y0 N x z) 2 [(1, ai a), (0, ar N)] [] τ := by
  intro n
  induction n with
  | zero =>
    intro a τ h0 h5 hn hF hZ
    have hSτ : gN τ N 0 = S := (hF.n (by omega)).trans hS
    refine a_iload_n dX2_settleTransfers_2 rfl rfl ?_
    refine a_aload_n dX2_settleTransfers_3 rfl rfl ?_
    refine a_getI (J := 0) fX2_44 (kN hNk) rfl rfl dX2_settleTransfers_4 ?_
    refine a_topI (y := S) hSτ ?_
    refine a_icmp_ge (tgt := 62) dX2_settleTransfers_7 (by decide) (inR_of (by omega) (by omega)) (inR_of (by omega) (by omega)) (fun c7 => ?_) (fun c7 => ?_)
    · exact a_vret rfl ⟨rfl, hF, fun x z x0 x1 z0 z1 => hZ x z x0 x1 z0 z1 (by omega)⟩ dX2_settleTransfers_62
    · exfalso; omega
  | succ n ih =>
    intro a τ h0 h5 hn hF hZ
    have hSτ : gN τ N 0 = S := (hF.n (by omega)).trans hS
    refine a_iload_n dX2_settleTransfers_2 rfl rfl ?_
    refine a_aload_n dX2_settleTransfers_3 rfl rfl ?_
    refine a_getI (J := 0) fX2_44 (kN hNk) rfl rfl dX2_settleTransfers_4 ?_
    refine a_topI (y := S) hSτ ?_
    refine a_icmp_ge (tgt := 62) dX2_settleTransfers_7 (by decide) (inR_of (by omega) (by omega)) (inR_of (by omega) (by omega)) (fun c7 => ?_) (fun c7 => ?_)
    · exfalso; omega
    · refine a_iconst dX2_settleTransfers_10 ?_
      refine a_istore_n (ls' := [(2, ai 0), (1, ai a), (0, ar N)]) dX2_settleTransfers_11 rfl (Nat.le_of_ble_eq_true rfl) rfl ?_
      refine a_keep (ls' := [(2, ai 0), (1, ai a), (0, ar N)]) (by simp) ?_
      refine c_st_b y0 N hNk S hS hS0 hS1 _ a (by omega) (by omega) (fun υ a1 a2 => ?_) S.toNat 0 τ (by omega) (by omega) (by omega) hF (fun x z x0 x1 z0 z1 q => hZ x z x0 x1 z0 z1 (by omega))
      refine a_iinc (y := a + 1) (ls' := [(1, ai (a + 1)), (0, ar N)]) dX2_settleTransfers_56 rfl rfl (Nat.le_of_ble_eq_true rfl) rfl ?_
      refine a_goto (tgt := 2) dX2_settleTransfers_59 (by decide) ?_
      exact ih (a + 1) υ (by omega) (by omega) (by omega) a1 a2

set_option maxRecDepth 20000 in
theorem c_settle (σ : Sto) (N : Nat) (hNk : Nok N) (S : Int) (hS : gN σ N 0 = S) (hS0 : 0 ≤ S) (hS1 : S ≤ 10) : MetA mX2_settleTransfers [ar N] σ (fun r u => r = none ∧ Fg (fun c _ => N + 21 ≤ c ∧ c ≤ N + 30) σ u ∧ ∀ x z : Int, 0 ≤ x → x < S → 0 ≤ z → z < S → StP u σ N x z) := by
  refine a_entry (by decide) (Nat.le_of_ble_eq_true rfl) ?_
  refine a_ls (ls' := [(0, ar N)]) rfl ?_
  refine a_iconst dX2_settleTransfers_0 ?_
  refine a_istore_n (ls' := [(1, ai 0), (0, ar N)]) dX2_settleTransfers_1 rfl (Nat.le_of_ble_eq_true rfl) rfl ?_
  exact a_keep (by simp) (c_st_a σ N hNk S hS hS0 hS1 S.toNat 0 σ (by omega) (by omega) (by omega) Fg.rfl (fun x z x0 x1 z0 z1 q => by omega))

