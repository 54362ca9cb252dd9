/-! The class's times as they are set; what is kept to undo. -/
def LE_ (ρ : Sto) (i : Int) : Int := gN ρ 155 (115 + 5 * i + 3)
def CO_ (ρ : Sto) (i : Int) : Int := gN ρ 155 (115 + 5 * i + 4)
def ctF (ρ : Sto) (i n : Int) : Int := if cnc ρ i then n + 1 else n
def ctT (ρ : Sto) : Int := itr (ctF ρ) (gN ρ 155 3).toNat 0 0
def sfF (ρ : Sto) (i n : Int) : Int := if gN ρ 161 i - gN ρ 155 (115 + 5 * i + 3) = 0 then n else n + 1
def sfT (ρ : Sto) : Int := itr (sfF ρ) (gN ρ 155 3).toNat 0 0

set_option maxRecDepth 20000 in
theorem c_setML (σ ρ : Sto) (N T : Nat) (hW : WV ρ) (hN : NetR σ N ρ) (hTk : Tok T) (hr : gR σ T 0 = some N) (i m : Int) (h0 : 0 ≤ i) (h1 : i < gN ρ 155 3) : MetV mX6_setMinutesLate [ar T, ai i, ai m] σ (sN (sN σ (T + 1) i (LE_ ρ i + m)) (T + 2) i (CO_ ρ i + m)) := by
  have hNk := hN.k
  have hR := hW.R
  have hS := hW.S
  have hTr := hW.T
  refine a_entry (by decide) (Nat.le_of_ble_eq_true rfl) ?_
  refine a_ls (ls' := [(0, ar T), (1, ai i), (2, ai m)]) rfl ?_
  refine a_aload_n dX6_setMinutesLate_0 rfl rfl ?_
  refine a_getF (d := (T + 1)) fX6_9 (kT hTk) rfl (rT_3 hTk) dX6_setMinutesLate_1 ?_
  refine a_iload_n dX6_setMinutesLate_4 rfl rfl ?_
  refine a_aload_n dX6_setMinutesLate_5 rfl rfl ?_
  refine a_getR (d := N) (J := 0) fX6_22 (kT hTk) rfl (rT_0 hTk) rfl hr dX6_setMinutesLate_6 ?_
  refine a_getF (d := (N + 9)) fX6_47 (kN hNk) rfl (rN_12 hNk) dX6_setMinutesLate_9 ?_
  refine a_iload_n dX6_setMinutesLate_12 rfl rfl ?_
  refine a_ild (kN_9 hNk) (nN_9 hNk) (by omega) (by omega) dX6_setMinutesLate_13 ?_
  refine a_topI (y := gN ρ 155 (115 + 5 * i + 3)) (hN.r3 (by omega) (by omega)) ?_
  have hb71 := hW.ride i (by omega) (by omega)
  refine a_iload_n dX6_setMinutesLate_14 rfl rfl ?_
  refine a_iadd dX6_setMinutesLate_15 ?_
  refine a_ist (kT_1 hTk) (nT_1 hTk) (by omega) (by omega) dX6_setMinutesLate_16 ?_
  refine a_aload_n dX6_setMinutesLate_17 rfl rfl ?_
  refine a_getF (d := (T + 2)) fX6_15 (kT hTk) rfl (rT_4 hTk) dX6_setMinutesLate_18 ?_
  refine a_iload_n dX6_setMinutesLate_21 rfl rfl ?_
  refine a_aload_n dX6_setMinutesLate_22 rfl rfl ?_
  refine a_getR (d := N) (J := 0) fX6_22 (kT hTk) rfl (rT_0 hTk) rfl (by rw [gR_sN]; exact hr) dX6_setMinutesLate_23 ?_
  refine a_getF (d := (N + 10)) fX6_50 (kN hNk) rfl (rN_13 hNk) dX6_setMinutesLate_26 ?_
  refine a_iload_n dX6_setMinutesLate_29 rfl rfl ?_
  refine a_ild (kN_10 hNk) (nN_10 hNk) (by omega) (by omega) dX6_setMinutesLate_30 ?_
  refine a_topI (y := gN ρ 155 (115 + 5 * i + 4)) (by rw [gN_sN, if_neg (by omega)]; exact (hN.r4 (by omega) (by omega))) ?_
  refine a_iload_n dX6_setMinutesLate_31 rfl rfl ?_
  refine a_iadd dX6_setMinutesLate_32 ?_
  refine a_ist (kT_2 hTk) (nT_2 hTk) (by omega) (by omega) dX6_setMinutesLate_33 ?_
  exact a_vret rfl ⟨rfl, rfl⟩ dX6_setMinutesLate_34

def BgP (u ρ : Sto) (N T : Nat) : Prop := gR u T 0 = some N ∧ gL u T 1 = 0 ∧ gN u T 2 = 0 ∧ ∀ i : Int, 0 ≤ i → i < gN ρ 155 3 → gN u (T + 1) i = LE_ ρ i ∧ gN u (T + 2) i = CO_ ρ i
abbrev pTm (T : Nat) (c : Nat) (_ : Int) : Prop := T ≤ c ∧ c ≤ T + 2

set_option maxRecDepth 20000 in
theorem c_bg_l (σ ρ : Sto) (N T : Nat) (hW : WV ρ) (hN : NetR σ N ρ) (hTk : Tok T) : ∀ (n : Nat) (i : Int) (τ : Sto), 0 ≤ i → i ≤ gN ρ 155 3 → n = (gN ρ 155 3 - i).toNat → Fg (pTm T) σ τ → gR τ T 0 = some N → gL τ T 1 = 0 → gN τ T 2 = 0 → (∀ j : Int, 0 ≤ j → j < i → gN τ (T + 1) j = LE_ ρ j ∧ gN τ (T + 2) j = CO_ ρ j) → RunA mX6_begin (fun r u => r = none ∧ Fg (pTm T) σ u ∧ BgP u ρ N T) 17 [(2, ai i), (0, ar T), (1, ar N)] [] τ := by
  have hNk := hN.k
  have hR := hW.R
  have hS := hW.S
  have hTr := hW.T
  intro n
  induction n with
  | zero =>
    intro i τ h0 h5 hn hF hr hl h2 hZ
    have hNτ : NetR τ N ρ := hN.of hS.2 (fun d j q0 q1 => hF.n (by unfold pTm; omega))
    refine a_iload_n dX6_begin_17 rfl rfl ?_
    refine a_aload_n dX6_begin_18 rfl rfl ?_
    refine a_getR (d := N) (J := 0) fX6_22 (kT hTk) rfl (rT_0 hTk) rfl hr dX6_begin_19 ?_
    refine a_getI (J := 3) fX6_34 (kN hNk) rfl rfl dX6_begin_22 ?_
    refine a_topI (y := gN ρ 155 3) hNτ.n3 ?_
    refine a_icmp_ge (tgt := 40) dX6_begin_25 (by decide) (inR_of (by omega) (by omega)) (inR_gN _ _ _) (fun c25 => ?_) (fun c25 => ?_)
    · exact a_vret rfl ⟨rfl, hF, hr, hl, h2, fun j j0 j1 => hZ j j0 (by omega)⟩ dX6_begin_40
    · exfalso; omega
  | succ n ih =>
    intro i τ h0 h5 hn hF hr hl h2 hZ
    have hNτ : NetR τ N ρ := hN.of hS.2 (fun d j q0 q1 => hF.n (by unfold pTm; omega))
    refine a_iload_n dX6_begin_17 rfl rfl ?_
    refine a_aload_n dX6_begin_18 rfl rfl ?_
    refine a_getR (d := N) (J := 0) fX6_22 (kT hTk) rfl (rT_0 hTk) rfl hr dX6_begin_19 ?_
    refine a_getI (J := 3) fX6_34 (kN hNk) rfl rfl dX6_begin_22 ?_
    refine a_topI (y := gN ρ 155 3) hNτ.n3 ?_
    refine a_icmp_ge (tgt := 40) dX6_begin_25 (by decide) (inR_of (by omega) (by omega)) (inR_gN _ _ _) (fun c25 => ?_) (fun c25 => ?_)
    · exfalso; omega
    · refine a_aload_n dX6_begin_28 rfl rfl ?_
      refine a_iload_n dX6_begin_29 rfl rfl ?_
      refine a_iconst dX6_begin_30 ?_
      refine a_cV (c := T) (as := [ai i, ai 0]) (rest := []) (c_setML τ ρ N T hW hNτ hTk hr i (0) (by omega) (by omega)) mvX6_setMinutesLate lX6_40 (kT hTk) (by decide) rfl rfl rfl rfl (Nat.le_of_ble_eq_true rfl) (Nat.le_of_ble_eq_true rfl) (Nat.le_of_ble_eq_true rfl) dX6_begin_31 ?_
      refine a_iinc (y := i + 1) (ls' := [(2, ai (i + 1)), (0, ar T), (1, ar N)]) dX6_begin_34 rfl rfl (Nat.le_of_ble_eq_true rfl) rfl ?_
      refine a_goto (tgt := 17) dX6_begin_37 (by decide) ?_
      have hrd := hW.ride i (by omega) (by omega)
      refine a_keep (by simp) (ih (i + 1) (sN (sN τ (T + 1) i (LE_ ρ i + 0)) (T + 2) i (CO_ ρ i + 0)) (by omega) (by omega) (by omega) ((hF.sN (by unfold pTm; omega)).sN (by unfold pTm; omega)) (by rw [gR_sN, gR_sN]; exact hr) (by rw [gL_sN, gL_sN]; exact hl) (by rw [gN_sN, if_neg (by omega), gN_sN, if_neg (by omega)]; exact h2) (fun j j0 j1 => ?_))
      by_cases e : j = i
      · refine ⟨?_, ?_⟩
        · rw [e, gN_sN, if_neg (by omega), gN_sN, if_pos ⟨rfl, rfl⟩, nrm_of (inR_of (by unfold LE_; omega) (by unfold LE_; omega))]; omega
        · rw [e, gN_sN, if_pos ⟨rfl, rfl⟩, nrm_of (inR_of (by unfold CO_; omega) (by unfold CO_; omega))]; omega
      · have z := hZ j j0 (by omega)
        refine ⟨?_, ?_⟩
        · rw [gN_sN, if_neg (by omega), gN_sN, if_neg (by omega)]; exact z.1
        · rw [gN_sN, if_neg (by omega), gN_sN, if_neg (by omega)]; exact z.2

set_option maxRecDepth 20000 in
theorem c_begin (σ ρ : Sto) (N T : Nat) (hW : WV ρ) (hN : NetR σ N ρ) (hTk : Tok T) : MetA mX6_begin [ar T, ar N] σ (fun r u => r = none ∧ Fg (pTm T) σ u ∧ BgP u ρ N T) := by
  have hNk := hN.k
  have hR := hW.R
  have hS := hW.S
  have hTr := hW.T
  refine a_entry (by decide) (Nat.le_of_ble_eq_true rfl) ?_
  refine a_ls (ls' := [(0, ar T), (1, ar N)]) rfl ?_
  refine a_aload_n dX6_begin_0 rfl rfl ?_
  refine a_aload_n dX6_begin_1 rfl rfl ?_
  refine a_putR (J := 0) fX6_22 (kT hTk) rfl (rT_0 hTk) rfl (fun _ => rfl) (fun _ => rfl) rfl dX6_begin_2 ?_
  refine a_aload_n dX6_begin_5 rfl rfl ?_
  refine a_lconst (v := 0) dX6_begin_6 rfl ?_
  refine a_putL (J := 1) fX6_26 (kT hTk) rfl rfl rfl dX6_begin_7 ?_
  refine a_aload_n dX6_begin_10 rfl rfl ?_
  refine a_iconst dX6_begin_11 ?_
  refine a_putZ (J := 2) fX6_30 (kT hTk) rfl rfl (by omega) rfl dX6_begin_12 ?_
  refine a_iconst dX6_begin_15 ?_
  refine a_istore_n (ls' := [(2, ai 0), (0, ar T), (1, ar N)]) dX6_begin_16 rfl (Nat.le_of_ble_eq_true rfl) rfl ?_
  exact a_keep (by simp) ((c_bg_l (sN (sL (sR σ T 0 (some N)) T 1 0) T 2 0) ρ N T hW (hN.of hS.2 (fun d j q0 q1 => by rw [gN_sN, if_neg (by omega)]; rfl)) hTk (gN ρ 155 3).toNat 0 _ (by omega) (by omega) (by omega) Fg.rfl (by rw [gR_sN, gR_sL, gR_sR0, if_pos ⟨rfl, rfl⟩]) (by rw [gL_sN, gL_sL, if_pos ⟨rfl, rfl⟩]) (by rw [gN_sN, if_pos ⟨rfl, rfl⟩]; rfl) (fun j a b => by omega)).mono (fun r u hu => ⟨hu.1, (((Fg.rfl.sR (by unfold pTm; omega)).sL (by unfold pTm; omega)).sN (by unfold pTm; omega)).trans hu.2.1, hu.2.2⟩))

set_option maxRecDepth 20000 in
theorem c_refuses (σ ρ : Sto) (N : Nat) (hW : WV ρ) (hN : NetR σ N ρ) (hT7 : TmR σ N 7 ρ) (i m : Int) (h0 : 0 ≤ i) (h1 : i < gN ρ 155 3) (hm0 : -1000 ≤ m) (hm1 : m ≤ 1000) : MetI mX6_refuses [ar 7, ai i, ai m] σ (if LE_ ρ i + m < 0 ∨ (0 < i ∧ nxt ρ (i - 1) ∧ LE_ ρ i + m < gN ρ 162 (i - 1)) then 1 else 0) σ := by
  have hNk := hN.k
  have hR := hW.R
  have hS := hW.S
  have hTr := hW.T
  refine a_entry (by decide) (Nat.le_of_ble_eq_true rfl) ?_
  refine a_ls (ls' := [(0, ar 7), (1, ai i), (2, ai m)]) rfl ?_
  refine a_aload_n dX6_refuses_0 rfl rfl ?_
  refine a_getR (d := N) (J := 0) fX6_22 k7 rfl (rT_0 (by decide)) rfl hT7.net dX6_refuses_1 ?_
  refine a_getF (d := (N + 9)) fX6_47 (kN hNk) rfl (rN_12 hNk) dX6_refuses_4 ?_
  refine a_iload_n dX6_refuses_7 rfl rfl ?_
  refine a_ild (kN_9 hNk) (nN_9 hNk) (by omega) (by omega) dX6_refuses_8 ?_
  refine a_topI (y := gN ρ 155 (115 + 5 * i + 3)) (hN.r3 (by omega) (by omega)) ?_
  have hb72 := hW.ride i (by omega) (by omega)
  refine a_iload_n dX6_refuses_9 rfl rfl ?_
  refine a_iadd dX6_refuses_10 ?_
  refine a_istore_n (ls' := [(3, ai (gN ρ 155 (115 + 5 * i + 3) + m)), (0, ar 7), (1, ai i), (2, ai m)]) dX6_refuses_11 rfl (Nat.le_of_ble_eq_true rfl) rfl ?_
  refine a_iload_n dX6_refuses_12 rfl rfl ?_
  refine a_if_ge (tgt := 18) dX6_refuses_13 (by decide) (inR_of (by omega) (by omega)) (fun c13 => ?_) (fun c13 => ?_)
  · refine a_iload_n dX6_refuses_18 rfl rfl ?_
    refine a_if_le (tgt := 51) dX6_refuses_19 (by decide) (inR_of (by omega) (by omega)) (fun c19 => ?_) (fun c19 => ?_)
    · refine a_iconst dX6_refuses_51 ?_
      exact a_zret rfl (by omega) ⟨by unfold LE_; grind, rfl⟩ dX6_refuses_52
    · refine a_aload_n dX6_refuses_22 rfl rfl ?_
      refine a_getR (d := N) (J := 0) fX6_22 k7 rfl (rT_0 (by decide)) rfl hT7.net dX6_refuses_23 ?_
      refine a_iload_n dX6_refuses_26 rfl rfl ?_
      refine a_iconst dX6_refuses_27 ?_
      refine a_isub dX6_refuses_28 ?_
      refine a_cI (c := N) (as := [ai (i - 1)]) (rest := []) (c_goesOn σ ρ N hW hN (i - 1) (by omega) (by omega)) mvX2_goesOn lX6_53 (kN hNk) (by decide) rfl rfl rfl rfl (Nat.le_of_ble_eq_true rfl) (Nat.le_of_ble_eq_true rfl) (Nat.le_of_ble_eq_true rfl) dX6_refuses_29 ?_
      refine a_ifb_eq (tgt := 51) dX6_refuses_32 (by decide) (fun c32 => ?_) (fun c32 => ?_)
      · refine a_iconst dX6_refuses_51 ?_
        exact a_zret rfl (by omega) ⟨by unfold LE_; grind, rfl⟩ dX6_refuses_52
      · refine a_iload_n dX6_refuses_35 rfl rfl ?_
        refine a_aload_n dX6_refuses_36 rfl rfl ?_
        refine a_getF (d := 9) fX6_15 k7 rfl r7_4 dX6_refuses_37 ?_
        refine a_iload_n dX6_refuses_40 rfl rfl ?_
        refine a_iconst dX6_refuses_41 ?_
        refine a_isub dX6_refuses_42 ?_
        refine a_ild k9 n9 (by omega) (by omega) dX6_refuses_43 ?_
        refine a_topI (y := gN ρ 162 (i - 1)) (hT7.cm (by omega) (by omega)) ?_
        have hb73 := hW.tm (i - 1) (by omega) (by omega)
        refine a_icmp_ge (tgt := 51) dX6_refuses_44 (by decide) (inR_of (by omega) (by omega)) (inR_gN _ _ _) (fun c44 => ?_) (fun c44 => ?_)
        · refine a_iconst dX6_refuses_51 ?_
          exact a_zret rfl (by omega) ⟨by unfold LE_; grind, rfl⟩ dX6_refuses_52
        · refine a_iconst dX6_refuses_47 ?_
          refine a_goto (tgt := 52) dX6_refuses_48 (by decide) ?_
          exact a_zret rfl (by omega) ⟨by unfold LE_; grind, rfl⟩ dX6_refuses_52
  · refine a_iconst dX6_refuses_16 ?_
    exact a_zret rfl (by omega) ⟨by unfold LE_; grind, rfl⟩ dX6_refuses_17

set_option maxRecDepth 20000 in
theorem c_cancRides_l (σ ρ : Sto) (N : Nat) (hW : WV ρ) (hN : NetR σ N ρ) (hT7 : TmR σ N 7 ρ) (V : Int) : ∀ (n : Nat) (i : Int) (c : Int), 0 ≤ i → i ≤ gN ρ 155 3 → n = (gN ρ 155 3 - i).toNat → V = itr (ctF ρ) n i c → RunA mX6_cancelledRides (qI V σ) 4 [(2, ai i), (1, ai c), (0, ar 7)] [] σ := by
  have hNk := hN.k
  have hR := hW.R
  have hS := hW.S
  have hTr := hW.T
  intro n
  induction n with
  | zero =>
    intro i c h0 h5 hn hE
    refine a_iload_n dX6_cancelledRides_4 rfl rfl ?_
    refine a_aload_n dX6_cancelledRides_5 rfl rfl ?_
    refine a_getR (d := N) (J := 0) fX6_22 k7 rfl (rT_0 (by decide)) rfl hT7.net dX6_cancelledRides_6 ?_
    refine a_getI (J := 3) fX6_34 (kN hNk) rfl rfl dX6_cancelledRides_9 ?_
    refine a_topI (y := gN ρ 155 3) hN.n3 ?_
    refine a_icmp_ge (tgt := 32) dX6_cancelledRides_12 (by decide) (inR_of (by omega) (by omega)) (inR_gN _ _ _) (fun c12 => ?_) (fun c12 => ?_)
    · refine a_iload_n dX6_cancelledRides_32 rfl rfl ?_
      exact a_iret rfl ⟨by rw [hE]; rfl, rfl⟩ dX6_cancelledRides_33
    · exfalso; omega
  | succ n ih =>
    intro i c h0 h5 hn hE
    refine a_iload_n dX6_cancelledRides_4 rfl rfl ?_
    refine a_aload_n dX6_cancelledRides_5 rfl rfl ?_
    refine a_getR (d := N) (J := 0) fX6_22 k7 rfl (rT_0 (by decide)) rfl hT7.net dX6_cancelledRides_6 ?_
    refine a_getI (J := 3) fX6_34 (kN hNk) rfl rfl dX6_cancelledRides_9 ?_
    refine a_topI (y := gN ρ 155 3) hN.n3 ?_
    refine a_icmp_ge (tgt := 32) dX6_cancelledRides_12 (by decide) (inR_of (by omega) (by omega)) (inR_gN _ _ _) (fun c12 => ?_) (fun c12 => ?_)
    · exfalso; omega
    · have htm := hW.tm i (by omega) (by omega)
      have hrd := hW.ride i (by omega) (by omega)
      refine a_aload_n dX6_cancelledRides_15 rfl rfl ?_
      refine a_iload_n dX6_cancelledRides_16 rfl rfl ?_
      refine a_cI (c := 7) (as := [ai i]) (rest := []) (c_isCancelled σ ρ N 7 hW hN hT7 i (by omega) (by omega)) mvX6_isCancelled lX6_57 k7 (by decide) rfl rfl rfl rfl (Nat.le_of_ble_eq_true rfl) (Nat.le_of_ble_eq_true rfl) (Nat.le_of_ble_eq_true rfl) dX6_cancelledRides_17 ?_
      refine a_ifb_eq (tgt := 26) dX6_cancelledRides_20 (by decide) (fun c20 => ?_) (fun c20 => ?_)
      · refine a_iinc (y := i + 1) (ls' := [(2, ai (i + 1)), (1, ai c), (0, ar 7)]) dX6_cancelledRides_26 rfl rfl (Nat.le_of_ble_eq_true rfl) rfl ?_
        refine a_goto (tgt := 4) dX6_cancelledRides_29 (by decide) ?_
        have e : ctF ρ i c = c := by unfold ctF; grind
        exact a_keep (by simp) (ih (i + 1) (c) (by omega) (by omega) (by omega) (by rw [hE, itr_s, e]))
      · refine a_iinc (y := c + 1) (ls' := [(1, ai (c + 1)), (2, ai i), (0, ar 7)]) dX6_cancelledRides_23 rfl rfl (Nat.le_of_ble_eq_true rfl) rfl ?_
        refine a_iinc (y := i + 1) (ls' := [(2, ai (i + 1)), (1, ai (c + 1)), (0, ar 7)]) dX6_cancelledRides_26 rfl rfl (Nat.le_of_ble_eq_true rfl) rfl ?_
        refine a_goto (tgt := 4) dX6_cancelledRides_29 (by decide) ?_
        have e : ctF ρ i c = c + 1 := by unfold ctF; grind
        exact a_keep (by simp) (ih (i + 1) (c + 1) (by omega) (by omega) (by omega) (by rw [hE, itr_s, e]))

set_option maxRecDepth 20000 in
theorem c_cancRides (σ ρ : Sto) (N : Nat) (hW : WV ρ) (hN : NetR σ N ρ) (hT7 : TmR σ N 7 ρ) : MetI mX6_cancelledRides [ar 7] σ (ctT ρ) σ := by
  have hNk := hN.k
  have hR := hW.R
  have hS := hW.S
  have hTr := hW.T
  refine a_entry (by decide) (Nat.le_of_ble_eq_true rfl) ?_
  refine a_ls (ls' := [(0, ar 7)]) rfl ?_
  refine a_iconst dX6_cancelledRides_0 ?_
  refine a_istore_n (ls' := [(1, ai 0), (0, ar 7)]) dX6_cancelledRides_1 rfl (Nat.le_of_ble_eq_true rfl) rfl ?_
  refine a_iconst dX6_cancelledRides_2 ?_
  refine a_istore_n (ls' := [(2, ai 0), (1, ai 0), (0, ar 7)]) dX6_cancelledRides_3 rfl (Nat.le_of_ble_eq_true rfl) rfl ?_
  exact a_keep (by simp) (c_cancRides_l σ ρ N hW hN hT7 _ (gN ρ 155 3).toNat 0 0 (by omega) (by omega) (by omega) rfl)

set_option maxRecDepth 20000 in
theorem c_shiftRides_l (σ ρ : Sto) (N : Nat) (hW : WV ρ) (hN : NetR σ N ρ) (hT7 : TmR σ N 7 ρ) (V : Int) : ∀ (n : Nat) (i : Int) (c : Int), 0 ≤ i → i ≤ gN ρ 155 3 → n = (gN ρ 155 3 - i).toNat → V = itr (sfF ρ) n i c → RunA mX6_shiftedRides (qI V σ) 4 [(2, ai i), (1, ai c), (0, ar 7)] [] σ := by
  have hNk := hN.k
  have hR := hW.R
  have hS := hW.S
  have hTr := hW.T
  intro n
  induction n with
  | zero =>
    intro i c h0 h5 hn hE
    refine a_iload_n dX6_shiftedRides_4 rfl rfl ?_
    refine a_aload_n dX6_shiftedRides_5 rfl rfl ?_
    refine a_getR (d := N) (J := 0) fX6_22 k7 rfl (rT_0 (by decide)) rfl hT7.net dX6_shiftedRides_6 ?_
    refine a_getI (J := 3) fX6_34 (kN hNk) rfl rfl dX6_shiftedRides_9 ?_
    refine a_topI (y := gN ρ 155 3) hN.n3 ?_
    refine a_icmp_ge (tgt := 32) dX6_shiftedRides_12 (by decide) (inR_of (by omega) (by omega)) (inR_gN _ _ _) (fun c12 => ?_) (fun c12 => ?_)
    · refine a_iload_n dX6_shiftedRides_32 rfl rfl ?_
      exact a_iret rfl ⟨by rw [hE]; rfl, rfl⟩ dX6_shiftedRides_33
    · exfalso; omega
  | succ n ih =>
    intro i c h0 h5 hn hE
    refine a_iload_n dX6_shiftedRides_4 rfl rfl ?_
    refine a_aload_n dX6_shiftedRides_5 rfl rfl ?_
    refine a_getR (d := N) (J := 0) fX6_22 k7 rfl (rT_0 (by decide)) rfl hT7.net dX6_shiftedRides_6 ?_
    refine a_getI (J := 3) fX6_34 (kN hNk) rfl rfl dX6_shiftedRides_9 ?_
    refine a_topI (y := gN ρ 155 3) hN.n3 ?_
    refine a_icmp_ge (tgt := 32) dX6_shiftedRides_12 (by decide) (inR_of (by omega) (by omega)) (inR_gN _ _ _) (fun c12 => ?_) (fun c12 => ?_)
    · exfalso; omega
    · have htm := hW.tm i (by omega) (by omega)
      have hrd := hW.ride i (by omega) (by omega)
      refine a_aload_n dX6_shiftedRides_15 rfl rfl ?_
      refine a_iload_n dX6_shiftedRides_16 rfl rfl ?_
      refine a_cI (c := 7) (as := [ai i]) (rest := []) (c_minutesLate σ ρ N 7 hW hN hT7 i (by omega) (by omega)) mvX6_minutesLate lX6_60 k7 (by decide) rfl rfl rfl rfl (Nat.le_of_ble_eq_true rfl) (Nat.le_of_ble_eq_true rfl) (Nat.le_of_ble_eq_true rfl) dX6_shiftedRides_17 ?_
      refine a_if_eq (tgt := 26) dX6_shiftedRides_20 (by decide) (inR_of (by omega) (by omega)) (fun c20 => ?_) (fun c20 => ?_)
      · refine a_iinc (y := i + 1) (ls' := [(2, ai (i + 1)), (1, ai c), (0, ar 7)]) dX6_shiftedRides_26 rfl rfl (Nat.le_of_ble_eq_true rfl) rfl ?_
        refine a_goto (tgt := 4) dX6_shiftedRides_29 (by decide) ?_
        have e : sfF ρ i c = c := by unfold sfF; grind
        exact a_keep (by simp) (ih (i + 1) (c) (by omega) (by omega) (by omega) (by rw [hE, itr_s, e]))
      · refine a_iinc (y := c + 1) (ls' := [(1, ai (c + 1)), (2, ai i), (0, ar 7)]) dX6_shiftedRides_23 rfl rfl (Nat.le_of_ble_eq_true rfl) rfl ?_
        refine a_iinc (y := i + 1) (ls' := [(2, ai (i + 1)), (1, ai (c + 1)), (0, ar 7)]) dX6_shiftedRides_26 rfl rfl (Nat.le_of_ble_eq_true rfl) rfl ?_
        refine a_goto (tgt := 4) dX6_shiftedRides_29 (by decide) ?_
        have e : sfF ρ i c = c + 1 := by unfold sfF; grind
        exact a_keep (by simp) (ih (i + 1) (c + 1) (by omega) (by omega) (by omega) (by rw [hE, itr_s, e]))

set_option maxRecDepth 20000 in
theorem c_shiftRides (σ ρ : Sto) (N : Nat) (hW : WV ρ) (hN : NetR σ N ρ) (hT7 : TmR σ N 7 ρ) : MetI mX6_shiftedRides [ar 7] σ (sfT ρ) σ := by
  have hNk := hN.k
  have hR := hW.R
  have hS := hW.S
  have hTr := hW.T
  refine a_entry (by decide) (Nat.le_of_ble_eq_true rfl) ?_
  refine a_ls (ls' := [(0, ar 7)]) rfl ?_
  refine a_iconst dX6_shiftedRides_0 ?_
  refine a_istore_n (ls' := [(1, ai 0), (0, ar 7)]) dX6_shiftedRides_1 rfl (Nat.le_of_ble_eq_true rfl) rfl ?_
  refine a_iconst dX6_shiftedRides_2 ?_
  refine a_istore_n (ls' := [(2, ai 0), (1, ai 0), (0, ar 7)]) dX6_shiftedRides_3 rfl (Nat.le_of_ble_eq_true rfl) rfl ?_
  exact a_keep (by simp) (c_shiftRides_l σ ρ N hW hN hT7 _ (gN ρ 155 3).toNat 0 0 (by omega) (by omega) (by omega) rfl)

set_option maxRecDepth 20000 in
theorem c_udClear (σ : Sto) : MetV mX7_clear [ar 15] σ (sN σ 15 0 0) := by
  refine a_entry (by decide) (Nat.le_of_ble_eq_true rfl) ?_
  refine a_ls (ls' := [(0, ar 15)]) rfl ?_
  refine a_aload_n dX7_clear_0 rfl rfl ?_
  refine a_iconst dX7_clear_1 ?_
  refine a_putI (J := 0) fX7_20 k15 rfl rfl rfl dX7_clear_2 ?_
  exact a_vret rfl ⟨rfl, rfl⟩ dX7_clear_5

abbrev pUk (tp : Int) (c : Nat) (j : Int) : Prop := c = 15 ∨ (c = 17 ∧ j = tp) ∨ c = 18 + tp.toNat
def KpP (σ u ρ : Sto) (tp sz : Int) : Prop := Fg (pUk tp) σ u ∧ gN u 15 0 = (if sz + 1 < 20 then sz + 1 else 20) ∧ gN u 15 1 = (if tp + 1 < 20 then tp + 1 else 0) ∧ gL u 17 tp = gL ρ 153 23 ∧ ∀ i : Int, 0 ≤ i → i < gN ρ 155 3 → gN u (18 + tp.toNat) i = gN ρ 161 i - gN ρ 155 (115 + 5 * i + 3)

set_option maxRecDepth 20000 in
theorem c_kp_l (σ ρ : Sto) (N : Nat) (hW : WV ρ) (hN : NetR σ N ρ) (hT7 : TmR σ N 7 ρ) (tp sz : Int) (htp : gN σ 15 1 = tp) (hsz : gN σ 15 0 = sz) (h0 : 0 ≤ tp) (h1 : tp < 20) (hz0 : 0 ≤ sz) (hz1 : sz ≤ 20) : ∀ (n : Nat) (i : Int) (τ : Sto), 0 ≤ i → i ≤ gN ρ 155 3 → n = (gN ρ 155 3 - i).toNat → Fg (fun c _ => c = 18 + tp.toNat) σ τ → (∀ j : Int, 0 ≤ j → j < i → gN τ (18 + tp.toNat) j = gN ρ 161 j - gN ρ 155 (115 + 5 * j + 3)) → RunA mX7_keep (fun r u => r = none ∧ KpP σ u ρ tp sz) 2 [(2, ai i), (0, ar 15), (1, ar 7)] [] τ := by
  have hNk := hN.k
  have hR := hW.R
  have hS := hW.S
  have hTr := hW.T
  intro n
  induction n with
  | zero =>
    intro i τ hi0 h5 hn hF hZ
    have hNτ : NetR τ N ρ := hN.of hS.2 (fun d j q0 q1 => hF.n (by omega))
    have hT7τ : TmR τ N 7 ρ := hT7.of (hF.r (by omega)) (hF.l (by omega)) (fun j => hF.n (by omega)) (fun j => hF.n (by omega)) (Or.inl (hF.n (by omega)))
    have htpτ : gN τ 15 1 = tp := (hF.n (by omega)).trans htp
    have hszτ : gN τ 15 0 = sz := (hF.n (by omega)).trans hsz
    refine a_iload_n dX7_keep_2 rfl rfl ?_
    refine a_aload_n dX7_keep_3 rfl rfl ?_
    refine a_getR (d := N) (J := 0) fX7_24 k7 rfl (rT_0 (by decide)) rfl hT7τ.net dX7_keep_4 ?_
    refine a_getI (J := 3) fX7_30 (kN hNk) rfl rfl dX7_keep_7 ?_
    refine a_topI (y := gN ρ 155 3) hNτ.n3 ?_
    refine a_icmp_ge (tgt := 35) dX7_keep_10 (by decide) (inR_of (by omega) (by omega)) (inR_gN _ _ _) (fun c10 => ?_) (fun c10 => ?_)
    · refine a_aload_n dX7_keep_35 rfl rfl ?_
      refine a_getF (d := 17) fX7_16 k15 rfl r15_3 dX7_keep_36 ?_
      refine a_aload_n dX7_keep_39 rfl rfl ?_
      refine a_getI (J := 1) fX7_35 k15 rfl rfl dX7_keep_40 ?_
      refine a_topI (y := tp) htpτ ?_
      refine a_aload_n dX7_keep_43 rfl rfl ?_
      refine a_getL (J := 1) fX7_41 k7 rfl rfl dX7_keep_44 ?_
      refine a_topL (y := gL ρ 153 23) hT7τ.off ?_
      refine a_lst k17 n17 (by omega) (by omega) dX7_keep_47 ?_
      refine a_aload_n dX7_keep_48 rfl rfl ?_
      refine a_aload_n dX7_keep_49 rfl rfl ?_
      refine a_getI (J := 1) fX7_35 k15 rfl rfl dX7_keep_50 ?_
      refine a_topI (y := tp) (by rw [gN_sL]; exact htpτ) ?_
      refine a_iconst dX7_keep_53 ?_
      refine a_iadd dX7_keep_54 ?_
      refine a_bipush (x := 20) dX7_keep_55 (by decide) ?_
      refine a_icmp_ge (tgt := 69) dX7_keep_57 (by decide) (inR_of (by omega) (by omega)) (inR_of (by omega) (by omega)) (fun c57 => ?_) (fun c57 => ?_)
      · refine a_iconst dX7_keep_69 ?_
        refine a_putI (J := 1) fX7_35 k15 rfl rfl rfl dX7_keep_70 ?_
        refine a_aload_n dX7_keep_73 rfl rfl ?_
        refine a_aload_n dX7_keep_74 rfl rfl ?_
        refine a_getI (J := 0) fX7_20 k15 rfl rfl dX7_keep_75 ?_
        refine a_topI (y := sz) (by rw [gN_sN, if_neg (by omega), gN_sL]; exact hszτ) ?_
        refine a_iconst dX7_keep_78 ?_
        refine a_iadd dX7_keep_79 ?_
        refine a_bipush (x := 20) dX7_keep_80 (by decide) ?_
        refine a_mmin lm7_44 (inR_of (by omega) (by omega)) (inR_of (by omega) (by omega)) (Nat.le_of_ble_eq_true rfl) (Nat.le_of_ble_eq_true rfl) (Nat.le_of_ble_eq_true rfl) dX7_keep_82 ?_
        refine a_putI (J := 0) fX7_20 k15 rfl rfl rfl dX7_keep_85 ?_
        exact a_vret rfl ⟨rfl, (((hF.mono (fun c j z => by unfold pUk; omega)).sL (by unfold pUk; omega)).sN (by unfold pUk; omega)).sN (by unfold pUk; omega), by rw [gN_sN, if_pos ⟨rfl, rfl⟩, nrm_of (inR_of (by split <;> omega) (by split <;> omega))]; split <;> (try split) <;> omega, by rw [gN_sN, if_neg (by omega), gN_sN, if_pos ⟨rfl, rfl⟩, nrm_of (inR_of (by omega) (by omega)), if_neg (by omega)], by rw [gL_sN, gL_sN, gL_sL, if_pos ⟨rfl, rfl⟩], fun j j0 j1 => by rw [gN_sN, if_neg (by omega), gN_sN, if_neg (by omega), gN_sL]; exact hZ j j0 (by omega)⟩ dX7_keep_88
      · refine a_aload_n dX7_keep_60 rfl rfl ?_
        refine a_getI (J := 1) fX7_35 k15 rfl rfl dX7_keep_61 ?_
        refine a_topI (y := tp) (by rw [gN_sL]; exact htpτ) ?_
        refine a_iconst dX7_keep_64 ?_
        refine a_iadd dX7_keep_65 ?_
        refine a_goto (tgt := 70) dX7_keep_66 (by decide) ?_
        refine a_putI (J := 1) fX7_35 k15 rfl rfl rfl dX7_keep_70 ?_
        refine a_aload_n dX7_keep_73 rfl rfl ?_
        refine a_aload_n dX7_keep_74 rfl rfl ?_
        refine a_getI (J := 0) fX7_20 k15 rfl rfl dX7_keep_75 ?_
        refine a_topI (y := sz) (by rw [gN_sN, if_neg (by omega), gN_sL]; exact hszτ) ?_
        refine a_iconst dX7_keep_78 ?_
        refine a_iadd dX7_keep_79 ?_
        refine a_bipush (x := 20) dX7_keep_80 (by decide) ?_
        refine a_mmin lm7_44 (inR_of (by omega) (by omega)) (inR_of (by omega) (by omega)) (Nat.le_of_ble_eq_true rfl) (Nat.le_of_ble_eq_true rfl) (Nat.le_of_ble_eq_true rfl) dX7_keep_82 ?_
        refine a_putI (J := 0) fX7_20 k15 rfl rfl rfl dX7_keep_85 ?_
        exact a_vret rfl ⟨rfl, (((hF.mono (fun c j z => by unfold pUk; omega)).sL (by unfold pUk; omega)).sN (by unfold pUk; omega)).sN (by unfold pUk; omega), by rw [gN_sN, if_pos ⟨rfl, rfl⟩, nrm_of (inR_of (by split <;> omega) (by split <;> omega))]; split <;> (try split) <;> omega, by rw [gN_sN, if_neg (by omega), gN_sN, if_pos ⟨rfl, rfl⟩, nrm_of (inR_of (by omega) (by omega)), if_pos (by omega)], by rw [gL_sN, gL_sN, gL_sL, if_pos ⟨rfl, rfl⟩], fun j j0 j1 => by rw [gN_sN, if_neg (by omega), gN_sN, if_neg (by omega), gN_sL]; exact hZ j j0 (by omega)⟩ dX7_keep_88
    · exfalso; omega
  | succ n ih =>
    intro i τ hi0 h5 hn hF hZ
    have hNτ : NetR τ N ρ := hN.of hS.2 (fun d j q0 q1 => hF.n (by omega))
    have hT7τ : TmR τ N 7 ρ := hT7.of (hF.r (by omega)) (hF.l (by omega)) (fun j => hF.n (by omega)) (fun j => hF.n (by omega)) (Or.inl (hF.n (by omega)))
    have htpτ : gN τ 15 1 = tp := (hF.n (by omega)).trans htp
    have hszτ : gN τ 15 0 = sz := (hF.n (by omega)).trans hsz
    refine a_iload_n dX7_keep_2 rfl rfl ?_
    refine a_aload_n dX7_keep_3 rfl rfl ?_
    refine a_getR (d := N) (J := 0) fX7_24 k7 rfl (rT_0 (by decide)) rfl hT7τ.net dX7_keep_4 ?_
    refine a_getI (J := 3) fX7_30 (kN hNk) rfl rfl dX7_keep_7 ?_
    refine a_topI (y := gN ρ 155 3) hNτ.n3 ?_
    refine a_icmp_ge (tgt := 35) dX7_keep_10 (by decide) (inR_of (by omega) (by omega)) (inR_gN _ _ _) (fun c10 => ?_) (fun c10 => ?_)
    · exfalso; omega
    · refine a_aload_n dX7_keep_13 rfl rfl ?_
      refine a_getF (d := 16) fX7_11 k15 rfl r15_2 dX7_keep_14 ?_
      refine a_aload_n dX7_keep_17 rfl rfl ?_
      refine a_getI (J := 1) fX7_35 k15 rfl rfl dX7_keep_18 ?_
      refine a_topI (y := tp) htpτ ?_
      refine a_ald (d := (18 + tp.toNat)) k16 n16 (by omega) (by omega) (rowU (by omega) (by omega)) dX7_keep_21 ?_
      refine a_iload_n dX7_keep_22 rfl rfl ?_
      refine a_aload_n dX7_keep_23 rfl rfl ?_
      refine a_iload_n dX7_keep_24 rfl rfl ?_
      refine a_cI (c := 7) (as := [ai i]) (rest := [ai i, ar (18 + tp.toNat)]) (c_minutesLate τ ρ N 7 hW hNτ hT7τ i (by omega) (by omega)) mvX6_minutesLate lX7_38 k7 (by decide) rfl rfl rfl rfl (Nat.le_of_ble_eq_true rfl) (Nat.le_of_ble_eq_true rfl) (Nat.le_of_ble_eq_true rfl) dX7_keep_25 ?_
      refine a_ist (kU (by omega) (by omega)) (nU (by omega) (by omega)) (by omega) (by omega) dX7_keep_28 ?_
      refine a_iinc (y := i + 1) (ls' := [(2, ai (i + 1)), (0, ar 15), (1, ar 7)]) dX7_keep_29 rfl rfl (Nat.le_of_ble_eq_true rfl) rfl ?_
      refine a_goto (tgt := 2) dX7_keep_32 (by decide) ?_
      have htm := hW.tm i (by omega) (by omega)
      have hrd := hW.ride i (by omega) (by omega)
      refine a_keep (by simp) (ih (i + 1) (sN τ (18 + tp.toNat) i (gN ρ 161 i - gN ρ 155 (115 + 5 * i + 3))) (by omega) (by omega) (by omega) (hF.sN rfl) (fun j j0 j1 => ?_))
      by_cases e : j = i
      · rw [e, gN_sN, if_pos ⟨rfl, rfl⟩, nrm_of (inR_of (by omega) (by omega))]
      · rw [gN_sN, if_neg (by omega)]; exact hZ j j0 (by omega)

set_option maxRecDepth 20000 in
theorem c_keep (σ ρ : Sto) (N : Nat) (hW : WV ρ) (hN : NetR σ N ρ) (hT7 : TmR σ N 7 ρ) (tp sz : Int) (htp : gN σ 15 1 = tp) (hsz : gN σ 15 0 = sz) (h0 : 0 ≤ tp) (h1 : tp < 20) (hz0 : 0 ≤ sz) (hz1 : sz ≤ 20) : MetA mX7_keep [ar 15, ar 7] σ (fun r u => r = none ∧ KpP σ u ρ tp sz) := by
  have hNk := hN.k
  have hR := hW.R
  have hS := hW.S
  have hTr := hW.T
  refine a_entry (by decide) (Nat.le_of_ble_eq_true rfl) ?_
  refine a_ls (ls' := [(0, ar 15), (1, ar 7)]) rfl ?_
  refine a_iconst dX7_keep_0 ?_
  refine a_istore_n (ls' := [(2, ai 0), (0, ar 15), (1, ar 7)]) dX7_keep_1 rfl (Nat.le_of_ble_eq_true rfl) rfl ?_
  exact a_keep (by simp) (c_kp_l σ ρ N hW hN hT7 tp sz htp hsz h0 h1 hz0 hz1 (gN ρ 155 3).toNat 0 σ (by omega) (by omega) (by omega) Fg.rfl (fun j a b => by omega))

def tbT (tp : Int) : Int := if 0 < tp then tp - 1 else 19
abbrev pTb (c : Nat) (j : Int) : Prop := c = 15 ∨ (c = 7 ∧ j = 1) ∨ c = 8 ∨ c = 9
def TbP (σ u ρ : Sto) (tp sz : Int) : Prop := Fg pTb σ u ∧ gN u 15 0 = sz - 1 ∧ gN u 15 1 = tbT tp ∧ gL u 7 1 = gL σ 17 (tbT tp) ∧ ∀ i : Int, 0 ≤ i → i < gN ρ 155 3 → gN u 8 i = LE_ ρ i + gN σ (18 + (tbT tp).toNat) i ∧ gN u 9 i = CO_ ρ i + gN σ (18 + (tbT tp).toNat) i

set_option maxRecDepth 20000 in
theorem c_tb_l (σ ρ : Sto) (N : Nat) (hW : WV ρ) (hN : NetR σ N ρ) (hr : gR σ 7 0 = some N) (tp sz : Int) (htp : gN σ 15 1 = tp) (hsz : gN σ 15 0 = sz) (h0 : 0 ≤ tp) (h1 : tp < 20) (hz0 : 0 ≤ sz) (hz1 : sz ≤ 20) (hD : 0 < sz → ∀ i : Int, 0 ≤ i → i < gN ρ 155 3 → -60 ≤ gN σ (18 + (tbT tp).toNat) i ∧ gN σ (18 + (tbT tp).toNat) i ≤ 240) (hz : 0 < sz) : ∀ (n : Nat) (i : Int) (τ : Sto), 0 ≤ i → i ≤ gN ρ 155 3 → n = (gN ρ 155 3 - i).toNat → Fg (fun c _ => c = 15 ∨ c = 8 ∨ c = 9) σ τ → gN τ 15 1 = tbT tp → gN τ 15 0 = sz - 1 → (∀ j : Int, 0 ≤ j → j < i → gN τ 8 j = LE_ ρ j + gN σ (18 + (tbT tp).toNat) j ∧ gN τ 9 j = CO_ ρ j + gN σ (18 + (tbT tp).toNat) j) → RunA mX7_takeBack (fun r u => (r = some (ai 0) ∧ sz = 0 ∧ u = σ) ∨ (r = some (ai 1) ∧ 0 < sz ∧ TbP σ u ρ tp sz)) 43 [(2, ai i), (0, ar 15), (1, ar 7)] [] τ := by
  have hNk := hN.k
  have hR := hW.R
  have hS := hW.S
  have hTr := hW.T
  have htb : 0 ≤ tbT tp ∧ tbT tp < 20 := by unfold tbT; split <;> omega
  intro n
  induction n with
  | zero =>
    intro i τ hi0 h5 hn hF h15 h150 hZ
    have hNτ : NetR τ N ρ := hN.of hS.2 (fun d j q0 q1 => hF.n (by omega))
    have hrτ : gR τ 7 0 = some N := (hF.r (by omega)).trans hr
    have hTk : Tok 7 := by decide
    refine a_iload_n dX7_takeBack_43 rfl rfl ?_
    refine a_aload_n dX7_takeBack_44 rfl rfl ?_
    refine a_getR (d := N) (J := 0) fX7_24 k7 rfl (rT_0 (by decide)) rfl hrτ dX7_takeBack_45 ?_
    refine a_getI (J := 3) fX7_30 (kN hNk) rfl rfl dX7_takeBack_48 ?_
    refine a_topI (y := gN ρ 155 3) hNτ.n3 ?_
    refine a_icmp_ge (tgt := 76) dX7_takeBack_51 (by decide) (inR_of (by omega) (by omega)) (inR_gN _ _ _) (fun c51 => ?_) (fun c51 => ?_)
    · refine a_aload_n dX7_takeBack_76 rfl rfl ?_
      refine a_aload_n dX7_takeBack_77 rfl rfl ?_
      refine a_getF (d := 17) fX7_16 k15 rfl r15_3 dX7_takeBack_78 ?_
      refine a_aload_n dX7_takeBack_81 rfl rfl ?_
      refine a_getI (J := 1) fX7_35 k15 rfl rfl dX7_takeBack_82 ?_
      refine a_topI (y := tbT tp) h15 ?_
      refine a_lld k17 n17 (by omega) (by omega) dX7_takeBack_85 ?_
      refine a_putL (J := 1) fX7_41 k7 rfl rfl rfl dX7_takeBack_86 ?_
      refine a_iconst dX7_takeBack_89 ?_
      exact a_zret rfl (by omega) (Or.inr ⟨rfl, hz, (hF.mono (fun c j z => by unfold pTb; omega)).sL (by unfold pTb; omega), by rw [gN_sL]; exact h150, by rw [gN_sL]; exact h15, by rw [gL_sL, if_pos ⟨rfl, rfl⟩, hF.l (by omega)], fun j j0 j1 => by rw [gN_sL, gN_sL]; exact hZ j j0 (by omega)⟩) dX7_takeBack_90
    · exfalso; omega
  | succ n ih =>
    intro i τ hi0 h5 hn hF h15 h150 hZ
    have hNτ : NetR τ N ρ := hN.of hS.2 (fun d j q0 q1 => hF.n (by omega))
    have hrτ : gR τ 7 0 = some N := (hF.r (by omega)).trans hr
    have hTk : Tok 7 := by decide
    refine a_iload_n dX7_takeBack_43 rfl rfl ?_
    refine a_aload_n dX7_takeBack_44 rfl rfl ?_
    refine a_getR (d := N) (J := 0) fX7_24 k7 rfl (rT_0 (by decide)) rfl hrτ dX7_takeBack_45 ?_
    refine a_getI (J := 3) fX7_30 (kN hNk) rfl rfl dX7_takeBack_48 ?_
    refine a_topI (y := gN ρ 155 3) hNτ.n3 ?_
    refine a_icmp_ge (tgt := 76) dX7_takeBack_51 (by decide) (inR_of (by omega) (by omega)) (inR_gN _ _ _) (fun c51 => ?_) (fun c51 => ?_)
    · exfalso; omega
    · refine a_aload_n dX7_takeBack_54 rfl rfl ?_
      refine a_iload_n dX7_takeBack_55 rfl rfl ?_
      refine a_aload_n dX7_takeBack_56 rfl rfl ?_
      refine a_getF (d := 16) fX7_11 k15 rfl r15_2 dX7_takeBack_57 ?_
      refine a_aload_n dX7_takeBack_60 rfl rfl ?_
      refine a_getI (J := 1) fX7_35 k15 rfl rfl dX7_takeBack_61 ?_
      refine a_topI (y := tbT tp) h15 ?_
      refine a_ald (d := (18 + (tbT tp).toNat)) k16 n16 (by omega) (by omega) (rowU (by omega) (by omega)) dX7_takeBack_64 ?_
      refine a_iload_n dX7_takeBack_65 rfl rfl ?_
      refine a_ild (kU (by omega) (by omega)) (nU (by omega) (by omega)) (by omega) (by omega) dX7_takeBack_66 ?_
      refine a_topI (y := gN σ (18 + (tbT tp).toNat) i) (hF.n (by omega)) ?_
      refine a_cV (c := 7) (as := [ai i, ai (gN σ (18 + (tbT tp).toNat) i)]) (rest := []) (c_setML τ ρ N 7 hW hNτ hTk hrτ i (gN σ (18 + (tbT tp).toNat) i) (by omega) (by omega)) mvX6_setMinutesLate lX7_50 k7 (by decide) rfl rfl rfl rfl (Nat.le_of_ble_eq_true rfl) (Nat.le_of_ble_eq_true rfl) (Nat.le_of_ble_eq_true rfl) dX7_takeBack_67 ?_
      refine a_iinc (y := i + 1) (ls' := [(2, ai (i + 1)), (0, ar 15), (1, ar 7)]) dX7_takeBack_70 rfl rfl (Nat.le_of_ble_eq_true rfl) rfl ?_
      refine a_goto (tgt := 43) dX7_takeBack_73 (by decide) ?_
      have hrd := hW.ride i (by omega) (by omega)
      have hd := hD hz (i := i) (by omega) (by omega)
      refine a_keep (by simp) (ih (i + 1) (sN (sN τ 8 i (LE_ ρ i + (gN σ (18 + (tbT tp).toNat) i))) 9 i (CO_ ρ i + (gN σ (18 + (tbT tp).toNat) i))) (by omega) (by omega) (by omega) ((hF.sN (by omega)).sN (by omega)) (by rw [gN_sN, if_neg (by omega), gN_sN, if_neg (by omega)]; exact h15) (by rw [gN_sN, if_neg (by omega), gN_sN, if_neg (by omega)]; exact h150) (fun j j0 j1 => ?_))
      by_cases e : j = i
      · refine ⟨?_, ?_⟩
        · rw [e, gN_sN, if_neg (by omega), gN_sN, if_pos ⟨rfl, rfl⟩, nrm_of (inR_of (by unfold LE_; omega) (by unfold LE_; omega))]
        · rw [e, gN_sN, if_pos ⟨rfl, rfl⟩, nrm_of (inR_of (by unfold CO_; omega) (by unfold CO_; omega))]
      · have z := hZ j j0 (by omega)
        refine ⟨?_, ?_⟩
        · rw [gN_sN, if_neg (by omega), gN_sN, if_neg (by omega)]; exact z.1
        · rw [gN_sN, if_neg (by omega), gN_sN, if_neg (by omega)]; exact z.2

set_option maxRecDepth 20000 in
theorem c_takeBack (σ ρ : Sto) (N : Nat) (hW : WV ρ) (hN : NetR σ N ρ) (hr : gR σ 7 0 = some N) (tp sz : Int) (htp : gN σ 15 1 = tp) (hsz : gN σ 15 0 = sz) (h0 : 0 ≤ tp) (h1 : tp < 20) (hz0 : 0 ≤ sz) (hz1 : sz ≤ 20) (hD : 0 < sz → ∀ i : Int, 0 ≤ i → i < gN ρ 155 3 → -60 ≤ gN σ (18 + (tbT tp).toNat) i ∧ gN σ (18 + (tbT tp).toNat) i ≤ 240) : MetA mX7_takeBack [ar 15, ar 7] σ (fun r u => (r = some (ai 0) ∧ sz = 0 ∧ u = σ) ∨ (r = some (ai 1) ∧ 0 < sz ∧ TbP σ u ρ tp sz)) := by
  have hNk := hN.k
  have hR := hW.R
  have hS := hW.S
  have hTr := hW.T
  refine a_entry (by decide) (Nat.le_of_ble_eq_true rfl) ?_
  refine a_ls (ls' := [(0, ar 15), (1, ar 7)]) rfl ?_
  refine a_aload_n dX7_takeBack_0 rfl rfl ?_
  refine a_getI (J := 0) fX7_20 k15 rfl rfl dX7_takeBack_1 ?_
  refine a_topI (y := sz) hsz ?_
  refine a_if_ne (tgt := 9) dX7_takeBack_4 (by decide) (inR_of (by omega) (by omega)) (fun c4 => ?_) (fun c4 => ?_)
  · refine a_aload_n dX7_takeBack_9 rfl rfl ?_
    refine a_dup dX7_takeBack_10 rfl ?_
    refine a_getI (J := 0) fX7_20 k15 rfl rfl dX7_takeBack_11 ?_
    refine a_topI (y := sz) hsz ?_
    refine a_iconst dX7_takeBack_14 ?_
    refine a_isub dX7_takeBack_15 ?_
    refine a_putI (J := 0) fX7_20 k15 rfl rfl rfl dX7_takeBack_16 ?_
    refine a_aload_n dX7_takeBack_19 rfl rfl ?_
    refine a_aload_n dX7_takeBack_20 rfl rfl ?_
    refine a_getI (J := 1) fX7_35 k15 rfl rfl dX7_takeBack_21 ?_
    refine a_topI (y := tp) (by rw [gN_sN, if_neg (by omega)]; exact htp) ?_
    refine a_if_le (tgt := 36) dX7_takeBack_24 (by decide) (inR_of (by omega) (by omega)) (fun c24 => ?_) (fun c24 => ?_)
    · refine a_bipush (x := 19) dX7_takeBack_36 (by decide) ?_
      refine a_putI (J := 1) fX7_35 k15 rfl rfl rfl dX7_takeBack_38 ?_
      refine a_iconst dX7_takeBack_41 ?_
      refine a_istore_n (ls' := [(2, ai 0), (0, ar 15), (1, ar 7)]) dX7_takeBack_42 rfl (Nat.le_of_ble_eq_true rfl) rfl ?_
      have hz : 0 < sz := by omega
      have etb : tbT tp = 19 := by unfold tbT; rw [if_neg (by omega)]
      have hF1 : Fg (fun c _ => c = 15 ∨ c = 8 ∨ c = 9) σ (sN (sN σ 15 0 (sz - 1)) 15 1 19) := (Fg.rfl.sN (by omega)).sN (by omega)
      refine a_keep (by simp) (c_tb_l σ ρ N hW hN hr tp sz htp hsz h0 h1 hz0 hz1 hD hz (gN ρ 155 3).toNat 0 (sN (sN σ 15 0 (sz - 1)) 15 1 19) (by omega) (by omega) (by omega) hF1 (by rw [gN_sN, if_pos ⟨rfl, rfl⟩, etb]; rfl) (by rw [gN_sN, if_neg (by omega), gN_sN, if_pos ⟨rfl, rfl⟩, nrm_of (inR_of (by omega) (by omega))]) (fun j a b => by omega))
    · refine a_aload_n dX7_takeBack_27 rfl rfl ?_
      refine a_getI (J := 1) fX7_35 k15 rfl rfl dX7_takeBack_28 ?_
      refine a_topI (y := tp) (by rw [gN_sN, if_neg (by omega)]; exact htp) ?_
      refine a_iconst dX7_takeBack_31 ?_
      refine a_isub dX7_takeBack_32 ?_
      refine a_goto (tgt := 38) dX7_takeBack_33 (by decide) ?_
      refine a_putI (J := 1) fX7_35 k15 rfl rfl rfl dX7_takeBack_38 ?_
      refine a_iconst dX7_takeBack_41 ?_
      refine a_istore_n (ls' := [(2, ai 0), (0, ar 15), (1, ar 7)]) dX7_takeBack_42 rfl (Nat.le_of_ble_eq_true rfl) rfl ?_
      have hz : 0 < sz := by omega
      have etb : tbT tp = tp - 1 := by unfold tbT; rw [if_pos (by omega)]
      have hF1 : Fg (fun c _ => c = 15 ∨ c = 8 ∨ c = 9) σ (sN (sN σ 15 0 (sz - 1)) 15 1 (tp - 1)) := (Fg.rfl.sN (by omega)).sN (by omega)
      refine a_keep (by simp) (c_tb_l σ ρ N hW hN hr tp sz htp hsz h0 h1 hz0 hz1 hD hz (gN ρ 155 3).toNat 0 (sN (sN σ 15 0 (sz - 1)) 15 1 (tp - 1)) (by omega) (by omega) (by omega) hF1 (by rw [gN_sN, if_pos ⟨rfl, rfl⟩, etb]; rw [nrm_of (inR_of (by omega) (by omega))]) (by rw [gN_sN, if_neg (by omega), gN_sN, if_pos ⟨rfl, rfl⟩, nrm_of (inR_of (by omega) (by omega))]) (fun j a b => by omega))
  · refine a_iconst dX7_takeBack_7 ?_
    exact a_zret rfl (by omega) (Or.inl ⟨rfl, by omega, rfl⟩) dX7_takeBack_8

set_option maxRecDepth 20000 in
theorem c_timesChanged (σ : Sto) : MetA mX8_timesChanged [ar 0] σ (fun r u => r = none ∧ Fg (fun c j => c = 42 ∨ (c = 7 ∧ j = 2)) σ u ∧ gN u 7 2 = 0 ∧ ∀ t : Int, 0 ≤ t → t < 10 → gN u 42 t = 0) := by
  refine a_entry (by decide) (Nat.le_of_ble_eq_true rfl) ?_
  refine a_ls (ls' := [(0, ar 0)]) rfl ?_
  refine a_aload_n dX8_timesChanged_0 rfl rfl ?_
  refine a_getF (d := 7) fX8_81 k0 rfl r0_3 dX8_timesChanged_1 ?_
  refine a_iconst dX8_timesChanged_4 ?_
  refine a_putZ (J := 2) fX8_226 k7 rfl rfl (by omega) rfl dX8_timesChanged_5 ?_
  refine a_aload_n dX8_timesChanged_8 rfl rfl ?_
  refine a_getF (d := 38) fX8_30 k0 rfl r0_6 dX8_timesChanged_9 ?_
  refine a_callV (c := 38) (as := []) (rest := []) (c_forget (sN σ 7 2 0)) mvX3_forget lX8_106 k38 (by decide) rfl rfl rfl rfl (Nat.le_of_ble_eq_true rfl) (Nat.le_of_ble_eq_true rfl) (Nat.le_of_ble_eq_true rfl) dX8_timesChanged_12 (fun u hu => ?_)
  obtain ⟨-, hu1, hu2⟩ := hu
  exact a_vret rfl ⟨rfl, (Fg.rfl.sN (by omega)).trans (hu1.mono (fun c j z => Or.inl z)), by rw [hu1.n (by omega), gN_sN, if_pos ⟨rfl, rfl⟩]; rfl, hu2⟩ dX8_timesChanged_15

set_option maxRecDepth 20000 in
theorem c_isRideOf (σ ρ : Sto) (N : Nat) (hW : WV ρ) (hC : gR σ 0 12 = some N) (hN : NetR σ N ρ) (x j : Int) (hx : inR x) (hj : inR j) : MetI mX8_isRideOf [ar 0, ai x, ai j] σ (if trp ρ x ∧ 0 ≤ j ∧ j < f1F ρ (x + 1) - f1F ρ x then 1 else 0) σ := by
  have hNk := hN.k
  have hR := hW.R
  have hS := hW.S
  have hTr := hW.T
  refine a_entry (by decide) (Nat.le_of_ble_eq_true rfl) ?_
  refine a_ls (ls' := [(0, ar 0), (1, ai x), (2, ai j)]) rfl ?_
  refine a_aload_n dX8_isRideOf_0 rfl rfl ?_
  refine a_iload_n dX8_isRideOf_1 rfl rfl ?_
  refine a_cI (c := 0) (as := [ai x]) (rest := []) (c_isTrip σ ρ N hW hC hN x hx) mvX8_isTrip lX8_287 k0 (by decide) rfl rfl rfl rfl (Nat.le_of_ble_eq_true rfl) (Nat.le_of_ble_eq_true rfl) (Nat.le_of_ble_eq_true rfl) dX8_isRideOf_2 ?_
  refine a_ifb_eq (tgt := 41) dX8_isRideOf_5 (by decide) (fun c5 => ?_) (fun c5 => ?_)
  · refine a_iconst dX8_isRideOf_41 ?_
    exact a_zret rfl (by omega) ⟨by grind, rfl⟩ dX8_isRideOf_42
  · refine a_iload_n dX8_isRideOf_8 rfl rfl ?_
    refine a_if_lt (tgt := 41) dX8_isRideOf_9 (by decide) hj (fun c9 => ?_) (fun c9 => ?_)
    · refine a_iconst dX8_isRideOf_41 ?_
      exact a_zret rfl (by omega) ⟨by grind, rfl⟩ dX8_isRideOf_42
    · refine a_iload_n dX8_isRideOf_12 rfl rfl ?_
      refine a_aload_n dX8_isRideOf_13 rfl rfl ?_
      refine a_getR (d := N) (J := 12) fX8_65 k0 rfl q0_12 rfl hC dX8_isRideOf_14 ?_
      refine a_getF (d := (N + 5)) fX8_183 (kN hNk) rfl (rN_8 hNk) dX8_isRideOf_17 ?_
      refine a_iload_n dX8_isRideOf_20 rfl rfl ?_
      refine a_iconst dX8_isRideOf_21 ?_
      refine a_iadd dX8_isRideOf_22 ?_
      refine a_ild (kN_5 hNk) (nN_5 hNk) (by omega) (by omega) dX8_isRideOf_23 ?_
      refine a_topI (y := f1F ρ (x + 1)) (hN.f1 (by omega) (by omega)) ?_
      have hb74 := hW.f1 (x + 1) (by omega)
      refine a_aload_n dX8_isRideOf_24 rfl rfl ?_
      refine a_getR (d := N) (J := 12) fX8_65 k0 rfl q0_12 rfl hC dX8_isRideOf_25 ?_
      refine a_getF (d := (N + 5)) fX8_183 (kN hNk) rfl (rN_8 hNk) dX8_isRideOf_28 ?_
      refine a_iload_n dX8_isRideOf_31 rfl rfl ?_
      refine a_ild (kN_5 hNk) (nN_5 hNk) (by omega) (by omega) dX8_isRideOf_32 ?_
      refine a_topI (y := f1F ρ x) (hN.f1 (by omega) (by omega)) ?_
      have hb75 := hW.f1 x (by omega)
      refine a_isub dX8_isRideOf_33 ?_
      refine a_icmp_ge (tgt := 41) dX8_isRideOf_34 (by decide) hj (inR_of (by omega) (by omega)) (fun c34 => ?_) (fun c34 => ?_)
      · refine a_iconst dX8_isRideOf_41 ?_
        exact a_zret rfl (by omega) ⟨by grind, rfl⟩ dX8_isRideOf_42
      · refine a_iconst dX8_isRideOf_37 ?_
        refine a_goto (tgt := 42) dX8_isRideOf_38 (by decide) ?_
        exact a_zret rfl (by omega) ⟨by grind, rfl⟩ dX8_isRideOf_42

