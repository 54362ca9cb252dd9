set_option maxRecDepth 20000 in
theorem c_within (σ : Sto) (x lo hi : Int) (hx : inR x) (hlo : inR lo) (hhi : inR hi) : MetI mX8_within [ai x, ai lo, ai hi] σ (if lo ≤ x ∧ x ≤ hi then 1 else 0) σ := by
  refine a_entry (by decide) (Nat.le_of_ble_eq_true rfl) ?_
  refine a_ls (ls' := [(0, ai x), (1, ai lo), (2, ai hi)]) rfl ?_
  refine a_iload_n dX8_within_0 rfl rfl ?_
  refine a_iload_n dX8_within_1 rfl rfl ?_
  refine a_icmp_lt (tgt := 14) dX8_within_2 (by decide) hx hlo (fun c2 => ?_) (fun c2 => ?_)
  · refine a_iconst dX8_within_14 ?_
    exact a_zret rfl (by omega) ⟨by grind, rfl⟩ dX8_within_15
  · refine a_iload_n dX8_within_5 rfl rfl ?_
    refine a_iload_n dX8_within_6 rfl rfl ?_
    refine a_icmp_gt (tgt := 14) dX8_within_7 (by decide) hx hhi (fun c7 => ?_) (fun c7 => ?_)
    · refine a_iconst dX8_within_14 ?_
      exact a_zret rfl (by omega) ⟨by grind, rfl⟩ dX8_within_15
    · refine a_iconst dX8_within_10 ?_
      refine a_goto (tgt := 15) dX8_within_11 (by decide) ?_
      exact a_zret rfl (by omega) ⟨by grind, rfl⟩ dX8_within_15

set_option maxRecDepth 20000 in
theorem c_isMinute (σ : Sto) (x : Int) (hx : inR x) : MetI mX8_isMinute [ai x] σ (if 0 ≤ x ∧ x ≤ 1439 then 1 else 0) σ := by
  refine a_entry (by decide) (Nat.le_of_ble_eq_true rfl) ?_
  refine a_ls (ls' := [(0, ai x)]) rfl ?_
  refine a_iload_n dX8_isMinute_0 rfl rfl ?_
  refine a_iconst dX8_isMinute_1 ?_
  refine a_sipush (x := 1439) dX8_isMinute_2 (by decide) ?_
  refine a_sI (as := [ai x, ai 0, ai 1439]) (rest := []) (c_within σ x 0 1439 hx (inR_of (by omega) (by omega)) (inR_of (by omega) (by omega))) mvX8_within lX8_179 rfl rfl rfl (Nat.le_of_ble_eq_true rfl) (Nat.le_of_ble_eq_true rfl) (Nat.le_of_ble_eq_true rfl) dX8_isMinute_5 ?_
  exact a_zret rfl (by omega) ⟨rfl, rfl⟩ dX8_isMinute_8

set_option maxRecDepth 20000 in
theorem c_orMissing (σ : Sto) (x : Int) (hx : inR x) : MetI mX8_orMissing [ai x] σ (if 1000000 ≤ x then -2 else x) σ := by
  refine a_entry (by decide) (Nat.le_of_ble_eq_true rfl) ?_
  refine a_ls (ls' := [(0, ai x)]) rfl ?_
  refine a_iload_n dX8_orMissing_0 rfl rfl ?_
  refine a_ldc_w (x := 1000000) cX8_286 (by decide) dX8_orMissing_1 ?_
  refine a_icmp_lt (tgt := 12) dX8_orMissing_4 (by decide) hx (inR_of (by omega) (by omega)) (fun c4 => ?_) (fun c4 => ?_)
  · refine a_iload_n dX8_orMissing_12 rfl rfl ?_
    exact a_iret rfl ⟨by grind, rfl⟩ dX8_orMissing_13
  · refine a_bipush (x := (-2)) dX8_orMissing_7 (by decide) ?_
    refine a_goto (tgt := 13) dX8_orMissing_9 (by decide) ?_
    exact a_iret rfl ⟨by grind, rfl⟩ dX8_orMissing_13

set_option maxRecDepth 20000 in
theorem c_isStop (σ ρ : Sto) (N : Nat) (hW : WV ρ) (hC : gR σ 0 12 = some N) (hN : NetR σ N ρ) (x : Int) (hx : inR x) : MetI mX8_isStop [ar 0, ai x] σ (if 0 ≤ x ∧ x < gN ρ 155 0 then 1 else 0) σ := by
  have hNk := hN.k
  have hR := hW.R
  have hS := hW.S
  have hTr := hW.T
  refine a_entry (by decide) (Nat.le_of_ble_eq_true rfl) ?_
  refine a_ls (ls' := [(0, ar 0), (1, ai x)]) rfl ?_
  refine a_iload_n dX8_isStop_0 rfl rfl ?_
  refine a_if_lt (tgt := 19) dX8_isStop_1 (by decide) hx (fun c1 => ?_) (fun c1 => ?_)
  · refine a_iconst dX8_isStop_19 ?_
    exact a_zret rfl (by omega) ⟨by grind, rfl⟩ dX8_isStop_20
  · refine a_iload_n dX8_isStop_4 rfl rfl ?_
    refine a_aload_n dX8_isStop_5 rfl rfl ?_
    refine a_getR (d := N) (J := 12) fX8_65 k0 rfl q0_12 rfl hC dX8_isStop_6 ?_
    refine a_getI (J := 0) fX8_293 (kN hNk) rfl rfl dX8_isStop_9 ?_
    refine a_topI (y := gN ρ 155 0) hN.n0 ?_
    refine a_icmp_ge (tgt := 19) dX8_isStop_12 (by decide) hx (inR_gN _ _ _) (fun c12 => ?_) (fun c12 => ?_)
    · refine a_iconst dX8_isStop_19 ?_
      exact a_zret rfl (by omega) ⟨by grind, rfl⟩ dX8_isStop_20
    · refine a_iconst dX8_isStop_15 ?_
      refine a_goto (tgt := 20) dX8_isStop_16 (by decide) ?_
      exact a_zret rfl (by omega) ⟨by grind, rfl⟩ dX8_isStop_20

set_option maxRecDepth 20000 in
theorem c_isTrip (σ ρ : Sto) (N : Nat) (hW : WV ρ) (hC : gR σ 0 12 = some N) (hN : NetR σ N ρ) (x : Int) (hx : inR x) : MetI mX8_isTrip [ar 0, ai x] σ (if 0 ≤ x ∧ x < gN ρ 155 2 then 1 else 0) σ := by
  have hNk := hN.k
  have hR := hW.R
  have hS := hW.S
  have hTr := hW.T
  refine a_entry (by decide) (Nat.le_of_ble_eq_true rfl) ?_
  refine a_ls (ls' := [(0, ar 0), (1, ai x)]) rfl ?_
  refine a_iload_n dX8_isTrip_0 rfl rfl ?_
  refine a_if_lt (tgt := 19) dX8_isTrip_1 (by decide) hx (fun c1 => ?_) (fun c1 => ?_)
  · refine a_iconst dX8_isTrip_19 ?_
    exact a_zret rfl (by omega) ⟨by grind, rfl⟩ dX8_isTrip_20
  · refine a_iload_n dX8_isTrip_4 rfl rfl ?_
    refine a_aload_n dX8_isTrip_5 rfl rfl ?_
    refine a_getR (d := N) (J := 12) fX8_65 k0 rfl q0_12 rfl hC dX8_isTrip_6 ?_
    refine a_getI (J := 2) fX8_356 (kN hNk) rfl rfl dX8_isTrip_9 ?_
    refine a_topI (y := gN ρ 155 2) hN.n2 ?_
    refine a_icmp_ge (tgt := 19) dX8_isTrip_12 (by decide) hx (inR_gN _ _ _) (fun c12 => ?_) (fun c12 => ?_)
    · refine a_iconst dX8_isTrip_19 ?_
      exact a_zret rfl (by omega) ⟨by grind, rfl⟩ dX8_isTrip_20
    · refine a_iconst dX8_isTrip_15 ?_
      refine a_goto (tgt := 20) dX8_isTrip_16 (by decide) ?_
      exact a_zret rfl (by omega) ⟨by grind, rfl⟩ dX8_isTrip_20

set_option maxRecDepth 20000 in
theorem c_isRide (σ ρ : Sto) (N : Nat) (hW : WV ρ) (hC : gR σ 0 12 = some N) (hN : NetR σ N ρ) (x : Int) (hx : inR x) : MetI mX8_isRide [ar 0, ai x] σ (if 0 ≤ x ∧ x < gN ρ 155 3 then 1 else 0) σ := by
  have hNk := hN.k
  have hR := hW.R
  have hS := hW.S
  have hTr := hW.T
  refine a_entry (by decide) (Nat.le_of_ble_eq_true rfl) ?_
  refine a_ls (ls' := [(0, ar 0), (1, ai x)]) rfl ?_
  refine a_iload_n dX8_isRide_0 rfl rfl ?_
  refine a_if_lt (tgt := 19) dX8_isRide_1 (by decide) hx (fun c1 => ?_) (fun c1 => ?_)
  · refine a_iconst dX8_isRide_19 ?_
    exact a_zret rfl (by omega) ⟨by grind, rfl⟩ dX8_isRide_20
  · refine a_iload_n dX8_isRide_4 rfl rfl ?_
    refine a_aload_n dX8_isRide_5 rfl rfl ?_
    refine a_getR (d := N) (J := 12) fX8_65 k0 rfl q0_12 rfl hC dX8_isRide_6 ?_
    refine a_getI (J := 3) fX8_359 (kN hNk) rfl rfl dX8_isRide_9 ?_
    refine a_topI (y := gN ρ 155 3) hN.n3 ?_
    refine a_icmp_ge (tgt := 19) dX8_isRide_12 (by decide) hx (inR_gN _ _ _) (fun c12 => ?_) (fun c12 => ?_)
    · refine a_iconst dX8_isRide_19 ?_
      exact a_zret rfl (by omega) ⟨by grind, rfl⟩ dX8_isRide_20
    · refine a_iconst dX8_isRide_15 ?_
      refine a_goto (tgt := 20) dX8_isRide_16 (by decide) ?_
      exact a_zret rfl (by omega) ⟨by grind, rfl⟩ dX8_isRide_20

set_option maxRecDepth 20000 in
theorem c_arePair (σ ρ : Sto) (N : Nat) (hW : WV ρ) (hC : gR σ 0 12 = some N) (hN : NetR σ N ρ) (x y : Int) (hx : inR x) (hy : inR y) : MetI mX8_arePair [ar 0, ai x, ai y] σ (if (0 ≤ x ∧ x < gN ρ 155 0) ∧ (0 ≤ y ∧ y < gN ρ 155 0) ∧ x ≠ y then 1 else 0) σ := by
  have hNk := hN.k
  have hR := hW.R
  have hS := hW.S
  have hTr := hW.T
  refine a_entry (by decide) (Nat.le_of_ble_eq_true rfl) ?_
  refine a_ls (ls' := [(0, ar 0), (1, ai x), (2, ai y)]) rfl ?_
  refine a_aload_n dX8_arePair_0 rfl rfl ?_
  refine a_iload_n dX8_arePair_1 rfl rfl ?_
  refine a_cI (c := 0) (as := [ai x]) (rest := []) (c_isStop σ ρ N hW hC hN x hx) mvX8_isStop lX8_161 k0 (by decide) rfl rfl rfl rfl (Nat.le_of_ble_eq_true rfl) (Nat.le_of_ble_eq_true rfl) (Nat.le_of_ble_eq_true rfl) dX8_arePair_2 ?_
  refine a_ifb_eq (tgt := 25) dX8_arePair_5 (by decide) (fun c5 => ?_) (fun c5 => ?_)
  · refine a_iconst dX8_arePair_25 ?_
    exact a_zret rfl (by omega) ⟨by grind, rfl⟩ dX8_arePair_26
  · refine a_aload_n dX8_arePair_8 rfl rfl ?_
    refine a_iload_n dX8_arePair_9 rfl rfl ?_
    refine a_cI (c := 0) (as := [ai y]) (rest := []) (c_isStop σ ρ N hW hC hN y hy) mvX8_isStop lX8_161 k0 (by decide) rfl rfl rfl rfl (Nat.le_of_ble_eq_true rfl) (Nat.le_of_ble_eq_true rfl) (Nat.le_of_ble_eq_true rfl) dX8_arePair_10 ?_
    refine a_ifb_eq (tgt := 25) dX8_arePair_13 (by decide) (fun c13 => ?_) (fun c13 => ?_)
    · refine a_iconst dX8_arePair_25 ?_
      exact a_zret rfl (by omega) ⟨by grind, rfl⟩ dX8_arePair_26
    · refine a_iload_n dX8_arePair_16 rfl rfl ?_
      refine a_iload_n dX8_arePair_17 rfl rfl ?_
      refine a_icmp_eq (tgt := 25) dX8_arePair_18 (by decide) hx hy (fun c18 => ?_) (fun c18 => ?_)
      · refine a_iconst dX8_arePair_25 ?_
        exact a_zret rfl (by omega) ⟨by grind, rfl⟩ dX8_arePair_26
      · refine a_iconst dX8_arePair_21 ?_
        refine a_goto (tgt := 26) dX8_arePair_22 (by decide) ?_
        exact a_zret rfl (by omega) ⟨by grind, rfl⟩ dX8_arePair_26

set_option maxRecDepth 20000 in
theorem c_goesOn (σ ρ : Sto) (N : Nat) (hW : WV ρ) (hN : NetR σ N ρ) (i : Int) (h0 : 0 ≤ i) (h1 : i < gN ρ 155 3) : MetI mX2_goesOn [ar N, ai i] σ (if nxt ρ i then 1 else 0) σ := by
  have hNk := hN.k
  have hR := hW.R
  have hS := hW.S
  have hTr := hW.T
  refine a_entry (by decide) (Nat.le_of_ble_eq_true rfl) ?_
  refine a_ls (ls' := [(0, ar N), (1, ai i)]) rfl ?_
  refine a_iload_n dX2_goesOn_0 rfl rfl ?_
  refine a_iconst dX2_goesOn_1 ?_
  refine a_iadd dX2_goesOn_2 ?_
  refine a_aload_n dX2_goesOn_3 rfl rfl ?_
  refine a_getI (J := 3) fX2_54 (kN hNk) rfl rfl dX2_goesOn_4 ?_
  refine a_topI (y := gN ρ 155 3) hN.n3 ?_
  refine a_icmp_ge (tgt := 31) dX2_goesOn_7 (by decide) (inR_of (by omega) (by omega)) (inR_gN _ _ _) (fun c7 => ?_) (fun c7 => ?_)
  · refine a_iconst dX2_goesOn_31 ?_
    exact a_zret rfl (by omega) ⟨by unfold nxt; grind, rfl⟩ dX2_goesOn_32
  · refine a_aload_n dX2_goesOn_10 rfl rfl ?_
    refine a_getF (d := (N + 6)) fX2_29 (kN hNk) rfl (rN_9 hNk) dX2_goesOn_11 ?_
    refine a_iload_n dX2_goesOn_14 rfl rfl ?_
    refine a_iconst dX2_goesOn_15 ?_
    refine a_iadd dX2_goesOn_16 ?_
    refine a_ild (kN_6 hNk) (nN_6 hNk) (by omega) (by omega) dX2_goesOn_17 ?_
    refine a_topI (y := gN ρ 155 (115 + 5 * (i + 1) + 0)) (hN.r0 (by omega) (by omega)) ?_
    have hb1 := hW.ride (i + 1) (by omega) (by omega)
    refine a_aload_n dX2_goesOn_18 rfl rfl ?_
    refine a_getF (d := (N + 6)) fX2_29 (kN hNk) rfl (rN_9 hNk) dX2_goesOn_19 ?_
    refine a_iload_n dX2_goesOn_22 rfl rfl ?_
    refine a_ild (kN_6 hNk) (nN_6 hNk) (by omega) (by omega) dX2_goesOn_23 ?_
    refine a_topI (y := gN ρ 155 (115 + 5 * i + 0)) (hN.r0 (by omega) (by omega)) ?_
    have hb2 := hW.ride i (by omega) (by omega)
    refine a_icmp_ne (tgt := 31) dX2_goesOn_24 (by decide) (inR_gN _ _ _) (inR_gN _ _ _) (fun c24 => ?_) (fun c24 => ?_)
    · refine a_iconst dX2_goesOn_31 ?_
      exact a_zret rfl (by omega) ⟨by unfold nxt; grind, rfl⟩ dX2_goesOn_32
    · refine a_iconst dX2_goesOn_27 ?_
      refine a_goto (tgt := 32) dX2_goesOn_28 (by decide) ?_
      exact a_zret rfl (by omega) ⟨by unfold nxt; grind, rfl⟩ dX2_goesOn_32

set_option maxRecDepth 20000 in
theorem c_isCancelled (σ ρ : Sto) (N T : Nat) (hW : WV ρ) (hN : NetR σ N ρ) (hT : TmR σ N T ρ) (i : Int) (h0 : 0 ≤ i) (h1 : i < gN ρ 155 3) : MetI mX6_isCancelled [ar T, ai i] σ (if shrL (gL ρ 153 23) i &&& 1 ≠ 0 then 1 else 0) σ := by
  have hNk := hN.k
  have hR := hW.R
  have hS := hW.S
  have hTr := hW.T
  have hTk := hT.k
  refine a_entry (by decide) (Nat.le_of_ble_eq_true rfl) ?_
  refine a_ls (ls' := [(0, ar T), (1, ai i)]) rfl ?_
  refine a_aload_n dX6_isCancelled_0 rfl rfl ?_
  refine a_getL (J := 1) fX6_26 (kT hTk) rfl rfl dX6_isCancelled_1 ?_
  refine a_topL (y := gL ρ 153 23) hT.off ?_
  refine a_iload_n dX6_isCancelled_4 rfl rfl ?_
  refine a_lshr dX6_isCancelled_5 ?_
  refine a_lconst (v := 1) dX6_isCancelled_6 rfl ?_
  refine a_land dX6_isCancelled_7 ?_
  refine a_lconst (v := 0) dX6_isCancelled_8 rfl ?_
  refine a_lcmp_eq (tgt := 17) dX6_isCancelled_9 dX6_isCancelled_10 (by decide) (fun c9 => ?_) (fun c9 => ?_)
  · refine a_iconst dX6_isCancelled_17 ?_
    exact a_zret rfl (by omega) ⟨by grind, rfl⟩ dX6_isCancelled_18
  · refine a_iconst dX6_isCancelled_13 ?_
    refine a_goto (tgt := 18) dX6_isCancelled_14 (by decide) ?_
    exact a_zret rfl (by omega) ⟨by grind, rfl⟩ dX6_isCancelled_18

set_option maxRecDepth 20000 in
theorem c_minutesLate (σ ρ : Sto) (N T : Nat) (hW : WV ρ) (hN : NetR σ N ρ) (hT : TmR σ N T ρ) (i : Int) (h0 : 0 ≤ i) (h1 : i < gN ρ 155 3) : MetI mX6_minutesLate [ar T, ai i] σ (gN ρ 161 i - gN ρ 155 (115 + 5 * i + 3)) σ := by
  have hNk := hN.k
  have hR := hW.R
  have hS := hW.S
  have hTr := hW.T
  have hTk := hT.k
  refine a_entry (by decide) (Nat.le_of_ble_eq_true rfl) ?_
  refine a_ls (ls' := [(0, ar T), (1, ai i)]) rfl ?_
  refine a_aload_n dX6_minutesLate_0 rfl rfl ?_
  refine a_getF (d := (T + 1)) fX6_9 (kT hTk) rfl (rT_3 hTk) dX6_minutesLate_1 ?_
  refine a_iload_n dX6_minutesLate_4 rfl rfl ?_
  refine a_ild (kT_1 hTk) (nT_1 hTk) (by omega) (by omega) dX6_minutesLate_5 ?_
  refine a_topI (y := gN ρ 161 i) (hT.lv (by omega) (by omega)) ?_
  have hb3 := hW.tm i (by omega) (by omega)
  refine a_aload_n dX6_minutesLate_6 rfl rfl ?_
  refine a_getR (d := N) (J := 0) fX6_22 (kT hTk) rfl (rT_0 hTk) rfl hT.net dX6_minutesLate_7 ?_
  refine a_getF (d := (N + 9)) fX6_47 (kN hNk) rfl (rN_12 hNk) dX6_minutesLate_10 ?_
  refine a_iload_n dX6_minutesLate_13 rfl rfl ?_
  refine a_ild (kN_9 hNk) (nN_9 hNk) (by omega) (by omega) dX6_minutesLate_14 ?_
  refine a_topI (y := gN ρ 155 (115 + 5 * i + 3)) (hN.r3 (by omega) (by omega)) ?_
  have hb4 := hW.ride i (by omega) (by omega)
  refine a_isub dX6_minutesLate_15 ?_
  exact a_iret rfl ⟨by grind, rfl⟩ dX6_minutesLate_16

set_option maxRecDepth 20000 in
theorem c_slackOf (σ ρ : Sto) (N T : Nat) (hW : WV ρ) (hN : NetR σ N ρ) (hT : TmR σ N T ρ) (i k : Int) (h0 : 0 ≤ i) (h1 : i < gN ρ 155 3) (h2 : 0 ≤ k) (h3 : k < gN ρ 155 3) : MetI mX6_slackOf [ar T, ai i, ai k] σ (gN ρ 161 k - gN ρ 162 i - btw ρ i k) σ := by
  have hNk := hN.k
  have hR := hW.R
  have hS := hW.S
  have hTr := hW.T
  have hTk := hT.k
  refine a_entry (by decide) (Nat.le_of_ble_eq_true rfl) ?_
  refine a_ls (ls' := [(0, ar T), (1, ai i), (2, ai k)]) rfl ?_
  refine a_aload_n dX6_slackOf_0 rfl rfl ?_
  refine a_getF (d := (T + 1)) fX6_9 (kT hTk) rfl (rT_3 hTk) dX6_slackOf_1 ?_
  refine a_iload_n dX6_slackOf_4 rfl rfl ?_
  refine a_ild (kT_1 hTk) (nT_1 hTk) (by omega) (by omega) dX6_slackOf_5 ?_
  refine a_topI (y := gN ρ 161 k) (hT.lv (by omega) (by omega)) ?_
  have hb5 := hW.tm k (by omega) (by omega)
  refine a_aload_n dX6_slackOf_6 rfl rfl ?_
  refine a_getF (d := (T + 2)) fX6_15 (kT hTk) rfl (rT_4 hTk) dX6_slackOf_7 ?_
  refine a_iload_n dX6_slackOf_10 rfl rfl ?_
  refine a_ild (kT_2 hTk) (nT_2 hTk) (by omega) (by omega) dX6_slackOf_11 ?_
  refine a_topI (y := gN ρ 162 i) (hT.cm (by omega) (by omega)) ?_
  have hb6 := hW.tm i (by omega) (by omega)
  refine a_isub dX6_slackOf_12 ?_
  refine a_aload_n dX6_slackOf_13 rfl rfl ?_
  refine a_getR (d := N) (J := 0) fX6_22 (kT hTk) rfl (rT_0 hTk) rfl hT.net dX6_slackOf_14 ?_
  refine a_getF (d := (N + 4)) fX6_64 (kN hNk) rfl (rN_7 hNk) dX6_slackOf_17 ?_
  refine a_aload_n dX6_slackOf_20 rfl rfl ?_
  refine a_getR (d := N) (J := 0) fX6_22 (kT hTk) rfl (rT_0 hTk) rfl hT.net dX6_slackOf_21 ?_
  refine a_getF (d := (N + 8)) fX6_68 (kN hNk) rfl (rN_11 hNk) dX6_slackOf_24 ?_
  refine a_iload_n dX6_slackOf_27 rfl rfl ?_
  refine a_ild (kN_8 hNk) (nN_8 hNk) (by omega) (by omega) dX6_slackOf_28 ?_
  refine a_topI (y := gN ρ 155 (115 + 5 * i + 2)) (hN.r2 (by omega) (by omega)) ?_
  have hb7 := hW.ride i (by omega) (by omega)
  refine a_ald (d := (N + 21 + (gN ρ 155 (115 + 5 * i + 2)).toNat)) (kN_4 hNk) (nN_4 hNk) (by omega) (by omega) (rowN_t hNk (by omega) (by omega)) dX6_slackOf_29 ?_
  refine a_aload_n dX6_slackOf_30 rfl rfl ?_
  refine a_getR (d := N) (J := 0) fX6_22 (kT hTk) rfl (rT_0 hTk) rfl hT.net dX6_slackOf_31 ?_
  refine a_getF (d := (N + 7)) fX6_71 (kN hNk) rfl (rN_10 hNk) dX6_slackOf_34 ?_
  refine a_iload_n dX6_slackOf_37 rfl rfl ?_
  refine a_ild (kN_7 hNk) (nN_7 hNk) (by omega) (by omega) dX6_slackOf_38 ?_
  refine a_topI (y := gN ρ 155 (115 + 5 * k + 1)) (hN.r1 (by omega) (by omega)) ?_
  have hb8 := hW.ride k (by omega) (by omega)
  refine a_ild (kNt hNk (by omega) (by omega)) (nNt hNk (by omega) (by omega)) (by omega) (by omega) dX6_slackOf_39 ?_
  refine a_topI (y := tfF ρ (gN ρ 155 (115 + 5 * i + 2)) (gN ρ 155 (115 + 5 * k + 1))) (hN.tf (by omega) (by omega) (by omega) (by omega)) ?_
  have hb9 := hW.tf (gN ρ 155 (115 + 5 * i + 2)) (gN ρ 155 (115 + 5 * k + 1)) (by omega) (by omega) (by omega) (by omega)
  refine a_isub dX6_slackOf_40 ?_
  exact a_iret rfl ⟨by rw [btw_tf], rfl⟩ dX6_slackOf_41

