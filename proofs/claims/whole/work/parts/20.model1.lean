set_option maxRecDepth 20000 in
theorem t_thrown (σ : Sto)  : MetI mX9_thrown [ar 153] σ (gN σ 153 0) σ := by
  refine a_entry (by decide) (Nat.le_of_ble_eq_true rfl) ?_
  refine a_aload_n dX9_thrown_0 rfl rfl ?_
  refine a_getI (J := 0) fX9_85 k153 rfl rfl dX9_thrown_1 ?_
  exact a_iret rfl ⟨rfl, rfl⟩ dX9_thrown_4

set_option maxRecDepth 20000 in
theorem t_rides (σ : Sto)  : MetI mX9_rides [ar 153] σ (gN σ 155 3) σ := by
  refine a_entry (by decide) (Nat.le_of_ble_eq_true rfl) ?_
  refine a_aload_n dX9_rides_0 rfl rfl ?_
  refine a_getF (d := 155) fX9_13 k153 rfl r153_3 dX9_rides_1 ?_
  refine a_iconst dX9_rides_4 ?_
  refine a_ild k155 n155 (by omega) (by omega) dX9_rides_5 ?_
  exact a_iret rfl ⟨rfl, rfl⟩ dX9_rides_6

set_option maxRecDepth 20000 in
theorem t_stops (σ : Sto)  : MetI mX9_stops [ar 153] σ (gN σ 155 0) σ := by
  refine a_entry (by decide) (Nat.le_of_ble_eq_true rfl) ?_
  refine a_aload_n dX9_stops_0 rfl rfl ?_
  refine a_getF (d := 155) fX9_13 k153 rfl r153_3 dX9_stops_1 ?_
  refine a_iconst dX9_stops_4 ?_
  refine a_ild k155 n155 (by omega) (by omega) dX9_stops_5 ?_
  exact a_iret rfl ⟨rfl, rfl⟩ dX9_stops_6

set_option maxRecDepth 20000 in
theorem t_told (σ : Sto) (i w : Int) (h0 : 0 ≤ 115 + 5 * i + w) (h1 : 115 + 5 * i + w < 415) : MetI mX9_told [ar 153, ai i, ai w] σ (gN σ 155 (115 + 5 * i + w)) σ := by
  refine a_entry (by decide) (Nat.le_of_ble_eq_true rfl) ?_
  refine a_aload_n dX9_told_0 rfl rfl ?_
  refine a_getF (d := 155) fX9_13 k153 rfl r153_3 dX9_told_1 ?_
  refine a_bipush (x := 115) dX9_told_4 (by decide) ?_
  refine a_iconst dX9_told_6 ?_
  refine a_iload_n dX9_told_7 rfl rfl ?_
  refine a_imul dX9_told_8 ?_
  refine a_iadd dX9_told_9 ?_
  refine a_iload_n dX9_told_10 rfl rfl ?_
  refine a_iadd dX9_told_11 ?_
  refine a_ild k155 n155 (by omega) (by omega) dX9_told_12 ?_
  exact a_iret rfl ⟨rfl, rfl⟩ dX9_told_13

set_option maxRecDepth 20000 in
theorem t_walked (σ : Sto) (a b : Int) (h0 : 0 ≤ 15 + 10 * a + b) (h1 : 15 + 10 * a + b < 415) : MetI mX9_walked [ar 153, ai a, ai b] σ (gN σ 155 (15 + 10 * a + b)) σ := by
  refine a_entry (by decide) (Nat.le_of_ble_eq_true rfl) ?_
  refine a_aload_n dX9_walked_0 rfl rfl ?_
  refine a_getF (d := 155) fX9_13 k153 rfl r153_3 dX9_walked_1 ?_
  refine a_bipush (x := 15) dX9_walked_4 (by decide) ?_
  refine a_bipush (x := 10) dX9_walked_6 (by decide) ?_
  refine a_iload_n dX9_walked_8 rfl rfl ?_
  refine a_imul dX9_walked_9 ?_
  refine a_iadd dX9_walked_10 ?_
  refine a_iload_n dX9_walked_11 rfl rfl ?_
  refine a_iadd dX9_walked_12 ?_
  refine a_ild k155 n155 (by omega) (by omega) dX9_walked_13 ?_
  exact a_iret rfl ⟨rfl, rfl⟩ dX9_walked_14

set_option maxRecDepth 20000 in
theorem t_isStop (σ : Sto) (x : Int) (hx : inR x) : MetI mX9_isStop [ar 153, ai x] σ (if 0 ≤ x ∧ x < gN σ 155 0 then 1 else 0) σ := by
  refine a_entry (by decide) (Nat.le_of_ble_eq_true rfl) ?_
  refine a_iload_n dX9_isStop_0 rfl rfl ?_
  refine a_if_lt (tgt := 16) dX9_isStop_1 (by decide) hx (fun c1 => ?_) (fun c1 => ?_)
  · refine a_iconst dX9_isStop_16 ?_
    exact a_zret rfl (by omega) ⟨by split <;> first | rfl | omega, rfl⟩ dX9_isStop_17
  · refine a_iload_n dX9_isStop_4 rfl rfl ?_
    refine a_aload_n dX9_isStop_5 rfl rfl ?_
    refine a_cI (c := 153) (as := []) (rest := [ai x]) (t_stops σ  ) mvX9_stops lX9_195 k153 (by decide) rfl rfl rfl rfl (Nat.le_of_ble_eq_true rfl) (Nat.le_of_ble_eq_true rfl) (Nat.le_of_ble_eq_true rfl) dX9_isStop_6 ?_
    refine a_icmp_ge (tgt := 16) dX9_isStop_9 (by decide) hx (inR_gN _ _ _) (fun c9 => ?_) (fun c9 => ?_)
    · refine a_iconst dX9_isStop_16 ?_
      exact a_zret rfl (by omega) ⟨by split <;> first | rfl | omega, rfl⟩ dX9_isStop_17
    · refine a_iconst dX9_isStop_12 ?_
      refine a_goto (tgt := 17) dX9_isStop_13 (by decide) ?_
      exact a_zret rfl (by omega) ⟨by split <;> first | rfl | omega, rfl⟩ dX9_isStop_17

set_option maxRecDepth 20000 in
theorem t_isTrip (σ : Sto) (x : Int) (hx : inR x) : MetI mX9_isTrip [ar 153, ai x] σ (if 0 ≤ x ∧ x < gN σ 155 2 then 1 else 0) σ := by
  refine a_entry (by decide) (Nat.le_of_ble_eq_true rfl) ?_
  refine a_iload_n dX9_isTrip_0 rfl rfl ?_
  refine a_if_lt (tgt := 18) dX9_isTrip_1 (by decide) hx (fun c1 => ?_) (fun c1 => ?_)
  · refine a_iconst dX9_isTrip_18 ?_
    exact a_zret rfl (by omega) ⟨by split <;> first | rfl | omega, rfl⟩ dX9_isTrip_19
  · refine a_iload_n dX9_isTrip_4 rfl rfl ?_
    refine a_aload_n dX9_isTrip_5 rfl rfl ?_
    refine a_getF (d := 155) fX9_13 k153 rfl r153_3 dX9_isTrip_6 ?_
    refine a_iconst dX9_isTrip_9 ?_
    refine a_ild k155 n155 (by omega) (by omega) dX9_isTrip_10 ?_
    refine a_icmp_ge (tgt := 18) dX9_isTrip_11 (by decide) hx (inR_gN _ _ _) (fun c11 => ?_) (fun c11 => ?_)
    · refine a_iconst dX9_isTrip_18 ?_
      exact a_zret rfl (by omega) ⟨by split <;> first | rfl | omega, rfl⟩ dX9_isTrip_19
    · refine a_iconst dX9_isTrip_14 ?_
      refine a_goto (tgt := 19) dX9_isTrip_15 (by decide) ?_
      exact a_zret rfl (by omega) ⟨by split <;> first | rfl | omega, rfl⟩ dX9_isTrip_19

set_option maxRecDepth 20000 in
theorem t_isRide (σ : Sto) (x : Int) (hx : inR x) : MetI mX9_isRide [ar 153, ai x] σ (if 0 ≤ x ∧ x < gN σ 155 3 then 1 else 0) σ := by
  refine a_entry (by decide) (Nat.le_of_ble_eq_true rfl) ?_
  refine a_iload_n dX9_isRide_0 rfl rfl ?_
  refine a_if_lt (tgt := 16) dX9_isRide_1 (by decide) hx (fun c1 => ?_) (fun c1 => ?_)
  · refine a_iconst dX9_isRide_16 ?_
    exact a_zret rfl (by omega) ⟨by split <;> first | rfl | omega, rfl⟩ dX9_isRide_17
  · refine a_iload_n dX9_isRide_4 rfl rfl ?_
    refine a_aload_n dX9_isRide_5 rfl rfl ?_
    refine a_cI (c := 153) (as := []) (rest := [ai x]) (t_rides σ  ) mvX9_rides lX9_198 k153 (by decide) rfl rfl rfl rfl (Nat.le_of_ble_eq_true rfl) (Nat.le_of_ble_eq_true rfl) (Nat.le_of_ble_eq_true rfl) dX9_isRide_6 ?_
    refine a_icmp_ge (tgt := 16) dX9_isRide_9 (by decide) hx (inR_gN _ _ _) (fun c9 => ?_) (fun c9 => ?_)
    · refine a_iconst dX9_isRide_16 ?_
      exact a_zret rfl (by omega) ⟨by split <;> first | rfl | omega, rfl⟩ dX9_isRide_17
    · refine a_iconst dX9_isRide_12 ?_
      refine a_goto (tgt := 17) dX9_isRide_13 (by decide) ?_
      exact a_zret rfl (by omega) ⟨by split <;> first | rfl | omega, rfl⟩ dX9_isRide_17

set_option maxRecDepth 20000 in
theorem t_isMinute (σ : Sto) (x : Int) (hx : inR x) : MetI mX9_isMinute [ai x] σ (if 0 ≤ x ∧ x < 1440 then 1 else 0) σ := by
  refine a_entry (by decide) (Nat.le_of_ble_eq_true rfl) ?_
  refine a_iload_n dX9_isMinute_0 rfl rfl ?_
  refine a_if_lt (tgt := 15) dX9_isMinute_1 (by decide) hx (fun c1 => ?_) (fun c1 => ?_)
  · refine a_iconst dX9_isMinute_15 ?_
    exact a_zret rfl (by omega) ⟨by split <;> first | rfl | omega, rfl⟩ dX9_isMinute_16
  · refine a_iload_n dX9_isMinute_4 rfl rfl ?_
    refine a_sipush (x := 1440) dX9_isMinute_5 (by decide) ?_
    refine a_icmp_ge (tgt := 15) dX9_isMinute_8 (by decide) hx (inR_of (by omega) (by omega)) (fun c8 => ?_) (fun c8 => ?_)
    · refine a_iconst dX9_isMinute_15 ?_
      exact a_zret rfl (by omega) ⟨by split <;> first | rfl | omega, rfl⟩ dX9_isMinute_16
    · refine a_iconst dX9_isMinute_11 ?_
      refine a_goto (tgt := 16) dX9_isMinute_12 (by decide) ?_
      exact a_zret rfl (by omega) ⟨by split <;> first | rfl | omega, rfl⟩ dX9_isMinute_16

set_option maxRecDepth 20000 in
theorem t_orNot (σ : Sto) (x : Int) (hx : inR x) : MetI mX9_orNot [ai x] σ (if 1000000 ≤ x then -2 else x) σ := by
  refine a_entry (by decide) (Nat.le_of_ble_eq_true rfl) ?_
  refine a_iload_n dX9_orNot_0 rfl rfl ?_
  refine a_ldc (x := 1000000) cX9_175 (by decide) dX9_orNot_1 ?_
  refine a_icmp_lt (tgt := 11) dX9_orNot_3 (by decide) hx (inR_of (by omega) (by omega)) (fun c3 => ?_) (fun c3 => ?_)
  · refine a_iload_n dX9_orNot_11 rfl rfl ?_
    exact a_iret rfl ⟨by split <;> first | rfl | omega, rfl⟩ dX9_orNot_12
  · refine a_bipush (x := (-2)) dX9_orNot_6 (by decide) ?_
    refine a_goto (tgt := 12) dX9_orNot_8 (by decide) ?_
    exact a_iret rfl ⟨by split <;> first | rfl | omega, rfl⟩ dX9_orNot_12

set_option maxRecDepth 20000 in
theorem t_isSmall (σ : Sto) (x : Int) (hx : inR x) : MetI mX9_isSmall [ai x] σ (if 97 ≤ x ∧ x ≤ 122 then 1 else 0) σ := by
  refine a_entry (by decide) (Nat.le_of_ble_eq_true rfl) ?_
  refine a_iload_n dX9_isSmall_0 rfl rfl ?_
  refine a_bipush (x := 97) dX9_isSmall_1 (by decide) ?_
  refine a_icmp_lt (tgt := 16) dX9_isSmall_3 (by decide) hx (inR_of (by omega) (by omega)) (fun c3 => ?_) (fun c3 => ?_)
  · refine a_iconst dX9_isSmall_16 ?_
    exact a_zret rfl (by omega) ⟨by split <;> first | rfl | omega, rfl⟩ dX9_isSmall_17
  · refine a_iload_n dX9_isSmall_6 rfl rfl ?_
    refine a_bipush (x := 122) dX9_isSmall_7 (by decide) ?_
    refine a_icmp_gt (tgt := 16) dX9_isSmall_9 (by decide) hx (inR_of (by omega) (by omega)) (fun c9 => ?_) (fun c9 => ?_)
    · refine a_iconst dX9_isSmall_16 ?_
      exact a_zret rfl (by omega) ⟨by split <;> first | rfl | omega, rfl⟩ dX9_isSmall_17
    · refine a_iconst dX9_isSmall_12 ?_
      refine a_goto (tgt := 17) dX9_isSmall_13 (by decide) ?_
      exact a_zret rfl (by omega) ⟨by split <;> first | rfl | omega, rfl⟩ dX9_isSmall_17

set_option maxRecDepth 20000 in
theorem t_isDigit (σ : Sto) (x : Int) (hx : inR x) : MetI mX9_isDigit [ai x] σ (if 48 ≤ x ∧ x ≤ 57 then 1 else 0) σ := by
  refine a_entry (by decide) (Nat.le_of_ble_eq_true rfl) ?_
  refine a_iload_n dX9_isDigit_0 rfl rfl ?_
  refine a_bipush (x := 48) dX9_isDigit_1 (by decide) ?_
  refine a_icmp_lt (tgt := 16) dX9_isDigit_3 (by decide) hx (inR_of (by omega) (by omega)) (fun c3 => ?_) (fun c3 => ?_)
  · refine a_iconst dX9_isDigit_16 ?_
    exact a_zret rfl (by omega) ⟨by split <;> first | rfl | omega, rfl⟩ dX9_isDigit_17
  · refine a_iload_n dX9_isDigit_6 rfl rfl ?_
    refine a_bipush (x := 57) dX9_isDigit_7 (by decide) ?_
    refine a_icmp_gt (tgt := 16) dX9_isDigit_9 (by decide) hx (inR_of (by omega) (by omega)) (fun c9 => ?_) (fun c9 => ?_)
    · refine a_iconst dX9_isDigit_16 ?_
      exact a_zret rfl (by omega) ⟨by split <;> first | rfl | omega, rfl⟩ dX9_isDigit_17
    · refine a_iconst dX9_isDigit_12 ?_
      refine a_goto (tgt := 17) dX9_isDigit_13 (by decide) ?_
      exact a_zret rfl (by omega) ⟨by split <;> first | rfl | omega, rfl⟩ dX9_isDigit_17

set_option maxRecDepth 20000 in
theorem t_areTwo (σ : Sto) (x y : Int) (hx : inR x) (hy : inR y) : MetI mX9_areTwo [ar 153, ai x, ai y] σ (if (0 ≤ x ∧ x < gN σ 155 0) ∧ (0 ≤ y ∧ y < gN σ 155 0) ∧ x ≠ y then 1 else 0) σ := by
  refine a_entry (by decide) (Nat.le_of_ble_eq_true rfl) ?_
  refine a_aload_n dX9_areTwo_0 rfl rfl ?_
  refine a_iload_n dX9_areTwo_1 rfl rfl ?_
  refine a_cI (c := 153) (as := [ai x]) (rest := []) (t_isStop σ x hx) mvX9_isStop lX9_213 k153 (by decide) rfl rfl rfl rfl (Nat.le_of_ble_eq_true rfl) (Nat.le_of_ble_eq_true rfl) (Nat.le_of_ble_eq_true rfl) dX9_areTwo_2 ?_
  refine a_ifb_eq (tgt := 25) dX9_areTwo_5 (by decide) (fun c5 => ?_) (fun c5 => ?_)
  · refine a_iconst dX9_areTwo_25 ?_
    exact a_zret rfl (by omega) ⟨by split <;> first | rfl | omega, rfl⟩ dX9_areTwo_26
  · refine a_aload_n dX9_areTwo_8 rfl rfl ?_
    refine a_iload_n dX9_areTwo_9 rfl rfl ?_
    refine a_cI (c := 153) (as := [ai y]) (rest := []) (t_isStop σ y hy) mvX9_isStop lX9_213 k153 (by decide) rfl rfl rfl rfl (Nat.le_of_ble_eq_true rfl) (Nat.le_of_ble_eq_true rfl) (Nat.le_of_ble_eq_true rfl) dX9_areTwo_10 ?_
    refine a_ifb_eq (tgt := 25) dX9_areTwo_13 (by decide) (fun c13 => ?_) (fun c13 => ?_)
    · refine a_iconst dX9_areTwo_25 ?_
      exact a_zret rfl (by omega) ⟨by split <;> first | rfl | omega, rfl⟩ dX9_areTwo_26
    · refine a_iload_n dX9_areTwo_16 rfl rfl ?_
      refine a_iload_n dX9_areTwo_17 rfl rfl ?_
      refine a_icmp_eq (tgt := 25) dX9_areTwo_18 (by decide) hx hy (fun c18 => ?_) (fun c18 => ?_)
      · refine a_iconst dX9_areTwo_25 ?_
        exact a_zret rfl (by omega) ⟨by split <;> first | rfl | omega, rfl⟩ dX9_areTwo_26
      · refine a_iconst dX9_areTwo_21 ?_
        refine a_goto (tgt := 26) dX9_areTwo_22 (by decide) ?_
        exact a_zret rfl (by omega) ⟨by split <;> first | rfl | omega, rfl⟩ dX9_areTwo_26

set_option maxRecDepth 20000 in
theorem t_behind (σ : Sto) (i : Int) (h0 : 0 ≤ i) (h1 : i < 60) (hR : gN σ 155 3 ≤ 60) : MetI mX9_behind [ar 153, ai i] σ (if i + 1 < gN σ 155 3 ∧ gN σ 155 (115 + 5 * (i + 1) + 0) = gN σ 155 (115 + 5 * i + 0) then i + 1 else -1) σ := by
  refine a_entry (by decide) (Nat.le_of_ble_eq_true rfl) ?_
  refine a_iload_n dX9_behind_0 rfl rfl ?_
  refine a_iconst dX9_behind_1 ?_
  refine a_iadd dX9_behind_2 ?_
  refine a_aload_n dX9_behind_3 rfl rfl ?_
  refine a_cI (c := 153) (as := []) (rest := [ai (i + 1)]) (t_rides σ  ) mvX9_rides lX9_198 k153 (by decide) rfl rfl rfl rfl (Nat.le_of_ble_eq_true rfl) (Nat.le_of_ble_eq_true rfl) (Nat.le_of_ble_eq_true rfl) dX9_behind_4 ?_
  refine a_icmp_ge (tgt := 33) dX9_behind_7 (by decide) (inR_of (by omega) (by omega)) (inR_gN _ _ _) (fun c7 => ?_) (fun c7 => ?_)
  · refine a_iconst dX9_behind_33 ?_
    exact a_iret rfl ⟨by split <;> first | rfl | omega, rfl⟩ dX9_behind_34
  · refine a_aload_n dX9_behind_10 rfl rfl ?_
    refine a_iload_n dX9_behind_11 rfl rfl ?_
    refine a_iconst dX9_behind_12 ?_
    refine a_iadd dX9_behind_13 ?_
    refine a_iconst dX9_behind_14 ?_
    refine a_cI (c := 153) (as := [ai (i + 1), ai 0]) (rest := []) (t_told σ (i + 1) 0 (by omega) (by omega)) mvX9_told lX9_201 k153 (by decide) rfl rfl rfl rfl (Nat.le_of_ble_eq_true rfl) (Nat.le_of_ble_eq_true rfl) (Nat.le_of_ble_eq_true rfl) dX9_behind_15 ?_
    refine a_aload_n dX9_behind_18 rfl rfl ?_
    refine a_iload_n dX9_behind_19 rfl rfl ?_
    refine a_iconst dX9_behind_20 ?_
    refine a_cI (c := 153) (as := [ai i, ai 0]) (rest := [ai (gN σ 155 (115 + 5 * (i + 1) + 0))]) (t_told σ i 0 (by omega) (by omega)) mvX9_told lX9_201 k153 (by decide) rfl rfl rfl rfl (Nat.le_of_ble_eq_true rfl) (Nat.le_of_ble_eq_true rfl) (Nat.le_of_ble_eq_true rfl) dX9_behind_21 ?_
    refine a_icmp_ne (tgt := 33) dX9_behind_24 (by decide) (inR_gN _ _ _) (inR_gN _ _ _) (fun c24 => ?_) (fun c24 => ?_)
    · refine a_iconst dX9_behind_33 ?_
      exact a_iret rfl ⟨by split <;> first | rfl | omega, rfl⟩ dX9_behind_34
    · refine a_iload_n dX9_behind_27 rfl rfl ?_
      refine a_iconst dX9_behind_28 ?_
      refine a_iadd dX9_behind_29 ?_
      refine a_goto (tgt := 34) dX9_behind_30 (by decide) ?_
      exact a_iret rfl ⟨by split <;> first | rfl | omega, rfl⟩ dX9_behind_34

set_option maxRecDepth 20000 in
theorem t_between (σ : Sto) (i k : Int) (h0 : 0 ≤ i) (h1 : i < 60) (h2 : 0 ≤ k) (h3 : k < 60) (h4 : 0 ≤ gN σ 155 (115 + 5 * i + 2)) (h5 : gN σ 155 (115 + 5 * i + 2) < 10) (h6 : 0 ≤ gN σ 155 (115 + 5 * k + 1)) (h7 : gN σ 155 (115 + 5 * k + 1) < 10) : MetI mX9_between [ar 153, ai i, ai k] σ (if gN σ 155 (115 + 5 * i + 2) = gN σ 155 (115 + 5 * k + 1) then gN σ 155 (5 + gN σ 155 (115 + 5 * i + 2)) else gN σ 155 (15 + 10 * gN σ 155 (115 + 5 * i + 2) + gN σ 155 (115 + 5 * k + 1))) σ := by
  refine a_entry (by decide) (Nat.le_of_ble_eq_true rfl) ?_
  refine a_aload_n dX9_between_0 rfl rfl ?_
  refine a_iload_n dX9_between_1 rfl rfl ?_
  refine a_iconst dX9_between_2 ?_
  refine a_cI (c := 153) (as := [ai i, ai 2]) (rest := []) (t_told σ i 2 (by omega) (by omega)) mvX9_told lX9_201 k153 (by decide) rfl rfl rfl rfl (Nat.le_of_ble_eq_true rfl) (Nat.le_of_ble_eq_true rfl) (Nat.le_of_ble_eq_true rfl) dX9_between_3 ?_
  refine a_istore_n (ls' := [(3, ai (gN σ 155 (115 + 5 * i + 2))), (0, ar 153), (1, ai i), (2, ai k)]) dX9_between_6 rfl (Nat.le_of_ble_eq_true rfl) rfl ?_
  refine a_aload_n dX9_between_7 rfl rfl ?_
  refine a_iload_n dX9_between_8 rfl rfl ?_
  refine a_iconst dX9_between_9 ?_
  refine a_cI (c := 153) (as := [ai k, ai 1]) (rest := []) (t_told σ k 1 (by omega) (by omega)) mvX9_told lX9_201 k153 (by decide) rfl rfl rfl rfl (Nat.le_of_ble_eq_true rfl) (Nat.le_of_ble_eq_true rfl) (Nat.le_of_ble_eq_true rfl) dX9_between_10 ?_
  refine a_istore (ls' := [(4, ai (gN σ 155 (115 + 5 * k + 1))), (3, ai (gN σ 155 (115 + 5 * i + 2))), (0, ar 153), (1, ai i), (2, ai k)]) dX9_between_13 (Nat.le_of_ble_eq_true rfl) rfl ?_
  refine a_iload_n dX9_between_15 rfl rfl ?_
  refine a_iload dX9_between_16 rfl ?_
  refine a_icmp_ne (tgt := 32) dX9_between_18 (by decide) (inR_gN _ _ _) (inR_gN _ _ _) (fun c18 => ?_) (fun c18 => ?_)
  · refine a_aload_n dX9_between_32 rfl rfl ?_
    refine a_iload_n dX9_between_33 rfl rfl ?_
    refine a_iload dX9_between_34 rfl ?_
    refine a_cI (c := 153) (as := [ai (gN σ 155 (115 + 5 * i + 2)), ai (gN σ 155 (115 + 5 * k + 1))]) (rest := []) (t_walked σ (gN σ 155 (115 + 5 * i + 2)) (gN σ 155 (115 + 5 * k + 1)) (by omega) (by omega)) mvX9_walked lX9_216 k153 (by decide) rfl rfl rfl rfl (Nat.le_of_ble_eq_true rfl) (Nat.le_of_ble_eq_true rfl) (Nat.le_of_ble_eq_true rfl) dX9_between_36 ?_
    exact a_iret rfl ⟨by split <;> first | rfl | omega, rfl⟩ dX9_between_39
  · refine a_aload_n dX9_between_21 rfl rfl ?_
    refine a_getF (d := 155) fX9_13 k153 rfl r153_3 dX9_between_22 ?_
    refine a_iconst dX9_between_25 ?_
    refine a_iload_n dX9_between_26 rfl rfl ?_
    refine a_iadd dX9_between_27 ?_
    refine a_ild k155 n155 (by omega) (by omega) dX9_between_28 ?_
    refine a_goto (tgt := 39) dX9_between_29 (by decide) ?_
    exact a_iret rfl ⟨by split <;> first | rfl | omega, rfl⟩ dX9_between_39

set_option maxRecDepth 20000 in
theorem t_here (σ : Sto) (h0 : 0 ≤ gN σ 153 7) (h1 : gN σ 153 6 ≤ 900) : MetI mX9_here [ar 153] σ (if gN σ 153 7 < gN σ 153 6 then gN σ 154 (gN σ 153 7) else -1) σ := by
  refine a_entry (by decide) (Nat.le_of_ble_eq_true rfl) ?_
  refine a_aload_n dX9_here_0 rfl rfl ?_
  refine a_getI (J := 7) fX9_91 k153 rfl rfl dX9_here_1 ?_
  refine a_aload_n dX9_here_4 rfl rfl ?_
  refine a_getI (J := 6) fX9_94 k153 rfl rfl dX9_here_5 ?_
  refine a_icmp_ge (tgt := 23) dX9_here_8 (by decide) (inR_gN _ _ _) (inR_gN _ _ _) (fun c8 => ?_) (fun c8 => ?_)
  · refine a_iconst dX9_here_23 ?_
    exact a_iret rfl ⟨by split <;> first | rfl | omega, rfl⟩ dX9_here_24
  · refine a_aload_n dX9_here_11 rfl rfl ?_
    refine a_getF (d := 154) fX9_7 k153 rfl r153_1 dX9_here_12 ?_
    refine a_aload_n dX9_here_15 rfl rfl ?_
    refine a_getI (J := 7) fX9_91 k153 rfl rfl dX9_here_16 ?_
    refine a_ild k154 n154 (by omega) (by omega) dX9_here_19 ?_
    refine a_goto (tgt := 24) dX9_here_20 (by decide) ?_
    exact a_iret rfl ⟨by split <;> first | rfl | omega, rfl⟩ dX9_here_24

