set_option maxRecDepth 20000 in
theorem t_stays_l (σ : Sto) (hW : WOK σ) (set : Int64) : ∀ (n : Nat) (i : Int) (all : Int64), 0 ≤ i → i ≤ 60 → n = (gN σ 155 3 - 1 - i).toNat → RunA mX9_stays (qL (itr (stF σ) n i all) σ) 5 [(5, ai i), (3, al all), (0, ar 153), (1, al set)] [] σ := by
  have hR := hW.1
  intro n
  induction n with
  | zero =>
    intro i all h0 h60 hn
    refine a_iload dX9_stays_5 rfl ?_
    refine a_iconst dX9_stays_7 ?_
    refine a_iadd dX9_stays_8 ?_
    refine a_aload_n dX9_stays_9 rfl rfl ?_
    refine a_cI (c := 153) (as := []) (rest := [ai (i + 1)]) (t_rides σ  ) mvX9_rides lX9_198 k153 (by decide) rfl rfl rfl rfl (Nat.le_of_ble_eq_true rfl) (Nat.le_of_ble_eq_true rfl) (Nat.le_of_ble_eq_true rfl) dX9_stays_10 ?_
    refine a_icmp_ge (tgt := 84) dX9_stays_13 (by decide) (inR_of (by omega) (by omega)) (inR_gN _ _ _) (fun c13 => ?_) (fun c13 => ?_)
    · refine a_lload_n dX9_stays_84 rfl rfl ?_
      exact a_lret rfl ⟨rfl, rfl⟩ dX9_stays_85
    · exfalso; omega
  | succ n ih =>
    intro i all h0 h60 hn
    refine a_iload dX9_stays_5 rfl ?_
    refine a_iconst dX9_stays_7 ?_
    refine a_iadd dX9_stays_8 ?_
    refine a_aload_n dX9_stays_9 rfl rfl ?_
    refine a_cI (c := 153) (as := []) (rest := [ai (i + 1)]) (t_rides σ  ) mvX9_rides lX9_198 k153 (by decide) rfl rfl rfl rfl (Nat.le_of_ble_eq_true rfl) (Nat.le_of_ble_eq_true rfl) (Nat.le_of_ble_eq_true rfl) dX9_stays_10 ?_
    refine a_icmp_ge (tgt := 84) dX9_stays_13 (by decide) (inR_of (by omega) (by omega)) (inR_gN _ _ _) (fun c13 => ?_) (fun c13 => ?_)
    · exfalso; omega
    · refine a_lload_n dX9_stays_16 rfl rfl ?_
      refine a_iload dX9_stays_17 rfl ?_
      refine a_lshr dX9_stays_19 ?_
      refine a_lconst (v := 1) dX9_stays_20 rfl ?_
      refine a_land dX9_stays_21 ?_
      refine a_lconst (v := 1) dX9_stays_22 rfl ?_
      refine a_lcmp_ne (tgt := 57) dX9_stays_23 dX9_stays_24 (by decide) (fun c23 => ?_) (fun c23 => ?_)
      · refine a_iconst dX9_stays_57 ?_
        refine a_istore (ls' := [(6, ai 0), (5, ai i), (3, al all), (0, ar 153), (1, al set)]) dX9_stays_58 (Nat.le_of_ble_eq_true rfl) rfl ?_
        refine a_lload_n dX9_stays_60 rfl rfl ?_
        refine a_iload dX9_stays_61 rfl ?_
        refine a_if_eq (tgt := 75) dX9_stays_63 (by decide) (inR_of (by omega) (by omega)) (fun c63 => ?_) (fun c63 => ?_)
        · refine a_lconst (v := 0) dX9_stays_75 rfl ?_
          refine a_lor dX9_stays_76 ?_
          refine a_lstore_n (ls' := [(3, al (all ||| 0)), (6, ai 0), (5, ai i), (0, ar 153), (1, al set)]) dX9_stays_77 rfl (Nat.le_of_ble_eq_true rfl) rfl ?_
          refine a_iinc (y := i + 1) (ls' := [(5, ai (i + 1)), (3, al (all ||| 0)), (6, ai 0), (0, ar 153), (1, al set)]) dX9_stays_78 rfl rfl (Nat.le_of_ble_eq_true rfl) rfl ?_
          refine a_goto (tgt := 5) dX9_stays_81 (by decide) ?_
          have e : stF σ i all = all ||| 0 := by unfold stF; grind
          rw [show itr (stF σ) (n + 1) i all = itr (stF σ) n (i + 1) (stF σ i all) from rfl, e]
          exact a_keep (by simp) (ih (i + 1) (all ||| 0) (by omega) (by omega) (by omega))
        · exact absurd c63 (by decide)
      · refine a_aload_n dX9_stays_27 rfl rfl ?_
        refine a_iload dX9_stays_28 rfl ?_
        refine a_cI (c := 153) (as := [ai i]) (rest := []) (t_behind σ i (by omega) (by omega) (by omega)) mvX9_behind lX9_210 k153 (by decide) rfl rfl rfl rfl (Nat.le_of_ble_eq_true rfl) (Nat.le_of_ble_eq_true rfl) (Nat.le_of_ble_eq_true rfl) dX9_stays_30 ?_
        refine a_iconst dX9_stays_33 ?_
        refine a_ifn_eq (tgt := 57) dX9_stays_34 (by decide) (fun _ => by omega) (fun c34 => ?_) (fun c34 => ?_)
        · refine a_iconst dX9_stays_57 ?_
          refine a_istore (ls' := [(6, ai 0), (5, ai i), (3, al all), (0, ar 153), (1, al set)]) dX9_stays_58 (Nat.le_of_ble_eq_true rfl) rfl ?_
          refine a_lload_n dX9_stays_60 rfl rfl ?_
          refine a_iload dX9_stays_61 rfl ?_
          refine a_if_eq (tgt := 75) dX9_stays_63 (by decide) (inR_of (by omega) (by omega)) (fun c63 => ?_) (fun c63 => ?_)
          · refine a_lconst (v := 0) dX9_stays_75 rfl ?_
            refine a_lor dX9_stays_76 ?_
            refine a_lstore_n (ls' := [(3, al (all ||| 0)), (6, ai 0), (5, ai i), (0, ar 153), (1, al set)]) dX9_stays_77 rfl (Nat.le_of_ble_eq_true rfl) rfl ?_
            refine a_iinc (y := i + 1) (ls' := [(5, ai (i + 1)), (3, al (all ||| 0)), (6, ai 0), (0, ar 153), (1, al set)]) dX9_stays_78 rfl rfl (Nat.le_of_ble_eq_true rfl) rfl ?_
            refine a_goto (tgt := 5) dX9_stays_81 (by decide) ?_
            have e : stF σ i all = all ||| 0 := by unfold stF; grind
            rw [show itr (stF σ) (n + 1) i all = itr (stF σ) n (i + 1) (stF σ i all) from rfl, e]
            exact a_keep (by simp) (ih (i + 1) (all ||| 0) (by omega) (by omega) (by omega))
          · exact absurd c63 (by decide)
        · refine a_aload_n dX9_stays_37 rfl rfl ?_
          refine a_getL (J := 23) fX9_243 k153 rfl rfl dX9_stays_38 ?_
          refine a_iload dX9_stays_41 rfl ?_
          refine a_iconst dX9_stays_43 ?_
          refine a_iadd dX9_stays_44 ?_
          refine a_lshr dX9_stays_45 ?_
          refine a_lconst (v := 1) dX9_stays_46 rfl ?_
          refine a_land dX9_stays_47 ?_
          refine a_lconst (v := 0) dX9_stays_48 rfl ?_
          refine a_lcmp_ne (tgt := 57) dX9_stays_49 dX9_stays_50 (by decide) (fun c49 => ?_) (fun c49 => ?_)
          · refine a_iconst dX9_stays_57 ?_
            refine a_istore (ls' := [(6, ai 0), (5, ai i), (3, al all), (0, ar 153), (1, al set)]) dX9_stays_58 (Nat.le_of_ble_eq_true rfl) rfl ?_
            refine a_lload_n dX9_stays_60 rfl rfl ?_
            refine a_iload dX9_stays_61 rfl ?_
            refine a_if_eq (tgt := 75) dX9_stays_63 (by decide) (inR_of (by omega) (by omega)) (fun c63 => ?_) (fun c63 => ?_)
            · refine a_lconst (v := 0) dX9_stays_75 rfl ?_
              refine a_lor dX9_stays_76 ?_
              refine a_lstore_n (ls' := [(3, al (all ||| 0)), (6, ai 0), (5, ai i), (0, ar 153), (1, al set)]) dX9_stays_77 rfl (Nat.le_of_ble_eq_true rfl) rfl ?_
              refine a_iinc (y := i + 1) (ls' := [(5, ai (i + 1)), (3, al (all ||| 0)), (6, ai 0), (0, ar 153), (1, al set)]) dX9_stays_78 rfl rfl (Nat.le_of_ble_eq_true rfl) rfl ?_
              refine a_goto (tgt := 5) dX9_stays_81 (by decide) ?_
              have e : stF σ i all = all ||| 0 := by unfold stF; grind
              rw [show itr (stF σ) (n + 1) i all = itr (stF σ) n (i + 1) (stF σ i all) from rfl, e]
              exact a_keep (by simp) (ih (i + 1) (all ||| 0) (by omega) (by omega) (by omega))
            · exact absurd c63 (by decide)
          · refine a_iconst dX9_stays_53 ?_
            refine a_goto (tgt := 58) dX9_stays_54 (by decide) ?_
            refine a_istore (ls' := [(6, ai 1), (5, ai i), (3, al all), (0, ar 153), (1, al set)]) dX9_stays_58 (Nat.le_of_ble_eq_true rfl) rfl ?_
            refine a_lload_n dX9_stays_60 rfl rfl ?_
            refine a_iload dX9_stays_61 rfl ?_
            refine a_if_eq (tgt := 75) dX9_stays_63 (by decide) (inR_of (by omega) (by omega)) (fun c63 => ?_) (fun c63 => ?_)
            · exact absurd c63 (by decide)
            · refine a_lconst (v := 1) dX9_stays_66 rfl ?_
              refine a_iload dX9_stays_67 rfl ?_
              refine a_iconst dX9_stays_69 ?_
              refine a_iadd dX9_stays_70 ?_
              refine a_lshl dX9_stays_71 ?_
              refine a_goto (tgt := 76) dX9_stays_72 (by decide) ?_
              refine a_lor dX9_stays_76 ?_
              refine a_lstore_n (ls' := [(3, al (all ||| (shlL 1 (i + 1)))), (6, ai 1), (5, ai i), (0, ar 153), (1, al set)]) dX9_stays_77 rfl (Nat.le_of_ble_eq_true rfl) rfl ?_
              refine a_iinc (y := i + 1) (ls' := [(5, ai (i + 1)), (3, al (all ||| (shlL 1 (i + 1)))), (6, ai 1), (0, ar 153), (1, al set)]) dX9_stays_78 rfl rfl (Nat.le_of_ble_eq_true rfl) rfl ?_
              refine a_goto (tgt := 5) dX9_stays_81 (by decide) ?_
              have e : stF σ i all = all ||| (shlL 1 (i + 1)) := by unfold stF; grind
              rw [show itr (stF σ) (n + 1) i all = itr (stF σ) n (i + 1) (stF σ i all) from rfl, e]
              exact a_keep (by simp) (ih (i + 1) (all ||| (shlL 1 (i + 1))) (by omega) (by omega) (by omega))

set_option maxRecDepth 20000 in
theorem t_stays (σ : Sto) (set : Int64) (hW : WOK σ) : MetL mX9_stays [ar 153, al set] σ (staysF σ set) σ := by
  refine a_entry (by decide) (Nat.le_of_ble_eq_true rfl) ?_
  refine a_lload_n dX9_stays_0 rfl rfl ?_
  refine a_lstore_n (ls' := [(3, al set), (0, ar 153), (1, al set)]) dX9_stays_1 rfl (Nat.le_of_ble_eq_true rfl) rfl ?_
  refine a_iconst dX9_stays_2 ?_
  refine a_istore (ls' := [(5, ai 0), (3, al set), (0, ar 153), (1, al set)]) dX9_stays_3 (Nat.le_of_ble_eq_true rfl) rfl ?_
  exact a_keep (by simp) (t_stays_l σ hW set _ 0 set (by omega) (by omega) (by omega))

set_option maxRecDepth 20000 in
theorem t_changed_l (σ : Sto) (hW : WOK σ) (set : Int64) : ∀ (n : Nat) (i : Int) (all : Int64), 0 ≤ i → i ≤ 60 → n = (gN σ 155 3 - i).toNat → RunA mX9_changed (qL (staysF σ (itr (chF σ set) n i all)) σ) 5 [(5, ai i), (3, al all), (0, ar 153), (1, al set)] [] σ := by
  have hR := hW.1
  intro n
  induction n with
  | zero =>
    intro i all h0 h60 hn
    refine a_iload dX9_changed_5 rfl ?_
    refine a_aload_n dX9_changed_7 rfl rfl ?_
    refine a_cI (c := 153) (as := []) (rest := [ai i]) (t_rides σ  ) mvX9_rides lX9_198 k153 (by decide) rfl rfl rfl rfl (Nat.le_of_ble_eq_true rfl) (Nat.le_of_ble_eq_true rfl) (Nat.le_of_ble_eq_true rfl) dX9_changed_8 ?_
    refine a_icmp_ge (tgt := 45) dX9_changed_11 (by decide) (inR_of (by omega) (by omega)) (inR_gN _ _ _) (fun c11 => ?_) (fun c11 => ?_)
    · refine a_aload_n dX9_changed_45 rfl rfl ?_
      refine a_lload_n dX9_changed_46 rfl rfl ?_
      refine a_cL (c := 153) (as := [al all]) (rest := []) (t_stays σ all hW) mvX9_stays lX9_253 k153 (by decide) rfl rfl rfl rfl (Nat.le_of_ble_eq_true rfl) (Nat.le_of_ble_eq_true rfl) (Nat.le_of_ble_eq_true rfl) dX9_changed_47 ?_
      exact a_lret rfl ⟨rfl, rfl⟩ dX9_changed_50
    · exfalso; omega
  | succ n ih =>
    intro i all h0 h60 hn
    refine a_iload dX9_changed_5 rfl ?_
    refine a_aload_n dX9_changed_7 rfl rfl ?_
    refine a_cI (c := 153) (as := []) (rest := [ai i]) (t_rides σ  ) mvX9_rides lX9_198 k153 (by decide) rfl rfl rfl rfl (Nat.le_of_ble_eq_true rfl) (Nat.le_of_ble_eq_true rfl) (Nat.le_of_ble_eq_true rfl) dX9_changed_8 ?_
    refine a_icmp_ge (tgt := 45) dX9_changed_11 (by decide) (inR_of (by omega) (by omega)) (inR_gN _ _ _) (fun c11 => ?_) (fun c11 => ?_)
    · exfalso; omega
    · refine a_lload_n dX9_changed_14 rfl rfl ?_
      refine a_lload_n dX9_changed_15 rfl rfl ?_
      refine a_iload dX9_changed_16 rfl ?_
      refine a_lshr dX9_changed_18 ?_
      refine a_lconst (v := 1) dX9_changed_19 rfl ?_
      refine a_land dX9_changed_20 ?_
      refine a_lconst (v := 1) dX9_changed_21 rfl ?_
      refine a_lcmp_ne (tgt := 36) dX9_changed_22 dX9_changed_23 (by decide) (fun c22 => ?_) (fun c22 => ?_)
      · refine a_lconst (v := 0) dX9_changed_36 rfl ?_
        refine a_lor dX9_changed_37 ?_
        refine a_lstore_n (ls' := [(3, al (all ||| 0)), (5, ai i), (0, ar 153), (1, al set)]) dX9_changed_38 rfl (Nat.le_of_ble_eq_true rfl) rfl ?_
        refine a_iinc (y := i + 1) (ls' := [(5, ai (i + 1)), (3, al (all ||| 0)), (0, ar 153), (1, al set)]) dX9_changed_39 rfl rfl (Nat.le_of_ble_eq_true rfl) rfl ?_
        refine a_goto (tgt := 5) dX9_changed_42 (by decide) ?_
        have e : chF σ set i all = all ||| 0 := by unfold chF; grind
        rw [show itr (chF σ set) (n + 1) i all = itr (chF σ set) n (i + 1) (chF σ set i all) from rfl, e]
        exact a_keep (by simp) (ih (i + 1) (all ||| 0) (by omega) (by omega) (by omega))
      · refine a_aload_n dX9_changed_26 rfl rfl ?_
        refine a_getF (d := 163) fX9_42 k153 rfl r153_24 dX9_changed_27 ?_
        refine a_iload dX9_changed_30 rfl ?_
        refine a_lld k163 n163 (by omega) (by omega) dX9_changed_32 ?_
        refine a_goto (tgt := 37) dX9_changed_33 (by decide) ?_
        refine a_lor dX9_changed_37 ?_
        refine a_lstore_n (ls' := [(3, al (all ||| (gL σ 163 i))), (5, ai i), (0, ar 153), (1, al set)]) dX9_changed_38 rfl (Nat.le_of_ble_eq_true rfl) rfl ?_
        refine a_iinc (y := i + 1) (ls' := [(5, ai (i + 1)), (3, al (all ||| (gL σ 163 i))), (0, ar 153), (1, al set)]) dX9_changed_39 rfl rfl (Nat.le_of_ble_eq_true rfl) rfl ?_
        refine a_goto (tgt := 5) dX9_changed_42 (by decide) ?_
        have e : chF σ set i all = all ||| (gL σ 163 i) := by unfold chF; grind
        rw [show itr (chF σ set) (n + 1) i all = itr (chF σ set) n (i + 1) (chF σ set i all) from rfl, e]
        exact a_keep (by simp) (ih (i + 1) (all ||| (gL σ 163 i)) (by omega) (by omega) (by omega))

set_option maxRecDepth 20000 in
theorem t_changed (σ : Sto) (set : Int64) (hW : WOK σ) : MetL mX9_changed [ar 153, al set] σ (changedF σ set) σ := by
  refine a_entry (by decide) (Nat.le_of_ble_eq_true rfl) ?_
  refine a_lconst (v := 0) dX9_changed_0 rfl ?_
  refine a_lstore_n (ls' := [(3, al 0), (0, ar 153), (1, al set)]) dX9_changed_1 rfl (Nat.le_of_ble_eq_true rfl) rfl ?_
  refine a_iconst dX9_changed_2 ?_
  refine a_istore (ls' := [(5, ai 0), (3, al 0), (0, ar 153), (1, al set)]) dX9_changed_3 (Nat.le_of_ble_eq_true rfl) rfl ?_
  exact a_keep (by simp) (t_changed_l σ hW set _ 0 0 (by omega) (by omega) (by omega))

set_option maxRecDepth 20000 in
theorem t_leavesFrom (σ : Sto) (s i : Int) (hW : WOK σ) (h0 : 0 ≤ s) (h1 : s < 10) (h2 : 0 ≤ i) (h3 : i < 60) : MetI mX9_leavesFrom [ar 153, ai s, ai i] σ (lfF σ s i) σ := by
  have b := hW.2.2.2.1 i h2 h3
  have b2 := hW.2.2.2.2.1 s _ h0 h1 b.2.1.1 b.2.1.2
  refine a_entry (by decide) (Nat.le_of_ble_eq_true rfl) ?_
  refine a_aload_n dX9_leavesFrom_0 rfl rfl ?_
  refine a_iload_n dX9_leavesFrom_1 rfl rfl ?_
  refine a_aload_n dX9_leavesFrom_2 rfl rfl ?_
  refine a_iload_n dX9_leavesFrom_3 rfl rfl ?_
  refine a_iconst dX9_leavesFrom_4 ?_
  refine a_cI (c := 153) (as := [ai i, ai 1]) (rest := [ai s, ar 153]) (t_told σ i 1 (by omega) (by omega)) mvX9_told lX9_201 k153 (by decide) rfl rfl rfl rfl (Nat.le_of_ble_eq_true rfl) (Nat.le_of_ble_eq_true rfl) (Nat.le_of_ble_eq_true rfl) dX9_leavesFrom_5 ?_
  refine a_cI (c := 153) (as := [ai s, ai (gN σ 155 (115 + 5 * i + 1))]) (rest := []) (t_walked σ s (gN σ 155 (115 + 5 * i + 1)) (by omega) (by omega)) mvX9_walked lX9_216 k153 (by decide) rfl rfl rfl rfl (Nat.le_of_ble_eq_true rfl) (Nat.le_of_ble_eq_true rfl) (Nat.le_of_ble_eq_true rfl) dX9_leavesFrom_8 ?_
  refine a_istore_n (ls' := [(3, ai (gN σ 155 (15 + 10 * s + (gN σ 155 (115 + 5 * i + 1))))), (0, ar 153), (1, ai s), (2, ai i)]) dX9_leavesFrom_11 rfl (Nat.le_of_ble_eq_true rfl) rfl ?_
  refine a_iload_n dX9_leavesFrom_12 rfl rfl ?_
  refine a_ldc (x := 1000000) cX9_175 (by decide) dX9_leavesFrom_13 ?_
  refine a_icmp_ge (tgt := 31) dX9_leavesFrom_15 (by decide) (inR_gN _ _ _) (inR_of (by omega) (by omega)) (fun c15 => ?_) (fun c15 => ?_)
  · refine a_iconst dX9_leavesFrom_31 ?_
    refine a_goto (tgt := 43) dX9_leavesFrom_32 (by decide) ?_
    exact a_iret rfl ⟨by unfold lfF; grind, rfl⟩ dX9_leavesFrom_43
  · refine a_aload_n dX9_leavesFrom_18 rfl rfl ?_
    refine a_getL (J := 23) fX9_243 k153 rfl rfl dX9_leavesFrom_19 ?_
    refine a_iload_n dX9_leavesFrom_22 rfl rfl ?_
    refine a_lshr dX9_leavesFrom_23 ?_
    refine a_lconst (v := 1) dX9_leavesFrom_24 rfl ?_
    refine a_land dX9_leavesFrom_25 ?_
    refine a_lconst (v := 1) dX9_leavesFrom_26 rfl ?_
    refine a_lcmp_ne (tgt := 35) dX9_leavesFrom_27 dX9_leavesFrom_28 (by decide) (fun c27 => ?_) (fun c27 => ?_)
    · refine a_aload_n dX9_leavesFrom_35 rfl rfl ?_
      refine a_getF (d := 161) fX9_36 k153 rfl r153_21 dX9_leavesFrom_36 ?_
      refine a_iload_n dX9_leavesFrom_39 rfl rfl ?_
      refine a_ild k161 n161 (by omega) (by omega) dX9_leavesFrom_40 ?_
      refine a_iload_n dX9_leavesFrom_41 rfl rfl ?_
      refine a_isub dX9_leavesFrom_42 ?_
      exact a_iret rfl ⟨by unfold lfF; grind, rfl⟩ dX9_leavesFrom_43
    · refine a_iconst dX9_leavesFrom_31 ?_
      refine a_goto (tgt := 43) dX9_leavesFrom_32 (by decide) ?_
      exact a_iret rfl ⟨by unfold lfF; grind, rfl⟩ dX9_leavesFrom_43

set_option maxRecDepth 20000 in
theorem t_arrives_l (σ : Sto) (hW : WOK σ) (hT : TOK σ) (set : Int64) (t : Int) (ht0 : 0 ≤ t) (ht1 : t < 10) : ∀ (n : Nat) (i least : Int), 0 ≤ i → i ≤ 60 → n = (gN σ 155 3 - i).toNat → -1000 ≤ least → least ≤ 1000000 → RunA mX9_arrives (qI (itr (arF σ set t) n i least) σ) 7 [(5, ai i), (4, ai least), (0, ar 153), (1, al set), (3, ai t)] [] σ := by
  have hR := hW.1
  intro n
  induction n with
  | zero =>
    intro i least h0 h60 hn hl0 hl1
    refine a_iload dX9_arrives_7 rfl ?_
    refine a_aload_n dX9_arrives_9 rfl rfl ?_
    refine a_cI (c := 153) (as := []) (rest := [ai i]) (t_rides σ  ) mvX9_rides lX9_198 k153 (by decide) rfl rfl rfl rfl (Nat.le_of_ble_eq_true rfl) (Nat.le_of_ble_eq_true rfl) (Nat.le_of_ble_eq_true rfl) dX9_arrives_10 ?_
    refine a_icmp_ge (tgt := 81) dX9_arrives_13 (by decide) (inR_of (by omega) (by omega)) (inR_gN _ _ _) (fun c13 => ?_) (fun c13 => ?_)
    · refine a_iload dX9_arrives_81 rfl ?_
      exact a_iret rfl ⟨rfl, rfl⟩ dX9_arrives_83
    · exfalso; omega
  | succ n ih =>
    intro i least h0 h60 hn hl0 hl1
    refine a_iload dX9_arrives_7 rfl ?_
    refine a_aload_n dX9_arrives_9 rfl rfl ?_
    refine a_cI (c := 153) (as := []) (rest := [ai i]) (t_rides σ  ) mvX9_rides lX9_198 k153 (by decide) rfl rfl rfl rfl (Nat.le_of_ble_eq_true rfl) (Nat.le_of_ble_eq_true rfl) (Nat.le_of_ble_eq_true rfl) dX9_arrives_10 ?_
    refine a_icmp_ge (tgt := 81) dX9_arrives_13 (by decide) (inR_of (by omega) (by omega)) (inR_gN _ _ _) (fun c13 => ?_) (fun c13 => ?_)
    · exfalso; omega
    · have b := hW.2.2.2.1 i (by omega) (by omega)
      have b2 := hW.2.2.2.2.1 _ t b.2.2.1.1 b.2.2.1.2 ht0 ht1
      have b3 := hT i (by omega) (by omega)
      refine a_aload_n dX9_arrives_16 rfl rfl ?_
      refine a_aload_n dX9_arrives_17 rfl rfl ?_
      refine a_iload dX9_arrives_18 rfl ?_
      refine a_iconst dX9_arrives_20 ?_
      refine a_cI (c := 153) (as := [ai i, ai 2]) (rest := [ar 153]) (t_told σ i 2 (by omega) (by omega)) mvX9_told lX9_201 k153 (by decide) rfl rfl rfl rfl (Nat.le_of_ble_eq_true rfl) (Nat.le_of_ble_eq_true rfl) (Nat.le_of_ble_eq_true rfl) dX9_arrives_21 ?_
      refine a_iload_n dX9_arrives_24 rfl rfl ?_
      refine a_cI (c := 153) (as := [ai (gN σ 155 (115 + 5 * i + 2)), ai t]) (rest := []) (t_walked σ (gN σ 155 (115 + 5 * i + 2)) t (by omega) (by omega)) mvX9_walked lX9_216 k153 (by decide) rfl rfl rfl rfl (Nat.le_of_ble_eq_true rfl) (Nat.le_of_ble_eq_true rfl) (Nat.le_of_ble_eq_true rfl) dX9_arrives_25 ?_
      refine a_istore (ls' := [(6, ai (gN σ 155 (15 + 10 * (gN σ 155 (115 + 5 * i + 2)) + t))), (5, ai i), (4, ai least), (0, ar 153), (1, al set), (3, ai t)]) dX9_arrives_28 (Nat.le_of_ble_eq_true rfl) rfl ?_
      refine a_lload_n dX9_arrives_30 rfl rfl ?_
      refine a_iload dX9_arrives_31 rfl ?_
      refine a_lshr dX9_arrives_33 ?_
      refine a_lconst (v := 1) dX9_arrives_34 rfl ?_
      refine a_land dX9_arrives_35 ?_
      refine a_lconst (v := 1) dX9_arrives_36 rfl ?_
      refine a_lcmp_ne (tgt := 75) dX9_arrives_37 dX9_arrives_38 (by decide) (fun c37 => ?_) (fun c37 => ?_)
      · refine a_iinc (y := i + 1) (ls' := [(5, ai (i + 1)), (6, ai (gN σ 155 (15 + 10 * (gN σ 155 (115 + 5 * i + 2)) + t))), (4, ai least), (0, ar 153), (1, al set), (3, ai t)]) dX9_arrives_75 rfl rfl (Nat.le_of_ble_eq_true rfl) rfl ?_
        refine a_goto (tgt := 7) dX9_arrives_78 (by decide) ?_
        have e : arF σ set t i least = least := by unfold arF; grind
        rw [show itr (arF σ set t) (n + 1) i least = itr (arF σ set t) n (i + 1) (arF σ set t i least) from rfl, e]
        exact a_keep (by simp) (ih (i + 1) (least) (by omega) (by omega) (by omega) (by omega) (by omega))
      · refine a_iload dX9_arrives_41 rfl ?_
        refine a_ldc (x := 1000000) cX9_175 (by decide) dX9_arrives_43 ?_
        refine a_icmp_ge (tgt := 75) dX9_arrives_45 (by decide) (inR_gN _ _ _) (inR_of (by omega) (by omega)) (fun c45 => ?_) (fun c45 => ?_)
        · refine a_iinc (y := i + 1) (ls' := [(5, ai (i + 1)), (6, ai (gN σ 155 (15 + 10 * (gN σ 155 (115 + 5 * i + 2)) + t))), (4, ai least), (0, ar 153), (1, al set), (3, ai t)]) dX9_arrives_75 rfl rfl (Nat.le_of_ble_eq_true rfl) rfl ?_
          refine a_goto (tgt := 7) dX9_arrives_78 (by decide) ?_
          have e : arF σ set t i least = least := by unfold arF; grind
          rw [show itr (arF σ set t) (n + 1) i least = itr (arF σ set t) n (i + 1) (arF σ set t i least) from rfl, e]
          exact a_keep (by simp) (ih (i + 1) (least) (by omega) (by omega) (by omega) (by omega) (by omega))
        · refine a_aload_n dX9_arrives_48 rfl rfl ?_
          refine a_getF (d := 162) fX9_39 k153 rfl r153_22 dX9_arrives_49 ?_
          refine a_iload dX9_arrives_52 rfl ?_
          refine a_ild k162 n162 (by omega) (by omega) dX9_arrives_54 ?_
          refine a_iload dX9_arrives_55 rfl ?_
          refine a_iadd dX9_arrives_57 ?_
          refine a_iload dX9_arrives_58 rfl ?_
          refine a_icmp_ge (tgt := 75) dX9_arrives_60 (by decide) (inR_of (by omega) (by omega)) (inR_of (by omega) (by omega)) (fun c60 => ?_) (fun c60 => ?_)
          · refine a_iinc (y := i + 1) (ls' := [(5, ai (i + 1)), (6, ai (gN σ 155 (15 + 10 * (gN σ 155 (115 + 5 * i + 2)) + t))), (4, ai least), (0, ar 153), (1, al set), (3, ai t)]) dX9_arrives_75 rfl rfl (Nat.le_of_ble_eq_true rfl) rfl ?_
            refine a_goto (tgt := 7) dX9_arrives_78 (by decide) ?_
            have e : arF σ set t i least = least := by unfold arF; grind
            rw [show itr (arF σ set t) (n + 1) i least = itr (arF σ set t) n (i + 1) (arF σ set t i least) from rfl, e]
            exact a_keep (by simp) (ih (i + 1) (least) (by omega) (by omega) (by omega) (by omega) (by omega))
          · refine a_aload_n dX9_arrives_63 rfl rfl ?_
            refine a_getF (d := 162) fX9_39 k153 rfl r153_22 dX9_arrives_64 ?_
            refine a_iload dX9_arrives_67 rfl ?_
            refine a_ild k162 n162 (by omega) (by omega) dX9_arrives_69 ?_
            refine a_iload dX9_arrives_70 rfl ?_
            refine a_iadd dX9_arrives_72 ?_
            refine a_istore (ls' := [(4, ai (gN σ 162 i + (gN σ 155 (15 + 10 * (gN σ 155 (115 + 5 * i + 2)) + t)))), (6, ai (gN σ 155 (15 + 10 * (gN σ 155 (115 + 5 * i + 2)) + t))), (5, ai i), (0, ar 153), (1, al set), (3, ai t)]) dX9_arrives_73 (Nat.le_of_ble_eq_true rfl) rfl ?_
            refine a_iinc (y := i + 1) (ls' := [(5, ai (i + 1)), (4, ai (gN σ 162 i + (gN σ 155 (15 + 10 * (gN σ 155 (115 + 5 * i + 2)) + t)))), (6, ai (gN σ 155 (15 + 10 * (gN σ 155 (115 + 5 * i + 2)) + t))), (0, ar 153), (1, al set), (3, ai t)]) dX9_arrives_75 rfl rfl (Nat.le_of_ble_eq_true rfl) rfl ?_
            refine a_goto (tgt := 7) dX9_arrives_78 (by decide) ?_
            have e : arF σ set t i least = gN σ 162 i + (gN σ 155 (15 + 10 * (gN σ 155 (115 + 5 * i + 2)) + t)) := by unfold arF; grind
            rw [show itr (arF σ set t) (n + 1) i least = itr (arF σ set t) n (i + 1) (arF σ set t i least) from rfl, e]
            exact a_keep (by simp) (ih (i + 1) (gN σ 162 i + (gN σ 155 (15 + 10 * (gN σ 155 (115 + 5 * i + 2)) + t))) (by omega) (by omega) (by omega) (by omega) (by omega))

set_option maxRecDepth 20000 in
theorem t_arrives (σ : Sto) (set : Int64) (t : Int) (hW : WOK σ) (hT : TOK σ) (ht0 : 0 ≤ t) (ht1 : t < 10) : MetI mX9_arrives [ar 153, al set, ai t] σ (arrivesF σ set t) σ := by
  refine a_entry (by decide) (Nat.le_of_ble_eq_true rfl) ?_
  refine a_ldc (x := 1000000) cX9_175 (by decide) dX9_arrives_0 ?_
  refine a_istore (ls' := [(4, ai 1000000), (0, ar 153), (1, al set), (3, ai t)]) dX9_arrives_2 (Nat.le_of_ble_eq_true rfl) rfl ?_
  refine a_iconst dX9_arrives_4 ?_
  refine a_istore (ls' := [(5, ai 0), (4, ai 1000000), (0, ar 153), (1, al set), (3, ai t)]) dX9_arrives_5 (Nat.le_of_ble_eq_true rfl) rfl ?_
  exact a_keep (by simp) (t_arrives_l σ hW hT set t ht0 ht1 _ 0 1000000 (by omega) (by omega) (by omega) (by omega) (by omega))

