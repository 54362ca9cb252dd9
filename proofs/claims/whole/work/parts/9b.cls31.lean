/-! The class's reader: walks, rides, trips, lines. -/

set_option maxRecDepth 20000 in
theorem c_readWalk (ω σ u : Sto) (N : Nat) (hNk : Nok N) (q : RS) (hC : CRd ω σ u N q 0) : MetA mX5_readWalk [ar 2] u (RdQ ω σ N (rdWalk ω q) 0) := by
  have hTq := hC.2.2
  have hOq := hC.1.O
  have hfa := hC.1.fa
  have b0 := hOq.f0
  have b1 := hOq.f1
  have b2 := hOq.f2
  have b3 := hOq.f3
  refine a_entry (by decide) (Nat.le_of_ble_eq_true rfl) ?_
  refine a_ls (ls' := [(0, ar 2)]) rfl ?_
  refine a_aload_n dX5_readWalk_0 rfl rfl ?_
  refine a_getR (d := N) (J := 5) fX5_28 k2 rfl q2_5 rfl hC.1.net dX5_readWalk_1 ?_
  refine a_getI (J := 1) fX5_105 (kN hNk) rfl rfl dX5_readWalk_4 ?_
  refine a_topI (y := q.f 1) hC.1.C.1.2.1 ?_
  refine a_bipush (x := 12) dX5_readWalk_7 (by decide) ?_
  refine a_icmp_lt (tgt := 18) dX5_readWalk_9 (by decide) (inR_of (by omega) (by omega)) (inR_of (by omega) (by omega)) (fun c9 => ?_) (fun c9 => ?_)
  · refine a_aload_n dX5_readWalk_18 rfl rfl ?_
    refine a_callV (c := 2) (as := []) (rest := []) (c_advance u (fun j => gN ω 154 j) (gN ω 153 6) (hC.1).I q.at_ (hC.1).at_ (hC.1).O.a.1 (hC.1).O.a.2) mvX5_advance lX5_46 k2 (by decide) rfl rfl rfl rfl (Nat.le_of_ble_eq_true rfl) (Nat.le_of_ble_eq_true rfl) (Nat.le_of_ble_eq_true rfl) dX5_readWalk_19 (fun v1 hv => ?_)
    obtain ⟨-, hPq1⟩ := hv
    have hC1 := adv_ok hNk (hC.1) hPq1
    obtain ⟨q1, eq1⟩ : ∃ z, z = tkS ω q := ⟨_, rfl⟩
    rw [← eq1] at hC1
    have hfq1 : q1.f = q.f := by rw [eq1]; rfl
    have hTq1 := hC1.2.2
    have hOq1 := hC1.1.O
    have hfq1_0 : q1.f 0 = q.f 0 := by rw [hfq1]
    have hfq1_1 : q1.f 1 = q.f 1 := by rw [hfq1]
    have hfq1_2 : q1.f 2 = q.f 2 := by rw [hfq1]
    have hfq1_3 : q1.f 3 = q.f 3 := by rw [hfq1]
    refine a_aload_n dX5_readWalk_22 rfl rfl ?_
    refine a_cI (c := 2) (as := []) (rest := []) (c_stopHere ω σ v1 N hNk q1 0 hC1) mvX5_stopHere lX5_108 k2 (by decide) rfl rfl rfl rfl (Nat.le_of_ble_eq_true rfl) (Nat.le_of_ble_eq_true rfl) (Nat.le_of_ble_eq_true rfl) dX5_readWalk_23 ?_
    obtain ⟨nh131, enh131⟩ : ∃ z, z = (if othF q1 then nmdF q1 else -1) := ⟨_, rfl⟩
    refine a_topI (y := nh131) enh131.symm ?_
    have hnrnh131 := nmd_rng (hO := hC1.1.O)
    have hnsnh131 := noS_rel hC1.1.O
    rw [← enh131] at hnsnh131
    refine a_istore_n (ls' := [(1, ai nh131), (0, ar 2)]) dX5_readWalk_26 rfl (Nat.le_of_ble_eq_true rfl) rfl ?_
    refine a_iload_n dX5_readWalk_27 rfl rfl ?_
    refine a_if_ge (tgt := 37) dX5_readWalk_28 (by decide) (inR_of (by omega) (by omega)) (fun c28 => ?_) (fun c28 => ?_)
    · refine a_aload_n dX5_readWalk_37 rfl rfl ?_
      refine a_callV (c := 2) (as := []) (rest := []) (c_advance v1 (fun j => gN ω 154 j) (gN ω 153 6) (hC1.1).I q1.at_ (hC1.1).at_ (hC1.1).O.a.1 (hC1.1).O.a.2) mvX5_advance lX5_46 k2 (by decide) rfl rfl rfl rfl (Nat.le_of_ble_eq_true rfl) (Nat.le_of_ble_eq_true rfl) (Nat.le_of_ble_eq_true rfl) dX5_readWalk_38 (fun v2 hv => ?_)
      obtain ⟨-, hPq2⟩ := hv
      have hC2 := adv_ok hNk (hC1.1) hPq2
      obtain ⟨q2, eq2⟩ : ∃ z, z = tkS ω q1 := ⟨_, rfl⟩
      rw [← eq2] at hC2
      have hfq2 : q2.f = q1.f := by rw [eq2]; rfl
      have hTq2 := hC2.2.2
      have hOq2 := hC2.1.O
      have hfq2_0 : q2.f 0 = q1.f 0 := by rw [hfq2]
      have hfq2_1 : q2.f 1 = q1.f 1 := by rw [hfq2]
      have hfq2_2 : q2.f 2 = q1.f 2 := by rw [hfq2]
      have hfq2_3 : q2.f 3 = q1.f 3 := by rw [hfq2]
      refine a_aload_n dX5_readWalk_41 rfl rfl ?_
      refine a_cI (c := 2) (as := []) (rest := []) (c_stopHere ω σ v2 N hNk q2 0 hC2) mvX5_stopHere lX5_108 k2 (by decide) rfl rfl rfl rfl (Nat.le_of_ble_eq_true rfl) (Nat.le_of_ble_eq_true rfl) (Nat.le_of_ble_eq_true rfl) dX5_readWalk_42 ?_
      obtain ⟨nh132, enh132⟩ : ∃ z, z = (if othF q2 then nmdF q2 else -1) := ⟨_, rfl⟩
      refine a_topI (y := nh132) enh132.symm ?_
      have hnrnh132 := nmd_rng (hO := hC2.1.O)
      have hnsnh132 := noS_rel hC2.1.O
      rw [← enh132] at hnsnh132
      refine a_istore_n (ls' := [(2, ai nh132), (1, ai nh131), (0, ar 2)]) dX5_readWalk_45 rfl (Nat.le_of_ble_eq_true rfl) rfl ?_
      refine a_iload_n dX5_readWalk_46 rfl rfl ?_
      refine a_if_ge (tgt := 56) dX5_readWalk_47 (by decide) (inR_of (by omega) (by omega)) (fun c47 => ?_) (fun c47 => ?_)
      · refine a_iload_n dX5_readWalk_56 rfl rfl ?_
        refine a_iload_n dX5_readWalk_57 rfl rfl ?_
        refine a_icmp_ne (tgt := 67) dX5_readWalk_58 (by decide) (inR_of (by omega) (by omega)) (inR_of (by omega) (by omega)) (fun c58 => ?_) (fun c58 => ?_)
        · refine a_aload_n dX5_readWalk_67 rfl rfl ?_
          refine a_callV (c := 2) (as := []) (rest := []) (c_advance v2 (fun j => gN ω 154 j) (gN ω 153 6) (hC2.1).I q2.at_ (hC2.1).at_ (hC2.1).O.a.1 (hC2.1).O.a.2) mvX5_advance lX5_46 k2 (by decide) rfl rfl rfl rfl (Nat.le_of_ble_eq_true rfl) (Nat.le_of_ble_eq_true rfl) (Nat.le_of_ble_eq_true rfl) dX5_readWalk_68 (fun v3 hv => ?_)
          obtain ⟨-, hPq3⟩ := hv
          have hC3 := adv_ok hNk (hC2.1) hPq3
          obtain ⟨q3, eq3⟩ : ∃ z, z = tkS ω q2 := ⟨_, rfl⟩
          rw [← eq3] at hC3
          have hfq3 : q3.f = q2.f := by rw [eq3]; rfl
          have hTq3 := hC3.2.2
          have hOq3 := hC3.1.O
          have hfq3_0 : q3.f 0 = q2.f 0 := by rw [hfq3]
          have hfq3_1 : q3.f 1 = q2.f 1 := by rw [hfq3]
          have hfq3_2 : q3.f 2 = q2.f 2 := by rw [hfq3]
          have hfq3_3 : q3.f 3 = q2.f 3 := by rw [hfq3]
          refine a_aload_n dX5_readWalk_71 rfl rfl ?_
          refine a_iconst dX5_readWalk_72 ?_
          refine a_sipush (x := 240) dX5_readWalk_73 (by decide) ?_
          refine a_cI (c := 2) (as := [ai 1, ai 240]) (rest := []) (c_isNumber ω σ v3 N hNk q3 0 hC3 1 240 (inR_of (by omega) (by omega)) (inR_of (by omega) (by omega)) (by omega) (by omega)) mvX5_isNumber lX5_94 k2 (by decide) rfl rfl rfl rfl (Nat.le_of_ble_eq_true rfl) (Nat.le_of_ble_eq_true rfl) (Nat.le_of_ble_eq_true rfl) dX5_readWalk_76 ?_
          refine a_ifb_ne (tgt := 87) dX5_readWalk_79 (by decide) (fun c79 => ?_) (fun c79 => ?_)
          · refine a_aload_n dX5_readWalk_87 rfl rfl ?_
            refine a_getR (d := N) (J := 5) fX5_28 k2 rfl q2_5 rfl hC3.1.net dX5_readWalk_88 ?_
            refine a_iload_n dX5_readWalk_91 rfl rfl ?_
            refine a_iload_n dX5_readWalk_92 rfl rfl ?_
            refine a_aload_n dX5_readWalk_93 rfl rfl ?_
            refine a_getI (J := 9) fX5_62 k2 rfl rfl dX5_readWalk_94 ?_
            have hva : gN v3 2 9 = q3.va := by have z := hTq3.2.2.2 (by omega); unfold NuR at z; omega
            refine a_topI (y := q3.va) hva ?_
            refine a_callV (c := N) (as := [ai nh131, ai nh132, ai q3.va]) (rest := []) (c_addWalk v3 N hNk (q3.f 1) hC3.1.C.1.2.1 (by omega) (by omega) nh131 nh132 q3.va (by omega) (by omega) (by omega) (by omega) (inR_of (by omega) (by omega))) mvX2_addWalk lX5_112 (kN hNk) (by decide) rfl rfl rfl rfl (Nat.le_of_ble_eq_true rfl) (Nat.le_of_ble_eq_true rfl) (Nat.le_of_ble_eq_true rfl) dX5_readWalk_97 (fun z133 hv => ?_)
            obtain ⟨-, hv⟩ := hv
            have hA := addWalk_ok hNk hC3.1 (by omega) (a := nh131) (b := nh132) (n := q3.va) (by omega) (by omega) (by omega) (by omega) (by omega) (by omega) (by omega) hv
            refine a_aload_n dX5_readWalk_100 rfl rfl ?_
            refine a_callV (c := 2) (as := []) (rest := []) (c_advance z133 (fun j => gN ω 154 j) (gN ω 153 6) (hA).I (rwE nh131 nh132 q3.va q3).at_ (hA).at_ (hA).O.a.1 (hA).O.a.2) mvX5_advance lX5_46 k2 (by decide) rfl rfl rfl rfl (Nat.le_of_ble_eq_true rfl) (Nat.le_of_ble_eq_true rfl) (Nat.le_of_ble_eq_true rfl) dX5_readWalk_101 (fun v4 hv => ?_)
            obtain ⟨-, hPq4⟩ := hv
            have hC4 := adv_ok hNk (hA) hPq4
            obtain ⟨q4, eq4⟩ : ∃ z, z = tkS ω (rwE nh131 nh132 q3.va q3) := ⟨_, rfl⟩
            rw [← eq4] at hC4
            have hfq4 : q4.f = (rwE nh131 nh132 q3.va q3).f := by rw [eq4]; rfl
            have hTq4 := hC4.2.2
            have hOq4 := hC4.1.O
            have hfq4_0 : q4.f 0 = (rwE nh131 nh132 q3.va q3).f 0 := by rw [hfq4]
            have hfq4_1 : q4.f 1 = (rwE nh131 nh132 q3.va q3).f 1 := by rw [hfq4]
            have hfq4_2 : q4.f 2 = (rwE nh131 nh132 q3.va q3).f 2 := by rw [hfq4]
            have hfq4_3 : q4.f 3 = (rwE nh131 nh132 q3.va q3).f 3 := by rw [hfq4]
            refine a_iconst dX5_readWalk_104 ?_
            exact a_zret rfl (by omega) (by
    have ea : nh131 = nmdF q1 := by omega
    have eb : nh132 = nmdF q2 := by omega
    have eS : rdWalk ω q = q4 := by rw [rdWalk_nf hfa]; unfold walkS; dsimp only; simp only [← eq1, ← eq2, ← eq3]; rw [if_neg (by first | omega | assumption), if_neg (by first | omega | assumption), if_neg (by first | omega | assumption), if_neg (by first | omega | assumption), if_neg (by first | omega | assumption), if_neg (by first | omega | assumption), rwE_tk hC3.1.fa, ← ea, ← eb]; exact eq4.symm
    rw [eS]; exact Or.inl ⟨rfl, hC4.1.fa, hC4⟩) dX5_readWalk_105
          · refine a_aload_n dX5_readWalk_82 rfl rfl ?_
            refine a_cI (c := 2) (as := []) (rest := []) (c_failNumber ω σ v3 N hNk q3 0 hC3) mvX5_failNumber lX5_98 k2 (by decide) rfl rfl rfl rfl (Nat.le_of_ble_eq_true rfl) (Nat.le_of_ble_eq_true rfl) (Nat.le_of_ble_eq_true rfl) dX5_readWalk_83 ?_
            exact a_zret rfl (by omega) (Or.inr ⟨rfl, by have eS := rdWalk_nf (ω := ω) hfa; unfold walkS at eS; (try dsimp only at eS); simp only [← eq1, ← eq2, ← eq3] at eS; rw [if_neg (by first | omega | assumption), if_neg (by first | omega | assumption), if_neg (by first | omega | assumption), if_neg (by first | omega | assumption)] at eS; rw [eS]; exact failN_ok hNk hC3 (by assumption)⟩) dX5_readWalk_86
        · refine a_aload_n dX5_readWalk_61 rfl rfl ?_
          refine a_iconst dX5_readWalk_62 ?_
          refine a_cI (c := 2) (as := [ai 3]) (rest := []) (c_fail v2 3) mvX5_fail lX5_77 k2 (by decide) rfl rfl rfl rfl (Nat.le_of_ble_eq_true rfl) (Nat.le_of_ble_eq_true rfl) (Nat.le_of_ble_eq_true rfl) dX5_readWalk_63 ?_
          exact a_zret rfl (by omega) (Or.inr ⟨rfl, by have eS := rdWalk_nf (ω := ω) hfa; unfold walkS at eS; (try dsimp only at eS); simp only [← eq1, ← eq2] at eS; rw [if_neg (by first | omega | assumption), if_neg (by first | omega | assumption), if_neg (by first | omega | assumption), if_pos (by first | omega | assumption)] at eS; rw [eS]; exact fail_ok hNk hC2 (by omega) (by omega)⟩) dX5_readWalk_66
      · refine a_aload_n dX5_readWalk_50 rfl rfl ?_
        refine a_iconst dX5_readWalk_51 ?_
        refine a_cI (c := 2) (as := [ai 1]) (rest := []) (c_fail v2 1) mvX5_fail lX5_77 k2 (by decide) rfl rfl rfl rfl (Nat.le_of_ble_eq_true rfl) (Nat.le_of_ble_eq_true rfl) (Nat.le_of_ble_eq_true rfl) dX5_readWalk_52 ?_
        exact a_zret rfl (by omega) (Or.inr ⟨rfl, by have eS := rdWalk_nf (ω := ω) hfa; unfold walkS at eS; (try dsimp only at eS); simp only [← eq1, ← eq2] at eS; rw [if_neg (by first | omega | assumption), if_neg (by first | omega | assumption), if_pos (by first | omega | assumption)] at eS; rw [eS]; exact fail_ok hNk hC2 (by omega) (by omega)⟩) dX5_readWalk_55
    · refine a_aload_n dX5_readWalk_31 rfl rfl ?_
      refine a_iconst dX5_readWalk_32 ?_
      refine a_cI (c := 2) (as := [ai 1]) (rest := []) (c_fail v1 1) mvX5_fail lX5_77 k2 (by decide) rfl rfl rfl rfl (Nat.le_of_ble_eq_true rfl) (Nat.le_of_ble_eq_true rfl) (Nat.le_of_ble_eq_true rfl) dX5_readWalk_33 ?_
      exact a_zret rfl (by omega) (Or.inr ⟨rfl, by have eS := rdWalk_nf (ω := ω) hfa; unfold walkS at eS; (try dsimp only at eS); simp only [← eq1] at eS; rw [if_neg (by first | omega | assumption), if_pos (by first | omega | assumption)] at eS; rw [eS]; exact fail_ok hNk hC1 (by omega) (by omega)⟩) dX5_readWalk_36
  · refine a_aload_n dX5_readWalk_12 rfl rfl ?_
    refine a_iconst dX5_readWalk_13 ?_
    refine a_cI (c := 2) (as := [ai 2]) (rest := []) (c_fail u 2) mvX5_fail lX5_77 k2 (by decide) rfl rfl rfl rfl (Nat.le_of_ble_eq_true rfl) (Nat.le_of_ble_eq_true rfl) (Nat.le_of_ble_eq_true rfl) dX5_readWalk_14 ?_
    exact a_zret rfl (by omega) (Or.inr ⟨rfl, by have eS := rdWalk_nf (ω := ω) hfa; unfold walkS at eS; (try dsimp only at eS); rw [if_pos (by first | omega | assumption)] at eS; rw [eS]; exact fail_ok hNk hC (by omega) (by omega)⟩) dX5_readWalk_17

theorem rtE_tkS {ω : Sto} {r fr to lv cm : Int} {q : RS} : rtE r fr to lv cm (tkS ω q) = tkS ω (rtE r fr to lv cm q) := rfl
theorem ride_fin {ω : Sto} {q q1 q2 q3 : RS} {fr ah nx : Int} (hfa : q.fa = 0) (eq1 : q1 = tkS ω q) (eq2 : q2 = tkS ω q1) (eq3 : q3 = tkS ω (rtE (115 + 5 * q2.f 3) fr nx q.va q1.va q2)) (c1 : q.so = 1) (c2 : q.f 3 ≠ 60) (b3 : 0 ≤ q.f 3) (c3 : 0 ≤ q.va ∧ q.va ≤ 1439) (c4 : ¬ q.va < ah) (c5 : q1.so = 1) (c6 : 0 ≤ q1.va ∧ q1.va ≤ 1439) (c7 : ¬ q1.va ≤ q.va) (h3 : q2.f 3 = q.f 3) (c8 : ¬ noS q2) (en : nx = nmdF q2) (c9 : ¬ nx = fr) : (rtQ3 ω fr ah q).fa = 0 ∧ rtR ω fr ah q = q3 ∧ (rtR ω fr ah q).f 3 = q.f 3 + 1 ∧ (∀ j : Int, j < 115 → j ≠ 3 → (rtR ω fr ah q).f j = q.f j) ∧ (rtR ω fr ah q).f (115 + 5 * q.f 3 + 0) = q.f 2 ∧ (rtR ω fr ah q).f (115 + 5 * q.f 3 + 2) = rtT ω ah q ∧ (rtR ω fr ah q).f (115 + 5 * q.f 3 + 4) = rtM ω ah q := by
  have eS : rideS ω fr ah q = tkS ω q2 := by
    unfold rideS
    dsimp only
    rw [← eq1, ← eq2, if_neg (by omega), if_neg (by omega), if_neg c4, if_neg (by omega), if_neg (by omega), if_neg c7, if_neg c8, if_neg (by omega)]
  have rn := ride_nf (ω := ω) (fr := fr) (ah := ah) hfa
  have z2 : q2.fa = 0 := by rw [eq2, eq1]; exact hfa
  have z0 : (rideS ω fr ah q).fa = 0 := by rw [eS]; exact z2
  have rt := rn.2 z0
  have hf : q2.f = q.f := by rw [eq2, eq1]; rfl
  have eR : rtR ω fr ah q = q3 := by
    unfold rtR
    rw [rn.1, eS, rt.1, rt.2.1, rt.2.2, ← eq1, ← eq2, ← en, eq3, h3, rtE_tkS]
  have eA := rtE_all (r := 115 + 5 * q2.f 3) (fr := fr) (to := nx) (lv := q.va) (cm := q1.va) (q := q2) (by omega)
  have eB : ∀ j : Int, q3.f j = (rtE (115 + 5 * q2.f 3) fr nx q.va q1.va q2).f j := fun j => by rw [eq3, tk_f]
  refine ⟨by rw [rn.1]; exact z0, eR, ?_, fun j j0 j1 => ?_, ?_, ?_, ?_⟩
  · rw [eR, eB, eA, if_pos rfl]; omega
  · rw [eR, eB, eA, if_neg j1, if_neg (by omega), if_neg (by omega), if_neg (by omega), if_neg (by omega), if_neg (by omega), hf]
  · rw [eR, eB, eA, if_neg (by omega), if_pos (by omega), hf]
  · rw [eR, eB, eA, if_neg (by omega), if_neg (by omega), if_neg (by omega), if_pos (by omega), rt.2.2, ← eq1, ← eq2]; exact en
  · rw [eR, eB, eA, if_neg (by omega), if_neg (by omega), if_neg (by omega), if_neg (by omega), if_neg (by omega), if_pos (by omega), rt.2.1, ← eq1]
theorem failR_ok {ω σ u : Sto} {N : Nat} {q X : RS} {k : Int} (hN : Nok N) (h : CRd ω σ u N q k) (hc : ¬ (q.so = 1 ∧ 0 ≤ q.va ∧ q.va ≤ 1439)) : CFl σ (sN (sN u 2 0 (if q.so = 1 then 2 else 1)) 2 1 (gN u 2 6)) N (if q.so ≠ 1 then q.wX 1 q.pl else if q.f 3 = 60 ∨ q.va < 0 ∨ 1439 < q.va then q.wX 2 q.pl else X) := by
  by_cases e : q.so = 1
  · rw [if_pos e, if_neg (by omega), if_pos (by omega)]
    exact fail_ok hN h (by omega) (by omega)
  · rw [if_neg e, if_pos e]
    exact fail_ok hN h (by omega) (by omega)

set_option maxRecDepth 20000 in
theorem c_rr_end (ω σ u : Sto) (N : Nat) (hNk : Nok N) (q : RS) (hC : CRd ω σ u N q 1) (fr ah lv cm nx : Int) (hT20 : q.f 2 < 20) (hR60 : q.f 3 < 60) (hf0 : 0 ≤ fr) (hf1 : fr < q.f 0) (hn0 : 0 ≤ nx) (hn1 : nx < q.f 0) (hl0 : 0 ≤ lv) (hlc : lv < cm) (hc : cm < 1440) (hah : 0 < q.f 3 → q.f (115 + 5 * (q.f 3 - 1) + 0) = q.f 2 → q.f (115 + 5 * (q.f 3 - 1) + 4) ≤ lv) (Q : Option Av → Sto → Prop) (hQ : ∀ w, CRd ω σ w N (tkS ω (rtE (115 + 5 * q.f 3) fr nx lv cm q)) 1 → gN w (N + 5) (q.f 2) = gN u (N + 5) (q.f 2) → Q (some (ai 1)) w) : RunA mX5_readRide Q 126 [(5, ai nx), (4, ai cm), (3, ai lv), (0, ar 2), (1, ai fr), (2, ai ah)] [] u := by
  have hTq := hC.2.2
  have hOq := hC.1.O
  have hfa := hC.1.fa
  have b0 := hOq.f0
  have b1 := hOq.f1
  have b2 := hOq.f2
  have b3 := hOq.f3
  have hA := addRide_ok hNk hC.1 (fr := fr) (to := nx) (lv := lv) (cm := cm) hT20 hR60 hf0 hf1 hn0 hn1 hl0 hlc hc hah
  refine a_aload_n dX5_readRide_126 rfl rfl ?_
  refine a_getR (d := N) (J := 5) fX5_28 k2 rfl q2_5 rfl hC.1.net dX5_readRide_127 ?_
  refine a_iload_n dX5_readRide_130 rfl rfl ?_
  refine a_iload_n dX5_readRide_131 rfl rfl ?_
  refine a_iload dX5_readRide_132 rfl ?_
  refine a_iload dX5_readRide_134 rfl ?_
  refine a_cV (c := N) (as := [ai fr, ai lv, ai cm, ai nx]) (rest := []) (c_addRide u N hNk (q.f 2 + 1) (q.f 3) hC.1.C.1.2.2.1 (by omega) (by omega) hC.1.C.1.2.2.2 (by omega) (by omega) fr lv cm nx) mvX2_addRide lX5_135 (kN hNk) (by decide) rfl rfl rfl rfl (Nat.le_of_ble_eq_true rfl) (Nat.le_of_ble_eq_true rfl) (Nat.le_of_ble_eq_true rfl) dX5_readRide_136 ?_
  have hz : gN (sN (sN (sN (sN (sN (sN (sN u (N + 6) (q.f 3) (q.f 2 + 1 - 1)) (N + 7) (q.f 3) fr) (N + 8) (q.f 3) nx) (N + 9) (q.f 3) lv) (N + 10) (q.f 3) cm) N 3 (q.f 3 + 1)) (N + 5) (q.f 2 + 1) (q.f 3 + 1)) (N + 5) (q.f 2) = gN u (N + 5) (q.f 2) := by rw [gN_sN, if_neg (by omega), gN_sN, if_neg (by omega), gN_sN, if_neg (by omega), gN_sN, if_neg (by omega), gN_sN, if_neg (by omega), gN_sN, if_neg (by omega), gN_sN, if_neg (by omega)]
  generalize (sN (sN (sN (sN (sN (sN (sN u (N + 6) (q.f 3) (q.f 2 + 1 - 1)) (N + 7) (q.f 3) fr) (N + 8) (q.f 3) nx) (N + 9) (q.f 3) lv) (N + 10) (q.f 3) cm) N 3 (q.f 3 + 1)) (N + 5) (q.f 2 + 1) (q.f 3 + 1)) = z at hA hz ⊢
  refine a_aload_n dX5_readRide_139 rfl rfl ?_
  refine a_callV (c := 2) (as := []) (rest := []) (c_advance z (fun j => gN ω 154 j) (gN ω 153 6) hA.I _ hA.at_ hA.O.a.1 hA.O.a.2) mvX5_advance lX5_46 k2 (by decide) rfl rfl rfl rfl (Nat.le_of_ble_eq_true rfl) (Nat.le_of_ble_eq_true rfl) (Nat.le_of_ble_eq_true rfl) dX5_readRide_140 (fun v hv => ?_)
  refine a_iconst dX5_readRide_143 ?_
  exact a_zret rfl (Or.inr rfl) (hQ v (adv_ok hNk hA hv.2) ((hv.2.1.n (by unfold pAd; omega)).trans hz)) dX5_readRide_144

set_option maxRecDepth 20000 in
theorem c_readRide (ω σ u : Sto) (N : Nat) (hNk : Nok N) (q : RS) (hC : CRd ω σ u N q 1) (fr ah : Int) (hf0 : 0 ≤ fr) (hf1 : fr < q.f 0) (ha0 : 0 ≤ ah) (ha1 : ah < 1440) (hT20 : q.f 2 < 20) (hah : 0 < q.f 3 → q.f (115 + 5 * (q.f 3 - 1) + 0) = q.f 2 → q.f (115 + 5 * (q.f 3 - 1) + 4) ≤ ah) : MetA mX5_readRide [ar 2, ai fr, ai ah] u (fun r v => (r = some (ai 1) ∧ (rtQ3 ω fr ah q).fa = 0 ∧ CRd ω σ v N (rtR ω fr ah q) 1 ∧ gN v (N + 5) (q.f 2) = gN u (N + 5) (q.f 2) ∧ (rtR ω fr ah q).f 3 = q.f 3 + 1 ∧ (∀ j : Int, j < 115 → j ≠ 3 → (rtR ω fr ah q).f j = q.f j) ∧ (rtR ω fr ah q).f (115 + 5 * q.f 3 + 0) = q.f 2 ∧ (rtR ω fr ah q).f (115 + 5 * q.f 3 + 2) = rtT ω ah q ∧ (rtR ω fr ah q).f (115 + 5 * q.f 3 + 4) = rtM ω ah q) ∨ (r = some (ai 0) ∧ CFl σ v N (rtQ3 ω fr ah q))) := by
  have hTq := hC.2.2
  have hOq := hC.1.O
  have hfa := hC.1.fa
  have b0 := hOq.f0
  have b1 := hOq.f1
  have b2 := hOq.f2
  have b3 := hOq.f3
  refine a_entry (by decide) (Nat.le_of_ble_eq_true rfl) ?_
  refine a_ls (ls' := [(0, ar 2), (1, ai fr), (2, ai ah)]) rfl ?_
  refine a_aload_n dX5_readRide_0 rfl rfl ?_
  refine a_iconst dX5_readRide_1 ?_
  refine a_sipush (x := 1439) dX5_readRide_2 (by decide) ?_
  refine a_cI (c := 2) (as := [ai 0, ai 1439]) (rest := []) (c_isNumber ω σ u N hNk q 1 hC 0 1439 (inR_of (by omega) (by omega)) (inR_of (by omega) (by omega)) (by omega) (by omega)) mvX5_isNumber lX5_94 k2 (by decide) rfl rfl rfl rfl (Nat.le_of_ble_eq_true rfl) (Nat.le_of_ble_eq_true rfl) (Nat.le_of_ble_eq_true rfl) dX5_readRide_5 ?_
  refine a_ifb_ne (tgt := 16) dX5_readRide_8 (by decide) (fun c8 => ?_) (fun c8 => ?_)
  · refine a_aload_n dX5_readRide_16 rfl rfl ?_
    refine a_getR (d := N) (J := 5) fX5_28 k2 rfl q2_5 rfl hC.1.net dX5_readRide_17 ?_
    refine a_getI (J := 3) fX5_129 (kN hNk) rfl rfl dX5_readRide_20 ?_
    refine a_topI (y := q.f 3) hC.1.C.1.2.2.2 ?_
    refine a_bipush (x := 60) dX5_readRide_23 (by decide) ?_
    refine a_icmp_lt (tgt := 34) dX5_readRide_25 (by decide) (inR_of (by omega) (by omega)) (inR_of (by omega) (by omega)) (fun c25 => ?_) (fun c25 => ?_)
    · refine a_aload_n dX5_readRide_34 rfl rfl ?_
      refine a_getI (J := 9) fX5_62 k2 rfl rfl dX5_readRide_35 ?_
      have hvaa : gN u 2 9 = q.va := by have z := hTq.2.2.2 (by omega); unfold NuR at z; omega
      refine a_topI (y := q.va) hvaa ?_
      refine a_iload_n dX5_readRide_38 rfl rfl ?_
      refine a_icmp_ge (tgt := 48) dX5_readRide_39 (by decide) (inR_of (by omega) (by omega)) (inR_of (by omega) (by omega)) (fun c39 => ?_) (fun c39 => ?_)
      · refine a_aload_n dX5_readRide_48 rfl rfl ?_
        refine a_getI (J := 9) fX5_62 k2 rfl rfl dX5_readRide_49 ?_
        have hvab : gN u 2 9 = q.va := by have z := hTq.2.2.2 (by omega); unfold NuR at z; omega
        refine a_topI (y := q.va) hvab ?_
        refine a_istore_n (ls' := [(3, ai q.va), (0, ar 2), (1, ai fr), (2, ai ah)]) dX5_readRide_52 rfl (Nat.le_of_ble_eq_true rfl) rfl ?_
        refine a_aload_n dX5_readRide_53 rfl rfl ?_
        refine a_callV (c := 2) (as := []) (rest := []) (c_advance u (fun j => gN ω 154 j) (gN ω 153 6) (hC.1).I q.at_ (hC.1).at_ (hC.1).O.a.1 (hC.1).O.a.2) mvX5_advance lX5_46 k2 (by decide) rfl rfl rfl rfl (Nat.le_of_ble_eq_true rfl) (Nat.le_of_ble_eq_true rfl) (Nat.le_of_ble_eq_true rfl) dX5_readRide_54 (fun v1 hv => ?_)
        obtain ⟨-, hPq1⟩ := hv
        have hC1 := adv_ok hNk (hC.1) hPq1
        obtain ⟨q1, eq1⟩ : ∃ z, z = tkS ω q := ⟨_, rfl⟩
        rw [← eq1] at hC1
        have hfq1 : q1.f = q.f := by rw [eq1]; rfl
        have hTq1 := hC1.2.2
        have hOq1 := hC1.1.O
        have hfq1_0 : q1.f 0 = q.f 0 := by rw [hfq1]
        have hfq1_1 : q1.f 1 = q.f 1 := by rw [hfq1]
        have hfq1_2 : q1.f 2 = q.f 2 := by rw [hfq1]
        have hfq1_3 : q1.f 3 = q.f 3 := by rw [hfq1]
        refine a_aload_n dX5_readRide_57 rfl rfl ?_
        refine a_iconst dX5_readRide_58 ?_
        refine a_sipush (x := 1439) dX5_readRide_59 (by decide) ?_
        refine a_cI (c := 2) (as := [ai 0, ai 1439]) (rest := []) (c_isNumber ω σ v1 N hNk q1 1 hC1 0 1439 (inR_of (by omega) (by omega)) (inR_of (by omega) (by omega)) (by omega) (by omega)) mvX5_isNumber lX5_94 k2 (by decide) rfl rfl rfl rfl (Nat.le_of_ble_eq_true rfl) (Nat.le_of_ble_eq_true rfl) (Nat.le_of_ble_eq_true rfl) dX5_readRide_62 ?_
        refine a_ifb_ne (tgt := 73) dX5_readRide_65 (by decide) (fun c65 => ?_) (fun c65 => ?_)
        · refine a_aload_n dX5_readRide_73 rfl rfl ?_
          refine a_getI (J := 9) fX5_62 k2 rfl rfl dX5_readRide_74 ?_
          have hvac : gN v1 2 9 = q1.va := by have z := hTq1.2.2.2 (by omega); unfold NuR at z; omega
          refine a_topI (y := q1.va) hvac ?_
          refine a_iload_n dX5_readRide_77 rfl rfl ?_
          refine a_icmp_gt (tgt := 87) dX5_readRide_78 (by decide) (inR_of (by omega) (by omega)) (inR_of (by omega) (by omega)) (fun c78 => ?_) (fun c78 => ?_)
          · refine a_aload_n dX5_readRide_87 rfl rfl ?_
            refine a_getI (J := 9) fX5_62 k2 rfl rfl dX5_readRide_88 ?_
            have hvad : gN v1 2 9 = q1.va := by have z := hTq1.2.2.2 (by omega); unfold NuR at z; omega
            refine a_topI (y := q1.va) hvad ?_
            refine a_istore (ls' := [(4, ai q1.va), (3, ai q.va), (0, ar 2), (1, ai fr), (2, ai ah)]) dX5_readRide_91 (Nat.le_of_ble_eq_true rfl) rfl ?_
            refine a_aload_n dX5_readRide_93 rfl rfl ?_
            refine a_callV (c := 2) (as := []) (rest := []) (c_advance v1 (fun j => gN ω 154 j) (gN ω 153 6) (hC1.1).I q1.at_ (hC1.1).at_ (hC1.1).O.a.1 (hC1.1).O.a.2) mvX5_advance lX5_46 k2 (by decide) rfl rfl rfl rfl (Nat.le_of_ble_eq_true rfl) (Nat.le_of_ble_eq_true rfl) (Nat.le_of_ble_eq_true rfl) dX5_readRide_94 (fun v2 hv => ?_)
            obtain ⟨-, hPq2⟩ := hv
            have hC2 := adv_ok hNk (hC1.1) hPq2
            obtain ⟨q2, eq2⟩ : ∃ z, z = tkS ω q1 := ⟨_, rfl⟩
            rw [← eq2] at hC2
            have hfq2 : q2.f = q1.f := by rw [eq2]; rfl
            have hTq2 := hC2.2.2
            have hOq2 := hC2.1.O
            have hfq2_0 : q2.f 0 = q1.f 0 := by rw [hfq2]
            have hfq2_1 : q2.f 1 = q1.f 1 := by rw [hfq2]
            have hfq2_2 : q2.f 2 = q1.f 2 := by rw [hfq2]
            have hfq2_3 : q2.f 3 = q1.f 3 := by rw [hfq2]
            refine a_aload_n dX5_readRide_97 rfl rfl ?_
            refine a_cI (c := 2) (as := []) (rest := []) (c_stopHere ω σ v2 N hNk q2 1 hC2) mvX5_stopHere lX5_108 k2 (by decide) rfl rfl rfl rfl (Nat.le_of_ble_eq_true rfl) (Nat.le_of_ble_eq_true rfl) (Nat.le_of_ble_eq_true rfl) dX5_readRide_98 ?_
            obtain ⟨nh134, enh134⟩ : ∃ z, z = (if othF q2 then nmdF q2 else -1) := ⟨_, rfl⟩
            refine a_topI (y := nh134) enh134.symm ?_
            have hnrnh134 := nmd_rng (hO := hC2.1.O)
            have hnsnh134 := noS_rel hC2.1.O
            rw [← enh134] at hnsnh134
            refine a_istore (ls' := [(5, ai nh134), (4, ai q1.va), (3, ai q.va), (0, ar 2), (1, ai fr), (2, ai ah)]) dX5_readRide_101 (Nat.le_of_ble_eq_true rfl) rfl ?_
            refine a_iload dX5_readRide_103 rfl ?_
            refine a_if_ge (tgt := 114) dX5_readRide_105 (by decide) (inR_of (by omega) (by omega)) (fun c105 => ?_) (fun c105 => ?_)
            · refine a_iload dX5_readRide_114 rfl ?_
              refine a_iload_n dX5_readRide_116 rfl rfl ?_
              refine a_icmp_ne (tgt := 126) dX5_readRide_117 (by decide) (inR_of (by omega) (by omega)) (inR_of (by omega) (by omega)) (fun c117 => ?_) (fun c117 => ?_)
              · have hfR : q2.f = q.f := by rw [hfq2, hfq1]
                refine a_keep (by simp) (c_rr_end ω σ v2 N hNk q2 hC2 fr ah q.va q1.va nh134 (by omega) (by omega) (by omega) (by omega) (by omega) (by omega) (by omega) (by omega) (by omega) (fun y z => by rw [hfR] at y z ⊢; have y2 := hah y z; omega) _ (fun w hw hw5 => ?_))
                have rf := ride_fin (ω := ω) (fr := fr) (ah := ah) (nx := nh134) hfa eq1 eq2 rfl (by omega) (by omega) (by omega) (by omega) (by omega) (by omega) (by omega) (by omega) (by omega) (fun z => by omega) (by omega) (by omega)
                exact Or.inl ⟨rfl, rf.1, by rw [rf.2.1]; exact hw, by rw [hfR] at hw5; rw [hw5, hPq2.1.n (by unfold pAd; omega), hPq1.1.n (by unfold pAd; omega)], rf.2.2⟩
              · refine a_aload_n dX5_readRide_120 rfl rfl ?_
                refine a_iconst dX5_readRide_121 ?_
                refine a_cI (c := 2) (as := [ai 3]) (rest := []) (c_fail v2 3) mvX5_fail lX5_77 k2 (by decide) rfl rfl rfl rfl (Nat.le_of_ble_eq_true rfl) (Nat.le_of_ble_eq_true rfl) (Nat.le_of_ble_eq_true rfl) dX5_readRide_122 ?_
                exact a_zret rfl (by omega) (Or.inr ⟨rfl, by have eS := (ride_nf (ω := ω) (fr := fr) (ah := ah) hfa).1; unfold rideS at eS; (try dsimp only at eS); simp only [← eq1, ← eq2] at eS; rw [if_neg (by first | omega | assumption), if_neg (by first | omega | assumption), if_neg (by first | omega | assumption), if_neg (by first | omega | assumption), if_neg (by first | omega | assumption), if_neg (by first | omega | assumption), if_neg (by first | omega | assumption), if_pos (by first | omega | assumption)] at eS; rw [eS]; exact fail_ok hNk hC2 (by omega) (by omega)⟩) dX5_readRide_125
            · refine a_aload_n dX5_readRide_108 rfl rfl ?_
              refine a_iconst dX5_readRide_109 ?_
              refine a_cI (c := 2) (as := [ai 1]) (rest := []) (c_fail v2 1) mvX5_fail lX5_77 k2 (by decide) rfl rfl rfl rfl (Nat.le_of_ble_eq_true rfl) (Nat.le_of_ble_eq_true rfl) (Nat.le_of_ble_eq_true rfl) dX5_readRide_110 ?_
              exact a_zret rfl (by omega) (Or.inr ⟨rfl, by have eS := (ride_nf (ω := ω) (fr := fr) (ah := ah) hfa).1; unfold rideS at eS; (try dsimp only at eS); simp only [← eq1, ← eq2] at eS; rw [if_neg (by first | omega | assumption), if_neg (by first | omega | assumption), if_neg (by first | omega | assumption), if_neg (by first | omega | assumption), if_neg (by first | omega | assumption), if_neg (by first | omega | assumption), if_pos (by first | omega | assumption)] at eS; rw [eS]; exact fail_ok hNk hC2 (by omega) (by omega)⟩) dX5_readRide_113
          · refine a_aload_n dX5_readRide_81 rfl rfl ?_
            refine a_iconst dX5_readRide_82 ?_
            refine a_cI (c := 2) (as := [ai 4]) (rest := []) (c_fail v1 4) mvX5_fail lX5_77 k2 (by decide) rfl rfl rfl rfl (Nat.le_of_ble_eq_true rfl) (Nat.le_of_ble_eq_true rfl) (Nat.le_of_ble_eq_true rfl) dX5_readRide_83 ?_
            exact a_zret rfl (by omega) (Or.inr ⟨rfl, by have eS := (ride_nf (ω := ω) (fr := fr) (ah := ah) hfa).1; unfold rideS at eS; (try dsimp only at eS); simp only [← eq1] at eS; rw [if_neg (by first | omega | assumption), if_neg (by first | omega | assumption), if_neg (by first | omega | assumption), if_neg (by first | omega | assumption), if_neg (by first | omega | assumption), if_pos (by first | omega | assumption)] at eS; rw [eS]; exact fail_ok hNk hC1 (by omega) (by omega)⟩) dX5_readRide_86
        · refine a_aload_n dX5_readRide_68 rfl rfl ?_
          refine a_cI (c := 2) (as := []) (rest := []) (c_failNumber ω σ v1 N hNk q1 1 hC1) mvX5_failNumber lX5_98 k2 (by decide) rfl rfl rfl rfl (Nat.le_of_ble_eq_true rfl) (Nat.le_of_ble_eq_true rfl) (Nat.le_of_ble_eq_true rfl) dX5_readRide_69 ?_
          exact a_zret rfl (by omega) (Or.inr ⟨rfl, by have eS := (ride_nf (ω := ω) (fr := fr) (ah := ah) hfa).1; unfold rideS at eS; (try dsimp only at eS); simp only [← eq1] at eS; rw [if_neg (by first | omega | assumption), if_neg (by first | omega | assumption), if_neg (by first | omega | assumption)] at eS; rw [eS]; exact failN_ok hNk hC1 (by assumption)⟩) dX5_readRide_72
      · refine a_aload_n dX5_readRide_42 rfl rfl ?_
        refine a_iconst dX5_readRide_43 ?_
        refine a_cI (c := 2) (as := [ai 4]) (rest := []) (c_fail u 4) mvX5_fail lX5_77 k2 (by decide) rfl rfl rfl rfl (Nat.le_of_ble_eq_true rfl) (Nat.le_of_ble_eq_true rfl) (Nat.le_of_ble_eq_true rfl) dX5_readRide_44 ?_
        exact a_zret rfl (by omega) (Or.inr ⟨rfl, by have eS := (ride_nf (ω := ω) (fr := fr) (ah := ah) hfa).1; unfold rideS at eS; (try dsimp only at eS); rw [if_neg (by first | omega | assumption), if_neg (by first | omega | assumption), if_pos (by first | omega | assumption)] at eS; rw [eS]; exact fail_ok hNk hC (by omega) (by omega)⟩) dX5_readRide_47
    · refine a_aload_n dX5_readRide_28 rfl rfl ?_
      refine a_iconst dX5_readRide_29 ?_
      refine a_cI (c := 2) (as := [ai 2]) (rest := []) (c_fail u 2) mvX5_fail lX5_77 k2 (by decide) rfl rfl rfl rfl (Nat.le_of_ble_eq_true rfl) (Nat.le_of_ble_eq_true rfl) (Nat.le_of_ble_eq_true rfl) dX5_readRide_30 ?_
      exact a_zret rfl (by omega) (Or.inr ⟨rfl, by have eS := (ride_nf (ω := ω) (fr := fr) (ah := ah) hfa).1; unfold rideS at eS; (try dsimp only at eS); rw [if_neg (by first | omega | assumption), if_pos (by first | omega | assumption)] at eS; rw [eS]; exact fail_ok hNk hC (by omega) (by omega)⟩) dX5_readRide_33
  · refine a_aload_n dX5_readRide_11 rfl rfl ?_
    refine a_cI (c := 2) (as := []) (rest := []) (c_failNumber ω σ u N hNk q 1 hC) mvX5_failNumber lX5_98 k2 (by decide) rfl rfl rfl rfl (Nat.le_of_ble_eq_true rfl) (Nat.le_of_ble_eq_true rfl) (Nat.le_of_ble_eq_true rfl) dX5_readRide_12 ?_
    exact a_zret rfl (by omega) (Or.inr ⟨rfl, by have eS := (ride_nf (ω := ω) (fr := fr) (ah := ah) hfa).1; unfold rideS at eS; dsimp only at eS; rw [eS]; exact failR_ok hNk hC (by assumption)⟩) dX5_readRide_15

