/-! The class's reader: trips, lines, the text. -/
theorem addTrip_rd {ω σ u : Sto} {N : Nat} {q : RS} (hN : Nok N) (h : CRd ω σ u N q 0) (hT : q.f 2 < 20) : CRd ω σ (sN (sN (sN u (N + 5) (q.f 2) (q.f 3)) N 2 (q.f 2 + 1)) (N + 5) (q.f 2 + 1) (q.f 3)) N q 1 ∧ gN (sN (sN (sN u (N + 5) (q.f 2) (q.f 3)) N 2 (q.f 2 + 1)) (N + 5) (q.f 2 + 1) (q.f 3)) (N + 5) (q.f 2) = q.f 3 := by
  have b3 := h.1.O.f3
  refine ⟨⟨addTrip_ok hN h.1 hT, ?_, ?_⟩, ?_⟩
  · rw [gN_sN, if_neg (by omega), gN_sN, if_neg (by omega), gN_sN, if_neg (by omega)]; exact h.2.1
  · rw [gN_sN, if_neg (by omega), gN_sN, if_neg (by omega), gN_sN, if_neg (by omega), gN_sN, if_neg (by omega), gN_sN, if_neg (by omega), gN_sN, if_neg (by omega)]; exact h.2.2
  · rw [gN_sN, if_neg (by omega), gN_sN, if_neg (by omega), gN_sN, if_pos ⟨rfl, rfl⟩, nrm_of (inR_of (by omega) (by omega))]
theorem rtF_s {ω : Sto} {d : Nat} {fr ah : Int} {q : RS} : rtF ω (d + 1) fr ah q = if (rtQ3 ω fr ah q).fa = 0 then (if (rtR ω fr ah q).so = 1 then rtF ω d (rtT ω ah q) (rtM ω ah q) (rtR ω fr ah q) else (rtR ω fr ah q).wF (up1 (rtR ω fr ah q).f 2 ((rtR ω fr ah q).f 2 + 1))) else rtQ3 ω fr ah q := rfl

set_option maxRecDepth 20000 in
theorem c_rt_l (ω σ : Sto) (N : Nat) (hNk : Nok N) : ∀ (d : Nat) (ride fr ah : Int) (q : RS) (u : Sto) (F : RS), 0 ≤ ride → ride + d = 61 → CRd ω σ u N q 1 → 0 ≤ fr → fr < q.f 0 → 0 ≤ ah → ah < 1440 → q.f 2 < 20 → gN u (N + 5) (q.f 2) + ride = q.f 3 → (0 < q.f 3 → q.f (115 + 5 * (q.f 3 - 1) + 0) = q.f 2 → q.f (115 + 5 * (q.f 3 - 1) + 4) ≤ ah) → F = rtF ω d fr ah q → RunA mX5_readTrip (RdQ ω σ N F 0) 70 [(3, ai ride), (2, ai ah), (1, ai fr), (0, ar 2)] [] u := by
  intro d
  induction d with
  | zero =>
    intro ride fr ah q u F h0 hd hC hf0 hf1 ha0 ha1 hT20 hR hah hF
    exfalso
    have b3 := hC.1.O.f3
    have b2 := hC.1.O.f2
    have z := hC.1.C.2.2.2.2.2 (q.f 2) (by omega) (by omega)
    omega
  | succ d ih =>
    intro ride fr ah q u F h0 hd hC hf0 hf1 ha0 ha1 hT20 hR hah hF
    have z5 := hC.1.C.2.2.2.2.2 (q.f 2) (by have b2 := hC.1.O.f2; omega) (by omega)
    have hTq := hC.2.2
    have hOq := hC.1.O
    have hfa := hC.1.fa
    have b0 := hOq.f0
    have b1 := hOq.f1
    have b2 := hOq.f2
    have b3 := hOq.f3
    rw [rtF_s] at hF
    refine a_aload_n dX5_readTrip_70 rfl rfl ?_
    refine a_iload_n dX5_readTrip_71 rfl rfl ?_
    refine a_iload_n dX5_readTrip_72 rfl rfl ?_
    refine a_callI (c := 2) (as := [ai fr, ai ah]) (rest := []) (c_readRide ω σ u N hNk q hC fr ah hf0 hf1 ha0 ha1 hT20 hah) mvX5_readRide lX5_122 k2 (by decide) rfl rfl rfl rfl (Nat.le_of_ble_eq_true rfl) (Nat.le_of_ble_eq_true rfl) (Nat.le_of_ble_eq_true rfl) dX5_readTrip_73 (fun x v hv => ?_)
    rcases hv with ⟨hx, hz, hC1, h5, h3, hlo, hr0, hr2, hr4⟩ | ⟨hx, hF1⟩
    · cases hx
      obtain ⟨q1, eq1⟩ : ∃ z, z = rtR ω fr ah q := ⟨_, rfl⟩
      rw [← eq1] at hC1 h3 hlo hr0 hr2 hr4 hF
      rw [if_pos hz] at hF
      have hO1 := hC1.1.O
      have bq3 := hO1.f3
      have hTq1 := hC1.2.2
      have e20 := hlo 2 (by omega) (by omega)
      have e00 := hlo 0 (by omega) (by omega)
      have hrT := rtT_rng hOq hz
      have hrM : 0 ≤ rtM ω ah q ∧ rtM ω ah q ≤ 1439 := nhV_rng (by omega)
      have hi4 := hC1.1.C.2.2.2.1 (q1.f 3 - 1) (by omega) (by omega)
      refine a_if_ne (tgt := 81) dX5_readTrip_76 (by decide) (inR_of (by omega) (by omega)) (fun c76 => ?_) (fun c76 => ?_)
      · refine a_aload_n dX5_readTrip_81 rfl rfl ?_
        refine a_getR (d := N) (J := 5) fX5_28 k2 rfl q2_5 rfl hC1.1.net dX5_readTrip_82 ?_
        refine a_getF (d := (N + 8)) fX5_125 (kN hNk) rfl (rN_11 hNk) dX5_readTrip_85 ?_
        refine a_aload_n dX5_readTrip_88 rfl rfl ?_
        refine a_getR (d := N) (J := 5) fX5_28 k2 rfl q2_5 rfl hC1.1.net dX5_readTrip_89 ?_
        refine a_getI (J := 3) fX5_129 (kN hNk) rfl rfl dX5_readTrip_92 ?_
        refine a_topI (y := q1.f 3) hC1.1.C.1.2.2.2 ?_
        refine a_iconst dX5_readTrip_95 ?_
        refine a_isub dX5_readTrip_96 ?_
        refine a_ild (kN_8 hNk) (nN_8 hNk) (by omega) (by omega) dX5_readTrip_97 ?_
        refine a_topI (y := rtT ω ah q) (by rw [hi4.2.2.1, show q1.f 3 - 1 = q.f 3 by omega]; exact hr2) ?_
        refine a_istore_n (ls' := [(1, ai (rtT ω ah q)), (3, ai ride), (2, ai ah), (0, ar 2)]) dX5_readTrip_98 rfl (Nat.le_of_ble_eq_true rfl) rfl ?_
        refine a_aload_n dX5_readTrip_99 rfl rfl ?_
        refine a_getR (d := N) (J := 5) fX5_28 k2 rfl q2_5 rfl hC1.1.net dX5_readTrip_100 ?_
        refine a_getF (d := (N + 10)) fX5_132 (kN hNk) rfl (rN_13 hNk) dX5_readTrip_103 ?_
        refine a_aload_n dX5_readTrip_106 rfl rfl ?_
        refine a_getR (d := N) (J := 5) fX5_28 k2 rfl q2_5 rfl hC1.1.net dX5_readTrip_107 ?_
        refine a_getI (J := 3) fX5_129 (kN hNk) rfl rfl dX5_readTrip_110 ?_
        refine a_topI (y := q1.f 3) hC1.1.C.1.2.2.2 ?_
        refine a_iconst dX5_readTrip_113 ?_
        refine a_isub dX5_readTrip_114 ?_
        refine a_ild (kN_10 hNk) (nN_10 hNk) (by omega) (by omega) dX5_readTrip_115 ?_
        refine a_topI (y := rtM ω ah q) (by rw [hi4.2.2.2.2, show q1.f 3 - 1 = q.f 3 by omega]; exact hr4) ?_
        refine a_istore_n (ls' := [(2, ai (rtM ω ah q)), (1, ai (rtT ω ah q)), (3, ai ride), (0, ar 2)]) dX5_readTrip_116 rfl (Nat.le_of_ble_eq_true rfl) rfl ?_
        refine a_iinc (y := ride + 1) (ls' := [(3, ai (ride + 1)), (2, ai (rtM ω ah q)), (1, ai (rtT ω ah q)), (0, ar 2)]) dX5_readTrip_117 rfl rfl (Nat.le_of_ble_eq_true rfl) rfl ?_
        refine a_goto (tgt := 52) dX5_readTrip_120 (by decide) ?_
        refine a_iload_n dX5_readTrip_52 rfl rfl ?_
        refine a_if_eq (tgt := 70) dX5_readTrip_53 (by decide) (inR_of (by omega) (by omega)) (fun c53 => ?_) (fun c53 => ?_)
        · exfalso; omega
        · refine a_aload_n dX5_readTrip_56 rfl rfl ?_
          refine a_getI (J := 8) fX5_49 k2 rfl rfl dX5_readTrip_57 ?_
          refine a_topI (y := kcF q1.so) hC1.2.k ?_
          have hb122 := kc_rng q1.so
          have hb123 := @kc1 q1.so
          have hb124 := @kc2 q1.so
          have hb125 := @kc3 q1.so
          refine a_iconst dX5_readTrip_60 ?_
          refine a_icmp_ne (tgt := 123) dX5_readTrip_61 (by decide) (inR_of (by omega) (by omega)) (inR_of (by omega) (by omega)) (fun c61 => ?_) (fun c61 => ?_)
          · refine a_iconst dX5_readTrip_123 ?_
            exact a_zret rfl (by omega) (by rw [if_neg (show ¬ q1.so = 1 by omega)] at hF; rw [hF]; exact Or.inl ⟨rfl, hC1.1.fa, endTrip_ok hC1 (by omega) (by rw [e20, h5]; omega)⟩) dX5_readTrip_124
          · refine a_iload_n dX5_readTrip_64 rfl rfl ?_
            refine a_bipush (x := 60) dX5_readTrip_65 (by decide) ?_
            refine a_icmp_gt (tgt := 123) dX5_readTrip_67 (by decide) (inR_of (by omega) (by omega)) (inR_of (by omega) (by omega)) (fun c67 => ?_) (fun c67 => ?_)
            · refine a_iconst dX5_readTrip_123 ?_
              exact a_zret rfl (by omega) (by exfalso; omega) dX5_readTrip_124
            · rw [if_pos (show q1.so = 1 by omega)] at hF
              exact a_keep (by simp) (ih (ride + 1) (rtT ω ah q) (rtM ω ah q) q1 v F (by omega) (by omega) hC1 (by omega) (by omega) (by omega) (by omega) (by omega) (by rw [e20, h5]; omega) (fun _ _ => by rw [show q1.f 3 - 1 = q.f 3 by omega, hr4]; exact Int.le_refl _) hF)
      · exact absurd c76 (by decide)
    · cases hx
      refine a_if_ne (tgt := 81) dX5_readTrip_76 (by decide) (inR_of (by omega) (by omega)) (fun c76 => ?_) (fun c76 => ?_)
      · exact absurd c76 (by decide)
      · refine a_iconst dX5_readTrip_79 ?_
        exact a_zret rfl (by omega) (by rw [hF]; rw [if_neg hF1.2.2.2.1]; exact Or.inr ⟨rfl, hF1⟩) dX5_readTrip_80

set_option maxRecDepth 20000 in
theorem c_readTrip (ω σ u : Sto) (N : Nat) (hNk : Nok N) (q : RS) (hC : CRd ω σ u N q 0) : MetA mX5_readTrip [ar 2] u (RdQ ω σ N (rdTrip ω q) 0) := by
  have hTq := hC.2.2
  have hOq := hC.1.O
  have hfa := hC.1.fa
  have b0 := hOq.f0
  have b1 := hOq.f1
  have b2 := hOq.f2
  have b3 := hOq.f3
  refine a_entry (by decide) (Nat.le_of_ble_eq_true rfl) ?_
  refine a_ls (ls' := [(0, ar 2)]) rfl ?_
  refine a_aload_n dX5_readTrip_0 rfl rfl ?_
  refine a_getR (d := N) (J := 5) fX5_28 k2 rfl q2_5 rfl hC.1.net dX5_readTrip_1 ?_
  refine a_getI (J := 2) fX5_116 (kN hNk) rfl rfl dX5_readTrip_4 ?_
  refine a_topI (y := q.f 2 + 0) hC.1.C.1.2.2.1 ?_
  refine a_bipush (x := 20) dX5_readTrip_7 (by decide) ?_
  refine a_icmp_lt (tgt := 18) dX5_readTrip_9 (by decide) (inR_of (by omega) (by omega)) (inR_of (by omega) (by omega)) (fun c9 => ?_) (fun c9 => ?_)
  · refine a_aload_n dX5_readTrip_18 rfl rfl ?_
    refine a_callV (c := 2) (as := []) (rest := []) (c_advance u (fun j => gN ω 154 j) (gN ω 153 6) (hC.1).I q.at_ (hC.1).at_ (hC.1).O.a.1 (hC.1).O.a.2) mvX5_advance lX5_46 k2 (by decide) rfl rfl rfl rfl (Nat.le_of_ble_eq_true rfl) (Nat.le_of_ble_eq_true rfl) (Nat.le_of_ble_eq_true rfl) dX5_readTrip_19 (fun v1 hv => ?_)
    obtain ⟨-, hPq1⟩ := hv
    have hC1 := adv_ok hNk (hC.1) hPq1
    obtain ⟨q1, eq1⟩ : ∃ z, z = tkS ω q := ⟨_, rfl⟩
    rw [← eq1] at hC1
    have hfq1 : q1.f = q.f := by rw [eq1]; rfl
    have hTq1 := hC1.2.2
    have hOq1 := hC1.1.O
    have hfq1_0 : q1.f 0 = q.f 0 := by rw [hfq1]
    have hfq1_1 : q1.f 1 = q.f 1 := by rw [hfq1]
    have hfq1_2 : q1.f 2 = q.f 2 := by rw [hfq1]
    have hfq1_3 : q1.f 3 = q.f 3 := by rw [hfq1]
    refine a_aload_n dX5_readTrip_22 rfl rfl ?_
    refine a_cI (c := 2) (as := []) (rest := []) (c_stopHere ω σ v1 N hNk q1 0 hC1) mvX5_stopHere lX5_108 k2 (by decide) rfl rfl rfl rfl (Nat.le_of_ble_eq_true rfl) (Nat.le_of_ble_eq_true rfl) (Nat.le_of_ble_eq_true rfl) dX5_readTrip_23 ?_
    obtain ⟨nh135, enh135⟩ : ∃ z, z = (if othF q1 then nmdF q1 else -1) := ⟨_, rfl⟩
    refine a_topI (y := nh135) enh135.symm ?_
    have hnrnh135 := nmd_rng (hO := hC1.1.O)
    have hnsnh135 := noS_rel hC1.1.O
    rw [← enh135] at hnsnh135
    refine a_istore_n (ls' := [(1, ai nh135), (0, ar 2)]) dX5_readTrip_26 rfl (Nat.le_of_ble_eq_true rfl) rfl ?_
    refine a_iload_n dX5_readTrip_27 rfl rfl ?_
    refine a_if_ge (tgt := 37) dX5_readTrip_28 (by decide) (inR_of (by omega) (by omega)) (fun c28 => ?_) (fun c28 => ?_)
    · refine a_aload_n dX5_readTrip_37 rfl rfl ?_
      refine a_callV (c := 2) (as := []) (rest := []) (c_advance v1 (fun j => gN ω 154 j) (gN ω 153 6) (hC1.1).I q1.at_ (hC1.1).at_ (hC1.1).O.a.1 (hC1.1).O.a.2) mvX5_advance lX5_46 k2 (by decide) rfl rfl rfl rfl (Nat.le_of_ble_eq_true rfl) (Nat.le_of_ble_eq_true rfl) (Nat.le_of_ble_eq_true rfl) dX5_readTrip_38 (fun v2 hv => ?_)
      obtain ⟨-, hPq2⟩ := hv
      have hC2 := adv_ok hNk (hC1.1) hPq2
      obtain ⟨q2, eq2⟩ : ∃ z, z = tkS ω q1 := ⟨_, rfl⟩
      rw [← eq2] at hC2
      have hfq2 : q2.f = q1.f := by rw [eq2]; rfl
      have hTq2 := hC2.2.2
      have hOq2 := hC2.1.O
      have hfq2_0 : q2.f 0 = q1.f 0 := by rw [hfq2]
      have hfq2_1 : q2.f 1 = q1.f 1 := by rw [hfq2]
      have hfq2_2 : q2.f 2 = q1.f 2 := by rw [hfq2]
      have hfq2_3 : q2.f 3 = q1.f 3 := by rw [hfq2]
      refine a_aload_n dX5_readTrip_41 rfl rfl ?_
      refine a_getR (d := N) (J := 5) fX5_28 k2 rfl q2_5 rfl hC2.1.net dX5_readTrip_42 ?_
      refine a_cV (c := N) (as := []) (rest := []) (c_addTrip v2 N hNk (q2.f 2) (q2.f 3) (by rw [hC2.1.C.1.2.2.1]; omega) (by omega) (by omega) hC2.1.C.1.2.2.2) mvX2_addTrip lX5_119 (kN hNk) (by decide) rfl rfl rfl rfl (Nat.le_of_ble_eq_true rfl) (Nat.le_of_ble_eq_true rfl) (Nat.le_of_ble_eq_true rfl) dX5_readTrip_45 ?_
      have hZZ := addTrip_rd hNk hC2 (by omega)
      generalize (sN (sN (sN v2 (N + 5) (q2.f 2) (q2.f 3)) N 2 (q2.f 2 + 1)) (N + 5) (q2.f 2 + 1) (q2.f 3)) = zz at hZZ ⊢
      obtain ⟨hZ, hZ5⟩ := hZZ
      refine a_iconst dX5_readTrip_48 ?_
      refine a_istore_n (ls' := [(2, ai 0), (1, ai nh135), (0, ar 2)]) dX5_readTrip_49 rfl (Nat.le_of_ble_eq_true rfl) rfl ?_
      refine a_iconst dX5_readTrip_50 ?_
      refine a_istore_n (ls' := [(3, ai 0), (2, ai 0), (1, ai nh135), (0, ar 2)]) dX5_readTrip_51 rfl (Nat.le_of_ble_eq_true rfl) rfl ?_
      refine a_iload_n dX5_readTrip_52 rfl rfl ?_
      refine a_if_eq (tgt := 70) dX5_readTrip_53 (by decide) (inR_of (by omega) (by omega)) (fun _ => ?_) (fun z => absurd rfl z)
      have eS := rdTrip_nf (ω := ω) hfa
      unfold tripS at eS
      simp only [← eq1, ← eq2] at eS
      rw [if_neg (by first | omega | assumption), if_neg (by omega)] at eS
      rw [eS]
      have hd := hC2.1.Q.2.1.1 (q2.f 3 - 1)
      exact a_keep (by simp) (c_rt_l ω σ N hNk 61 0 nh135 0 q2 zz _ (by omega) (by omega) hZ (by omega) (by omega) (by omega) (by omega) (by omega) (by omega) (fun y z => by have y2 := hd (by omega) (by omega); omega) (by rw [show nh135 = nmdF q1 by omega]))
    · refine a_aload_n dX5_readTrip_31 rfl rfl ?_
      refine a_iconst dX5_readTrip_32 ?_
      refine a_cI (c := 2) (as := [ai 1]) (rest := []) (c_fail v1 1) mvX5_fail lX5_77 k2 (by decide) rfl rfl rfl rfl (Nat.le_of_ble_eq_true rfl) (Nat.le_of_ble_eq_true rfl) (Nat.le_of_ble_eq_true rfl) dX5_readTrip_33 ?_
      exact a_zret rfl (by omega) (Or.inr ⟨rfl, by have eS := rdTrip_nf (ω := ω) hfa; unfold tripS at eS; (try dsimp only at eS); simp only [← eq1] at eS; rw [if_neg (by first | omega | assumption), if_pos (by first | omega | assumption)] at eS; rw [eS]; exact fail_ok hNk hC1 (by omega) (by omega)⟩) dX5_readTrip_36
  · refine a_aload_n dX5_readTrip_12 rfl rfl ?_
    refine a_iconst dX5_readTrip_13 ?_
    refine a_cI (c := 2) (as := [ai 2]) (rest := []) (c_fail u 2) mvX5_fail lX5_77 k2 (by decide) rfl rfl rfl rfl (Nat.le_of_ble_eq_true rfl) (Nat.le_of_ble_eq_true rfl) (Nat.le_of_ble_eq_true rfl) dX5_readTrip_14 ?_
    exact a_zret rfl (by omega) (Or.inr ⟨rfl, by have eS := rdTrip_nf (ω := ω) hfa; unfold tripS at eS; (try dsimp only at eS); rw [if_pos (by first | omega | assumption)] at eS; rw [eS]; exact fail_ok hNk hC (by omega) (by omega)⟩) dX5_readTrip_17

def endS (ω : Sto) (q : RS) : RS := if q.so ≠ 2 then q.wX 1 q.pl else tkS ω q

set_option maxRecDepth 20000 in
theorem c_readEnd (ω σ u : Sto) (N : Nat) (hNk : Nok N) (q : RS) (hC : CRd ω σ u N q 0) : MetA mX5_readEnd [ar 2] u (RdQ ω σ N (endS ω q) 0) := by
  have hTq := hC.2.2
  have hOq := hC.1.O
  have hfa := hC.1.fa
  have b0 := hOq.f0
  have b1 := hOq.f1
  have b2 := hOq.f2
  have b3 := hOq.f3
  refine a_entry (by decide) (Nat.le_of_ble_eq_true rfl) ?_
  refine a_ls (ls' := [(0, ar 2)]) rfl ?_
  refine a_aload_n dX5_readEnd_0 rfl rfl ?_
  refine a_getI (J := 8) fX5_49 k2 rfl rfl dX5_readEnd_1 ?_
  refine a_topI (y := kcF q.so) hC.2.k ?_
  have hb126 := kc_rng q.so
  have hb127 := @kc1 q.so
  have hb128 := @kc2 q.so
  have hb129 := @kc3 q.so
  refine a_iconst dX5_readEnd_4 ?_
  refine a_icmp_eq (tgt := 14) dX5_readEnd_5 (by decide) (inR_of (by omega) (by omega)) (inR_of (by omega) (by omega)) (fun c5 => ?_) (fun c5 => ?_)
  · refine a_aload_n dX5_readEnd_14 rfl rfl ?_
    refine a_callV (c := 2) (as := []) (rest := []) (c_advance u (fun j => gN ω 154 j) (gN ω 153 6) (hC.1).I q.at_ (hC.1).at_ (hC.1).O.a.1 (hC.1).O.a.2) mvX5_advance lX5_46 k2 (by decide) rfl rfl rfl rfl (Nat.le_of_ble_eq_true rfl) (Nat.le_of_ble_eq_true rfl) (Nat.le_of_ble_eq_true rfl) dX5_readEnd_15 (fun v1 hv => ?_)
    obtain ⟨-, hPq1⟩ := hv
    have hC1 := adv_ok hNk (hC.1) hPq1
    obtain ⟨q1, eq1⟩ : ∃ z, z = tkS ω q := ⟨_, rfl⟩
    rw [← eq1] at hC1
    have hfq1 : q1.f = q.f := by rw [eq1]; rfl
    have hTq1 := hC1.2.2
    have hOq1 := hC1.1.O
    have hfq1_0 : q1.f 0 = q.f 0 := by rw [hfq1]
    have hfq1_1 : q1.f 1 = q.f 1 := by rw [hfq1]
    have hfq1_2 : q1.f 2 = q.f 2 := by rw [hfq1]
    have hfq1_3 : q1.f 3 = q.f 3 := by rw [hfq1]
    refine a_iconst dX5_readEnd_18 ?_
    exact a_zret rfl (by omega) (by have eS : endS ω q = q1 := (by unfold endS; rw [if_neg (by omega)]; exact eq1.symm); rw [eS]; exact Or.inl ⟨rfl, hC1.1.fa, hC1⟩) dX5_readEnd_19
  · refine a_aload_n dX5_readEnd_8 rfl rfl ?_
    refine a_iconst dX5_readEnd_9 ?_
    refine a_cI (c := 2) (as := [ai 1]) (rest := []) (c_fail u 1) mvX5_fail lX5_77 k2 (by decide) rfl rfl rfl rfl (Nat.le_of_ble_eq_true rfl) (Nat.le_of_ble_eq_true rfl) (Nat.le_of_ble_eq_true rfl) dX5_readEnd_10 ?_
    exact a_zret rfl (by omega) (Or.inr ⟨rfl, by unfold endS; rw [if_pos (by omega)]; exact fail_ok hNk hC (by omega) (by omega)⟩) dX5_readEnd_13

set_option maxRecDepth 20000 in
theorem c_readLine (ω σ u : Sto) (N : Nat) (hNk : Nok N) (q : RS) (hC : CRd ω σ u N q 0) : MetA mX5_readLine [ar 2] u (RdQ ω σ N (lineS ω q) 0) := by
  have hTq := hC.2.2
  have hOq := hC.1.O
  have hfa := hC.1.fa
  have b0 := hOq.f0
  have b1 := hOq.f1
  have b2 := hOq.f2
  have b3 := hOq.f3
  have hT3 := hTq.2.2.1
  refine a_entry (by decide) (Nat.le_of_ble_eq_true rfl) ?_
  refine a_ls (ls' := [(0, ar 2)]) rfl ?_
  refine a_aload_n dX5_readLine_0 rfl rfl ?_
  refine a_getI (J := 8) fX5_49 k2 rfl rfl dX5_readLine_1 ?_
  refine a_topI (y := kcF q.so) hC.2.k ?_
  have hb130 := kc_rng q.so
  have hb131 := @kc1 q.so
  have hb132 := @kc2 q.so
  have hb133 := @kc3 q.so
  refine a_iconst dX5_readLine_4 ?_
  refine a_icmp_ne (tgt := 25) dX5_readLine_5 (by decide) (inR_of (by omega) (by omega)) (inR_of (by omega) (by omega)) (fun c5 => ?_) (fun c5 => ?_)
  · refine a_aload_n dX5_readLine_25 rfl rfl ?_
    refine a_getI (J := 8) fX5_49 k2 rfl rfl dX5_readLine_26 ?_
    refine a_topI (y := kcF q.so) hC.2.k ?_
    refine a_iconst dX5_readLine_29 ?_
    refine a_icmp_ne (tgt := 50) dX5_readLine_30 (by decide) (inR_of (by omega) (by omega)) (inR_of (by omega) (by omega)) (fun c30 => ?_) (fun c30 => ?_)
    · refine a_aload_n dX5_readLine_50 rfl rfl ?_
      refine a_getI (J := 8) fX5_49 k2 rfl rfl dX5_readLine_51 ?_
      refine a_topI (y := kcF q.so) hC.2.k ?_
      refine a_iconst dX5_readLine_54 ?_
      refine a_icmp_ne (tgt := 75) dX5_readLine_55 (by decide) (inR_of (by omega) (by omega)) (inR_of (by omega) (by omega)) (fun c55 => ?_) (fun c55 => ?_)
      · refine a_aload_n dX5_readLine_75 rfl rfl ?_
        refine a_iconst dX5_readLine_76 ?_
        refine a_cI (c := 2) (as := [ai 1]) (rest := []) (c_fail u 1) mvX5_fail lX5_77 k2 (by decide) rfl rfl rfl rfl (Nat.le_of_ble_eq_true rfl) (Nat.le_of_ble_eq_true rfl) (Nat.le_of_ble_eq_true rfl) dX5_readLine_77 ?_
        refine a_istore_n (ls' := [(1, ai 0), (0, ar 2)]) dX5_readLine_80 rfl (Nat.le_of_ble_eq_true rfl) rfl ?_
        refine a_iload_n dX5_readLine_81 rfl rfl ?_
        refine a_if_eq (tgt := 96) dX5_readLine_82 (by decide) (inR_of (by omega) (by omega)) (fun c82 => ?_) (fun c82 => ?_)
        · refine a_iconst dX5_readLine_96 ?_
          exact a_zret rfl (by omega) (by have eL : rl1 ω q = q.wX 1 q.pl := (by unfold rl1; rw [if_neg (by omega), if_neg (by omega), if_neg (by omega), wrong0 hfa]); have eM : lineS ω q = q.wX 1 q.pl := (by unfold lineS; rw [eL, if_pos (wX_ne (by decide))]); rw [eM]; exact Or.inr ⟨rfl, fail_ok hNk hC (by omega) (by omega)⟩) dX5_readLine_97
        · exact absurd c82 (by decide)
      · refine a_aload_n dX5_readLine_58 rfl rfl ?_
        refine a_getI (J := 9) fX5_62 k2 rfl rfl dX5_readLine_59 ?_
        refine a_ldc (x := 407041) cX5_73 (by decide) dX5_readLine_62 ?_
        refine a_icmp_ne (tgt := 75) dX5_readLine_64 (by decide) (inR_gN _ _ _) (inR_of (by omega) (by omega)) (fun c64 => ?_) (fun c64 => ?_)
        · refine a_aload_n dX5_readLine_75 rfl rfl ?_
          refine a_iconst dX5_readLine_76 ?_
          refine a_cI (c := 2) (as := [ai 1]) (rest := []) (c_fail u 1) mvX5_fail lX5_77 k2 (by decide) rfl rfl rfl rfl (Nat.le_of_ble_eq_true rfl) (Nat.le_of_ble_eq_true rfl) (Nat.le_of_ble_eq_true rfl) dX5_readLine_77 ?_
          refine a_istore_n (ls' := [(1, ai 0), (0, ar 2)]) dX5_readLine_80 rfl (Nat.le_of_ble_eq_true rfl) rfl ?_
          refine a_iload_n dX5_readLine_81 rfl rfl ?_
          refine a_if_eq (tgt := 96) dX5_readLine_82 (by decide) (inR_of (by omega) (by omega)) (fun c82 => ?_) (fun c82 => ?_)
          · refine a_iconst dX5_readLine_96 ?_
            exact a_zret rfl (by omega) (by have eL : rl1 ω q = q.wX 1 q.pl := (by unfold rl1; rw [if_neg (by omega), if_neg (by omega), if_neg (by omega), wrong0 hfa]); have eM : lineS ω q = q.wX 1 q.pl := (by unfold lineS; rw [eL, if_pos (wX_ne (by decide))]); rw [eM]; exact Or.inr ⟨rfl, fail_ok hNk hC (by omega) (by omega)⟩) dX5_readLine_97
          · exact absurd c82 (by decide)
        · refine a_aload_n dX5_readLine_67 rfl rfl ?_
          refine a_callI (c := 2) (as := []) (rest := []) (c_readTrip ω σ u N hNk q hC) mvX5_readTrip lX5_74 k2 (by decide) rfl rfl rfl rfl (Nat.le_of_ble_eq_true rfl) (Nat.le_of_ble_eq_true rfl) (Nat.le_of_ble_eq_true rfl) dX5_readLine_68 (fun x v hv => ?_)
          have eL : rl1 ω q = rdTrip ω q := by unfold rl1; rw [if_neg (by omega), if_neg (by omega), if_pos (by omega)]
          rw [← eL] at hv
          rcases hv with ⟨hx, hz, hC1⟩ | ⟨hx, hF1⟩
          · cases hx
            obtain ⟨q1, eq1⟩ : ∃ z, z = rl1 ω q := ⟨_, rfl⟩
            rw [← eq1] at hC1 hz
            refine a_istore_n (ls' := [(1, ai 1), (0, ar 2)]) dX5_readLine_71 rfl (Nat.le_of_ble_eq_true rfl) rfl ?_
            refine a_goto (tgt := 81) dX5_readLine_72 (by decide) ?_
            refine a_iload_n dX5_readLine_81 rfl rfl ?_
            refine a_if_eq (tgt := 96) dX5_readLine_82 (by decide) (inR_of (by omega) (by omega)) (fun c82 => ?_) (fun c82 => ?_)
            · exact absurd c82 (by decide)
            · refine a_aload_n dX5_readLine_85 rfl rfl ?_
              refine a_callI (c := 2) (as := []) (rest := []) (c_readEnd ω σ v N hNk q1 hC1) mvX5_readEnd lX5_81 k2 (by decide) rfl rfl rfl rfl (Nat.le_of_ble_eq_true rfl) (Nat.le_of_ble_eq_true rfl) (Nat.le_of_ble_eq_true rfl) dX5_readLine_86 (fun x w hw => ?_)
              have eM : lineS ω q = endS ω q1 := by unfold lineS endS; rw [← eq1, if_neg (by omega)]
              rcases hw with ⟨hx, hz2, hC2⟩ | ⟨hx, hF2⟩
              · cases hx
                refine a_if_eq (tgt := 96) dX5_readLine_89 (by decide) (inR_of (by omega) (by omega)) (fun c89 => ?_) (fun c89 => ?_)
                · exact absurd c89 (by decide)
                · refine a_iconst dX5_readLine_92 ?_
                  refine a_goto (tgt := 97) dX5_readLine_93 (by decide) ?_
                  exact a_zret rfl (by omega) (by rw [eM]; exact Or.inl ⟨rfl, hz2, hC2⟩) dX5_readLine_97
              · cases hx
                refine a_if_eq (tgt := 96) dX5_readLine_89 (by decide) (inR_of (by omega) (by omega)) (fun c89 => ?_) (fun c89 => ?_)
                · refine a_iconst dX5_readLine_96 ?_
                  exact a_zret rfl (by omega) (by rw [eM]; exact Or.inr ⟨rfl, hF2⟩) dX5_readLine_97
                · exact absurd c89 (by decide)
          · cases hx
            refine a_istore_n (ls' := [(1, ai 0), (0, ar 2)]) dX5_readLine_71 rfl (Nat.le_of_ble_eq_true rfl) rfl ?_
            refine a_goto (tgt := 81) dX5_readLine_72 (by decide) ?_
            refine a_iload_n dX5_readLine_81 rfl rfl ?_
            refine a_if_eq (tgt := 96) dX5_readLine_82 (by decide) (inR_of (by omega) (by omega)) (fun c82 => ?_) (fun c82 => ?_)
            · refine a_iconst dX5_readLine_96 ?_
              exact a_zret rfl (by omega) (by have eM : lineS ω q = rl1 ω q := (by unfold lineS; rw [if_pos hF1.2.2.2.1]); rw [eM]; exact Or.inr ⟨rfl, hF1⟩) dX5_readLine_97
            · exact absurd c82 (by decide)
    · refine a_aload_n dX5_readLine_33 rfl rfl ?_
      refine a_getI (J := 9) fX5_62 k2 rfl rfl dX5_readLine_34 ?_
      refine a_ldc (x := 453773) cX5_69 (by decide) dX5_readLine_37 ?_
      refine a_icmp_ne (tgt := 50) dX5_readLine_39 (by decide) (inR_gN _ _ _) (inR_of (by omega) (by omega)) (fun c39 => ?_) (fun c39 => ?_)
      · refine a_aload_n dX5_readLine_50 rfl rfl ?_
        refine a_getI (J := 8) fX5_49 k2 rfl rfl dX5_readLine_51 ?_
        refine a_topI (y := kcF q.so) hC.2.k ?_
        refine a_iconst dX5_readLine_54 ?_
        refine a_icmp_ne (tgt := 75) dX5_readLine_55 (by decide) (inR_of (by omega) (by omega)) (inR_of (by omega) (by omega)) (fun c55 => ?_) (fun c55 => ?_)
        · refine a_aload_n dX5_readLine_75 rfl rfl ?_
          refine a_iconst dX5_readLine_76 ?_
          refine a_cI (c := 2) (as := [ai 1]) (rest := []) (c_fail u 1) mvX5_fail lX5_77 k2 (by decide) rfl rfl rfl rfl (Nat.le_of_ble_eq_true rfl) (Nat.le_of_ble_eq_true rfl) (Nat.le_of_ble_eq_true rfl) dX5_readLine_77 ?_
          refine a_istore_n (ls' := [(1, ai 0), (0, ar 2)]) dX5_readLine_80 rfl (Nat.le_of_ble_eq_true rfl) rfl ?_
          refine a_iload_n dX5_readLine_81 rfl rfl ?_
          refine a_if_eq (tgt := 96) dX5_readLine_82 (by decide) (inR_of (by omega) (by omega)) (fun c82 => ?_) (fun c82 => ?_)
          · refine a_iconst dX5_readLine_96 ?_
            exact a_zret rfl (by omega) (by have eL : rl1 ω q = q.wX 1 q.pl := (by unfold rl1; rw [if_neg (by omega), if_neg (by omega), if_neg (by omega), wrong0 hfa]); have eM : lineS ω q = q.wX 1 q.pl := (by unfold lineS; rw [eL, if_pos (wX_ne (by decide))]); rw [eM]; exact Or.inr ⟨rfl, fail_ok hNk hC (by omega) (by omega)⟩) dX5_readLine_97
          · exact absurd c82 (by decide)
        · refine a_aload_n dX5_readLine_58 rfl rfl ?_
          refine a_getI (J := 9) fX5_62 k2 rfl rfl dX5_readLine_59 ?_
          refine a_ldc (x := 407041) cX5_73 (by decide) dX5_readLine_62 ?_
          refine a_icmp_ne (tgt := 75) dX5_readLine_64 (by decide) (inR_gN _ _ _) (inR_of (by omega) (by omega)) (fun c64 => ?_) (fun c64 => ?_)
          · refine a_aload_n dX5_readLine_75 rfl rfl ?_
            refine a_iconst dX5_readLine_76 ?_
            refine a_cI (c := 2) (as := [ai 1]) (rest := []) (c_fail u 1) mvX5_fail lX5_77 k2 (by decide) rfl rfl rfl rfl (Nat.le_of_ble_eq_true rfl) (Nat.le_of_ble_eq_true rfl) (Nat.le_of_ble_eq_true rfl) dX5_readLine_77 ?_
            refine a_istore_n (ls' := [(1, ai 0), (0, ar 2)]) dX5_readLine_80 rfl (Nat.le_of_ble_eq_true rfl) rfl ?_
            refine a_iload_n dX5_readLine_81 rfl rfl ?_
            refine a_if_eq (tgt := 96) dX5_readLine_82 (by decide) (inR_of (by omega) (by omega)) (fun c82 => ?_) (fun c82 => ?_)
            · refine a_iconst dX5_readLine_96 ?_
              exact a_zret rfl (by omega) (by have eL : rl1 ω q = q.wX 1 q.pl := (by unfold rl1; rw [if_neg (by omega), if_neg (by omega), if_neg (by omega), wrong0 hfa]); have eM : lineS ω q = q.wX 1 q.pl := (by unfold lineS; rw [eL, if_pos (wX_ne (by decide))]); rw [eM]; exact Or.inr ⟨rfl, fail_ok hNk hC (by omega) (by omega)⟩) dX5_readLine_97
            · exact absurd c82 (by decide)
          · refine a_aload_n dX5_readLine_67 rfl rfl ?_
            refine a_callI (c := 2) (as := []) (rest := []) (c_readTrip ω σ u N hNk q hC) mvX5_readTrip lX5_74 k2 (by decide) rfl rfl rfl rfl (Nat.le_of_ble_eq_true rfl) (Nat.le_of_ble_eq_true rfl) (Nat.le_of_ble_eq_true rfl) dX5_readLine_68 (fun x v hv => ?_)
            have eL : rl1 ω q = rdTrip ω q := by unfold rl1; rw [if_neg (by omega), if_neg (by omega), if_pos (by omega)]
            rw [← eL] at hv
            rcases hv with ⟨hx, hz, hC1⟩ | ⟨hx, hF1⟩
            · cases hx
              obtain ⟨q1, eq1⟩ : ∃ z, z = rl1 ω q := ⟨_, rfl⟩
              rw [← eq1] at hC1 hz
              refine a_istore_n (ls' := [(1, ai 1), (0, ar 2)]) dX5_readLine_71 rfl (Nat.le_of_ble_eq_true rfl) rfl ?_
              refine a_goto (tgt := 81) dX5_readLine_72 (by decide) ?_
              refine a_iload_n dX5_readLine_81 rfl rfl ?_
              refine a_if_eq (tgt := 96) dX5_readLine_82 (by decide) (inR_of (by omega) (by omega)) (fun c82 => ?_) (fun c82 => ?_)
              · exact absurd c82 (by decide)
              · refine a_aload_n dX5_readLine_85 rfl rfl ?_
                refine a_callI (c := 2) (as := []) (rest := []) (c_readEnd ω σ v N hNk q1 hC1) mvX5_readEnd lX5_81 k2 (by decide) rfl rfl rfl rfl (Nat.le_of_ble_eq_true rfl) (Nat.le_of_ble_eq_true rfl) (Nat.le_of_ble_eq_true rfl) dX5_readLine_86 (fun x w hw => ?_)
                have eM : lineS ω q = endS ω q1 := by unfold lineS endS; rw [← eq1, if_neg (by omega)]
                rcases hw with ⟨hx, hz2, hC2⟩ | ⟨hx, hF2⟩
                · cases hx
                  refine a_if_eq (tgt := 96) dX5_readLine_89 (by decide) (inR_of (by omega) (by omega)) (fun c89 => ?_) (fun c89 => ?_)
                  · exact absurd c89 (by decide)
                  · refine a_iconst dX5_readLine_92 ?_
                    refine a_goto (tgt := 97) dX5_readLine_93 (by decide) ?_
                    exact a_zret rfl (by omega) (by rw [eM]; exact Or.inl ⟨rfl, hz2, hC2⟩) dX5_readLine_97
                · cases hx
                  refine a_if_eq (tgt := 96) dX5_readLine_89 (by decide) (inR_of (by omega) (by omega)) (fun c89 => ?_) (fun c89 => ?_)
                  · refine a_iconst dX5_readLine_96 ?_
                    exact a_zret rfl (by omega) (by rw [eM]; exact Or.inr ⟨rfl, hF2⟩) dX5_readLine_97
                  · exact absurd c89 (by decide)
            · cases hx
              refine a_istore_n (ls' := [(1, ai 0), (0, ar 2)]) dX5_readLine_71 rfl (Nat.le_of_ble_eq_true rfl) rfl ?_
              refine a_goto (tgt := 81) dX5_readLine_72 (by decide) ?_
              refine a_iload_n dX5_readLine_81 rfl rfl ?_
              refine a_if_eq (tgt := 96) dX5_readLine_82 (by decide) (inR_of (by omega) (by omega)) (fun c82 => ?_) (fun c82 => ?_)
              · refine a_iconst dX5_readLine_96 ?_
                exact a_zret rfl (by omega) (by have eM : lineS ω q = rl1 ω q := (by unfold lineS; rw [if_pos hF1.2.2.2.1]); rw [eM]; exact Or.inr ⟨rfl, hF1⟩) dX5_readLine_97
              · exact absurd c82 (by decide)
      · refine a_aload_n dX5_readLine_42 rfl rfl ?_
        refine a_callI (c := 2) (as := []) (rest := []) (c_readWalk ω σ u N hNk q hC) mvX5_readWalk lX5_70 k2 (by decide) rfl rfl rfl rfl (Nat.le_of_ble_eq_true rfl) (Nat.le_of_ble_eq_true rfl) (Nat.le_of_ble_eq_true rfl) dX5_readLine_43 (fun x v hv => ?_)
        have eL : rl1 ω q = rdWalk ω q := by unfold rl1; rw [if_neg (by omega), if_pos (by omega)]
        rw [← eL] at hv
        rcases hv with ⟨hx, hz, hC1⟩ | ⟨hx, hF1⟩
        · cases hx
          obtain ⟨q1, eq1⟩ : ∃ z, z = rl1 ω q := ⟨_, rfl⟩
          rw [← eq1] at hC1 hz
          refine a_istore_n (ls' := [(1, ai 1), (0, ar 2)]) dX5_readLine_46 rfl (Nat.le_of_ble_eq_true rfl) rfl ?_
          refine a_goto (tgt := 81) dX5_readLine_47 (by decide) ?_
          refine a_iload_n dX5_readLine_81 rfl rfl ?_
          refine a_if_eq (tgt := 96) dX5_readLine_82 (by decide) (inR_of (by omega) (by omega)) (fun c82 => ?_) (fun c82 => ?_)
          · exact absurd c82 (by decide)
          · refine a_aload_n dX5_readLine_85 rfl rfl ?_
            refine a_callI (c := 2) (as := []) (rest := []) (c_readEnd ω σ v N hNk q1 hC1) mvX5_readEnd lX5_81 k2 (by decide) rfl rfl rfl rfl (Nat.le_of_ble_eq_true rfl) (Nat.le_of_ble_eq_true rfl) (Nat.le_of_ble_eq_true rfl) dX5_readLine_86 (fun x w hw => ?_)
            have eM : lineS ω q = endS ω q1 := by unfold lineS endS; rw [← eq1, if_neg (by omega)]
            rcases hw with ⟨hx, hz2, hC2⟩ | ⟨hx, hF2⟩
            · cases hx
              refine a_if_eq (tgt := 96) dX5_readLine_89 (by decide) (inR_of (by omega) (by omega)) (fun c89 => ?_) (fun c89 => ?_)
              · exact absurd c89 (by decide)
              · refine a_iconst dX5_readLine_92 ?_
                refine a_goto (tgt := 97) dX5_readLine_93 (by decide) ?_
                exact a_zret rfl (by omega) (by rw [eM]; exact Or.inl ⟨rfl, hz2, hC2⟩) dX5_readLine_97
            · cases hx
              refine a_if_eq (tgt := 96) dX5_readLine_89 (by decide) (inR_of (by omega) (by omega)) (fun c89 => ?_) (fun c89 => ?_)
              · refine a_iconst dX5_readLine_96 ?_
                exact a_zret rfl (by omega) (by rw [eM]; exact Or.inr ⟨rfl, hF2⟩) dX5_readLine_97
              · exact absurd c89 (by decide)
        · cases hx
          refine a_istore_n (ls' := [(1, ai 0), (0, ar 2)]) dX5_readLine_46 rfl (Nat.le_of_ble_eq_true rfl) rfl ?_
          refine a_goto (tgt := 81) dX5_readLine_47 (by decide) ?_
          refine a_iload_n dX5_readLine_81 rfl rfl ?_
          refine a_if_eq (tgt := 96) dX5_readLine_82 (by decide) (inR_of (by omega) (by omega)) (fun c82 => ?_) (fun c82 => ?_)
          · refine a_iconst dX5_readLine_96 ?_
            exact a_zret rfl (by omega) (by have eM : lineS ω q = rl1 ω q := (by unfold lineS; rw [if_pos hF1.2.2.2.1]); rw [eM]; exact Or.inr ⟨rfl, hF1⟩) dX5_readLine_97
          · exact absurd c82 (by decide)
  · refine a_aload_n dX5_readLine_8 rfl rfl ?_
    refine a_getI (J := 9) fX5_62 k2 rfl rfl dX5_readLine_9 ?_
    refine a_ldc (x := 388978) cX5_65 (by decide) dX5_readLine_12 ?_
    refine a_icmp_ne (tgt := 25) dX5_readLine_14 (by decide) (inR_gN _ _ _) (inR_of (by omega) (by omega)) (fun c14 => ?_) (fun c14 => ?_)
    · refine a_aload_n dX5_readLine_25 rfl rfl ?_
      refine a_getI (J := 8) fX5_49 k2 rfl rfl dX5_readLine_26 ?_
      refine a_topI (y := kcF q.so) hC.2.k ?_
      refine a_iconst dX5_readLine_29 ?_
      refine a_icmp_ne (tgt := 50) dX5_readLine_30 (by decide) (inR_of (by omega) (by omega)) (inR_of (by omega) (by omega)) (fun c30 => ?_) (fun c30 => ?_)
      · refine a_aload_n dX5_readLine_50 rfl rfl ?_
        refine a_getI (J := 8) fX5_49 k2 rfl rfl dX5_readLine_51 ?_
        refine a_topI (y := kcF q.so) hC.2.k ?_
        refine a_iconst dX5_readLine_54 ?_
        refine a_icmp_ne (tgt := 75) dX5_readLine_55 (by decide) (inR_of (by omega) (by omega)) (inR_of (by omega) (by omega)) (fun c55 => ?_) (fun c55 => ?_)
        · refine a_aload_n dX5_readLine_75 rfl rfl ?_
          refine a_iconst dX5_readLine_76 ?_
          refine a_cI (c := 2) (as := [ai 1]) (rest := []) (c_fail u 1) mvX5_fail lX5_77 k2 (by decide) rfl rfl rfl rfl (Nat.le_of_ble_eq_true rfl) (Nat.le_of_ble_eq_true rfl) (Nat.le_of_ble_eq_true rfl) dX5_readLine_77 ?_
          refine a_istore_n (ls' := [(1, ai 0), (0, ar 2)]) dX5_readLine_80 rfl (Nat.le_of_ble_eq_true rfl) rfl ?_
          refine a_iload_n dX5_readLine_81 rfl rfl ?_
          refine a_if_eq (tgt := 96) dX5_readLine_82 (by decide) (inR_of (by omega) (by omega)) (fun c82 => ?_) (fun c82 => ?_)
          · refine a_iconst dX5_readLine_96 ?_
            exact a_zret rfl (by omega) (by have eL : rl1 ω q = q.wX 1 q.pl := (by unfold rl1; rw [if_neg (by omega), if_neg (by omega), if_neg (by omega), wrong0 hfa]); have eM : lineS ω q = q.wX 1 q.pl := (by unfold lineS; rw [eL, if_pos (wX_ne (by decide))]); rw [eM]; exact Or.inr ⟨rfl, fail_ok hNk hC (by omega) (by omega)⟩) dX5_readLine_97
          · exact absurd c82 (by decide)
        · refine a_aload_n dX5_readLine_58 rfl rfl ?_
          refine a_getI (J := 9) fX5_62 k2 rfl rfl dX5_readLine_59 ?_
          refine a_ldc (x := 407041) cX5_73 (by decide) dX5_readLine_62 ?_
          refine a_icmp_ne (tgt := 75) dX5_readLine_64 (by decide) (inR_gN _ _ _) (inR_of (by omega) (by omega)) (fun c64 => ?_) (fun c64 => ?_)
          · refine a_aload_n dX5_readLine_75 rfl rfl ?_
            refine a_iconst dX5_readLine_76 ?_
            refine a_cI (c := 2) (as := [ai 1]) (rest := []) (c_fail u 1) mvX5_fail lX5_77 k2 (by decide) rfl rfl rfl rfl (Nat.le_of_ble_eq_true rfl) (Nat.le_of_ble_eq_true rfl) (Nat.le_of_ble_eq_true rfl) dX5_readLine_77 ?_
            refine a_istore_n (ls' := [(1, ai 0), (0, ar 2)]) dX5_readLine_80 rfl (Nat.le_of_ble_eq_true rfl) rfl ?_
            refine a_iload_n dX5_readLine_81 rfl rfl ?_
            refine a_if_eq (tgt := 96) dX5_readLine_82 (by decide) (inR_of (by omega) (by omega)) (fun c82 => ?_) (fun c82 => ?_)
            · refine a_iconst dX5_readLine_96 ?_
              exact a_zret rfl (by omega) (by have eL : rl1 ω q = q.wX 1 q.pl := (by unfold rl1; rw [if_neg (by omega), if_neg (by omega), if_neg (by omega), wrong0 hfa]); have eM : lineS ω q = q.wX 1 q.pl := (by unfold lineS; rw [eL, if_pos (wX_ne (by decide))]); rw [eM]; exact Or.inr ⟨rfl, fail_ok hNk hC (by omega) (by omega)⟩) dX5_readLine_97
            · exact absurd c82 (by decide)
          · refine a_aload_n dX5_readLine_67 rfl rfl ?_
            refine a_callI (c := 2) (as := []) (rest := []) (c_readTrip ω σ u N hNk q hC) mvX5_readTrip lX5_74 k2 (by decide) rfl rfl rfl rfl (Nat.le_of_ble_eq_true rfl) (Nat.le_of_ble_eq_true rfl) (Nat.le_of_ble_eq_true rfl) dX5_readLine_68 (fun x v hv => ?_)
            have eL : rl1 ω q = rdTrip ω q := by unfold rl1; rw [if_neg (by omega), if_neg (by omega), if_pos (by omega)]
            rw [← eL] at hv
            rcases hv with ⟨hx, hz, hC1⟩ | ⟨hx, hF1⟩
            · cases hx
              obtain ⟨q1, eq1⟩ : ∃ z, z = rl1 ω q := ⟨_, rfl⟩
              rw [← eq1] at hC1 hz
              refine a_istore_n (ls' := [(1, ai 1), (0, ar 2)]) dX5_readLine_71 rfl (Nat.le_of_ble_eq_true rfl) rfl ?_
              refine a_goto (tgt := 81) dX5_readLine_72 (by decide) ?_
              refine a_iload_n dX5_readLine_81 rfl rfl ?_
              refine a_if_eq (tgt := 96) dX5_readLine_82 (by decide) (inR_of (by omega) (by omega)) (fun c82 => ?_) (fun c82 => ?_)
              · exact absurd c82 (by decide)
              · refine a_aload_n dX5_readLine_85 rfl rfl ?_
                refine a_callI (c := 2) (as := []) (rest := []) (c_readEnd ω σ v N hNk q1 hC1) mvX5_readEnd lX5_81 k2 (by decide) rfl rfl rfl rfl (Nat.le_of_ble_eq_true rfl) (Nat.le_of_ble_eq_true rfl) (Nat.le_of_ble_eq_true rfl) dX5_readLine_86 (fun x w hw => ?_)
                have eM : lineS ω q = endS ω q1 := by unfold lineS endS; rw [← eq1, if_neg (by omega)]
                rcases hw with ⟨hx, hz2, hC2⟩ | ⟨hx, hF2⟩
                · cases hx
                  refine a_if_eq (tgt := 96) dX5_readLine_89 (by decide) (inR_of (by omega) (by omega)) (fun c89 => ?_) (fun c89 => ?_)
                  · exact absurd c89 (by decide)
                  · refine a_iconst dX5_readLine_92 ?_
                    refine a_goto (tgt := 97) dX5_readLine_93 (by decide) ?_
                    exact a_zret rfl (by omega) (by rw [eM]; exact Or.inl ⟨rfl, hz2, hC2⟩) dX5_readLine_97
                · cases hx
                  refine a_if_eq (tgt := 96) dX5_readLine_89 (by decide) (inR_of (by omega) (by omega)) (fun c89 => ?_) (fun c89 => ?_)
                  · refine a_iconst dX5_readLine_96 ?_
                    exact a_zret rfl (by omega) (by rw [eM]; exact Or.inr ⟨rfl, hF2⟩) dX5_readLine_97
                  · exact absurd c89 (by decide)
            · cases hx
              refine a_istore_n (ls' := [(1, ai 0), (0, ar 2)]) dX5_readLine_71 rfl (Nat.le_of_ble_eq_true rfl) rfl ?_
              refine a_goto (tgt := 81) dX5_readLine_72 (by decide) ?_
              refine a_iload_n dX5_readLine_81 rfl rfl ?_
              refine a_if_eq (tgt := 96) dX5_readLine_82 (by decide) (inR_of (by omega) (by omega)) (fun c82 => ?_) (fun c82 => ?_)
              · refine a_iconst dX5_readLine_96 ?_
                exact a_zret rfl (by omega) (by have eM : lineS ω q = rl1 ω q := (by unfold lineS; rw [if_pos hF1.2.2.2.1]); rw [eM]; exact Or.inr ⟨rfl, hF1⟩) dX5_readLine_97
              · exact absurd c82 (by decide)
      · refine a_aload_n dX5_readLine_33 rfl rfl ?_
        refine a_getI (J := 9) fX5_62 k2 rfl rfl dX5_readLine_34 ?_
        refine a_ldc (x := 453773) cX5_69 (by decide) dX5_readLine_37 ?_
        refine a_icmp_ne (tgt := 50) dX5_readLine_39 (by decide) (inR_gN _ _ _) (inR_of (by omega) (by omega)) (fun c39 => ?_) (fun c39 => ?_)
        · refine a_aload_n dX5_readLine_50 rfl rfl ?_
          refine a_getI (J := 8) fX5_49 k2 rfl rfl dX5_readLine_51 ?_
          refine a_topI (y := kcF q.so) hC.2.k ?_
          refine a_iconst dX5_readLine_54 ?_
          refine a_icmp_ne (tgt := 75) dX5_readLine_55 (by decide) (inR_of (by omega) (by omega)) (inR_of (by omega) (by omega)) (fun c55 => ?_) (fun c55 => ?_)
          · refine a_aload_n dX5_readLine_75 rfl rfl ?_
            refine a_iconst dX5_readLine_76 ?_
            refine a_cI (c := 2) (as := [ai 1]) (rest := []) (c_fail u 1) mvX5_fail lX5_77 k2 (by decide) rfl rfl rfl rfl (Nat.le_of_ble_eq_true rfl) (Nat.le_of_ble_eq_true rfl) (Nat.le_of_ble_eq_true rfl) dX5_readLine_77 ?_
            refine a_istore_n (ls' := [(1, ai 0), (0, ar 2)]) dX5_readLine_80 rfl (Nat.le_of_ble_eq_true rfl) rfl ?_
            refine a_iload_n dX5_readLine_81 rfl rfl ?_
            refine a_if_eq (tgt := 96) dX5_readLine_82 (by decide) (inR_of (by omega) (by omega)) (fun c82 => ?_) (fun c82 => ?_)
            · refine a_iconst dX5_readLine_96 ?_
              exact a_zret rfl (by omega) (by have eL : rl1 ω q = q.wX 1 q.pl := (by unfold rl1; rw [if_neg (by omega), if_neg (by omega), if_neg (by omega), wrong0 hfa]); have eM : lineS ω q = q.wX 1 q.pl := (by unfold lineS; rw [eL, if_pos (wX_ne (by decide))]); rw [eM]; exact Or.inr ⟨rfl, fail_ok hNk hC (by omega) (by omega)⟩) dX5_readLine_97
            · exact absurd c82 (by decide)
          · refine a_aload_n dX5_readLine_58 rfl rfl ?_
            refine a_getI (J := 9) fX5_62 k2 rfl rfl dX5_readLine_59 ?_
            refine a_ldc (x := 407041) cX5_73 (by decide) dX5_readLine_62 ?_
            refine a_icmp_ne (tgt := 75) dX5_readLine_64 (by decide) (inR_gN _ _ _) (inR_of (by omega) (by omega)) (fun c64 => ?_) (fun c64 => ?_)
            · refine a_aload_n dX5_readLine_75 rfl rfl ?_
              refine a_iconst dX5_readLine_76 ?_
              refine a_cI (c := 2) (as := [ai 1]) (rest := []) (c_fail u 1) mvX5_fail lX5_77 k2 (by decide) rfl rfl rfl rfl (Nat.le_of_ble_eq_true rfl) (Nat.le_of_ble_eq_true rfl) (Nat.le_of_ble_eq_true rfl) dX5_readLine_77 ?_
              refine a_istore_n (ls' := [(1, ai 0), (0, ar 2)]) dX5_readLine_80 rfl (Nat.le_of_ble_eq_true rfl) rfl ?_
              refine a_iload_n dX5_readLine_81 rfl rfl ?_
              refine a_if_eq (tgt := 96) dX5_readLine_82 (by decide) (inR_of (by omega) (by omega)) (fun c82 => ?_) (fun c82 => ?_)
              · refine a_iconst dX5_readLine_96 ?_
                exact a_zret rfl (by omega) (by have eL : rl1 ω q = q.wX 1 q.pl := (by unfold rl1; rw [if_neg (by omega), if_neg (by omega), if_neg (by omega), wrong0 hfa]); have eM : lineS ω q = q.wX 1 q.pl := (by unfold lineS; rw [eL, if_pos (wX_ne (by decide))]); rw [eM]; exact Or.inr ⟨rfl, fail_ok hNk hC (by omega) (by omega)⟩) dX5_readLine_97
              · exact absurd c82 (by decide)
            · refine a_aload_n dX5_readLine_67 rfl rfl ?_
              refine a_callI (c := 2) (as := []) (rest := []) (c_readTrip ω σ u N hNk q hC) mvX5_readTrip lX5_74 k2 (by decide) rfl rfl rfl rfl (Nat.le_of_ble_eq_true rfl) (Nat.le_of_ble_eq_true rfl) (Nat.le_of_ble_eq_true rfl) dX5_readLine_68 (fun x v hv => ?_)
              have eL : rl1 ω q = rdTrip ω q := by unfold rl1; rw [if_neg (by omega), if_neg (by omega), if_pos (by omega)]
              rw [← eL] at hv
              rcases hv with ⟨hx, hz, hC1⟩ | ⟨hx, hF1⟩
              · cases hx
                obtain ⟨q1, eq1⟩ : ∃ z, z = rl1 ω q := ⟨_, rfl⟩
                rw [← eq1] at hC1 hz
                refine a_istore_n (ls' := [(1, ai 1), (0, ar 2)]) dX5_readLine_71 rfl (Nat.le_of_ble_eq_true rfl) rfl ?_
                refine a_goto (tgt := 81) dX5_readLine_72 (by decide) ?_
                refine a_iload_n dX5_readLine_81 rfl rfl ?_
                refine a_if_eq (tgt := 96) dX5_readLine_82 (by decide) (inR_of (by omega) (by omega)) (fun c82 => ?_) (fun c82 => ?_)
                · exact absurd c82 (by decide)
                · refine a_aload_n dX5_readLine_85 rfl rfl ?_
                  refine a_callI (c := 2) (as := []) (rest := []) (c_readEnd ω σ v N hNk q1 hC1) mvX5_readEnd lX5_81 k2 (by decide) rfl rfl rfl rfl (Nat.le_of_ble_eq_true rfl) (Nat.le_of_ble_eq_true rfl) (Nat.le_of_ble_eq_true rfl) dX5_readLine_86 (fun x w hw => ?_)
                  have eM : lineS ω q = endS ω q1 := by unfold lineS endS; rw [← eq1, if_neg (by omega)]
                  rcases hw with ⟨hx, hz2, hC2⟩ | ⟨hx, hF2⟩
                  · cases hx
                    refine a_if_eq (tgt := 96) dX5_readLine_89 (by decide) (inR_of (by omega) (by omega)) (fun c89 => ?_) (fun c89 => ?_)
                    · exact absurd c89 (by decide)
                    · refine a_iconst dX5_readLine_92 ?_
                      refine a_goto (tgt := 97) dX5_readLine_93 (by decide) ?_
                      exact a_zret rfl (by omega) (by rw [eM]; exact Or.inl ⟨rfl, hz2, hC2⟩) dX5_readLine_97
                  · cases hx
                    refine a_if_eq (tgt := 96) dX5_readLine_89 (by decide) (inR_of (by omega) (by omega)) (fun c89 => ?_) (fun c89 => ?_)
                    · refine a_iconst dX5_readLine_96 ?_
                      exact a_zret rfl (by omega) (by rw [eM]; exact Or.inr ⟨rfl, hF2⟩) dX5_readLine_97
                    · exact absurd c89 (by decide)
              · cases hx
                refine a_istore_n (ls' := [(1, ai 0), (0, ar 2)]) dX5_readLine_71 rfl (Nat.le_of_ble_eq_true rfl) rfl ?_
                refine a_goto (tgt := 81) dX5_readLine_72 (by decide) ?_
                refine a_iload_n dX5_readLine_81 rfl rfl ?_
                refine a_if_eq (tgt := 96) dX5_readLine_82 (by decide) (inR_of (by omega) (by omega)) (fun c82 => ?_) (fun c82 => ?_)
                · refine a_iconst dX5_readLine_96 ?_
                  exact a_zret rfl (by omega) (by have eM : lineS ω q = rl1 ω q := (by unfold lineS; rw [if_pos hF1.2.2.2.1]); rw [eM]; exact Or.inr ⟨rfl, hF1⟩) dX5_readLine_97
                · exact absurd c82 (by decide)
        · refine a_aload_n dX5_readLine_42 rfl rfl ?_
          refine a_callI (c := 2) (as := []) (rest := []) (c_readWalk ω σ u N hNk q hC) mvX5_readWalk lX5_70 k2 (by decide) rfl rfl rfl rfl (Nat.le_of_ble_eq_true rfl) (Nat.le_of_ble_eq_true rfl) (Nat.le_of_ble_eq_true rfl) dX5_readLine_43 (fun x v hv => ?_)
          have eL : rl1 ω q = rdWalk ω q := by unfold rl1; rw [if_neg (by omega), if_pos (by omega)]
          rw [← eL] at hv
          rcases hv with ⟨hx, hz, hC1⟩ | ⟨hx, hF1⟩
          · cases hx
            obtain ⟨q1, eq1⟩ : ∃ z, z = rl1 ω q := ⟨_, rfl⟩
            rw [← eq1] at hC1 hz
            refine a_istore_n (ls' := [(1, ai 1), (0, ar 2)]) dX5_readLine_46 rfl (Nat.le_of_ble_eq_true rfl) rfl ?_
            refine a_goto (tgt := 81) dX5_readLine_47 (by decide) ?_
            refine a_iload_n dX5_readLine_81 rfl rfl ?_
            refine a_if_eq (tgt := 96) dX5_readLine_82 (by decide) (inR_of (by omega) (by omega)) (fun c82 => ?_) (fun c82 => ?_)
            · exact absurd c82 (by decide)
            · refine a_aload_n dX5_readLine_85 rfl rfl ?_
              refine a_callI (c := 2) (as := []) (rest := []) (c_readEnd ω σ v N hNk q1 hC1) mvX5_readEnd lX5_81 k2 (by decide) rfl rfl rfl rfl (Nat.le_of_ble_eq_true rfl) (Nat.le_of_ble_eq_true rfl) (Nat.le_of_ble_eq_true rfl) dX5_readLine_86 (fun x w hw => ?_)
              have eM : lineS ω q = endS ω q1 := by unfold lineS endS; rw [← eq1, if_neg (by omega)]
              rcases hw with ⟨hx, hz2, hC2⟩ | ⟨hx, hF2⟩
              · cases hx
                refine a_if_eq (tgt := 96) dX5_readLine_89 (by decide) (inR_of (by omega) (by omega)) (fun c89 => ?_) (fun c89 => ?_)
                · exact absurd c89 (by decide)
                · refine a_iconst dX5_readLine_92 ?_
                  refine a_goto (tgt := 97) dX5_readLine_93 (by decide) ?_
                  exact a_zret rfl (by omega) (by rw [eM]; exact Or.inl ⟨rfl, hz2, hC2⟩) dX5_readLine_97
              · cases hx
                refine a_if_eq (tgt := 96) dX5_readLine_89 (by decide) (inR_of (by omega) (by omega)) (fun c89 => ?_) (fun c89 => ?_)
                · refine a_iconst dX5_readLine_96 ?_
                  exact a_zret rfl (by omega) (by rw [eM]; exact Or.inr ⟨rfl, hF2⟩) dX5_readLine_97
                · exact absurd c89 (by decide)
          · cases hx
            refine a_istore_n (ls' := [(1, ai 0), (0, ar 2)]) dX5_readLine_46 rfl (Nat.le_of_ble_eq_true rfl) rfl ?_
            refine a_goto (tgt := 81) dX5_readLine_47 (by decide) ?_
            refine a_iload_n dX5_readLine_81 rfl rfl ?_
            refine a_if_eq (tgt := 96) dX5_readLine_82 (by decide) (inR_of (by omega) (by omega)) (fun c82 => ?_) (fun c82 => ?_)
            · refine a_iconst dX5_readLine_96 ?_
              exact a_zret rfl (by omega) (by have eM : lineS ω q = rl1 ω q := (by unfold lineS; rw [if_pos hF1.2.2.2.1]); rw [eM]; exact Or.inr ⟨rfl, hF1⟩) dX5_readLine_97
            · exact absurd c82 (by decide)
    · refine a_aload_n dX5_readLine_17 rfl rfl ?_
      refine a_callI (c := 2) (as := []) (rest := []) (c_readStop ω σ u N hNk q hC) mvX5_readStop lX5_66 k2 (by decide) rfl rfl rfl rfl (Nat.le_of_ble_eq_true rfl) (Nat.le_of_ble_eq_true rfl) (Nat.le_of_ble_eq_true rfl) dX5_readLine_18 (fun x v hv => ?_)
      have eL : rl1 ω q = rdStop ω q := by unfold rl1; rw [if_pos (by omega)]
      rw [← eL] at hv
      rcases hv with ⟨hx, hz, hC1⟩ | ⟨hx, hF1⟩
      · cases hx
        obtain ⟨q1, eq1⟩ : ∃ z, z = rl1 ω q := ⟨_, rfl⟩
        rw [← eq1] at hC1 hz
        refine a_istore_n (ls' := [(1, ai 1), (0, ar 2)]) dX5_readLine_21 rfl (Nat.le_of_ble_eq_true rfl) rfl ?_
        refine a_goto (tgt := 81) dX5_readLine_22 (by decide) ?_
        refine a_iload_n dX5_readLine_81 rfl rfl ?_
        refine a_if_eq (tgt := 96) dX5_readLine_82 (by decide) (inR_of (by omega) (by omega)) (fun c82 => ?_) (fun c82 => ?_)
        · exact absurd c82 (by decide)
        · refine a_aload_n dX5_readLine_85 rfl rfl ?_
          refine a_callI (c := 2) (as := []) (rest := []) (c_readEnd ω σ v N hNk q1 hC1) mvX5_readEnd lX5_81 k2 (by decide) rfl rfl rfl rfl (Nat.le_of_ble_eq_true rfl) (Nat.le_of_ble_eq_true rfl) (Nat.le_of_ble_eq_true rfl) dX5_readLine_86 (fun x w hw => ?_)
          have eM : lineS ω q = endS ω q1 := by unfold lineS endS; rw [← eq1, if_neg (by omega)]
          rcases hw with ⟨hx, hz2, hC2⟩ | ⟨hx, hF2⟩
          · cases hx
            refine a_if_eq (tgt := 96) dX5_readLine_89 (by decide) (inR_of (by omega) (by omega)) (fun c89 => ?_) (fun c89 => ?_)
            · exact absurd c89 (by decide)
            · refine a_iconst dX5_readLine_92 ?_
              refine a_goto (tgt := 97) dX5_readLine_93 (by decide) ?_
              exact a_zret rfl (by omega) (by rw [eM]; exact Or.inl ⟨rfl, hz2, hC2⟩) dX5_readLine_97
          · cases hx
            refine a_if_eq (tgt := 96) dX5_readLine_89 (by decide) (inR_of (by omega) (by omega)) (fun c89 => ?_) (fun c89 => ?_)
            · refine a_iconst dX5_readLine_96 ?_
              exact a_zret rfl (by omega) (by rw [eM]; exact Or.inr ⟨rfl, hF2⟩) dX5_readLine_97
            · exact absurd c89 (by decide)
      · cases hx
        refine a_istore_n (ls' := [(1, ai 0), (0, ar 2)]) dX5_readLine_21 rfl (Nat.le_of_ble_eq_true rfl) rfl ?_
        refine a_goto (tgt := 81) dX5_readLine_22 (by decide) ?_
        refine a_iload_n dX5_readLine_81 rfl rfl ?_
        refine a_if_eq (tgt := 96) dX5_readLine_82 (by decide) (inR_of (by omega) (by omega)) (fun c82 => ?_) (fun c82 => ?_)
        · refine a_iconst dX5_readLine_96 ?_
          exact a_zret rfl (by omega) (by have eM : lineS ω q = rl1 ω q := (by unfold lineS; rw [if_pos hF1.2.2.2.1]); rw [eM]; exact Or.inr ⟨rfl, hF1⟩) dX5_readLine_97
        · exact absurd c82 (by decide)

