set_option maxRecDepth 20000 in
theorem t_isOff (σ : Sto) (i : Int) : MetI mX9_isOff [ar 153, ai i] σ (if shrL (gL σ 153 17) i &&& 1 = 1 then 1 else 0) σ := by
  refine a_entry (by decide) (Nat.le_of_ble_eq_true rfl) ?_
  refine a_aload_n dX9_isOff_0 rfl rfl ?_
  refine a_getL (J := 17) fX9_179 k153 rfl rfl dX9_isOff_1 ?_
  refine a_iload_n dX9_isOff_4 rfl rfl ?_
  refine a_lshr dX9_isOff_5 ?_
  refine a_lconst (v := 1) dX9_isOff_6 rfl ?_
  refine a_land dX9_isOff_7 ?_
  refine a_lconst (v := 1) dX9_isOff_8 rfl ?_
  refine a_lcmp_ne (tgt := 17) dX9_isOff_9 dX9_isOff_10 (by decide) (fun c9 => ?_) (fun c9 => ?_)
  · refine a_iconst dX9_isOff_17 ?_
    exact a_zret rfl (by omega) ⟨by grind, rfl⟩ dX9_isOff_18
  · refine a_iconst dX9_isOff_13 ?_
    refine a_goto (tgt := 18) dX9_isOff_14 (by decide) ?_
    exact a_zret rfl (by omega) ⟨by grind, rfl⟩ dX9_isOff_18

theorem i2l_ne {x : Int} (h0 : 0 < x) (h1 : x < 2147483648) : ¬ (Int32.ofInt x).toInt64 = 0 := by
  intro h
  have e : ((Int32.ofInt x).toInt64).toInt = x := by rw [Int32.toInt_toInt64, toInt_of_inR (inR_of (by omega) (by omega))]
  rw [h] at e
  have : (0 : Int64).toInt = 0 := rfl
  omega

set_option maxRecDepth 20000 in
theorem t_mean_l (σ u : Sto) (hW : WOK σ) (hFu : Fr pQ σ u) (hTu : TOK u) (hRu : Rq (lkN σ) u) (s t b : Int) (h2 : two σ s t) (hb0 : 0 ≤ b) (hb1 : b ≤ 1440) (a : Int) : ∀ (n : Nat) (m : Int) (sum : Int64) (many : Int), 0 ≤ m → m ≤ 1440 → n = (b - m).toNat → 0 ≤ many → many ≤ m → RunA mX9_mean (qQ σ (mnR (itr (mnF σ s t) n m (sum, many)))) 47 [(8, ai m), (7, ai many), (5, al sum), (0, ar 153), (1, ai s), (2, ai t), (3, ai a), (4, ai b)] [] u := by
  have hWu := Q_W hFu hW
  have hS := hW.2.1
  have hR := hW.1
  intro n
  induction n with
  | zero =>
    intro m sum many h0 h5 hn hm0 hm1
    refine a_iload dX9_mean_47 rfl ?_
    refine a_iload dX9_mean_49 rfl ?_
    refine a_icmp_ge (tgt := 95) dX9_mean_51 (by decide) (inR_of (by omega) (by omega)) (inR_of (by omega) (by omega)) (fun c51 => ?_) (fun c51 => ?_)
    · refine a_iload dX9_mean_95 rfl ?_
      refine a_if_ne (tgt := 105) dX9_mean_97 (by decide) (inR_of (by omega) (by omega)) (fun c97 => ?_) (fun c97 => ?_)
      · refine a_lload dX9_mean_105 rfl ?_
        refine a_iload dX9_mean_107 rfl ?_
        refine a_i2l dX9_mean_109 ?_
        refine a_ldiv dX9_mean_110 (i2l_ne (by omega) (by omega)) ?_
        refine a_l2i (z := (sum / ((Int32.ofInt many).toInt64)).toInt32.toInt) dX9_mean_111 (Int32.ofInt_toInt _).symm ?_
        exact a_iret rfl ⟨by simp only [itr]; unfold mnR; grind, hFu, hTu⟩ dX9_mean_112
      · refine a_bipush (x := (-2)) dX9_mean_100 (by decide) ?_
        refine a_goto (tgt := 112) dX9_mean_102 (by decide) ?_
        exact a_iret rfl ⟨by simp only [itr]; unfold mnR; grind, hFu, hTu⟩ dX9_mean_112
    · exfalso; omega
  | succ n ih =>
    intro m sum many h0 h5 hn hm0 hm1
    refine a_iload dX9_mean_47 rfl ?_
    refine a_iload dX9_mean_49 rfl ?_
    refine a_icmp_ge (tgt := 95) dX9_mean_51 (by decide) (inR_of (by omega) (by omega)) (inR_of (by omega) (by omega)) (fun c51 => ?_) (fun c51 => ?_)
    · exfalso; omega
    · refine a_aload_n dX9_mean_54 rfl rfl ?_
      refine a_iload_n dX9_mean_55 rfl rfl ?_
      refine a_iload_n dX9_mean_56 rfl rfl ?_
      refine a_iload dX9_mean_57 rfl ?_
      refine a_iconst dX9_mean_59 ?_
      refine a_cI (c := 153) (as := [ai s, ai t, ai m, ai 4]) (rest := []) (t_earliestOf u hWu hTu s t m 4 (by omega) (by omega) (by omega) (by omega) (by omega) (by omega) (by omega) (by omega)) mvX9_earliestOf lX9_316 k153 (by decide) rfl rfl rfl rfl (Nat.le_of_ble_eq_true rfl) (Nat.le_of_ble_eq_true rfl) (Nat.le_of_ble_eq_true rfl) dX9_mean_60 ?_
      refine a_topI (y := EA σ s t m 4) (hRu.earliest _ _ _ _) ?_
      have rE60 := EA_rng hW (s := s) (t := t) (m := m) (k := 4) (by omega) (by omega) (by omega) (by omega) (by omega) (by omega)
      refine a_istore (ls' := [(9, ai (EA σ s t m 4)), (8, ai m), (7, ai many), (5, al sum), (0, ar 153), (1, ai s), (2, ai t), (3, ai a), (4, ai b)]) dX9_mean_63 (Nat.le_of_ble_eq_true rfl) rfl ?_
      refine a_iload dX9_mean_65 rfl ?_
      refine a_ldc (x := 1000000) cX9_175 (by decide) dX9_mean_67 ?_
      refine a_icmp_lt (tgt := 75) dX9_mean_69 (by decide) (inR_of (by omega) (by omega)) (inR_of (by omega) (by omega)) (fun c69 => ?_) (fun c69 => ?_)
      · refine a_lload dX9_mean_75 rfl ?_
        refine a_iload dX9_mean_77 rfl ?_
        refine a_iload dX9_mean_79 rfl ?_
        refine a_isub dX9_mean_81 ?_
        refine a_i2l dX9_mean_82 ?_
        refine a_ladd dX9_mean_83 ?_
        refine a_lstore (ls' := [(5, al (sum + ((Int32.ofInt (EA σ s t m 4 - m)).toInt64))), (9, ai (EA σ s t m 4)), (8, ai m), (7, ai many), (0, ar 153), (1, ai s), (2, ai t), (3, ai a), (4, ai b)]) dX9_mean_84 (Nat.le_of_ble_eq_true rfl) rfl ?_
        refine a_iinc (y := many + 1) (ls' := [(7, ai (many + 1)), (5, al (sum + ((Int32.ofInt (EA σ s t m 4 - m)).toInt64))), (9, ai (EA σ s t m 4)), (8, ai m), (0, ar 153), (1, ai s), (2, ai t), (3, ai a), (4, ai b)]) dX9_mean_86 rfl rfl (Nat.le_of_ble_eq_true rfl) rfl ?_
        refine a_iinc (y := m + 1) (ls' := [(8, ai (m + 1)), (7, ai (many + 1)), (5, al (sum + ((Int32.ofInt (EA σ s t m 4 - m)).toInt64))), (9, ai (EA σ s t m 4)), (0, ar 153), (1, ai s), (2, ai t), (3, ai a), (4, ai b)]) dX9_mean_89 rfl rfl (Nat.le_of_ble_eq_true rfl) rfl ?_
        refine a_goto (tgt := 47) dX9_mean_92 (by decide) ?_
        have e : mnF σ s t m (sum, many) = (sum + ((Int32.ofInt (EA σ s t m 4 - m)).toInt64), many + 1) := by unfold mnF; grind
        rw [show itr (mnF σ s t) (n + 1) m (sum, many) = itr (mnF σ s t) n (m + 1) (mnF σ s t m (sum, many)) from rfl, e]
        exact a_keep (by simp) (ih (m + 1) (sum + ((Int32.ofInt (EA σ s t m 4 - m)).toInt64)) (many + 1) (by omega) (by omega) (by omega) (by omega) (by omega))
      · refine a_goto (tgt := 89) dX9_mean_72 (by decide) ?_
        refine a_iinc (y := m + 1) (ls' := [(8, ai (m + 1)), (9, ai (EA σ s t m 4)), (7, ai many), (5, al sum), (0, ar 153), (1, ai s), (2, ai t), (3, ai a), (4, ai b)]) dX9_mean_89 rfl rfl (Nat.le_of_ble_eq_true rfl) rfl ?_
        refine a_goto (tgt := 47) dX9_mean_92 (by decide) ?_
        have e : mnF σ s t m (sum, many) = (sum, many) := by unfold mnF; grind
        rw [show itr (mnF σ s t) (n + 1) m (sum, many) = itr (mnF σ s t) n (m + 1) (mnF σ s t m (sum, many)) from rfl, e]
        exact a_keep (by simp) (ih (m + 1) (sum) (many) (by omega) (by omega) (by omega) (by omega) (by omega))

set_option maxRecDepth 20000 in
theorem t_mean (σ : Sto) (s t a b : Int) (hs : inR s) (ht : inR t) (ha : inR a) (hb : inR b) (hW : WOK σ) (hT : TOK σ) : MetA mX9_mean [ar 153, ai s, ai t, ai a, ai b] σ (qQ σ (meanF σ s t a b)) := by
  have hS := hW.2.1
  have hR := hW.1
  have hTr := hW.2.2.1
  refine a_entry (by decide) (Nat.le_of_ble_eq_true rfl) ?_
  refine a_aload_n dX9_mean_0 rfl rfl ?_
  refine a_iconst dX9_mean_1 ?_
  refine a_putI (J := 0) fX9_85 k153 rfl rfl rfl dX9_mean_2 ?_
  refine a_aload_n dX9_mean_5 rfl rfl ?_
  refine a_iload_n dX9_mean_6 rfl rfl ?_
  refine a_iload_n dX9_mean_7 rfl rfl ?_
  refine a_cI (c := 153) (as := [ai s, ai t]) (rest := []) (t_areTwo (sN σ 153 0 0) s t hs ht) mvX9_areTwo lX9_287 k153 (by decide) rfl rfl rfl rfl (Nat.le_of_ble_eq_true rfl) (Nat.le_of_ble_eq_true rfl) (Nat.le_of_ble_eq_true rfl) dX9_mean_8 ?_
  refine a_topI (y := if two σ s t then 1 else 0) (by simp only [th155]) ?_
  refine a_ifb_eq (tgt := 32) dX9_mean_11 (by decide) (fun c11 => ?_) (fun c11 => ?_)
  · refine a_iconst dX9_mean_32 ?_
    exact a_iret rfl ⟨by unfold meanF; grind, th_F σ, th_T hT⟩ dX9_mean_33
  · refine a_iload_n dX9_mean_14 rfl rfl ?_
    refine a_if_lt (tgt := 32) dX9_mean_15 (by decide) ha (fun c15 => ?_) (fun c15 => ?_)
    · refine a_iconst dX9_mean_32 ?_
      exact a_iret rfl ⟨by unfold meanF; grind, th_F σ, th_T hT⟩ dX9_mean_33
    · refine a_iload dX9_mean_18 rfl ?_
      refine a_sipush (x := 1440) dX9_mean_20 (by decide) ?_
      refine a_icmp_gt (tgt := 32) dX9_mean_23 (by decide) hb (inR_of (by omega) (by omega)) (fun c23 => ?_) (fun c23 => ?_)
      · refine a_iconst dX9_mean_32 ?_
        exact a_iret rfl ⟨by unfold meanF; grind, th_F σ, th_T hT⟩ dX9_mean_33
      · refine a_iload_n dX9_mean_26 rfl rfl ?_
        refine a_iload dX9_mean_27 rfl ?_
        refine a_icmp_lt (tgt := 34) dX9_mean_29 (by decide) ha hb (fun c29 => ?_) (fun c29 => ?_)
        · refine a_aload_n dX9_mean_34 rfl rfl ?_
          refine a_callV (c := 153) (as := []) (rest := []) (t_looksNow (sN σ 153 0 0) (Q_W (th_F σ) hW) (th_T hT)) mvX9_looksNow lX9_290 k153 (by decide) rfl rfl rfl rfl (Nat.le_of_ble_eq_true rfl) (Nat.le_of_ble_eq_true rfl) (Nat.le_of_ble_eq_true rfl) dX9_mean_35 (fun u hu => ?_)
          obtain ⟨hFu, hTu, hRu⟩ := lk_fin hW (th_F σ) (by omega) (by omega) hu.2
          have hWu := Q_W hFu hW
          refine a_lconst (v := 0) dX9_mean_38 rfl ?_
          refine a_lstore (ls' := [(5, al 0), (0, ar 153), (1, ai s), (2, ai t), (3, ai a), (4, ai b)]) dX9_mean_39 (Nat.le_of_ble_eq_true rfl) rfl ?_
          refine a_iconst dX9_mean_41 ?_
          refine a_istore (ls' := [(7, ai 0), (5, al 0), (0, ar 153), (1, ai s), (2, ai t), (3, ai a), (4, ai b)]) dX9_mean_42 (Nat.le_of_ble_eq_true rfl) rfl ?_
          refine a_iload_n dX9_mean_44 rfl rfl ?_
          refine a_istore (ls' := [(8, ai a), (7, ai 0), (5, al 0), (0, ar 153), (1, ai s), (2, ai t), (3, ai a), (4, ai b)]) dX9_mean_45 (Nat.le_of_ble_eq_true rfl) rfl ?_
          rw [show meanF σ s t a b = mnR (itr (mnF σ s t) (b - a).toNat a (0, 0)) from by unfold meanF; rw [if_neg (by grind)]]
          exact a_keep (by simp) (t_mean_l σ u hW hFu hTu hRu s t b (by assumption) (by omega) (by omega) a _ a 0 0 (by omega) (by omega) (by omega) (by omega) (by omega))
        · refine a_iconst dX9_mean_32 ?_
          exact a_iret rfl ⟨by unfold meanF; grind, th_F σ, th_T hT⟩ dX9_mean_33

theorem ca_fin {σ u v : Sto} {s t : Int} (hF : Fr pQ σ u) (hT : TOK u) (hR : Rq (lkN σ) u) (h : Fr pCa u v ∧ CdIs v (candL u s t)) : Fr pQ σ v ∧ TOK v ∧ Rq (lkN σ) v ∧ CdIs v (pfL σ s t) := by
  obtain ⟨h1, h2⟩ := h
  rw [hR.cand] at h2
  have r := pCa_Rd h1
  exact ⟨hF.trans (h1.mono (fun _ _ q => by unfold pCa at q; unfold pQ; omega)), r.T hT, hR.trans r.q, h2⟩

set_option maxRecDepth 20000 in
theorem t_lat_l (σ v : Sto) (hW : WOK σ) (hFv : Fr pQ σ v) (hTv : TOK v) (hRv : Rq (lkN σ) v) (s t : Int) (hs0 : 0 ≤ s) (hs1 : s < 10) (ht0 : 0 ≤ t) (ht1 : t < 10) (m : Int) (hm0 : 0 ≤ m) (hm1 : m ≤ 2000) (hCv : CdIs v (pfL σ s t)) : ∀ (n : Nat) (k : Int) (best : Int), 0 ≤ k → k ≤ 300 → n = ((pfL σ s t).length - k).toNat → -1000000 ≤ best → best ≤ 1000000 → RunA mX9_latestOf (fun r v => r = some (ai (itr (laF (pfL σ s t) m) n k best)) ∧ Fr pQ σ v ∧ TOK v ∧ Rq (lkN σ) v) 34 [(5, ai k), (4, ai best), (0, ar 153), (1, ai s), (2, ai t), (3, ai m)] [] v := by
  have hok := pf_ok hW hs0 hs1 ht0 ht1
  have k28 : gN v 153 28 = (pfL σ s t).length := hCv.1
  intro n
  induction n with
  | zero =>
    intro k best h0 h5 hn hb0 hb1
    refine a_iload dX9_latestOf_34 rfl ?_
    refine a_aload_n dX9_latestOf_36 rfl rfl ?_
    refine a_getI (J := 28) fX9_267 k153 rfl rfl dX9_latestOf_37 ?_
    refine a_icmp_ge (tgt := 81) dX9_latestOf_40 (by decide) (inR_of (by omega) (by omega)) (inR_gN _ _ _) (fun c40 => ?_) (fun c40 => ?_)
    · refine a_iload dX9_latestOf_81 rfl ?_
      exact a_iret rfl ⟨rfl, hFv, hTv, hRv⟩ dX9_latestOf_83
    · exfalso; omega
  | succ n ih =>
    intro k best h0 h5 hn hb0 hb1
    refine a_iload dX9_latestOf_34 rfl ?_
    refine a_aload_n dX9_latestOf_36 rfl rfl ?_
    refine a_getI (J := 28) fX9_267 k153 rfl rfl dX9_latestOf_37 ?_
    refine a_icmp_ge (tgt := 81) dX9_latestOf_40 (by decide) (inR_of (by omega) (by omega)) (inR_gN _ _ _) (fun c40 => ?_) (fun c40 => ?_)
    · exfalso; omega
    · have ec := hCv.at (k := k) (by omega) (by omega)
      have bc : cdOK (cd (pfL σ s t) k) := cd_ok hok.2.1 (by omega) (by omega)
      unfold cdOK at bc
      refine a_aload_n dX9_latestOf_43 rfl rfl ?_
      refine a_getF (d := 165) fX9_48 k153 rfl r153_26 dX9_latestOf_44 ?_
      refine a_iload dX9_latestOf_47 rfl ?_
      refine a_ild k165 n165 (by omega) (by omega) dX9_latestOf_49 ?_
      refine a_iload_n dX9_latestOf_50 rfl rfl ?_
      refine a_icmp_gt (tgt := 75) dX9_latestOf_51 (by decide) (inR_gN _ _ _) (inR_of (by omega) (by omega)) (fun c51 => ?_) (fun c51 => ?_)
      · refine a_iinc (y := k + 1) (ls' := [(5, ai (k + 1)), (4, ai best), (0, ar 153), (1, ai s), (2, ai t), (3, ai m)]) dX9_latestOf_75 rfl rfl (Nat.le_of_ble_eq_true rfl) rfl ?_
        refine a_goto (tgt := 34) dX9_latestOf_78 (by decide) ?_
        have e : laF (pfL σ s t) m k best = best := by unfold laF; grind
        rw [show itr (laF (pfL σ s t) m) (n + 1) k best = itr (laF (pfL σ s t) m) n (k + 1) (laF (pfL σ s t) m k best) from rfl, e]
        exact a_keep (by simp) (ih (k + 1) (best) (by omega) (by omega) (by omega) (by omega) (by omega))
      · refine a_aload_n dX9_latestOf_54 rfl rfl ?_
        refine a_getF (d := 164) fX9_45 k153 rfl r153_25 dX9_latestOf_55 ?_
        refine a_iload dX9_latestOf_58 rfl ?_
        refine a_ild k164 n164 (by omega) (by omega) dX9_latestOf_60 ?_
        refine a_iload dX9_latestOf_61 rfl ?_
        refine a_icmp_le (tgt := 75) dX9_latestOf_63 (by decide) (inR_gN _ _ _) (inR_of (by omega) (by omega)) (fun c63 => ?_) (fun c63 => ?_)
        · refine a_iinc (y := k + 1) (ls' := [(5, ai (k + 1)), (4, ai best), (0, ar 153), (1, ai s), (2, ai t), (3, ai m)]) dX9_latestOf_75 rfl rfl (Nat.le_of_ble_eq_true rfl) rfl ?_
          refine a_goto (tgt := 34) dX9_latestOf_78 (by decide) ?_
          have e : laF (pfL σ s t) m k best = best := by unfold laF; grind
          rw [show itr (laF (pfL σ s t) m) (n + 1) k best = itr (laF (pfL σ s t) m) n (k + 1) (laF (pfL σ s t) m k best) from rfl, e]
          exact a_keep (by simp) (ih (k + 1) (best) (by omega) (by omega) (by omega) (by omega) (by omega))
        · refine a_aload_n dX9_latestOf_66 rfl rfl ?_
          refine a_getF (d := 164) fX9_45 k153 rfl r153_25 dX9_latestOf_67 ?_
          refine a_iload dX9_latestOf_70 rfl ?_
          refine a_ild k164 n164 (by omega) (by omega) dX9_latestOf_72 ?_
          refine a_istore (ls' := [(4, ai (gN v 164 k)), (5, ai k), (0, ar 153), (1, ai s), (2, ai t), (3, ai m)]) dX9_latestOf_73 (Nat.le_of_ble_eq_true rfl) rfl ?_
          refine a_iinc (y := k + 1) (ls' := [(5, ai (k + 1)), (4, ai (gN v 164 k)), (0, ar 153), (1, ai s), (2, ai t), (3, ai m)]) dX9_latestOf_75 rfl rfl (Nat.le_of_ble_eq_true rfl) rfl ?_
          refine a_goto (tgt := 34) dX9_latestOf_78 (by decide) ?_
          have e : laF (pfL σ s t) m k best = gN v 164 k := by unfold laF; grind
          rw [show itr (laF (pfL σ s t) m) (n + 1) k best = itr (laF (pfL σ s t) m) n (k + 1) (laF (pfL σ s t) m k best) from rfl, e]
          exact a_keep (by simp) (ih (k + 1) (gN v 164 k) (by omega) (by omega) (by omega) (by omega) (by omega))

set_option maxRecDepth 20000 in
theorem t_latestOf (σ u : Sto) (hW : WOK σ) (hFu : Fr pQ σ u) (hTu : TOK u) (hRu : Rq (lkN σ) u) (s t : Int) (hs0 : 0 ≤ s) (hs1 : s < 10) (ht0 : 0 ≤ t) (ht1 : t < 10) (m : Int) (hm0 : 0 ≤ m) (hm1 : m ≤ 2000) : MetA mX9_latestOf [ar 153, ai s, ai t, ai m] u (fun r v => r = some (ai (latF σ s t m)) ∧ Fr pQ σ v ∧ TOK v ∧ Rq (lkN σ) v) := by
  have hWu := Q_W hFu hW
  have hS := hW.2.1
  have hR := hW.1
  have bw := hW.2.2.2.2.1 s t hs0 hs1 ht0 ht1
  refine a_entry (by decide) (Nat.le_of_ble_eq_true rfl) ?_
  refine a_aload_n dX9_latestOf_0 rfl rfl ?_
  refine a_iload_n dX9_latestOf_1 rfl rfl ?_
  refine a_iload_n dX9_latestOf_2 rfl rfl ?_
  refine a_callV (c := 153) (as := [ai s, ai t]) (rest := []) (t_laysCandidates u hWu hTu s t (by omega) (by omega) (by omega) (by omega)) mvX9_laysCandidates lX9_274 k153 (by decide) rfl rfl rfl rfl (Nat.le_of_ble_eq_true rfl) (Nat.le_of_ble_eq_true rfl) (Nat.le_of_ble_eq_true rfl) dX9_latestOf_3 (fun v hv => ?_)
  obtain ⟨hFv, hTv, hRv, hCv⟩ := ca_fin hFu hTu hRu hv.2
  have hok := pf_ok hW (s := s) (t := t) (by omega) (by omega) (by omega) (by omega)
  have k28 : gN v 153 28 = (pfL σ s t).length := hCv.1
  have hWv := Q_W hFv hW
  refine a_aload_n dX9_latestOf_6 rfl rfl ?_
  refine a_iload_n dX9_latestOf_7 rfl rfl ?_
  refine a_iload_n dX9_latestOf_8 rfl rfl ?_
  refine a_cI (c := 153) (as := [ai s, ai t]) (rest := []) (t_walked v s t (by omega) (by omega)) mvX9_walked lX9_216 k153 (by decide) rfl rfl rfl rfl (Nat.le_of_ble_eq_true rfl) (Nat.le_of_ble_eq_true rfl) (Nat.le_of_ble_eq_true rfl) dX9_latestOf_9 ?_
  refine a_topI (y := gN σ 155 (15 + 10 * s + t)) (Q155 hFv _) ?_
  refine a_iload_n dX9_latestOf_12 rfl rfl ?_
  refine a_icmp_gt (tgt := 27) dX9_latestOf_13 (by decide) (inR_gN _ _ _) (inR_of (by omega) (by omega)) (fun c13 => ?_) (fun c13 => ?_)
  · refine a_bipush (x := (-2)) dX9_latestOf_27 (by decide) ?_
    refine a_istore (ls' := [(4, ai (-2)), (0, ar 153), (1, ai s), (2, ai t), (3, ai m)]) dX9_latestOf_29 (Nat.le_of_ble_eq_true rfl) rfl ?_
    refine a_iconst dX9_latestOf_31 ?_
    refine a_istore (ls' := [(5, ai 0), (4, ai (-2)), (0, ar 153), (1, ai s), (2, ai t), (3, ai m)]) dX9_latestOf_32 (Nat.le_of_ble_eq_true rfl) rfl ?_
    rw [show latF σ s t m = itr (laF (pfL σ s t) m) (pfL σ s t).length 0 ((-2)) from by unfold latF; grind]
    exact a_keep (by simp) (t_lat_l σ v hW hFv hTv hRv s t hs0 hs1 ht0 ht1 m hm0 hm1 hCv _ 0 ((-2)) (by omega) (by omega) (by omega) (by omega) (by omega))
  · refine a_iload_n dX9_latestOf_16 rfl rfl ?_
    refine a_aload_n dX9_latestOf_17 rfl rfl ?_
    refine a_iload_n dX9_latestOf_18 rfl rfl ?_
    refine a_iload_n dX9_latestOf_19 rfl rfl ?_
    refine a_cI (c := 153) (as := [ai s, ai t]) (rest := [ai m]) (t_walked v s t (by omega) (by omega)) mvX9_walked lX9_216 k153 (by decide) rfl rfl rfl rfl (Nat.le_of_ble_eq_true rfl) (Nat.le_of_ble_eq_true rfl) (Nat.le_of_ble_eq_true rfl) dX9_latestOf_20 ?_
    refine a_topI (y := gN σ 155 (15 + 10 * s + t)) (Q155 hFv _) ?_
    refine a_isub dX9_latestOf_23 ?_
    refine a_goto (tgt := 29) dX9_latestOf_24 (by decide) ?_
    refine a_istore (ls' := [(4, ai (m - (gN σ 155 (15 + 10 * s + t)))), (0, ar 153), (1, ai s), (2, ai t), (3, ai m)]) dX9_latestOf_29 (Nat.le_of_ble_eq_true rfl) rfl ?_
    refine a_iconst dX9_latestOf_31 ?_
    refine a_istore (ls' := [(5, ai 0), (4, ai (m - (gN σ 155 (15 + 10 * s + t)))), (0, ar 153), (1, ai s), (2, ai t), (3, ai m)]) dX9_latestOf_32 (Nat.le_of_ble_eq_true rfl) rfl ?_
    rw [show latF σ s t m = itr (laF (pfL σ s t) m) (pfL σ s t).length 0 (m - (gN σ 155 (15 + 10 * s + t))) from by unfold latF; grind]
    exact a_keep (by simp) (t_lat_l σ v hW hFv hTv hRv s t hs0 hs1 ht0 ht1 m hm0 hm1 hCv _ 0 (m - (gN σ 155 (15 + 10 * s + t))) (by omega) (by omega) (by omega) (by omega) (by omega))

theorem la_rng {L : List Cd} (hL : ∀ x ∈ L, cdOK x) {m : Int} : ∀ (n : Nat) (k best : Int), 0 ≤ k → k + n ≤ L.length → -1000000 ≤ best → best ≤ 1000000 → -1000000 ≤ itr (laF L m) n k best ∧ itr (laF L m) n k best ≤ 1000000
  | 0, _, _, _, _, h2, h3 => ⟨h2, h3⟩
  | n + 1, k, best, h0, h1, h2, h3 => by
    have bc : cdOK (cd L k) := cd_ok hL h0 (by omega)
    unfold cdOK at bc
    refine la_rng hL n (k + 1) _ (by omega) (by omega) ?_ ?_ <;> unfold laF <;> split <;> omega
theorem lat_rng {σ : Sto} (hW : WOK σ) {s t m : Int} (hs0 : 0 ≤ s) (hs1 : s < 10) (h0 : 0 ≤ t) (h1 : t < 10) (hm0 : 0 ≤ m) (hm1 : m ≤ 2000) : -1000000 ≤ latF σ s t m ∧ latF σ s t m ≤ 1000000 := by
  have hok := pf_ok hW hs0 hs1 h0 h1
  have bw := hW.2.2.2.2.1 s t hs0 hs1 h0 h1
  unfold latF
  refine la_rng hok.2.1 _ 0 _ (by omega) (by omega) ?_ ?_ <;> split <;> omega

set_option maxRecDepth 20000 in
theorem t_latest (σ : Sto) (s t m : Int) (hs : inR s) (ht : inR t) (hm : inR m) (hW : WOK σ) (hT : TOK σ) : MetA mX9_latest [ar 153, ai s, ai t, ai m] σ (qQ σ (latestQ σ s t m)) := by
  have hS := hW.2.1
  have hR := hW.1
  have hTr := hW.2.2.1
  refine a_entry (by decide) (Nat.le_of_ble_eq_true rfl) ?_
  refine a_aload_n dX9_latest_0 rfl rfl ?_
  refine a_iconst dX9_latest_1 ?_
  refine a_putI (J := 0) fX9_85 k153 rfl rfl rfl dX9_latest_2 ?_
  refine a_aload_n dX9_latest_5 rfl rfl ?_
  refine a_iload_n dX9_latest_6 rfl rfl ?_
  refine a_cI (c := 153) (as := [ai s]) (rest := []) (t_isStop (sN σ 153 0 0) s hs) mvX9_isStop lX9_213 k153 (by decide) rfl rfl rfl rfl (Nat.le_of_ble_eq_true rfl) (Nat.le_of_ble_eq_true rfl) (Nat.le_of_ble_eq_true rfl) dX9_latest_7 ?_
  refine a_topI (y := if stp σ s then 1 else 0) (by simp only [th155]) ?_
  refine a_ifb_eq (tgt := 32) dX9_latest_10 (by decide) (fun c10 => ?_) (fun c10 => ?_)
  · refine a_iconst dX9_latest_32 ?_
    exact a_iret rfl ⟨by unfold latestQ; grind, th_F σ, th_T hT⟩ dX9_latest_33
  · refine a_aload_n dX9_latest_13 rfl rfl ?_
    refine a_iload_n dX9_latest_14 rfl rfl ?_
    refine a_cI (c := 153) (as := [ai t]) (rest := []) (t_isStop (sN σ 153 0 0) t ht) mvX9_isStop lX9_213 k153 (by decide) rfl rfl rfl rfl (Nat.le_of_ble_eq_true rfl) (Nat.le_of_ble_eq_true rfl) (Nat.le_of_ble_eq_true rfl) dX9_latest_15 ?_
    refine a_topI (y := if stp σ t then 1 else 0) (by simp only [th155]) ?_
    refine a_ifb_eq (tgt := 32) dX9_latest_18 (by decide) (fun c18 => ?_) (fun c18 => ?_)
    · refine a_iconst dX9_latest_32 ?_
      exact a_iret rfl ⟨by unfold latestQ; grind, th_F σ, th_T hT⟩ dX9_latest_33
    · refine a_iload_n dX9_latest_21 rfl rfl ?_
      refine a_if_lt (tgt := 32) dX9_latest_22 (by decide) hm (fun c22 => ?_) (fun c22 => ?_)
      · refine a_iconst dX9_latest_32 ?_
        exact a_iret rfl ⟨by unfold latestQ; grind, th_F σ, th_T hT⟩ dX9_latest_33
      · refine a_iload_n dX9_latest_25 rfl rfl ?_
        refine a_sipush (x := 2000) dX9_latest_26 (by decide) ?_
        refine a_icmp_le (tgt := 34) dX9_latest_29 (by decide) hm (inR_of (by omega) (by omega)) (fun c29 => ?_) (fun c29 => ?_)
        · refine a_iload_n dX9_latest_34 rfl rfl ?_
          refine a_iload_n dX9_latest_35 rfl rfl ?_
          refine a_icmp_ne (tgt := 41) dX9_latest_36 (by decide) hs ht (fun c36 => ?_) (fun c36 => ?_)
          · refine a_aload_n dX9_latest_41 rfl rfl ?_
            refine a_callV (c := 153) (as := []) (rest := []) (t_looksNow (sN σ 153 0 0) (Q_W (th_F σ) hW) (th_T hT)) mvX9_looksNow lX9_290 k153 (by decide) rfl rfl rfl rfl (Nat.le_of_ble_eq_true rfl) (Nat.le_of_ble_eq_true rfl) (Nat.le_of_ble_eq_true rfl) dX9_latest_42 (fun u hu => ?_)
            obtain ⟨hFu, hTu, hRu⟩ := lk_fin hW (th_F σ) (by omega) (by omega) hu.2
            have hWu := Q_W hFu hW
            refine a_aload_n dX9_latest_45 rfl rfl ?_
            refine a_iload_n dX9_latest_46 rfl rfl ?_
            refine a_iload_n dX9_latest_47 rfl rfl ?_
            refine a_iload_n dX9_latest_48 rfl rfl ?_
            refine a_callI (c := 153) (as := [ai s, ai t, ai m]) (rest := []) (t_latestOf σ u hW hFu hTu hRu s t (by omega) (by omega) (by omega) (by omega) m (by omega) (by omega)) mvX9_latestOf lX9_329 k153 (by decide) rfl rfl rfl rfl (Nat.le_of_ble_eq_true rfl) (Nat.le_of_ble_eq_true rfl) (Nat.le_of_ble_eq_true rfl) dX9_latest_49 (fun xr v hv => ?_)
            obtain ⟨hxr, hFv, hTv, hRv⟩ := hv
            have hxr : xr = latF σ s t m := by simpa using hxr
            have hWv := Q_W hFv hW
            have rL := lat_rng hW (s := s) (t := t) (m := m) (by omega) (by omega) (by omega) (by omega) (by omega) (by omega)
            exact a_iret rfl ⟨by unfold latestQ; grind, hFv, hTv⟩ dX9_latest_52
          · refine a_iload_n dX9_latest_39 rfl rfl ?_
            exact a_iret rfl ⟨by unfold latestQ; grind, th_F σ, th_T hT⟩ dX9_latest_40
        · refine a_iconst dX9_latest_32 ?_
          exact a_iret rfl ⟨by unfold latestQ; grind, th_F σ, th_T hT⟩ dX9_latest_33

set_option maxRecDepth 20000 in
theorem t_stay (σ : Sto) (s t m z : Int) (hs : inR s) (ht : inR t) (hm : inR m) (hz : inR z) (hW : WOK σ) (hT : TOK σ) : MetA mX9_stay [ar 153, ai s, ai t, ai m, ai z] σ (qQ σ (stayF σ s t m z)) := by
  have hS := hW.2.1
  have hR := hW.1
  have hTr := hW.2.2.1
  refine a_entry (by decide) (Nat.le_of_ble_eq_true rfl) ?_
  refine a_aload_n dX9_stay_0 rfl rfl ?_
  refine a_iconst dX9_stay_1 ?_
  refine a_putI (J := 0) fX9_85 k153 rfl rfl rfl dX9_stay_2 ?_
  refine a_aload_n dX9_stay_5 rfl rfl ?_
  refine a_iload_n dX9_stay_6 rfl rfl ?_
  refine a_iload_n dX9_stay_7 rfl rfl ?_
  refine a_cI (c := 153) (as := [ai s, ai t]) (rest := []) (t_areTwo (sN σ 153 0 0) s t hs ht) mvX9_areTwo lX9_287 k153 (by decide) rfl rfl rfl rfl (Nat.le_of_ble_eq_true rfl) (Nat.le_of_ble_eq_true rfl) (Nat.le_of_ble_eq_true rfl) dX9_stay_8 ?_
  refine a_topI (y := if two σ s t then 1 else 0) (by simp only [th155]) ?_
  refine a_ifb_eq (tgt := 34) dX9_stay_11 (by decide) (fun c11 => ?_) (fun c11 => ?_)
  · refine a_iconst dX9_stay_34 ?_
    exact a_iret rfl ⟨by unfold stayF; grind, th_F σ, th_T hT⟩ dX9_stay_35
  · refine a_iload_n dX9_stay_14 rfl rfl ?_
    refine a_sI (as := [ai m]) (rest := []) (t_isMinute (sN σ 153 0 0) m hm) mvX9_isMinute lX9_320 rfl rfl rfl (Nat.le_of_ble_eq_true rfl) (Nat.le_of_ble_eq_true rfl) (Nat.le_of_ble_eq_true rfl) dX9_stay_15 ?_
    refine a_ifb_eq (tgt := 34) dX9_stay_18 (by decide) (fun c18 => ?_) (fun c18 => ?_)
    · refine a_iconst dX9_stay_34 ?_
      exact a_iret rfl ⟨by unfold stayF; grind, th_F σ, th_T hT⟩ dX9_stay_35
    · refine a_iload dX9_stay_21 rfl ?_
      refine a_if_lt (tgt := 34) dX9_stay_23 (by decide) hz (fun c23 => ?_) (fun c23 => ?_)
      · refine a_iconst dX9_stay_34 ?_
        exact a_iret rfl ⟨by unfold stayF; grind, th_F σ, th_T hT⟩ dX9_stay_35
      · refine a_iload dX9_stay_26 rfl ?_
        refine a_sipush (x := 2000) dX9_stay_28 (by decide) ?_
        refine a_icmp_le (tgt := 36) dX9_stay_31 (by decide) hz (inR_of (by omega) (by omega)) (fun c31 => ?_) (fun c31 => ?_)
        · refine a_aload_n dX9_stay_36 rfl rfl ?_
          refine a_callV (c := 153) (as := []) (rest := []) (t_looksNow (sN σ 153 0 0) (Q_W (th_F σ) hW) (th_T hT)) mvX9_looksNow lX9_290 k153 (by decide) rfl rfl rfl rfl (Nat.le_of_ble_eq_true rfl) (Nat.le_of_ble_eq_true rfl) (Nat.le_of_ble_eq_true rfl) dX9_stay_37 (fun u hu => ?_)
          obtain ⟨hFu, hTu, hRu⟩ := lk_fin hW (th_F σ) (by omega) (by omega) hu.2
          have hWu := Q_W hFu hW
          refine a_aload_n dX9_stay_40 rfl rfl ?_
          refine a_iload_n dX9_stay_41 rfl rfl ?_
          refine a_iload_n dX9_stay_42 rfl rfl ?_
          refine a_iload_n dX9_stay_43 rfl rfl ?_
          refine a_iconst dX9_stay_44 ?_
          refine a_cI (c := 153) (as := [ai s, ai t, ai m, ai 4]) (rest := []) (t_earliestOf u hWu hTu s t m 4 (by omega) (by omega) (by omega) (by omega) (by omega) (by omega) (by omega) (by omega)) mvX9_earliestOf lX9_316 k153 (by decide) rfl rfl rfl rfl (Nat.le_of_ble_eq_true rfl) (Nat.le_of_ble_eq_true rfl) (Nat.le_of_ble_eq_true rfl) dX9_stay_45 ?_
          refine a_topI (y := EA σ s t m 4) (hRu.earliest _ _ _ _) ?_
          have rE45 := EA_rng hW (s := s) (t := t) (m := m) (k := 4) (by omega) (by omega) (by omega) (by omega) (by omega) (by omega)
          refine a_istore (ls' := [(5, ai (EA σ s t m 4)), (0, ar 153), (1, ai s), (2, ai t), (3, ai m), (4, ai z)]) dX9_stay_48 (Nat.le_of_ble_eq_true rfl) rfl ?_
          refine a_aload_n dX9_stay_50 rfl rfl ?_
          refine a_iload_n dX9_stay_51 rfl rfl ?_
          refine a_iload_n dX9_stay_52 rfl rfl ?_
          refine a_iload dX9_stay_53 rfl ?_
          refine a_callI (c := 153) (as := [ai t, ai s, ai z]) (rest := []) (t_latestOf σ u hW hFu hTu hRu t s (by omega) (by omega) (by omega) (by omega) z (by omega) (by omega)) mvX9_latestOf lX9_329 k153 (by decide) rfl rfl rfl rfl (Nat.le_of_ble_eq_true rfl) (Nat.le_of_ble_eq_true rfl) (Nat.le_of_ble_eq_true rfl) dX9_stay_55 (fun xr v hv => ?_)
          obtain ⟨hxr, hFv, hTv, hRv⟩ := hv
          have hxr : xr = latF σ t s z := by simpa using hxr
          have hWv := Q_W hFv hW
          have rL := lat_rng hW (s := t) (t := s) (m := z) (by omega) (by omega) (by omega) (by omega) (by omega) (by omega)
          refine a_istore (ls' := [(6, ai xr), (5, ai (EA σ s t m 4)), (0, ar 153), (1, ai s), (2, ai t), (3, ai m), (4, ai z)]) dX9_stay_58 (Nat.le_of_ble_eq_true rfl) rfl ?_
          refine a_iload dX9_stay_60 rfl ?_
          refine a_ldc (x := 1000000) cX9_175 (by decide) dX9_stay_62 ?_
          refine a_icmp_ge (tgt := 74) dX9_stay_64 (by decide) (inR_of (by omega) (by omega)) (inR_of (by omega) (by omega)) (fun c64 => ?_) (fun c64 => ?_)
          · refine a_bipush (x := (-2)) dX9_stay_74 (by decide) ?_
            exact a_iret rfl ⟨by unfold stayF; grind, hFv, hTv⟩ dX9_stay_76
          · refine a_iload dX9_stay_67 rfl ?_
            refine a_bipush (x := (-2)) dX9_stay_69 (by decide) ?_
            refine a_icmp_ne (tgt := 77) dX9_stay_71 (by decide) (inR_of (by omega) (by omega)) (inR_of (by omega) (by omega)) (fun c71 => ?_) (fun c71 => ?_)
            · refine a_iload dX9_stay_77 rfl ?_
              refine a_iload dX9_stay_79 rfl ?_
              refine a_icmp_ge (tgt := 89) dX9_stay_81 (by decide) (inR_of (by omega) (by omega)) (inR_of (by omega) (by omega)) (fun c81 => ?_) (fun c81 => ?_)
              · refine a_iload dX9_stay_89 rfl ?_
                refine a_iload dX9_stay_91 rfl ?_
                refine a_isub dX9_stay_93 ?_
                exact a_iret rfl ⟨by unfold stayF; grind, hFv, hTv⟩ dX9_stay_94
              · refine a_bipush (x := (-3)) dX9_stay_84 (by decide) ?_
                refine a_goto (tgt := 94) dX9_stay_86 (by decide) ?_
                exact a_iret rfl ⟨by unfold stayF; grind, hFv, hTv⟩ dX9_stay_94
            · refine a_bipush (x := (-2)) dX9_stay_74 (by decide) ?_
              exact a_iret rfl ⟨by unfold stayF; grind, hFv, hTv⟩ dX9_stay_76
        · refine a_iconst dX9_stay_34 ?_
          exact a_iret rfl ⟨by unfold stayF; grind, th_F σ, th_T hT⟩ dX9_stay_35

set_option maxRecDepth 20000 in
theorem t_next_2 (σ v : Sto) (hW : WOK σ) (hFv : Fr pQ σ v) (hTv : TOK v) (hRv : Rq (lkN σ) v) (s t : Int) (hs0 : 0 ≤ s) (hs1 : s < 10) (ht0 : 0 ≤ t) (ht1 : t < 10) (dep : Int) (hd0 : -1 ≤ dep) (hd1 : dep ≤ 100000) (hCv : CdIs v (pfL σ s t)) : ∀ (n : Nat) (k : Int) (best : Int), 0 ≤ k → k ≤ 300 → n = ((pfL σ s t).length - k).toNat → -1000000 ≤ best → best ≤ 1000000 → RunA mX9_next (qQ σ (orN (itr (nx2F (pfL σ s t) dep) n k best))) 124 [(7, ai k), (6, ai best), (5, ai dep), (0, ar 153)] [] v := by
  have hok := pf_ok hW hs0 hs1 ht0 ht1
  have k28 : gN v 153 28 = (pfL σ s t).length := hCv.1
  intro n
  induction n with
  | zero =>
    intro k best h0 h5 hn hb0 hb1
    refine a_iload dX9_next_124 rfl ?_
    refine a_aload_n dX9_next_126 rfl rfl ?_
    refine a_getI (J := 28) fX9_267 k153 rfl rfl dX9_next_127 ?_
    refine a_icmp_ge (tgt := 172) dX9_next_130 (by decide) (inR_of (by omega) (by omega)) (inR_gN _ _ _) (fun c130 => ?_) (fun c130 => ?_)
    · refine a_iload dX9_next_172 rfl ?_
      refine a_sI (as := [ai best]) (rest := []) (t_orNot v best (inR_of (by omega) (by omega))) mvX9_orNot lX9_326 rfl rfl rfl (Nat.le_of_ble_eq_true rfl) (Nat.le_of_ble_eq_true rfl) (Nat.le_of_ble_eq_true rfl) dX9_next_174 ?_
      exact a_iret rfl ⟨rfl, hFv, hTv⟩ dX9_next_177
    · exfalso; omega
  | succ n ih =>
    intro k best h0 h5 hn hb0 hb1
    refine a_iload dX9_next_124 rfl ?_
    refine a_aload_n dX9_next_126 rfl rfl ?_
    refine a_getI (J := 28) fX9_267 k153 rfl rfl dX9_next_127 ?_
    refine a_icmp_ge (tgt := 172) dX9_next_130 (by decide) (inR_of (by omega) (by omega)) (inR_gN _ _ _) (fun c130 => ?_) (fun c130 => ?_)
    · exfalso; omega
    · have ec := hCv.at (k := k) (by omega) (by omega)
      have bc : cdOK (cd (pfL σ s t) k) := cd_ok hok.2.1 (by omega) (by omega)
      unfold cdOK at bc
      refine a_aload_n dX9_next_133 rfl rfl ?_
      refine a_getF (d := 164) fX9_45 k153 rfl r153_25 dX9_next_134 ?_
      refine a_iload dX9_next_137 rfl ?_
      refine a_ild k164 n164 (by omega) (by omega) dX9_next_139 ?_
      refine a_iload dX9_next_140 rfl ?_
      refine a_icmp_le (tgt := 166) dX9_next_142 (by decide) (inR_gN _ _ _) (inR_of (by omega) (by omega)) (fun c142 => ?_) (fun c142 => ?_)
      · refine a_iinc (y := k + 1) (ls' := [(7, ai (k + 1)), (6, ai best), (5, ai dep), (0, ar 153)]) dX9_next_166 rfl rfl (Nat.le_of_ble_eq_true rfl) rfl ?_
        refine a_goto (tgt := 124) dX9_next_169 (by decide) ?_
        have e : nx2F (pfL σ s t) dep k best = best := by unfold nx2F; grind
        rw [show itr (nx2F (pfL σ s t) dep) (n + 1) k best = itr (nx2F (pfL σ s t) dep) n (k + 1) (nx2F (pfL σ s t) dep k best) from rfl, e]
        exact a_keep (by simp) (ih (k + 1) (best) (by omega) (by omega) (by omega) (by omega) (by omega))
      · refine a_aload_n dX9_next_145 rfl rfl ?_
        refine a_getF (d := 165) fX9_48 k153 rfl r153_26 dX9_next_146 ?_
        refine a_iload dX9_next_149 rfl ?_
        refine a_ild k165 n165 (by omega) (by omega) dX9_next_151 ?_
        refine a_iload dX9_next_152 rfl ?_
        refine a_icmp_ge (tgt := 166) dX9_next_154 (by decide) (inR_gN _ _ _) (inR_of (by omega) (by omega)) (fun c154 => ?_) (fun c154 => ?_)
        · refine a_iinc (y := k + 1) (ls' := [(7, ai (k + 1)), (6, ai best), (5, ai dep), (0, ar 153)]) dX9_next_166 rfl rfl (Nat.le_of_ble_eq_true rfl) rfl ?_
          refine a_goto (tgt := 124) dX9_next_169 (by decide) ?_
          have e : nx2F (pfL σ s t) dep k best = best := by unfold nx2F; grind
          rw [show itr (nx2F (pfL σ s t) dep) (n + 1) k best = itr (nx2F (pfL σ s t) dep) n (k + 1) (nx2F (pfL σ s t) dep k best) from rfl, e]
          exact a_keep (by simp) (ih (k + 1) (best) (by omega) (by omega) (by omega) (by omega) (by omega))
        · refine a_aload_n dX9_next_157 rfl rfl ?_
          refine a_getF (d := 165) fX9_48 k153 rfl r153_26 dX9_next_158 ?_
          refine a_iload dX9_next_161 rfl ?_
          refine a_ild k165 n165 (by omega) (by omega) dX9_next_163 ?_
          refine a_istore (ls' := [(6, ai (gN v 165 k)), (7, ai k), (5, ai dep), (0, ar 153)]) dX9_next_164 (Nat.le_of_ble_eq_true rfl) rfl ?_
          refine a_iinc (y := k + 1) (ls' := [(7, ai (k + 1)), (6, ai (gN v 165 k)), (5, ai dep), (0, ar 153)]) dX9_next_166 rfl rfl (Nat.le_of_ble_eq_true rfl) rfl ?_
          refine a_goto (tgt := 124) dX9_next_169 (by decide) ?_
          have e : nx2F (pfL σ s t) dep k best = gN v 165 k := by unfold nx2F; grind
          rw [show itr (nx2F (pfL σ s t) dep) (n + 1) k best = itr (nx2F (pfL σ s t) dep) n (k + 1) (nx2F (pfL σ s t) dep k best) from rfl, e]
          exact a_keep (by simp) (ih (k + 1) (gN v 165 k) (by omega) (by omega) (by omega) (by omega) (by omega))

set_option maxRecDepth 20000 in
theorem t_next_1 (σ v : Sto) (hW : WOK σ) (hFv : Fr pQ σ v) (hTv : TOK v) (hRv : Rq (lkN σ) v) (s t : Int) (hs0 : 0 ≤ s) (hs1 : s < 10) (ht0 : 0 ≤ t) (ht1 : t < 10) (m first : Int) (hm0 : 0 ≤ m) (hm1 : m < 1440) (hf0 : -1000 ≤ first) (hf1 : first ≤ 2000000) (hCv : CdIs v (pfL σ s t)) : ∀ (n : Nat) (k : Int) (dep : Int), 0 ≤ k → k ≤ 300 → n = ((pfL σ s t).length - k).toNat → -1 ≤ dep → dep ≤ 100000 → RunA mX9_next (qQ σ (nextR (pfL σ s t) (itr (nx1F (pfL σ s t) m first) n k dep))) 49 [(6, ai k), (5, ai dep), (4, ai first), (0, ar 153), (1, ai s), (2, ai t), (3, ai m)] [] v := by
  have hok := pf_ok hW hs0 hs1 ht0 ht1
  have k28 : gN v 153 28 = (pfL σ s t).length := hCv.1
  intro n
  induction n with
  | zero =>
    intro k dep h0 h5 hn hd0 hd1
    refine a_iload dX9_next_49 rfl ?_
    refine a_aload_n dX9_next_51 rfl rfl ?_
    refine a_getI (J := 28) fX9_267 k153 rfl rfl dX9_next_52 ?_
    refine a_icmp_ge (tgt := 108) dX9_next_55 (by decide) (inR_of (by omega) (by omega)) (inR_gN _ _ _) (fun c55 => ?_) (fun c55 => ?_)
    · refine a_iload dX9_next_108 rfl ?_
      refine a_iconst dX9_next_110 ?_
      refine a_icmp_ne (tgt := 117) dX9_next_111 (by decide) (inR_of (by omega) (by omega)) (inR_of (by omega) (by omega)) (fun c111 => ?_) (fun c111 => ?_)
      · refine a_ldc (x := 1000000) cX9_175 (by decide) dX9_next_117 ?_
        refine a_istore (ls' := [(6, ai 1000000), (5, ai dep), (4, ai first), (0, ar 153), (1, ai s), (2, ai t), (3, ai m)]) dX9_next_119 (Nat.le_of_ble_eq_true rfl) rfl ?_
        refine a_iconst dX9_next_121 ?_
        refine a_istore (ls' := [(7, ai 0), (6, ai 1000000), (5, ai dep), (4, ai first), (0, ar 153), (1, ai s), (2, ai t), (3, ai m)]) dX9_next_122 (Nat.le_of_ble_eq_true rfl) rfl ?_
        simp only [itr]
        rw [show nextR (pfL σ s t) dep = orN (itr (nx2F (pfL σ s t) dep) (pfL σ s t).length 0 1000000) from by unfold nextR; rw [if_neg (by omega)]]
        exact a_keep (by simp) (t_next_2 σ v hW hFv hTv hRv s t hs0 hs1 ht0 ht1 dep hd0 hd1 hCv _ 0 1000000 (by omega) (by omega) (by omega) (by omega) (by omega))
      · refine a_bipush (x := (-2)) dX9_next_114 (by decide) ?_
        exact a_iret rfl ⟨by simp only [itr]; unfold nextR; grind, hFv, hTv⟩ dX9_next_116
    · exfalso; omega
  | succ n ih =>
    intro k dep h0 h5 hn hd0 hd1
    refine a_iload dX9_next_49 rfl ?_
    refine a_aload_n dX9_next_51 rfl rfl ?_
    refine a_getI (J := 28) fX9_267 k153 rfl rfl dX9_next_52 ?_
    refine a_icmp_ge (tgt := 108) dX9_next_55 (by decide) (inR_of (by omega) (by omega)) (inR_gN _ _ _) (fun c55 => ?_) (fun c55 => ?_)
    · exfalso; omega
    · have ec := hCv.at (k := k) (by omega) (by omega)
      have bc : cdOK (cd (pfL σ s t) k) := cd_ok hok.2.1 (by omega) (by omega)
      unfold cdOK at bc
      refine a_aload_n dX9_next_58 rfl rfl ?_
      refine a_getF (d := 164) fX9_45 k153 rfl r153_25 dX9_next_59 ?_
      refine a_iload dX9_next_62 rfl ?_
      refine a_ild k164 n164 (by omega) (by omega) dX9_next_64 ?_
      refine a_iload_n dX9_next_65 rfl rfl ?_
      refine a_icmp_lt (tgt := 102) dX9_next_66 (by decide) (inR_gN _ _ _) (inR_of (by omega) (by omega)) (fun c66 => ?_) (fun c66 => ?_)
      · refine a_iinc (y := k + 1) (ls' := [(6, ai (k + 1)), (5, ai dep), (4, ai first), (0, ar 153), (1, ai s), (2, ai t), (3, ai m)]) dX9_next_102 rfl rfl (Nat.le_of_ble_eq_true rfl) rfl ?_
        refine a_goto (tgt := 49) dX9_next_105 (by decide) ?_
        have e : nx1F (pfL σ s t) m first k dep = dep := by unfold nx1F; grind
        rw [show itr (nx1F (pfL σ s t) m first) (n + 1) k dep = itr (nx1F (pfL σ s t) m first) n (k + 1) (nx1F (pfL σ s t) m first k dep) from rfl, e]
        exact a_keep (by simp) (ih (k + 1) (dep) (by omega) (by omega) (by omega) (by omega) (by omega))
      · refine a_aload_n dX9_next_69 rfl rfl ?_
        refine a_getF (d := 165) fX9_48 k153 rfl r153_26 dX9_next_70 ?_
        refine a_iload dX9_next_73 rfl ?_
        refine a_ild k165 n165 (by omega) (by omega) dX9_next_75 ?_
        refine a_iload dX9_next_76 rfl ?_
        refine a_icmp_ne (tgt := 102) dX9_next_78 (by decide) (inR_gN _ _ _) (inR_of (by omega) (by omega)) (fun c78 => ?_) (fun c78 => ?_)
        · refine a_iinc (y := k + 1) (ls' := [(6, ai (k + 1)), (5, ai dep), (4, ai first), (0, ar 153), (1, ai s), (2, ai t), (3, ai m)]) dX9_next_102 rfl rfl (Nat.le_of_ble_eq_true rfl) rfl ?_
          refine a_goto (tgt := 49) dX9_next_105 (by decide) ?_
          have e : nx1F (pfL σ s t) m first k dep = dep := by unfold nx1F; grind
          rw [show itr (nx1F (pfL σ s t) m first) (n + 1) k dep = itr (nx1F (pfL σ s t) m first) n (k + 1) (nx1F (pfL σ s t) m first k dep) from rfl, e]
          exact a_keep (by simp) (ih (k + 1) (dep) (by omega) (by omega) (by omega) (by omega) (by omega))
        · refine a_aload_n dX9_next_81 rfl rfl ?_
          refine a_getF (d := 164) fX9_45 k153 rfl r153_25 dX9_next_82 ?_
          refine a_iload dX9_next_85 rfl ?_
          refine a_ild k164 n164 (by omega) (by omega) dX9_next_87 ?_
          refine a_iload dX9_next_88 rfl ?_
          refine a_icmp_le (tgt := 102) dX9_next_90 (by decide) (inR_gN _ _ _) (inR_of (by omega) (by omega)) (fun c90 => ?_) (fun c90 => ?_)
          · refine a_iinc (y := k + 1) (ls' := [(6, ai (k + 1)), (5, ai dep), (4, ai first), (0, ar 153), (1, ai s), (2, ai t), (3, ai m)]) dX9_next_102 rfl rfl (Nat.le_of_ble_eq_true rfl) rfl ?_
            refine a_goto (tgt := 49) dX9_next_105 (by decide) ?_
            have e : nx1F (pfL σ s t) m first k dep = dep := by unfold nx1F; grind
            rw [show itr (nx1F (pfL σ s t) m first) (n + 1) k dep = itr (nx1F (pfL σ s t) m first) n (k + 1) (nx1F (pfL σ s t) m first k dep) from rfl, e]
            exact a_keep (by simp) (ih (k + 1) (dep) (by omega) (by omega) (by omega) (by omega) (by omega))
          · refine a_aload_n dX9_next_93 rfl rfl ?_
            refine a_getF (d := 164) fX9_45 k153 rfl r153_25 dX9_next_94 ?_
            refine a_iload dX9_next_97 rfl ?_
            refine a_ild k164 n164 (by omega) (by omega) dX9_next_99 ?_
            refine a_istore (ls' := [(5, ai (gN v 164 k)), (6, ai k), (4, ai first), (0, ar 153), (1, ai s), (2, ai t), (3, ai m)]) dX9_next_100 (Nat.le_of_ble_eq_true rfl) rfl ?_
            refine a_iinc (y := k + 1) (ls' := [(6, ai (k + 1)), (5, ai (gN v 164 k)), (4, ai first), (0, ar 153), (1, ai s), (2, ai t), (3, ai m)]) dX9_next_102 rfl rfl (Nat.le_of_ble_eq_true rfl) rfl ?_
            refine a_goto (tgt := 49) dX9_next_105 (by decide) ?_
            have e : nx1F (pfL σ s t) m first k dep = gN v 164 k := by unfold nx1F; grind
            rw [show itr (nx1F (pfL σ s t) m first) (n + 1) k dep = itr (nx1F (pfL σ s t) m first) n (k + 1) (nx1F (pfL σ s t) m first k dep) from rfl, e]
            exact a_keep (by simp) (ih (k + 1) (gN v 164 k) (by omega) (by omega) (by omega) (by omega) (by omega))

set_option maxRecDepth 20000 in
theorem t_next (σ : Sto) (s t m : Int) (hs : inR s) (ht : inR t) (hm : inR m) (hW : WOK σ) (hT : TOK σ) : MetA mX9_next [ar 153, ai s, ai t, ai m] σ (qQ σ (nextF σ s t m)) := by
  have hS := hW.2.1
  have hR := hW.1
  have hTr := hW.2.2.1
  refine a_entry (by decide) (Nat.le_of_ble_eq_true rfl) ?_
  refine a_aload_n dX9_next_0 rfl rfl ?_
  refine a_iconst dX9_next_1 ?_
  refine a_putI (J := 0) fX9_85 k153 rfl rfl rfl dX9_next_2 ?_
  refine a_aload_n dX9_next_5 rfl rfl ?_
  refine a_iload_n dX9_next_6 rfl rfl ?_
  refine a_iload_n dX9_next_7 rfl rfl ?_
  refine a_cI (c := 153) (as := [ai s, ai t]) (rest := []) (t_areTwo (sN σ 153 0 0) s t hs ht) mvX9_areTwo lX9_287 k153 (by decide) rfl rfl rfl rfl (Nat.le_of_ble_eq_true rfl) (Nat.le_of_ble_eq_true rfl) (Nat.le_of_ble_eq_true rfl) dX9_next_8 ?_
  refine a_topI (y := if two σ s t then 1 else 0) (by simp only [th155]) ?_
  refine a_ifb_eq (tgt := 21) dX9_next_11 (by decide) (fun c11 => ?_) (fun c11 => ?_)
  · refine a_iconst dX9_next_21 ?_
    exact a_iret rfl ⟨by unfold nextF; grind, th_F σ, th_T hT⟩ dX9_next_22
  · refine a_iload_n dX9_next_14 rfl rfl ?_
    refine a_sI (as := [ai m]) (rest := []) (t_isMinute (sN σ 153 0 0) m hm) mvX9_isMinute lX9_320 rfl rfl rfl (Nat.le_of_ble_eq_true rfl) (Nat.le_of_ble_eq_true rfl) (Nat.le_of_ble_eq_true rfl) dX9_next_15 ?_
    refine a_ifb_ne (tgt := 23) dX9_next_18 (by decide) (fun c18 => ?_) (fun c18 => ?_)
    · refine a_aload_n dX9_next_23 rfl rfl ?_
      refine a_callV (c := 153) (as := []) (rest := []) (t_looksNow (sN σ 153 0 0) (Q_W (th_F σ) hW) (th_T hT)) mvX9_looksNow lX9_290 k153 (by decide) rfl rfl rfl rfl (Nat.le_of_ble_eq_true rfl) (Nat.le_of_ble_eq_true rfl) (Nat.le_of_ble_eq_true rfl) dX9_next_24 (fun u hu => ?_)
      obtain ⟨hFu, hTu, hRu⟩ := lk_fin hW (th_F σ) (by omega) (by omega) hu.2
      have hWu := Q_W hFu hW
      refine a_aload_n dX9_next_27 rfl rfl ?_
      refine a_iload_n dX9_next_28 rfl rfl ?_
      refine a_iload_n dX9_next_29 rfl rfl ?_
      refine a_iload_n dX9_next_30 rfl rfl ?_
      refine a_iconst dX9_next_31 ?_
      refine a_cI (c := 153) (as := [ai s, ai t, ai m, ai 4]) (rest := []) (t_earliestOf u hWu hTu s t m 4 (by omega) (by omega) (by omega) (by omega) (by omega) (by omega) (by omega) (by omega)) mvX9_earliestOf lX9_316 k153 (by decide) rfl rfl rfl rfl (Nat.le_of_ble_eq_true rfl) (Nat.le_of_ble_eq_true rfl) (Nat.le_of_ble_eq_true rfl) dX9_next_32 ?_
      refine a_topI (y := EA σ s t m 4) (hRu.earliest _ _ _ _) ?_
      have rE32 := EA_rng hW (s := s) (t := t) (m := m) (k := 4) (by omega) (by omega) (by omega) (by omega) (by omega) (by omega)
      refine a_istore (ls' := [(4, ai (EA σ s t m 4)), (0, ar 153), (1, ai s), (2, ai t), (3, ai m)]) dX9_next_35 (Nat.le_of_ble_eq_true rfl) rfl ?_
      refine a_aload_n dX9_next_37 rfl rfl ?_
      refine a_iload_n dX9_next_38 rfl rfl ?_
      refine a_iload_n dX9_next_39 rfl rfl ?_
      refine a_callV (c := 153) (as := [ai s, ai t]) (rest := []) (t_laysCandidates u hWu hTu s t (by omega) (by omega) (by omega) (by omega)) mvX9_laysCandidates lX9_274 k153 (by decide) rfl rfl rfl rfl (Nat.le_of_ble_eq_true rfl) (Nat.le_of_ble_eq_true rfl) (Nat.le_of_ble_eq_true rfl) dX9_next_40 (fun v hv => ?_)
      obtain ⟨hFv, hTv, hRv, hCv⟩ := ca_fin hFu hTu hRu hv.2
      have hok := pf_ok hW (s := s) (t := t) (by omega) (by omega) (by omega) (by omega)
      have k28 : gN v 153 28 = (pfL σ s t).length := hCv.1
      have hWv := Q_W hFv hW
      refine a_iconst dX9_next_43 ?_
      refine a_istore (ls' := [(5, ai (-1)), (4, ai (EA σ s t m 4)), (0, ar 153), (1, ai s), (2, ai t), (3, ai m)]) dX9_next_44 (Nat.le_of_ble_eq_true rfl) rfl ?_
      refine a_iconst dX9_next_46 ?_
      refine a_istore (ls' := [(6, ai 0), (5, ai (-1)), (4, ai (EA σ s t m 4)), (0, ar 153), (1, ai s), (2, ai t), (3, ai m)]) dX9_next_47 (Nat.le_of_ble_eq_true rfl) rfl ?_
      rw [show nextF σ s t m = nextR (pfL σ s t) (itr (nx1F (pfL σ s t) m (EA σ s t m 4)) (pfL σ s t).length 0 (-1)) from by unfold nextF; rw [if_neg (by grind)]]
      exact a_keep (by simp) (t_next_1 σ v hW hFv hTv hRv s t (by omega) (by omega) (by omega) (by omega) m (EA σ s t m 4) (by omega) (by omega) (by omega) (by omega) hCv _ 0 (-1) (by omega) (by omega) (by omega) (by omega) (by omega))
    · refine a_iconst dX9_next_21 ?_
      exact a_iret rfl ⟨by unfold nextF; grind, th_F σ, th_T hT⟩ dX9_next_22

