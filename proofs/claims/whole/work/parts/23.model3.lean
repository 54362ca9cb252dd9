set_option maxRecDepth 20000 in
theorem t_btw (σ : Sto) (i k : Int) (hW : WOK σ) (h0 : 0 ≤ i) (h1 : i < 60) (h2 : 0 ≤ k) (h3 : k < 60) : MetI mX9_between [ar 153, ai i, ai k] σ (btw σ i k) σ := by
  have b := hW.2.2.2.1 i h0 h1
  have b1 := hW.2.2.2.1 k h2 h3
  refine a_entry (by decide) (Nat.le_of_ble_eq_true rfl) ?_
  refine a_aload_n dX9_between_0 rfl rfl ?_
  refine a_iload_n dX9_between_1 rfl rfl ?_
  refine a_iconst dX9_between_2 ?_
  refine a_cI (c := 153) (as := [ai i, ai 2]) (rest := []) (t_told σ i 2 (by omega) (by omega)) mvX9_told lX9_201 k153 (by decide) rfl rfl rfl rfl (Nat.le_of_ble_eq_true rfl) (Nat.le_of_ble_eq_true rfl) (Nat.le_of_ble_eq_true rfl) dX9_between_3 ?_
  refine a_istore_n (ls' := [(3, ai (gN σ 155 (115 + 5 * i + 2))), (0, ar 153), (1, ai i), (2, ai k)]) dX9_between_6 rfl (Nat.le_of_ble_eq_true rfl) rfl ?_
  refine a_aload_n dX9_between_7 rfl rfl ?_
  refine a_iload_n dX9_between_8 rfl rfl ?_
  refine a_iconst dX9_between_9 ?_
  refine a_cI (c := 153) (as := [ai k, ai 1]) (rest := []) (t_told σ k 1 (by omega) (by omega)) mvX9_told lX9_201 k153 (by decide) rfl rfl rfl rfl (Nat.le_of_ble_eq_true rfl) (Nat.le_of_ble_eq_true rfl) (Nat.le_of_ble_eq_true rfl) dX9_between_10 ?_
  refine a_istore (ls' := [(4, ai (gN σ 155 (115 + 5 * k + 1))), (3, ai (gN σ 155 (115 + 5 * i + 2))), (0, ar 153), (1, ai i), (2, ai k)]) dX9_between_13 (Nat.le_of_ble_eq_true rfl) rfl ?_
  refine a_iload_n dX9_between_15 rfl rfl ?_
  refine a_iload dX9_between_16 rfl ?_
  refine a_icmp_ne (tgt := 32) dX9_between_18 (by decide) (inR_gN _ _ _) (inR_gN _ _ _) (fun c18 => ?_) (fun c18 => ?_)
  · refine a_aload_n dX9_between_32 rfl rfl ?_
    refine a_iload_n dX9_between_33 rfl rfl ?_
    refine a_iload dX9_between_34 rfl ?_
    refine a_cI (c := 153) (as := [ai (gN σ 155 (115 + 5 * i + 2)), ai (gN σ 155 (115 + 5 * k + 1))]) (rest := []) (t_walked σ (gN σ 155 (115 + 5 * i + 2)) (gN σ 155 (115 + 5 * k + 1)) (by omega) (by omega)) mvX9_walked lX9_216 k153 (by decide) rfl rfl rfl rfl (Nat.le_of_ble_eq_true rfl) (Nat.le_of_ble_eq_true rfl) (Nat.le_of_ble_eq_true rfl) dX9_between_36 ?_
    exact a_iret rfl ⟨by unfold btw; grind, rfl⟩ dX9_between_39
  · refine a_aload_n dX9_between_21 rfl rfl ?_
    refine a_getF (d := 155) fX9_13 k153 rfl r153_3 dX9_between_22 ?_
    refine a_iconst dX9_between_25 ?_
    refine a_iload_n dX9_between_26 rfl rfl ?_
    refine a_iadd dX9_between_27 ?_
    refine a_ild k155 n155 (by omega) (by omega) dX9_between_28 ?_
    refine a_goto (tgt := 39) dX9_between_29 (by decide) ?_
    exact a_iret rfl ⟨by unfold btw; grind, rfl⟩ dX9_between_39

set_option maxRecDepth 20000 in
theorem t_earl_b (σ : Sto) (hW : WOK σ) (hT : TOK σ) (s t m k : Int) (hs0 : 0 ≤ s) (hs1 : s < 10) (ht0 : 0 ≤ t) (ht1 : t < 10) (hm0 : -1000 ≤ m) (hm1 : m ≤ 1000000) (hk0 : -1 ≤ k) (hk1 : k ≤ 4) : ∀ (n : Nat) (i : Int) (best : Int) (set : Int64), 0 ≤ i → i ≤ 5 → n = (k + 1 - i).toNat → -1000 ≤ best → best ≤ 2000000 → RunA mX9_earliestOf (qI (itr (e1F σ t) n i (best, set)).1 σ) 91 [(8, ai i), (5, ai best), (6, al set), (4, ai k), (0, ar 153), (1, ai s), (2, ai t), (3, ai m)] [] σ := by
  intro n
  induction n with
  | zero =>
    intro i best set h0 h5 hn hb0 hb1
    refine a_iload dX9_earliestOf_91 rfl ?_
    refine a_iload dX9_earliestOf_93 rfl ?_
    refine a_icmp_gt (tgt := 137) dX9_earliestOf_95 (by decide) (inR_of (by omega) (by omega)) (inR_of (by omega) (by omega)) (fun c95 => ?_) (fun c95 => ?_)
    · refine a_iload dX9_earliestOf_137 rfl ?_
      exact a_iret rfl ⟨rfl, rfl⟩ dX9_earliestOf_139
    · exfalso; omega
  | succ n ih =>
    intro i best set h0 h5 hn hb0 hb1
    refine a_iload dX9_earliestOf_91 rfl ?_
    refine a_iload dX9_earliestOf_93 rfl ?_
    refine a_icmp_gt (tgt := 137) dX9_earliestOf_95 (by decide) (inR_of (by omega) (by omega)) (inR_of (by omega) (by omega)) (fun c95 => ?_) (fun c95 => ?_)
    · exfalso; omega
    · have b := arrivesF_rng hW hT (set := set) ht0 ht1
      refine a_aload_n dX9_earliestOf_98 rfl rfl ?_
      refine a_lload dX9_earliestOf_99 rfl ?_
      refine a_iload_n dX9_earliestOf_101 rfl rfl ?_
      refine a_cI (c := 153) (as := [al set, ai t]) (rest := []) (t_arrives σ set t hW hT (by omega) (by omega)) mvX9_arrives lX9_260 k153 (by decide) rfl rfl rfl rfl (Nat.le_of_ble_eq_true rfl) (Nat.le_of_ble_eq_true rfl) (Nat.le_of_ble_eq_true rfl) dX9_earliestOf_102 ?_
      refine a_istore (ls' := [(9, ai (arrivesF σ set t)), (8, ai i), (5, ai best), (6, al set), (4, ai k), (0, ar 153), (1, ai s), (2, ai t), (3, ai m)]) dX9_earliestOf_105 (Nat.le_of_ble_eq_true rfl) rfl ?_
      refine a_iload dX9_earliestOf_107 rfl ?_
      refine a_iload dX9_earliestOf_109 rfl ?_
      refine a_icmp_ge (tgt := 119) dX9_earliestOf_111 (by decide) (inR_of (by omega) (by omega)) (inR_of (by omega) (by omega)) (fun c111 => ?_) (fun c111 => ?_)
      · refine a_iload dX9_earliestOf_119 rfl ?_
        refine a_istore (ls' := [(5, ai best), (9, ai (arrivesF σ set t)), (8, ai i), (6, al set), (4, ai k), (0, ar 153), (1, ai s), (2, ai t), (3, ai m)]) dX9_earliestOf_121 (Nat.le_of_ble_eq_true rfl) rfl ?_
        refine a_aload_n dX9_earliestOf_123 rfl rfl ?_
        refine a_lload dX9_earliestOf_124 rfl ?_
        refine a_cL (c := 153) (as := [al set]) (rest := []) (t_changed σ set hW) mvX9_changed lX9_264 k153 (by decide) rfl rfl rfl rfl (Nat.le_of_ble_eq_true rfl) (Nat.le_of_ble_eq_true rfl) (Nat.le_of_ble_eq_true rfl) dX9_earliestOf_126 ?_
        refine a_lstore (ls' := [(6, al (changedF σ set)), (5, ai best), (9, ai (arrivesF σ set t)), (8, ai i), (4, ai k), (0, ar 153), (1, ai s), (2, ai t), (3, ai m)]) dX9_earliestOf_129 (Nat.le_of_ble_eq_true rfl) rfl ?_
        refine a_iinc (y := i + 1) (ls' := [(8, ai (i + 1)), (6, al (changedF σ set)), (5, ai best), (9, ai (arrivesF σ set t)), (4, ai k), (0, ar 153), (1, ai s), (2, ai t), (3, ai m)]) dX9_earliestOf_131 rfl rfl (Nat.le_of_ble_eq_true rfl) rfl ?_
        refine a_goto (tgt := 91) dX9_earliestOf_134 (by decide) ?_
        have e : e1F σ t i (best, set) = (best, changedF σ set) := by unfold e1F; grind
        rw [show itr (e1F σ t) (n + 1) i (best, set) = itr (e1F σ t) n (i + 1) (e1F σ t i (best, set)) from rfl, e]
        exact a_keep (by simp) (ih (i + 1) (best) (changedF σ set) (by omega) (by omega) (by omega) (by omega) (by omega))
      · refine a_iload dX9_earliestOf_114 rfl ?_
        refine a_goto (tgt := 121) dX9_earliestOf_116 (by decide) ?_
        refine a_istore (ls' := [(5, ai (arrivesF σ set t)), (9, ai (arrivesF σ set t)), (8, ai i), (6, al set), (4, ai k), (0, ar 153), (1, ai s), (2, ai t), (3, ai m)]) dX9_earliestOf_121 (Nat.le_of_ble_eq_true rfl) rfl ?_
        refine a_aload_n dX9_earliestOf_123 rfl rfl ?_
        refine a_lload dX9_earliestOf_124 rfl ?_
        refine a_cL (c := 153) (as := [al set]) (rest := []) (t_changed σ set hW) mvX9_changed lX9_264 k153 (by decide) rfl rfl rfl rfl (Nat.le_of_ble_eq_true rfl) (Nat.le_of_ble_eq_true rfl) (Nat.le_of_ble_eq_true rfl) dX9_earliestOf_126 ?_
        refine a_lstore (ls' := [(6, al (changedF σ set)), (5, ai (arrivesF σ set t)), (9, ai (arrivesF σ set t)), (8, ai i), (4, ai k), (0, ar 153), (1, ai s), (2, ai t), (3, ai m)]) dX9_earliestOf_129 (Nat.le_of_ble_eq_true rfl) rfl ?_
        refine a_iinc (y := i + 1) (ls' := [(8, ai (i + 1)), (6, al (changedF σ set)), (5, ai (arrivesF σ set t)), (9, ai (arrivesF σ set t)), (4, ai k), (0, ar 153), (1, ai s), (2, ai t), (3, ai m)]) dX9_earliestOf_131 rfl rfl (Nat.le_of_ble_eq_true rfl) rfl ?_
        refine a_goto (tgt := 91) dX9_earliestOf_134 (by decide) ?_
        have e : e1F σ t i (best, set) = (arrivesF σ set t, changedF σ set) := by unfold e1F; grind
        rw [show itr (e1F σ t) (n + 1) i (best, set) = itr (e1F σ t) n (i + 1) (e1F σ t i (best, set)) from rfl, e]
        exact a_keep (by simp) (ih (i + 1) (arrivesF σ set t) (changedF σ set) (by omega) (by omega) (by omega) (by omega) (by omega))

set_option maxRecDepth 20000 in
theorem t_earl_a (σ : Sto) (hW : WOK σ) (hT : TOK σ) (s t m k : Int) (hs0 : 0 ≤ s) (hs1 : s < 10) (ht0 : 0 ≤ t) (ht1 : t < 10) (hm0 : -1000 ≤ m) (hm1 : m ≤ 1000000) (hk0 : -1 ≤ k) (hk1 : k ≤ 4) (best : Int) (hb0 : -1000 ≤ best) (hb1 : best ≤ 2000000) : ∀ (n : Nat) (i : Int) (set : Int64), 0 ≤ i → i ≤ 60 → n = (gN σ 155 3 - i).toNat → RunA mX9_earliestOf (qI (itr (e1F σ t) (k + 1).toNat 0 (best, staysF σ (itr (e0F σ s m) n i set))).1 σ) 32 [(8, ai i), (6, al set), (5, ai best), (0, ar 153), (1, ai s), (2, ai t), (3, ai m), (4, ai k)] [] σ := by
  have hR := hW.1
  intro n
  induction n with
  | zero =>
    intro i set h0 h60 hn
    refine a_iload dX9_earliestOf_32 rfl ?_
    refine a_aload_n dX9_earliestOf_34 rfl rfl ?_
    refine a_cI (c := 153) (as := []) (rest := [ai i]) (t_rides σ  ) mvX9_rides lX9_198 k153 (by decide) rfl rfl rfl rfl (Nat.le_of_ble_eq_true rfl) (Nat.le_of_ble_eq_true rfl) (Nat.le_of_ble_eq_true rfl) dX9_earliestOf_35 ?_
    refine a_icmp_ge (tgt := 80) dX9_earliestOf_38 (by decide) (inR_of (by omega) (by omega)) (inR_gN _ _ _) (fun c38 => ?_) (fun c38 => ?_)
    · refine a_aload_n dX9_earliestOf_80 rfl rfl ?_
      refine a_lload dX9_earliestOf_81 rfl ?_
      refine a_cL (c := 153) (as := [al set]) (rest := []) (t_stays σ set hW) mvX9_stays lX9_253 k153 (by decide) rfl rfl rfl rfl (Nat.le_of_ble_eq_true rfl) (Nat.le_of_ble_eq_true rfl) (Nat.le_of_ble_eq_true rfl) dX9_earliestOf_83 ?_
      refine a_lstore (ls' := [(6, al (staysF σ set)), (8, ai i), (5, ai best), (0, ar 153), (1, ai s), (2, ai t), (3, ai m), (4, ai k)]) dX9_earliestOf_86 (Nat.le_of_ble_eq_true rfl) rfl ?_
      refine a_iconst dX9_earliestOf_88 ?_
      refine a_istore (ls' := [(8, ai 0), (6, al (staysF σ set)), (5, ai best), (0, ar 153), (1, ai s), (2, ai t), (3, ai m), (4, ai k)]) dX9_earliestOf_89 (Nat.le_of_ble_eq_true rfl) rfl ?_
      exact a_keep (by simp [itr]) (t_earl_b σ hW hT s t m k hs0 hs1 ht0 ht1 hm0 hm1 hk0 hk1 _ 0 best _ (by omega) (by omega) (by omega) hb0 hb1)
    · exfalso; omega
  | succ n ih =>
    intro i set h0 h60 hn
    refine a_iload dX9_earliestOf_32 rfl ?_
    refine a_aload_n dX9_earliestOf_34 rfl rfl ?_
    refine a_cI (c := 153) (as := []) (rest := [ai i]) (t_rides σ  ) mvX9_rides lX9_198 k153 (by decide) rfl rfl rfl rfl (Nat.le_of_ble_eq_true rfl) (Nat.le_of_ble_eq_true rfl) (Nat.le_of_ble_eq_true rfl) dX9_earliestOf_35 ?_
    refine a_icmp_ge (tgt := 80) dX9_earliestOf_38 (by decide) (inR_of (by omega) (by omega)) (inR_gN _ _ _) (fun c38 => ?_) (fun c38 => ?_)
    · exfalso; omega
    · have b := lfF_rng hW hT hs0 hs1 (i := i) (by omega) (by omega)
      refine a_aload_n dX9_earliestOf_41 rfl rfl ?_
      refine a_iload_n dX9_earliestOf_42 rfl rfl ?_
      refine a_iload dX9_earliestOf_43 rfl ?_
      refine a_cI (c := 153) (as := [ai s, ai i]) (rest := []) (t_leavesFrom σ s i hW (by omega) (by omega) (by omega) (by omega)) mvX9_leavesFrom lX9_257 k153 (by decide) rfl rfl rfl rfl (Nat.le_of_ble_eq_true rfl) (Nat.le_of_ble_eq_true rfl) (Nat.le_of_ble_eq_true rfl) dX9_earliestOf_45 ?_
      refine a_istore (ls' := [(9, ai (lfF σ s i)), (8, ai i), (6, al set), (5, ai best), (0, ar 153), (1, ai s), (2, ai t), (3, ai m), (4, ai k)]) dX9_earliestOf_48 (Nat.le_of_ble_eq_true rfl) rfl ?_
      refine a_lload dX9_earliestOf_50 rfl ?_
      refine a_iload dX9_earliestOf_52 rfl ?_
      refine a_iload_n dX9_earliestOf_54 rfl rfl ?_
      refine a_icmp_lt (tgt := 70) dX9_earliestOf_55 (by decide) (inR_of (by omega) (by omega)) (inR_of (by omega) (by omega)) (fun c55 => ?_) (fun c55 => ?_)
      · refine a_lconst (v := 0) dX9_earliestOf_70 rfl ?_
        refine a_lor dX9_earliestOf_71 ?_
        refine a_lstore (ls' := [(6, al (set ||| 0)), (9, ai (lfF σ s i)), (8, ai i), (5, ai best), (0, ar 153), (1, ai s), (2, ai t), (3, ai m), (4, ai k)]) dX9_earliestOf_72 (Nat.le_of_ble_eq_true rfl) rfl ?_
        refine a_iinc (y := i + 1) (ls' := [(8, ai (i + 1)), (6, al (set ||| 0)), (9, ai (lfF σ s i)), (5, ai best), (0, ar 153), (1, ai s), (2, ai t), (3, ai m), (4, ai k)]) dX9_earliestOf_74 rfl rfl (Nat.le_of_ble_eq_true rfl) rfl ?_
        refine a_goto (tgt := 32) dX9_earliestOf_77 (by decide) ?_
        have e : e0F σ s m i set = set ||| 0 := by unfold e0F; grind
        rw [show itr (e0F σ s m) (n + 1) i set = itr (e0F σ s m) n (i + 1) (e0F σ s m i set) from rfl, e]
        exact a_keep (by simp) (ih (i + 1) (set ||| 0) (by omega) (by omega) (by omega))
      · refine a_iload dX9_earliestOf_58 rfl ?_
        refine a_if_lt (tgt := 70) dX9_earliestOf_60 (by decide) (inR_of (by omega) (by omega)) (fun c60 => ?_) (fun c60 => ?_)
        · refine a_lconst (v := 0) dX9_earliestOf_70 rfl ?_
          refine a_lor dX9_earliestOf_71 ?_
          refine a_lstore (ls' := [(6, al (set ||| 0)), (9, ai (lfF σ s i)), (8, ai i), (5, ai best), (0, ar 153), (1, ai s), (2, ai t), (3, ai m), (4, ai k)]) dX9_earliestOf_72 (Nat.le_of_ble_eq_true rfl) rfl ?_
          refine a_iinc (y := i + 1) (ls' := [(8, ai (i + 1)), (6, al (set ||| 0)), (9, ai (lfF σ s i)), (5, ai best), (0, ar 153), (1, ai s), (2, ai t), (3, ai m), (4, ai k)]) dX9_earliestOf_74 rfl rfl (Nat.le_of_ble_eq_true rfl) rfl ?_
          refine a_goto (tgt := 32) dX9_earliestOf_77 (by decide) ?_
          have e : e0F σ s m i set = set ||| 0 := by unfold e0F; grind
          rw [show itr (e0F σ s m) (n + 1) i set = itr (e0F σ s m) n (i + 1) (e0F σ s m i set) from rfl, e]
          exact a_keep (by simp) (ih (i + 1) (set ||| 0) (by omega) (by omega) (by omega))
        · refine a_lconst (v := 1) dX9_earliestOf_63 rfl ?_
          refine a_iload dX9_earliestOf_64 rfl ?_
          refine a_lshl dX9_earliestOf_66 ?_
          refine a_goto (tgt := 71) dX9_earliestOf_67 (by decide) ?_
          refine a_lor dX9_earliestOf_71 ?_
          refine a_lstore (ls' := [(6, al (set ||| (shlL 1 i))), (9, ai (lfF σ s i)), (8, ai i), (5, ai best), (0, ar 153), (1, ai s), (2, ai t), (3, ai m), (4, ai k)]) dX9_earliestOf_72 (Nat.le_of_ble_eq_true rfl) rfl ?_
          refine a_iinc (y := i + 1) (ls' := [(8, ai (i + 1)), (6, al (set ||| (shlL 1 i))), (9, ai (lfF σ s i)), (5, ai best), (0, ar 153), (1, ai s), (2, ai t), (3, ai m), (4, ai k)]) dX9_earliestOf_74 rfl rfl (Nat.le_of_ble_eq_true rfl) rfl ?_
          refine a_goto (tgt := 32) dX9_earliestOf_77 (by decide) ?_
          have e : e0F σ s m i set = set ||| (shlL 1 i) := by unfold e0F; grind
          rw [show itr (e0F σ s m) (n + 1) i set = itr (e0F σ s m) n (i + 1) (e0F σ s m i set) from rfl, e]
          exact a_keep (by simp) (ih (i + 1) (set ||| (shlL 1 i)) (by omega) (by omega) (by omega))

set_option maxRecDepth 20000 in
theorem t_earliestOf (σ : Sto) (hW : WOK σ) (hT : TOK σ) (s t m k : Int) (hs0 : 0 ≤ s) (hs1 : s < 10) (ht0 : 0 ≤ t) (ht1 : t < 10) (hm0 : -1000 ≤ m) (hm1 : m ≤ 1000000) (hk0 : -1 ≤ k) (hk1 : k ≤ 4) : MetI mX9_earliestOf [ar 153, ai s, ai t, ai m, ai k] σ (earliestF σ s t m k) σ := by
  have b := hW.2.2.2.2.1 s t hs0 hs1 ht0 ht1
  refine a_entry (by decide) (Nat.le_of_ble_eq_true rfl) ?_
  refine a_aload_n dX9_earliestOf_0 rfl rfl ?_
  refine a_iload_n dX9_earliestOf_1 rfl rfl ?_
  refine a_iload_n dX9_earliestOf_2 rfl rfl ?_
  refine a_cI (c := 153) (as := [ai s, ai t]) (rest := []) (t_walked σ s t (by omega) (by omega)) mvX9_walked lX9_216 k153 (by decide) rfl rfl rfl rfl (Nat.le_of_ble_eq_true rfl) (Nat.le_of_ble_eq_true rfl) (Nat.le_of_ble_eq_true rfl) dX9_earliestOf_3 ?_
  refine a_ldc (x := 1000000) cX9_175 (by decide) dX9_earliestOf_6 ?_
  refine a_icmp_lt (tgt := 16) dX9_earliestOf_8 (by decide) (inR_gN _ _ _) (inR_of (by omega) (by omega)) (fun c8 => ?_) (fun c8 => ?_)
  · refine a_iload_n dX9_earliestOf_16 rfl rfl ?_
    refine a_aload_n dX9_earliestOf_17 rfl rfl ?_
    refine a_iload_n dX9_earliestOf_18 rfl rfl ?_
    refine a_iload_n dX9_earliestOf_19 rfl rfl ?_
    refine a_cI (c := 153) (as := [ai s, ai t]) (rest := [ai m]) (t_walked σ s t (by omega) (by omega)) mvX9_walked lX9_216 k153 (by decide) rfl rfl rfl rfl (Nat.le_of_ble_eq_true rfl) (Nat.le_of_ble_eq_true rfl) (Nat.le_of_ble_eq_true rfl) dX9_earliestOf_20 ?_
    refine a_iadd dX9_earliestOf_23 ?_
    refine a_istore (ls' := [(5, ai (m + (gN σ 155 (15 + 10 * s + t)))), (0, ar 153), (1, ai s), (2, ai t), (3, ai m), (4, ai k)]) dX9_earliestOf_24 (Nat.le_of_ble_eq_true rfl) rfl ?_
    refine a_lconst (v := 0) dX9_earliestOf_26 rfl ?_
    refine a_lstore (ls' := [(6, al 0), (5, ai (m + (gN σ 155 (15 + 10 * s + t)))), (0, ar 153), (1, ai s), (2, ai t), (3, ai m), (4, ai k)]) dX9_earliestOf_27 (Nat.le_of_ble_eq_true rfl) rfl ?_
    refine a_iconst dX9_earliestOf_29 ?_
    refine a_istore (ls' := [(8, ai 0), (6, al 0), (5, ai (m + (gN σ 155 (15 + 10 * s + t)))), (0, ar 153), (1, ai s), (2, ai t), (3, ai m), (4, ai k)]) dX9_earliestOf_30 (Nat.le_of_ble_eq_true rfl) rfl ?_
    rw [show earliestF σ s t m k = (itr (e1F σ t) (k + 1).toNat 0 (m + (gN σ 155 (15 + 10 * s + t)), staysF σ (itr (e0F σ s m) (gN σ 155 3).toNat 0 0))).1 by unfold earliestF; grind]
    exact a_keep (by simp) (t_earl_a σ hW hT s t m k hs0 hs1 ht0 ht1 hm0 hm1 hk0 hk1 _ (by omega) (by omega) _ 0 0 (by omega) (by omega) (by omega))
  · refine a_ldc (x := 1000000) cX9_175 (by decide) dX9_earliestOf_11 ?_
    refine a_goto (tgt := 24) dX9_earliestOf_13 (by decide) ?_
    refine a_istore (ls' := [(5, ai 1000000), (0, ar 153), (1, ai s), (2, ai t), (3, ai m), (4, ai k)]) dX9_earliestOf_24 (Nat.le_of_ble_eq_true rfl) rfl ?_
    refine a_lconst (v := 0) dX9_earliestOf_26 rfl ?_
    refine a_lstore (ls' := [(6, al 0), (5, ai 1000000), (0, ar 153), (1, ai s), (2, ai t), (3, ai m), (4, ai k)]) dX9_earliestOf_27 (Nat.le_of_ble_eq_true rfl) rfl ?_
    refine a_iconst dX9_earliestOf_29 ?_
    refine a_istore (ls' := [(8, ai 0), (6, al 0), (5, ai 1000000), (0, ar 153), (1, ai s), (2, ai t), (3, ai m), (4, ai k)]) dX9_earliestOf_30 (Nat.le_of_ble_eq_true rfl) rfl ?_
    rw [show earliestF σ s t m k = (itr (e1F σ t) (k + 1).toNat 0 (1000000, staysF σ (itr (e0F σ s m) (gN σ 155 3).toNat 0 0))).1 by unfold earliestF; grind]
    exact a_keep (by simp) (t_earl_a σ hW hT s t m k hs0 hs1 ht0 ht1 hm0 hm1 hk0 hk1 _ (by omega) (by omega) _ 0 0 (by omega) (by omega) (by omega))

