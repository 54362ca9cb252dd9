set_option maxRecDepth 20000 in
theorem t_isAlike (σ : Sto) (a b : Int) (L : List Cd) (hC : CdIs σ L) (ha0 : 0 ≤ a) (ha1 : a < L.length) (hb0 : 0 ≤ b) (hb1 : b < L.length) (hL : (L.length : Int) ≤ 300) : MetI mX9_isAlike [ar 153, ai a, ai b] σ (if alk (cd L a) (cd L b) then 1 else 0) σ := by
  have ea := hC.at ha0 ha1
  have eb := hC.at hb0 hb1
  refine a_entry (by decide) (Nat.le_of_ble_eq_true rfl) ?_
  refine a_aload_n dX9_isAlike_0 rfl rfl ?_
  refine a_getF (d := 164) fX9_45 k153 rfl r153_25 dX9_isAlike_1 ?_
  refine a_iload_n dX9_isAlike_4 rfl rfl ?_
  refine a_ild k164 n164 (by omega) (by omega) dX9_isAlike_5 ?_
  refine a_aload_n dX9_isAlike_6 rfl rfl ?_
  refine a_getF (d := 164) fX9_45 k153 rfl r153_25 dX9_isAlike_7 ?_
  refine a_iload_n dX9_isAlike_10 rfl rfl ?_
  refine a_ild k164 n164 (by omega) (by omega) dX9_isAlike_11 ?_
  refine a_icmp_ne (tgt := 49) dX9_isAlike_12 (by decide) (inR_gN _ _ _) (inR_gN _ _ _) (fun c12 => ?_) (fun c12 => ?_)
  · refine a_iconst dX9_isAlike_49 ?_
    exact a_zret rfl (by omega) ⟨by grind, rfl⟩ dX9_isAlike_50
  · refine a_aload_n dX9_isAlike_15 rfl rfl ?_
    refine a_getF (d := 165) fX9_48 k153 rfl r153_26 dX9_isAlike_16 ?_
    refine a_iload_n dX9_isAlike_19 rfl rfl ?_
    refine a_ild k165 n165 (by omega) (by omega) dX9_isAlike_20 ?_
    refine a_aload_n dX9_isAlike_21 rfl rfl ?_
    refine a_getF (d := 165) fX9_48 k153 rfl r153_26 dX9_isAlike_22 ?_
    refine a_iload_n dX9_isAlike_25 rfl rfl ?_
    refine a_ild k165 n165 (by omega) (by omega) dX9_isAlike_26 ?_
    refine a_icmp_ne (tgt := 49) dX9_isAlike_27 (by decide) (inR_gN _ _ _) (inR_gN _ _ _) (fun c27 => ?_) (fun c27 => ?_)
    · refine a_iconst dX9_isAlike_49 ?_
      exact a_zret rfl (by omega) ⟨by grind, rfl⟩ dX9_isAlike_50
    · refine a_aload_n dX9_isAlike_30 rfl rfl ?_
      refine a_getF (d := 166) fX9_51 k153 rfl r153_27 dX9_isAlike_31 ?_
      refine a_iload_n dX9_isAlike_34 rfl rfl ?_
      refine a_ild k166 n166 (by omega) (by omega) dX9_isAlike_35 ?_
      refine a_aload_n dX9_isAlike_36 rfl rfl ?_
      refine a_getF (d := 166) fX9_51 k153 rfl r153_27 dX9_isAlike_37 ?_
      refine a_iload_n dX9_isAlike_40 rfl rfl ?_
      refine a_ild k166 n166 (by omega) (by omega) dX9_isAlike_41 ?_
      refine a_icmp_ne (tgt := 49) dX9_isAlike_42 (by decide) (inR_gN _ _ _) (inR_gN _ _ _) (fun c42 => ?_) (fun c42 => ?_)
      · refine a_iconst dX9_isAlike_49 ?_
        exact a_zret rfl (by omega) ⟨by grind, rfl⟩ dX9_isAlike_50
      · refine a_iconst dX9_isAlike_45 ?_
        refine a_goto (tgt := 50) dX9_isAlike_46 (by decide) ?_
        exact a_zret rfl (by omega) ⟨by grind, rfl⟩ dX9_isAlike_50

set_option maxRecDepth 20000 in
theorem t_isAhead (σ : Sto) (a b : Int) (L : List Cd) (hC : CdIs σ L) (ha0 : 0 ≤ a) (ha1 : a < L.length) (hb0 : 0 ≤ b) (hb1 : b < L.length) (hL : (L.length : Int) ≤ 300) : MetI mX9_isAhead [ar 153, ai a, ai b] σ (if ahd (cd L a) (cd L b) then 1 else 0) σ := by
  have ea := hC.at ha0 ha1
  have eb := hC.at hb0 hb1
  refine a_entry (by decide) (Nat.le_of_ble_eq_true rfl) ?_
  refine a_aload_n dX9_isAhead_0 rfl rfl ?_
  refine a_getF (d := 164) fX9_45 k153 rfl r153_25 dX9_isAhead_1 ?_
  refine a_iload_n dX9_isAhead_4 rfl rfl ?_
  refine a_ild k164 n164 (by omega) (by omega) dX9_isAhead_5 ?_
  refine a_aload_n dX9_isAhead_6 rfl rfl ?_
  refine a_getF (d := 164) fX9_45 k153 rfl r153_25 dX9_isAhead_7 ?_
  refine a_iload_n dX9_isAhead_10 rfl rfl ?_
  refine a_ild k164 n164 (by omega) (by omega) dX9_isAhead_11 ?_
  refine a_icmp_eq (tgt := 36) dX9_isAhead_12 (by decide) (inR_gN _ _ _) (inR_gN _ _ _) (fun c12 => ?_) (fun c12 => ?_)
  · refine a_aload_n dX9_isAhead_36 rfl rfl ?_
    refine a_getF (d := 165) fX9_48 k153 rfl r153_26 dX9_isAhead_37 ?_
    refine a_iload_n dX9_isAhead_40 rfl rfl ?_
    refine a_ild k165 n165 (by omega) (by omega) dX9_isAhead_41 ?_
    refine a_aload_n dX9_isAhead_42 rfl rfl ?_
    refine a_getF (d := 165) fX9_48 k153 rfl r153_26 dX9_isAhead_43 ?_
    refine a_iload_n dX9_isAhead_46 rfl rfl ?_
    refine a_ild k165 n165 (by omega) (by omega) dX9_isAhead_47 ?_
    refine a_icmp_eq (tgt := 74) dX9_isAhead_48 (by decide) (inR_gN _ _ _) (inR_gN _ _ _) (fun c48 => ?_) (fun c48 => ?_)
    · refine a_aload_n dX9_isAhead_74 rfl rfl ?_
      refine a_getF (d := 166) fX9_51 k153 rfl r153_27 dX9_isAhead_75 ?_
      refine a_iload_n dX9_isAhead_78 rfl rfl ?_
      refine a_ild k166 n166 (by omega) (by omega) dX9_isAhead_79 ?_
      refine a_aload_n dX9_isAhead_80 rfl rfl ?_
      refine a_getF (d := 166) fX9_51 k153 rfl r153_27 dX9_isAhead_81 ?_
      refine a_iload_n dX9_isAhead_84 rfl rfl ?_
      refine a_ild k166 n166 (by omega) (by omega) dX9_isAhead_85 ?_
      refine a_icmp_ge (tgt := 93) dX9_isAhead_86 (by decide) (inR_gN _ _ _) (inR_gN _ _ _) (fun c86 => ?_) (fun c86 => ?_)
      · refine a_iconst dX9_isAhead_93 ?_
        exact a_zret rfl (by omega) ⟨by grind, rfl⟩ dX9_isAhead_94
      · refine a_iconst dX9_isAhead_89 ?_
        refine a_goto (tgt := 94) dX9_isAhead_90 (by decide) ?_
        exact a_zret rfl (by omega) ⟨by grind, rfl⟩ dX9_isAhead_94
    · refine a_aload_n dX9_isAhead_51 rfl rfl ?_
      refine a_getF (d := 165) fX9_48 k153 rfl r153_26 dX9_isAhead_52 ?_
      refine a_iload_n dX9_isAhead_55 rfl rfl ?_
      refine a_ild k165 n165 (by omega) (by omega) dX9_isAhead_56 ?_
      refine a_aload_n dX9_isAhead_57 rfl rfl ?_
      refine a_getF (d := 165) fX9_48 k153 rfl r153_26 dX9_isAhead_58 ?_
      refine a_iload_n dX9_isAhead_61 rfl rfl ?_
      refine a_ild k165 n165 (by omega) (by omega) dX9_isAhead_62 ?_
      refine a_icmp_ge (tgt := 70) dX9_isAhead_63 (by decide) (inR_gN _ _ _) (inR_gN _ _ _) (fun c63 => ?_) (fun c63 => ?_)
      · refine a_iconst dX9_isAhead_70 ?_
        refine a_goto (tgt := 94) dX9_isAhead_71 (by decide) ?_
        exact a_zret rfl (by omega) ⟨by grind, rfl⟩ dX9_isAhead_94
      · refine a_iconst dX9_isAhead_66 ?_
        refine a_goto (tgt := 94) dX9_isAhead_67 (by decide) ?_
        exact a_zret rfl (by omega) ⟨by grind, rfl⟩ dX9_isAhead_94
  · refine a_aload_n dX9_isAhead_15 rfl rfl ?_
    refine a_getF (d := 164) fX9_45 k153 rfl r153_25 dX9_isAhead_16 ?_
    refine a_iload_n dX9_isAhead_19 rfl rfl ?_
    refine a_ild k164 n164 (by omega) (by omega) dX9_isAhead_20 ?_
    refine a_aload_n dX9_isAhead_21 rfl rfl ?_
    refine a_getF (d := 164) fX9_45 k153 rfl r153_25 dX9_isAhead_22 ?_
    refine a_iload_n dX9_isAhead_25 rfl rfl ?_
    refine a_ild k164 n164 (by omega) (by omega) dX9_isAhead_26 ?_
    refine a_icmp_ge (tgt := 34) dX9_isAhead_27 (by decide) (inR_gN _ _ _) (inR_gN _ _ _) (fun c27 => ?_) (fun c27 => ?_)
    · refine a_iconst dX9_isAhead_34 ?_
      exact a_zret rfl (by omega) ⟨by grind, rfl⟩ dX9_isAhead_35
    · refine a_iconst dX9_isAhead_30 ?_
      refine a_goto (tgt := 35) dX9_isAhead_31 (by decide) ?_
      exact a_zret rfl (by omega) ⟨by grind, rfl⟩ dX9_isAhead_35

set_option maxRecDepth 20000 in
theorem t_isLost_l (σ : Sto) (a s t : Int) (L : List Cd) (hW : WOK σ) (hC : CdIs σ L) (ha0 : 0 ≤ a) (ha1 : a < L.length) (hL : (L.length : Int) ≤ 300) (hs0 : 0 ≤ s) (hs1 : s < 10) (ht0 : 0 ≤ t) (ht1 : t < 10) : ∀ (n : Nat) (b : Int), 0 ≤ b → b ≤ L.length → n = (L.length - b).toNat → RunA mX9_isLost (qI (if anyZ (lsP L a) n b = true then 1 else 0) σ) 27 [(4, ai b), (0, ar 153), (1, ai a), (2, ai s), (3, ai t)] [] σ := by
  have h28 := hC.1
  have ea := hC.at ha0 ha1
  intro n
  induction n with
  | zero =>
    intro b h0 h60 hn
    refine a_iload dX9_isLost_27 rfl ?_
    refine a_aload_n dX9_isLost_29 rfl rfl ?_
    refine a_getI (J := 28) fX9_267 k153 rfl rfl dX9_isLost_30 ?_
    refine a_icmp_ge (tgt := 110) dX9_isLost_33 (by decide) (inR_of (by omega) (by omega)) (inR_gN _ _ _) (fun c33 => ?_) (fun c33 => ?_)
    · refine a_iconst dX9_isLost_110 ?_
      exact a_zret rfl (by omega) ⟨rfl, rfl⟩ dX9_isLost_111
    · exfalso; omega
  | succ n ih =>
    intro b h0 h60 hn
    refine a_iload dX9_isLost_27 rfl ?_
    refine a_aload_n dX9_isLost_29 rfl rfl ?_
    refine a_getI (J := 28) fX9_267 k153 rfl rfl dX9_isLost_30 ?_
    refine a_icmp_ge (tgt := 110) dX9_isLost_33 (by decide) (inR_of (by omega) (by omega)) (inR_gN _ _ _) (fun c33 => ?_) (fun c33 => ?_)
    · exfalso; omega
    · have eb := hC.at h0 (by omega)
      refine a_aload_n dX9_isLost_36 rfl rfl ?_
      refine a_iload_n dX9_isLost_37 rfl rfl ?_
      refine a_iload dX9_isLost_38 rfl ?_
      refine a_cI (c := 153) (as := [ai a, ai b]) (rest := []) (t_isAlike σ a b L hC (by omega) (by omega) (by omega) (by omega) hL) mvX9_isAlike lX9_270 k153 (by decide) rfl rfl rfl rfl (Nat.le_of_ble_eq_true rfl) (Nat.le_of_ble_eq_true rfl) (Nat.le_of_ble_eq_true rfl) dX9_isLost_40 ?_
      refine a_ifb_eq (tgt := 54) dX9_isLost_43 (by decide) (fun c43 => ?_) (fun c43 => ?_)
      · refine a_aload_n dX9_isLost_54 rfl rfl ?_
        refine a_getF (d := 164) fX9_45 k153 rfl r153_25 dX9_isLost_55 ?_
        refine a_iload dX9_isLost_58 rfl ?_
        refine a_ild k164 n164 (by omega) (by omega) dX9_isLost_60 ?_
        refine a_aload_n dX9_isLost_61 rfl rfl ?_
        refine a_getF (d := 164) fX9_45 k153 rfl r153_25 dX9_isLost_62 ?_
        refine a_iload_n dX9_isLost_65 rfl rfl ?_
        refine a_ild k164 n164 (by omega) (by omega) dX9_isLost_66 ?_
        refine a_icmp_lt (tgt := 104) dX9_isLost_67 (by decide) (inR_gN _ _ _) (inR_gN _ _ _) (fun c67 => ?_) (fun c67 => ?_)
        · refine a_iinc (y := b + 1) (ls' := [(4, ai (b + 1)), (0, ar 153), (1, ai a), (2, ai s), (3, ai t)]) dX9_isLost_104 rfl rfl (Nat.le_of_ble_eq_true rfl) rfl ?_
          refine a_goto (tgt := 27) dX9_isLost_107 (by decide) ?_
          have e : lsP L a b = false := by unfold lsP; grind
          rw [show anyZ (lsP L a) (n + 1) b = (lsP L a b || anyZ (lsP L a) n (b + 1)) from rfl, e, Bool.false_or]
          exact a_keep (by simp) (ih (b + 1) (by omega) (by omega) (by omega))
        · refine a_aload_n dX9_isLost_70 rfl rfl ?_
          refine a_getF (d := 165) fX9_48 k153 rfl r153_26 dX9_isLost_71 ?_
          refine a_iload dX9_isLost_74 rfl ?_
          refine a_ild k165 n165 (by omega) (by omega) dX9_isLost_76 ?_
          refine a_aload_n dX9_isLost_77 rfl rfl ?_
          refine a_getF (d := 165) fX9_48 k153 rfl r153_26 dX9_isLost_78 ?_
          refine a_iload_n dX9_isLost_81 rfl rfl ?_
          refine a_ild k165 n165 (by omega) (by omega) dX9_isLost_82 ?_
          refine a_icmp_gt (tgt := 104) dX9_isLost_83 (by decide) (inR_gN _ _ _) (inR_gN _ _ _) (fun c83 => ?_) (fun c83 => ?_)
          · refine a_iinc (y := b + 1) (ls' := [(4, ai (b + 1)), (0, ar 153), (1, ai a), (2, ai s), (3, ai t)]) dX9_isLost_104 rfl rfl (Nat.le_of_ble_eq_true rfl) rfl ?_
            refine a_goto (tgt := 27) dX9_isLost_107 (by decide) ?_
            have e : lsP L a b = false := by unfold lsP; grind
            rw [show anyZ (lsP L a) (n + 1) b = (lsP L a b || anyZ (lsP L a) n (b + 1)) from rfl, e, Bool.false_or]
            exact a_keep (by simp) (ih (b + 1) (by omega) (by omega) (by omega))
          · refine a_aload_n dX9_isLost_86 rfl rfl ?_
            refine a_getF (d := 166) fX9_51 k153 rfl r153_27 dX9_isLost_87 ?_
            refine a_iload dX9_isLost_90 rfl ?_
            refine a_ild k166 n166 (by omega) (by omega) dX9_isLost_92 ?_
            refine a_aload_n dX9_isLost_93 rfl rfl ?_
            refine a_getF (d := 166) fX9_51 k153 rfl r153_27 dX9_isLost_94 ?_
            refine a_iload_n dX9_isLost_97 rfl rfl ?_
            refine a_ild k166 n166 (by omega) (by omega) dX9_isLost_98 ?_
            refine a_icmp_gt (tgt := 104) dX9_isLost_99 (by decide) (inR_gN _ _ _) (inR_gN _ _ _) (fun c99 => ?_) (fun c99 => ?_)
            · refine a_iinc (y := b + 1) (ls' := [(4, ai (b + 1)), (0, ar 153), (1, ai a), (2, ai s), (3, ai t)]) dX9_isLost_104 rfl rfl (Nat.le_of_ble_eq_true rfl) rfl ?_
              refine a_goto (tgt := 27) dX9_isLost_107 (by decide) ?_
              have e : lsP L a b = false := by unfold lsP; grind
              rw [show anyZ (lsP L a) (n + 1) b = (lsP L a b || anyZ (lsP L a) n (b + 1)) from rfl, e, Bool.false_or]
              exact a_keep (by simp) (ih (b + 1) (by omega) (by omega) (by omega))
            · refine a_iconst dX9_isLost_102 ?_
              exact a_zret rfl (by omega) ⟨by rw [anyZ_here (show lsP L a b = true by unfold lsP; grind)]; rfl, rfl⟩ dX9_isLost_103
      · refine a_iload dX9_isLost_46 rfl ?_
        refine a_iload_n dX9_isLost_48 rfl rfl ?_
        refine a_icmp_ge (tgt := 104) dX9_isLost_49 (by decide) (inR_of (by omega) (by omega)) (inR_of (by omega) (by omega)) (fun c49 => ?_) (fun c49 => ?_)
        · refine a_iinc (y := b + 1) (ls' := [(4, ai (b + 1)), (0, ar 153), (1, ai a), (2, ai s), (3, ai t)]) dX9_isLost_104 rfl rfl (Nat.le_of_ble_eq_true rfl) rfl ?_
          refine a_goto (tgt := 27) dX9_isLost_107 (by decide) ?_
          have e : lsP L a b = false := by unfold lsP; grind
          rw [show anyZ (lsP L a) (n + 1) b = (lsP L a b || anyZ (lsP L a) n (b + 1)) from rfl, e, Bool.false_or]
          exact a_keep (by simp) (ih (b + 1) (by omega) (by omega) (by omega))
        · refine a_iconst dX9_isLost_52 ?_
          exact a_zret rfl (by omega) ⟨by rw [anyZ_here (show lsP L a b = true by unfold lsP; grind)]; rfl, rfl⟩ dX9_isLost_53

set_option maxRecDepth 20000 in
theorem t_isLost (σ : Sto) (a s t : Int) (L : List Cd) (hW : WOK σ) (hC : CdIs σ L) (ha0 : 0 ≤ a) (ha1 : a < L.length) (hL : (L.length : Int) ≤ 300) (hs0 : 0 ≤ s) (hs1 : s < 10) (ht0 : 0 ≤ t) (ht1 : t < 10) (hd0 : -100000 ≤ (cd L a).1) (hd1 : (cd L a).1 ≤ 100000) (hr0 : -1000 ≤ (cd L a).2.1) (hr1 : (cd L a).2.1 ≤ 1000000) : MetI mX9_isLost [ar 153, ai a, ai s, ai t] σ (if lost L (gN σ 155 (15 + 10 * s + t)) a then 1 else 0) σ := by
  have ea := hC.at ha0 ha1
  have bw := hW.2.2.2.2.1 s t hs0 hs1 ht0 ht1
  refine a_entry (by decide) (Nat.le_of_ble_eq_true rfl) ?_
  refine a_aload_n dX9_isLost_0 rfl rfl ?_
  refine a_iload_n dX9_isLost_1 rfl rfl ?_
  refine a_iload_n dX9_isLost_2 rfl rfl ?_
  refine a_cI (c := 153) (as := [ai s, ai t]) (rest := []) (t_walked σ s t (by omega) (by omega)) mvX9_walked lX9_216 k153 (by decide) rfl rfl rfl rfl (Nat.le_of_ble_eq_true rfl) (Nat.le_of_ble_eq_true rfl) (Nat.le_of_ble_eq_true rfl) dX9_isLost_3 ?_
  refine a_aload_n dX9_isLost_6 rfl rfl ?_
  refine a_getF (d := 165) fX9_48 k153 rfl r153_26 dX9_isLost_7 ?_
  refine a_iload_n dX9_isLost_10 rfl rfl ?_
  refine a_ild k165 n165 (by omega) (by omega) dX9_isLost_11 ?_
  refine a_aload_n dX9_isLost_12 rfl rfl ?_
  refine a_getF (d := 164) fX9_45 k153 rfl r153_25 dX9_isLost_13 ?_
  refine a_iload_n dX9_isLost_16 rfl rfl ?_
  refine a_ild k164 n164 (by omega) (by omega) dX9_isLost_17 ?_
  refine a_isub dX9_isLost_18 ?_
  refine a_icmp_gt (tgt := 24) dX9_isLost_19 (by decide) (inR_gN _ _ _) (inR_of (by omega) (by omega)) (fun c19 => ?_) (fun c19 => ?_)
  · refine a_iconst dX9_isLost_24 ?_
    refine a_istore (ls' := [(4, ai 0), (0, ar 153), (1, ai a), (2, ai s), (3, ai t)]) dX9_isLost_25 (Nat.le_of_ble_eq_true rfl) rfl ?_
    rw [show (if lost L (gN σ 155 (15 + 10 * s + t)) a then (1 : Int) else 0) = if anyZ (lsP L a) L.length 0 = true then 1 else 0 from by unfold lost; grind]
    exact a_keep (by simp) (t_isLost_l σ a s t L hW hC ha0 ha1 hL hs0 hs1 ht0 ht1 L.length 0 (by omega) (by omega) (by omega))
  · refine a_iconst dX9_isLost_22 ?_
    exact a_zret rfl (by omega) ⟨by unfold lost; grind, rfl⟩ dX9_isLost_23

theorem shift_gap {τ : Sto} {K : List Int} {n : Nat} {y : Int} (hG : KpGap τ K (n + 1)) (hK : K[n]? = some y) (hy : inR y) : KpGap (sN τ 167 ((n : Int) + 1) y) K n := by
  intro j x hj
  rw [gN_sN]
  by_cases h : j < n
  · rw [if_pos h, if_neg (by omega)]
    have := hG j x hj
    rw [if_pos (by omega)] at this
    exact this
  · rw [if_neg h]
    by_cases h2 : j = n
    · subst h2
      rw [if_pos ⟨rfl, rfl⟩, nrm_of hy]
      rw [hK] at hj
      cases hj
      rfl
    · rw [if_neg (by omega)]
      have := hG j x hj
      rw [if_neg (by omega)] at this
      exact this
theorem fill_gap {τ : Sto} {K : List Int} {n : Nat} {a v : Int} (hG : KpGap τ K n) (hn : n ≤ K.length) (ha : inR a) (hv : v = K.length + 1) (hl : (K.length : Int) < 1000) : KpIs (sN (sN τ 167 n a) 153 30 v) (K.take n ++ a :: K.drop n) := by
  refine ⟨?_, fun k x hk => ?_⟩
  · rw [gN_sN, if_pos ⟨rfl, rfl⟩, hv, nrm_of (inR_of (by omega) (by omega))]
    simp
    omega
  · rw [gN_sN, if_neg (by omega), gN_sN]
    by_cases h : k = n
    · subst h
      rw [if_pos ⟨rfl, rfl⟩, nrm_of ha]
      rw [List.getElem?_append_right (by simp; omega)] at hk
      simp [Nat.min_eq_left hn] at hk
      exact hk
    · rw [if_neg (by omega)]
      rcases Nat.lt_or_ge k n with q | q
      · rw [List.getElem?_append_left (by simp; omega), List.getElem?_take_of_lt q] at hk
        have := hG k x hk
        rw [if_pos q] at this
        exact this
      · obtain ⟨d, rfl⟩ : ∃ d, k = n + 1 + d := ⟨k - n - 1, by omega⟩
        rw [List.getElem?_append_right (by simp; omega)] at hk
        simp only [List.length_take, Nat.min_eq_left hn] at hk
        rw [show n + 1 + d - n = d + 1 by omega, List.getElem?_cons_succ, List.getElem?_drop] at hk
        have := hG (n + d) x hk
        rw [if_neg (by omega)] at this
        rw [show ((n + 1 + d : Nat) : Int) = ((n + d : Nat) : Int) + 1 by omega]
        exact this

set_option maxRecDepth 20000 in
theorem t_prof_i (σ : Sto) (s t : Int) (L : List Cd) (hW : WOK σ) (hC : CdIs σ L) (hL : (L.length : Int) ≤ 300) (hcb : ∀ k : Int, 0 ≤ k → k < L.length → (-100000 ≤ (cd L k).1 ∧ (cd L k).1 ≤ 100000) ∧ (-1000 ≤ (cd L k).2.1 ∧ (cd L k).2.1 ≤ 1000000)) (hs0 : 0 ≤ s) (hs1 : s < 10) (ht0 : 0 ≤ t) (ht1 : t < 10) (a : Int) (ha0 : 0 ≤ a) (ha1 : a < L.length) (K : List Int) (hK : ∀ x ∈ K, 0 ≤ x ∧ x < L.length) (hKl : (K.length : Int) ≤ a) (hx : ∀ (k : Nat) (τ : Sto), Fr pKp σ τ → KpGap τ K k → gN τ 153 30 = K.length → posK (fun y => decide (ahd (cd L a) (cd L y))) K K.length = k → RunA mX9_laysProfile (fun r u => r = none ∧ Fr pKp σ u ∧ KpIs u (keptL L (gN σ 155 (15 + 10 * s + t)))) 84 [(4, ai (k : Int)), (3, ai a), (0, ar 153), (1, ai s), (2, ai t)] [] τ) : ∀ (n : Nat) (τ : Sto), n ≤ K.length → Fr pKp σ τ → gN τ 153 30 = K.length → KpGap τ K n → posK (fun y => decide (ahd (cd L a) (cd L y))) K n = posK (fun y => decide (ahd (cd L a) (cd L y))) K K.length → RunA mX9_laysProfile (fun r u => r = none ∧ Fr pKp σ u ∧ KpIs u (keptL L (gN σ 155 (15 + 10 * s + t)))) 40 [(4, ai (n : Int)), (3, ai a), (0, ar 153), (1, ai s), (2, ai t)] [] τ := by
  intro n
  induction n with
  | zero =>
    intro τ hn hF h30 hG hP
    refine a_iload dX9_laysProfile_40 rfl ?_
    refine a_if_le (tgt := 84) dX9_laysProfile_42 (by decide) (inR_of (by omega) (by omega)) (fun c42 => ?_) (fun c42 => ?_)
    · exact hx 0 τ hF hG h30 hP.symm
    · exfalso; omega
  | succ n ih =>
    intro τ hn hF h30 hG hP
    refine a_keep (ls' := [(4, ai ((n : Int) + 1)), (3, ai a), (0, ar 153), (1, ai s), (2, ai t)]) (by simp) ?_
    refine a_iload dX9_laysProfile_40 rfl ?_
    refine a_if_le (tgt := 84) dX9_laysProfile_42 (by decide) (inR_of (by omega) (by omega)) (fun c42 => ?_) (fun c42 => ?_)
    · exfalso; omega
    · have eK2 : K[n]? = some (K.getD n 0) := by rw [List.getD_eq_getElem?_getD, List.getElem?_eq_getElem (by omega)]; rfl
      have eK : gN τ 167 (n : Int) = K.getD n 0 := by have := hG n _ eK2; rw [if_pos (by omega)] at this; exact this
      have bK := hK (K.getD n 0) (List.mem_of_getElem? eK2)
      refine a_aload_n dX9_laysProfile_45 rfl rfl ?_
      refine a_iload_n dX9_laysProfile_46 rfl rfl ?_
      refine a_aload_n dX9_laysProfile_47 rfl rfl ?_
      refine a_getF (d := 167) fX9_54 k153 rfl r153_29 dX9_laysProfile_48 ?_
      refine a_iload dX9_laysProfile_51 rfl ?_
      refine a_iconst dX9_laysProfile_53 ?_
      refine a_isub dX9_laysProfile_54 ?_
      refine a_ild k167 n167 (by omega) (by omega) dX9_laysProfile_55 ?_
      refine a_topI (y := K.getD n 0) (by rw [← eK]; congr 1; omega) ?_
      refine a_cI (c := 153) (as := [ai a, ai (K.getD n 0)]) (rest := []) (t_isAhead τ a (K.getD n 0) L (pKp_Cd hF hC) (by omega) (by omega) (by omega) (by omega) hL) mvX9_isAhead lX9_284 k153 (by decide) rfl rfl rfl rfl (Nat.le_of_ble_eq_true rfl) (Nat.le_of_ble_eq_true rfl) (Nat.le_of_ble_eq_true rfl) dX9_laysProfile_56 ?_
      refine a_ifb_eq (tgt := 84) dX9_laysProfile_59 (by decide) (fun c59 => ?_) (fun c59 => ?_)
      · refine a_keep (ls' := [(4, ai ((n + 1 : Nat) : Int)), (3, ai a), (0, ar 153), (1, ai s), (2, ai t)]) (by simp) ?_
        exact hx (n + 1) τ hF hG h30 (by rw [← hP]; show (if (fun y => decide (ahd (cd L a) (cd L y))) (K.getD n 0) = true then _ else _) = _; rw [if_neg (by simpa using c59)])
      · refine a_aload_n dX9_laysProfile_62 rfl rfl ?_
        refine a_getF (d := 167) fX9_54 k153 rfl r153_29 dX9_laysProfile_63 ?_
        refine a_iload dX9_laysProfile_66 rfl ?_
        refine a_aload_n dX9_laysProfile_68 rfl rfl ?_
        refine a_getF (d := 167) fX9_54 k153 rfl r153_29 dX9_laysProfile_69 ?_
        refine a_iload dX9_laysProfile_72 rfl ?_
        refine a_iconst dX9_laysProfile_74 ?_
        refine a_isub dX9_laysProfile_75 ?_
        refine a_ild k167 n167 (by omega) (by omega) dX9_laysProfile_76 ?_
        refine a_topI (y := K.getD n 0) (by rw [← eK]; congr 1; omega) ?_
        refine a_ist k167 n167 (by omega) (by omega) dX9_laysProfile_77 ?_
        refine a_iinc (y := ((n : Int) + 1) + (-1)) (ls' := [(4, ai (((n : Int) + 1) + (-1))), (3, ai a), (0, ar 153), (1, ai s), (2, ai t)]) dX9_laysProfile_78 rfl rfl (Nat.le_of_ble_eq_true rfl) rfl ?_
        refine a_goto (tgt := 40) dX9_laysProfile_81 (by decide) ?_
        have ep : posK (fun y => decide (ahd (cd L a) (cd L y))) K (n + 1) = posK (fun y => decide (ahd (cd L a) (cd L y))) K n := by show (if (fun y => decide (ahd (cd L a) (cd L y))) (K.getD n 0) = true then _ else _) = _; rw [if_pos (by simpa using c59)]
        refine a_keep (ls' := [(4, ai (n : Int)), (3, ai a), (0, ar 153), (1, ai s), (2, ai t)]) (by simp; omega) ?_
        exact ih (sN τ 167 ((n : Int) + 1) (K.getD n 0)) (by omega) (hF.sN (by unfold pKp; omega)) (by rw [gN_sN, if_neg (by omega)]; exact h30) (shift_gap hG eK2 (inR_of (by omega) (by omega))) (by rw [← ep]; exact hP)

set_option maxRecDepth 20000 in
theorem t_prof_o (σ : Sto) (s t : Int) (L : List Cd) (hW : WOK σ) (hC : CdIs σ L) (hL : (L.length : Int) ≤ 300) (hcb : ∀ k : Int, 0 ≤ k → k < L.length → (-100000 ≤ (cd L k).1 ∧ (cd L k).1 ≤ 100000) ∧ (-1000 ≤ (cd L k).2.1 ∧ (cd L k).2.1 ≤ 1000000)) (hs0 : 0 ≤ s) (hs1 : s < 10) (ht0 : 0 ≤ t) (ht1 : t < 10) : ∀ (n : Nat) (a : Int) (τ : Sto) (K : List Int), 0 ≤ a → a ≤ L.length → n = (L.length - a).toNat → (K.length : Int) ≤ a → (∀ x ∈ K, 0 ≤ x ∧ x < L.length) → Fr pKp σ τ → KpIs τ K → keptL L (gN σ 155 (15 + 10 * s + t)) = itr (kpF L (gN σ 155 (15 + 10 * s + t))) n a K → RunA mX9_laysProfile (fun r u => r = none ∧ Fr pKp σ u ∧ KpIs u (keptL L (gN σ 155 (15 + 10 * s + t)))) 13 [(3, ai a), (0, ar 153), (1, ai s), (2, ai t)] [] τ := by
  intro n
  induction n with
  | zero =>
    intro a τ K h0 h60 hn hKl hK hF hKp hE
    have h28 := (pKp_Cd hF hC).1
    refine a_iload_n dX9_laysProfile_13 rfl rfl ?_
    refine a_aload_n dX9_laysProfile_14 rfl rfl ?_
    refine a_getI (J := 28) fX9_267 k153 rfl rfl dX9_laysProfile_15 ?_
    refine a_icmp_ge (tgt := 108) dX9_laysProfile_18 (by decide) (inR_of (by omega) (by omega)) (inR_gN _ _ _) (fun c18 => ?_) (fun c18 => ?_)
    · exact a_vret rfl ⟨rfl, hF, by rw [hE]; exact hKp⟩ dX9_laysProfile_108
    · exfalso; omega
  | succ n ih =>
    intro a τ K h0 h60 hn hKl hK hF hKp hE
    have h28 := (pKp_Cd hF hC).1
    refine a_iload_n dX9_laysProfile_13 rfl rfl ?_
    refine a_aload_n dX9_laysProfile_14 rfl rfl ?_
    refine a_getI (J := 28) fX9_267 k153 rfl rfl dX9_laysProfile_15 ?_
    refine a_icmp_ge (tgt := 108) dX9_laysProfile_18 (by decide) (inR_of (by omega) (by omega)) (inR_gN _ _ _) (fun c18 => ?_) (fun c18 => ?_)
    · exfalso; omega
    · have bc := hcb a h0 (by omega)
      refine a_aload_n dX9_laysProfile_21 rfl rfl ?_
      refine a_iload_n dX9_laysProfile_22 rfl rfl ?_
      refine a_iload_n dX9_laysProfile_23 rfl rfl ?_
      refine a_iload_n dX9_laysProfile_24 rfl rfl ?_
      refine a_cI (c := 153) (as := [ai a, ai s, ai t]) (rest := []) (t_isLost τ a s t L ((pKp_Rd hF).W hW) (pKp_Cd hF hC) (by omega) (by omega) hL hs0 hs1 ht0 ht1 (by omega) (by omega) (by omega) (by omega)) mvX9_isLost lX9_281 k153 (by decide) rfl rfl rfl rfl (Nat.le_of_ble_eq_true rfl) (Nat.le_of_ble_eq_true rfl) (Nat.le_of_ble_eq_true rfl) dX9_laysProfile_25 ?_
      refine a_topI (y := if lost L (gN σ 155 (15 + 10 * s + t)) a then 1 else 0) (by rw [(pKp_Rd hF).1]) ?_
      refine a_ifb_eq (tgt := 34) dX9_laysProfile_28 (by decide) (fun c28 => ?_) (fun c28 => ?_)
      · refine a_aload_n dX9_laysProfile_34 rfl rfl ?_
        refine a_getI (J := 30) fX9_278 k153 rfl rfl dX9_laysProfile_35 ?_
        refine a_istore (ls' := [(4, ai (gN τ 153 30)), (3, ai a), (0, ar 153), (1, ai s), (2, ai t)]) dX9_laysProfile_38 (Nat.le_of_ble_eq_true rfl) rfl ?_
        have e : kpF L (gN σ 155 (15 + 10 * s + t)) a K = insK (fun y => decide (ahd (cd L a) (cd L y))) a K := by unfold kpF; rw [if_neg (by assumption)]
        refine a_keep (ls' := [(4, ai (K.length : Int)), (3, ai a), (0, ar 153), (1, ai s), (2, ai t)]) (by rw [hKp.1]; simp) ?_
        refine t_prof_i σ s t L hW hC hL hcb hs0 hs1 ht0 ht1 a h0 (by omega) K hK (by omega) (fun k υ hFu hGu h30u hPu => ?_) K.length τ (Nat.le_refl _) hF hKp.1 (fun j x hj => by rw [if_pos (by have := (List.getElem?_eq_some_iff.mp hj).1; exact this)]; exact hKp.2 j x hj) rfl
        have hpk := posK_le (p := (fun y => decide (ahd (cd L a) (cd L y)))) (K := K) K.length
        have n30 := h30u
        refine a_aload_n dX9_laysProfile_84 rfl rfl ?_
        refine a_getF (d := 167) fX9_54 k153 rfl r153_29 dX9_laysProfile_85 ?_
        refine a_iload dX9_laysProfile_88 rfl ?_
        refine a_iload_n dX9_laysProfile_90 rfl rfl ?_
        refine a_ist k167 n167 (by omega) (by omega) dX9_laysProfile_91 ?_
        refine a_aload_n dX9_laysProfile_92 rfl rfl ?_
        refine a_dup dX9_laysProfile_93 rfl ?_
        refine a_getI (J := 30) fX9_278 k153 rfl rfl dX9_laysProfile_94 ?_
        refine a_topI (y := gN υ 153 30) (by simp [gN_sN]) ?_
        refine a_iconst dX9_laysProfile_97 ?_
        refine a_iadd dX9_laysProfile_98 ?_
        refine a_putI (J := 30) fX9_278 k153 rfl rfl rfl dX9_laysProfile_99 ?_
        refine a_iinc (y := a + 1) (ls' := [(3, ai (a + 1)), (4, ai (k : Int)), (0, ar 153), (1, ai s), (2, ai t)]) dX9_laysProfile_102 rfl rfl (Nat.le_of_ble_eq_true rfl) rfl ?_
        refine a_goto (tgt := 13) dX9_laysProfile_105 (by decide) ?_
        refine a_keep (ls' := [(3, ai (a + 1)), (0, ar 153), (1, ai s), (2, ai t)]) (by simp) ?_
        refine ih (a + 1) (sN (sN υ 167 (k : Int) a) 153 30 (gN υ 153 30 + 1)) (insK (fun y => decide (ahd (cd L a) (cd L y))) a K) (by omega) (by omega) (by omega) (by rw [insK_len]; omega) (fun x hx => ?_) ((hFu.sN (by unfold pKp; omega)).sN (by unfold pKp; omega)) ?_ (by rw [hE, itr_s, e])
        · rcases insK_mem hx with q | q
          · omega
          · exact hK x q
        · have := fill_gap hGu (a := a) (v := gN υ 153 30 + 1) (by omega) (inR_of (by omega) (by omega)) (by omega) (by omega)
          unfold insK; rw [hPu]; exact this
      · refine a_goto (tgt := 102) dX9_laysProfile_31 (by decide) ?_
        refine a_iinc (y := a + 1) (ls' := [(3, ai (a + 1)), (0, ar 153), (1, ai s), (2, ai t)]) dX9_laysProfile_102 rfl rfl (Nat.le_of_ble_eq_true rfl) rfl ?_
        refine a_goto (tgt := 13) dX9_laysProfile_105 (by decide) ?_
        have e : kpF L (gN σ 155 (15 + 10 * s + t)) a K = K := by unfold kpF; rw [if_pos (by assumption)]
        exact a_keep (by simp) (ih (a + 1) τ K (by omega) (by omega) (by omega) (by omega) hK hF hKp (by rw [hE, itr_s, e]))

