set_option maxRecDepth 20000 in
theorem t_moves_l (σ ω : Sto) (hW : WOK σ) (hFω : Fr pQ σ ω) (hTω : TOK ω) (hRω : Rq (lkN σ) ω) (P : List (Int × Int)) (hRo : RoIs ω P) (hP0 : 0 < P.length) (hP5 : P.length ≤ 5) (hlk : ∀ q ∈ P, lgOK (gN σ 155 3) q) (s t : Int) : ∀ (n : Nat) (l : Int) (sum : Int), 0 ≤ l → l ≤ P.length → n = (P.length - l).toNat → -100000 * (l + 1) ≤ sum → sum ≤ 10000000 * (l + 1) → RunA mX9_moves (qI (itr (mvF σ P) n l sum) ω) 40 [(5, ai l), (4, ai sum), (0, ar 153), (1, ai s), (2, ai t), (3, ai (P.length : Int))] [] ω := by
  have hWω := Q_W hFω hW
  have hR := hW.1
  intro n
  induction n with
  | zero =>
    intro l sum h0 h5 hn hs0 hs1
    refine a_iload dX9_moves_40 rfl ?_
    refine a_iload_n dX9_moves_42 rfl rfl ?_
    refine a_icmp_ge (tgt := 122) dX9_moves_43 (by decide) (inR_of (by omega) (by omega)) (inR_of (by omega) (by omega)) (fun c43 => ?_) (fun c43 => ?_)
    · refine a_iload dX9_moves_122 rfl ?_
      exact a_iret rfl ⟨rfl, rfl⟩ dX9_moves_124
    · exfalso; omega
  | succ n ih =>
    intro l sum h0 h5 hn hs0 hs1
    refine a_iload dX9_moves_40 rfl ?_
    refine a_iload_n dX9_moves_42 rfl rfl ?_
    refine a_icmp_ge (tgt := 122) dX9_moves_43 (by decide) (inR_of (by omega) (by omega)) (inR_of (by omega) (by omega)) (fun c43 => ?_) (fun c43 => ?_)
    · exfalso; omega
    · have ra := hRo.at (l := l) (by omega) (by omega)
      have qa := hlk _ ra.2.2
      unfold lgOK at qa
      have ta := hRω.2.2.1 (lg P (l)).1 (by omega) (by have := qa; rw [show gN (lkN σ) 155 3 = gN σ 155 3 from rfl]; omega)
      have ya := hRω.2.2.1 (lg P (l)).2 (by omega) (by have := qa; rw [show gN (lkN σ) 155 3 = gN σ 155 3 from rfl]; omega)
      have za := LV_rng hW (x := (lg P (l)).1) (by omega) (by omega)
      have xa := LV_rng hW (x := (lg P (l)).2) (by omega) (by omega)
      have wa := hW.2.2.2.1 (lg P (l)).1 (by omega) (by omega)
      have va := hW.2.2.2.1 (lg P (l)).2 (by omega) (by omega)
      refine a_iload dX9_moves_46 rfl ?_
      refine a_aload_n dX9_moves_48 rfl rfl ?_
      refine a_getF (d := 162) fX9_39 k153 rfl r153_22 dX9_moves_49 ?_
      refine a_aload_n dX9_moves_52 rfl rfl ?_
      refine a_getF (d := 171) fX9_67 k153 rfl r153_34 dX9_moves_53 ?_
      refine a_iload dX9_moves_56 rfl ?_
      refine a_ild k171 n171 (by omega) (by omega) dX9_moves_58 ?_
      refine a_topI (y := (lg P l).2) ra.2.1 ?_
      refine a_ild k162 n162 (by omega) (by omega) dX9_moves_59 ?_
      refine a_topI (y := CM σ (lg P l).2) ya.2.1 ?_
      refine a_aload_n dX9_moves_60 rfl rfl ?_
      refine a_getF (d := 161) fX9_36 k153 rfl r153_21 dX9_moves_61 ?_
      refine a_aload_n dX9_moves_64 rfl rfl ?_
      refine a_getF (d := 170) fX9_64 k153 rfl r153_33 dX9_moves_65 ?_
      refine a_iload dX9_moves_68 rfl ?_
      refine a_ild k170 n170 (by omega) (by omega) dX9_moves_70 ?_
      refine a_topI (y := (lg P l).1) ra.1 ?_
      refine a_ild k161 n161 (by omega) (by omega) dX9_moves_71 ?_
      refine a_topI (y := LV σ (lg P l).1) ta.1 ?_
      refine a_isub dX9_moves_72 ?_
      refine a_iadd dX9_moves_73 ?_
      refine a_istore (ls' := [(4, ai (sum + (CM σ (lg P l).2 - (LV σ (lg P l).1)))), (5, ai l), (0, ar 153), (1, ai s), (2, ai t), (3, ai (P.length : Int))]) dX9_moves_74 (Nat.le_of_ble_eq_true rfl) rfl ?_
      refine a_iload dX9_moves_76 rfl ?_
      refine a_if_le (tgt := 116) dX9_moves_78 (by decide) (inR_of (by omega) (by omega)) (fun c78 => ?_) (fun c78 => ?_)
      · refine a_iinc (y := l + 1) (ls' := [(5, ai (l + 1)), (4, ai (sum + (CM σ (lg P l).2 - (LV σ (lg P l).1)))), (0, ar 153), (1, ai s), (2, ai t), (3, ai (P.length : Int))]) dX9_moves_116 rfl rfl (Nat.le_of_ble_eq_true rfl) rfl ?_
        refine a_goto (tgt := 40) dX9_moves_119 (by decide) ?_
        have e : mvF σ P l sum = sum + (CM σ (lg P l).2 - (LV σ (lg P l).1)) := by unfold mvF; grind
        rw [show itr (mvF σ P) (n + 1) l sum = itr (mvF σ P) n (l + 1) (mvF σ P l sum) from rfl, e]
        exact a_keep (by simp) (ih (l + 1) (sum + (CM σ (lg P l).2 - (LV σ (lg P l).1))) (by omega) (by omega) (by omega) (by omega) (by omega))
      · have rb := hRo.at (l := l - 1) (by omega) (by omega)
        have qb := hlk _ rb.2.2
        unfold lgOK at qb
        have tb := hRω.2.2.1 (lg P (l - 1)).1 (by omega) (by have := qb; rw [show gN (lkN σ) 155 3 = gN σ 155 3 from rfl]; omega)
        have yb := hRω.2.2.1 (lg P (l - 1)).2 (by omega) (by have := qb; rw [show gN (lkN σ) 155 3 = gN σ 155 3 from rfl]; omega)
        have zb := LV_rng hW (x := (lg P (l - 1)).1) (by omega) (by omega)
        have xb := LV_rng hW (x := (lg P (l - 1)).2) (by omega) (by omega)
        have wb := hW.2.2.2.1 (lg P (l - 1)).1 (by omega) (by omega)
        have vb := hW.2.2.2.1 (lg P (l - 1)).2 (by omega) (by omega)
        have bw := hW.2.2.2.2.1 _ _ vb.2.2.1.1 vb.2.2.1.2 wa.2.1.1 wa.2.1.2
        refine a_iload dX9_moves_81 rfl ?_
        refine a_aload_n dX9_moves_83 rfl rfl ?_
        refine a_aload_n dX9_moves_84 rfl rfl ?_
        refine a_aload_n dX9_moves_85 rfl rfl ?_
        refine a_getF (d := 171) fX9_67 k153 rfl r153_34 dX9_moves_86 ?_
        refine a_iload dX9_moves_89 rfl ?_
        refine a_iconst dX9_moves_91 ?_
        refine a_isub dX9_moves_92 ?_
        refine a_ild k171 n171 (by omega) (by omega) dX9_moves_93 ?_
        refine a_topI (y := (lg P (l - 1)).2) rb.2.1 ?_
        refine a_iconst dX9_moves_94 ?_
        refine a_cI (c := 153) (as := [ai ((lg P (l - 1)).2), ai 2]) (rest := [ar 153, ai (sum + (CM σ (lg P l).2 - (LV σ (lg P l).1)))]) (t_told ω ((lg P (l - 1)).2) 2 (by omega) (by omega)) mvX9_told lX9_201 k153 (by decide) rfl rfl rfl rfl (Nat.le_of_ble_eq_true rfl) (Nat.le_of_ble_eq_true rfl) (Nat.le_of_ble_eq_true rfl) dX9_moves_95 ?_
        refine a_topI (y := gN σ 155 (115 + 5 * ((lg P (l - 1)).2) + 2)) (Q155 hFω _) ?_
        refine a_aload_n dX9_moves_98 rfl rfl ?_
        refine a_aload_n dX9_moves_99 rfl rfl ?_
        refine a_getF (d := 170) fX9_64 k153 rfl r153_33 dX9_moves_100 ?_
        refine a_iload dX9_moves_103 rfl ?_
        refine a_ild k170 n170 (by omega) (by omega) dX9_moves_105 ?_
        refine a_topI (y := (lg P l).1) ra.1 ?_
        refine a_iconst dX9_moves_106 ?_
        refine a_cI (c := 153) (as := [ai ((lg P l).1), ai 1]) (rest := [ai (gN σ 155 (115 + 5 * ((lg P (l - 1)).2) + 2)), ar 153, ai (sum + (CM σ (lg P l).2 - (LV σ (lg P l).1)))]) (t_told ω ((lg P l).1) 1 (by omega) (by omega)) mvX9_told lX9_201 k153 (by decide) rfl rfl rfl rfl (Nat.le_of_ble_eq_true rfl) (Nat.le_of_ble_eq_true rfl) (Nat.le_of_ble_eq_true rfl) dX9_moves_107 ?_
        refine a_topI (y := gN σ 155 (115 + 5 * ((lg P l).1) + 1)) (Q155 hFω _) ?_
        refine a_cI (c := 153) (as := [ai (gN σ 155 (115 + 5 * ((lg P (l - 1)).2) + 2)), ai (gN σ 155 (115 + 5 * ((lg P l).1) + 1))]) (rest := [ai (sum + (CM σ (lg P l).2 - (LV σ (lg P l).1)))]) (t_walked ω (gN σ 155 (115 + 5 * ((lg P (l - 1)).2) + 2)) (gN σ 155 (115 + 5 * ((lg P l).1) + 1)) (by omega) (by omega)) mvX9_walked lX9_216 k153 (by decide) rfl rfl rfl rfl (Nat.le_of_ble_eq_true rfl) (Nat.le_of_ble_eq_true rfl) (Nat.le_of_ble_eq_true rfl) dX9_moves_110 ?_
        refine a_topI (y := gN σ 155 (15 + 10 * (gN σ 155 (115 + 5 * ((lg P (l - 1)).2) + 2)) + (gN σ 155 (115 + 5 * ((lg P l).1) + 1)))) (Q155 hFω _) ?_
        refine a_iadd dX9_moves_113 ?_
        refine a_istore (ls' := [(4, ai (sum + (CM σ (lg P l).2 - (LV σ (lg P l).1)) + (gN σ 155 (15 + 10 * (gN σ 155 (115 + 5 * ((lg P (l - 1)).2) + 2)) + (gN σ 155 (115 + 5 * ((lg P l).1) + 1)))))), (5, ai l), (0, ar 153), (1, ai s), (2, ai t), (3, ai (P.length : Int))]) dX9_moves_114 (Nat.le_of_ble_eq_true rfl) rfl ?_
        refine a_iinc (y := l + 1) (ls' := [(5, ai (l + 1)), (4, ai (sum + (CM σ (lg P l).2 - (LV σ (lg P l).1)) + (gN σ 155 (15 + 10 * (gN σ 155 (115 + 5 * ((lg P (l - 1)).2) + 2)) + (gN σ 155 (115 + 5 * ((lg P l).1) + 1)))))), (0, ar 153), (1, ai s), (2, ai t), (3, ai (P.length : Int))]) dX9_moves_116 rfl rfl (Nat.le_of_ble_eq_true rfl) rfl ?_
        refine a_goto (tgt := 40) dX9_moves_119 (by decide) ?_
        have e : mvF σ P l sum = sum + (CM σ (lg P l).2 - (LV σ (lg P l).1)) + (gN σ 155 (15 + 10 * (gN σ 155 (115 + 5 * ((lg P (l - 1)).2) + 2)) + (gN σ 155 (115 + 5 * ((lg P l).1) + 1)))) := by unfold mvF; grind
        rw [show itr (mvF σ P) (n + 1) l sum = itr (mvF σ P) n (l + 1) (mvF σ P l sum) from rfl, e]
        exact a_keep (by simp) (ih (l + 1) (sum + (CM σ (lg P l).2 - (LV σ (lg P l).1)) + (gN σ 155 (15 + 10 * (gN σ 155 (115 + 5 * ((lg P (l - 1)).2) + 2)) + (gN σ 155 (115 + 5 * ((lg P l).1) + 1))))) (by omega) (by omega) (by omega) (by omega) (by omega))

set_option maxRecDepth 20000 in
theorem t_moves (σ ω : Sto) (hW : WOK σ) (hFω : Fr pQ σ ω) (hTω : TOK ω) (hRω : Rq (lkN σ) ω) (P : List (Int × Int)) (hRo : RoIs ω P) (hP0 : 0 < P.length) (hP5 : P.length ≤ 5) (hlk : ∀ q ∈ P, lgOK (gN σ 155 3) q) (s t : Int) (hs0 : 0 ≤ s) (hs1 : s < 10) (ht0 : 0 ≤ t) (ht1 : t < 10) : MetI mX9_moves [ar 153, ai s, ai t, ai (P.length : Int)] ω (movesF σ P s t) ω := by
  have hWω := Q_W hFω hW
  have hR := hW.1
  have ra := hRo.at (l := 0) (by omega) (by omega)
  have qa := hlk _ ra.2.2
  unfold lgOK at qa
  have ta := hRω.2.2.1 (lg P (0)).1 (by omega) (by have := qa; rw [show gN (lkN σ) 155 3 = gN σ 155 3 from rfl]; omega)
  have ya := hRω.2.2.1 (lg P (0)).2 (by omega) (by have := qa; rw [show gN (lkN σ) 155 3 = gN σ 155 3 from rfl]; omega)
  have za := LV_rng hW (x := (lg P (0)).1) (by omega) (by omega)
  have xa := LV_rng hW (x := (lg P (0)).2) (by omega) (by omega)
  have wa := hW.2.2.2.1 (lg P (0)).1 (by omega) (by omega)
  have va := hW.2.2.2.1 (lg P (0)).2 (by omega) (by omega)
  have rb := hRo.at (l := (P.length : Int) - 1) (by omega) (by omega)
  have qb := hlk _ rb.2.2
  unfold lgOK at qb
  have tb := hRω.2.2.1 (lg P ((P.length : Int) - 1)).1 (by omega) (by have := qb; rw [show gN (lkN σ) 155 3 = gN σ 155 3 from rfl]; omega)
  have yb := hRω.2.2.1 (lg P ((P.length : Int) - 1)).2 (by omega) (by have := qb; rw [show gN (lkN σ) 155 3 = gN σ 155 3 from rfl]; omega)
  have zb := LV_rng hW (x := (lg P ((P.length : Int) - 1)).1) (by omega) (by omega)
  have xb := LV_rng hW (x := (lg P ((P.length : Int) - 1)).2) (by omega) (by omega)
  have wb := hW.2.2.2.1 (lg P ((P.length : Int) - 1)).1 (by omega) (by omega)
  have vb := hW.2.2.2.1 (lg P ((P.length : Int) - 1)).2 (by omega) (by omega)
  have bw1 := hW.2.2.2.2.1 s _ hs0 hs1 wa.2.1.1 wa.2.1.2
  have bw2 := hW.2.2.2.2.1 _ t vb.2.2.1.1 vb.2.2.1.2 ht0 ht1
  refine a_entry (by decide) (Nat.le_of_ble_eq_true rfl) ?_
  refine a_aload_n dX9_moves_0 rfl rfl ?_
  refine a_iload_n dX9_moves_1 rfl rfl ?_
  refine a_aload_n dX9_moves_2 rfl rfl ?_
  refine a_aload_n dX9_moves_3 rfl rfl ?_
  refine a_getF (d := 170) fX9_64 k153 rfl r153_33 dX9_moves_4 ?_
  refine a_iconst dX9_moves_7 ?_
  refine a_ild k170 n170 (by omega) (by omega) dX9_moves_8 ?_
  refine a_topI (y := (lg P 0).1) ra.1 ?_
  refine a_iconst dX9_moves_9 ?_
  refine a_cI (c := 153) (as := [ai ((lg P 0).1), ai 1]) (rest := [ai s, ar 153]) (t_told ω ((lg P 0).1) 1 (by omega) (by omega)) mvX9_told lX9_201 k153 (by decide) rfl rfl rfl rfl (Nat.le_of_ble_eq_true rfl) (Nat.le_of_ble_eq_true rfl) (Nat.le_of_ble_eq_true rfl) dX9_moves_10 ?_
  refine a_topI (y := gN σ 155 (115 + 5 * ((lg P 0).1) + 1)) (Q155 hFω _) ?_
  refine a_cI (c := 153) (as := [ai s, ai (gN σ 155 (115 + 5 * ((lg P 0).1) + 1))]) (rest := []) (t_walked ω s (gN σ 155 (115 + 5 * ((lg P 0).1) + 1)) (by omega) (by omega)) mvX9_walked lX9_216 k153 (by decide) rfl rfl rfl rfl (Nat.le_of_ble_eq_true rfl) (Nat.le_of_ble_eq_true rfl) (Nat.le_of_ble_eq_true rfl) dX9_moves_13 ?_
  refine a_topI (y := gN σ 155 (15 + 10 * s + (gN σ 155 (115 + 5 * ((lg P 0).1) + 1)))) (Q155 hFω _) ?_
  refine a_aload_n dX9_moves_16 rfl rfl ?_
  refine a_aload_n dX9_moves_17 rfl rfl ?_
  refine a_aload_n dX9_moves_18 rfl rfl ?_
  refine a_getF (d := 171) fX9_67 k153 rfl r153_34 dX9_moves_19 ?_
  refine a_iload_n dX9_moves_22 rfl rfl ?_
  refine a_iconst dX9_moves_23 ?_
  refine a_isub dX9_moves_24 ?_
  refine a_ild k171 n171 (by omega) (by omega) dX9_moves_25 ?_
  refine a_topI (y := (lg P ((P.length : Int) - 1)).2) rb.2.1 ?_
  refine a_iconst dX9_moves_26 ?_
  refine a_cI (c := 153) (as := [ai ((lg P ((P.length : Int) - 1)).2), ai 2]) (rest := [ar 153, ai (gN σ 155 (15 + 10 * s + (gN σ 155 (115 + 5 * ((lg P 0).1) + 1))))]) (t_told ω ((lg P ((P.length : Int) - 1)).2) 2 (by omega) (by omega)) mvX9_told lX9_201 k153 (by decide) rfl rfl rfl rfl (Nat.le_of_ble_eq_true rfl) (Nat.le_of_ble_eq_true rfl) (Nat.le_of_ble_eq_true rfl) dX9_moves_27 ?_
  refine a_topI (y := gN σ 155 (115 + 5 * ((lg P ((P.length : Int) - 1)).2) + 2)) (Q155 hFω _) ?_
  refine a_iload_n dX9_moves_30 rfl rfl ?_
  refine a_cI (c := 153) (as := [ai (gN σ 155 (115 + 5 * ((lg P ((P.length : Int) - 1)).2) + 2)), ai t]) (rest := [ai (gN σ 155 (15 + 10 * s + (gN σ 155 (115 + 5 * ((lg P 0).1) + 1))))]) (t_walked ω (gN σ 155 (115 + 5 * ((lg P ((P.length : Int) - 1)).2) + 2)) t (by omega) (by omega)) mvX9_walked lX9_216 k153 (by decide) rfl rfl rfl rfl (Nat.le_of_ble_eq_true rfl) (Nat.le_of_ble_eq_true rfl) (Nat.le_of_ble_eq_true rfl) dX9_moves_31 ?_
  refine a_topI (y := gN σ 155 (15 + 10 * (gN σ 155 (115 + 5 * ((lg P ((P.length : Int) - 1)).2) + 2)) + t)) (Q155 hFω _) ?_
  refine a_iadd dX9_moves_34 ?_
  refine a_istore (ls' := [(4, ai (gN σ 155 (15 + 10 * s + (gN σ 155 (115 + 5 * ((lg P 0).1) + 1))) + (gN σ 155 (15 + 10 * (gN σ 155 (115 + 5 * ((lg P ((P.length : Int) - 1)).2) + 2)) + t)))), (0, ar 153), (1, ai s), (2, ai t), (3, ai (P.length : Int))]) dX9_moves_35 (Nat.le_of_ble_eq_true rfl) rfl ?_
  refine a_iconst dX9_moves_37 ?_
  refine a_istore (ls' := [(5, ai 0), (4, ai (gN σ 155 (15 + 10 * s + (gN σ 155 (115 + 5 * ((lg P 0).1) + 1))) + (gN σ 155 (15 + 10 * (gN σ 155 (115 + 5 * ((lg P ((P.length : Int) - 1)).2) + 2)) + t)))), (0, ar 153), (1, ai s), (2, ai t), (3, ai (P.length : Int))]) dX9_moves_38 (Nat.le_of_ble_eq_true rfl) rfl ?_
  exact a_keep (by simp) (t_moves_l σ ω hW hFω hTω hRω P hRo hP0 hP5 hlk s t _ 0 (gN σ 155 (15 + 10 * s + (gN σ 155 (115 + 5 * ((lg P 0).1) + 1))) + (gN σ 155 (15 + 10 * (gN σ 155 (115 + 5 * ((lg P ((P.length : Int) - 1)).2) + 2)) + t))) (by omega) (by omega) (by omega) (by omega) (by omega))

set_option maxRecDepth 20000 in
theorem t_slk_l (σ ω : Sto) (hW : WOK σ) (hFω : Fr pQ σ ω) (hTω : TOK ω) (hRω : Rq (lkN σ) ω) (P : List (Int × Int)) (hRo : RoIs ω P) (hP0 : 0 < P.length) (hP5 : P.length ≤ 5) (hlk : ∀ q ∈ P, lgOK (gN σ 155 3) q) : ∀ (n : Nat) (l : Int) (least : Int), 1 ≤ l → l ≤ P.length → n = (P.length - l).toNat → -2000000 ≤ least → least ≤ 1000000 → RunA mX9_slack (qI (if 1000000 ≤ itr (slF σ P) n l least then -2 else itr (slF σ P) n l least) ω) 5 [(3, ai l), (2, ai least), (0, ar 153), (1, ai (P.length : Int))] [] ω := by
  have hWω := Q_W hFω hW
  have hR := hW.1
  intro n
  induction n with
  | zero =>
    intro l least h0 h5 hn hs0 hs1
    refine a_iload_n dX9_slack_5 rfl rfl ?_
    refine a_iload_n dX9_slack_6 rfl rfl ?_
    refine a_icmp_ge (tgt := 75) dX9_slack_7 (by decide) (inR_of (by omega) (by omega)) (inR_of (by omega) (by omega)) (fun c7 => ?_) (fun c7 => ?_)
    · refine a_iload_n dX9_slack_75 rfl rfl ?_
      refine a_ldc (x := 1000000) cX9_175 (by decide) dX9_slack_76 ?_
      refine a_icmp_lt (tgt := 86) dX9_slack_78 (by decide) (inR_of (by omega) (by omega)) (inR_of (by omega) (by omega)) (fun c78 => ?_) (fun c78 => ?_)
      · refine a_iload_n dX9_slack_86 rfl rfl ?_
        exact a_iret rfl ⟨by simp only [itr]; grind, rfl⟩ dX9_slack_87
      · refine a_bipush (x := (-2)) dX9_slack_81 (by decide) ?_
        refine a_goto (tgt := 87) dX9_slack_83 (by decide) ?_
        exact a_iret rfl ⟨by simp only [itr]; grind, rfl⟩ dX9_slack_87
    · exfalso; omega
  | succ n ih =>
    intro l least h0 h5 hn hs0 hs1
    refine a_iload_n dX9_slack_5 rfl rfl ?_
    refine a_iload_n dX9_slack_6 rfl rfl ?_
    refine a_icmp_ge (tgt := 75) dX9_slack_7 (by decide) (inR_of (by omega) (by omega)) (inR_of (by omega) (by omega)) (fun c7 => ?_) (fun c7 => ?_)
    · exfalso; omega
    · have ra := hRo.at (l := l) (by omega) (by omega)
      have qa := hlk _ ra.2.2
      unfold lgOK at qa
      have ta := hRω.2.2.1 (lg P (l)).1 (by omega) (by have := qa; rw [show gN (lkN σ) 155 3 = gN σ 155 3 from rfl]; omega)
      have ya := hRω.2.2.1 (lg P (l)).2 (by omega) (by have := qa; rw [show gN (lkN σ) 155 3 = gN σ 155 3 from rfl]; omega)
      have za := LV_rng hW (x := (lg P (l)).1) (by omega) (by omega)
      have xa := LV_rng hW (x := (lg P (l)).2) (by omega) (by omega)
      have wa := hW.2.2.2.1 (lg P (l)).1 (by omega) (by omega)
      have va := hW.2.2.2.1 (lg P (l)).2 (by omega) (by omega)
      have rb := hRo.at (l := l - 1) (by omega) (by omega)
      have qb := hlk _ rb.2.2
      unfold lgOK at qb
      have tb := hRω.2.2.1 (lg P (l - 1)).1 (by omega) (by have := qb; rw [show gN (lkN σ) 155 3 = gN σ 155 3 from rfl]; omega)
      have yb := hRω.2.2.1 (lg P (l - 1)).2 (by omega) (by have := qb; rw [show gN (lkN σ) 155 3 = gN σ 155 3 from rfl]; omega)
      have zb := LV_rng hW (x := (lg P (l - 1)).1) (by omega) (by omega)
      have xb := LV_rng hW (x := (lg P (l - 1)).2) (by omega) (by omega)
      have wb := hW.2.2.2.1 (lg P (l - 1)).1 (by omega) (by omega)
      have vb := hW.2.2.2.1 (lg P (l - 1)).2 (by omega) (by omega)
      have bb := btw_rng hW (i := (lg P (l - 1)).2) (k := (lg P l).1) (by omega) (by omega) (by omega) (by omega)
      refine a_aload_n dX9_slack_10 rfl rfl ?_
      refine a_getF (d := 161) fX9_36 k153 rfl r153_21 dX9_slack_11 ?_
      refine a_aload_n dX9_slack_14 rfl rfl ?_
      refine a_getF (d := 170) fX9_64 k153 rfl r153_33 dX9_slack_15 ?_
      refine a_iload_n dX9_slack_18 rfl rfl ?_
      refine a_ild k170 n170 (by omega) (by omega) dX9_slack_19 ?_
      refine a_topI (y := (lg P l).1) ra.1 ?_
      refine a_ild k161 n161 (by omega) (by omega) dX9_slack_20 ?_
      refine a_topI (y := LV σ (lg P l).1) ta.1 ?_
      refine a_aload_n dX9_slack_21 rfl rfl ?_
      refine a_getF (d := 162) fX9_39 k153 rfl r153_22 dX9_slack_22 ?_
      refine a_aload_n dX9_slack_25 rfl rfl ?_
      refine a_getF (d := 171) fX9_67 k153 rfl r153_34 dX9_slack_26 ?_
      refine a_iload_n dX9_slack_29 rfl rfl ?_
      refine a_iconst dX9_slack_30 ?_
      refine a_isub dX9_slack_31 ?_
      refine a_ild k171 n171 (by omega) (by omega) dX9_slack_32 ?_
      refine a_topI (y := (lg P (l - 1)).2) rb.2.1 ?_
      refine a_ild k162 n162 (by omega) (by omega) dX9_slack_33 ?_
      refine a_topI (y := CM σ (lg P (l - 1)).2) yb.2.1 ?_
      refine a_isub dX9_slack_34 ?_
      refine a_aload_n dX9_slack_35 rfl rfl ?_
      refine a_aload_n dX9_slack_36 rfl rfl ?_
      refine a_getF (d := 171) fX9_67 k153 rfl r153_34 dX9_slack_37 ?_
      refine a_iload_n dX9_slack_40 rfl rfl ?_
      refine a_iconst dX9_slack_41 ?_
      refine a_isub dX9_slack_42 ?_
      refine a_ild k171 n171 (by omega) (by omega) dX9_slack_43 ?_
      refine a_topI (y := (lg P (l - 1)).2) rb.2.1 ?_
      refine a_aload_n dX9_slack_44 rfl rfl ?_
      refine a_getF (d := 170) fX9_64 k153 rfl r153_33 dX9_slack_45 ?_
      refine a_iload_n dX9_slack_48 rfl rfl ?_
      refine a_ild k170 n170 (by omega) (by omega) dX9_slack_49 ?_
      refine a_topI (y := (lg P l).1) ra.1 ?_
      refine a_cI (c := 153) (as := [ai ((lg P (l - 1)).2), ai ((lg P l).1)]) (rest := [ai (LV σ (lg P l).1 - (CM σ (lg P (l - 1)).2))]) (t_btw ω ((lg P (l - 1)).2) ((lg P l).1) hWω (by omega) (by omega) (by omega) (by omega)) mvX9_between lX9_246 k153 (by decide) rfl rfl rfl rfl (Nat.le_of_ble_eq_true rfl) (Nat.le_of_ble_eq_true rfl) (Nat.le_of_ble_eq_true rfl) dX9_slack_50 ?_
      refine a_topI (y := btw σ ((lg P (l - 1)).2) ((lg P l).1)) (btw_eq (Q155 hFω) _ _) ?_
      refine a_isub dX9_slack_53 ?_
      refine a_istore (ls' := [(4, ai (LV σ (lg P l).1 - (CM σ (lg P (l - 1)).2) - (btw σ ((lg P (l - 1)).2) ((lg P l).1)))), (3, ai l), (2, ai least), (0, ar 153), (1, ai (P.length : Int))]) dX9_slack_54 (Nat.le_of_ble_eq_true rfl) rfl ?_
      refine a_iload dX9_slack_56 rfl ?_
      refine a_iload_n dX9_slack_58 rfl rfl ?_
      refine a_icmp_ge (tgt := 67) dX9_slack_59 (by decide) (inR_of (by omega) (by omega)) (inR_of (by omega) (by omega)) (fun c59 => ?_) (fun c59 => ?_)
      · refine a_iload_n dX9_slack_67 rfl rfl ?_
        refine a_istore_n (ls' := [(2, ai least), (4, ai (LV σ (lg P l).1 - (CM σ (lg P (l - 1)).2) - (btw σ ((lg P (l - 1)).2) ((lg P l).1)))), (3, ai l), (0, ar 153), (1, ai (P.length : Int))]) dX9_slack_68 rfl (Nat.le_of_ble_eq_true rfl) rfl ?_
        refine a_iinc (y := l + 1) (ls' := [(3, ai (l + 1)), (2, ai least), (4, ai (LV σ (lg P l).1 - (CM σ (lg P (l - 1)).2) - (btw σ ((lg P (l - 1)).2) ((lg P l).1)))), (0, ar 153), (1, ai (P.length : Int))]) dX9_slack_69 rfl rfl (Nat.le_of_ble_eq_true rfl) rfl ?_
        refine a_goto (tgt := 5) dX9_slack_72 (by decide) ?_
        have e : slF σ P l least = least := by unfold slF slk; grind
        rw [show itr (slF σ P) (n + 1) l least = itr (slF σ P) n (l + 1) (slF σ P l least) from rfl, e]
        exact a_keep (by simp) (ih (l + 1) (least) (by omega) (by omega) (by omega) (by omega) (by omega))
      · refine a_iload dX9_slack_62 rfl ?_
        refine a_goto (tgt := 68) dX9_slack_64 (by decide) ?_
        refine a_istore_n (ls' := [(2, ai (LV σ (lg P l).1 - (CM σ (lg P (l - 1)).2) - (btw σ ((lg P (l - 1)).2) ((lg P l).1)))), (4, ai (LV σ (lg P l).1 - (CM σ (lg P (l - 1)).2) - (btw σ ((lg P (l - 1)).2) ((lg P l).1)))), (3, ai l), (0, ar 153), (1, ai (P.length : Int))]) dX9_slack_68 rfl (Nat.le_of_ble_eq_true rfl) rfl ?_
        refine a_iinc (y := l + 1) (ls' := [(3, ai (l + 1)), (2, ai (LV σ (lg P l).1 - (CM σ (lg P (l - 1)).2) - (btw σ ((lg P (l - 1)).2) ((lg P l).1)))), (4, ai (LV σ (lg P l).1 - (CM σ (lg P (l - 1)).2) - (btw σ ((lg P (l - 1)).2) ((lg P l).1)))), (0, ar 153), (1, ai (P.length : Int))]) dX9_slack_69 rfl rfl (Nat.le_of_ble_eq_true rfl) rfl ?_
        refine a_goto (tgt := 5) dX9_slack_72 (by decide) ?_
        have e : slF σ P l least = LV σ (lg P l).1 - (CM σ (lg P (l - 1)).2) - (btw σ ((lg P (l - 1)).2) ((lg P l).1)) := by unfold slF slk; grind
        rw [show itr (slF σ P) (n + 1) l least = itr (slF σ P) n (l + 1) (slF σ P l least) from rfl, e]
        exact a_keep (by simp) (ih (l + 1) (LV σ (lg P l).1 - (CM σ (lg P (l - 1)).2) - (btw σ ((lg P (l - 1)).2) ((lg P l).1))) (by omega) (by omega) (by omega) (by omega) (by omega))

set_option maxRecDepth 20000 in
theorem t_slk (σ ω : Sto) (hW : WOK σ) (hFω : Fr pQ σ ω) (hTω : TOK ω) (hRω : Rq (lkN σ) ω) (P : List (Int × Int)) (hRo : RoIs ω P) (hP0 : 0 < P.length) (hP5 : P.length ≤ 5) (hlk : ∀ q ∈ P, lgOK (gN σ 155 3) q) : MetI mX9_slack [ar 153, ai (P.length : Int)] ω (slackF σ P) ω := by
  refine a_entry (by decide) (Nat.le_of_ble_eq_true rfl) ?_
  refine a_ldc (x := 1000000) cX9_175 (by decide) dX9_slack_0 ?_
  refine a_istore_n (ls' := [(2, ai 1000000), (0, ar 153), (1, ai (P.length : Int))]) dX9_slack_2 rfl (Nat.le_of_ble_eq_true rfl) rfl ?_
  refine a_iconst dX9_slack_3 ?_
  refine a_istore_n (ls' := [(3, ai 1), (2, ai 1000000), (0, ar 153), (1, ai (P.length : Int))]) dX9_slack_4 rfl (Nat.le_of_ble_eq_true rfl) rfl ?_
  exact a_keep (by simp) (t_slk_l σ ω hW hFω hTω hRω P hRo hP0 hP5 hlk (P.length - 1) 1 1000000 (by omega) (by omega) (by omega) (by omega) (by omega))

