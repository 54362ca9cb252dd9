theorem nrm_0 : nrm 0 = 0 := by decide
theorem nrm_1 : nrm 1 = 1 := by decide
theorem nrm_2 : nrm 2 = 2 := by decide

set_option maxRecDepth 20000 in
theorem t_ride (σ : Sto) (i what : Int) (hi : inR i) (hwhat : inR what) (hW : WOK σ) (hT : TOK σ) : MetA mX9_ride [ar 153, ai i, ai what] σ (fun r u => r = some (ai (rideV σ i what).1) ∧ Fr pQ σ u ∧ TOK u ∧ gN u 153 0 = (rideV σ i what).2) := by
  have hR := hW.1
  refine a_entry (by decide) (Nat.le_of_ble_eq_true rfl) ?_
  refine a_aload_n dX9_ride_0 rfl rfl ?_
  refine a_iconst dX9_ride_1 ?_
  refine a_putI (J := 0) fX9_85 k153 rfl rfl rfl dX9_ride_2 ?_
  refine a_aload_n dX9_ride_5 rfl rfl ?_
  refine a_iload_n dX9_ride_6 rfl rfl ?_
  refine a_cI (c := 153) (as := [ai i]) (rest := []) (t_isRide (sN σ 153 0 0) i hi) mvX9_isRide lX9_204 k153 (by decide) rfl rfl rfl rfl (Nat.le_of_ble_eq_true rfl) (Nat.le_of_ble_eq_true rfl) (Nat.le_of_ble_eq_true rfl) dX9_ride_7 ?_
  refine a_topI (y := if rid σ i then 1 else 0) (by simp only [th155]) ?_
  refine a_ifb_ne (tgt := 20) dX9_ride_10 (by decide) (fun c10 => ?_) (fun c10 => ?_)
  · refine a_iload_n dX9_ride_20 rfl rfl ?_
    by_cases hsw : 0 ≤ what ∧ what ≤ 8
    · have hcs : what = 0 ∨ what = 1 ∨ what = 2 ∨ what = 3 ∨ what = 4 ∨ what = 5 ∨ what = 6 ∨ what = 7 ∨ what = 8 := by omega
      rcases hcs with hw | hw | hw | hw | hw | hw | hw | hw | hw
      · subst hw
        refine a_tabIn (tgt := 72) dX9_ride_21 (inR_of (by omega) (by omega)) (by omega) (by omega) (by rfl) (by decide) ?_
        refine a_aload_n dX9_ride_72 rfl rfl ?_
        refine a_iload_n dX9_ride_73 rfl rfl ?_
        refine a_iload_n dX9_ride_74 rfl rfl ?_
        refine a_cI (c := 153) (as := [ai i, ai 0]) (rest := []) (t_told (sN σ 153 0 0) i 0 (by omega) (by omega)) mvX9_told lX9_201 k153 (by decide) rfl rfl rfl rfl (Nat.le_of_ble_eq_true rfl) (Nat.le_of_ble_eq_true rfl) (Nat.le_of_ble_eq_true rfl) dX9_ride_75 ?_
        refine a_topI (y := gN σ 155 (115 + 5 * i + 0)) (th155 σ _) ?_
        exact a_iret rfl ⟨by unfold rideV; grind, (th_F σ), (th_T hT), by rw [gN_sN, if_pos ⟨rfl, rfl⟩]; unfold rideV; grind [nrm_0, nrm_1, nrm_2]⟩ dX9_ride_78
      · subst hw
        refine a_tabIn (tgt := 72) dX9_ride_21 (inR_of (by omega) (by omega)) (by omega) (by omega) (by rfl) (by decide) ?_
        refine a_aload_n dX9_ride_72 rfl rfl ?_
        refine a_iload_n dX9_ride_73 rfl rfl ?_
        refine a_iload_n dX9_ride_74 rfl rfl ?_
        refine a_cI (c := 153) (as := [ai i, ai 1]) (rest := []) (t_told (sN σ 153 0 0) i 1 (by omega) (by omega)) mvX9_told lX9_201 k153 (by decide) rfl rfl rfl rfl (Nat.le_of_ble_eq_true rfl) (Nat.le_of_ble_eq_true rfl) (Nat.le_of_ble_eq_true rfl) dX9_ride_75 ?_
        refine a_topI (y := gN σ 155 (115 + 5 * i + 1)) (th155 σ _) ?_
        exact a_iret rfl ⟨by unfold rideV; grind, (th_F σ), (th_T hT), by rw [gN_sN, if_pos ⟨rfl, rfl⟩]; unfold rideV; grind [nrm_0, nrm_1, nrm_2]⟩ dX9_ride_78
      · subst hw
        refine a_tabIn (tgt := 72) dX9_ride_21 (inR_of (by omega) (by omega)) (by omega) (by omega) (by rfl) (by decide) ?_
        refine a_aload_n dX9_ride_72 rfl rfl ?_
        refine a_iload_n dX9_ride_73 rfl rfl ?_
        refine a_iload_n dX9_ride_74 rfl rfl ?_
        refine a_cI (c := 153) (as := [ai i, ai 2]) (rest := []) (t_told (sN σ 153 0 0) i 2 (by omega) (by omega)) mvX9_told lX9_201 k153 (by decide) rfl rfl rfl rfl (Nat.le_of_ble_eq_true rfl) (Nat.le_of_ble_eq_true rfl) (Nat.le_of_ble_eq_true rfl) dX9_ride_75 ?_
        refine a_topI (y := gN σ 155 (115 + 5 * i + 2)) (th155 σ _) ?_
        exact a_iret rfl ⟨by unfold rideV; grind, (th_F σ), (th_T hT), by rw [gN_sN, if_pos ⟨rfl, rfl⟩]; unfold rideV; grind [nrm_0, nrm_1, nrm_2]⟩ dX9_ride_78
      · subst hw
        refine a_tabIn (tgt := 72) dX9_ride_21 (inR_of (by omega) (by omega)) (by omega) (by omega) (by rfl) (by decide) ?_
        refine a_aload_n dX9_ride_72 rfl rfl ?_
        refine a_iload_n dX9_ride_73 rfl rfl ?_
        refine a_iload_n dX9_ride_74 rfl rfl ?_
        refine a_cI (c := 153) (as := [ai i, ai 3]) (rest := []) (t_told (sN σ 153 0 0) i 3 (by omega) (by omega)) mvX9_told lX9_201 k153 (by decide) rfl rfl rfl rfl (Nat.le_of_ble_eq_true rfl) (Nat.le_of_ble_eq_true rfl) (Nat.le_of_ble_eq_true rfl) dX9_ride_75 ?_
        refine a_topI (y := gN σ 155 (115 + 5 * i + 3)) (th155 σ _) ?_
        exact a_iret rfl ⟨by unfold rideV; grind, (th_F σ), (th_T hT), by rw [gN_sN, if_pos ⟨rfl, rfl⟩]; unfold rideV; grind [nrm_0, nrm_1, nrm_2]⟩ dX9_ride_78
      · subst hw
        refine a_tabIn (tgt := 72) dX9_ride_21 (inR_of (by omega) (by omega)) (by omega) (by omega) (by rfl) (by decide) ?_
        refine a_aload_n dX9_ride_72 rfl rfl ?_
        refine a_iload_n dX9_ride_73 rfl rfl ?_
        refine a_iload_n dX9_ride_74 rfl rfl ?_
        refine a_cI (c := 153) (as := [ai i, ai 4]) (rest := []) (t_told (sN σ 153 0 0) i 4 (by omega) (by omega)) mvX9_told lX9_201 k153 (by decide) rfl rfl rfl rfl (Nat.le_of_ble_eq_true rfl) (Nat.le_of_ble_eq_true rfl) (Nat.le_of_ble_eq_true rfl) dX9_ride_75 ?_
        refine a_topI (y := gN σ 155 (115 + 5 * i + 4)) (th155 σ _) ?_
        exact a_iret rfl ⟨by unfold rideV; grind, (th_F σ), (th_T hT), by rw [gN_sN, if_pos ⟨rfl, rfl⟩]; unfold rideV; grind [nrm_0, nrm_1, nrm_2]⟩ dX9_ride_78
      · subst hw
        refine a_tabIn (tgt := 79) dX9_ride_21 (inR_of (by omega) (by omega)) (by omega) (by omega) (by rfl) (by decide) ?_
        refine a_aload_n dX9_ride_79 rfl rfl ?_
        refine a_iload_n dX9_ride_80 rfl rfl ?_
        refine a_iload_n dX9_ride_81 rfl rfl ?_
        refine a_iconst dX9_ride_82 ?_
        refine a_isub dX9_ride_83 ?_
        refine a_cI (c := 153) (as := [ai i, ai (5 - 2)]) (rest := []) (t_told (sN σ 153 0 0) i (5 - 2) (by omega) (by omega)) mvX9_told lX9_201 k153 (by decide) rfl rfl rfl rfl (Nat.le_of_ble_eq_true rfl) (Nat.le_of_ble_eq_true rfl) (Nat.le_of_ble_eq_true rfl) dX9_ride_84 ?_
        refine a_topI (y := gN σ 155 (115 + 5 * i + (5 - 2))) (th155 σ _) ?_
        refine a_aload_n dX9_ride_87 rfl rfl ?_
        refine a_getF (d := 158) fX9_26 k153 rfl r153_16 dX9_ride_88 ?_
        refine a_iload_n dX9_ride_91 rfl rfl ?_
        refine a_ild k158 n158 (by omega) (by omega) dX9_ride_92 ?_
        refine a_topI (y := gN σ 158 i) (by rw [gN_sN, if_neg (by omega)]) ?_
        refine a_iadd dX9_ride_93 ?_
        exact a_iret rfl ⟨by unfold rideV; grind, (th_F σ), (th_T hT), by rw [gN_sN, if_pos ⟨rfl, rfl⟩]; unfold rideV; grind [nrm_0, nrm_1, nrm_2]⟩ dX9_ride_94
      · subst hw
        refine a_tabIn (tgt := 79) dX9_ride_21 (inR_of (by omega) (by omega)) (by omega) (by omega) (by rfl) (by decide) ?_
        refine a_aload_n dX9_ride_79 rfl rfl ?_
        refine a_iload_n dX9_ride_80 rfl rfl ?_
        refine a_iload_n dX9_ride_81 rfl rfl ?_
        refine a_iconst dX9_ride_82 ?_
        refine a_isub dX9_ride_83 ?_
        refine a_cI (c := 153) (as := [ai i, ai (6 - 2)]) (rest := []) (t_told (sN σ 153 0 0) i (6 - 2) (by omega) (by omega)) mvX9_told lX9_201 k153 (by decide) rfl rfl rfl rfl (Nat.le_of_ble_eq_true rfl) (Nat.le_of_ble_eq_true rfl) (Nat.le_of_ble_eq_true rfl) dX9_ride_84 ?_
        refine a_topI (y := gN σ 155 (115 + 5 * i + (6 - 2))) (th155 σ _) ?_
        refine a_aload_n dX9_ride_87 rfl rfl ?_
        refine a_getF (d := 158) fX9_26 k153 rfl r153_16 dX9_ride_88 ?_
        refine a_iload_n dX9_ride_91 rfl rfl ?_
        refine a_ild k158 n158 (by omega) (by omega) dX9_ride_92 ?_
        refine a_topI (y := gN σ 158 i) (by rw [gN_sN, if_neg (by omega)]) ?_
        refine a_iadd dX9_ride_93 ?_
        exact a_iret rfl ⟨by unfold rideV; grind, (th_F σ), (th_T hT), by rw [gN_sN, if_pos ⟨rfl, rfl⟩]; unfold rideV; grind [nrm_0, nrm_1, nrm_2]⟩ dX9_ride_94
      · subst hw
        refine a_tabIn (tgt := 95) dX9_ride_21 (inR_of (by omega) (by omega)) (by omega) (by omega) (by rfl) (by decide) ?_
        refine a_aload_n dX9_ride_95 rfl rfl ?_
        refine a_iload_n dX9_ride_96 rfl rfl ?_
        refine a_cI (c := 153) (as := [ai i]) (rest := []) (t_isOff (sN σ 153 0 0) i) mvX9_isOff lX9_207 k153 (by decide) rfl rfl rfl rfl (Nat.le_of_ble_eq_true rfl) (Nat.le_of_ble_eq_true rfl) (Nat.le_of_ble_eq_true rfl) dX9_ride_97 ?_
        refine a_topI (y := if ofB σ i then 1 else 0) rfl ?_
        refine a_ifb_eq (tgt := 107) dX9_ride_100 (by decide) (fun c100 => ?_) (fun c100 => ?_)
        · refine a_iconst dX9_ride_107 ?_
          exact a_iret rfl ⟨by unfold rideV; grind, (th_F σ), (th_T hT), by rw [gN_sN, if_pos ⟨rfl, rfl⟩]; unfold rideV; grind [nrm_0, nrm_1, nrm_2]⟩ dX9_ride_108
        · refine a_iconst dX9_ride_103 ?_
          refine a_goto (tgt := 108) dX9_ride_104 (by decide) ?_
          exact a_iret rfl ⟨by unfold rideV; grind, (th_F σ), (th_T hT), by rw [gN_sN, if_pos ⟨rfl, rfl⟩]; unfold rideV; grind [nrm_0, nrm_1, nrm_2]⟩ dX9_ride_108
      · subst hw
        refine a_tabIn (tgt := 109) dX9_ride_21 (inR_of (by omega) (by omega)) (by omega) (by omega) (by rfl) (by decide) ?_
        refine a_aload_n dX9_ride_109 rfl rfl ?_
        refine a_iload_n dX9_ride_110 rfl rfl ?_
        refine a_cI (c := 153) (as := [ai i]) (rest := []) (t_behind (sN σ 153 0 0) i (by omega) (by omega) (by rw [th155]; omega)) mvX9_behind lX9_210 k153 (by decide) rfl rfl rfl rfl (Nat.le_of_ble_eq_true rfl) (Nat.le_of_ble_eq_true rfl) (Nat.le_of_ble_eq_true rfl) dX9_ride_111 ?_
        refine a_topI (y := if nxt σ i then i + 1 else -1) (by simp only [nxt, th155]) ?_
        refine a_iconst dX9_ride_114 ?_
        refine a_ifn_ne (tgt := 123) dX9_ride_115 (by decide) (fun _ => by omega) (fun c115 => ?_) (fun c115 => ?_)
        · refine a_aload_n dX9_ride_123 rfl rfl ?_
          refine a_iload_n dX9_ride_124 rfl rfl ?_
          refine a_cI (c := 153) (as := [ai i]) (rest := []) (t_behind (sN σ 153 0 0) i (by omega) (by omega) (by rw [th155]; omega)) mvX9_behind lX9_210 k153 (by decide) rfl rfl rfl rfl (Nat.le_of_ble_eq_true rfl) (Nat.le_of_ble_eq_true rfl) (Nat.le_of_ble_eq_true rfl) dX9_ride_125 ?_
          refine a_topI (y := if nxt σ i then i + 1 else -1) (by simp only [nxt, th155]) ?_
          exact a_iret rfl ⟨by unfold rideV; grind, (th_F σ), (th_T hT), by rw [gN_sN, if_pos ⟨rfl, rfl⟩]; unfold rideV; grind [nrm_0, nrm_1, nrm_2]⟩ dX9_ride_128
        · refine a_bipush (x := (-2)) dX9_ride_118 (by decide) ?_
          refine a_goto (tgt := 128) dX9_ride_120 (by decide) ?_
          exact a_iret rfl ⟨by unfold rideV; grind, (th_F σ), (th_T hT), by rw [gN_sN, if_pos ⟨rfl, rfl⟩]; unfold rideV; grind [nrm_0, nrm_1, nrm_2]⟩ dX9_ride_128
    · refine a_tabOut (tgt := 129) dX9_ride_21 hwhat (by omega) (by decide) ?_
      refine a_aload_n dX9_ride_129 rfl rfl ?_
      refine a_iconst dX9_ride_130 ?_
      refine a_putI (J := 0) fX9_85 k153 rfl rfl rfl dX9_ride_131 ?_
      refine a_iconst dX9_ride_134 ?_
      exact a_iret rfl ⟨by unfold rideV; grind, ((th_F σ).sN (by unfold pQ; omega)), (fun k q0 q1 => by rw [gN_sN, if_neg (by omega), gN_sN, if_neg (by omega)]; exact th_T hT k q0 q1), by rw [gN_sN, if_pos ⟨rfl, rfl⟩]; unfold rideV; grind [nrm_0, nrm_1, nrm_2]⟩ dX9_ride_135
  · refine a_aload_n dX9_ride_13 rfl rfl ?_
    refine a_iconst dX9_ride_14 ?_
    refine a_putI (J := 0) fX9_85 k153 rfl rfl rfl dX9_ride_15 ?_
    refine a_iconst dX9_ride_18 ?_
    exact a_iret rfl ⟨by unfold rideV; grind, ((th_F σ).sN (by unfold pQ; omega)), (fun k q0 q1 => by rw [gN_sN, if_neg (by omega), gN_sN, if_neg (by omega)]; exact th_T hT k q0 q1), by rw [gN_sN, if_pos ⟨rfl, rfl⟩]; unfold rideV; grind [nrm_0, nrm_1, nrm_2]⟩ dX9_ride_19

set_option maxRecDepth 20000 in
theorem t_cl_b (σ : Sto) (Z : Int → Int) (y a : Int) (hy0 : 0 ≤ y) (hy1 : y < 10) (ha0 : 0 ≤ a) (ha1 : a < 10) (Y : Int → Int) (hx : ∀ τ : Sto, Fr (fun c _ => c = 155) σ τ → RowIs τ 155 Y → WlkB Y → RunA mX9_closes (fun r u => r = none ∧ Fr (fun c _ => c = 155) σ u ∧ RowIs u 155 Z) 96 [(2, ai a), (1, ai y), (0, ar 153)] [] τ) : ∀ (n : Nat) (b : Int) (τ : Sto) (w : Int → Int), 0 ≤ b → b ≤ 10 → n = (10 - b).toNat → Fr (fun c _ => c = 155) σ τ → RowIs τ 155 w → WlkB w → Y = itr (clB y a) n b w → RunA mX9_closes (fun r u => r = none ∧ Fr (fun c _ => c = 155) σ u ∧ RowIs u 155 Z) 18 [(3, ai b), (2, ai a), (1, ai y), (0, ar 153)] [] τ := by
  intro n
  induction n with
  | zero =>
    intro b τ w h0 h5 hn hF hw hB hE
    refine a_iload_n dX9_closes_18 rfl rfl ?_
    refine a_bipush (x := 10) dX9_closes_19 (by decide) ?_
    refine a_icmp_ge (tgt := 96) dX9_closes_21 (by decide) (inR_of (by omega) (by omega)) (inR_of (by omega) (by omega)) (fun c21 => ?_) (fun c21 => ?_)
    · exact a_keep (by simp) (hx τ hF (by rw [hE]; exact hw) (by rw [hE]; exact hB))
    · exfalso; omega
  | succ n ih =>
    intro b τ w h0 h5 hn hF hw hB hE
    refine a_iload_n dX9_closes_18 rfl rfl ?_
    refine a_bipush (x := 10) dX9_closes_19 (by decide) ?_
    refine a_icmp_ge (tgt := 96) dX9_closes_21 (by decide) (inR_of (by omega) (by omega)) (inR_of (by omega) (by omega)) (fun c21 => ?_) (fun c21 => ?_)
    · exfalso; omega
    · have x1 := hB (15 + 10 * a + y) (by omega) (by omega)
      have x2 := hB (15 + 10 * y + b) (by omega) (by omega)
      have x3 := hB (15 + 10 * a + b) (by omega) (by omega)
      have r1 := hw (15 + 10 * a + y) (by omega) (by omega)
      have r2 := hw (15 + 10 * y + b) (by omega) (by omega)
      have r3 := hw (15 + 10 * a + b) (by omega) (by omega)
      refine a_aload_n dX9_closes_24 rfl rfl ?_
      refine a_getF (d := 155) fX9_13 k153 rfl r153_3 dX9_closes_25 ?_
      refine a_bipush (x := 15) dX9_closes_28 (by decide) ?_
      refine a_bipush (x := 10) dX9_closes_30 (by decide) ?_
      refine a_iload_n dX9_closes_32 rfl rfl ?_
      refine a_imul dX9_closes_33 ?_
      refine a_iadd dX9_closes_34 ?_
      refine a_iload_n dX9_closes_35 rfl rfl ?_
      refine a_iadd dX9_closes_36 ?_
      refine a_ild k155 n155 (by omega) (by omega) dX9_closes_37 ?_
      refine a_topI (y := w (15 + 10 * a + y)) r1 ?_
      refine a_aload_n dX9_closes_38 rfl rfl ?_
      refine a_getF (d := 155) fX9_13 k153 rfl r153_3 dX9_closes_39 ?_
      refine a_bipush (x := 15) dX9_closes_42 (by decide) ?_
      refine a_bipush (x := 10) dX9_closes_44 (by decide) ?_
      refine a_iload_n dX9_closes_46 rfl rfl ?_
      refine a_imul dX9_closes_47 ?_
      refine a_iadd dX9_closes_48 ?_
      refine a_iload_n dX9_closes_49 rfl rfl ?_
      refine a_iadd dX9_closes_50 ?_
      refine a_ild k155 n155 (by omega) (by omega) dX9_closes_51 ?_
      refine a_topI (y := w (15 + 10 * y + b)) r2 ?_
      refine a_iadd dX9_closes_52 ?_
      refine a_istore (ls' := [(4, ai (w (15 + 10 * a + y) + (w (15 + 10 * y + b)))), (3, ai b), (2, ai a), (1, ai y), (0, ar 153)]) dX9_closes_53 (Nat.le_of_ble_eq_true rfl) rfl ?_
      refine a_iload dX9_closes_55 rfl ?_
      refine a_aload_n dX9_closes_57 rfl rfl ?_
      refine a_getF (d := 155) fX9_13 k153 rfl r153_3 dX9_closes_58 ?_
      refine a_bipush (x := 15) dX9_closes_61 (by decide) ?_
      refine a_bipush (x := 10) dX9_closes_63 (by decide) ?_
      refine a_iload_n dX9_closes_65 rfl rfl ?_
      refine a_imul dX9_closes_66 ?_
      refine a_iadd dX9_closes_67 ?_
      refine a_iload_n dX9_closes_68 rfl rfl ?_
      refine a_iadd dX9_closes_69 ?_
      refine a_ild k155 n155 (by omega) (by omega) dX9_closes_70 ?_
      refine a_topI (y := w (15 + 10 * a + b)) r3 ?_
      refine a_icmp_ge (tgt := 90) dX9_closes_71 (by decide) (inR_of (by omega) (by omega)) (inR_of (by omega) (by omega)) (fun c71 => ?_) (fun c71 => ?_)
      · refine a_iinc (y := b + 1) (ls' := [(3, ai (b + 1)), (4, ai (w (15 + 10 * a + y) + (w (15 + 10 * y + b)))), (2, ai a), (1, ai y), (0, ar 153)]) dX9_closes_90 rfl rfl (Nat.le_of_ble_eq_true rfl) rfl ?_
        refine a_goto (tgt := 18) dX9_closes_93 (by decide) ?_
        have e : clB y a b w = w := by funext j; unfold clB; grind
        exact a_keep (by simp) (ih (b + 1) τ w (by omega) (by omega) (by omega) hF hw hB (by rw [hE, itr_s, e]))
      · refine a_aload_n dX9_closes_74 rfl rfl ?_
        refine a_getF (d := 155) fX9_13 k153 rfl r153_3 dX9_closes_75 ?_
        refine a_bipush (x := 15) dX9_closes_78 (by decide) ?_
        refine a_bipush (x := 10) dX9_closes_80 (by decide) ?_
        refine a_iload_n dX9_closes_82 rfl rfl ?_
        refine a_imul dX9_closes_83 ?_
        refine a_iadd dX9_closes_84 ?_
        refine a_iload_n dX9_closes_85 rfl rfl ?_
        refine a_iadd dX9_closes_86 ?_
        refine a_iload dX9_closes_87 rfl ?_
        refine a_ist k155 n155 (by omega) (by omega) dX9_closes_89 ?_
        refine a_iinc (y := b + 1) (ls' := [(3, ai (b + 1)), (4, ai (w (15 + 10 * a + y) + (w (15 + 10 * y + b)))), (2, ai a), (1, ai y), (0, ar 153)]) dX9_closes_90 rfl rfl (Nat.le_of_ble_eq_true rfl) rfl ?_
        refine a_goto (tgt := 18) dX9_closes_93 (by decide) ?_
        have e : clB y a b w = fun j => if j = 15 + 10 * a + b then w (15 + 10 * a + y) + w (15 + 10 * y + b) else w j := by funext j; unfold clB; grind
        exact a_keep (by simp) (ih (b + 1) (sN τ 155 (15 + (10 * a) + b) (w (15 + 10 * a + y) + (w (15 + 10 * y + b)))) (clB y a b w) (by omega) (by omega) (by omega) (hF.sN rfl) (by rw [e]; exact hw.put (inR_of (by omega) (by omega))) (clB_B hB (by omega) (by omega) (by omega) (by omega) (by omega) (by omega)) (by rw [hE, itr_s]))

set_option maxRecDepth 20000 in
theorem t_cl_a (σ : Sto) (Z : Int → Int) (y : Int) (hy0 : 0 ≤ y) (hy1 : y < 10) (Y : Int → Int) (hx : ∀ τ : Sto, Fr (fun c _ => c = 155) σ τ → RowIs τ 155 Y → WlkB Y → RunA mX9_closes (fun r u => r = none ∧ Fr (fun c _ => c = 155) σ u ∧ RowIs u 155 Z) 102 [(1, ai y), (0, ar 153)] [] τ) : ∀ (n : Nat) (a : Int) (τ : Sto) (w : Int → Int), 0 ≤ a → a ≤ 10 → n = (10 - a).toNat → Fr (fun c _ => c = 155) σ τ → RowIs τ 155 w → WlkB w → Y = itr (clA y) n a w → RunA mX9_closes (fun r u => r = none ∧ Fr (fun c _ => c = 155) σ u ∧ RowIs u 155 Z) 10 [(2, ai a), (1, ai y), (0, ar 153)] [] τ := by
  intro n
  induction n with
  | zero =>
    intro a τ w h0 h5 hn hF hw hB hE
    refine a_iload_n dX9_closes_10 rfl rfl ?_
    refine a_bipush (x := 10) dX9_closes_11 (by decide) ?_
    refine a_icmp_ge (tgt := 102) dX9_closes_13 (by decide) (inR_of (by omega) (by omega)) (inR_of (by omega) (by omega)) (fun c13 => ?_) (fun c13 => ?_)
    · exact a_keep (by simp) (hx τ hF (by rw [hE]; exact hw) (by rw [hE]; exact hB))
    · exfalso; omega
  | succ n ih =>
    intro a τ w h0 h5 hn hF hw hB hE
    refine a_iload_n dX9_closes_10 rfl rfl ?_
    refine a_bipush (x := 10) dX9_closes_11 (by decide) ?_
    refine a_icmp_ge (tgt := 102) dX9_closes_13 (by decide) (inR_of (by omega) (by omega)) (inR_of (by omega) (by omega)) (fun c13 => ?_) (fun c13 => ?_)
    · exfalso; omega
    · refine a_iconst dX9_closes_16 ?_
      refine a_istore_n (ls' := [(3, ai 0), (2, ai a), (1, ai y), (0, ar 153)]) dX9_closes_17 rfl (Nat.le_of_ble_eq_true rfl) rfl ?_
      refine a_keep (ls' := [(3, ai 0), (2, ai a), (1, ai y), (0, ar 153)]) (by simp) ?_
      refine t_cl_b σ Z y a hy0 hy1 (by omega) (by omega) (clA y a w) (fun υ a1 a2 a3 => ?_) 10 0 τ w (by omega) (by omega) (by omega) hF hw hB rfl
      refine a_iinc (y := a + 1) (ls' := [(2, ai (a + 1)), (1, ai y), (0, ar 153)]) dX9_closes_96 rfl rfl (Nat.le_of_ble_eq_true rfl) rfl ?_
      refine a_goto (tgt := 10) dX9_closes_99 (by decide) ?_
      exact ih (a + 1) υ (clA y a w) (by omega) (by omega) (by omega) a1 a2 a3 (by rw [hE, itr_s])

set_option maxRecDepth 20000 in
theorem t_cl_y (σ : Sto) (Z : Int → Int) : ∀ (n : Nat) (y : Int) (τ : Sto) (w : Int → Int), 0 ≤ y → y ≤ 10 → n = (10 - y).toNat → Fr (fun c _ => c = 155) σ τ → RowIs τ 155 w → WlkB w → Z = itr clO n y w → RunA mX9_closes (fun r u => r = none ∧ Fr (fun c _ => c = 155) σ u ∧ RowIs u 155 Z) 2 [(1, ai y), (0, ar 153)] [] τ := by
  intro n
  induction n with
  | zero =>
    intro y τ w h0 h5 hn hF hw hB hE
    refine a_iload_n dX9_closes_2 rfl rfl ?_
    refine a_bipush (x := 10) dX9_closes_3 (by decide) ?_
    refine a_icmp_ge (tgt := 108) dX9_closes_5 (by decide) (inR_of (by omega) (by omega)) (inR_of (by omega) (by omega)) (fun c5 => ?_) (fun c5 => ?_)
    · exact a_vret rfl ⟨rfl, hF, by rw [hE]; exact hw⟩ dX9_closes_108
    · exfalso; omega
  | succ n ih =>
    intro y τ w h0 h5 hn hF hw hB hE
    refine a_iload_n dX9_closes_2 rfl rfl ?_
    refine a_bipush (x := 10) dX9_closes_3 (by decide) ?_
    refine a_icmp_ge (tgt := 108) dX9_closes_5 (by decide) (inR_of (by omega) (by omega)) (inR_of (by omega) (by omega)) (fun c5 => ?_) (fun c5 => ?_)
    · exfalso; omega
    · refine a_iconst dX9_closes_8 ?_
      refine a_istore_n (ls' := [(2, ai 0), (1, ai y), (0, ar 153)]) dX9_closes_9 rfl (Nat.le_of_ble_eq_true rfl) rfl ?_
      refine a_keep (ls' := [(2, ai 0), (1, ai y), (0, ar 153)]) (by simp) ?_
      refine t_cl_a σ Z y (by omega) (by omega) (clO y w) (fun υ a1 a2 a3 => ?_) 10 0 τ w (by omega) (by omega) (by omega) hF hw hB rfl
      refine a_iinc (y := y + 1) (ls' := [(1, ai (y + 1)), (0, ar 153)]) dX9_closes_102 rfl rfl (Nat.le_of_ble_eq_true rfl) rfl ?_
      refine a_goto (tgt := 2) dX9_closes_105 (by decide) ?_
      exact ih (y + 1) υ (clO y w) (by omega) (by omega) (by omega) a1 a2 a3 (by rw [hE, itr_s])

set_option maxRecDepth 20000 in
theorem t_closes (σ : Sto) (w : Int → Int) (hw : RowIs σ 155 w) (hB : WlkB w) : MetA mX9_closes [ar 153] σ (fun r u => r = none ∧ Fr (fun c _ => c = 155) σ u ∧ RowIs u 155 (closeF w)) := by
  refine a_entry (by decide) (Nat.le_of_ble_eq_true rfl) ?_
  refine a_iconst dX9_closes_0 ?_
  refine a_istore_n (ls' := [(1, ai 0), (0, ar 153)]) dX9_closes_1 rfl (Nat.le_of_ble_eq_true rfl) rfl ?_
  exact a_keep (by simp) (t_cl_y σ (closeF w) 10 0 σ w (by omega) (by omega) (by omega) Fr.rfl hw hB rfl)

abbrev pBe (c : Nat) (j : Int) : Prop := c = 155 ∨ c = 158 ∨ (c = 153 ∧ (j = 17 ∨ j = 20 ∨ j = 38))
def BePost (σ u : Sto) (f : Int → Int) : Prop := Fr pBe σ u ∧ RowIs u 155 (closeF f) ∧ (∀ i : Int, 0 ≤ i → i < 60 → gN u 158 i = 0) ∧ gL u 153 17 = 0 ∧ gN u 153 20 = 0 ∧ gN u 153 38 = 0

set_option maxRecDepth 20000 in
theorem t_bec_1 (σ : Sto) (f : Int → Int) (hf : RowIs σ 156 f) (hx : ∀ τ : Sto, Fr pBe σ τ → RowIs τ 155 f → RunA mX9_becomes (fun r u => r = none ∧ BePost σ u f) 27 [(0, ar 153)] [] τ) : ∀ (n : Nat) (k : Int) (τ : Sto), 0 ≤ k → k ≤ 415 → n = (415 - k).toNat → Fr pBe σ τ → (∀ j : Int, 0 ≤ j → j < k → gN τ 155 j = f j) → RunA mX9_becomes (fun r u => r = none ∧ BePost σ u f) 2 [(1, ai k), (0, ar 153)] [] τ := by
  intro n
  induction n with
  | zero =>
    intro k τ h0 h5 hn hF hZ
    refine a_iload_n dX9_becomes_2 rfl rfl ?_
    refine a_sipush (x := 415) dX9_becomes_3 (by decide) ?_
    refine a_icmp_ge (tgt := 27) dX9_becomes_6 (by decide) (inR_of (by omega) (by omega)) (inR_of (by omega) (by omega)) (fun c6 => ?_) (fun c6 => ?_)
    · exact a_keep (by simp) (hx τ hF (fun j q0 q1 => hZ j q0 (by omega)))
    · exfalso; omega
  | succ n ih =>
    intro k τ h0 h5 hn hF hZ
    refine a_iload_n dX9_becomes_2 rfl rfl ?_
    refine a_sipush (x := 415) dX9_becomes_3 (by decide) ?_
    refine a_icmp_ge (tgt := 27) dX9_becomes_6 (by decide) (inR_of (by omega) (by omega)) (inR_of (by omega) (by omega)) (fun c6 => ?_) (fun c6 => ?_)
    · exfalso; omega
    · refine a_aload_n dX9_becomes_9 rfl rfl ?_
      refine a_getF (d := 155) fX9_13 k153 rfl r153_3 dX9_becomes_10 ?_
      refine a_iload_n dX9_becomes_13 rfl rfl ?_
      refine a_aload_n dX9_becomes_14 rfl rfl ?_
      refine a_getF (d := 156) fX9_16 k153 rfl r153_4 dX9_becomes_15 ?_
      refine a_iload_n dX9_becomes_18 rfl rfl ?_
      refine a_ild k156 n156 (by omega) (by omega) dX9_becomes_19 ?_
      refine a_topI (y := f k) ((hF.1 156 k (by unfold pBe; omega)).trans (hf k h0 (by omega))) ?_
      refine a_ist k155 n155 (by omega) (by omega) dX9_becomes_20 ?_
      refine a_iinc (y := k + 1) (ls' := [(1, ai (k + 1)), (0, ar 153)]) dX9_becomes_21 rfl rfl (Nat.le_of_ble_eq_true rfl) rfl ?_
      refine a_goto (tgt := 2) dX9_becomes_24 (by decide) ?_
      exact a_keep (by simp) (ih (k + 1) (sN τ 155 k (f k)) (by omega) (by omega) (by omega) (hF.sN (by unfold pBe; omega)) (fun j q0 q1 => by rw [gN_sN]; by_cases e : j = k; rw [if_pos ⟨rfl, e⟩, e, ← hf k h0 (by omega), nrm_of (inR_gN σ 156 k)]; rw [if_neg (by omega)]; exact hZ j q0 (by omega)))

set_option maxRecDepth 20000 in
theorem t_bec_2 (σ : Sto) (f : Int → Int) : ∀ (n : Nat) (k : Int) (τ : Sto), 0 ≤ k → k ≤ 60 → n = (60 - k).toNat → Fr pBe σ τ → RowIs τ 155 (closeF f) → (∀ j : Int, 0 ≤ j → j < k → gN τ 158 j = 0) → RunA mX9_becomes (fun r u => r = none ∧ BePost σ u f) 33 [(1, ai k), (0, ar 153)] [] τ := by
  intro n
  induction n with
  | zero =>
    intro k τ h0 h5 hn hF hw hZ
    refine a_iload_n dX9_becomes_33 rfl rfl ?_
    refine a_bipush (x := 60) dX9_becomes_34 (by decide) ?_
    refine a_icmp_ge (tgt := 52) dX9_becomes_36 (by decide) (inR_of (by omega) (by omega)) (inR_of (by omega) (by omega)) (fun c36 => ?_) (fun c36 => ?_)
    · refine a_aload_n dX9_becomes_52 rfl rfl ?_
      refine a_lconst (v := 0) dX9_becomes_53 rfl ?_
      refine a_putL (J := 17) fX9_179 k153 rfl rfl rfl dX9_becomes_54 ?_
      refine a_aload_n dX9_becomes_57 rfl rfl ?_
      refine a_iconst dX9_becomes_58 ?_
      refine a_putI (J := 20) fX9_183 k153 rfl rfl rfl dX9_becomes_59 ?_
      refine a_aload_n dX9_becomes_62 rfl rfl ?_
      refine a_iconst dX9_becomes_63 ?_
      refine a_putI (J := 38) fX9_186 k153 rfl rfl rfl dX9_becomes_64 ?_
      exact a_vret rfl ⟨rfl, (((hF.sL (by unfold pBe; omega)).sN (by unfold pBe; omega)).sN (by unfold pBe; omega)), fun j q0 q1 => by rw [gN_sN, if_neg (by omega), gN_sN, if_neg (by omega), gN_sL]; exact hw j q0 q1, fun j q0 q1 => by rw [gN_sN, if_neg (by omega), gN_sN, if_neg (by omega), gN_sL]; exact hZ j q0 (by omega), by rw [gL_sN, gL_sN, gL_sL, if_pos ⟨rfl, rfl⟩], by rw [gN_sN, if_neg (by omega), gN_sN, if_pos ⟨rfl, rfl⟩]; rfl, by rw [gN_sN, if_pos ⟨rfl, rfl⟩]; rfl⟩ dX9_becomes_67
    · exfalso; omega
  | succ n ih =>
    intro k τ h0 h5 hn hF hw hZ
    refine a_iload_n dX9_becomes_33 rfl rfl ?_
    refine a_bipush (x := 60) dX9_becomes_34 (by decide) ?_
    refine a_icmp_ge (tgt := 52) dX9_becomes_36 (by decide) (inR_of (by omega) (by omega)) (inR_of (by omega) (by omega)) (fun c36 => ?_) (fun c36 => ?_)
    · exfalso; omega
    · refine a_aload_n dX9_becomes_39 rfl rfl ?_
      refine a_getF (d := 158) fX9_26 k153 rfl r153_16 dX9_becomes_40 ?_
      refine a_iload_n dX9_becomes_43 rfl rfl ?_
      refine a_iconst dX9_becomes_44 ?_
      refine a_ist k158 n158 (by omega) (by omega) dX9_becomes_45 ?_
      refine a_iinc (y := k + 1) (ls' := [(1, ai (k + 1)), (0, ar 153)]) dX9_becomes_46 rfl rfl (Nat.le_of_ble_eq_true rfl) rfl ?_
      refine a_goto (tgt := 33) dX9_becomes_49 (by decide) ?_
      exact a_keep (by simp) (ih (k + 1) (sN τ 158 k 0) (by omega) (by omega) (by omega) (hF.sN (by unfold pBe; omega)) (fun j q0 q1 => by rw [gN_sN, if_neg (by omega)]; exact hw j q0 q1) (fun j q0 q1 => by rw [gN_sN]; by_cases e : j = k; rw [if_pos ⟨rfl, e⟩]; rfl; rw [if_neg (by omega)]; exact hZ j q0 (by omega)))

set_option maxRecDepth 20000 in
theorem t_becomes (σ : Sto) (f : Int → Int) (hf : RowIs σ 156 f) (hB : WlkB f) : MetA mX9_becomes [ar 153] σ (fun r u => r = none ∧ BePost σ u f) := by
  refine a_entry (by decide) (Nat.le_of_ble_eq_true rfl) ?_
  refine a_iconst dX9_becomes_0 ?_
  refine a_istore_n (ls' := [(1, ai 0), (0, ar 153)]) dX9_becomes_1 rfl (Nat.le_of_ble_eq_true rfl) rfl ?_
  refine a_keep (ls' := [(1, ai 0), (0, ar 153)]) (by simp) ?_
  refine t_bec_1 σ f hf (fun τ hF hw => ?_) 415 0 σ (by omega) (by omega) (by omega) Fr.rfl (fun j q0 q1 => by omega)
  refine a_aload_n dX9_becomes_27 rfl rfl ?_
  refine a_callV (c := 153) (as := []) (rest := []) (t_closes τ f hw hB) mvX9_closes lX9_176 k153 (by decide) rfl rfl rfl rfl (Nat.le_of_ble_eq_true rfl) (Nat.le_of_ble_eq_true rfl) (Nat.le_of_ble_eq_true rfl) dX9_becomes_28 (fun υ hυ => ?_)
  obtain ⟨-, hFu, hwu⟩ := hυ
  refine a_iconst dX9_becomes_31 ?_
  refine a_istore_n (ls' := [(1, ai 0), (0, ar 153)]) dX9_becomes_32 rfl (Nat.le_of_ble_eq_true rfl) rfl ?_
  exact a_keep (by simp) (t_bec_2 σ f 60 0 υ (by omega) (by omega) (by omega) (hF.trans (hFu.mono (fun c j q => by unfold pBe; omega))) hwu (fun j q0 q1 => by omega))

