/-! The class's ride: what it answers, where it doesn't throw. -/
def cRide (ρ : Sto) (i what : Int) : Int := if what = 0 then gN ρ 155 (115 + 5 * i + 0) else if what = 1 then gN ρ 155 (115 + 5 * i + 1) else if what = 2 then gN ρ 155 (115 + 5 * i + 2) else if what = 3 then gN ρ 155 (115 + 5 * i + 3) else if what = 4 then gN ρ 155 (115 + 5 * i + 4) else if what = 5 then gN ρ 161 i else if what = 6 then gN ρ 162 i else if what = 7 then (if shrL (gL ρ 153 23) i &&& 1 ≠ 0 then 1 else 0) else if nxt ρ i then i + 1 else -2
set_option maxRecDepth 20000 in
theorem c_rideN (σ ρ : Sto) (N : Nat) (hW : WV ρ) (hQ : CQ σ ρ N) (i what : Int) (hi : inR i) (hwhat : inR what) (hi0 : 0 ≤ i) (hi1 : i < gN ρ 155 3) (hw0 : 0 ≤ what) (hw1 : what ≤ 8) : RunA mX8_ride (qI (cRide ρ i what) σ) 18 [(0, ar 0), (1, ai i), (2, ai what)] [] σ := by
  have hC := hQ.c
  have hN := hQ.n
  have hT7 := hQ.t
  have hM7 := hQ.m
  have hF : Fg pCq σ σ := Fg.rfl
  have hNk := hN.k
  have hR := hW.R
  have hS := hW.S
  have hTr := hW.T
  refine a_iload_n dX8_ride_18 rfl rfl ?_
  have hcs : what = 0 ∨ what = 1 ∨ what = 2 ∨ what = 3 ∨ what = 4 ∨ what = 5 ∨ what = 6 ∨ what = 7 ∨ what = 8 := by omega
  rcases hcs with hw | hw | hw | hw | hw | hw | hw | hw | hw
  · subst hw
    refine a_tabIn (tgt := 68) dX8_ride_19 (inR_of (by omega) (by omega)) (by omega) (by omega) (by rfl) (by decide) ?_
    refine a_aload_n dX8_ride_68 rfl rfl ?_
    refine a_getR (d := N) (J := 12) fX8_65 k0 rfl q0_12 rfl hC dX8_ride_69 ?_
    refine a_getF (d := (N + 6)) fX8_129 (kN hNk) rfl (rN_9 hNk) dX8_ride_72 ?_
    refine a_iload_n dX8_ride_75 rfl rfl ?_
    refine a_ild (kN_6 hNk) (nN_6 hNk) (by omega) (by omega) dX8_ride_76 ?_
    refine a_topI (y := gN ρ 155 (115 + 5 * i + 0)) (hN.r0 (by omega) (by omega)) ?_
    have hb100 := hW.ride i (by omega) (by omega)
    exact a_iret rfl ⟨by unfold cRide; grind, rfl⟩ dX8_ride_77
  · subst hw
    refine a_tabIn (tgt := 78) dX8_ride_19 (inR_of (by omega) (by omega)) (by omega) (by omega) (by rfl) (by decide) ?_
    refine a_aload_n dX8_ride_78 rfl rfl ?_
    refine a_getR (d := N) (J := 12) fX8_65 k0 rfl q0_12 rfl hC dX8_ride_79 ?_
    refine a_getF (d := (N + 7)) fX8_132 (kN hNk) rfl (rN_10 hNk) dX8_ride_82 ?_
    refine a_iload_n dX8_ride_85 rfl rfl ?_
    refine a_ild (kN_7 hNk) (nN_7 hNk) (by omega) (by omega) dX8_ride_86 ?_
    refine a_topI (y := gN ρ 155 (115 + 5 * i + 1)) (hN.r1 (by omega) (by omega)) ?_
    have hb101 := hW.ride i (by omega) (by omega)
    exact a_iret rfl ⟨by unfold cRide; grind, rfl⟩ dX8_ride_87
  · subst hw
    refine a_tabIn (tgt := 88) dX8_ride_19 (inR_of (by omega) (by omega)) (by omega) (by omega) (by rfl) (by decide) ?_
    refine a_aload_n dX8_ride_88 rfl rfl ?_
    refine a_getR (d := N) (J := 12) fX8_65 k0 rfl q0_12 rfl hC dX8_ride_89 ?_
    refine a_getF (d := (N + 8)) fX8_135 (kN hNk) rfl (rN_11 hNk) dX8_ride_92 ?_
    refine a_iload_n dX8_ride_95 rfl rfl ?_
    refine a_ild (kN_8 hNk) (nN_8 hNk) (by omega) (by omega) dX8_ride_96 ?_
    refine a_topI (y := gN ρ 155 (115 + 5 * i + 2)) (hN.r2 (by omega) (by omega)) ?_
    have hb102 := hW.ride i (by omega) (by omega)
    exact a_iret rfl ⟨by unfold cRide; grind, rfl⟩ dX8_ride_97
  · subst hw
    refine a_tabIn (tgt := 98) dX8_ride_19 (inR_of (by omega) (by omega)) (by omega) (by omega) (by rfl) (by decide) ?_
    refine a_aload_n dX8_ride_98 rfl rfl ?_
    refine a_getR (d := N) (J := 12) fX8_65 k0 rfl q0_12 rfl hC dX8_ride_99 ?_
    refine a_getF (d := (N + 9)) fX8_138 (kN hNk) rfl (rN_12 hNk) dX8_ride_102 ?_
    refine a_iload_n dX8_ride_105 rfl rfl ?_
    refine a_ild (kN_9 hNk) (nN_9 hNk) (by omega) (by omega) dX8_ride_106 ?_
    refine a_topI (y := gN ρ 155 (115 + 5 * i + 3)) (hN.r3 (by omega) (by omega)) ?_
    have hb103 := hW.ride i (by omega) (by omega)
    exact a_iret rfl ⟨by unfold cRide; grind, rfl⟩ dX8_ride_107
  · subst hw
    refine a_tabIn (tgt := 108) dX8_ride_19 (inR_of (by omega) (by omega)) (by omega) (by omega) (by rfl) (by decide) ?_
    refine a_aload_n dX8_ride_108 rfl rfl ?_
    refine a_getR (d := N) (J := 12) fX8_65 k0 rfl q0_12 rfl hC dX8_ride_109 ?_
    refine a_getF (d := (N + 10)) fX8_141 (kN hNk) rfl (rN_13 hNk) dX8_ride_112 ?_
    refine a_iload_n dX8_ride_115 rfl rfl ?_
    refine a_ild (kN_10 hNk) (nN_10 hNk) (by omega) (by omega) dX8_ride_116 ?_
    refine a_topI (y := gN ρ 155 (115 + 5 * i + 4)) (hN.r4 (by omega) (by omega)) ?_
    have hb104 := hW.ride i (by omega) (by omega)
    exact a_iret rfl ⟨by unfold cRide; grind, rfl⟩ dX8_ride_117
  · subst hw
    refine a_tabIn (tgt := 118) dX8_ride_19 (inR_of (by omega) (by omega)) (by omega) (by omega) (by rfl) (by decide) ?_
    refine a_aload_n dX8_ride_118 rfl rfl ?_
    refine a_getF (d := 7) fX8_81 k0 rfl r0_3 dX8_ride_119 ?_
    refine a_getF (d := 8) fX8_144 k7 rfl r7_3 dX8_ride_122 ?_
    refine a_iload_n dX8_ride_125 rfl rfl ?_
    refine a_ild k8 n8 (by omega) (by omega) dX8_ride_126 ?_
    refine a_topI (y := gN ρ 161 i) (hT7.lv (by omega) (by omega)) ?_
    have hb105 := hW.tm i (by omega) (by omega)
    exact a_iret rfl ⟨by unfold cRide; grind, rfl⟩ dX8_ride_127
  · subst hw
    refine a_tabIn (tgt := 128) dX8_ride_19 (inR_of (by omega) (by omega)) (by omega) (by omega) (by rfl) (by decide) ?_
    refine a_aload_n dX8_ride_128 rfl rfl ?_
    refine a_getF (d := 7) fX8_81 k0 rfl r0_3 dX8_ride_129 ?_
    refine a_getF (d := 9) fX8_147 k7 rfl r7_4 dX8_ride_132 ?_
    refine a_iload_n dX8_ride_135 rfl rfl ?_
    refine a_ild k9 n9 (by omega) (by omega) dX8_ride_136 ?_
    refine a_topI (y := gN ρ 162 i) (hT7.cm (by omega) (by omega)) ?_
    have hb106 := hW.tm i (by omega) (by omega)
    exact a_iret rfl ⟨by unfold cRide; grind, rfl⟩ dX8_ride_137
  · subst hw
    refine a_tabIn (tgt := 138) dX8_ride_19 (inR_of (by omega) (by omega)) (by omega) (by omega) (by rfl) (by decide) ?_
    refine a_aload_n dX8_ride_138 rfl rfl ?_
    refine a_getF (d := 7) fX8_81 k0 rfl r0_3 dX8_ride_139 ?_
    refine a_iload_n dX8_ride_142 rfl rfl ?_
    refine a_cI (c := 7) (as := [ai i]) (rest := []) (c_isCancelled σ ρ N 7 hW hN hT7 i (by omega) (by omega)) mvX6_isCancelled lX8_150 k7 (by decide) rfl rfl rfl rfl (Nat.le_of_ble_eq_true rfl) (Nat.le_of_ble_eq_true rfl) (Nat.le_of_ble_eq_true rfl) dX8_ride_143 ?_
    refine a_ifb_eq (tgt := 153) dX8_ride_146 (by decide) (fun c146 => ?_) (fun c146 => ?_)
    · refine a_iconst dX8_ride_153 ?_
      exact a_iret rfl ⟨by unfold cRide; grind, rfl⟩ dX8_ride_154
    · refine a_iconst dX8_ride_149 ?_
      refine a_goto (tgt := 154) dX8_ride_150 (by decide) ?_
      exact a_iret rfl ⟨by unfold cRide; grind, rfl⟩ dX8_ride_154
  · subst hw
    refine a_tabIn (tgt := 155) dX8_ride_19 (inR_of (by omega) (by omega)) (by omega) (by omega) (by rfl) (by decide) ?_
    refine a_aload_n dX8_ride_155 rfl rfl ?_
    refine a_getR (d := N) (J := 12) fX8_65 k0 rfl q0_12 rfl hC dX8_ride_156 ?_
    refine a_iload_n dX8_ride_159 rfl rfl ?_
    refine a_cI (c := N) (as := [ai i]) (rest := []) (c_goesOn σ ρ N hW hN i (by omega) (by omega)) mvX2_goesOn lX8_153 (kN hNk) (by decide) rfl rfl rfl rfl (Nat.le_of_ble_eq_true rfl) (Nat.le_of_ble_eq_true rfl) (Nat.le_of_ble_eq_true rfl) dX8_ride_160 ?_
    refine a_ifb_eq (tgt := 172) dX8_ride_163 (by decide) (fun c163 => ?_) (fun c163 => ?_)
    · refine a_bipush (x := (-2)) dX8_ride_172 (by decide) ?_
      exact a_iret rfl ⟨by unfold cRide; grind, rfl⟩ dX8_ride_174
    · refine a_iload_n dX8_ride_166 rfl rfl ?_
      refine a_iconst dX8_ride_167 ?_
      refine a_iadd dX8_ride_168 ?_
      refine a_goto (tgt := 174) dX8_ride_169 (by decide) ?_
      exact a_iret rfl ⟨by unfold cRide; grind, rfl⟩ dX8_ride_174

theorem q_ride {σ : Sto} (h : LW σ) {i what : Int} (hi0 : 0 ≤ i) (hi1 : i < gN σ 155 3) (hw0 : 0 ≤ what) (hw1 : what ≤ 8) : cRide (lkN σ) i what = (rideV σ i what).1 ∧ (rideV σ i what).2 = 0 := by
  have hr : ¬ ¬ rid σ i := fun z => z ⟨hi0, hi1⟩
  have p := (PlW.now h).2 i hi0 hi1
  have hcs : what = 0 ∨ what = 1 ∨ what = 2 ∨ what = 3 ∨ what = 4 ∨ what = 5 ∨ what = 6 ∨ what = 7 ∨ what = 8 := by omega
  unfold rideV cRide
  rw [if_neg hr]
  rcases hcs with hw | hw | hw | hw | hw | hw | hw | hw | hw
  · subst hw; exact ⟨rfl, rfl⟩
  · subst hw; exact ⟨rfl, rfl⟩
  · subst hw; exact ⟨rfl, rfl⟩
  · subst hw; exact ⟨rfl, rfl⟩
  · subst hw; exact ⟨rfl, rfl⟩
  · subst hw
    refine ⟨?_, rfl⟩
    show gN (lkN σ) 161 i = gN σ 155 (115 + 5 * i + (5 - 2)) + gN σ 158 i
    have z := p.1
    rw [if_pos rfl] at z
    exact z
  · subst hw
    refine ⟨?_, rfl⟩
    show gN (lkN σ) 162 i = gN σ 155 (115 + 5 * i + (6 - 2)) + gN σ 158 i
    have z := p.2.1
    rw [if_pos rfl] at z
    exact z
  · subst hw
    refine ⟨?_, rfl⟩
    show (if shrL (gL (lkN σ) 153 23) i &&& 1 ≠ 0 then (1 : Int) else 0) = if ofB σ i then 1 else 0
    have z := p.2.2
    by_cases y : ofB σ i
    · rw [if_pos y, if_pos (z.mpr ⟨rfl, y⟩)]
    · rw [if_neg y, if_neg (fun x => y (z.mp x).2)]
  · subst hw
    exact ⟨rfl, rfl⟩
theorem q_ride1 {σ : Sto} {i what : Int} (h : ¬ rid σ i) : (rideV σ i what).2 = 1 := by
  unfold rideV
  rw [if_pos h]
theorem q_ride2 {σ : Sto} {i what : Int} (h : rid σ i) (h1 : what < 0 ∨ 8 < what) : (rideV σ i what).2 = 2 := by
  unfold rideV
  rw [if_neg (fun z => z h), if_neg (by omega), if_neg (by omega), if_neg (by omega), if_neg (by omega)]
