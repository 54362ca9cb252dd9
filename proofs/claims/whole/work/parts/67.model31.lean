set_option maxRecDepth 20000 in
theorem t_rt_l (σ : Sto) (hT : TpOK σ) (hs0 : 0 ≤ gN σ 153 6) (hs1 : gN σ 153 6 ≤ 900) : ∀ (d : Nat) (fr ah : Int) (q : RS) (τ : Sto), RD σ τ q → ROK σ q → q.fa = 0 → q.f 2 ≠ 20 → 0 ≤ fr → fr < 10 → 0 ≤ ah → ah ≤ 1439 → 61 - q.f 3 ≤ d → RunA mX9_readTrip (fun r u => r = none ∧ RD σ u (rtF σ d fr ah q)) 41 [(3, ai 1), (2, ai ah), (1, ai fr), (0, ar 153)] [] τ := by
  intro d
  induction d with
  | zero =>
    intro fr ah q τ hD hO0 hz0 h2 hf0 hf1 ha0 ha1 hd
    have := hO0.f3
    omega
  | succ d ih =>
    intro fr ah q τ hD hO0 hz0 h2 hf0 hf1 ha0 ha1 hd
    have b0 := hO0.f0
    have b2 := hO0.f2
    have b3 := hO0.f3
    refine a_iload_n dX9_readTrip_41 rfl rfl ?_
    refine a_if_eq (tgt := 237) dX9_readTrip_42 (by decide) (inR_of (by omega) (by omega)) (fun c42 => ?_) (fun c42 => ?_)
    · exact absurd c42 (by decide)
    · refine a_bipush (x := 115) dX9_readTrip_45 (by decide) ?_
      refine a_iconst dX9_readTrip_47 ?_
      refine a_aload_n dX9_readTrip_48 rfl rfl ?_
      refine a_getF (d := 156) fX9_16 k153 rfl r153_4 dX9_readTrip_49 ?_
      refine a_iconst dX9_readTrip_52 ?_
      refine a_ild k156 n156 (by omega) (by omega) dX9_readTrip_53 ?_
      refine a_topI (y := q.f 3) (hD.f 3 (by omega) (by omega)) ?_
      refine a_imul dX9_readTrip_54 ?_
      refine a_iadd dX9_readTrip_55 ?_
      refine a_istore (ls' := [(4, ai (115 + (5 * (q.f 3)))), (3, ai 1), (2, ai ah), (1, ai fr), (0, ar 153)]) dX9_readTrip_56 (Nat.le_of_ble_eq_true rfl) rfl ?_
      refine joinR (P := fun υ => RD σ υ (rtA q)) (pc' := 82) (ls' := [(4, ai (115 + (5 * (q.f 3)))), (3, ai 1), (2, ai ah), (1, ai fr), (0, ar 153)]) (st' := []) (fun υ32 hD32 => ?_) (fun J => ?_)
      · obtain ⟨q32, eq32⟩ : ∃ x, x = rtA q := ⟨_, rfl⟩
        rw [← eq32] at hD32
        have hO32 : ROK σ q32 := eq32 ▸ (rtA_ok hO0)
        refine a_aload_n dX9_readTrip_82 rfl rfl ?_
        refine a_iconst dX9_readTrip_83 ?_
        refine a_sipush (x := 1439) dX9_readTrip_84 (by decide) ?_
        refine a_callI (c := 153) (as := [ai 0, ai 1439]) (rest := []) (t_numberHere σ υ32 q32 0 1439 (inR_of (by omega) (by omega)) (inR_of (by omega) (by omega)) hD32 hT hs0 hs1 hO32) mvX9_numberHere lX9_145 k153 (by decide) rfl rfl rfl rfl (Nat.le_of_ble_eq_true rfl) (Nat.le_of_ble_eq_true rfl) (Nat.le_of_ble_eq_true rfl) dX9_readTrip_87 (fun x υ33 hu => ?_)
        obtain ⟨hx, hD33⟩ := hu
        cases hx
        have hnv33 := nhV_rng (q := q32) (show 0 ≤ 1439 by decide)
        refine a_istore (ls' := [(5, ai (nhV 0 1439 q32)), (4, ai (115 + (5 * (q.f 3)))), (3, ai 1), (2, ai ah), (1, ai fr), (0, ar 153)]) dX9_readTrip_90 (Nat.le_of_ble_eq_true rfl) rfl ?_
        refine joinR (P := fun υ => RD σ υ (rtB (nhV 0 1439 q32) ah (nhF 0 1439 q32))) (pc' := 103) (ls' := [(5, ai (nhV 0 1439 q32)), (4, ai (115 + (5 * (q.f 3)))), (3, ai 1), (2, ai ah), (1, ai fr), (0, ar 153)]) (st' := []) (fun υ34 hD34 => ?_) (fun J => ?_)
        · obtain ⟨q34, eq34⟩ : ∃ x, x = rtB (nhV 0 1439 q32) ah (nhF 0 1439 q32) := ⟨_, rfl⟩
          rw [← eq34] at hD34
          have hO34 : ROK σ q34 := eq34 ▸ (rtB_ok (nh_ok 0 1439 hO32))
          refine a_aload_n dX9_readTrip_103 rfl rfl ?_
          refine a_callV (c := 153) (as := []) (rest := []) (t_goOn σ υ34 q34   hD34 hT hs0 hs1 hO34) mvX9_goOn lX9_149 k153 (by decide) rfl rfl rfl rfl (Nat.le_of_ble_eq_true rfl) (Nat.le_of_ble_eq_true rfl) (Nat.le_of_ble_eq_true rfl) dX9_readTrip_104 (fun υ35 hu => ?_)
          obtain ⟨-, hD35⟩ := hu
          refine a_aload_n dX9_readTrip_107 rfl rfl ?_
          refine a_iconst dX9_readTrip_108 ?_
          refine a_sipush (x := 1439) dX9_readTrip_109 (by decide) ?_
          refine a_callI (c := 153) (as := [ai 0, ai 1439]) (rest := []) (t_numberHere σ υ35 (gnF σ q34) 0 1439 (inR_of (by omega) (by omega)) (inR_of (by omega) (by omega)) hD35 hT hs0 hs1 (gn_ok hO34)) mvX9_numberHere lX9_145 k153 (by decide) rfl rfl rfl rfl (Nat.le_of_ble_eq_true rfl) (Nat.le_of_ble_eq_true rfl) (Nat.le_of_ble_eq_true rfl) dX9_readTrip_112 (fun x υ36 hu => ?_)
          obtain ⟨hx, hD36⟩ := hu
          cases hx
          have hnv36 := nhV_rng (q := gnF σ q34) (show 0 ≤ 1439 by decide)
          refine a_istore (ls' := [(6, ai (nhV 0 1439 (gnF σ q34))), (5, ai (nhV 0 1439 q32)), (4, ai (115 + (5 * (q.f 3)))), (3, ai 1), (2, ai ah), (1, ai fr), (0, ar 153)]) dX9_readTrip_115 (Nat.le_of_ble_eq_true rfl) rfl ?_
          refine joinR (P := fun υ => RD σ υ (rtC (nhV 0 1439 (gnF σ q34)) (nhV 0 1439 q32) (nhF 0 1439 (gnF σ q34)))) (pc' := 129) (ls' := [(6, ai (nhV 0 1439 (gnF σ q34))), (5, ai (nhV 0 1439 q32)), (4, ai (115 + (5 * (q.f 3)))), (3, ai 1), (2, ai ah), (1, ai fr), (0, ar 153)]) (st' := []) (fun υ37 hD37 => ?_) (fun J => ?_)
          · obtain ⟨q37, eq37⟩ : ∃ x, x = rtC (nhV 0 1439 (gnF σ q34)) (nhV 0 1439 q32) (nhF 0 1439 (gnF σ q34)) := ⟨_, rfl⟩
            rw [← eq37] at hD37
            have hO37 : ROK σ q37 := eq37 ▸ (rtC_ok (nh_ok 0 1439 (gn_ok hO34)))
            refine a_aload_n dX9_readTrip_129 rfl rfl ?_
            refine a_callV (c := 153) (as := []) (rest := []) (t_goOn σ υ37 q37   hD37 hT hs0 hs1 hO37) mvX9_goOn lX9_149 k153 (by decide) rfl rfl rfl rfl (Nat.le_of_ble_eq_true rfl) (Nat.le_of_ble_eq_true rfl) (Nat.le_of_ble_eq_true rfl) dX9_readTrip_130 (fun υ38 hu => ?_)
            obtain ⟨-, hD38⟩ := hu
            refine a_aload_n dX9_readTrip_133 rfl rfl ?_
            refine a_iload_n dX9_readTrip_134 rfl rfl ?_
            refine a_callI (c := 153) (as := [ai fr]) (rest := []) (t_stop σ υ38 (gnF σ q37) fr (inR_of (by omega) (by omega)) hD38 hT hs0 hs1 (gn_ok hO37)) mvX9_stop lX9_162 k153 (by decide) rfl rfl rfl rfl (Nat.le_of_ble_eq_true rfl) (Nat.le_of_ble_eq_true rfl) (Nat.le_of_ble_eq_true rfl) dX9_readTrip_135 (fun x υ39 hu => ?_)
            obtain ⟨hx, hD39⟩ := hu
            cases hx
            have hsv39 := stV_rng (gn_ok hO37)
            refine a_istore (ls' := [(7, ai (stV (gnF σ q37))), (6, ai (nhV 0 1439 (gnF σ q34))), (5, ai (nhV 0 1439 q32)), (4, ai (115 + (5 * (q.f 3)))), (3, ai 1), (2, ai ah), (1, ai fr), (0, ar 153)]) dX9_readTrip_138 (Nat.le_of_ble_eq_true rfl) rfl ?_
            refine a_aload_n dX9_readTrip_140 rfl rfl ?_
            refine a_getI (J := 12) fX9_132 k153 rfl rfl dX9_readTrip_141 ?_
            refine a_topI (y := (stpF σ fr (gnF σ q37)).fa) hD39.fa ?_
            refine a_if_eq (tgt := 148) dX9_readTrip_144 (by decide) hD39.ifa (fun c144 => ?_) (fun c144 => ?_)
            · have e3 : rtQ3 σ fr ah q = stpF σ fr (gnF σ q37) := by subst_vars; rfl
              have hz : (rtQ3 σ fr ah q).fa = 0 := by rw [e3]; assumption
              have z0 := rt0 hz
              have z1 := rtT_rng hO0 hz
              have z2 : (stpF σ fr (gnF σ q37)).f = q.f := by rw [← e3, rtQ3_f]
              have z2_0 : (stpF σ fr (gnF σ q37)).f 0 = q.f 0 := by rw [z2]
              have z2_1 : (stpF σ fr (gnF σ q37)).f 1 = q.f 1 := by rw [z2]
              have z2_2 : (stpF σ fr (gnF σ q37)).f 2 = q.f 2 := by rw [z2]
              have z2_3 : (stpF σ fr (gnF σ q37)).f 3 = q.f 3 := by rw [z2]
              have zT : stV (gnF σ q37) = rtT σ ah q := by subst_vars; rfl
              have zL : nhV 0 1439 q32 = rtL q := by subst_vars; rfl
              have zM : nhV 0 1439 (gnF σ q34) = rtM σ ah q := by subst_vars; rfl
              refine a_aload_n dX9_readTrip_148 rfl rfl ?_
              refine a_getF (d := 156) fX9_16 k153 rfl r153_4 dX9_readTrip_149 ?_
              refine a_iload dX9_readTrip_152 rfl ?_
              refine a_aload_n dX9_readTrip_154 rfl rfl ?_
              refine a_getF (d := 156) fX9_16 k153 rfl r153_4 dX9_readTrip_155 ?_
              refine a_iconst dX9_readTrip_158 ?_
              refine a_ild k156 n156 (by omega) (by omega) dX9_readTrip_159 ?_
              refine a_topI (y := (stpF σ fr (gnF σ q37)).f 2) (hD39.f 2 (by omega) (by omega)) ?_
              refine a_ist k156 n156 (by omega) (by omega) dX9_readTrip_160 ?_
              have hW1 := hD39.pf (j := (115 + (5 * (q.f 3)))) (v := ((stpF σ fr (gnF σ q37)).f 2)) (hD39.if_ (by omega) (by omega))
              obtain ⟨qw2, eqw2⟩ : ∃ x, x = (stpF σ fr (gnF σ q37)).wF (up1 (stpF σ fr (gnF σ q37)).f (115 + (5 * (q.f 3))) ((stpF σ fr (gnF σ q37)).f 2)) := ⟨_, rfl⟩
              rw [← eqw2] at hW1
              have hqw2_0 : qw2.f 0 = (stpF σ fr (gnF σ q37)).f 0 := by rw [eqw2]; exact wF_neg (by omega)
              have hqw2_1 : qw2.f 1 = (stpF σ fr (gnF σ q37)).f 1 := by rw [eqw2]; exact wF_neg (by omega)
              have hqw2_2 : qw2.f 2 = (stpF σ fr (gnF σ q37)).f 2 := by rw [eqw2]; exact wF_neg (by omega)
              have hqw2_3 : qw2.f 3 = (stpF σ fr (gnF σ q37)).f 3 := by rw [eqw2]; exact wF_neg (by omega)
              refine a_aload_n dX9_readTrip_161 rfl rfl ?_
              refine a_getF (d := 156) fX9_16 k153 rfl r153_4 dX9_readTrip_162 ?_
              refine a_iload dX9_readTrip_165 rfl ?_
              refine a_iconst dX9_readTrip_167 ?_
              refine a_iadd dX9_readTrip_168 ?_
              refine a_iload_n dX9_readTrip_169 rfl rfl ?_
              refine a_ist k156 n156 (by omega) (by omega) dX9_readTrip_170 ?_
              have hW3 := hW1.pf (j := (115 + (5 * (q.f 3)) + 1)) (v := fr) (inR_of (by omega) (by omega))
              obtain ⟨qw4, eqw4⟩ : ∃ x, x = qw2.wF (up1 qw2.f (115 + (5 * (q.f 3)) + 1) fr) := ⟨_, rfl⟩
              rw [← eqw4] at hW3
              have hqw4_0 : qw4.f 0 = qw2.f 0 := by rw [eqw4]; exact wF_neg (by omega)
              have hqw4_1 : qw4.f 1 = qw2.f 1 := by rw [eqw4]; exact wF_neg (by omega)
              have hqw4_2 : qw4.f 2 = qw2.f 2 := by rw [eqw4]; exact wF_neg (by omega)
              have hqw4_3 : qw4.f 3 = qw2.f 3 := by rw [eqw4]; exact wF_neg (by omega)
              refine a_aload_n dX9_readTrip_171 rfl rfl ?_
              refine a_getF (d := 156) fX9_16 k153 rfl r153_4 dX9_readTrip_172 ?_
              refine a_iload dX9_readTrip_175 rfl ?_
              refine a_iconst dX9_readTrip_177 ?_
              refine a_iadd dX9_readTrip_178 ?_
              refine a_iload dX9_readTrip_179 rfl ?_
              refine a_ist k156 n156 (by omega) (by omega) dX9_readTrip_181 ?_
              have hW5 := hW3.pf (j := (115 + (5 * (q.f 3)) + 2)) (v := (stV (gnF σ q37))) (inR_of (by omega) (by omega))
              obtain ⟨qw6, eqw6⟩ : ∃ x, x = qw4.wF (up1 qw4.f (115 + (5 * (q.f 3)) + 2) (stV (gnF σ q37))) := ⟨_, rfl⟩
              rw [← eqw6] at hW5
              have hqw6_0 : qw6.f 0 = qw4.f 0 := by rw [eqw6]; exact wF_neg (by omega)
              have hqw6_1 : qw6.f 1 = qw4.f 1 := by rw [eqw6]; exact wF_neg (by omega)
              have hqw6_2 : qw6.f 2 = qw4.f 2 := by rw [eqw6]; exact wF_neg (by omega)
              have hqw6_3 : qw6.f 3 = qw4.f 3 := by rw [eqw6]; exact wF_neg (by omega)
              refine a_aload_n dX9_readTrip_182 rfl rfl ?_
              refine a_getF (d := 156) fX9_16 k153 rfl r153_4 dX9_readTrip_183 ?_
              refine a_iload dX9_readTrip_186 rfl ?_
              refine a_iconst dX9_readTrip_188 ?_
              refine a_iadd dX9_readTrip_189 ?_
              refine a_iload dX9_readTrip_190 rfl ?_
              refine a_ist k156 n156 (by omega) (by omega) dX9_readTrip_192 ?_
              have hW7 := hW5.pf (j := (115 + (5 * (q.f 3)) + 3)) (v := (nhV 0 1439 q32)) (inR_of (by omega) (by omega))
              obtain ⟨qw8, eqw8⟩ : ∃ x, x = qw6.wF (up1 qw6.f (115 + (5 * (q.f 3)) + 3) (nhV 0 1439 q32)) := ⟨_, rfl⟩
              rw [← eqw8] at hW7
              have hqw8_0 : qw8.f 0 = qw6.f 0 := by rw [eqw8]; exact wF_neg (by omega)
              have hqw8_1 : qw8.f 1 = qw6.f 1 := by rw [eqw8]; exact wF_neg (by omega)
              have hqw8_2 : qw8.f 2 = qw6.f 2 := by rw [eqw8]; exact wF_neg (by omega)
              have hqw8_3 : qw8.f 3 = qw6.f 3 := by rw [eqw8]; exact wF_neg (by omega)
              refine a_aload_n dX9_readTrip_193 rfl rfl ?_
              refine a_getF (d := 156) fX9_16 k153 rfl r153_4 dX9_readTrip_194 ?_
              refine a_iload dX9_readTrip_197 rfl ?_
              refine a_iconst dX9_readTrip_199 ?_
              refine a_iadd dX9_readTrip_200 ?_
              refine a_iload dX9_readTrip_201 rfl ?_
              refine a_ist k156 n156 (by omega) (by omega) dX9_readTrip_203 ?_
              have hW9 := hW7.pf (j := (115 + (5 * (q.f 3)) + 4)) (v := (nhV 0 1439 (gnF σ q34))) (inR_of (by omega) (by omega))
              obtain ⟨qw10, eqw10⟩ : ∃ x, x = qw8.wF (up1 qw8.f (115 + (5 * (q.f 3)) + 4) (nhV 0 1439 (gnF σ q34))) := ⟨_, rfl⟩
              rw [← eqw10] at hW9
              have hqw10_0 : qw10.f 0 = qw8.f 0 := by rw [eqw10]; exact wF_neg (by omega)
              have hqw10_1 : qw10.f 1 = qw8.f 1 := by rw [eqw10]; exact wF_neg (by omega)
              have hqw10_2 : qw10.f 2 = qw8.f 2 := by rw [eqw10]; exact wF_neg (by omega)
              have hqw10_3 : qw10.f 3 = qw8.f 3 := by rw [eqw10]; exact wF_neg (by omega)
              refine a_aload_n dX9_readTrip_204 rfl rfl ?_
              refine a_getF (d := 156) fX9_16 k153 rfl r153_4 dX9_readTrip_205 ?_
              refine a_iconst dX9_readTrip_208 ?_
              refine a_dup2 dX9_readTrip_209 rfl rfl ?_
              refine a_ild k156 n156 (by omega) (by omega) dX9_readTrip_210 ?_
              refine a_topI (y := qw10.f 3) (hW9.f 3 (by omega) (by omega)) ?_
              refine a_iconst dX9_readTrip_211 ?_
              refine a_iadd dX9_readTrip_212 ?_
              refine a_ist k156 n156 (by omega) (by omega) dX9_readTrip_213 ?_
              have hW11 := hW9.pf (j := 3) (v := (qw10.f 3 + 1)) (inR_of (by omega) (by omega))
              obtain ⟨qw12, eqw12⟩ : ∃ x, x = qw10.wF (up1 qw10.f 3 (qw10.f 3 + 1)) := ⟨_, rfl⟩
              rw [← eqw12] at hW11
              have hqw12_0 : qw12.f 0 = qw10.f 0 := by rw [eqw12]; exact wF_neg (by omega)
              have hqw12_1 : qw12.f 1 = qw10.f 1 := by rw [eqw12]; exact wF_neg (by omega)
              have hqw12_2 : qw12.f 2 = qw10.f 2 := by rw [eqw12]; exact wF_neg (by omega)
              have hqw12_3 : qw12.f 3 = qw10.f 3 + 1 := by rw [eqw12]; exact wF_pos
              refine a_iload dX9_readTrip_214 rfl ?_
              refine a_istore_n (ls' := [(1, ai (stV (gnF σ q37))), (7, ai (stV (gnF σ q37))), (6, ai (nhV 0 1439 (gnF σ q34))), (5, ai (nhV 0 1439 q32)), (4, ai (115 + (5 * (q.f 3)))), (3, ai 1), (2, ai ah), (0, ar 153)]) dX9_readTrip_216 rfl (Nat.le_of_ble_eq_true rfl) rfl ?_
              refine a_iload dX9_readTrip_217 rfl ?_
              refine a_istore_n (ls' := [(2, ai (nhV 0 1439 (gnF σ q34))), (1, ai (stV (gnF σ q37))), (7, ai (stV (gnF σ q37))), (6, ai (nhV 0 1439 (gnF σ q34))), (5, ai (nhV 0 1439 q32)), (4, ai (115 + (5 * (q.f 3)))), (3, ai 1), (0, ar 153)]) dX9_readTrip_219 rfl (Nat.le_of_ble_eq_true rfl) rfl ?_
              refine a_aload_n dX9_readTrip_220 rfl rfl ?_
              refine a_getI (J := 9) fX9_104 k153 rfl rfl dX9_readTrip_221 ?_
              refine a_topI (y := qw12.so) hW11.so ?_
              refine a_iconst dX9_readTrip_224 ?_
              refine a_icmp_ne (tgt := 232) dX9_readTrip_225 (by decide) hW11.iso (inR_of (by omega) (by omega)) (fun c225 => ?_) (fun c225 => ?_)
              · refine a_iconst dX9_readTrip_232 ?_
                refine a_istore_n (ls' := [(3, ai 0), (2, ai (nhV 0 1439 (gnF σ q34))), (1, ai (stV (gnF σ q37))), (7, ai (stV (gnF σ q37))), (6, ai (nhV 0 1439 (gnF σ q34))), (5, ai (nhV 0 1439 q32)), (4, ai (115 + (5 * (q.f 3)))), (0, ar 153)]) dX9_readTrip_233 rfl (Nat.le_of_ble_eq_true rfl) rfl ?_
                refine a_goto (tgt := 41) dX9_readTrip_234 (by decide) ?_
                have eR : rtR σ fr ah q = qw12 := by subst_vars; rfl
                have hRz : (rtR σ fr ah q).fa = 0 := hz
                have hRo := rtR_ok hO0 hz
                have hR2 : (rtR σ fr ah q).f 2 = q.f 2 := by rw [rtR_f hO0 (by omega)]; rfl
                have hR3 : (rtR σ fr ah q).f 3 = q.f 3 + 1 := by rw [rtR_f hO0 (by omega)]; rfl
                have hRs : (rtR σ fr ah q).so = (qw12).so := by rw [eR]
                have eF : rtF σ (d + 1) fr ah q = (rtR σ fr ah q).wF (up1 (rtR σ fr ah q).f 2 ((rtR σ fr ah q).f 2 + 1)) := by show (if (rtQ3 σ fr ah q).fa = 0 then _ else _) = _; rw [if_pos hz, if_neg (by rw [hRs]; assumption)]
                rw [eF, eR]
                have hRz2 : (qw12).fa = 0 := by rw [← eR]; exact hRz
                refine a_iload_n dX9_readTrip_41 rfl rfl ?_
                refine a_if_eq (tgt := 237) dX9_readTrip_42 (by decide) (inR_of (by omega) (by omega)) (fun c42 => ?_) (fun c42 => ?_)
                · refine a_aload_n dX9_readTrip_237 rfl rfl ?_
                  refine a_getI (J := 12) fX9_132 k153 rfl rfl dX9_readTrip_238 ?_
                  refine a_topI (y := qw12.fa) hW11.fa ?_
                  refine a_if_ne (tgt := 254) dX9_readTrip_241 (by decide) hW11.ifa (fun c241 => ?_) (fun c241 => ?_)
                  · exfalso; omega
                  · refine a_aload_n dX9_readTrip_244 rfl rfl ?_
                    refine a_getF (d := 156) fX9_16 k153 rfl r153_4 dX9_readTrip_245 ?_
                    refine a_iconst dX9_readTrip_248 ?_
                    refine a_dup2 dX9_readTrip_249 rfl rfl ?_
                    refine a_ild k156 n156 (by omega) (by omega) dX9_readTrip_250 ?_
                    refine a_topI (y := qw12.f 2) (hW11.f 2 (by omega) (by omega)) ?_
                    refine a_iconst dX9_readTrip_251 ?_
                    refine a_iadd dX9_readTrip_252 ?_
                    refine a_ist k156 n156 (by omega) (by omega) dX9_readTrip_253 ?_
                    have hW13 := hW11.pf (j := 2) (v := (qw12.f 2 + 1)) (inR_of (by omega) (by omega))
                    obtain ⟨qw14, eqw14⟩ : ∃ x, x = qw12.wF (up1 qw12.f 2 (qw12.f 2 + 1)) := ⟨_, rfl⟩
                    rw [← eqw14] at hW13
                    have hqw14_0 : qw14.f 0 = qw12.f 0 := by rw [eqw14]; exact wF_neg (by omega)
                    have hqw14_1 : qw14.f 1 = qw12.f 1 := by rw [eqw14]; exact wF_neg (by omega)
                    have hqw14_2 : qw14.f 2 = qw12.f 2 + 1 := by rw [eqw14]; exact wF_pos
                    have hqw14_3 : qw14.f 3 = qw12.f 3 := by rw [eqw14]; exact wF_neg (by omega)
                    exact a_vret rfl ⟨rfl, by subst_vars; exact hW13⟩ dX9_readTrip_254
                · exact absurd c42 (by decide)
              · refine a_iconst dX9_readTrip_228 ?_
                refine a_goto (tgt := 233) dX9_readTrip_229 (by decide) ?_
                refine a_istore_n (ls' := [(3, ai 1), (2, ai (nhV 0 1439 (gnF σ q34))), (1, ai (stV (gnF σ q37))), (7, ai (stV (gnF σ q37))), (6, ai (nhV 0 1439 (gnF σ q34))), (5, ai (nhV 0 1439 q32)), (4, ai (115 + (5 * (q.f 3)))), (0, ar 153)]) dX9_readTrip_233 rfl (Nat.le_of_ble_eq_true rfl) rfl ?_
                refine a_goto (tgt := 41) dX9_readTrip_234 (by decide) ?_
                have eR : rtR σ fr ah q = qw12 := by subst_vars; rfl
                have hRz : (rtR σ fr ah q).fa = 0 := hz
                have hRo := rtR_ok hO0 hz
                have hR2 : (rtR σ fr ah q).f 2 = q.f 2 := by rw [rtR_f hO0 (by omega)]; rfl
                have hR3 : (rtR σ fr ah q).f 3 = q.f 3 + 1 := by rw [rtR_f hO0 (by omega)]; rfl
                have hRs : (rtR σ fr ah q).so = (qw12).so := by rw [eR]
                have eF : rtF σ (d + 1) fr ah q = rtF σ d (rtT σ ah q) (rtM σ ah q) (rtR σ fr ah q) := by show (if (rtQ3 σ fr ah q).fa = 0 then _ else _) = _; rw [if_pos hz, if_pos (by rw [hRs]; assumption)]
                rw [eF]
                exact a_keep (by rw [← zT, ← zM]; simp) (ih (rtT σ ah q) (rtM σ ah q) (rtR σ fr ah q) _ (by rw [eR]; exact hW11) hRo hRz (by rw [hR2]; exact h2) (by omega) (by omega) (by omega) (by omega) (by omega))
            · exact a_vret rfl ⟨rfl, by rw [show rtF σ (d + 1) fr ah q = rtQ3 σ fr ah q from by show (if (rtQ3 σ fr ah q).fa = 0 then _ else _) = _; rw [if_neg (by subst_vars; assumption)]]; subst_vars; exact hD39⟩ dX9_readTrip_147
          · refine a_iload dX9_readTrip_117 rfl ?_
            refine a_iload dX9_readTrip_119 rfl ?_
            refine a_icmp_gt (tgt := 129) dX9_readTrip_121 (by decide) (inR_of (by omega) (by omega)) (inR_of (by omega) (by omega)) (fun c121 => ?_) (fun c121 => ?_)
            · have e : rtC (nhV 0 1439 (gnF σ q34)) (nhV 0 1439 q32) (nhF 0 1439 (gnF σ q34)) = nhF 0 1439 (gnF σ q34) := by unfold rtC; grind
              exact a_keep (by simp) (J _ (by rw [e]; exact hD36))
            · refine a_aload_n dX9_readTrip_124 rfl rfl ?_
              refine a_iconst dX9_readTrip_125 ?_
              refine a_callV (c := 153) (as := [ai 4]) (rest := []) (t_wrong σ υ36 (nhF 0 1439 (gnF σ q34)) 4 (inR_of (by omega) (by omega)) hD36) mvX9_wrong lX9_141 k153 (by decide) rfl rfl rfl rfl (Nat.le_of_ble_eq_true rfl) (Nat.le_of_ble_eq_true rfl) (Nat.le_of_ble_eq_true rfl) dX9_readTrip_126 (fun υ40 hu => ?_)
              obtain ⟨-, hD40⟩ := hu
              have e : rtC (nhV 0 1439 (gnF σ q34)) (nhV 0 1439 q32) (nhF 0 1439 (gnF σ q34)) = wrongF 4 (nhF 0 1439 (gnF σ q34)) := by unfold rtC; grind
              exact a_keep (by simp) (J _ (by rw [e]; exact hD40))
        · refine a_iload dX9_readTrip_92 rfl ?_
          refine a_iload_n dX9_readTrip_94 rfl rfl ?_
          refine a_icmp_ge (tgt := 103) dX9_readTrip_95 (by decide) (inR_of (by omega) (by omega)) (inR_of (by omega) (by omega)) (fun c95 => ?_) (fun c95 => ?_)
          · have e : rtB (nhV 0 1439 q32) ah (nhF 0 1439 q32) = nhF 0 1439 q32 := by unfold rtB; grind
            exact a_keep (by simp) (J _ (by rw [e]; exact hD33))
          · refine a_aload_n dX9_readTrip_98 rfl rfl ?_
            refine a_iconst dX9_readTrip_99 ?_
            refine a_callV (c := 153) (as := [ai 4]) (rest := []) (t_wrong σ υ33 (nhF 0 1439 q32) 4 (inR_of (by omega) (by omega)) hD33) mvX9_wrong lX9_141 k153 (by decide) rfl rfl rfl rfl (Nat.le_of_ble_eq_true rfl) (Nat.le_of_ble_eq_true rfl) (Nat.le_of_ble_eq_true rfl) dX9_readTrip_100 (fun υ41 hu => ?_)
            obtain ⟨-, hD41⟩ := hu
            have e : rtB (nhV 0 1439 q32) ah (nhF 0 1439 q32) = wrongF 4 (nhF 0 1439 q32) := by unfold rtB; grind
            exact a_keep (by simp) (J _ (by rw [e]; exact hD41))
      · refine a_aload_n dX9_readTrip_58 rfl rfl ?_
        refine a_getI (J := 9) fX9_104 k153 rfl rfl dX9_readTrip_59 ?_
        refine a_topI (y := q.so) hD.so ?_
        refine a_iconst dX9_readTrip_62 ?_
        refine a_icmp_ne (tgt := 82) dX9_readTrip_63 (by decide) hD.iso (inR_of (by omega) (by omega)) (fun c63 => ?_) (fun c63 => ?_)
        · have e : rtA q = q := by unfold rtA; grind
          exact a_keep (by simp) (J _ (by rw [e]; exact hD))
        · refine a_aload_n dX9_readTrip_66 rfl rfl ?_
          refine a_getF (d := 156) fX9_16 k153 rfl r153_4 dX9_readTrip_67 ?_
          refine a_iconst dX9_readTrip_70 ?_
          refine a_ild k156 n156 (by omega) (by omega) dX9_readTrip_71 ?_
          refine a_topI (y := q.f 3) (hD.f 3 (by omega) (by omega)) ?_
          refine a_bipush (x := 60) dX9_readTrip_72 (by decide) ?_
          refine a_icmp_ne (tgt := 82) dX9_readTrip_74 (by decide) (hD.if_ (by omega) (by omega)) (inR_of (by omega) (by omega)) (fun c74 => ?_) (fun c74 => ?_)
          · have e : rtA q = q := by unfold rtA; grind
            exact a_keep (by simp) (J _ (by rw [e]; exact hD))
          · refine a_aload_n dX9_readTrip_77 rfl rfl ?_
            refine a_iconst dX9_readTrip_78 ?_
            refine a_callV (c := 153) (as := [ai 2]) (rest := []) (t_wrong σ τ q 2 (inR_of (by omega) (by omega)) hD) mvX9_wrong lX9_141 k153 (by decide) rfl rfl rfl rfl (Nat.le_of_ble_eq_true rfl) (Nat.le_of_ble_eq_true rfl) (Nat.le_of_ble_eq_true rfl) dX9_readTrip_79 (fun υ42 hu => ?_)
            obtain ⟨-, hD42⟩ := hu
            have e : rtA q = wrongF 2 q := by unfold rtA; grind
            exact a_keep (by simp) (J _ (by rw [e]; exact hD42))

set_option maxRecDepth 20000 in
theorem t_readTrip (σ τ : Sto) (q : RS) (hD : RD σ τ q) (hT : TpOK σ) (hs0 : 0 ≤ gN σ 153 6) (hs1 : gN σ 153 6 ≤ 900) (hO : ROK σ q) : MetA mX9_readTrip [ar 153] τ (fun r u => r = none ∧ RD σ u (rdTrip σ q)) := by
  have hQ0 := hO.f2
  refine a_entry (by decide) (Nat.le_of_ble_eq_true rfl) ?_
  refine a_ls (ls' := [(0, ar 153)]) rfl ?_
  refine joinR (P := fun υ => RD σ υ (rt1 q)) (pc' := 16) (ls' := [(0, ar 153)]) (st' := []) (fun υ43 hD43 => ?_) (fun J => ?_)
  · obtain ⟨q43, eq43⟩ : ∃ x, x = rt1 q := ⟨_, rfl⟩
    rw [← eq43] at hD43
    have hO43 : ROK σ q43 := eq43 ▸ (ite_ok (wrong_ok 2 hO) hO)
    refine a_aload_n dX9_readTrip_16 rfl rfl ?_
    refine a_callV (c := 153) (as := []) (rest := []) (t_goOn σ υ43 q43   hD43 hT hs0 hs1 hO43) mvX9_goOn lX9_149 k153 (by decide) rfl rfl rfl rfl (Nat.le_of_ble_eq_true rfl) (Nat.le_of_ble_eq_true rfl) (Nat.le_of_ble_eq_true rfl) dX9_readTrip_17 (fun υ44 hu => ?_)
    obtain ⟨-, hD44⟩ := hu
    refine a_aload_n dX9_readTrip_20 rfl rfl ?_
    refine a_iconst dX9_readTrip_21 ?_
    refine a_callI (c := 153) (as := [ai (-1)]) (rest := []) (t_stop σ υ44 (gnF σ q43) (-1) (inR_of (by omega) (by omega)) hD44 hT hs0 hs1 (gn_ok hO43)) mvX9_stop lX9_162 k153 (by decide) rfl rfl rfl rfl (Nat.le_of_ble_eq_true rfl) (Nat.le_of_ble_eq_true rfl) (Nat.le_of_ble_eq_true rfl) dX9_readTrip_22 (fun x υ45 hu => ?_)
    obtain ⟨hx, hD45⟩ := hu
    cases hx
    have hsv45 := stV_rng (gn_ok hO43)
    refine a_istore_n (ls' := [(1, ai (stV (gnF σ q43))), (0, ar 153)]) dX9_readTrip_25 rfl (Nat.le_of_ble_eq_true rfl) rfl ?_
    refine a_iconst dX9_readTrip_26 ?_
    refine a_istore_n (ls' := [(2, ai 0), (1, ai (stV (gnF σ q43))), (0, ar 153)]) dX9_readTrip_27 rfl (Nat.le_of_ble_eq_true rfl) rfl ?_
    refine a_aload_n dX9_readTrip_28 rfl rfl ?_
    refine a_getI (J := 12) fX9_132 k153 rfl rfl dX9_readTrip_29 ?_
    refine a_topI (y := (stpF σ (-1) (gnF σ q43)).fa) hD45.fa ?_
    refine a_if_ne (tgt := 39) dX9_readTrip_32 (by decide) hD45.ifa (fun c32 => ?_) (fun c32 => ?_)
    · refine a_iconst dX9_readTrip_39 ?_
      refine a_istore_n (ls' := [(3, ai 0), (2, ai 0), (1, ai (stV (gnF σ q43))), (0, ar 153)]) dX9_readTrip_40 rfl (Nat.le_of_ble_eq_true rfl) rfl ?_
      refine a_iload_n dX9_readTrip_41 rfl rfl ?_
      refine a_if_eq (tgt := 237) dX9_readTrip_42 (by decide) (inR_of (by omega) (by omega)) (fun c42 => ?_) (fun c42 => ?_)
      · refine a_aload_n dX9_readTrip_237 rfl rfl ?_
        refine a_getI (J := 12) fX9_132 k153 rfl rfl dX9_readTrip_238 ?_
        refine a_topI (y := (stpF σ (-1) (gnF σ q43)).fa) hD45.fa ?_
        refine a_if_ne (tgt := 254) dX9_readTrip_241 (by decide) hD45.ifa (fun c241 => ?_) (fun c241 => ?_)
        · exact a_vret rfl ⟨rfl, by rw [show rdTrip σ q = stpF σ (-1) (gnF σ q43) from by unfold rdTrip; subst_vars; dsimp only; rw [if_neg (by assumption)]]; exact hD45⟩ dX9_readTrip_254
        · exfalso; omega
      · exact absurd c42 (by decide)
    · refine a_iconst dX9_readTrip_35 ?_
      refine a_goto (tgt := 40) dX9_readTrip_36 (by decide) ?_
      refine a_istore_n (ls' := [(3, ai 1), (2, ai 0), (1, ai (stV (gnF σ q43))), (0, ar 153)]) dX9_readTrip_40 rfl (Nat.le_of_ble_eq_true rfl) rfl ?_
      have hz2 : (stpF σ (-1) (gnF σ q43)).fa = 0 := by assumption
      have zz := (stp0 hz2).1
      rw [gn_fa] at zz
      have hn20 : q.f 2 ≠ 20 := (ck0 (by decide) (show (if q.f 2 = 20 then wrongF 2 q else q).fa = 0 from by subst_vars; exact zz)).1
      have hsl := stV_lt (b := -1) (gn_ok hO43 : ROK σ (gnF σ q43)) hz2
      have hb0 := (gn_ok hO43 : ROK σ (gnF σ q43)).f0
      rw [show rdTrip σ q = rtF σ 61 (stV (gnF σ q43)) 0 (stpF σ (-1) (gnF σ q43)) from by unfold rdTrip; subst_vars; dsimp only; rw [if_pos hz2]]
      exact a_keep (by simp) (t_rt_l σ hT hs0 hs1 61 (stV (gnF σ q43)) 0 (stpF σ (-1) (gnF σ q43)) υ45 hD45 (stp_ok (-1) (gn_ok hO43)) hz2 (by rw [stp_f, gn_f]; subst_vars; rw [rt1_f]; exact hn20) (by omega) (by omega) (by omega) (by omega) (by have := ((stp_ok (-1) (gn_ok hO43))).f3; omega))
  · refine a_aload_n dX9_readTrip_0 rfl rfl ?_
    refine a_getF (d := 156) fX9_16 k153 rfl r153_4 dX9_readTrip_1 ?_
    refine a_iconst dX9_readTrip_4 ?_
    refine a_ild k156 n156 (by omega) (by omega) dX9_readTrip_5 ?_
    refine a_topI (y := q.f 2) (hD.f 2 (by omega) (by omega)) ?_
    refine a_bipush (x := 20) dX9_readTrip_6 (by decide) ?_
    refine a_icmp_ne (tgt := 16) dX9_readTrip_8 (by decide) (hD.if_ (by omega) (by omega)) (inR_of (by omega) (by omega)) (fun c8 => ?_) (fun c8 => ?_)
    · have e : rt1 q = q := by unfold rt1; grind
      exact a_keep (by simp) (J _ (by rw [e]; exact hD))
    · refine a_aload_n dX9_readTrip_11 rfl rfl ?_
      refine a_iconst dX9_readTrip_12 ?_
      refine a_callV (c := 153) (as := [ai 2]) (rest := []) (t_wrong σ τ q 2 (inR_of (by omega) (by omega)) hD) mvX9_wrong lX9_141 k153 (by decide) rfl rfl rfl rfl (Nat.le_of_ble_eq_true rfl) (Nat.le_of_ble_eq_true rfl) (Nat.le_of_ble_eq_true rfl) dX9_readTrip_13 (fun υ46 hu => ?_)
      obtain ⟨-, hD46⟩ := hu
      have e : rt1 q = wrongF 2 q := by unfold rt1; grind
      exact a_keep (by simp) (J _ (by rw [e]; exact hD46))

set_option maxRecDepth 20000 in
theorem t_readLine (σ τ : Sto) (q : RS) (hD : RD σ τ q) (hT : TpOK σ) (hs0 : 0 ≤ gN σ 153 6) (hs1 : gN σ 153 6 ≤ 900) (hO : ROK σ q) : MetA mX9_readLine [ar 153] τ (fun r u => r = none ∧ RD σ u (lineF σ q)) := by
  refine a_entry (by decide) (Nat.le_of_ble_eq_true rfl) ?_
  refine a_ls (ls' := [(0, ar 153)]) rfl ?_
  refine joinR (P := fun υ => RD σ υ (rl1 σ q)) (pc' := 56) (ls' := [(0, ar 153)]) (st' := []) (fun υ47 hD47 => ?_) (fun J => ?_)
  · obtain ⟨q47, eq47⟩ : ∃ x, x = rl1 σ q := ⟨_, rfl⟩
    rw [← eq47] at hD47
    have hO47 : ROK σ q47 := eq47 ▸ (rl1_ok hO)
    refine joinR (P := fun υ => RD σ υ (rl2 q47)) (pc' := 76) (ls' := [(0, ar 153)]) (st' := []) (fun υ48 hD48 => ?_) (fun J => ?_)
    · obtain ⟨q48, eq48⟩ : ∃ x, x = rl2 q47 := ⟨_, rfl⟩
      rw [← eq48] at hD48
      have hO48 : ROK σ q48 := eq48 ▸ (ite_ok (wrong_ok 1 hO47) hO47)
      refine a_aload_n dX9_readLine_76 rfl rfl ?_
      refine a_callV (c := 153) (as := []) (rest := []) (t_goOn σ υ48 q48   hD48 hT hs0 hs1 hO48) mvX9_goOn lX9_149 k153 (by decide) rfl rfl rfl rfl (Nat.le_of_ble_eq_true rfl) (Nat.le_of_ble_eq_true rfl) (Nat.le_of_ble_eq_true rfl) dX9_readLine_77 (fun υ49 hu => ?_)
      obtain ⟨-, hD49⟩ := hu
      refine a_aload_n dX9_readLine_80 rfl rfl ?_
      refine a_getF (d := 156) fX9_16 k153 rfl r153_4 dX9_readLine_81 ?_
      refine a_iconst dX9_readLine_84 ?_
      refine a_dup2 dX9_readLine_85 rfl rfl ?_
      refine a_ild k156 n156 (by omega) (by omega) dX9_readLine_86 ?_
      refine a_topI (y := (gnF σ q48).f 4) (hD49.f 4 (by omega) (by omega)) ?_
      refine a_iconst dX9_readLine_87 ?_
      refine a_iadd dX9_readLine_88 ?_
      refine a_ist k156 n156 (by omega) (by omega) dX9_readLine_89 ?_
      have hW1 := hD49.pfn (j := 4) (v := ((gnF σ q48).f 4 + 1))
      obtain ⟨qw2, eqw2⟩ : ∃ x, x = (gnF σ q48).wF (up1 (gnF σ q48).f 4 (nrm ((gnF σ q48).f 4 + 1))) := ⟨_, rfl⟩
      rw [← eqw2] at hW1
      have hqw2_0 : qw2.f 0 = (gnF σ q48).f 0 := by rw [eqw2]; exact wF_neg (by omega)
      have hqw2_1 : qw2.f 1 = (gnF σ q48).f 1 := by rw [eqw2]; exact wF_neg (by omega)
      have hqw2_2 : qw2.f 2 = (gnF σ q48).f 2 := by rw [eqw2]; exact wF_neg (by omega)
      have hqw2_3 : qw2.f 3 = (gnF σ q48).f 3 := by rw [eqw2]; exact wF_neg (by omega)
      exact a_vret rfl ⟨rfl, by unfold lineF; subst_vars; exact hW1⟩ dX9_readLine_90
    · refine a_aload_n dX9_readLine_56 rfl rfl ?_
      refine a_getI (J := 12) fX9_132 k153 rfl rfl dX9_readLine_57 ?_
      refine a_topI (y := q47.fa) hD47.fa ?_
      refine a_if_ne (tgt := 76) dX9_readLine_60 (by decide) hD47.ifa (fun c60 => ?_) (fun c60 => ?_)
      · have e : rl2 q47 = q47 := by unfold rl2; grind
        exact a_keep (by simp) (J _ (by rw [e]; exact hD47))
      · refine a_aload_n dX9_readLine_63 rfl rfl ?_
        refine a_getI (J := 9) fX9_104 k153 rfl rfl dX9_readLine_64 ?_
        refine a_topI (y := q47.so) hD47.so ?_
        refine a_iconst dX9_readLine_67 ?_
        refine a_icmp_eq (tgt := 76) dX9_readLine_68 (by decide) hD47.iso (inR_of (by omega) (by omega)) (fun c68 => ?_) (fun c68 => ?_)
        · have e : rl2 q47 = q47 := by unfold rl2; grind
          exact a_keep (by simp) (J _ (by rw [e]; exact hD47))
        · refine a_aload_n dX9_readLine_71 rfl rfl ?_
          refine a_iconst dX9_readLine_72 ?_
          refine a_callV (c := 153) (as := [ai 1]) (rest := []) (t_wrong σ υ47 q47 1 (inR_of (by omega) (by omega)) hD47) mvX9_wrong lX9_141 k153 (by decide) rfl rfl rfl rfl (Nat.le_of_ble_eq_true rfl) (Nat.le_of_ble_eq_true rfl) (Nat.le_of_ble_eq_true rfl) dX9_readLine_73 (fun υ50 hu => ?_)
          obtain ⟨-, hD50⟩ := hu
          have e : rl2 q47 = wrongF 1 q47 := by unfold rl2; grind
          exact a_keep (by simp) (J _ (by rw [e]; exact hD50))
  · refine a_aload_n dX9_readLine_0 rfl rfl ?_
    refine a_getI (J := 9) fX9_104 k153 rfl rfl dX9_readLine_1 ?_
    refine a_topI (y := q.so) hD.so ?_
    refine a_if_ne (tgt := 14) dX9_readLine_4 (by decide) hD.iso (fun c4 => ?_) (fun c4 => ?_)
    · refine a_iconst dX9_readLine_14 ?_
      refine a_istore_n (ls' := [(1, ai (-1)), (0, ar 153)]) dX9_readLine_15 rfl (Nat.le_of_ble_eq_true rfl) rfl ?_
      refine a_iload_n dX9_readLine_16 rfl rfl ?_
      refine a_if_ne (tgt := 27) dX9_readLine_17 (by decide) (inR_of (by omega) (by omega)) (fun c17 => ?_) (fun c17 => ?_)
      · refine a_iload_n dX9_readLine_27 rfl rfl ?_
        refine a_iconst dX9_readLine_28 ?_
        refine a_icmp_ne (tgt := 39) dX9_readLine_29 (by decide) (inR_of (by omega) (by omega)) (inR_of (by omega) (by omega)) (fun c29 => ?_) (fun c29 => ?_)
        · refine a_iload_n dX9_readLine_39 rfl rfl ?_
          refine a_iconst dX9_readLine_40 ?_
          refine a_icmp_ne (tgt := 51) dX9_readLine_41 (by decide) (inR_of (by omega) (by omega)) (inR_of (by omega) (by omega)) (fun c41 => ?_) (fun c41 => ?_)
          · refine a_aload_n dX9_readLine_51 rfl rfl ?_
            refine a_iconst dX9_readLine_52 ?_
            refine a_callV (c := 153) (as := [ai 1]) (rest := []) (t_wrong σ τ q 1 (inR_of (by omega) (by omega)) hD) mvX9_wrong lX9_141 k153 (by decide) rfl rfl rfl rfl (Nat.le_of_ble_eq_true rfl) (Nat.le_of_ble_eq_true rfl) (Nat.le_of_ble_eq_true rfl) dX9_readLine_53 (fun υ51 hu => ?_)
            obtain ⟨-, hD51⟩ := hu
            have e : rl1 σ q = wrongF 1 q := by unfold rl1; grind
            exact a_keep (by simp) (J _ (by rw [e]; exact hD51))
          · exact absurd c41 (by decide)
        · exact absurd c29 (by decide)
      · exact absurd c17 (by decide)
    · refine a_aload_n dX9_readLine_7 rfl rfl ?_
      refine a_getI (J := 10) fX9_117 k153 rfl rfl dX9_readLine_8 ?_
      refine a_topI (y := q.va) hD.va ?_
      refine a_goto (tgt := 15) dX9_readLine_11 (by decide) ?_
      refine a_istore_n (ls' := [(1, ai q.va), (0, ar 153)]) dX9_readLine_15 rfl (Nat.le_of_ble_eq_true rfl) rfl ?_
      refine a_iload_n dX9_readLine_16 rfl rfl ?_
      refine a_if_ne (tgt := 27) dX9_readLine_17 (by decide) hD.iva (fun c17 => ?_) (fun c17 => ?_)
      · refine a_iload_n dX9_readLine_27 rfl rfl ?_
        refine a_iconst dX9_readLine_28 ?_
        refine a_icmp_ne (tgt := 39) dX9_readLine_29 (by decide) hD.iva (inR_of (by omega) (by omega)) (fun c29 => ?_) (fun c29 => ?_)
        · refine a_iload_n dX9_readLine_39 rfl rfl ?_
          refine a_iconst dX9_readLine_40 ?_
          refine a_icmp_ne (tgt := 51) dX9_readLine_41 (by decide) hD.iva (inR_of (by omega) (by omega)) (fun c41 => ?_) (fun c41 => ?_)
          · refine a_aload_n dX9_readLine_51 rfl rfl ?_
            refine a_iconst dX9_readLine_52 ?_
            refine a_callV (c := 153) (as := [ai 1]) (rest := []) (t_wrong σ τ q 1 (inR_of (by omega) (by omega)) hD) mvX9_wrong lX9_141 k153 (by decide) rfl rfl rfl rfl (Nat.le_of_ble_eq_true rfl) (Nat.le_of_ble_eq_true rfl) (Nat.le_of_ble_eq_true rfl) dX9_readLine_53 (fun υ52 hu => ?_)
            obtain ⟨-, hD52⟩ := hu
            have e : rl1 σ q = wrongF 1 q := by unfold rl1; grind
            exact a_keep (by simp) (J _ (by rw [e]; exact hD52))
          · refine a_aload_n dX9_readLine_44 rfl rfl ?_
            refine a_callV (c := 153) (as := []) (rest := []) (t_readTrip σ τ q   hD hT hs0 hs1 hO) mvX9_readTrip lX9_172 k153 (by decide) rfl rfl rfl rfl (Nat.le_of_ble_eq_true rfl) (Nat.le_of_ble_eq_true rfl) (Nat.le_of_ble_eq_true rfl) dX9_readLine_45 (fun υ53 hu => ?_)
            obtain ⟨-, hD53⟩ := hu
            refine a_goto (tgt := 56) dX9_readLine_48 (by decide) ?_
            have e : rl1 σ q = rdTrip σ q := by unfold rl1; grind
            exact a_keep (by simp) (J _ (by rw [e]; exact hD53))
        · refine a_aload_n dX9_readLine_32 rfl rfl ?_
          refine a_callV (c := 153) (as := []) (rest := []) (t_readWalk σ τ q   hD hT hs0 hs1 hO) mvX9_readWalk lX9_169 k153 (by decide) rfl rfl rfl rfl (Nat.le_of_ble_eq_true rfl) (Nat.le_of_ble_eq_true rfl) (Nat.le_of_ble_eq_true rfl) dX9_readLine_33 (fun υ54 hu => ?_)
          obtain ⟨-, hD54⟩ := hu
          refine a_goto (tgt := 56) dX9_readLine_36 (by decide) ?_
          have e : rl1 σ q = rdWalk σ q := by unfold rl1; grind
          exact a_keep (by simp) (J _ (by rw [e]; exact hD54))
      · refine a_aload_n dX9_readLine_20 rfl rfl ?_
        refine a_callV (c := 153) (as := []) (rest := []) (t_readStop σ τ q   hD hT hs0 hs1 hO) mvX9_readStop lX9_166 k153 (by decide) rfl rfl rfl rfl (Nat.le_of_ble_eq_true rfl) (Nat.le_of_ble_eq_true rfl) (Nat.le_of_ble_eq_true rfl) dX9_readLine_21 (fun υ55 hu => ?_)
        obtain ⟨-, hD55⟩ := hu
        refine a_goto (tgt := 56) dX9_readLine_24 (by decide) ?_
        have e : rl1 σ q = rdStop σ q := by unfold rl1; grind
        exact a_keep (by simp) (J _ (by rw [e]; exact hD55))

