theorem up_pos {g : Int → Int} {j v : Int} : up1 g j v j = v := by unfold up1; rw [if_pos rfl]
theorem up_neg {g : Int → Int} {i j v : Int} (h : i ≠ j) : up1 g j v i = g i := by unfold up1; rw [if_neg h]
theorem wF_pos {q : RS} {g : Int → Int} {j v : Int} : (q.wF (up1 g j v)).f j = v := up_pos
theorem wF_neg {q : RS} {g : Int → Int} {i j v : Int} (h : i ≠ j) : (q.wF (up1 g j v)).f i = g i := up_neg h

set_option maxRecDepth 20000 in
theorem t_stop (σ τ : Sto) (q : RS) (but : Int) (hbut : inR but) (hD : RD σ τ q) (hT : TpOK σ) (hs0 : 0 ≤ gN σ 153 6) (hs1 : gN σ 153 6 ≤ 900) (hO : ROK σ q) : MetA mX9_stop [ar 153, ai but] τ (fun r u => r = some (ai (stV q)) ∧ RD σ u (stpF σ but q)) := by
  refine a_entry (by decide) (Nat.le_of_ble_eq_true rfl) ?_
  refine a_ls (ls' := [(0, ar 153), (1, ai but)]) rfl ?_
  refine joinR (P := fun υ => RD σ υ (sn1 q)) (pc' := 27) (ls' := [(0, ar 153), (1, ai but)]) (st' := []) (fun υ8 hD8 => ?_) (fun J => ?_)
  · obtain ⟨q8, eq8⟩ : ∃ x, x = sn1 q := ⟨_, rfl⟩
    rw [← eq8] at hD8
    have hO8 : ROK σ q8 := eq8 ▸ (ite_ok (wrong_ok 1 hO) hO)
    refine a_aload_n dX9_stop_27 rfl rfl ?_
    refine a_getI (J := 12) fX9_132 k153 rfl rfl dX9_stop_28 ?_
    refine a_topI (y := q8.fa) hD8.fa ?_
    refine a_if_ne (tgt := 41) dX9_stop_31 (by decide) hD8.ifa (fun c31 => ?_) (fun c31 => ?_)
    · refine a_iconst dX9_stop_41 ?_
      refine a_istore_n (ls' := [(2, ai 0), (0, ar 153), (1, ai but)]) dX9_stop_42 rfl (Nat.le_of_ble_eq_true rfl) rfl ?_
      refine joinR (P := fun υ => RD σ υ (sn3 but 0 q8)) (pc' := 60) (ls' := [(2, ai 0), (0, ar 153), (1, ai but)]) (st' := []) (fun υ9 hD9 => ?_) (fun J => ?_)
      · obtain ⟨q9, eq9⟩ : ∃ x, x = sn3 but 0 q8 := ⟨_, rfl⟩
        rw [← eq9] at hD9
        have hO9 : ROK σ q9 := eq9 ▸ (ite_ok (wrong_ok 3 hO8) hO8)
        refine a_aload_n dX9_stop_60 rfl rfl ?_
        refine a_callV (c := 153) (as := []) (rest := []) (t_goOn σ υ9 q9   hD9 hT hs0 hs1 hO9) mvX9_goOn lX9_149 k153 (by decide) rfl rfl rfl rfl (Nat.le_of_ble_eq_true rfl) (Nat.le_of_ble_eq_true rfl) (Nat.le_of_ble_eq_true rfl) dX9_stop_61 (fun υ10 hu => ?_)
        obtain ⟨-, hD10⟩ := hu
        refine a_iload_n dX9_stop_64 rfl rfl ?_
        exact a_iret rfl ⟨by rw [show stV q = 0 by unfold stV; subst_vars; grind], by unfold stpF; rw [show stV q = 0 by unfold stV; subst_vars; grind]; subst_vars; assumption⟩ dX9_stop_65
      · refine a_aload_n dX9_stop_43 rfl rfl ?_
        refine a_getI (J := 12) fX9_132 k153 rfl rfl dX9_stop_44 ?_
        refine a_topI (y := q8.fa) hD8.fa ?_
        refine a_if_ne (tgt := 60) dX9_stop_47 (by decide) hD8.ifa (fun c47 => ?_) (fun c47 => ?_)
        · have e : sn3 but 0 q8 = q8 := by unfold sn3; grind
          exact a_keep (by simp) (J _ (by rw [e]; exact hD8))
        · refine a_iload_n dX9_stop_50 rfl rfl ?_
          refine a_iload_n dX9_stop_51 rfl rfl ?_
          refine a_icmp_ne (tgt := 60) dX9_stop_52 (by decide) (inR_of (by omega) (by omega)) hbut (fun c52 => ?_) (fun c52 => ?_)
          · have e : sn3 but 0 q8 = q8 := by unfold sn3; grind
            exact a_keep (by simp) (J _ (by rw [e]; exact hD8))
          · refine a_aload_n dX9_stop_55 rfl rfl ?_
            refine a_iconst dX9_stop_56 ?_
            refine a_callV (c := 153) (as := [ai 3]) (rest := []) (t_wrong σ υ8 q8 3 (inR_of (by omega) (by omega)) hD8) mvX9_wrong lX9_141 k153 (by decide) rfl rfl rfl rfl (Nat.le_of_ble_eq_true rfl) (Nat.le_of_ble_eq_true rfl) (Nat.le_of_ble_eq_true rfl) dX9_stop_57 (fun υ11 hu => ?_)
            obtain ⟨-, hD11⟩ := hu
            have e : sn3 but 0 q8 = wrongF 3 q8 := by unfold sn3; grind
            exact a_keep (by simp) (J _ (by rw [e]; exact hD11))
    · refine a_aload_n dX9_stop_34 rfl rfl ?_
      refine a_cI (c := 153) (as := []) (rest := []) (t_stopNamed σ υ8 q8 hD8 hO8) mvX9_stopNamed lX9_156 k153 (by decide) rfl rfl rfl rfl (Nat.le_of_ble_eq_true rfl) (Nat.le_of_ble_eq_true rfl) (Nat.le_of_ble_eq_true rfl) dX9_stop_35 ?_
      have hnd := nmd_rng (hO := hO8)
      refine a_goto (tgt := 42) dX9_stop_38 (by decide) ?_
      refine a_istore_n (ls' := [(2, ai (nmdF q8)), (0, ar 153), (1, ai but)]) dX9_stop_42 rfl (Nat.le_of_ble_eq_true rfl) rfl ?_
      refine joinR (P := fun υ => RD σ υ (sn3 but (nmdF q8) q8)) (pc' := 60) (ls' := [(2, ai (nmdF q8)), (0, ar 153), (1, ai but)]) (st' := []) (fun υ12 hD12 => ?_) (fun J => ?_)
      · obtain ⟨q12, eq12⟩ : ∃ x, x = sn3 but (nmdF q8) q8 := ⟨_, rfl⟩
        rw [← eq12] at hD12
        have hO12 : ROK σ q12 := eq12 ▸ (ite_ok (wrong_ok 3 hO8) hO8)
        refine a_aload_n dX9_stop_60 rfl rfl ?_
        refine a_callV (c := 153) (as := []) (rest := []) (t_goOn σ υ12 q12   hD12 hT hs0 hs1 hO12) mvX9_goOn lX9_149 k153 (by decide) rfl rfl rfl rfl (Nat.le_of_ble_eq_true rfl) (Nat.le_of_ble_eq_true rfl) (Nat.le_of_ble_eq_true rfl) dX9_stop_61 (fun υ13 hu => ?_)
        obtain ⟨-, hD13⟩ := hu
        refine a_iload_n dX9_stop_64 rfl rfl ?_
        exact a_iret rfl ⟨by rw [show stV q = nmdF q8 by unfold stV; subst_vars; grind], by unfold stpF; rw [show stV q = nmdF q8 by unfold stV; subst_vars; grind]; subst_vars; assumption⟩ dX9_stop_65
      · refine a_aload_n dX9_stop_43 rfl rfl ?_
        refine a_getI (J := 12) fX9_132 k153 rfl rfl dX9_stop_44 ?_
        refine a_topI (y := q8.fa) hD8.fa ?_
        refine a_if_ne (tgt := 60) dX9_stop_47 (by decide) hD8.ifa (fun c47 => ?_) (fun c47 => ?_)
        · have e : sn3 but (nmdF q8) q8 = q8 := by unfold sn3; grind
          exact a_keep (by simp) (J _ (by rw [e]; exact hD8))
        · refine a_iload_n dX9_stop_50 rfl rfl ?_
          refine a_iload_n dX9_stop_51 rfl rfl ?_
          refine a_icmp_ne (tgt := 60) dX9_stop_52 (by decide) (inR_of (by omega) (by omega)) hbut (fun c52 => ?_) (fun c52 => ?_)
          · have e : sn3 but (nmdF q8) q8 = q8 := by unfold sn3; grind
            exact a_keep (by simp) (J _ (by rw [e]; exact hD8))
          · refine a_aload_n dX9_stop_55 rfl rfl ?_
            refine a_iconst dX9_stop_56 ?_
            refine a_callV (c := 153) (as := [ai 3]) (rest := []) (t_wrong σ υ8 q8 3 (inR_of (by omega) (by omega)) hD8) mvX9_wrong lX9_141 k153 (by decide) rfl rfl rfl rfl (Nat.le_of_ble_eq_true rfl) (Nat.le_of_ble_eq_true rfl) (Nat.le_of_ble_eq_true rfl) dX9_stop_57 (fun υ14 hu => ?_)
            obtain ⟨-, hD14⟩ := hu
            have e : sn3 but (nmdF q8) q8 = wrongF 3 q8 := by unfold sn3; grind
            exact a_keep (by simp) (J _ (by rw [e]; exact hD14))
  · refine a_aload_n dX9_stop_0 rfl rfl ?_
    refine a_getI (J := 12) fX9_132 k153 rfl rfl dX9_stop_1 ?_
    refine a_topI (y := q.fa) hD.fa ?_
    refine a_if_ne (tgt := 27) dX9_stop_4 (by decide) hD.ifa (fun c4 => ?_) (fun c4 => ?_)
    · have e : sn1 q = q := by unfold sn1; grind
      exact a_keep (by simp) (J _ (by rw [e]; exact hD))
    · refine a_aload_n dX9_stop_7 rfl rfl ?_
      refine a_cI (c := 153) (as := []) (rest := []) (t_isOther σ τ q hD) mvX9_isOther lX9_152 k153 (by decide) rfl rfl rfl rfl (Nat.le_of_ble_eq_true rfl) (Nat.le_of_ble_eq_true rfl) (Nat.le_of_ble_eq_true rfl) dX9_stop_8 ?_
      refine a_ifb_eq (tgt := 22) dX9_stop_11 (by decide) (fun c11 => ?_) (fun c11 => ?_)
      · refine a_aload_n dX9_stop_22 rfl rfl ?_
        refine a_iconst dX9_stop_23 ?_
        refine a_callV (c := 153) (as := [ai 1]) (rest := []) (t_wrong σ τ q 1 (inR_of (by omega) (by omega)) hD) mvX9_wrong lX9_141 k153 (by decide) rfl rfl rfl rfl (Nat.le_of_ble_eq_true rfl) (Nat.le_of_ble_eq_true rfl) (Nat.le_of_ble_eq_true rfl) dX9_stop_24 (fun υ15 hu => ?_)
        obtain ⟨-, hD15⟩ := hu
        have e : sn1 q = wrongF 1 q := by unfold sn1; grind
        exact a_keep (by simp) (J _ (by rw [e]; exact hD15))
      · refine a_aload_n dX9_stop_14 rfl rfl ?_
        refine a_cI (c := 153) (as := []) (rest := []) (t_stopNamed σ τ q hD hO) mvX9_stopNamed lX9_156 k153 (by decide) rfl rfl rfl rfl (Nat.le_of_ble_eq_true rfl) (Nat.le_of_ble_eq_true rfl) (Nat.le_of_ble_eq_true rfl) dX9_stop_15 ?_
        have hnd := nmd_rng (hO := hO)
        refine a_iconst dX9_stop_18 ?_
        refine a_icmp_ne (tgt := 27) dX9_stop_19 (by decide) (inR_of (by omega) (by omega)) (inR_of (by omega) (by omega)) (fun c19 => ?_) (fun c19 => ?_)
        · have e : sn1 q = q := by unfold sn1; grind
          exact a_keep (by simp) (J _ (by rw [e]; exact hD))
        · refine a_aload_n dX9_stop_22 rfl rfl ?_
          refine a_iconst dX9_stop_23 ?_
          refine a_callV (c := 153) (as := [ai 1]) (rest := []) (t_wrong σ τ q 1 (inR_of (by omega) (by omega)) hD) mvX9_wrong lX9_141 k153 (by decide) rfl rfl rfl rfl (Nat.le_of_ble_eq_true rfl) (Nat.le_of_ble_eq_true rfl) (Nat.le_of_ble_eq_true rfl) dX9_stop_24 (fun υ16 hu => ?_)
          obtain ⟨-, hD16⟩ := hu
          have e : sn1 q = wrongF 1 q := by unfold sn1; grind
          exact a_keep (by simp) (J _ (by rw [e]; exact hD16))

theorem rs1_f {q : RS} : (rs1 q).f = q.f := ckf
theorem rs2_f {q : RS} : (rs2 q).f = q.f := ckf
theorem rs3_f {q : RS} : (rs3 q).f = q.f := ckf
theorem rw1_f {q : RS} : (rw1 q).f = q.f := ckf
theorem rt1_f {q : RS} : (rt1 q).f = q.f := ckf
theorem rtA_f {q : RS} : (rtA q).f = q.f := ckf
theorem rtB_f {x y : Int} {q : RS} : (rtB x y q).f = q.f := ckf
theorem rtC_f {x y : Int} {q : RS} : (rtC x y q).f = q.f := ckf
theorem rdStop_z {σ : Sto} {q : RS} (h : (gnF σ (nhF 0 60 (gnF σ (rs3 (rs2 (gnF σ (rs1 q))))))).fa = 0) : q.f 0 ≠ 10 := by
  rw [gn_fa] at h
  have a := (nh0 h).2.1
  rw [gn_fa] at a
  have b := (ck0 (by decide) (show (if (rs2 (gnF σ (rs1 q))).fa = 0 ∧ nmdF (rs2 (gnF σ (rs1 q))) ≠ -1 then wrongF 3 (rs2 (gnF σ (rs1 q))) else rs2 (gnF σ (rs1 q))).fa = 0 from a)).2.2
  have c := (ck0 (by decide) (show (if (gnF σ (rs1 q)).fa = 0 ∧ ¬ othF (gnF σ (rs1 q)) then wrongF 1 (gnF σ (rs1 q)) else gnF σ (rs1 q)).fa = 0 from b)).2.2
  rw [gn_fa] at c
  exact (ck0 (by decide) (show (if q.f 0 = 10 then wrongF 2 q else q).fa = 0 from c)).1
theorem rdWalk_z {σ : Sto} {q : RS} (h : (gnF σ (nhF 1 240 (stpF σ (stV (gnF σ (rw1 q))) (stpF σ (-1) (gnF σ (rw1 q)))))).fa = 0) : q.f 1 ≠ 12 ∧ (stpF σ (stV (gnF σ (rw1 q))) (stpF σ (-1) (gnF σ (rw1 q)))).fa = 0 ∧ (stpF σ (-1) (gnF σ (rw1 q))).fa = 0 := by
  rw [gn_fa] at h
  have a := (nh0 h).2.1
  have b := (stp0 a).1
  have c := (stp0 b).1
  rw [gn_fa] at c
  exact ⟨(ck0 (by decide) (show (if q.f 1 = 12 then wrongF 2 q else q).fa = 0 from c)).1, a, b⟩

set_option maxRecDepth 20000 in
theorem t_readStop (σ τ : Sto) (q : RS) (hD : RD σ τ q) (hT : TpOK σ) (hs0 : 0 ≤ gN σ 153 6) (hs1 : gN σ 153 6 ≤ 900) (hO : ROK σ q) : MetA mX9_readStop [ar 153] τ (fun r u => r = none ∧ RD σ u (rdStop σ q)) := by
  have hQ0 := hO.f0
  refine a_entry (by decide) (Nat.le_of_ble_eq_true rfl) ?_
  refine a_ls (ls' := [(0, ar 153)]) rfl ?_
  refine joinR (P := fun υ => RD σ υ (rs1 q)) (pc' := 16) (ls' := [(0, ar 153)]) (st' := []) (fun υ17 hD17 => ?_) (fun J => ?_)
  · obtain ⟨q17, eq17⟩ : ∃ x, x = rs1 q := ⟨_, rfl⟩
    rw [← eq17] at hD17
    have hO17 : ROK σ q17 := eq17 ▸ (ite_ok (wrong_ok 2 hO) hO)
    refine a_aload_n dX9_readStop_16 rfl rfl ?_
    refine a_callV (c := 153) (as := []) (rest := []) (t_goOn σ υ17 q17   hD17 hT hs0 hs1 hO17) mvX9_goOn lX9_149 k153 (by decide) rfl rfl rfl rfl (Nat.le_of_ble_eq_true rfl) (Nat.le_of_ble_eq_true rfl) (Nat.le_of_ble_eq_true rfl) dX9_readStop_17 (fun υ18 hu => ?_)
    obtain ⟨-, hD18⟩ := hu
    refine joinR (P := fun υ => RD σ υ (rs2 (gnF σ q17))) (pc' := 39) (ls' := [(0, ar 153)]) (st' := []) (fun υ19 hD19 => ?_) (fun J => ?_)
    · obtain ⟨q19, eq19⟩ : ∃ x, x = rs2 (gnF σ q17) := ⟨_, rfl⟩
      rw [← eq19] at hD19
      have hO19 : ROK σ q19 := eq19 ▸ (ite_ok (wrong_ok 1 (gn_ok hO17)) (gn_ok hO17))
      refine joinR (P := fun υ => RD σ υ (rs3 q19)) (pc' := 59) (ls' := [(0, ar 153)]) (st' := []) (fun υ20 hD20 => ?_) (fun J => ?_)
      · obtain ⟨q20, eq20⟩ : ∃ x, x = rs3 q19 := ⟨_, rfl⟩
        rw [← eq20] at hD20
        have hO20 : ROK σ q20 := eq20 ▸ (ite_ok (wrong_ok 3 hO19) hO19)
        refine a_aload_n dX9_readStop_59 rfl rfl ?_
        refine a_getI (J := 11) fX9_111 k153 rfl rfl dX9_readStop_60 ?_
        refine a_topI (y := q20.wo) hD20.wo ?_
        refine a_istore_n (ls' := [(1, ai q20.wo), (0, ar 153)]) dX9_readStop_63 rfl (Nat.le_of_ble_eq_true rfl) rfl ?_
        refine a_aload_n dX9_readStop_64 rfl rfl ?_
        refine a_callV (c := 153) (as := []) (rest := []) (t_goOn σ υ20 q20   hD20 hT hs0 hs1 hO20) mvX9_goOn lX9_149 k153 (by decide) rfl rfl rfl rfl (Nat.le_of_ble_eq_true rfl) (Nat.le_of_ble_eq_true rfl) (Nat.le_of_ble_eq_true rfl) dX9_readStop_65 (fun υ21 hu => ?_)
        obtain ⟨-, hD21⟩ := hu
        refine a_aload_n dX9_readStop_68 rfl rfl ?_
        refine a_iconst dX9_readStop_69 ?_
        refine a_bipush (x := 60) dX9_readStop_70 (by decide) ?_
        refine a_callI (c := 153) (as := [ai 0, ai 60]) (rest := []) (t_number σ υ21 (gnF σ q20) 0 60 (inR_of (by omega) (by omega)) (inR_of (by omega) (by omega)) hD21 hT hs0 hs1 (gn_ok hO20)) mvX9_number lX9_159 k153 (by decide) rfl rfl rfl rfl (Nat.le_of_ble_eq_true rfl) (Nat.le_of_ble_eq_true rfl) (Nat.le_of_ble_eq_true rfl) dX9_readStop_72 (fun x υ22 hu => ?_)
        obtain ⟨hx, hD22⟩ := hu
        cases hx
        have hnv22 := nhV_rng (q := gnF σ q20) (show 0 ≤ 60 by decide)
        refine a_istore_n (ls' := [(2, ai (nhV 0 60 (gnF σ q20))), (1, ai q20.wo), (0, ar 153)]) dX9_readStop_75 rfl (Nat.le_of_ble_eq_true rfl) rfl ?_
        refine a_aload_n dX9_readStop_76 rfl rfl ?_
        refine a_getI (J := 12) fX9_132 k153 rfl rfl dX9_readStop_77 ?_
        refine a_topI (y := (gnF σ (nhF 0 60 (gnF σ q20))).fa) hD22.fa ?_
        refine a_if_eq (tgt := 84) dX9_readStop_80 (by decide) hD22.ifa (fun c80 => ?_) (fun c80 => ?_)
        · have hf0 : (gnF σ (nhF 0 60 (gnF σ q20))).f 0 = q.f 0 := by subst_vars; simp only [gn_f, nh_f, rs3_f, rs2_f, rs1_f]
          have hz : q.f 0 ≠ 10 := rdStop_z (by subst_vars; assumption)
          have hO0 := hO.f0
          refine a_aload_n dX9_readStop_84 rfl rfl ?_
          refine a_getF (d := 157) fX9_19 k153 rfl r153_5 dX9_readStop_85 ?_
          refine a_aload_n dX9_readStop_88 rfl rfl ?_
          refine a_getF (d := 156) fX9_16 k153 rfl r153_4 dX9_readStop_89 ?_
          refine a_iconst dX9_readStop_92 ?_
          refine a_ild k156 n156 (by omega) (by omega) dX9_readStop_93 ?_
          refine a_topI (y := (gnF σ (nhF 0 60 (gnF σ q20))).f 0) (hD22.f 0 (by omega) (by omega)) ?_
          refine a_iload_n dX9_readStop_94 rfl rfl ?_
          refine a_ist k157 n157 (by omega) (by omega) dX9_readStop_95 ?_
          have hW1 := hD22.pn (j := ((gnF σ (nhF 0 60 (gnF σ q20))).f 0)) (v := q20.wo) hD20.iwo
          obtain ⟨qw2, eqw2⟩ : ∃ x, x = (gnF σ (nhF 0 60 (gnF σ q20))).wN (up1 (gnF σ (nhF 0 60 (gnF σ q20))).nm ((gnF σ (nhF 0 60 (gnF σ q20))).f 0) q20.wo) := ⟨_, rfl⟩
          rw [← eqw2] at hW1
          have hqw2_0 : qw2.f 0 = (gnF σ (nhF 0 60 (gnF σ q20))).f 0 := by rw [eqw2]; rfl
          have hqw2_1 : qw2.f 1 = (gnF σ (nhF 0 60 (gnF σ q20))).f 1 := by rw [eqw2]; rfl
          have hqw2_2 : qw2.f 2 = (gnF σ (nhF 0 60 (gnF σ q20))).f 2 := by rw [eqw2]; rfl
          have hqw2_3 : qw2.f 3 = (gnF σ (nhF 0 60 (gnF σ q20))).f 3 := by rw [eqw2]; rfl
          refine a_aload_n dX9_readStop_96 rfl rfl ?_
          refine a_getF (d := 156) fX9_16 k153 rfl r153_4 dX9_readStop_97 ?_
          refine a_iconst dX9_readStop_100 ?_
          refine a_aload_n dX9_readStop_101 rfl rfl ?_
          refine a_getF (d := 156) fX9_16 k153 rfl r153_4 dX9_readStop_102 ?_
          refine a_iconst dX9_readStop_105 ?_
          refine a_ild k156 n156 (by omega) (by omega) dX9_readStop_106 ?_
          refine a_topI (y := qw2.f 0) (hW1.f 0 (by omega) (by omega)) ?_
          refine a_iadd dX9_readStop_107 ?_
          refine a_iload_n dX9_readStop_108 rfl rfl ?_
          refine a_ist k156 n156 (by omega) (by omega) dX9_readStop_109 ?_
          have hW3 := hW1.pf (j := (5 + (qw2.f 0))) (v := (nhV 0 60 (gnF σ q20))) (inR_of (by omega) (by omega))
          obtain ⟨qw4, eqw4⟩ : ∃ x, x = qw2.wF (up1 qw2.f (5 + (qw2.f 0)) (nhV 0 60 (gnF σ q20))) := ⟨_, rfl⟩
          rw [← eqw4] at hW3
          have hqw4_0 : qw4.f 0 = qw2.f 0 := by rw [eqw4]; exact wF_neg (by omega)
          have hqw4_1 : qw4.f 1 = qw2.f 1 := by rw [eqw4]; exact wF_neg (by omega)
          have hqw4_2 : qw4.f 2 = qw2.f 2 := by rw [eqw4]; exact wF_neg (by omega)
          have hqw4_3 : qw4.f 3 = qw2.f 3 := by rw [eqw4]; exact wF_neg (by omega)
          refine a_aload_n dX9_readStop_110 rfl rfl ?_
          refine a_getF (d := 156) fX9_16 k153 rfl r153_4 dX9_readStop_111 ?_
          refine a_iconst dX9_readStop_114 ?_
          refine a_dup2 dX9_readStop_115 rfl rfl ?_
          refine a_ild k156 n156 (by omega) (by omega) dX9_readStop_116 ?_
          refine a_topI (y := qw4.f 0) (hW3.f 0 (by omega) (by omega)) ?_
          refine a_iconst dX9_readStop_117 ?_
          refine a_iadd dX9_readStop_118 ?_
          refine a_ist k156 n156 (by omega) (by omega) dX9_readStop_119 ?_
          have hW5 := hW3.pf (j := 0) (v := (qw4.f 0 + 1)) (inR_of (by omega) (by omega))
          obtain ⟨qw6, eqw6⟩ : ∃ x, x = qw4.wF (up1 qw4.f 0 (qw4.f 0 + 1)) := ⟨_, rfl⟩
          rw [← eqw6] at hW5
          have hqw6_0 : qw6.f 0 = qw4.f 0 + 1 := by rw [eqw6]; exact wF_pos
          have hqw6_1 : qw6.f 1 = qw4.f 1 := by rw [eqw6]; exact wF_neg (by omega)
          have hqw6_2 : qw6.f 2 = qw4.f 2 := by rw [eqw6]; exact wF_neg (by omega)
          have hqw6_3 : qw6.f 3 = qw4.f 3 := by rw [eqw6]; exact wF_neg (by omega)
          exact a_vret rfl ⟨rfl, by unfold rdStop rsE; subst_vars; rw [if_pos (by assumption)]; exact hW5⟩ dX9_readStop_120
        · exact a_vret rfl ⟨rfl, by unfold rdStop rsE; subst_vars; rw [if_neg (by assumption)]; exact hD22⟩ dX9_readStop_83
      · refine a_aload_n dX9_readStop_39 rfl rfl ?_
        refine a_getI (J := 12) fX9_132 k153 rfl rfl dX9_readStop_40 ?_
        refine a_topI (y := q19.fa) hD19.fa ?_
        refine a_if_ne (tgt := 59) dX9_readStop_43 (by decide) hD19.ifa (fun c43 => ?_) (fun c43 => ?_)
        · have e : rs3 q19 = q19 := by unfold rs3; grind
          exact a_keep (by simp) (J _ (by rw [e]; exact hD19))
        · refine a_aload_n dX9_readStop_46 rfl rfl ?_
          refine a_cI (c := 153) (as := []) (rest := []) (t_stopNamed σ υ19 q19 hD19 hO19) mvX9_stopNamed lX9_156 k153 (by decide) rfl rfl rfl rfl (Nat.le_of_ble_eq_true rfl) (Nat.le_of_ble_eq_true rfl) (Nat.le_of_ble_eq_true rfl) dX9_readStop_47 ?_
          have hnd := nmd_rng (hO := hO19)
          refine a_iconst dX9_readStop_50 ?_
          refine a_icmp_eq (tgt := 59) dX9_readStop_51 (by decide) (inR_of (by omega) (by omega)) (inR_of (by omega) (by omega)) (fun c51 => ?_) (fun c51 => ?_)
          · have e : rs3 q19 = q19 := by unfold rs3; grind
            exact a_keep (by simp) (J _ (by rw [e]; exact hD19))
          · refine a_aload_n dX9_readStop_54 rfl rfl ?_
            refine a_iconst dX9_readStop_55 ?_
            refine a_callV (c := 153) (as := [ai 3]) (rest := []) (t_wrong σ υ19 q19 3 (inR_of (by omega) (by omega)) hD19) mvX9_wrong lX9_141 k153 (by decide) rfl rfl rfl rfl (Nat.le_of_ble_eq_true rfl) (Nat.le_of_ble_eq_true rfl) (Nat.le_of_ble_eq_true rfl) dX9_readStop_56 (fun υ23 hu => ?_)
            obtain ⟨-, hD23⟩ := hu
            have e : rs3 q19 = wrongF 3 q19 := by unfold rs3; grind
            exact a_keep (by simp) (J _ (by rw [e]; exact hD23))
    · refine a_aload_n dX9_readStop_20 rfl rfl ?_
      refine a_getI (J := 12) fX9_132 k153 rfl rfl dX9_readStop_21 ?_
      refine a_topI (y := (gnF σ q17).fa) hD18.fa ?_
      refine a_if_ne (tgt := 39) dX9_readStop_24 (by decide) hD18.ifa (fun c24 => ?_) (fun c24 => ?_)
      · have e : rs2 (gnF σ q17) = gnF σ q17 := by unfold rs2; grind
        exact a_keep (by simp) (J _ (by rw [e]; exact hD18))
      · refine a_aload_n dX9_readStop_27 rfl rfl ?_
        refine a_cI (c := 153) (as := []) (rest := []) (t_isOther σ υ18 (gnF σ q17) hD18) mvX9_isOther lX9_152 k153 (by decide) rfl rfl rfl rfl (Nat.le_of_ble_eq_true rfl) (Nat.le_of_ble_eq_true rfl) (Nat.le_of_ble_eq_true rfl) dX9_readStop_28 ?_
        refine a_ifb_ne (tgt := 39) dX9_readStop_31 (by decide) (fun c31 => ?_) (fun c31 => ?_)
        · have e : rs2 (gnF σ q17) = gnF σ q17 := by unfold rs2; grind
          exact a_keep (by simp) (J _ (by rw [e]; exact hD18))
        · refine a_aload_n dX9_readStop_34 rfl rfl ?_
          refine a_iconst dX9_readStop_35 ?_
          refine a_callV (c := 153) (as := [ai 1]) (rest := []) (t_wrong σ υ18 (gnF σ q17) 1 (inR_of (by omega) (by omega)) hD18) mvX9_wrong lX9_141 k153 (by decide) rfl rfl rfl rfl (Nat.le_of_ble_eq_true rfl) (Nat.le_of_ble_eq_true rfl) (Nat.le_of_ble_eq_true rfl) dX9_readStop_36 (fun υ24 hu => ?_)
          obtain ⟨-, hD24⟩ := hu
          have e : rs2 (gnF σ q17) = wrongF 1 (gnF σ q17) := by unfold rs2; grind
          exact a_keep (by simp) (J _ (by rw [e]; exact hD24))
  · refine a_aload_n dX9_readStop_0 rfl rfl ?_
    refine a_getF (d := 156) fX9_16 k153 rfl r153_4 dX9_readStop_1 ?_
    refine a_iconst dX9_readStop_4 ?_
    refine a_ild k156 n156 (by omega) (by omega) dX9_readStop_5 ?_
    refine a_topI (y := q.f 0) (hD.f 0 (by omega) (by omega)) ?_
    refine a_bipush (x := 10) dX9_readStop_6 (by decide) ?_
    refine a_icmp_ne (tgt := 16) dX9_readStop_8 (by decide) (hD.if_ (by omega) (by omega)) (inR_of (by omega) (by omega)) (fun c8 => ?_) (fun c8 => ?_)
    · have e : rs1 q = q := by unfold rs1; grind
      exact a_keep (by simp) (J _ (by rw [e]; exact hD))
    · refine a_aload_n dX9_readStop_11 rfl rfl ?_
      refine a_iconst dX9_readStop_12 ?_
      refine a_callV (c := 153) (as := [ai 2]) (rest := []) (t_wrong σ τ q 2 (inR_of (by omega) (by omega)) hD) mvX9_wrong lX9_141 k153 (by decide) rfl rfl rfl rfl (Nat.le_of_ble_eq_true rfl) (Nat.le_of_ble_eq_true rfl) (Nat.le_of_ble_eq_true rfl) dX9_readStop_13 (fun υ25 hu => ?_)
      obtain ⟨-, hD25⟩ := hu
      have e : rs1 q = wrongF 2 q := by unfold rs1; grind
      exact a_keep (by simp) (J _ (by rw [e]; exact hD25))

set_option maxRecDepth 20000 in
theorem t_readWalk (σ τ : Sto) (q : RS) (hD : RD σ τ q) (hT : TpOK σ) (hs0 : 0 ≤ gN σ 153 6) (hs1 : gN σ 153 6 ≤ 900) (hO : ROK σ q) : MetA mX9_readWalk [ar 153] τ (fun r u => r = none ∧ RD σ u (rdWalk σ q)) := by
  have hQ0 := hO.f1
  refine a_entry (by decide) (Nat.le_of_ble_eq_true rfl) ?_
  refine a_ls (ls' := [(0, ar 153)]) rfl ?_
  refine joinR (P := fun υ => RD σ υ (rw1 q)) (pc' := 16) (ls' := [(0, ar 153)]) (st' := []) (fun υ26 hD26 => ?_) (fun J => ?_)
  · obtain ⟨q26, eq26⟩ : ∃ x, x = rw1 q := ⟨_, rfl⟩
    rw [← eq26] at hD26
    have hO26 : ROK σ q26 := eq26 ▸ (ite_ok (wrong_ok 2 hO) hO)
    refine a_aload_n dX9_readWalk_16 rfl rfl ?_
    refine a_callV (c := 153) (as := []) (rest := []) (t_goOn σ υ26 q26   hD26 hT hs0 hs1 hO26) mvX9_goOn lX9_149 k153 (by decide) rfl rfl rfl rfl (Nat.le_of_ble_eq_true rfl) (Nat.le_of_ble_eq_true rfl) (Nat.le_of_ble_eq_true rfl) dX9_readWalk_17 (fun υ27 hu => ?_)
    obtain ⟨-, hD27⟩ := hu
    refine a_aload_n dX9_readWalk_20 rfl rfl ?_
    refine a_iconst dX9_readWalk_21 ?_
    refine a_callI (c := 153) (as := [ai (-1)]) (rest := []) (t_stop σ υ27 (gnF σ q26) (-1) (inR_of (by omega) (by omega)) hD27 hT hs0 hs1 (gn_ok hO26)) mvX9_stop lX9_162 k153 (by decide) rfl rfl rfl rfl (Nat.le_of_ble_eq_true rfl) (Nat.le_of_ble_eq_true rfl) (Nat.le_of_ble_eq_true rfl) dX9_readWalk_22 (fun x υ28 hu => ?_)
    obtain ⟨hx, hD28⟩ := hu
    cases hx
    have hsv28 := stV_rng (gn_ok hO26)
    refine a_istore_n (ls' := [(1, ai (stV (gnF σ q26))), (0, ar 153)]) dX9_readWalk_25 rfl (Nat.le_of_ble_eq_true rfl) rfl ?_
    refine a_aload_n dX9_readWalk_26 rfl rfl ?_
    refine a_iload_n dX9_readWalk_27 rfl rfl ?_
    refine a_callI (c := 153) (as := [ai (stV (gnF σ q26))]) (rest := []) (t_stop σ υ28 (stpF σ (-1) (gnF σ q26)) (stV (gnF σ q26)) (inR_of (by omega) (by omega)) hD28 hT hs0 hs1 (stp_ok (-1) (gn_ok hO26))) mvX9_stop lX9_162 k153 (by decide) rfl rfl rfl rfl (Nat.le_of_ble_eq_true rfl) (Nat.le_of_ble_eq_true rfl) (Nat.le_of_ble_eq_true rfl) dX9_readWalk_28 (fun x υ29 hu => ?_)
    obtain ⟨hx, hD29⟩ := hu
    cases hx
    have hsv29 := stV_rng (stp_ok (-1) (gn_ok hO26))
    refine a_istore_n (ls' := [(2, ai (stV (stpF σ (-1) (gnF σ q26)))), (1, ai (stV (gnF σ q26))), (0, ar 153)]) dX9_readWalk_31 rfl (Nat.le_of_ble_eq_true rfl) rfl ?_
    refine a_aload_n dX9_readWalk_32 rfl rfl ?_
    refine a_iconst dX9_readWalk_33 ?_
    refine a_sipush (x := 240) dX9_readWalk_34 (by decide) ?_
    refine a_callI (c := 153) (as := [ai 1, ai 240]) (rest := []) (t_number σ υ29 (stpF σ (stV (gnF σ q26)) (stpF σ (-1) (gnF σ q26))) 1 240 (inR_of (by omega) (by omega)) (inR_of (by omega) (by omega)) hD29 hT hs0 hs1 (stp_ok (stV (gnF σ q26)) (stp_ok (-1) (gn_ok hO26)))) mvX9_number lX9_159 k153 (by decide) rfl rfl rfl rfl (Nat.le_of_ble_eq_true rfl) (Nat.le_of_ble_eq_true rfl) (Nat.le_of_ble_eq_true rfl) dX9_readWalk_37 (fun x υ30 hu => ?_)
    obtain ⟨hx, hD30⟩ := hu
    cases hx
    have hnv30 := nhV_rng (q := stpF σ (stV (gnF σ q26)) (stpF σ (-1) (gnF σ q26))) (show 1 ≤ 240 by decide)
    refine a_istore_n (ls' := [(3, ai (nhV 1 240 (stpF σ (stV (gnF σ q26)) (stpF σ (-1) (gnF σ q26))))), (2, ai (stV (stpF σ (-1) (gnF σ q26)))), (1, ai (stV (gnF σ q26))), (0, ar 153)]) dX9_readWalk_40 rfl (Nat.le_of_ble_eq_true rfl) rfl ?_
    refine a_aload_n dX9_readWalk_41 rfl rfl ?_
    refine a_getI (J := 12) fX9_132 k153 rfl rfl dX9_readWalk_42 ?_
    refine a_topI (y := (gnF σ (nhF 1 240 (stpF σ (stV (gnF σ q26)) (stpF σ (-1) (gnF σ q26))))).fa) hD30.fa ?_
    refine a_if_eq (tgt := 49) dX9_readWalk_45 (by decide) hD30.ifa (fun c45 => ?_) (fun c45 => ?_)
    · have hz := rdWalk_z (q := q) (σ := σ) (by subst_vars; assumption)
      have hf1 : (gnF σ (nhF 1 240 (stpF σ (stV (gnF σ q26)) (stpF σ (-1) (gnF σ q26))))).f 1 = q.f 1 := by subst_vars; simp only [gn_f, nh_f, stp_f, rw1_f]
      have hq0 : (gnF σ q26).f 0 = q.f 0 := by subst_vars; rw [gn_f, rw1_f]
      have hq1 : (stpF σ (-1) (gnF σ q26)).f 0 = q.f 0 := by subst_vars; rw [stp_f, gn_f, rw1_f]
      have hO0 := hO.f0
      have hva : 0 ≤ stV (gnF σ q26) ∧ stV (gnF σ q26) < 10 := by subst_vars; have := stV_lt (gn_ok (ite_ok (wrong_ok 2 hO) hO) : ROK σ (gnF σ (rw1 q))) hz.2.2; omega
      have hvb : 0 ≤ stV (stpF σ (-1) (gnF σ q26)) ∧ stV (stpF σ (-1) (gnF σ q26)) < 10 := by subst_vars; have := stV_lt (stp_ok (-1) (gn_ok (ite_ok (wrong_ok 2 hO) hO) : ROK σ (gnF σ (rw1 q)))) hz.2.1; omega
      have hO1 := (gn_ok (nh_ok 1 240 (stp_ok (stV (gnF σ q26)) (stp_ok (-1) (gn_ok hO26))))).f1
      refine a_aload_n dX9_readWalk_49 rfl rfl ?_
      refine a_getF (d := 156) fX9_16 k153 rfl r153_4 dX9_readWalk_50 ?_
      refine a_iconst dX9_readWalk_53 ?_
      refine a_dup2 dX9_readWalk_54 rfl rfl ?_
      refine a_ild k156 n156 (by omega) (by omega) dX9_readWalk_55 ?_
      refine a_topI (y := (gnF σ (nhF 1 240 (stpF σ (stV (gnF σ q26)) (stpF σ (-1) (gnF σ q26))))).f 1) (hD30.f 1 (by omega) (by omega)) ?_
      refine a_iconst dX9_readWalk_56 ?_
      refine a_iadd dX9_readWalk_57 ?_
      refine a_ist k156 n156 (by omega) (by omega) dX9_readWalk_58 ?_
      have hW1 := hD30.pf (j := 1) (v := ((gnF σ (nhF 1 240 (stpF σ (stV (gnF σ q26)) (stpF σ (-1) (gnF σ q26))))).f 1 + 1)) (inR_of (by omega) (by omega))
      obtain ⟨qw2, eqw2⟩ : ∃ x, x = (gnF σ (nhF 1 240 (stpF σ (stV (gnF σ q26)) (stpF σ (-1) (gnF σ q26))))).wF (up1 (gnF σ (nhF 1 240 (stpF σ (stV (gnF σ q26)) (stpF σ (-1) (gnF σ q26))))).f 1 ((gnF σ (nhF 1 240 (stpF σ (stV (gnF σ q26)) (stpF σ (-1) (gnF σ q26))))).f 1 + 1)) := ⟨_, rfl⟩
      rw [← eqw2] at hW1
      have hqw2_0 : qw2.f 0 = (gnF σ (nhF 1 240 (stpF σ (stV (gnF σ q26)) (stpF σ (-1) (gnF σ q26))))).f 0 := by rw [eqw2]; exact wF_neg (by omega)
      have hqw2_1 : qw2.f 1 = (gnF σ (nhF 1 240 (stpF σ (stV (gnF σ q26)) (stpF σ (-1) (gnF σ q26))))).f 1 + 1 := by rw [eqw2]; exact wF_pos
      have hqw2_2 : qw2.f 2 = (gnF σ (nhF 1 240 (stpF σ (stV (gnF σ q26)) (stpF σ (-1) (gnF σ q26))))).f 2 := by rw [eqw2]; exact wF_neg (by omega)
      have hqw2_3 : qw2.f 3 = (gnF σ (nhF 1 240 (stpF σ (stV (gnF σ q26)) (stpF σ (-1) (gnF σ q26))))).f 3 := by rw [eqw2]; exact wF_neg (by omega)
      refine a_iload_n dX9_readWalk_59 rfl rfl ?_
      refine a_aload_n dX9_readWalk_60 rfl rfl ?_
      refine a_getF (d := 156) fX9_16 k153 rfl r153_4 dX9_readWalk_61 ?_
      refine a_bipush (x := 15) dX9_readWalk_64 (by decide) ?_
      refine a_bipush (x := 10) dX9_readWalk_66 (by decide) ?_
      refine a_iload_n dX9_readWalk_68 rfl rfl ?_
      refine a_imul dX9_readWalk_69 ?_
      refine a_iadd dX9_readWalk_70 ?_
      refine a_iload_n dX9_readWalk_71 rfl rfl ?_
      refine a_iadd dX9_readWalk_72 ?_
      refine a_ild k156 n156 (by omega) (by omega) dX9_readWalk_73 ?_
      refine a_topI (y := qw2.f (15 + (10 * (stV (gnF σ q26))) + (stV (stpF σ (-1) (gnF σ q26))))) (hW1.f (15 + (10 * (stV (gnF σ q26))) + (stV (stpF σ (-1) (gnF σ q26)))) (by omega) (by omega)) ?_
      refine a_icmp_lt (tgt := 78) dX9_readWalk_74 (by decide) (inR_of (by omega) (by omega)) (hW1.if_ (by omega) (by omega)) (fun c74 => ?_) (fun c74 => ?_)
      · refine a_aload_n dX9_readWalk_78 rfl rfl ?_
        refine a_getF (d := 156) fX9_16 k153 rfl r153_4 dX9_readWalk_79 ?_
        refine a_bipush (x := 15) dX9_readWalk_82 (by decide) ?_
        refine a_bipush (x := 10) dX9_readWalk_84 (by decide) ?_
        refine a_iload_n dX9_readWalk_86 rfl rfl ?_
        refine a_imul dX9_readWalk_87 ?_
        refine a_iadd dX9_readWalk_88 ?_
        refine a_iload_n dX9_readWalk_89 rfl rfl ?_
        refine a_iadd dX9_readWalk_90 ?_
        refine a_iload_n dX9_readWalk_91 rfl rfl ?_
        refine a_ist k156 n156 (by omega) (by omega) dX9_readWalk_92 ?_
        have hW3 := hW1.pf (j := (15 + (10 * (stV (gnF σ q26))) + (stV (stpF σ (-1) (gnF σ q26))))) (v := (nhV 1 240 (stpF σ (stV (gnF σ q26)) (stpF σ (-1) (gnF σ q26))))) (inR_of (by omega) (by omega))
        obtain ⟨qw4, eqw4⟩ : ∃ x, x = qw2.wF (up1 qw2.f (15 + (10 * (stV (gnF σ q26))) + (stV (stpF σ (-1) (gnF σ q26)))) (nhV 1 240 (stpF σ (stV (gnF σ q26)) (stpF σ (-1) (gnF σ q26))))) := ⟨_, rfl⟩
        rw [← eqw4] at hW3
        have hqw4_0 : qw4.f 0 = qw2.f 0 := by rw [eqw4]; exact wF_neg (by omega)
        have hqw4_1 : qw4.f 1 = qw2.f 1 := by rw [eqw4]; exact wF_neg (by omega)
        have hqw4_2 : qw4.f 2 = qw2.f 2 := by rw [eqw4]; exact wF_neg (by omega)
        have hqw4_3 : qw4.f 3 = qw2.f 3 := by rw [eqw4]; exact wF_neg (by omega)
        refine a_aload_n dX9_readWalk_93 rfl rfl ?_
        refine a_getF (d := 156) fX9_16 k153 rfl r153_4 dX9_readWalk_94 ?_
        refine a_bipush (x := 15) dX9_readWalk_97 (by decide) ?_
        refine a_bipush (x := 10) dX9_readWalk_99 (by decide) ?_
        refine a_iload_n dX9_readWalk_101 rfl rfl ?_
        refine a_imul dX9_readWalk_102 ?_
        refine a_iadd dX9_readWalk_103 ?_
        refine a_iload_n dX9_readWalk_104 rfl rfl ?_
        refine a_iadd dX9_readWalk_105 ?_
        refine a_iload_n dX9_readWalk_106 rfl rfl ?_
        refine a_ist k156 n156 (by omega) (by omega) dX9_readWalk_107 ?_
        have hW5 := hW3.pf (j := (15 + (10 * (stV (stpF σ (-1) (gnF σ q26)))) + (stV (gnF σ q26)))) (v := (nhV 1 240 (stpF σ (stV (gnF σ q26)) (stpF σ (-1) (gnF σ q26))))) (inR_of (by omega) (by omega))
        obtain ⟨qw6, eqw6⟩ : ∃ x, x = qw4.wF (up1 qw4.f (15 + (10 * (stV (stpF σ (-1) (gnF σ q26)))) + (stV (gnF σ q26))) (nhV 1 240 (stpF σ (stV (gnF σ q26)) (stpF σ (-1) (gnF σ q26))))) := ⟨_, rfl⟩
        rw [← eqw6] at hW5
        have hqw6_0 : qw6.f 0 = qw4.f 0 := by rw [eqw6]; exact wF_neg (by omega)
        have hqw6_1 : qw6.f 1 = qw4.f 1 := by rw [eqw6]; exact wF_neg (by omega)
        have hqw6_2 : qw6.f 2 = qw4.f 2 := by rw [eqw6]; exact wF_neg (by omega)
        have hqw6_3 : qw6.f 3 = qw4.f 3 := by rw [eqw6]; exact wF_neg (by omega)
        exact a_vret rfl ⟨rfl, by unfold rdWalk rwE; subst_vars; rw [if_pos (by assumption)]; dsimp only; rw [if_pos (by assumption)]; exact hW5⟩ dX9_readWalk_108
      · exact a_vret rfl ⟨rfl, by unfold rdWalk rwE; subst_vars; rw [if_pos (by assumption)]; dsimp only; rw [if_neg (by assumption)]; exact hW1⟩ dX9_readWalk_77
    · exact a_vret rfl ⟨rfl, by unfold rdWalk rwE; subst_vars; rw [if_neg (by assumption)]; exact hD30⟩ dX9_readWalk_48
  · refine a_aload_n dX9_readWalk_0 rfl rfl ?_
    refine a_getF (d := 156) fX9_16 k153 rfl r153_4 dX9_readWalk_1 ?_
    refine a_iconst dX9_readWalk_4 ?_
    refine a_ild k156 n156 (by omega) (by omega) dX9_readWalk_5 ?_
    refine a_topI (y := q.f 1) (hD.f 1 (by omega) (by omega)) ?_
    refine a_bipush (x := 12) dX9_readWalk_6 (by decide) ?_
    refine a_icmp_ne (tgt := 16) dX9_readWalk_8 (by decide) (hD.if_ (by omega) (by omega)) (inR_of (by omega) (by omega)) (fun c8 => ?_) (fun c8 => ?_)
    · have e : rw1 q = q := by unfold rw1; grind
      exact a_keep (by simp) (J _ (by rw [e]; exact hD))
    · refine a_aload_n dX9_readWalk_11 rfl rfl ?_
      refine a_iconst dX9_readWalk_12 ?_
      refine a_callV (c := 153) (as := [ai 2]) (rest := []) (t_wrong σ τ q 2 (inR_of (by omega) (by omega)) hD) mvX9_wrong lX9_141 k153 (by decide) rfl rfl rfl rfl (Nat.le_of_ble_eq_true rfl) (Nat.le_of_ble_eq_true rfl) (Nat.le_of_ble_eq_true rfl) dX9_readWalk_13 (fun υ31 hu => ?_)
      obtain ⟨-, hD31⟩ := hu
      have e : rw1 q = wrongF 2 q := by unfold rw1; grind
      exact a_keep (by simp) (J _ (by rw [e]; exact hD31))

