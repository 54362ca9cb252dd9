def faultF (σ : Sto) (what : Int) : Int := if what = 0 then gN σ 153 14 else if what = 1 then gN σ 153 15 else -1
def walkF (σ : Sto) (a b : Int) : Int := if ¬ stp σ a ∨ ¬ stp σ b then -1 else orN (gN σ 155 (15 + 10 * a + b))
def changeF (σ : Sto) (s : Int) : Int := if stp σ s then gN σ 155 (5 + s) else -1

set_option maxRecDepth 20000 in
theorem t_fault (σ : Sto) (what : Int) (hwhat : inR what) (hW : WOK σ) (hT : TOK σ) : MetA mX9_fault [ar 153, ai what] σ (qQ σ (faultF σ what)) := by
  have hS := hW.2.1
  have hR := hW.1
  have hTr := hW.2.2.1
  refine a_entry (by decide) (Nat.le_of_ble_eq_true rfl) ?_
  refine a_aload_n dX9_fault_0 rfl rfl ?_
  refine a_iconst dX9_fault_1 ?_
  refine a_putI (J := 0) fX9_85 k153 rfl rfl rfl dX9_fault_2 ?_
  refine a_iload_n dX9_fault_5 rfl rfl ?_
  refine a_if_ne (tgt := 16) dX9_fault_6 (by decide) hwhat (fun c6 => ?_) (fun c6 => ?_)
  · refine a_iload_n dX9_fault_16 rfl rfl ?_
    refine a_iconst dX9_fault_17 ?_
    refine a_icmp_ne (tgt := 28) dX9_fault_18 (by decide) hwhat (inR_of (by omega) (by omega)) (fun c18 => ?_) (fun c18 => ?_)
    · refine a_iconst dX9_fault_28 ?_
      exact a_iret rfl ⟨by unfold faultF; grind, th_F σ, th_T hT⟩ dX9_fault_29
    · refine a_aload_n dX9_fault_21 rfl rfl ?_
      refine a_getI (J := 15) fX9_22 k153 rfl rfl dX9_fault_22 ?_
      refine a_topI (y := gN σ 153 15) (by simp [gN_sN]) ?_
      refine a_goto (tgt := 29) dX9_fault_25 (by decide) ?_
      exact a_iret rfl ⟨by unfold faultF; grind, th_F σ, th_T hT⟩ dX9_fault_29
  · refine a_aload_n dX9_fault_9 rfl rfl ?_
    refine a_getI (J := 14) fX9_192 k153 rfl rfl dX9_fault_10 ?_
    refine a_topI (y := gN σ 153 14) (by simp [gN_sN]) ?_
    refine a_goto (tgt := 29) dX9_fault_13 (by decide) ?_
    exact a_iret rfl ⟨by unfold faultF; grind, th_F σ, th_T hT⟩ dX9_fault_29

set_option maxRecDepth 20000 in
theorem t_walk (σ : Sto) (a b : Int) (ha : inR a) (hb : inR b) (hW : WOK σ) (hT : TOK σ) : MetA mX9_walk [ar 153, ai a, ai b] σ (qQ σ (walkF σ a b)) := by
  have hS := hW.2.1
  have hR := hW.1
  have hTr := hW.2.2.1
  refine a_entry (by decide) (Nat.le_of_ble_eq_true rfl) ?_
  refine a_aload_n dX9_walk_0 rfl rfl ?_
  refine a_iconst dX9_walk_1 ?_
  refine a_putI (J := 0) fX9_85 k153 rfl rfl rfl dX9_walk_2 ?_
  refine a_aload_n dX9_walk_5 rfl rfl ?_
  refine a_iload_n dX9_walk_6 rfl rfl ?_
  refine a_cI (c := 153) (as := [ai a]) (rest := []) (t_isStop (sN σ 153 0 0) a ha) mvX9_isStop lX9_213 k153 (by decide) rfl rfl rfl rfl (Nat.le_of_ble_eq_true rfl) (Nat.le_of_ble_eq_true rfl) (Nat.le_of_ble_eq_true rfl) dX9_walk_7 ?_
  refine a_topI (y := if stp σ a then 1 else 0) (by simp only [th155]) ?_
  refine a_ifb_eq (tgt := 21) dX9_walk_10 (by decide) (fun c10 => ?_) (fun c10 => ?_)
  · refine a_iconst dX9_walk_21 ?_
    exact a_iret rfl ⟨by unfold walkF; grind, th_F σ, th_T hT⟩ dX9_walk_22
  · refine a_aload_n dX9_walk_13 rfl rfl ?_
    refine a_iload_n dX9_walk_14 rfl rfl ?_
    refine a_cI (c := 153) (as := [ai b]) (rest := []) (t_isStop (sN σ 153 0 0) b hb) mvX9_isStop lX9_213 k153 (by decide) rfl rfl rfl rfl (Nat.le_of_ble_eq_true rfl) (Nat.le_of_ble_eq_true rfl) (Nat.le_of_ble_eq_true rfl) dX9_walk_15 ?_
    refine a_topI (y := if stp σ b then 1 else 0) (by simp only [th155]) ?_
    refine a_ifb_ne (tgt := 23) dX9_walk_18 (by decide) (fun c18 => ?_) (fun c18 => ?_)
    · refine a_aload_n dX9_walk_23 rfl rfl ?_
      refine a_iload_n dX9_walk_24 rfl rfl ?_
      refine a_iload_n dX9_walk_25 rfl rfl ?_
      refine a_cI (c := 153) (as := [ai a, ai b]) (rest := []) (t_walked (sN σ 153 0 0) a b (by omega) (by omega)) mvX9_walked lX9_216 k153 (by decide) rfl rfl rfl rfl (Nat.le_of_ble_eq_true rfl) (Nat.le_of_ble_eq_true rfl) (Nat.le_of_ble_eq_true rfl) dX9_walk_26 ?_
      refine a_topI (y := gN σ 155 (15 + 10 * a + b)) (by simp only [th155]) ?_
      refine a_ldc (x := 1000000) cX9_175 (by decide) dX9_walk_29 ?_
      refine a_icmp_lt (tgt := 39) dX9_walk_31 (by decide) (inR_gN _ _ _) (inR_of (by omega) (by omega)) (fun c31 => ?_) (fun c31 => ?_)
      · refine a_aload_n dX9_walk_39 rfl rfl ?_
        refine a_iload_n dX9_walk_40 rfl rfl ?_
        refine a_iload_n dX9_walk_41 rfl rfl ?_
        refine a_cI (c := 153) (as := [ai a, ai b]) (rest := []) (t_walked (sN σ 153 0 0) a b (by omega) (by omega)) mvX9_walked lX9_216 k153 (by decide) rfl rfl rfl rfl (Nat.le_of_ble_eq_true rfl) (Nat.le_of_ble_eq_true rfl) (Nat.le_of_ble_eq_true rfl) dX9_walk_42 ?_
        refine a_topI (y := gN σ 155 (15 + 10 * a + b)) (by simp only [th155]) ?_
        exact a_iret rfl ⟨by unfold walkF; grind, th_F σ, th_T hT⟩ dX9_walk_45
      · refine a_bipush (x := (-2)) dX9_walk_34 (by decide) ?_
        refine a_goto (tgt := 45) dX9_walk_36 (by decide) ?_
        exact a_iret rfl ⟨by unfold walkF; grind, th_F σ, th_T hT⟩ dX9_walk_45
    · refine a_iconst dX9_walk_21 ?_
      exact a_iret rfl ⟨by unfold walkF; grind, th_F σ, th_T hT⟩ dX9_walk_22

set_option maxRecDepth 20000 in
theorem t_change (σ : Sto) (s : Int) (hs : inR s) (hW : WOK σ) (hT : TOK σ) : MetA mX9_change [ar 153, ai s] σ (qQ σ (changeF σ s)) := by
  have hS := hW.2.1
  have hR := hW.1
  have hTr := hW.2.2.1
  refine a_entry (by decide) (Nat.le_of_ble_eq_true rfl) ?_
  refine a_aload_n dX9_change_0 rfl rfl ?_
  refine a_iconst dX9_change_1 ?_
  refine a_putI (J := 0) fX9_85 k153 rfl rfl rfl dX9_change_2 ?_
  refine a_aload_n dX9_change_5 rfl rfl ?_
  refine a_iload_n dX9_change_6 rfl rfl ?_
  refine a_cI (c := 153) (as := [ai s]) (rest := []) (t_isStop (sN σ 153 0 0) s hs) mvX9_isStop lX9_213 k153 (by decide) rfl rfl rfl rfl (Nat.le_of_ble_eq_true rfl) (Nat.le_of_ble_eq_true rfl) (Nat.le_of_ble_eq_true rfl) dX9_change_7 ?_
  refine a_topI (y := if stp σ s then 1 else 0) (by simp only [th155]) ?_
  refine a_ifb_eq (tgt := 24) dX9_change_10 (by decide) (fun c10 => ?_) (fun c10 => ?_)
  · refine a_iconst dX9_change_24 ?_
    exact a_iret rfl ⟨by unfold changeF; grind, th_F σ, th_T hT⟩ dX9_change_25
  · refine a_aload_n dX9_change_13 rfl rfl ?_
    refine a_getF (d := 155) fX9_13 k153 rfl r153_3 dX9_change_14 ?_
    refine a_iconst dX9_change_17 ?_
    refine a_iload_n dX9_change_18 rfl rfl ?_
    refine a_iadd dX9_change_19 ?_
    refine a_ild k155 n155 (by omega) (by omega) dX9_change_20 ?_
    refine a_topI (y := gN σ 155 (5 + s)) (by simp [gN_sN]) ?_
    refine a_goto (tgt := 25) dX9_change_21 (by decide) ?_
    exact a_iret rfl ⟨by unfold changeF; grind, th_F σ, th_T hT⟩ dX9_change_25

set_option maxRecDepth 20000 in
theorem t_slackQ (σ : Sto) (e on : Int) (he : inR e) (hon : inR on) (hW : WOK σ) (hT : TOK σ) : MetA mX9_slack_ [ar 153, ai e, ai on] σ (qQ σ (slackQ σ e on)) := by
  have hS := hW.2.1
  have hR := hW.1
  have hTr := hW.2.2.1
  refine a_entry (by decide) (Nat.le_of_ble_eq_true rfl) ?_
  refine a_aload_n dX9_slack__0 rfl rfl ?_
  refine a_iconst dX9_slack__1 ?_
  refine a_putI (J := 0) fX9_85 k153 rfl rfl rfl dX9_slack__2 ?_
  refine a_aload_n dX9_slack__5 rfl rfl ?_
  refine a_iload_n dX9_slack__6 rfl rfl ?_
  refine a_cI (c := 153) (as := [ai e]) (rest := []) (t_isRide (sN σ 153 0 0) e he) mvX9_isRide lX9_204 k153 (by decide) rfl rfl rfl rfl (Nat.le_of_ble_eq_true rfl) (Nat.le_of_ble_eq_true rfl) (Nat.le_of_ble_eq_true rfl) dX9_slack__7 ?_
  refine a_topI (y := if rid σ e then 1 else 0) (by simp only [th155]) ?_
  refine a_ifb_eq (tgt := 48) dX9_slack__10 (by decide) (fun c10 => ?_) (fun c10 => ?_)
  · refine a_sipush (x := (-1000)) dX9_slack__48 (by decide) ?_
    exact a_iret rfl ⟨by unfold slackQ; grind, th_F σ, th_T hT⟩ dX9_slack__51
  · refine a_aload_n dX9_slack__13 rfl rfl ?_
    refine a_iload_n dX9_slack__14 rfl rfl ?_
    refine a_cI (c := 153) (as := [ai on]) (rest := []) (t_isRide (sN σ 153 0 0) on hon) mvX9_isRide lX9_204 k153 (by decide) rfl rfl rfl rfl (Nat.le_of_ble_eq_true rfl) (Nat.le_of_ble_eq_true rfl) (Nat.le_of_ble_eq_true rfl) dX9_slack__15 ?_
    refine a_topI (y := if rid σ on then 1 else 0) (by simp only [th155]) ?_
    refine a_ifb_eq (tgt := 48) dX9_slack__18 (by decide) (fun c18 => ?_) (fun c18 => ?_)
    · refine a_sipush (x := (-1000)) dX9_slack__48 (by decide) ?_
      exact a_iret rfl ⟨by unfold slackQ; grind, th_F σ, th_T hT⟩ dX9_slack__51
    · refine a_aload_n dX9_slack__21 rfl rfl ?_
      refine a_iload_n dX9_slack__22 rfl rfl ?_
      refine a_cI (c := 153) (as := [ai e]) (rest := []) (t_isOff (sN σ 153 0 0) e) mvX9_isOff lX9_207 k153 (by decide) rfl rfl rfl rfl (Nat.le_of_ble_eq_true rfl) (Nat.le_of_ble_eq_true rfl) (Nat.le_of_ble_eq_true rfl) dX9_slack__23 ?_
      refine a_topI (y := if ofB σ e then 1 else 0) rfl ?_
      refine a_ifb_ne (tgt := 48) dX9_slack__26 (by decide) (fun c26 => ?_) (fun c26 => ?_)
      · refine a_sipush (x := (-1000)) dX9_slack__48 (by decide) ?_
        exact a_iret rfl ⟨by unfold slackQ; grind, th_F σ, th_T hT⟩ dX9_slack__51
      · refine a_aload_n dX9_slack__29 rfl rfl ?_
        refine a_iload_n dX9_slack__30 rfl rfl ?_
        refine a_cI (c := 153) (as := [ai on]) (rest := []) (t_isOff (sN σ 153 0 0) on) mvX9_isOff lX9_207 k153 (by decide) rfl rfl rfl rfl (Nat.le_of_ble_eq_true rfl) (Nat.le_of_ble_eq_true rfl) (Nat.le_of_ble_eq_true rfl) dX9_slack__31 ?_
        refine a_topI (y := if ofB σ on then 1 else 0) rfl ?_
        refine a_ifb_ne (tgt := 48) dX9_slack__34 (by decide) (fun c34 => ?_) (fun c34 => ?_)
        · refine a_sipush (x := (-1000)) dX9_slack__48 (by decide) ?_
          exact a_iret rfl ⟨by unfold slackQ; grind, th_F σ, th_T hT⟩ dX9_slack__51
        · have bb := btw_rng hW (i := e) (k := on) (by omega) (by omega) (by omega) (by omega)
          refine a_aload_n dX9_slack__37 rfl rfl ?_
          refine a_iload_n dX9_slack__38 rfl rfl ?_
          refine a_iload_n dX9_slack__39 rfl rfl ?_
          refine a_cI (c := 153) (as := [ai e, ai on]) (rest := []) (t_btw (sN σ 153 0 0) e on (Q_W (th_F σ) hW) (by omega) (by omega) (by omega) (by omega)) mvX9_between lX9_246 k153 (by decide) rfl rfl rfl rfl (Nat.le_of_ble_eq_true rfl) (Nat.le_of_ble_eq_true rfl) (Nat.le_of_ble_eq_true rfl) dX9_slack__40 ?_
          refine a_topI (y := btw σ e on) (btw_eq (th155 σ) _ _) ?_
          refine a_ldc (x := 1000000) cX9_175 (by decide) dX9_slack__43 ?_
          refine a_icmp_lt (tgt := 52) dX9_slack__45 (by decide) (inR_of (by omega) (by omega)) (inR_of (by omega) (by omega)) (fun c45 => ?_) (fun c45 => ?_)
          · refine a_aload_n dX9_slack__52 rfl rfl ?_
            refine a_callV (c := 153) (as := []) (rest := []) (t_looksNow (sN σ 153 0 0) (Q_W (th_F σ) hW) (th_T hT)) mvX9_looksNow lX9_290 k153 (by decide) rfl rfl rfl rfl (Nat.le_of_ble_eq_true rfl) (Nat.le_of_ble_eq_true rfl) (Nat.le_of_ble_eq_true rfl) dX9_slack__53 (fun u hu => ?_)
            obtain ⟨hFu, hTu, hRu⟩ := lk_fin hW (th_F σ) (by omega) (by omega) hu.2
            have hWu := Q_W hFu hW
            refine a_aload_n dX9_slack__56 rfl rfl ?_
            refine a_getF (d := 161) fX9_36 k153 rfl r153_21 dX9_slack__57 ?_
            refine a_iload_n dX9_slack__60 rfl rfl ?_
            refine a_ild k161 n161 (by omega) (by omega) dX9_slack__61 ?_
            refine a_topI (y := LV σ on) (hRu.2.2.1 on (by omega) (by show _ < gN σ 155 3; omega)).1 ?_
            refine a_aload_n dX9_slack__62 rfl rfl ?_
            refine a_getF (d := 162) fX9_39 k153 rfl r153_22 dX9_slack__63 ?_
            refine a_iload_n dX9_slack__66 rfl rfl ?_
            refine a_ild k162 n162 (by omega) (by omega) dX9_slack__67 ?_
            refine a_topI (y := CM σ e) (hRu.2.2.1 e (by omega) (by show _ < gN σ 155 3; omega)).2.1 ?_
            refine a_isub dX9_slack__68 ?_
            refine a_aload_n dX9_slack__69 rfl rfl ?_
            refine a_iload_n dX9_slack__70 rfl rfl ?_
            refine a_iload_n dX9_slack__71 rfl rfl ?_
            refine a_cI (c := 153) (as := [ai e, ai on]) (rest := [ai (LV σ on - (CM σ e))]) (t_btw u e on hWu (by omega) (by omega) (by omega) (by omega)) mvX9_between lX9_246 k153 (by decide) rfl rfl rfl rfl (Nat.le_of_ble_eq_true rfl) (Nat.le_of_ble_eq_true rfl) (Nat.le_of_ble_eq_true rfl) dX9_slack__72 ?_
            refine a_topI (y := btw σ e on) (btw_eq (Q155 hFu) _ _) ?_
            refine a_isub dX9_slack__75 ?_
            exact a_iret rfl ⟨by unfold slackQ; grind, hFu, hTu⟩ dX9_slack__76
          · refine a_sipush (x := (-1000)) dX9_slack__48 (by decide) ?_
            exact a_iret rfl ⟨by unfold slackQ; grind, th_F σ, th_T hT⟩ dX9_slack__51

set_option maxRecDepth 20000 in
theorem t_timeAt (σ u : Sto) (hW : WOK σ) (hFu : Fr pQ σ u) (hTu : TOK u) (hRu : Rq (lkN σ) u) (a stop m co : Int) (ha0 : 0 ≤ a) (ha1 : a < gN σ 155 3) (hst : inR stop) (hm : mnt m) (hco : co = 0 ∨ co = 1) : MetI mX9_timeAt [ar 153, ai a, ai stop, ai m, ai co] u (tmF σ stop m co a) u := by
  have hWu := Q_W hFu hW
  have hS := hW.2.1
  have hR := hW.1
  have b := hW.2.2.2.1 a ha0 (by omega)
  have z := LV_rng hW (x := a) ha0 (by omega)
  refine a_entry (by decide) (Nat.le_of_ble_eq_true rfl) ?_
  refine a_iload dX9_timeAt_0 rfl ?_
  refine a_if_eq (tgt := 14) dX9_timeAt_2 (by decide) (inR_of (by omega) (by omega)) (fun c2 => ?_) (fun c2 => ?_)
  · refine a_aload_n dX9_timeAt_14 rfl rfl ?_
    refine a_getF (d := 161) fX9_36 k153 rfl r153_21 dX9_timeAt_15 ?_
    refine a_iload_n dX9_timeAt_18 rfl rfl ?_
    refine a_ild k161 n161 (by omega) (by omega) dX9_timeAt_19 ?_
    refine a_topI (y := LV σ a) (hRu.2.2.1 a (by omega) (by show _ < gN σ 155 3; omega)).1 ?_
    refine a_istore (ls' := [(5, ai (LV σ a)), (0, ar 153), (1, ai a), (2, ai stop), (3, ai m), (4, ai co)]) dX9_timeAt_20 (Nat.le_of_ble_eq_true rfl) rfl ?_
    refine a_aload_n dX9_timeAt_22 rfl rfl ?_
    refine a_iload_n dX9_timeAt_23 rfl rfl ?_
    refine a_cI (c := 153) (as := [ai a]) (rest := []) (t_isOff u a) mvX9_isOff lX9_207 k153 (by decide) rfl rfl rfl rfl (Nat.le_of_ble_eq_true rfl) (Nat.le_of_ble_eq_true rfl) (Nat.le_of_ble_eq_true rfl) dX9_timeAt_24 ?_
    refine a_topI (y := if ofB σ a then 1 else 0) (by rw [Q17 hFu]) ?_
    refine a_ifb_ne (tgt := 55) dX9_timeAt_27 (by decide) (fun c27 => ?_) (fun c27 => ?_)
    · refine a_ldc (x := 1000000) cX9_175 (by decide) dX9_timeAt_55 ?_
      refine a_goto (tgt := 62) dX9_timeAt_57 (by decide) ?_
      exact a_iret rfl ⟨by unfold tmF; grind, rfl⟩ dX9_timeAt_62
    · refine a_aload_n dX9_timeAt_30 rfl rfl ?_
      refine a_iload_n dX9_timeAt_31 rfl rfl ?_
      refine a_iload dX9_timeAt_32 rfl ?_
      refine a_if_eq (tgt := 41) dX9_timeAt_34 (by decide) (inR_of (by omega) (by omega)) (fun c34 => ?_) (fun c34 => ?_)
      · refine a_iconst dX9_timeAt_41 ?_
        refine a_cI (c := 153) (as := [ai a, ai 1]) (rest := []) (t_told u a 1 (by omega) (by omega)) mvX9_told lX9_201 k153 (by decide) rfl rfl rfl rfl (Nat.le_of_ble_eq_true rfl) (Nat.le_of_ble_eq_true rfl) (Nat.le_of_ble_eq_true rfl) dX9_timeAt_42 ?_
        refine a_topI (y := gN σ 155 (115 + 5 * a + 1)) (Q155 hFu _) ?_
        refine a_iload_n dX9_timeAt_45 rfl rfl ?_
        refine a_icmp_ne (tgt := 55) dX9_timeAt_46 (by decide) (inR_gN _ _ _) hst (fun c46 => ?_) (fun c46 => ?_)
        · refine a_ldc (x := 1000000) cX9_175 (by decide) dX9_timeAt_55 ?_
          refine a_goto (tgt := 62) dX9_timeAt_57 (by decide) ?_
          exact a_iret rfl ⟨by unfold tmF; grind, rfl⟩ dX9_timeAt_62
        · refine a_iload dX9_timeAt_49 rfl ?_
          refine a_iload_n dX9_timeAt_51 rfl rfl ?_
          refine a_icmp_ge (tgt := 60) dX9_timeAt_52 (by decide) (inR_of (by omega) (by omega)) (inR_of (by omega) (by omega)) (fun c52 => ?_) (fun c52 => ?_)
          · refine a_iload dX9_timeAt_60 rfl ?_
            exact a_iret rfl ⟨by unfold tmF; grind, rfl⟩ dX9_timeAt_62
          · refine a_ldc (x := 1000000) cX9_175 (by decide) dX9_timeAt_55 ?_
            refine a_goto (tgt := 62) dX9_timeAt_57 (by decide) ?_
            exact a_iret rfl ⟨by unfold tmF; grind, rfl⟩ dX9_timeAt_62
      · refine a_iconst dX9_timeAt_37 ?_
        refine a_goto (tgt := 42) dX9_timeAt_38 (by decide) ?_
        refine a_cI (c := 153) (as := [ai a, ai 2]) (rest := []) (t_told u a 2 (by omega) (by omega)) mvX9_told lX9_201 k153 (by decide) rfl rfl rfl rfl (Nat.le_of_ble_eq_true rfl) (Nat.le_of_ble_eq_true rfl) (Nat.le_of_ble_eq_true rfl) dX9_timeAt_42 ?_
        refine a_topI (y := gN σ 155 (115 + 5 * a + 2)) (Q155 hFu _) ?_
        refine a_iload_n dX9_timeAt_45 rfl rfl ?_
        refine a_icmp_ne (tgt := 55) dX9_timeAt_46 (by decide) (inR_gN _ _ _) hst (fun c46 => ?_) (fun c46 => ?_)
        · refine a_ldc (x := 1000000) cX9_175 (by decide) dX9_timeAt_55 ?_
          refine a_goto (tgt := 62) dX9_timeAt_57 (by decide) ?_
          exact a_iret rfl ⟨by unfold tmF; grind, rfl⟩ dX9_timeAt_62
        · refine a_iload dX9_timeAt_49 rfl ?_
          refine a_iload_n dX9_timeAt_51 rfl rfl ?_
          refine a_icmp_ge (tgt := 60) dX9_timeAt_52 (by decide) (inR_of (by omega) (by omega)) (inR_of (by omega) (by omega)) (fun c52 => ?_) (fun c52 => ?_)
          · refine a_iload dX9_timeAt_60 rfl ?_
            exact a_iret rfl ⟨by unfold tmF; grind, rfl⟩ dX9_timeAt_62
          · refine a_ldc (x := 1000000) cX9_175 (by decide) dX9_timeAt_55 ?_
            refine a_goto (tgt := 62) dX9_timeAt_57 (by decide) ?_
            exact a_iret rfl ⟨by unfold tmF; grind, rfl⟩ dX9_timeAt_62
  · refine a_aload_n dX9_timeAt_5 rfl rfl ?_
    refine a_getF (d := 162) fX9_39 k153 rfl r153_22 dX9_timeAt_6 ?_
    refine a_iload_n dX9_timeAt_9 rfl rfl ?_
    refine a_ild k162 n162 (by omega) (by omega) dX9_timeAt_10 ?_
    refine a_topI (y := CM σ a) (hRu.2.2.1 a (by omega) (by show _ < gN σ 155 3; omega)).2.1 ?_
    refine a_goto (tgt := 20) dX9_timeAt_11 (by decide) ?_
    refine a_istore (ls' := [(5, ai (CM σ a)), (0, ar 153), (1, ai a), (2, ai stop), (3, ai m), (4, ai co)]) dX9_timeAt_20 (Nat.le_of_ble_eq_true rfl) rfl ?_
    refine a_aload_n dX9_timeAt_22 rfl rfl ?_
    refine a_iload_n dX9_timeAt_23 rfl rfl ?_
    refine a_cI (c := 153) (as := [ai a]) (rest := []) (t_isOff u a) mvX9_isOff lX9_207 k153 (by decide) rfl rfl rfl rfl (Nat.le_of_ble_eq_true rfl) (Nat.le_of_ble_eq_true rfl) (Nat.le_of_ble_eq_true rfl) dX9_timeAt_24 ?_
    refine a_topI (y := if ofB σ a then 1 else 0) (by rw [Q17 hFu]) ?_
    refine a_ifb_ne (tgt := 55) dX9_timeAt_27 (by decide) (fun c27 => ?_) (fun c27 => ?_)
    · refine a_ldc (x := 1000000) cX9_175 (by decide) dX9_timeAt_55 ?_
      refine a_goto (tgt := 62) dX9_timeAt_57 (by decide) ?_
      exact a_iret rfl ⟨by unfold tmF; grind, rfl⟩ dX9_timeAt_62
    · refine a_aload_n dX9_timeAt_30 rfl rfl ?_
      refine a_iload_n dX9_timeAt_31 rfl rfl ?_
      refine a_iload dX9_timeAt_32 rfl ?_
      refine a_if_eq (tgt := 41) dX9_timeAt_34 (by decide) (inR_of (by omega) (by omega)) (fun c34 => ?_) (fun c34 => ?_)
      · refine a_iconst dX9_timeAt_41 ?_
        refine a_cI (c := 153) (as := [ai a, ai 1]) (rest := []) (t_told u a 1 (by omega) (by omega)) mvX9_told lX9_201 k153 (by decide) rfl rfl rfl rfl (Nat.le_of_ble_eq_true rfl) (Nat.le_of_ble_eq_true rfl) (Nat.le_of_ble_eq_true rfl) dX9_timeAt_42 ?_
        refine a_topI (y := gN σ 155 (115 + 5 * a + 1)) (Q155 hFu _) ?_
        refine a_iload_n dX9_timeAt_45 rfl rfl ?_
        refine a_icmp_ne (tgt := 55) dX9_timeAt_46 (by decide) (inR_gN _ _ _) hst (fun c46 => ?_) (fun c46 => ?_)
        · refine a_ldc (x := 1000000) cX9_175 (by decide) dX9_timeAt_55 ?_
          refine a_goto (tgt := 62) dX9_timeAt_57 (by decide) ?_
          exact a_iret rfl ⟨by unfold tmF; grind, rfl⟩ dX9_timeAt_62
        · refine a_iload dX9_timeAt_49 rfl ?_
          refine a_iload_n dX9_timeAt_51 rfl rfl ?_
          refine a_icmp_ge (tgt := 60) dX9_timeAt_52 (by decide) (inR_of (by omega) (by omega)) (inR_of (by omega) (by omega)) (fun c52 => ?_) (fun c52 => ?_)
          · refine a_iload dX9_timeAt_60 rfl ?_
            exact a_iret rfl ⟨by unfold tmF; grind, rfl⟩ dX9_timeAt_62
          · refine a_ldc (x := 1000000) cX9_175 (by decide) dX9_timeAt_55 ?_
            refine a_goto (tgt := 62) dX9_timeAt_57 (by decide) ?_
            exact a_iret rfl ⟨by unfold tmF; grind, rfl⟩ dX9_timeAt_62
      · refine a_iconst dX9_timeAt_37 ?_
        refine a_goto (tgt := 42) dX9_timeAt_38 (by decide) ?_
        refine a_cI (c := 153) (as := [ai a, ai 2]) (rest := []) (t_told u a 2 (by omega) (by omega)) mvX9_told lX9_201 k153 (by decide) rfl rfl rfl rfl (Nat.le_of_ble_eq_true rfl) (Nat.le_of_ble_eq_true rfl) (Nat.le_of_ble_eq_true rfl) dX9_timeAt_42 ?_
        refine a_topI (y := gN σ 155 (115 + 5 * a + 2)) (Q155 hFu _) ?_
        refine a_iload_n dX9_timeAt_45 rfl rfl ?_
        refine a_icmp_ne (tgt := 55) dX9_timeAt_46 (by decide) (inR_gN _ _ _) hst (fun c46 => ?_) (fun c46 => ?_)
        · refine a_ldc (x := 1000000) cX9_175 (by decide) dX9_timeAt_55 ?_
          refine a_goto (tgt := 62) dX9_timeAt_57 (by decide) ?_
          exact a_iret rfl ⟨by unfold tmF; grind, rfl⟩ dX9_timeAt_62
        · refine a_iload dX9_timeAt_49 rfl ?_
          refine a_iload_n dX9_timeAt_51 rfl rfl ?_
          refine a_icmp_ge (tgt := 60) dX9_timeAt_52 (by decide) (inR_of (by omega) (by omega)) (inR_of (by omega) (by omega)) (fun c52 => ?_) (fun c52 => ?_)
          · refine a_iload dX9_timeAt_60 rfl ?_
            exact a_iret rfl ⟨by unfold tmF; grind, rfl⟩ dX9_timeAt_62
          · refine a_ldc (x := 1000000) cX9_175 (by decide) dX9_timeAt_55 ?_
            refine a_goto (tgt := 62) dX9_timeAt_57 (by decide) ?_
            exact a_iret rfl ⟨by unfold tmF; grind, rfl⟩ dX9_timeAt_62

theorem tm_rng {σ : Sto} (hW : WOK σ) {stop m co a : Int} (ha0 : 0 ≤ a) (ha1 : a < 60) : -1000 ≤ tmF σ stop m co a ∧ tmF σ stop m co a ≤ 1000000 := by
  have z := LV_rng hW (x := a) ha0 ha1
  unfold tmF
  split
  · omega
  · split <;> omega

set_option maxRecDepth 20000 in
theorem t_board_b (σ u : Sto) (hW : WOK σ) (hFu : Fr pQ σ u) (hTu : TOK u) (hRu : Rq (lkN σ) u) (stop m co i : Int) (hst : inR stop) (hm : mnt m) (hco : co = 0 ∨ co = 1) (hi0 : 0 ≤ i) (hi1 : i < 2147483648) (a own V X : Int) (ha0 : 0 ≤ a) (ha1 : a < gN σ 155 3) (hown : own = tmF σ stop m co a) (hx : 0 ≤ X → X ≤ 60 → RunA mX9_board (qQ σ V) 127 [(7, ai X), (5, ai a), (0, ar 153), (1, ai stop), (2, ai m), (3, ai co), (4, ai i)] [] u) : ∀ (n : Nat) (b : Int) (ahead : Int), 0 ≤ b → b ≤ 60 → n = (gN σ 155 3 - b).toNat → 0 ≤ ahead → ahead ≤ b → X = itr (bdB σ stop m co a) n b ahead → RunA mX9_board (qQ σ V) 70 [(8, ai b), (7, ai ahead), (6, ai own), (5, ai a), (0, ar 153), (1, ai stop), (2, ai m), (3, ai co), (4, ai i)] [] u := by
  have hWu := Q_W hFu hW
  have hS := hW.2.1
  have hR := hW.1
  have ro := tm_rng hW (stop := stop) (m := m) (co := co) (a := a) ha0 (by omega)
  intro n
  induction n with
  | zero =>
    intro b ahead h0 h5 hn hh0 hh1 hE
    refine a_iload dX9_board_70 rfl ?_
    refine a_aload_n dX9_board_72 rfl rfl ?_
    refine a_cI (c := 153) (as := []) (rest := [ai b]) (t_rides u  ) mvX9_rides lX9_198 k153 (by decide) rfl rfl rfl rfl (Nat.le_of_ble_eq_true rfl) (Nat.le_of_ble_eq_true rfl) (Nat.le_of_ble_eq_true rfl) dX9_board_73 ?_
    refine a_topI (y := gN σ 155 3) (Q155 hFu _) ?_
    refine a_icmp_ge (tgt := 127) dX9_board_76 (by decide) (inR_of (by omega) (by omega)) (inR_gN _ _ _) (fun c76 => ?_) (fun c76 => ?_)
    · have e : X = ahead := by rw [hE]; rfl
      exact a_keep (by simp [e]) (hx (by omega) (by omega))
    · exfalso; omega
  | succ n ih =>
    intro b ahead h0 h5 hn hh0 hh1 hE
    refine a_iload dX9_board_70 rfl ?_
    refine a_aload_n dX9_board_72 rfl rfl ?_
    refine a_cI (c := 153) (as := []) (rest := [ai b]) (t_rides u  ) mvX9_rides lX9_198 k153 (by decide) rfl rfl rfl rfl (Nat.le_of_ble_eq_true rfl) (Nat.le_of_ble_eq_true rfl) (Nat.le_of_ble_eq_true rfl) dX9_board_73 ?_
    refine a_topI (y := gN σ 155 3) (Q155 hFu _) ?_
    refine a_icmp_ge (tgt := 127) dX9_board_76 (by decide) (inR_of (by omega) (by omega)) (inR_gN _ _ _) (fun c76 => ?_) (fun c76 => ?_)
    · exfalso; omega
    · refine a_aload_n dX9_board_79 rfl rfl ?_
      refine a_iload dX9_board_80 rfl ?_
      refine a_iload_n dX9_board_82 rfl rfl ?_
      refine a_iload_n dX9_board_83 rfl rfl ?_
      refine a_iload_n dX9_board_84 rfl rfl ?_
      refine a_cI (c := 153) (as := [ai b, ai stop, ai m, ai co]) (rest := []) (t_timeAt σ u hW hFu hTu hRu b stop m co (by omega) (by omega) hst hm hco) mvX9_timeAt lX9_352 k153 (by decide) rfl rfl rfl rfl (Nat.le_of_ble_eq_true rfl) (Nat.le_of_ble_eq_true rfl) (Nat.le_of_ble_eq_true rfl) dX9_board_85 ?_
      have rT85 := tm_rng hW (stop := stop) (m := m) (co := co) (a := b) (by omega) (by omega)
      refine a_istore (ls' := [(9, ai (tmF σ stop m co b)), (8, ai b), (7, ai ahead), (6, ai own), (5, ai a), (0, ar 153), (1, ai stop), (2, ai m), (3, ai co), (4, ai i)]) dX9_board_88 (Nat.le_of_ble_eq_true rfl) rfl ?_
      refine a_iload dX9_board_90 rfl ?_
      refine a_iload dX9_board_92 rfl ?_
      refine a_iload dX9_board_94 rfl ?_
      refine a_icmp_lt (tgt := 113) dX9_board_96 (by decide) (inR_of (by omega) (by omega)) (inR_of (by omega) (by omega)) (fun c96 => ?_) (fun c96 => ?_)
      · refine a_iconst dX9_board_113 ?_
        refine a_goto (tgt := 118) dX9_board_114 (by decide) ?_
        refine a_iadd dX9_board_118 ?_
        refine a_istore (ls' := [(7, ai (ahead + 1)), (9, ai (tmF σ stop m co b)), (8, ai b), (6, ai own), (5, ai a), (0, ar 153), (1, ai stop), (2, ai m), (3, ai co), (4, ai i)]) dX9_board_119 (Nat.le_of_ble_eq_true rfl) rfl ?_
        refine a_iinc (y := b + 1) (ls' := [(8, ai (b + 1)), (7, ai (ahead + 1)), (9, ai (tmF σ stop m co b)), (6, ai own), (5, ai a), (0, ar 153), (1, ai stop), (2, ai m), (3, ai co), (4, ai i)]) dX9_board_121 rfl rfl (Nat.le_of_ble_eq_true rfl) rfl ?_
        refine a_goto (tgt := 70) dX9_board_124 (by decide) ?_
        have e : bdB σ stop m co a b ahead = ahead + 1 := by unfold bdB; grind
        exact a_keep (by simp) (ih (b + 1) (ahead + 1) (by omega) (by omega) (by omega) (by omega) (by omega) (by rw [hE, itr_s, e]))
      · refine a_iload dX9_board_99 rfl ?_
        refine a_iload dX9_board_101 rfl ?_
        refine a_icmp_ne (tgt := 117) dX9_board_103 (by decide) (inR_of (by omega) (by omega)) (inR_of (by omega) (by omega)) (fun c103 => ?_) (fun c103 => ?_)
        · refine a_iconst dX9_board_117 ?_
          refine a_iadd dX9_board_118 ?_
          refine a_istore (ls' := [(7, ai (ahead + 0)), (9, ai (tmF σ stop m co b)), (8, ai b), (6, ai own), (5, ai a), (0, ar 153), (1, ai stop), (2, ai m), (3, ai co), (4, ai i)]) dX9_board_119 (Nat.le_of_ble_eq_true rfl) rfl ?_
          refine a_iinc (y := b + 1) (ls' := [(8, ai (b + 1)), (7, ai (ahead + 0)), (9, ai (tmF σ stop m co b)), (6, ai own), (5, ai a), (0, ar 153), (1, ai stop), (2, ai m), (3, ai co), (4, ai i)]) dX9_board_121 rfl rfl (Nat.le_of_ble_eq_true rfl) rfl ?_
          refine a_goto (tgt := 70) dX9_board_124 (by decide) ?_
          have e : bdB σ stop m co a b ahead = ahead + 0 := by unfold bdB; grind
          exact a_keep (by simp) (ih (b + 1) (ahead + 0) (by omega) (by omega) (by omega) (by omega) (by omega) (by rw [hE, itr_s, e]))
        · refine a_iload dX9_board_106 rfl ?_
          refine a_iload dX9_board_108 rfl ?_
          refine a_icmp_ge (tgt := 117) dX9_board_110 (by decide) (inR_of (by omega) (by omega)) (inR_of (by omega) (by omega)) (fun c110 => ?_) (fun c110 => ?_)
          · refine a_iconst dX9_board_117 ?_
            refine a_iadd dX9_board_118 ?_
            refine a_istore (ls' := [(7, ai (ahead + 0)), (9, ai (tmF σ stop m co b)), (8, ai b), (6, ai own), (5, ai a), (0, ar 153), (1, ai stop), (2, ai m), (3, ai co), (4, ai i)]) dX9_board_119 (Nat.le_of_ble_eq_true rfl) rfl ?_
            refine a_iinc (y := b + 1) (ls' := [(8, ai (b + 1)), (7, ai (ahead + 0)), (9, ai (tmF σ stop m co b)), (6, ai own), (5, ai a), (0, ar 153), (1, ai stop), (2, ai m), (3, ai co), (4, ai i)]) dX9_board_121 rfl rfl (Nat.le_of_ble_eq_true rfl) rfl ?_
            refine a_goto (tgt := 70) dX9_board_124 (by decide) ?_
            have e : bdB σ stop m co a b ahead = ahead + 0 := by unfold bdB; grind
            exact a_keep (by simp) (ih (b + 1) (ahead + 0) (by omega) (by omega) (by omega) (by omega) (by omega) (by rw [hE, itr_s, e]))
          · refine a_iconst dX9_board_113 ?_
            refine a_goto (tgt := 118) dX9_board_114 (by decide) ?_
            refine a_iadd dX9_board_118 ?_
            refine a_istore (ls' := [(7, ai (ahead + 1)), (9, ai (tmF σ stop m co b)), (8, ai b), (6, ai own), (5, ai a), (0, ar 153), (1, ai stop), (2, ai m), (3, ai co), (4, ai i)]) dX9_board_119 (Nat.le_of_ble_eq_true rfl) rfl ?_
            refine a_iinc (y := b + 1) (ls' := [(8, ai (b + 1)), (7, ai (ahead + 1)), (9, ai (tmF σ stop m co b)), (6, ai own), (5, ai a), (0, ar 153), (1, ai stop), (2, ai m), (3, ai co), (4, ai i)]) dX9_board_121 rfl rfl (Nat.le_of_ble_eq_true rfl) rfl ?_
            refine a_goto (tgt := 70) dX9_board_124 (by decide) ?_
            have e : bdB σ stop m co a b ahead = ahead + 1 := by unfold bdB; grind
            exact a_keep (by simp) (ih (b + 1) (ahead + 1) (by omega) (by omega) (by omega) (by omega) (by omega) (by rw [hE, itr_s, e]))

set_option maxRecDepth 20000 in
theorem t_board_a (σ u : Sto) (hW : WOK σ) (hFu : Fr pQ σ u) (hTu : TOK u) (hRu : Rq (lkN σ) u) (stop m co i : Int) (hst : inR stop) (hm : mnt m) (hco : co = 0 ∨ co = 1) (hi0 : 0 ≤ i) (hi1 : i < 2147483648) (V : Int) : ∀ (n : Nat) (a : Int), 0 ≤ a → a ≤ 60 → n = (gN σ 155 3 - a).toNat → V = fs2 (fun a => decide (tmF σ stop m co a < 1000000 ∧ bdA σ stop m co a = i)) (-2) n a → RunA mX9_board (qQ σ V) 34 [(5, ai a), (0, ar 153), (1, ai stop), (2, ai m), (3, ai co), (4, ai i)] [] u := by
  have hWu := Q_W hFu hW
  have hS := hW.2.1
  have hR := hW.1
  intro n
  induction n with
  | zero =>
    intro a h0 h5 hn hE
    refine a_iload dX9_board_34 rfl ?_
    refine a_aload_n dX9_board_36 rfl rfl ?_
    refine a_cI (c := 153) (as := []) (rest := [ai a]) (t_rides u  ) mvX9_rides lX9_198 k153 (by decide) rfl rfl rfl rfl (Nat.le_of_ble_eq_true rfl) (Nat.le_of_ble_eq_true rfl) (Nat.le_of_ble_eq_true rfl) dX9_board_37 ?_
    refine a_topI (y := gN σ 155 3) (Q155 hFu _) ?_
    refine a_icmp_ge (tgt := 143) dX9_board_40 (by decide) (inR_of (by omega) (by omega)) (inR_gN _ _ _) (fun c40 => ?_) (fun c40 => ?_)
    · refine a_bipush (x := (-2)) dX9_board_143 (by decide) ?_
      exact a_iret rfl ⟨by rw [hE]; rfl, hFu, hTu⟩ dX9_board_145
    · exfalso; omega
  | succ n ih =>
    intro a h0 h5 hn hE
    refine a_iload dX9_board_34 rfl ?_
    refine a_aload_n dX9_board_36 rfl rfl ?_
    refine a_cI (c := 153) (as := []) (rest := [ai a]) (t_rides u  ) mvX9_rides lX9_198 k153 (by decide) rfl rfl rfl rfl (Nat.le_of_ble_eq_true rfl) (Nat.le_of_ble_eq_true rfl) (Nat.le_of_ble_eq_true rfl) dX9_board_37 ?_
    refine a_topI (y := gN σ 155 3) (Q155 hFu _) ?_
    refine a_icmp_ge (tgt := 143) dX9_board_40 (by decide) (inR_of (by omega) (by omega)) (inR_gN _ _ _) (fun c40 => ?_) (fun c40 => ?_)
    · exfalso; omega
    · refine a_aload_n dX9_board_43 rfl rfl ?_
      refine a_iload dX9_board_44 rfl ?_
      refine a_iload_n dX9_board_46 rfl rfl ?_
      refine a_iload_n dX9_board_47 rfl rfl ?_
      refine a_iload_n dX9_board_48 rfl rfl ?_
      refine a_cI (c := 153) (as := [ai a, ai stop, ai m, ai co]) (rest := []) (t_timeAt σ u hW hFu hTu hRu a stop m co (by omega) (by omega) hst hm hco) mvX9_timeAt lX9_352 k153 (by decide) rfl rfl rfl rfl (Nat.le_of_ble_eq_true rfl) (Nat.le_of_ble_eq_true rfl) (Nat.le_of_ble_eq_true rfl) dX9_board_49 ?_
      have rT49 := tm_rng hW (stop := stop) (m := m) (co := co) (a := a) (by omega) (by omega)
      refine a_istore (ls' := [(6, ai (tmF σ stop m co a)), (5, ai a), (0, ar 153), (1, ai stop), (2, ai m), (3, ai co), (4, ai i)]) dX9_board_52 (Nat.le_of_ble_eq_true rfl) rfl ?_
      refine a_iload dX9_board_54 rfl ?_
      refine a_ldc (x := 1000000) cX9_175 (by decide) dX9_board_56 ?_
      refine a_icmp_lt (tgt := 64) dX9_board_58 (by decide) (inR_of (by omega) (by omega)) (inR_of (by omega) (by omega)) (fun c58 => ?_) (fun c58 => ?_)
      · refine a_iconst dX9_board_64 ?_
        refine a_istore (ls' := [(7, ai 0), (6, ai (tmF σ stop m co a)), (5, ai a), (0, ar 153), (1, ai stop), (2, ai m), (3, ai co), (4, ai i)]) dX9_board_65 (Nat.le_of_ble_eq_true rfl) rfl ?_
        refine a_iconst dX9_board_67 ?_
        refine a_istore (ls' := [(8, ai 0), (7, ai 0), (6, ai (tmF σ stop m co a)), (5, ai a), (0, ar 153), (1, ai stop), (2, ai m), (3, ai co), (4, ai i)]) dX9_board_68 (Nat.le_of_ble_eq_true rfl) rfl ?_
        refine a_keep (ls' := [(8, ai 0), (7, ai 0), (6, ai (tmF σ stop m co a)), (5, ai a), (0, ar 153), (1, ai stop), (2, ai m), (3, ai co), (4, ai i)]) (by simp) ?_
        refine t_board_b σ u hW hFu hTu hRu stop m co i hst hm hco hi0 hi1 a (tmF σ stop m co a) V (bdA σ stop m co a) (by omega) (by omega) rfl (fun hX0 hX1 => ?_) (gN σ 155 3).toNat 0 0 (by omega) (by omega) (by omega) (by omega) (by omega) rfl
        refine a_iload dX9_board_127 rfl ?_
        refine a_iload dX9_board_129 rfl ?_
        refine a_icmp_ne (tgt := 137) dX9_board_131 (by decide) (inR_of (by omega) (by omega)) (inR_of (by omega) (by omega)) (fun c131 => ?_) (fun c131 => ?_)
        · refine a_iinc (y := a + 1) (ls' := [(5, ai (a + 1)), (7, ai (bdA σ stop m co a)), (0, ar 153), (1, ai stop), (2, ai m), (3, ai co), (4, ai i)]) dX9_board_137 rfl rfl (Nat.le_of_ble_eq_true rfl) rfl ?_
          refine a_goto (tgt := 34) dX9_board_140 (by decide) ?_
          have hp : (fun a => decide (tmF σ stop m co a < 1000000 ∧ bdA σ stop m co a = i)) a = false := by grind
          exact a_keep (by simp) (ih (a + 1) (by omega) (by omega) (by omega) (by rw [hE, fs2_no hp]))
        · refine a_iload dX9_board_134 rfl ?_
          exact a_iret rfl ⟨by rw [hE, fs2_yes (show (fun a => decide (tmF σ stop m co a < 1000000 ∧ bdA σ stop m co a = i)) a = true by grind)], hFu, hTu⟩ dX9_board_136
      · refine a_goto (tgt := 137) dX9_board_61 (by decide) ?_
        refine a_iinc (y := a + 1) (ls' := [(5, ai (a + 1)), (6, ai (tmF σ stop m co a)), (0, ar 153), (1, ai stop), (2, ai m), (3, ai co), (4, ai i)]) dX9_board_137 rfl rfl (Nat.le_of_ble_eq_true rfl) rfl ?_
        refine a_goto (tgt := 34) dX9_board_140 (by decide) ?_
        have hp : (fun a => decide (tmF σ stop m co a < 1000000 ∧ bdA σ stop m co a = i)) a = false := by grind
        exact a_keep (by simp) (ih (a + 1) (by omega) (by omega) (by omega) (by rw [hE, fs2_no hp]))

set_option maxRecDepth 20000 in
theorem t_board (σ : Sto) (stop m co i : Int) (hstop : inR stop) (hm : inR m) (hco : co = 0 ∨ co = 1) (hi : inR i) (hW : WOK σ) (hT : TOK σ) : MetA mX9_board [ar 153, ai stop, ai m, ai co, ai i] σ (qQ σ (boardF σ stop m co i)) := by
  have hS := hW.2.1
  refine a_entry (by decide) (Nat.le_of_ble_eq_true rfl) ?_
  refine a_aload_n dX9_board_0 rfl rfl ?_
  refine a_iconst dX9_board_1 ?_
  refine a_putI (J := 0) fX9_85 k153 rfl rfl rfl dX9_board_2 ?_
  refine a_aload_n dX9_board_5 rfl rfl ?_
  refine a_iload_n dX9_board_6 rfl rfl ?_
  refine a_cI (c := 153) (as := [ai stop]) (rest := []) (t_isStop (sN σ 153 0 0) stop hstop) mvX9_isStop lX9_213 k153 (by decide) rfl rfl rfl rfl (Nat.le_of_ble_eq_true rfl) (Nat.le_of_ble_eq_true rfl) (Nat.le_of_ble_eq_true rfl) dX9_board_7 ?_
  refine a_topI (y := if stp σ stop then 1 else 0) (by simp only [th155]) ?_
  refine a_ifb_eq (tgt := 25) dX9_board_10 (by decide) (fun c10 => ?_) (fun c10 => ?_)
  · refine a_iconst dX9_board_25 ?_
    exact a_iret rfl ⟨by unfold boardF; grind, th_F σ, th_T hT⟩ dX9_board_26
  · refine a_iload_n dX9_board_13 rfl rfl ?_
    refine a_sI (as := [ai m]) (rest := []) (t_isMinute (sN σ 153 0 0) m hm) mvX9_isMinute lX9_320 rfl rfl rfl (Nat.le_of_ble_eq_true rfl) (Nat.le_of_ble_eq_true rfl) (Nat.le_of_ble_eq_true rfl) dX9_board_14 ?_
    refine a_ifb_eq (tgt := 25) dX9_board_17 (by decide) (fun c17 => ?_) (fun c17 => ?_)
    · refine a_iconst dX9_board_25 ?_
      exact a_iret rfl ⟨by unfold boardF; grind, th_F σ, th_T hT⟩ dX9_board_26
    · refine a_iload dX9_board_20 rfl ?_
      refine a_if_ge (tgt := 27) dX9_board_22 (by decide) hi (fun c22 => ?_) (fun c22 => ?_)
      · refine a_aload_n dX9_board_27 rfl rfl ?_
        refine a_callV (c := 153) (as := []) (rest := []) (t_looksNow (sN σ 153 0 0) (Q_W (th_F σ) hW) (th_T hT)) mvX9_looksNow lX9_290 k153 (by decide) rfl rfl rfl rfl (Nat.le_of_ble_eq_true rfl) (Nat.le_of_ble_eq_true rfl) (Nat.le_of_ble_eq_true rfl) dX9_board_28 (fun u hu => ?_)
        obtain ⟨hFu, hTu, hRu⟩ := lk_fin hW (th_F σ) (by omega) (by omega) hu.2
        have hWu := Q_W hFu hW
        refine a_iconst dX9_board_31 ?_
        refine a_istore (ls' := [(5, ai 0), (0, ar 153), (1, ai stop), (2, ai m), (3, ai co), (4, ai i)]) dX9_board_32 (Nat.le_of_ble_eq_true rfl) rfl ?_
        exact a_keep (by simp) (t_board_a σ u hW hFu hTu hRu stop m co i hstop (by assumption) hco (by omega) hi.2 _ (gN σ 155 3).toNat 0 (by omega) (by omega) (by omega) (by unfold boardF; rw [if_neg (by grind)]))
      · refine a_iconst dX9_board_25 ?_
        exact a_iret rfl ⟨by unfold boardF; grind, th_F σ, th_T hT⟩ dX9_board_26

