set_option maxRecDepth 20000 in
theorem t_comesTo (σ : Sto) (s t m : Int) (hW : WOK σ) (hT : TOK σ) (hs0 : 0 ≤ s) (hs1 : s < 10) (ht0 : 0 ≤ t) (ht1 : t < 10) (hm0 : -1000 ≤ m) (hm1 : m ≤ 1000000) : MetI mX9_comesTo [ar 153, ai s, ai t, ai m] σ (comesF σ s t m) σ := by
  refine a_entry (by decide) (Nat.le_of_ble_eq_true rfl) ?_
  refine a_iload_n dX9_comesTo_0 rfl rfl ?_
  refine a_iload_n dX9_comesTo_1 rfl rfl ?_
  refine a_icmp_ne (tgt := 9) dX9_comesTo_2 (by decide) (inR_of (by omega) (by omega)) (inR_of (by omega) (by omega)) (fun c2 => ?_) (fun c2 => ?_)
  · refine a_aload_n dX9_comesTo_9 rfl rfl ?_
    refine a_iload_n dX9_comesTo_10 rfl rfl ?_
    refine a_iload_n dX9_comesTo_11 rfl rfl ?_
    refine a_iload_n dX9_comesTo_12 rfl rfl ?_
    refine a_iconst dX9_comesTo_13 ?_
    refine a_cI (c := 153) (as := [ai s, ai t, ai m, ai 4]) (rest := []) (t_earliestOf σ hW hT s t m 4 (by omega) (by omega) (by omega) (by omega) (by omega) (by omega) (by omega) (by omega)) mvX9_earliestOf lX9_316 k153 (by decide) rfl rfl rfl rfl (Nat.le_of_ble_eq_true rfl) (Nat.le_of_ble_eq_true rfl) (Nat.le_of_ble_eq_true rfl) dX9_comesTo_14 ?_
    exact a_iret rfl ⟨by unfold comesF; grind, rfl⟩ dX9_comesTo_17
  · refine a_iload_n dX9_comesTo_5 rfl rfl ?_
    refine a_goto (tgt := 17) dX9_comesTo_6 (by decide) ?_
    exact a_iret rfl ⟨by unfold comesF; grind, rfl⟩ dX9_comesTo_17

theorem Rq.comes {σ τ : Sto} (h : Rq σ τ) (s t m : Int) : comesF τ s t m = comesF σ s t m := by unfold comesF; rw [h.earliest]
theorem comes_rng {σ : Sto} (hW : WOK σ) {s t m : Int} (hs0 : 0 ≤ s) (hs1 : s < 10) (h0 : 0 ≤ t) (h1 : t < 10) (hm0 : -1000 ≤ m) (hm1 : m ≤ 1000000) : -1000 ≤ comesF (lkN σ) s t m ∧ comesF (lkN σ) s t m ≤ 2000000 := by
  have := EA_rng hW (k := 4) hs0 hs1 h0 h1 hm0 hm1
  unfold comesF
  split <;> omega

set_option maxRecDepth 20000 in
theorem t_earliest (σ : Sto) (s t m k : Int) (hs : inR s) (ht : inR t) (hm : inR m) (hk : inR k) (hW : WOK σ) (hT : TOK σ) : MetA mX9_earliest [ar 153, ai s, ai t, ai m, ai k] σ (qQ σ (earliestQ σ s t m k)) := by
  have hS := hW.2.1
  have hR := hW.1
  have hTr := hW.2.2.1
  refine a_entry (by decide) (Nat.le_of_ble_eq_true rfl) ?_
  refine a_aload_n dX9_earliest_0 rfl rfl ?_
  refine a_iconst dX9_earliest_1 ?_
  refine a_putI (J := 0) fX9_85 k153 rfl rfl rfl dX9_earliest_2 ?_
  refine a_aload_n dX9_earliest_5 rfl rfl ?_
  refine a_iload_n dX9_earliest_6 rfl rfl ?_
  refine a_cI (c := 153) (as := [ai s]) (rest := []) (t_isStop (sN σ 153 0 0) s hs) mvX9_isStop lX9_213 k153 (by decide) rfl rfl rfl rfl (Nat.le_of_ble_eq_true rfl) (Nat.le_of_ble_eq_true rfl) (Nat.le_of_ble_eq_true rfl) dX9_earliest_7 ?_
  refine a_topI (y := if stp σ s then 1 else 0) (by simp only [th155]) ?_
  refine a_ifb_eq (tgt := 39) dX9_earliest_10 (by decide) (fun c10 => ?_) (fun c10 => ?_)
  · refine a_iconst dX9_earliest_39 ?_
    exact a_iret rfl ⟨by unfold earliestQ; grind, th_F σ, th_T hT⟩ dX9_earliest_40
  · refine a_aload_n dX9_earliest_13 rfl rfl ?_
    refine a_iload_n dX9_earliest_14 rfl rfl ?_
    refine a_cI (c := 153) (as := [ai t]) (rest := []) (t_isStop (sN σ 153 0 0) t ht) mvX9_isStop lX9_213 k153 (by decide) rfl rfl rfl rfl (Nat.le_of_ble_eq_true rfl) (Nat.le_of_ble_eq_true rfl) (Nat.le_of_ble_eq_true rfl) dX9_earliest_15 ?_
    refine a_topI (y := if stp σ t then 1 else 0) (by simp only [th155]) ?_
    refine a_ifb_eq (tgt := 39) dX9_earliest_18 (by decide) (fun c18 => ?_) (fun c18 => ?_)
    · refine a_iconst dX9_earliest_39 ?_
      exact a_iret rfl ⟨by unfold earliestQ; grind, th_F σ, th_T hT⟩ dX9_earliest_40
    · refine a_iload_n dX9_earliest_21 rfl rfl ?_
      refine a_sI (as := [ai m]) (rest := []) (t_isMinute (sN σ 153 0 0) m hm) mvX9_isMinute lX9_320 rfl rfl rfl (Nat.le_of_ble_eq_true rfl) (Nat.le_of_ble_eq_true rfl) (Nat.le_of_ble_eq_true rfl) dX9_earliest_22 ?_
      refine a_ifb_eq (tgt := 39) dX9_earliest_25 (by decide) (fun c25 => ?_) (fun c25 => ?_)
      · refine a_iconst dX9_earliest_39 ?_
        exact a_iret rfl ⟨by unfold earliestQ; grind, th_F σ, th_T hT⟩ dX9_earliest_40
      · refine a_iload dX9_earliest_28 rfl ?_
        refine a_if_lt (tgt := 39) dX9_earliest_30 (by decide) hk (fun c30 => ?_) (fun c30 => ?_)
        · refine a_iconst dX9_earliest_39 ?_
          exact a_iret rfl ⟨by unfold earliestQ; grind, th_F σ, th_T hT⟩ dX9_earliest_40
        · refine a_iload dX9_earliest_33 rfl ?_
          refine a_iconst dX9_earliest_35 ?_
          refine a_icmp_le (tgt := 41) dX9_earliest_36 (by decide) hk (inR_of (by omega) (by omega)) (fun c36 => ?_) (fun c36 => ?_)
          · refine a_aload_n dX9_earliest_41 rfl rfl ?_
            refine a_callV (c := 153) (as := []) (rest := []) (t_looksNow (sN σ 153 0 0) (Q_W (th_F σ) hW) (th_T hT)) mvX9_looksNow lX9_290 k153 (by decide) rfl rfl rfl rfl (Nat.le_of_ble_eq_true rfl) (Nat.le_of_ble_eq_true rfl) (Nat.le_of_ble_eq_true rfl) dX9_earliest_42 (fun u hu => ?_)
            obtain ⟨hFu, hTu, hRu⟩ := lk_fin hW (th_F σ) (by omega) (by omega) hu.2
            have hWu := Q_W hFu hW
            refine a_iload_n dX9_earliest_45 rfl rfl ?_
            refine a_iload_n dX9_earliest_46 rfl rfl ?_
            refine a_icmp_ne (tgt := 54) dX9_earliest_47 (by decide) hs ht (fun c47 => ?_) (fun c47 => ?_)
            · refine a_aload_n dX9_earliest_54 rfl rfl ?_
              refine a_iload_n dX9_earliest_55 rfl rfl ?_
              refine a_iload_n dX9_earliest_56 rfl rfl ?_
              refine a_iload_n dX9_earliest_57 rfl rfl ?_
              refine a_iload dX9_earliest_58 rfl ?_
              refine a_cI (c := 153) (as := [ai s, ai t, ai m, ai k]) (rest := []) (t_earliestOf u hWu hTu s t m k (by omega) (by omega) (by omega) (by omega) (by omega) (by omega) (by omega) (by omega)) mvX9_earliestOf lX9_316 k153 (by decide) rfl rfl rfl rfl (Nat.le_of_ble_eq_true rfl) (Nat.le_of_ble_eq_true rfl) (Nat.le_of_ble_eq_true rfl) dX9_earliest_60 ?_
              refine a_topI (y := EA σ s t m k) (hRu.earliest _ _ _ _) ?_
              have rE60 := EA_rng hW (s := s) (t := t) (m := m) (k := k) (by omega) (by omega) (by omega) (by omega) (by omega) (by omega)
              refine a_sI (as := [ai (EA σ s t m k)]) (rest := []) (t_orNot u (EA σ s t m k) (inR_of (by omega) (by omega))) mvX9_orNot lX9_326 rfl rfl rfl (Nat.le_of_ble_eq_true rfl) (Nat.le_of_ble_eq_true rfl) (Nat.le_of_ble_eq_true rfl) dX9_earliest_63 ?_
              exact a_iret rfl ⟨by unfold earliestQ; grind, hFu, hTu⟩ dX9_earliest_66
            · refine a_iload_n dX9_earliest_50 rfl rfl ?_
              refine a_goto (tgt := 66) dX9_earliest_51 (by decide) ?_
              exact a_iret rfl ⟨by unfold earliestQ; grind, hFu, hTu⟩ dX9_earliest_66
          · refine a_iconst dX9_earliest_39 ?_
            exact a_iret rfl ⟨by unfold earliestQ; grind, th_F σ, th_T hT⟩ dX9_earliest_40

set_option maxRecDepth 20000 in
theorem t_via (σ : Sto) (s v t m : Int) (hs : inR s) (hv : inR v) (ht : inR t) (hm : inR m) (hW : WOK σ) (hT : TOK σ) : MetA mX9_via [ar 153, ai s, ai v, ai t, ai m] σ (qQ σ (viaF σ s v t m)) := by
  have hS := hW.2.1
  have hR := hW.1
  have hTr := hW.2.2.1
  refine a_entry (by decide) (Nat.le_of_ble_eq_true rfl) ?_
  refine a_aload_n dX9_via_0 rfl rfl ?_
  refine a_iconst dX9_via_1 ?_
  refine a_putI (J := 0) fX9_85 k153 rfl rfl rfl dX9_via_2 ?_
  refine a_aload_n dX9_via_5 rfl rfl ?_
  refine a_iload_n dX9_via_6 rfl rfl ?_
  refine a_cI (c := 153) (as := [ai s]) (rest := []) (t_isStop (sN σ 153 0 0) s hs) mvX9_isStop lX9_213 k153 (by decide) rfl rfl rfl rfl (Nat.le_of_ble_eq_true rfl) (Nat.le_of_ble_eq_true rfl) (Nat.le_of_ble_eq_true rfl) dX9_via_7 ?_
  refine a_topI (y := if stp σ s then 1 else 0) (by simp only [th155]) ?_
  refine a_ifb_eq (tgt := 37) dX9_via_10 (by decide) (fun c10 => ?_) (fun c10 => ?_)
  · refine a_iconst dX9_via_37 ?_
    exact a_iret rfl ⟨by unfold viaF; grind, th_F σ, th_T hT⟩ dX9_via_38
  · refine a_aload_n dX9_via_13 rfl rfl ?_
    refine a_iload_n dX9_via_14 rfl rfl ?_
    refine a_cI (c := 153) (as := [ai v]) (rest := []) (t_isStop (sN σ 153 0 0) v hv) mvX9_isStop lX9_213 k153 (by decide) rfl rfl rfl rfl (Nat.le_of_ble_eq_true rfl) (Nat.le_of_ble_eq_true rfl) (Nat.le_of_ble_eq_true rfl) dX9_via_15 ?_
    refine a_topI (y := if stp σ v then 1 else 0) (by simp only [th155]) ?_
    refine a_ifb_eq (tgt := 37) dX9_via_18 (by decide) (fun c18 => ?_) (fun c18 => ?_)
    · refine a_iconst dX9_via_37 ?_
      exact a_iret rfl ⟨by unfold viaF; grind, th_F σ, th_T hT⟩ dX9_via_38
    · refine a_aload_n dX9_via_21 rfl rfl ?_
      refine a_iload_n dX9_via_22 rfl rfl ?_
      refine a_cI (c := 153) (as := [ai t]) (rest := []) (t_isStop (sN σ 153 0 0) t ht) mvX9_isStop lX9_213 k153 (by decide) rfl rfl rfl rfl (Nat.le_of_ble_eq_true rfl) (Nat.le_of_ble_eq_true rfl) (Nat.le_of_ble_eq_true rfl) dX9_via_23 ?_
      refine a_topI (y := if stp σ t then 1 else 0) (by simp only [th155]) ?_
      refine a_ifb_eq (tgt := 37) dX9_via_26 (by decide) (fun c26 => ?_) (fun c26 => ?_)
      · refine a_iconst dX9_via_37 ?_
        exact a_iret rfl ⟨by unfold viaF; grind, th_F σ, th_T hT⟩ dX9_via_38
      · refine a_iload dX9_via_29 rfl ?_
        refine a_sI (as := [ai m]) (rest := []) (t_isMinute (sN σ 153 0 0) m hm) mvX9_isMinute lX9_320 rfl rfl rfl (Nat.le_of_ble_eq_true rfl) (Nat.le_of_ble_eq_true rfl) (Nat.le_of_ble_eq_true rfl) dX9_via_31 ?_
        refine a_ifb_ne (tgt := 39) dX9_via_34 (by decide) (fun c34 => ?_) (fun c34 => ?_)
        · refine a_aload_n dX9_via_39 rfl rfl ?_
          refine a_callV (c := 153) (as := []) (rest := []) (t_looksNow (sN σ 153 0 0) (Q_W (th_F σ) hW) (th_T hT)) mvX9_looksNow lX9_290 k153 (by decide) rfl rfl rfl rfl (Nat.le_of_ble_eq_true rfl) (Nat.le_of_ble_eq_true rfl) (Nat.le_of_ble_eq_true rfl) dX9_via_40 (fun u hu => ?_)
          obtain ⟨hFu, hTu, hRu⟩ := lk_fin hW (th_F σ) (by omega) (by omega) hu.2
          have hWu := Q_W hFu hW
          refine a_aload_n dX9_via_43 rfl rfl ?_
          refine a_iload_n dX9_via_44 rfl rfl ?_
          refine a_iload_n dX9_via_45 rfl rfl ?_
          refine a_iload dX9_via_46 rfl ?_
          refine a_cI (c := 153) (as := [ai s, ai v, ai m]) (rest := []) (t_comesTo u s v m hWu hTu (by omega) (by omega) (by omega) (by omega) (by omega) (by omega)) mvX9_comesTo lX9_323 k153 (by decide) rfl rfl rfl rfl (Nat.le_of_ble_eq_true rfl) (Nat.le_of_ble_eq_true rfl) (Nat.le_of_ble_eq_true rfl) dX9_via_48 ?_
          refine a_topI (y := comesF (lkN σ) s v m) (hRu.comes _ _ _) ?_
          have rC48 := comes_rng hW (s := s) (t := v) (m := m) (by omega) (by omega) (by omega) (by omega) (by omega) (by omega)
          refine a_istore (ls' := [(5, ai (comesF (lkN σ) s v m)), (0, ar 153), (1, ai s), (2, ai v), (3, ai t), (4, ai m)]) dX9_via_51 (Nat.le_of_ble_eq_true rfl) rfl ?_
          refine a_iload dX9_via_53 rfl ?_
          refine a_ldc (x := 1000000) cX9_175 (by decide) dX9_via_55 ?_
          refine a_icmp_lt (tgt := 65) dX9_via_57 (by decide) (inR_of (by omega) (by omega)) (inR_of (by omega) (by omega)) (fun c57 => ?_) (fun c57 => ?_)
          · refine a_aload_n dX9_via_65 rfl rfl ?_
            refine a_iload_n dX9_via_66 rfl rfl ?_
            refine a_iload_n dX9_via_67 rfl rfl ?_
            refine a_iload dX9_via_68 rfl ?_
            refine a_cI (c := 153) (as := [ai v, ai t, ai (comesF (lkN σ) s v m)]) (rest := []) (t_comesTo u v t (comesF (lkN σ) s v m) hWu hTu (by omega) (by omega) (by omega) (by omega) (by omega) (by omega)) mvX9_comesTo lX9_323 k153 (by decide) rfl rfl rfl rfl (Nat.le_of_ble_eq_true rfl) (Nat.le_of_ble_eq_true rfl) (Nat.le_of_ble_eq_true rfl) dX9_via_70 ?_
            refine a_topI (y := comesF (lkN σ) v t (comesF (lkN σ) s v m)) (hRu.comes _ _ _) ?_
            have rC70 := comes_rng hW (s := v) (t := t) (m := (comesF (lkN σ) s v m)) (by omega) (by omega) (by omega) (by omega) (by omega) (by omega)
            refine a_sI (as := [ai (comesF (lkN σ) v t (comesF (lkN σ) s v m))]) (rest := []) (t_orNot u (comesF (lkN σ) v t (comesF (lkN σ) s v m)) (inR_of (by omega) (by omega))) mvX9_orNot lX9_326 rfl rfl rfl (Nat.le_of_ble_eq_true rfl) (Nat.le_of_ble_eq_true rfl) (Nat.le_of_ble_eq_true rfl) dX9_via_73 ?_
            exact a_iret rfl ⟨by unfold viaF; grind, hFu, hTu⟩ dX9_via_76
          · refine a_bipush (x := (-2)) dX9_via_60 (by decide) ?_
            refine a_goto (tgt := 76) dX9_via_62 (by decide) ?_
            exact a_iret rfl ⟨by unfold viaF; grind, hFu, hTu⟩ dX9_via_76
        · refine a_iconst dX9_via_37 ?_
          exact a_iret rfl ⟨by unfold viaF; grind, th_F σ, th_T hT⟩ dX9_via_38

set_option maxRecDepth 20000 in
theorem t_costOfFewer (σ : Sto) (s t m k : Int) (hs : inR s) (ht : inR t) (hm : inR m) (hk : inR k) (hW : WOK σ) (hT : TOK σ) : MetA mX9_costOfFewer [ar 153, ai s, ai t, ai m, ai k] σ (qQ σ (costF σ s t m k)) := by
  have hS := hW.2.1
  have hR := hW.1
  have hTr := hW.2.2.1
  refine a_entry (by decide) (Nat.le_of_ble_eq_true rfl) ?_
  refine a_aload_n dX9_costOfFewer_0 rfl rfl ?_
  refine a_iconst dX9_costOfFewer_1 ?_
  refine a_putI (J := 0) fX9_85 k153 rfl rfl rfl dX9_costOfFewer_2 ?_
  refine a_aload_n dX9_costOfFewer_5 rfl rfl ?_
  refine a_iload_n dX9_costOfFewer_6 rfl rfl ?_
  refine a_iload_n dX9_costOfFewer_7 rfl rfl ?_
  refine a_cI (c := 153) (as := [ai s, ai t]) (rest := []) (t_areTwo (sN σ 153 0 0) s t hs ht) mvX9_areTwo lX9_287 k153 (by decide) rfl rfl rfl rfl (Nat.le_of_ble_eq_true rfl) (Nat.le_of_ble_eq_true rfl) (Nat.le_of_ble_eq_true rfl) dX9_costOfFewer_8 ?_
  refine a_topI (y := if two σ s t then 1 else 0) (by simp only [th155]) ?_
  refine a_ifb_eq (tgt := 33) dX9_costOfFewer_11 (by decide) (fun c11 => ?_) (fun c11 => ?_)
  · refine a_sipush (x := (-1000)) dX9_costOfFewer_33 (by decide) ?_
    exact a_iret rfl ⟨by unfold costF; grind, th_F σ, th_T hT⟩ dX9_costOfFewer_36
  · refine a_iload_n dX9_costOfFewer_14 rfl rfl ?_
    refine a_sI (as := [ai m]) (rest := []) (t_isMinute (sN σ 153 0 0) m hm) mvX9_isMinute lX9_320 rfl rfl rfl (Nat.le_of_ble_eq_true rfl) (Nat.le_of_ble_eq_true rfl) (Nat.le_of_ble_eq_true rfl) dX9_costOfFewer_15 ?_
    refine a_ifb_eq (tgt := 33) dX9_costOfFewer_18 (by decide) (fun c18 => ?_) (fun c18 => ?_)
    · refine a_sipush (x := (-1000)) dX9_costOfFewer_33 (by decide) ?_
      exact a_iret rfl ⟨by unfold costF; grind, th_F σ, th_T hT⟩ dX9_costOfFewer_36
    · refine a_iload dX9_costOfFewer_21 rfl ?_
      refine a_iconst dX9_costOfFewer_23 ?_
      refine a_icmp_lt (tgt := 33) dX9_costOfFewer_24 (by decide) hk (inR_of (by omega) (by omega)) (fun c24 => ?_) (fun c24 => ?_)
      · refine a_sipush (x := (-1000)) dX9_costOfFewer_33 (by decide) ?_
        exact a_iret rfl ⟨by unfold costF; grind, th_F σ, th_T hT⟩ dX9_costOfFewer_36
      · refine a_iload dX9_costOfFewer_27 rfl ?_
        refine a_iconst dX9_costOfFewer_29 ?_
        refine a_icmp_le (tgt := 37) dX9_costOfFewer_30 (by decide) hk (inR_of (by omega) (by omega)) (fun c30 => ?_) (fun c30 => ?_)
        · refine a_aload_n dX9_costOfFewer_37 rfl rfl ?_
          refine a_callV (c := 153) (as := []) (rest := []) (t_looksNow (sN σ 153 0 0) (Q_W (th_F σ) hW) (th_T hT)) mvX9_looksNow lX9_290 k153 (by decide) rfl rfl rfl rfl (Nat.le_of_ble_eq_true rfl) (Nat.le_of_ble_eq_true rfl) (Nat.le_of_ble_eq_true rfl) dX9_costOfFewer_38 (fun u hu => ?_)
          obtain ⟨hFu, hTu, hRu⟩ := lk_fin hW (th_F σ) (by omega) (by omega) hu.2
          have hWu := Q_W hFu hW
          refine a_aload_n dX9_costOfFewer_41 rfl rfl ?_
          refine a_iload_n dX9_costOfFewer_42 rfl rfl ?_
          refine a_iload_n dX9_costOfFewer_43 rfl rfl ?_
          refine a_iload_n dX9_costOfFewer_44 rfl rfl ?_
          refine a_iload dX9_costOfFewer_45 rfl ?_
          refine a_cI (c := 153) (as := [ai s, ai t, ai m, ai k]) (rest := []) (t_earliestOf u hWu hTu s t m k (by omega) (by omega) (by omega) (by omega) (by omega) (by omega) (by omega) (by omega)) mvX9_earliestOf lX9_316 k153 (by decide) rfl rfl rfl rfl (Nat.le_of_ble_eq_true rfl) (Nat.le_of_ble_eq_true rfl) (Nat.le_of_ble_eq_true rfl) dX9_costOfFewer_47 ?_
          refine a_topI (y := EA σ s t m k) (hRu.earliest _ _ _ _) ?_
          have rE47 := EA_rng hW (s := s) (t := t) (m := m) (k := k) (by omega) (by omega) (by omega) (by omega) (by omega) (by omega)
          refine a_istore (ls' := [(5, ai (EA σ s t m k)), (0, ar 153), (1, ai s), (2, ai t), (3, ai m), (4, ai k)]) dX9_costOfFewer_50 (Nat.le_of_ble_eq_true rfl) rfl ?_
          refine a_iload dX9_costOfFewer_52 rfl ?_
          refine a_ldc (x := 1000000) cX9_175 (by decide) dX9_costOfFewer_54 ?_
          refine a_icmp_lt (tgt := 63) dX9_costOfFewer_56 (by decide) (inR_of (by omega) (by omega)) (inR_of (by omega) (by omega)) (fun c56 => ?_) (fun c56 => ?_)
          · refine a_aload_n dX9_costOfFewer_63 rfl rfl ?_
            refine a_iload_n dX9_costOfFewer_64 rfl rfl ?_
            refine a_iload_n dX9_costOfFewer_65 rfl rfl ?_
            refine a_iload_n dX9_costOfFewer_66 rfl rfl ?_
            refine a_iload dX9_costOfFewer_67 rfl ?_
            refine a_iconst dX9_costOfFewer_69 ?_
            refine a_isub dX9_costOfFewer_70 ?_
            refine a_cI (c := 153) (as := [ai s, ai t, ai m, ai (k - 1)]) (rest := []) (t_earliestOf u hWu hTu s t m (k - 1) (by omega) (by omega) (by omega) (by omega) (by omega) (by omega) (by omega) (by omega)) mvX9_earliestOf lX9_316 k153 (by decide) rfl rfl rfl rfl (Nat.le_of_ble_eq_true rfl) (Nat.le_of_ble_eq_true rfl) (Nat.le_of_ble_eq_true rfl) dX9_costOfFewer_71 ?_
            refine a_topI (y := EA σ s t m (k - 1)) (hRu.earliest _ _ _ _) ?_
            have rE71 := EA_rng hW (s := s) (t := t) (m := m) (k := (k - 1)) (by omega) (by omega) (by omega) (by omega) (by omega) (by omega)
            refine a_istore (ls' := [(6, ai (EA σ s t m (k - 1))), (5, ai (EA σ s t m k)), (0, ar 153), (1, ai s), (2, ai t), (3, ai m), (4, ai k)]) dX9_costOfFewer_74 (Nat.le_of_ble_eq_true rfl) rfl ?_
            refine a_iload dX9_costOfFewer_76 rfl ?_
            refine a_ldc (x := 1000000) cX9_175 (by decide) dX9_costOfFewer_78 ?_
            refine a_icmp_lt (tgt := 89) dX9_costOfFewer_80 (by decide) (inR_of (by omega) (by omega)) (inR_of (by omega) (by omega)) (fun c80 => ?_) (fun c80 => ?_)
            · refine a_iload dX9_costOfFewer_89 rfl ?_
              refine a_iload dX9_costOfFewer_91 rfl ?_
              refine a_isub dX9_costOfFewer_93 ?_
              exact a_iret rfl ⟨by unfold costF; grind, hFu, hTu⟩ dX9_costOfFewer_94
            · refine a_sipush (x := 5000) dX9_costOfFewer_83 (by decide) ?_
              refine a_goto (tgt := 94) dX9_costOfFewer_86 (by decide) ?_
              exact a_iret rfl ⟨by unfold costF; grind, hFu, hTu⟩ dX9_costOfFewer_94
          · refine a_sipush (x := (-1000)) dX9_costOfFewer_59 (by decide) ?_
            exact a_iret rfl ⟨by unfold costF; grind, hFu, hTu⟩ dX9_costOfFewer_62
        · refine a_sipush (x := (-1000)) dX9_costOfFewer_33 (by decide) ?_
          exact a_iret rfl ⟨by unfold costF; grind, th_F σ, th_T hT⟩ dX9_costOfFewer_36

set_option maxRecDepth 20000 in
theorem t_fewest_l (σ u : Sto) (hW : WOK σ) (hFu : Fr pQ σ u) (hTu : TOK u) (hRu : Rq (lkN σ) u) (s t m z : Int) (h2 : two σ s t) (hm : mnt m) (hz0 : 0 ≤ z) (hz1 : z ≤ 2000) : ∀ (n : Nat) (k : Int), 0 ≤ k → k ≤ 5 → n = (5 - k).toNat → RunA mX9_fewest (qQ σ (fs2 (fun k => decide (EA σ s t m k ≤ z)) (-2) n k)) 43 [(5, ai k), (0, ar 153), (1, ai s), (2, ai t), (3, ai m), (4, ai z)] [] u := by
  have hWu := Q_W hFu hW
  have hS := hW.2.1
  have hR := hW.1
  intro n
  induction n with
  | zero =>
    intro k h0 h5 hn
    refine a_iload dX9_fewest_43 rfl ?_
    refine a_iconst dX9_fewest_45 ?_
    refine a_icmp_gt (tgt := 72) dX9_fewest_46 (by decide) (inR_of (by omega) (by omega)) (inR_of (by omega) (by omega)) (fun c46 => ?_) (fun c46 => ?_)
    · refine a_bipush (x := (-2)) dX9_fewest_72 (by decide) ?_
      exact a_iret rfl ⟨rfl, hFu, hTu⟩ dX9_fewest_74
    · exfalso; omega
  | succ n ih =>
    intro k h0 h5 hn
    refine a_iload dX9_fewest_43 rfl ?_
    refine a_iconst dX9_fewest_45 ?_
    refine a_icmp_gt (tgt := 72) dX9_fewest_46 (by decide) (inR_of (by omega) (by omega)) (inR_of (by omega) (by omega)) (fun c46 => ?_) (fun c46 => ?_)
    · exfalso; omega
    · refine a_aload_n dX9_fewest_49 rfl rfl ?_
      refine a_iload_n dX9_fewest_50 rfl rfl ?_
      refine a_iload_n dX9_fewest_51 rfl rfl ?_
      refine a_iload_n dX9_fewest_52 rfl rfl ?_
      refine a_iload dX9_fewest_53 rfl ?_
      refine a_cI (c := 153) (as := [ai s, ai t, ai m, ai k]) (rest := []) (t_earliestOf u hWu hTu s t m k (by omega) (by omega) (by omega) (by omega) (by omega) (by omega) (by omega) (by omega)) mvX9_earliestOf lX9_316 k153 (by decide) rfl rfl rfl rfl (Nat.le_of_ble_eq_true rfl) (Nat.le_of_ble_eq_true rfl) (Nat.le_of_ble_eq_true rfl) dX9_fewest_55 ?_
      refine a_topI (y := EA σ s t m k) (hRu.earliest _ _ _ _) ?_
      have rE55 := EA_rng hW (s := s) (t := t) (m := m) (k := k) (by omega) (by omega) (by omega) (by omega) (by omega) (by omega)
      refine a_iload dX9_fewest_58 rfl ?_
      refine a_icmp_gt (tgt := 66) dX9_fewest_60 (by decide) (inR_of (by omega) (by omega)) (inR_of (by omega) (by omega)) (fun c60 => ?_) (fun c60 => ?_)
      · refine a_iinc (y := k + 1) (ls' := [(5, ai (k + 1)), (0, ar 153), (1, ai s), (2, ai t), (3, ai m), (4, ai z)]) dX9_fewest_66 rfl rfl (Nat.le_of_ble_eq_true rfl) rfl ?_
        refine a_goto (tgt := 43) dX9_fewest_69 (by decide) ?_
        rw [show fs2 (fun k => decide (EA σ s t m k ≤ z)) (-2) (n + 1) k = fs2 (fun k => decide (EA σ s t m k ≤ z)) (-2) n (k + 1) from by show (if decide (EA σ s t m k ≤ z) = true then _ else _) = _; rw [if_neg (by simp; omega)]]
        exact a_keep (by simp) (ih (k + 1) (by omega) (by omega) (by omega))
      · refine a_iload dX9_fewest_63 rfl ?_
        exact a_iret rfl ⟨by show some (ai k) = some (ai (if decide (EA σ s t m k ≤ z) = true then _ else _)); rw [if_pos (by simp; omega)], hFu, hTu⟩ dX9_fewest_65

set_option maxRecDepth 20000 in
theorem t_fewest (σ : Sto) (s t m z : Int) (hs : inR s) (ht : inR t) (hm : inR m) (hz : inR z) (hW : WOK σ) (hT : TOK σ) : MetA mX9_fewest [ar 153, ai s, ai t, ai m, ai z] σ (qQ σ (fewestF σ s t m z)) := by
  have hS := hW.2.1
  have hR := hW.1
  have hTr := hW.2.2.1
  refine a_entry (by decide) (Nat.le_of_ble_eq_true rfl) ?_
  refine a_aload_n dX9_fewest_0 rfl rfl ?_
  refine a_iconst dX9_fewest_1 ?_
  refine a_putI (J := 0) fX9_85 k153 rfl rfl rfl dX9_fewest_2 ?_
  refine a_aload_n dX9_fewest_5 rfl rfl ?_
  refine a_iload_n dX9_fewest_6 rfl rfl ?_
  refine a_iload_n dX9_fewest_7 rfl rfl ?_
  refine a_cI (c := 153) (as := [ai s, ai t]) (rest := []) (t_areTwo (sN σ 153 0 0) s t hs ht) mvX9_areTwo lX9_287 k153 (by decide) rfl rfl rfl rfl (Nat.le_of_ble_eq_true rfl) (Nat.le_of_ble_eq_true rfl) (Nat.le_of_ble_eq_true rfl) dX9_fewest_8 ?_
  refine a_topI (y := if two σ s t then 1 else 0) (by simp only [th155]) ?_
  refine a_ifb_eq (tgt := 34) dX9_fewest_11 (by decide) (fun c11 => ?_) (fun c11 => ?_)
  · refine a_iconst dX9_fewest_34 ?_
    exact a_iret rfl ⟨by unfold fewestF; grind, th_F σ, th_T hT⟩ dX9_fewest_35
  · refine a_iload_n dX9_fewest_14 rfl rfl ?_
    refine a_sI (as := [ai m]) (rest := []) (t_isMinute (sN σ 153 0 0) m hm) mvX9_isMinute lX9_320 rfl rfl rfl (Nat.le_of_ble_eq_true rfl) (Nat.le_of_ble_eq_true rfl) (Nat.le_of_ble_eq_true rfl) dX9_fewest_15 ?_
    refine a_ifb_eq (tgt := 34) dX9_fewest_18 (by decide) (fun c18 => ?_) (fun c18 => ?_)
    · refine a_iconst dX9_fewest_34 ?_
      exact a_iret rfl ⟨by unfold fewestF; grind, th_F σ, th_T hT⟩ dX9_fewest_35
    · refine a_iload dX9_fewest_21 rfl ?_
      refine a_if_lt (tgt := 34) dX9_fewest_23 (by decide) hz (fun c23 => ?_) (fun c23 => ?_)
      · refine a_iconst dX9_fewest_34 ?_
        exact a_iret rfl ⟨by unfold fewestF; grind, th_F σ, th_T hT⟩ dX9_fewest_35
      · refine a_iload dX9_fewest_26 rfl ?_
        refine a_sipush (x := 2000) dX9_fewest_28 (by decide) ?_
        refine a_icmp_le (tgt := 36) dX9_fewest_31 (by decide) hz (inR_of (by omega) (by omega)) (fun c31 => ?_) (fun c31 => ?_)
        · refine a_aload_n dX9_fewest_36 rfl rfl ?_
          refine a_callV (c := 153) (as := []) (rest := []) (t_looksNow (sN σ 153 0 0) (Q_W (th_F σ) hW) (th_T hT)) mvX9_looksNow lX9_290 k153 (by decide) rfl rfl rfl rfl (Nat.le_of_ble_eq_true rfl) (Nat.le_of_ble_eq_true rfl) (Nat.le_of_ble_eq_true rfl) dX9_fewest_37 (fun u hu => ?_)
          obtain ⟨hFu, hTu, hRu⟩ := lk_fin hW (th_F σ) (by omega) (by omega) hu.2
          have hWu := Q_W hFu hW
          refine a_iconst dX9_fewest_40 ?_
          refine a_istore (ls' := [(5, ai 0), (0, ar 153), (1, ai s), (2, ai t), (3, ai m), (4, ai z)]) dX9_fewest_41 (Nat.le_of_ble_eq_true rfl) rfl ?_
          rw [show fewestF σ s t m z = fs2 (fun k => decide (EA σ s t m k ≤ z)) (-2) 5 0 from by unfold fewestF; rw [if_neg (by grind)]]
          exact a_keep (by simp) (t_fewest_l σ u hW hFu hTu hRu s t m z (by assumption) (by assumption) (by omega) (by omega) 5 0 (by omega) (by omega) (by omega))
        · refine a_iconst dX9_fewest_34 ?_
          exact a_iret rfl ⟨by unfold fewestF; grind, th_F σ, th_T hT⟩ dX9_fewest_35

set_option maxRecDepth 20000 in
theorem t_meet_l (σ u : Sto) (hW : WOK σ) (hFu : Fr pQ σ u) (hTu : TOK u) (hRu : Rq (lkN σ) u) (a b m what : Int) (ha : stp σ a) (hb : stp σ b) (hm : mnt m) (hw0 : 0 ≤ what) (hw1 : what ≤ 1) : ∀ (n : Nat) (t : Int) (best : Int) (least : Int), 0 ≤ t → t ≤ 10 → n = (gN σ 155 0 - t).toNat → -2 ≤ best → best ≤ 10 → -1000 ≤ least → least ≤ 2000000 → RunA mX9_meet (qQ σ (meetR (itr (mtF σ a b m) n t (best, least)) what)) 56 [(7, ai t), (6, ai least), (5, ai best), (0, ar 153), (1, ai a), (2, ai b), (3, ai m), (4, ai what)] [] u := by
  have hWu := Q_W hFu hW
  have hS := hW.2.1
  have hR := hW.1
  intro n
  induction n with
  | zero =>
    intro t best least h0 h5 hn hb0 hb1 hl0 hl1
    refine a_iload dX9_meet_56 rfl ?_
    refine a_aload_n dX9_meet_58 rfl rfl ?_
    refine a_cI (c := 153) (as := []) (rest := [ai t]) (t_stops u  ) mvX9_stops lX9_195 k153 (by decide) rfl rfl rfl rfl (Nat.le_of_ble_eq_true rfl) (Nat.le_of_ble_eq_true rfl) (Nat.le_of_ble_eq_true rfl) dX9_meet_59 ?_
    refine a_topI (y := gN σ 155 0) (Q155 hFu _) ?_
    refine a_icmp_ge (tgt := 125) dX9_meet_62 (by decide) (inR_of (by omega) (by omega)) (inR_gN _ _ _) (fun c62 => ?_) (fun c62 => ?_)
    · refine a_iload dX9_meet_125 rfl ?_
      refine a_bipush (x := (-2)) dX9_meet_127 (by decide) ?_
      refine a_icmp_eq (tgt := 137) dX9_meet_129 (by decide) (inR_of (by omega) (by omega)) (inR_of (by omega) (by omega)) (fun c129 => ?_) (fun c129 => ?_)
      · refine a_iload dX9_meet_137 rfl ?_
        refine a_goto (tgt := 144) dX9_meet_139 (by decide) ?_
        exact a_iret rfl ⟨by simp only [itr]; unfold meetR; grind, hFu, hTu⟩ dX9_meet_144
      · refine a_iload dX9_meet_132 rfl ?_
        refine a_if_ne (tgt := 142) dX9_meet_134 (by decide) (inR_of (by omega) (by omega)) (fun c134 => ?_) (fun c134 => ?_)
        · refine a_iload dX9_meet_142 rfl ?_
          exact a_iret rfl ⟨by simp only [itr]; unfold meetR; grind, hFu, hTu⟩ dX9_meet_144
        · refine a_iload dX9_meet_137 rfl ?_
          refine a_goto (tgt := 144) dX9_meet_139 (by decide) ?_
          exact a_iret rfl ⟨by simp only [itr]; unfold meetR; grind, hFu, hTu⟩ dX9_meet_144
    · exfalso; omega
  | succ n ih =>
    intro t best least h0 h5 hn hb0 hb1 hl0 hl1
    refine a_iload dX9_meet_56 rfl ?_
    refine a_aload_n dX9_meet_58 rfl rfl ?_
    refine a_cI (c := 153) (as := []) (rest := [ai t]) (t_stops u  ) mvX9_stops lX9_195 k153 (by decide) rfl rfl rfl rfl (Nat.le_of_ble_eq_true rfl) (Nat.le_of_ble_eq_true rfl) (Nat.le_of_ble_eq_true rfl) dX9_meet_59 ?_
    refine a_topI (y := gN σ 155 0) (Q155 hFu _) ?_
    refine a_icmp_ge (tgt := 125) dX9_meet_62 (by decide) (inR_of (by omega) (by omega)) (inR_gN _ _ _) (fun c62 => ?_) (fun c62 => ?_)
    · exfalso; omega
    · refine a_aload_n dX9_meet_65 rfl rfl ?_
      refine a_iload_n dX9_meet_66 rfl rfl ?_
      refine a_iload dX9_meet_67 rfl ?_
      refine a_iload_n dX9_meet_69 rfl rfl ?_
      refine a_cI (c := 153) (as := [ai a, ai t, ai m]) (rest := []) (t_comesTo u a t m hWu hTu (by omega) (by omega) (by omega) (by omega) (by omega) (by omega)) mvX9_comesTo lX9_323 k153 (by decide) rfl rfl rfl rfl (Nat.le_of_ble_eq_true rfl) (Nat.le_of_ble_eq_true rfl) (Nat.le_of_ble_eq_true rfl) dX9_meet_70 ?_
      refine a_topI (y := comesF (lkN σ) a t m) (hRu.comes _ _ _) ?_
      have rC70 := comes_rng hW (s := a) (t := t) (m := m) (by omega) (by omega) (by omega) (by omega) (by omega) (by omega)
      refine a_istore (ls' := [(8, ai (comesF (lkN σ) a t m)), (7, ai t), (6, ai least), (5, ai best), (0, ar 153), (1, ai a), (2, ai b), (3, ai m), (4, ai what)]) dX9_meet_73 (Nat.le_of_ble_eq_true rfl) rfl ?_
      refine a_aload_n dX9_meet_75 rfl rfl ?_
      refine a_iload_n dX9_meet_76 rfl rfl ?_
      refine a_iload dX9_meet_77 rfl ?_
      refine a_iload_n dX9_meet_79 rfl rfl ?_
      refine a_cI (c := 153) (as := [ai b, ai t, ai m]) (rest := []) (t_comesTo u b t m hWu hTu (by omega) (by omega) (by omega) (by omega) (by omega) (by omega)) mvX9_comesTo lX9_323 k153 (by decide) rfl rfl rfl rfl (Nat.le_of_ble_eq_true rfl) (Nat.le_of_ble_eq_true rfl) (Nat.le_of_ble_eq_true rfl) dX9_meet_80 ?_
      refine a_topI (y := comesF (lkN σ) b t m) (hRu.comes _ _ _) ?_
      have rC80 := comes_rng hW (s := b) (t := t) (m := m) (by omega) (by omega) (by omega) (by omega) (by omega) (by omega)
      refine a_istore (ls' := [(9, ai (comesF (lkN σ) b t m)), (8, ai (comesF (lkN σ) a t m)), (7, ai t), (6, ai least), (5, ai best), (0, ar 153), (1, ai a), (2, ai b), (3, ai m), (4, ai what)]) dX9_meet_83 (Nat.le_of_ble_eq_true rfl) rfl ?_
      refine a_iload dX9_meet_85 rfl ?_
      refine a_iload dX9_meet_87 rfl ?_
      refine a_icmp_le (tgt := 97) dX9_meet_89 (by decide) (inR_of (by omega) (by omega)) (inR_of (by omega) (by omega)) (fun c89 => ?_) (fun c89 => ?_)
      · refine a_iload dX9_meet_97 rfl ?_
        refine a_istore (ls' := [(10, ai (comesF (lkN σ) b t m)), (9, ai (comesF (lkN σ) b t m)), (8, ai (comesF (lkN σ) a t m)), (7, ai t), (6, ai least), (5, ai best), (0, ar 153), (1, ai a), (2, ai b), (3, ai m), (4, ai what)]) dX9_meet_99 (Nat.le_of_ble_eq_true rfl) rfl ?_
        refine a_iload dX9_meet_101 rfl ?_
        refine a_iload dX9_meet_103 rfl ?_
        refine a_icmp_lt (tgt := 111) dX9_meet_105 (by decide) (inR_of (by omega) (by omega)) (inR_of (by omega) (by omega)) (fun c105 => ?_) (fun c105 => ?_)
        · refine a_iload dX9_meet_111 rfl ?_
          refine a_istore (ls' := [(5, ai t), (10, ai (comesF (lkN σ) b t m)), (9, ai (comesF (lkN σ) b t m)), (8, ai (comesF (lkN σ) a t m)), (7, ai t), (6, ai least), (0, ar 153), (1, ai a), (2, ai b), (3, ai m), (4, ai what)]) dX9_meet_113 (Nat.le_of_ble_eq_true rfl) rfl ?_
          refine a_iload dX9_meet_115 rfl ?_
          refine a_istore (ls' := [(6, ai (comesF (lkN σ) b t m)), (5, ai t), (10, ai (comesF (lkN σ) b t m)), (9, ai (comesF (lkN σ) b t m)), (8, ai (comesF (lkN σ) a t m)), (7, ai t), (0, ar 153), (1, ai a), (2, ai b), (3, ai m), (4, ai what)]) dX9_meet_117 (Nat.le_of_ble_eq_true rfl) rfl ?_
          refine a_iinc (y := t + 1) (ls' := [(7, ai (t + 1)), (6, ai (comesF (lkN σ) b t m)), (5, ai t), (10, ai (comesF (lkN σ) b t m)), (9, ai (comesF (lkN σ) b t m)), (8, ai (comesF (lkN σ) a t m)), (0, ar 153), (1, ai a), (2, ai b), (3, ai m), (4, ai what)]) dX9_meet_119 rfl rfl (Nat.le_of_ble_eq_true rfl) rfl ?_
          refine a_goto (tgt := 56) dX9_meet_122 (by decide) ?_
          have e : mtF σ a b m t (best, least) = (t, comesF (lkN σ) b t m) := by unfold mtF; grind
          rw [show itr (mtF σ a b m) (n + 1) t (best, least) = itr (mtF σ a b m) n (t + 1) (mtF σ a b m t (best, least)) from rfl, e]
          exact a_keep (by simp) (ih (t + 1) (t) (comesF (lkN σ) b t m) (by omega) (by omega) (by omega) (by omega) (by omega) (by omega) (by omega))
        · refine a_goto (tgt := 119) dX9_meet_108 (by decide) ?_
          refine a_iinc (y := t + 1) (ls' := [(7, ai (t + 1)), (10, ai (comesF (lkN σ) b t m)), (9, ai (comesF (lkN σ) b t m)), (8, ai (comesF (lkN σ) a t m)), (6, ai least), (5, ai best), (0, ar 153), (1, ai a), (2, ai b), (3, ai m), (4, ai what)]) dX9_meet_119 rfl rfl (Nat.le_of_ble_eq_true rfl) rfl ?_
          refine a_goto (tgt := 56) dX9_meet_122 (by decide) ?_
          have e : mtF σ a b m t (best, least) = (best, least) := by unfold mtF; grind
          rw [show itr (mtF σ a b m) (n + 1) t (best, least) = itr (mtF σ a b m) n (t + 1) (mtF σ a b m t (best, least)) from rfl, e]
          exact a_keep (by simp) (ih (t + 1) (best) (least) (by omega) (by omega) (by omega) (by omega) (by omega) (by omega) (by omega))
      · refine a_iload dX9_meet_92 rfl ?_
        refine a_goto (tgt := 99) dX9_meet_94 (by decide) ?_
        refine a_istore (ls' := [(10, ai (comesF (lkN σ) a t m)), (9, ai (comesF (lkN σ) b t m)), (8, ai (comesF (lkN σ) a t m)), (7, ai t), (6, ai least), (5, ai best), (0, ar 153), (1, ai a), (2, ai b), (3, ai m), (4, ai what)]) dX9_meet_99 (Nat.le_of_ble_eq_true rfl) rfl ?_
        refine a_iload dX9_meet_101 rfl ?_
        refine a_iload dX9_meet_103 rfl ?_
        refine a_icmp_lt (tgt := 111) dX9_meet_105 (by decide) (inR_of (by omega) (by omega)) (inR_of (by omega) (by omega)) (fun c105 => ?_) (fun c105 => ?_)
        · refine a_iload dX9_meet_111 rfl ?_
          refine a_istore (ls' := [(5, ai t), (10, ai (comesF (lkN σ) a t m)), (9, ai (comesF (lkN σ) b t m)), (8, ai (comesF (lkN σ) a t m)), (7, ai t), (6, ai least), (0, ar 153), (1, ai a), (2, ai b), (3, ai m), (4, ai what)]) dX9_meet_113 (Nat.le_of_ble_eq_true rfl) rfl ?_
          refine a_iload dX9_meet_115 rfl ?_
          refine a_istore (ls' := [(6, ai (comesF (lkN σ) a t m)), (5, ai t), (10, ai (comesF (lkN σ) a t m)), (9, ai (comesF (lkN σ) b t m)), (8, ai (comesF (lkN σ) a t m)), (7, ai t), (0, ar 153), (1, ai a), (2, ai b), (3, ai m), (4, ai what)]) dX9_meet_117 (Nat.le_of_ble_eq_true rfl) rfl ?_
          refine a_iinc (y := t + 1) (ls' := [(7, ai (t + 1)), (6, ai (comesF (lkN σ) a t m)), (5, ai t), (10, ai (comesF (lkN σ) a t m)), (9, ai (comesF (lkN σ) b t m)), (8, ai (comesF (lkN σ) a t m)), (0, ar 153), (1, ai a), (2, ai b), (3, ai m), (4, ai what)]) dX9_meet_119 rfl rfl (Nat.le_of_ble_eq_true rfl) rfl ?_
          refine a_goto (tgt := 56) dX9_meet_122 (by decide) ?_
          have e : mtF σ a b m t (best, least) = (t, comesF (lkN σ) a t m) := by unfold mtF; grind
          rw [show itr (mtF σ a b m) (n + 1) t (best, least) = itr (mtF σ a b m) n (t + 1) (mtF σ a b m t (best, least)) from rfl, e]
          exact a_keep (by simp) (ih (t + 1) (t) (comesF (lkN σ) a t m) (by omega) (by omega) (by omega) (by omega) (by omega) (by omega) (by omega))
        · refine a_goto (tgt := 119) dX9_meet_108 (by decide) ?_
          refine a_iinc (y := t + 1) (ls' := [(7, ai (t + 1)), (10, ai (comesF (lkN σ) a t m)), (9, ai (comesF (lkN σ) b t m)), (8, ai (comesF (lkN σ) a t m)), (6, ai least), (5, ai best), (0, ar 153), (1, ai a), (2, ai b), (3, ai m), (4, ai what)]) dX9_meet_119 rfl rfl (Nat.le_of_ble_eq_true rfl) rfl ?_
          refine a_goto (tgt := 56) dX9_meet_122 (by decide) ?_
          have e : mtF σ a b m t (best, least) = (best, least) := by unfold mtF; grind
          rw [show itr (mtF σ a b m) (n + 1) t (best, least) = itr (mtF σ a b m) n (t + 1) (mtF σ a b m t (best, least)) from rfl, e]
          exact a_keep (by simp) (ih (t + 1) (best) (least) (by omega) (by omega) (by omega) (by omega) (by omega) (by omega) (by omega))

set_option maxRecDepth 20000 in
theorem t_meet (σ : Sto) (a b m what : Int) (ha : inR a) (hb : inR b) (hm : inR m) (hwhat : inR what) (hW : WOK σ) (hT : TOK σ) : MetA mX9_meet [ar 153, ai a, ai b, ai m, ai what] σ (qQ σ (meetF σ a b m what)) := by
  have hS := hW.2.1
  have hR := hW.1
  have hTr := hW.2.2.1
  refine a_entry (by decide) (Nat.le_of_ble_eq_true rfl) ?_
  refine a_aload_n dX9_meet_0 rfl rfl ?_
  refine a_iconst dX9_meet_1 ?_
  refine a_putI (J := 0) fX9_85 k153 rfl rfl rfl dX9_meet_2 ?_
  refine a_aload_n dX9_meet_5 rfl rfl ?_
  refine a_iload_n dX9_meet_6 rfl rfl ?_
  refine a_cI (c := 153) (as := [ai a]) (rest := []) (t_isStop (sN σ 153 0 0) a ha) mvX9_isStop lX9_213 k153 (by decide) rfl rfl rfl rfl (Nat.le_of_ble_eq_true rfl) (Nat.le_of_ble_eq_true rfl) (Nat.le_of_ble_eq_true rfl) dX9_meet_7 ?_
  refine a_topI (y := if stp σ a then 1 else 0) (by simp only [th155]) ?_
  refine a_ifb_eq (tgt := 39) dX9_meet_10 (by decide) (fun c10 => ?_) (fun c10 => ?_)
  · refine a_iconst dX9_meet_39 ?_
    exact a_iret rfl ⟨by unfold meetF; grind, th_F σ, th_T hT⟩ dX9_meet_40
  · refine a_aload_n dX9_meet_13 rfl rfl ?_
    refine a_iload_n dX9_meet_14 rfl rfl ?_
    refine a_cI (c := 153) (as := [ai b]) (rest := []) (t_isStop (sN σ 153 0 0) b hb) mvX9_isStop lX9_213 k153 (by decide) rfl rfl rfl rfl (Nat.le_of_ble_eq_true rfl) (Nat.le_of_ble_eq_true rfl) (Nat.le_of_ble_eq_true rfl) dX9_meet_15 ?_
    refine a_topI (y := if stp σ b then 1 else 0) (by simp only [th155]) ?_
    refine a_ifb_eq (tgt := 39) dX9_meet_18 (by decide) (fun c18 => ?_) (fun c18 => ?_)
    · refine a_iconst dX9_meet_39 ?_
      exact a_iret rfl ⟨by unfold meetF; grind, th_F σ, th_T hT⟩ dX9_meet_40
    · refine a_iload_n dX9_meet_21 rfl rfl ?_
      refine a_sI (as := [ai m]) (rest := []) (t_isMinute (sN σ 153 0 0) m hm) mvX9_isMinute lX9_320 rfl rfl rfl (Nat.le_of_ble_eq_true rfl) (Nat.le_of_ble_eq_true rfl) (Nat.le_of_ble_eq_true rfl) dX9_meet_22 ?_
      refine a_ifb_eq (tgt := 39) dX9_meet_25 (by decide) (fun c25 => ?_) (fun c25 => ?_)
      · refine a_iconst dX9_meet_39 ?_
        exact a_iret rfl ⟨by unfold meetF; grind, th_F σ, th_T hT⟩ dX9_meet_40
      · refine a_iload dX9_meet_28 rfl ?_
        refine a_if_lt (tgt := 39) dX9_meet_30 (by decide) hwhat (fun c30 => ?_) (fun c30 => ?_)
        · refine a_iconst dX9_meet_39 ?_
          exact a_iret rfl ⟨by unfold meetF; grind, th_F σ, th_T hT⟩ dX9_meet_40
        · refine a_iload dX9_meet_33 rfl ?_
          refine a_iconst dX9_meet_35 ?_
          refine a_icmp_le (tgt := 41) dX9_meet_36 (by decide) hwhat (inR_of (by omega) (by omega)) (fun c36 => ?_) (fun c36 => ?_)
          · refine a_aload_n dX9_meet_41 rfl rfl ?_
            refine a_callV (c := 153) (as := []) (rest := []) (t_looksNow (sN σ 153 0 0) (Q_W (th_F σ) hW) (th_T hT)) mvX9_looksNow lX9_290 k153 (by decide) rfl rfl rfl rfl (Nat.le_of_ble_eq_true rfl) (Nat.le_of_ble_eq_true rfl) (Nat.le_of_ble_eq_true rfl) dX9_meet_42 (fun u hu => ?_)
            obtain ⟨hFu, hTu, hRu⟩ := lk_fin hW (th_F σ) (by omega) (by omega) hu.2
            have hWu := Q_W hFu hW
            refine a_bipush (x := (-2)) dX9_meet_45 (by decide) ?_
            refine a_istore (ls' := [(5, ai (-2)), (0, ar 153), (1, ai a), (2, ai b), (3, ai m), (4, ai what)]) dX9_meet_47 (Nat.le_of_ble_eq_true rfl) rfl ?_
            refine a_ldc (x := 1000000) cX9_175 (by decide) dX9_meet_49 ?_
            refine a_istore (ls' := [(6, ai 1000000), (5, ai (-2)), (0, ar 153), (1, ai a), (2, ai b), (3, ai m), (4, ai what)]) dX9_meet_51 (Nat.le_of_ble_eq_true rfl) rfl ?_
            refine a_iconst dX9_meet_53 ?_
            refine a_istore (ls' := [(7, ai 0), (6, ai 1000000), (5, ai (-2)), (0, ar 153), (1, ai a), (2, ai b), (3, ai m), (4, ai what)]) dX9_meet_54 (Nat.le_of_ble_eq_true rfl) rfl ?_
            rw [show meetF σ a b m what = meetR (itr (mtF σ a b m) (gN σ 155 0).toNat 0 (-2, 1000000)) what from by unfold meetF; rw [if_neg (by grind)]]
            exact a_keep (by simp) (t_meet_l σ u hW hFu hTu hRu a b m what (by assumption) (by assumption) (by assumption) (by omega) (by omega) _ 0 (-2) 1000000 (by omega) (by omega) (by omega) (by omega) (by omega) (by omega) (by omega))
          · refine a_iconst dX9_meet_39 ?_
            exact a_iret rfl ⟨by unfold meetF; grind, th_F σ, th_T hT⟩ dX9_meet_40

set_option maxRecDepth 20000 in
theorem t_reached_l (σ u : Sto) (hW : WOK σ) (hFu : Fr pQ σ u) (hTu : TOK u) (hRu : Rq (lkN σ) u) (s m n0 : Int) (hs : stp σ s) (hm : mnt m) (hn0 : 0 ≤ n0) (hn1 : n0 ≤ 2000) : ∀ (n : Nat) (t : Int) (set : Int), 0 ≤ t → t ≤ 10 → n = (gN σ 155 0 - t).toNat → RunA mX9_reached (qQ σ (itr (rchF σ s m n0) n t set)) 43 [(5, ai t), (4, ai set), (0, ar 153), (1, ai s), (2, ai m), (3, ai n0)] [] u := by
  have hWu := Q_W hFu hW
  have hS := hW.2.1
  have hR := hW.1
  intro n
  induction n with
  | zero =>
    intro t set h0 h5 hn
    refine a_iload dX9_reached_43 rfl ?_
    refine a_aload_n dX9_reached_45 rfl rfl ?_
    refine a_cI (c := 153) (as := []) (rest := [ai t]) (t_stops u  ) mvX9_stops lX9_195 k153 (by decide) rfl rfl rfl rfl (Nat.le_of_ble_eq_true rfl) (Nat.le_of_ble_eq_true rfl) (Nat.le_of_ble_eq_true rfl) dX9_reached_46 ?_
    refine a_topI (y := gN σ 155 0) (Q155 hFu _) ?_
    refine a_icmp_ge (tgt := 92) dX9_reached_49 (by decide) (inR_of (by omega) (by omega)) (inR_gN _ _ _) (fun c49 => ?_) (fun c49 => ?_)
    · refine a_iload dX9_reached_92 rfl ?_
      exact a_iret rfl ⟨rfl, hFu, hTu⟩ dX9_reached_94
    · exfalso; omega
  | succ n ih =>
    intro t set h0 h5 hn
    refine a_iload dX9_reached_43 rfl ?_
    refine a_aload_n dX9_reached_45 rfl rfl ?_
    refine a_cI (c := 153) (as := []) (rest := [ai t]) (t_stops u  ) mvX9_stops lX9_195 k153 (by decide) rfl rfl rfl rfl (Nat.le_of_ble_eq_true rfl) (Nat.le_of_ble_eq_true rfl) (Nat.le_of_ble_eq_true rfl) dX9_reached_46 ?_
    refine a_topI (y := gN σ 155 0) (Q155 hFu _) ?_
    refine a_icmp_ge (tgt := 92) dX9_reached_49 (by decide) (inR_of (by omega) (by omega)) (inR_gN _ _ _) (fun c49 => ?_) (fun c49 => ?_)
    · exfalso; omega
    · refine a_iload dX9_reached_52 rfl ?_
      refine a_iload dX9_reached_54 rfl ?_
      refine a_iload_n dX9_reached_56 rfl rfl ?_
      refine a_icmp_eq (tgt := 75) dX9_reached_57 (by decide) (inR_of (by omega) (by omega)) (inR_of (by omega) (by omega)) (fun c57 => ?_) (fun c57 => ?_)
      · refine a_iconst dX9_reached_75 ?_
        refine a_iload dX9_reached_76 rfl ?_
        refine a_ishl (z := shlI 1 t) dX9_reached_78 (Int32.ofInt_toInt _).symm ?_
        refine a_goto (tgt := 83) dX9_reached_79 (by decide) ?_
        refine a_ior (z := orI set (shlI 1 t)) dX9_reached_83 (Int32.ofInt_toInt _).symm ?_
        refine a_istore (ls' := [(4, ai (orI set (shlI 1 t))), (5, ai t), (0, ar 153), (1, ai s), (2, ai m), (3, ai n0)]) dX9_reached_84 (Nat.le_of_ble_eq_true rfl) rfl ?_
        refine a_iinc (y := t + 1) (ls' := [(5, ai (t + 1)), (4, ai (orI set (shlI 1 t))), (0, ar 153), (1, ai s), (2, ai m), (3, ai n0)]) dX9_reached_86 rfl rfl (Nat.le_of_ble_eq_true rfl) rfl ?_
        refine a_goto (tgt := 43) dX9_reached_89 (by decide) ?_
        have e : rchF σ s m n0 t set = orI set (shlI 1 t) := by unfold rchF; grind
        rw [show itr (rchF σ s m n0) (n + 1) t set = itr (rchF σ s m n0) n (t + 1) (rchF σ s m n0 t set) from rfl, e]
        exact a_keep (by simp) (ih (t + 1) (orI set (shlI 1 t)) (by omega) (by omega) (by omega))
      · refine a_aload_n dX9_reached_60 rfl rfl ?_
        refine a_iload_n dX9_reached_61 rfl rfl ?_
        refine a_iload dX9_reached_62 rfl ?_
        refine a_iload_n dX9_reached_64 rfl rfl ?_
        refine a_iconst dX9_reached_65 ?_
        refine a_cI (c := 153) (as := [ai s, ai t, ai m, ai 4]) (rest := [ai set]) (t_earliestOf u hWu hTu s t m 4 (by omega) (by omega) (by omega) (by omega) (by omega) (by omega) (by omega) (by omega)) mvX9_earliestOf lX9_316 k153 (by decide) rfl rfl rfl rfl (Nat.le_of_ble_eq_true rfl) (Nat.le_of_ble_eq_true rfl) (Nat.le_of_ble_eq_true rfl) dX9_reached_66 ?_
        refine a_topI (y := EA σ s t m 4) (hRu.earliest _ _ _ _) ?_
        have rE66 := EA_rng hW (s := s) (t := t) (m := m) (k := 4) (by omega) (by omega) (by omega) (by omega) (by omega) (by omega)
        refine a_iload_n dX9_reached_69 rfl rfl ?_
        refine a_iload_n dX9_reached_70 rfl rfl ?_
        refine a_iadd dX9_reached_71 ?_
        refine a_icmp_gt (tgt := 82) dX9_reached_72 (by decide) (inR_of (by omega) (by omega)) (inR_of (by omega) (by omega)) (fun c72 => ?_) (fun c72 => ?_)
        · refine a_iconst dX9_reached_82 ?_
          refine a_ior (z := orI set 0) dX9_reached_83 (Int32.ofInt_toInt _).symm ?_
          refine a_istore (ls' := [(4, ai (orI set 0)), (5, ai t), (0, ar 153), (1, ai s), (2, ai m), (3, ai n0)]) dX9_reached_84 (Nat.le_of_ble_eq_true rfl) rfl ?_
          refine a_iinc (y := t + 1) (ls' := [(5, ai (t + 1)), (4, ai (orI set 0)), (0, ar 153), (1, ai s), (2, ai m), (3, ai n0)]) dX9_reached_86 rfl rfl (Nat.le_of_ble_eq_true rfl) rfl ?_
          refine a_goto (tgt := 43) dX9_reached_89 (by decide) ?_
          have e : rchF σ s m n0 t set = orI set 0 := by unfold rchF; grind
          rw [show itr (rchF σ s m n0) (n + 1) t set = itr (rchF σ s m n0) n (t + 1) (rchF σ s m n0 t set) from rfl, e]
          exact a_keep (by simp) (ih (t + 1) (orI set 0) (by omega) (by omega) (by omega))
        · refine a_iconst dX9_reached_75 ?_
          refine a_iload dX9_reached_76 rfl ?_
          refine a_ishl (z := shlI 1 t) dX9_reached_78 (Int32.ofInt_toInt _).symm ?_
          refine a_goto (tgt := 83) dX9_reached_79 (by decide) ?_
          refine a_ior (z := orI set (shlI 1 t)) dX9_reached_83 (Int32.ofInt_toInt _).symm ?_
          refine a_istore (ls' := [(4, ai (orI set (shlI 1 t))), (5, ai t), (0, ar 153), (1, ai s), (2, ai m), (3, ai n0)]) dX9_reached_84 (Nat.le_of_ble_eq_true rfl) rfl ?_
          refine a_iinc (y := t + 1) (ls' := [(5, ai (t + 1)), (4, ai (orI set (shlI 1 t))), (0, ar 153), (1, ai s), (2, ai m), (3, ai n0)]) dX9_reached_86 rfl rfl (Nat.le_of_ble_eq_true rfl) rfl ?_
          refine a_goto (tgt := 43) dX9_reached_89 (by decide) ?_
          have e : rchF σ s m n0 t set = orI set (shlI 1 t) := by unfold rchF; grind
          rw [show itr (rchF σ s m n0) (n + 1) t set = itr (rchF σ s m n0) n (t + 1) (rchF σ s m n0 t set) from rfl, e]
          exact a_keep (by simp) (ih (t + 1) (orI set (shlI 1 t)) (by omega) (by omega) (by omega))

set_option maxRecDepth 20000 in
theorem t_reached (σ : Sto) (s m n : Int) (hs : inR s) (hm : inR m) (hn : inR n) (hW : WOK σ) (hT : TOK σ) : MetA mX9_reached [ar 153, ai s, ai m, ai n] σ (qQ σ (reachedF σ s m n)) := by
  have hS := hW.2.1
  have hR := hW.1
  have hTr := hW.2.2.1
  refine a_entry (by decide) (Nat.le_of_ble_eq_true rfl) ?_
  refine a_aload_n dX9_reached_0 rfl rfl ?_
  refine a_iconst dX9_reached_1 ?_
  refine a_putI (J := 0) fX9_85 k153 rfl rfl rfl dX9_reached_2 ?_
  refine a_aload_n dX9_reached_5 rfl rfl ?_
  refine a_iload_n dX9_reached_6 rfl rfl ?_
  refine a_cI (c := 153) (as := [ai s]) (rest := []) (t_isStop (sN σ 153 0 0) s hs) mvX9_isStop lX9_213 k153 (by decide) rfl rfl rfl rfl (Nat.le_of_ble_eq_true rfl) (Nat.le_of_ble_eq_true rfl) (Nat.le_of_ble_eq_true rfl) dX9_reached_7 ?_
  refine a_topI (y := if stp σ s then 1 else 0) (by simp only [th155]) ?_
  refine a_ifb_eq (tgt := 31) dX9_reached_10 (by decide) (fun c10 => ?_) (fun c10 => ?_)
  · refine a_iconst dX9_reached_31 ?_
    exact a_iret rfl ⟨by unfold reachedF; grind, th_F σ, th_T hT⟩ dX9_reached_32
  · refine a_iload_n dX9_reached_13 rfl rfl ?_
    refine a_sI (as := [ai m]) (rest := []) (t_isMinute (sN σ 153 0 0) m hm) mvX9_isMinute lX9_320 rfl rfl rfl (Nat.le_of_ble_eq_true rfl) (Nat.le_of_ble_eq_true rfl) (Nat.le_of_ble_eq_true rfl) dX9_reached_14 ?_
    refine a_ifb_eq (tgt := 31) dX9_reached_17 (by decide) (fun c17 => ?_) (fun c17 => ?_)
    · refine a_iconst dX9_reached_31 ?_
      exact a_iret rfl ⟨by unfold reachedF; grind, th_F σ, th_T hT⟩ dX9_reached_32
    · refine a_iload_n dX9_reached_20 rfl rfl ?_
      refine a_if_lt (tgt := 31) dX9_reached_21 (by decide) hn (fun c21 => ?_) (fun c21 => ?_)
      · refine a_iconst dX9_reached_31 ?_
        exact a_iret rfl ⟨by unfold reachedF; grind, th_F σ, th_T hT⟩ dX9_reached_32
      · refine a_iload_n dX9_reached_24 rfl rfl ?_
        refine a_sipush (x := 2000) dX9_reached_25 (by decide) ?_
        refine a_icmp_le (tgt := 33) dX9_reached_28 (by decide) hn (inR_of (by omega) (by omega)) (fun c28 => ?_) (fun c28 => ?_)
        · refine a_aload_n dX9_reached_33 rfl rfl ?_
          refine a_callV (c := 153) (as := []) (rest := []) (t_looksNow (sN σ 153 0 0) (Q_W (th_F σ) hW) (th_T hT)) mvX9_looksNow lX9_290 k153 (by decide) rfl rfl rfl rfl (Nat.le_of_ble_eq_true rfl) (Nat.le_of_ble_eq_true rfl) (Nat.le_of_ble_eq_true rfl) dX9_reached_34 (fun u hu => ?_)
          obtain ⟨hFu, hTu, hRu⟩ := lk_fin hW (th_F σ) (by omega) (by omega) hu.2
          have hWu := Q_W hFu hW
          refine a_iconst dX9_reached_37 ?_
          refine a_istore (ls' := [(4, ai 0), (0, ar 153), (1, ai s), (2, ai m), (3, ai n)]) dX9_reached_38 (Nat.le_of_ble_eq_true rfl) rfl ?_
          refine a_iconst dX9_reached_40 ?_
          refine a_istore (ls' := [(5, ai 0), (4, ai 0), (0, ar 153), (1, ai s), (2, ai m), (3, ai n)]) dX9_reached_41 (Nat.le_of_ble_eq_true rfl) rfl ?_
          rw [show reachedF σ s m n = itr (rchF σ s m n) (gN σ 155 0).toNat 0 0 from by unfold reachedF; rw [if_neg (by grind)]]
          exact a_keep (by simp) (t_reached_l σ u hW hFu hTu hRu s m n (by assumption) (by assumption) (by omega) (by omega) _ 0 0 (by omega) (by omega) (by omega))
        · refine a_iconst dX9_reached_31 ?_
          exact a_iret rfl ⟨by unfold reachedF; grind, th_F σ, th_T hT⟩ dX9_reached_32

