set_option maxRecDepth 20000 in
theorem t_goes_l (σ : Sto) (hW : WOK σ) (trip : Int) (htr : inR trip) : ∀ (n : Nat) (i : Int), 0 ≤ i → i ≤ 60 → n = (gN σ 155 3 - i).toNat → RunA mX9_goes (qI (if anyZ (goF σ trip) n i = true then 1 else 0) σ) 2 [(2, ai i), (0, ar 153), (1, ai trip)] [] σ := by
  have hR := hW.1
  intro n
  induction n with
  | zero =>
    intro i h0 h60 hn
    refine a_iload_n dX9_goes_2 rfl rfl ?_
    refine a_aload_n dX9_goes_3 rfl rfl ?_
    refine a_cI (c := 153) (as := []) (rest := [ai i]) (t_rides σ  ) mvX9_rides lX9_198 k153 (by decide) rfl rfl rfl rfl (Nat.le_of_ble_eq_true rfl) (Nat.le_of_ble_eq_true rfl) (Nat.le_of_ble_eq_true rfl) dX9_goes_4 ?_
    refine a_icmp_ge (tgt := 36) dX9_goes_7 (by decide) (inR_of (by omega) (by omega)) (inR_gN _ _ _) (fun c7 => ?_) (fun c7 => ?_)
    · refine a_iconst dX9_goes_36 ?_
      exact a_zret rfl (by omega) ⟨rfl, rfl⟩ dX9_goes_37
    · exfalso; omega
  | succ n ih =>
    intro i h0 h60 hn
    refine a_iload_n dX9_goes_2 rfl rfl ?_
    refine a_aload_n dX9_goes_3 rfl rfl ?_
    refine a_cI (c := 153) (as := []) (rest := [ai i]) (t_rides σ  ) mvX9_rides lX9_198 k153 (by decide) rfl rfl rfl rfl (Nat.le_of_ble_eq_true rfl) (Nat.le_of_ble_eq_true rfl) (Nat.le_of_ble_eq_true rfl) dX9_goes_4 ?_
    refine a_icmp_ge (tgt := 36) dX9_goes_7 (by decide) (inR_of (by omega) (by omega)) (inR_gN _ _ _) (fun c7 => ?_) (fun c7 => ?_)
    · exfalso; omega
    · refine a_aload_n dX9_goes_10 rfl rfl ?_
      refine a_iload_n dX9_goes_11 rfl rfl ?_
      refine a_iconst dX9_goes_12 ?_
      refine a_cI (c := 153) (as := [ai i, ai 0]) (rest := []) (t_told σ i 0 (by omega) (by omega)) mvX9_told lX9_201 k153 (by decide) rfl rfl rfl rfl (Nat.le_of_ble_eq_true rfl) (Nat.le_of_ble_eq_true rfl) (Nat.le_of_ble_eq_true rfl) dX9_goes_13 ?_
      refine a_iload_n dX9_goes_16 rfl rfl ?_
      refine a_icmp_ne (tgt := 30) dX9_goes_17 (by decide) (inR_gN _ _ _) htr (fun c17 => ?_) (fun c17 => ?_)
      · refine a_iinc (y := i + 1) (ls' := [(2, ai (i + 1)), (0, ar 153), (1, ai trip)]) dX9_goes_30 rfl rfl (Nat.le_of_ble_eq_true rfl) rfl ?_
        refine a_goto (tgt := 2) dX9_goes_33 (by decide) ?_
        rw [show anyZ (goF σ trip) (n + 1) i = anyZ (goF σ trip) n (i + 1) from by show (goF σ trip i || _) = _; rw [show goF σ trip i = false from by unfold goF; grind]; rfl]
        exact a_keep (by simp) (ih (i + 1) (by omega) (by omega) (by omega))
      · refine a_aload_n dX9_goes_20 rfl rfl ?_
        refine a_iload_n dX9_goes_21 rfl rfl ?_
        refine a_cI (c := 153) (as := [ai i]) (rest := []) (t_isOff σ i) mvX9_isOff lX9_207 k153 (by decide) rfl rfl rfl rfl (Nat.le_of_ble_eq_true rfl) (Nat.le_of_ble_eq_true rfl) (Nat.le_of_ble_eq_true rfl) dX9_goes_22 ?_
        refine a_ifb_ne (tgt := 30) dX9_goes_25 (by decide) (fun c25 => ?_) (fun c25 => ?_)
        · refine a_iinc (y := i + 1) (ls' := [(2, ai (i + 1)), (0, ar 153), (1, ai trip)]) dX9_goes_30 rfl rfl (Nat.le_of_ble_eq_true rfl) rfl ?_
          refine a_goto (tgt := 2) dX9_goes_33 (by decide) ?_
          rw [show anyZ (goF σ trip) (n + 1) i = anyZ (goF σ trip) n (i + 1) from by show (goF σ trip i || _) = _; rw [show goF σ trip i = false from by unfold goF; grind]; rfl]
          exact a_keep (by simp) (ih (i + 1) (by omega) (by omega) (by omega))
        · refine a_iconst dX9_goes_28 ?_
          exact a_zret rfl (by omega) ⟨by rw [anyZ_here (show goF σ trip i = true by unfold goF; grind)]; rfl, rfl⟩ dX9_goes_29

set_option maxRecDepth 20000 in
theorem t_goes (σ : Sto) (trip : Int) (hW : WOK σ) (htr : inR trip) : MetI mX9_goes [ar 153, ai trip] σ (if anyZ (goF σ trip) (gN σ 155 3).toNat 0 = true then 1 else 0) σ := by
  have hR := hW.1
  refine a_entry (by decide) (Nat.le_of_ble_eq_true rfl) ?_
  refine a_iconst dX9_goes_0 ?_
  refine a_istore_n (ls' := [(2, ai 0), (0, ar 153), (1, ai trip)]) dX9_goes_1 rfl (Nat.le_of_ble_eq_true rfl) rfl ?_
  exact a_keep (by simp) (t_goes_l σ hW trip htr _ 0 (by omega) (by omega) (by omega))

theorem goF_eq {σ u : Sto} (h : Fr pQ σ u) (trip : Int) : goF u trip = goF σ trip := by funext i; unfold goF; simp only [Q155 h, Q17 h]

set_option maxRecDepth 20000 in
theorem t_late_l (σ : Sto) (hW : WOK σ) (trip s t m now : Int) (htr : inR trip) (h2 : two σ s t) (hm : mnt m) (hn0 : -1000 ≤ now) (hn1 : now ≤ 2000000) : ∀ (n : Nat) (d : Int) (τ : Sto), 1 ≤ d → d ≤ 241 → n = (241 - d).toNat → Fr pQ σ τ → TOK τ → RunA mX9_late (qQ σ (fs2 (fun d => decide (now < earliestF (look σ trip d 0) s t m 4)) (-2) n d)) 60 [(6, ai d), (5, ai now), (0, ar 153), (1, ai trip), (2, ai s), (3, ai t), (4, ai m)] [] τ := by
  have hS := hW.2.1
  intro n
  induction n with
  | zero =>
    intro d τ h0 h5 hn hFτ hTτ
    refine a_iload dX9_late_60 rfl ?_
    refine a_sipush (x := 240) dX9_late_62 (by decide) ?_
    refine a_icmp_gt (tgt := 99) dX9_late_65 (by decide) (inR_of (by omega) (by omega)) (inR_of (by omega) (by omega)) (fun c65 => ?_) (fun c65 => ?_)
    · refine a_bipush (x := (-2)) dX9_late_99 (by decide) ?_
      exact a_iret rfl ⟨rfl, hFτ, hTτ⟩ dX9_late_101
    · exfalso; omega
  | succ n ih =>
    intro d τ h0 h5 hn hFτ hTτ
    refine a_iload dX9_late_60 rfl ?_
    refine a_sipush (x := 240) dX9_late_62 (by decide) ?_
    refine a_icmp_gt (tgt := 99) dX9_late_65 (by decide) (inR_of (by omega) (by omega)) (inR_of (by omega) (by omega)) (fun c65 => ?_) (fun c65 => ?_)
    · exfalso; omega
    · refine a_aload_n dX9_late_68 rfl rfl ?_
      refine a_iload_n dX9_late_69 rfl rfl ?_
      refine a_iload dX9_late_70 rfl ?_
      refine a_iconst dX9_late_72 ?_
      refine a_callV (c := 153) (as := [ai trip, ai d, ai 0]) (rest := []) (t_looks τ (Q_W hFτ hW) trip d 0 htr (by omega) (by omega) (Or.inl rfl) hTτ) mvX9_looks lX9_249 k153 (by decide) rfl rfl rfl rfl (Nat.le_of_ble_eq_true rfl) (Nat.le_of_ble_eq_true rfl) (Nat.le_of_ble_eq_true rfl) dX9_late_73 (fun υ hυ => ?_)
      obtain ⟨hFυ, hTυ, hRυ⟩ := lk_fin hW hFτ (by omega) (by omega) hυ.2
      have hWυ := Q_W hFυ hW
      refine a_aload_n dX9_late_76 rfl rfl ?_
      refine a_iload_n dX9_late_77 rfl rfl ?_
      refine a_iload_n dX9_late_78 rfl rfl ?_
      refine a_iload dX9_late_79 rfl ?_
      refine a_iconst dX9_late_81 ?_
      refine a_cI (c := 153) (as := [ai s, ai t, ai m, ai 4]) (rest := []) (t_earliestOf υ hWυ hTυ s t m 4 (by omega) (by omega) (by omega) (by omega) (by omega) (by omega) (by omega) (by omega)) mvX9_earliestOf lX9_316 k153 (by decide) rfl rfl rfl rfl (Nat.le_of_ble_eq_true rfl) (Nat.le_of_ble_eq_true rfl) (Nat.le_of_ble_eq_true rfl) dX9_late_82 ?_
      refine a_topI (y := earliestF (look σ trip d 0) s t m 4) (hRυ.earliest _ _ _ _) ?_
      have rE := earliest_rng (look_W hW trip d 0) (look_T hW (trip := trip) (later := d) (gone := 0) (by omega) (by omega)) (s := s) (t := t) (m := m) (k := 4) (by omega) (by omega) (by omega) (by omega) (by omega) (by omega)
      refine a_iload dX9_late_85 rfl ?_
      refine a_icmp_le (tgt := 93) dX9_late_87 (by decide) (inR_of (by omega) (by omega)) (inR_of (by omega) (by omega)) (fun c87 => ?_) (fun c87 => ?_)
      · refine a_iinc (y := d + 1) (ls' := [(6, ai (d + 1)), (5, ai now), (0, ar 153), (1, ai trip), (2, ai s), (3, ai t), (4, ai m)]) dX9_late_93 rfl rfl (Nat.le_of_ble_eq_true rfl) rfl ?_
        refine a_goto (tgt := 60) dX9_late_96 (by decide) ?_
        rw [show fs2 (fun d => decide (now < earliestF (look σ trip d 0) s t m 4)) (-2) (n + 1) d = fs2 (fun d => decide (now < earliestF (look σ trip d 0) s t m 4)) (-2) n (d + 1) from by show (if decide (now < earliestF (look σ trip d 0) s t m 4) = true then _ else _) = _; rw [if_neg (by simp; omega)]]
        exact a_keep (by simp) (ih (d + 1) υ (by omega) (by omega) (by omega) hFυ hTυ)
      · refine a_iload dX9_late_90 rfl ?_
        exact a_iret rfl ⟨by show some (ai d) = some (ai (if decide (now < earliestF (look σ trip d 0) s t m 4) = true then _ else _)); rw [if_pos (by simp; omega)], hFυ, hTυ⟩ dX9_late_92

set_option maxRecDepth 20000 in
theorem t_late (σ : Sto) (trip s t m : Int) (htrip : inR trip) (hs : inR s) (ht : inR t) (hm : inR m) (hW : WOK σ) (hT : TOK σ) : MetA mX9_late [ar 153, ai trip, ai s, ai t, ai m] σ (qQ σ (lateF σ trip s t m)) := by
  have hS := hW.2.1
  have hR := hW.1
  have hTr := hW.2.2.1
  refine a_entry (by decide) (Nat.le_of_ble_eq_true rfl) ?_
  refine a_aload_n dX9_late_0 rfl rfl ?_
  refine a_iconst dX9_late_1 ?_
  refine a_putI (J := 0) fX9_85 k153 rfl rfl rfl dX9_late_2 ?_
  refine a_aload_n dX9_late_5 rfl rfl ?_
  refine a_iload_n dX9_late_6 rfl rfl ?_
  refine a_cI (c := 153) (as := [ai trip]) (rest := []) (t_isTrip (sN σ 153 0 0) trip htrip) mvX9_isTrip lX9_222 k153 (by decide) rfl rfl rfl rfl (Nat.le_of_ble_eq_true rfl) (Nat.le_of_ble_eq_true rfl) (Nat.le_of_ble_eq_true rfl) dX9_late_7 ?_
  refine a_topI (y := if trp σ trip then 1 else 0) (by simp only [th155]) ?_
  refine a_ifb_eq (tgt := 30) dX9_late_10 (by decide) (fun c10 => ?_) (fun c10 => ?_)
  · refine a_iconst dX9_late_30 ?_
    exact a_iret rfl ⟨by unfold lateF; grind, th_F σ, th_T hT⟩ dX9_late_31
  · refine a_aload_n dX9_late_13 rfl rfl ?_
    refine a_iload_n dX9_late_14 rfl rfl ?_
    refine a_iload_n dX9_late_15 rfl rfl ?_
    refine a_cI (c := 153) (as := [ai s, ai t]) (rest := []) (t_areTwo (sN σ 153 0 0) s t hs ht) mvX9_areTwo lX9_287 k153 (by decide) rfl rfl rfl rfl (Nat.le_of_ble_eq_true rfl) (Nat.le_of_ble_eq_true rfl) (Nat.le_of_ble_eq_true rfl) dX9_late_16 ?_
    refine a_topI (y := if two σ s t then 1 else 0) (by simp only [th155]) ?_
    refine a_ifb_eq (tgt := 30) dX9_late_19 (by decide) (fun c19 => ?_) (fun c19 => ?_)
    · refine a_iconst dX9_late_30 ?_
      exact a_iret rfl ⟨by unfold lateF; grind, th_F σ, th_T hT⟩ dX9_late_31
    · refine a_iload dX9_late_22 rfl ?_
      refine a_sI (as := [ai m]) (rest := []) (t_isMinute (sN σ 153 0 0) m hm) mvX9_isMinute lX9_320 rfl rfl rfl (Nat.le_of_ble_eq_true rfl) (Nat.le_of_ble_eq_true rfl) (Nat.le_of_ble_eq_true rfl) dX9_late_24 ?_
      refine a_ifb_ne (tgt := 32) dX9_late_27 (by decide) (fun c27 => ?_) (fun c27 => ?_)
      · refine a_aload_n dX9_late_32 rfl rfl ?_
        refine a_callV (c := 153) (as := []) (rest := []) (t_looksNow (sN σ 153 0 0) (Q_W (th_F σ) hW) (th_T hT)) mvX9_looksNow lX9_290 k153 (by decide) rfl rfl rfl rfl (Nat.le_of_ble_eq_true rfl) (Nat.le_of_ble_eq_true rfl) (Nat.le_of_ble_eq_true rfl) dX9_late_33 (fun u hu => ?_)
        obtain ⟨hFu, hTu, hRu⟩ := lk_fin hW (th_F σ) (by omega) (by omega) hu.2
        have hWu := Q_W hFu hW
        refine a_aload_n dX9_late_36 rfl rfl ?_
        refine a_iload_n dX9_late_37 rfl rfl ?_
        refine a_iload_n dX9_late_38 rfl rfl ?_
        refine a_iload dX9_late_39 rfl ?_
        refine a_iconst dX9_late_41 ?_
        refine a_cI (c := 153) (as := [ai s, ai t, ai m, ai 4]) (rest := []) (t_earliestOf u hWu hTu s t m 4 (by omega) (by omega) (by omega) (by omega) (by omega) (by omega) (by omega) (by omega)) mvX9_earliestOf lX9_316 k153 (by decide) rfl rfl rfl rfl (Nat.le_of_ble_eq_true rfl) (Nat.le_of_ble_eq_true rfl) (Nat.le_of_ble_eq_true rfl) dX9_late_42 ?_
        refine a_topI (y := EA σ s t m 4) (hRu.earliest _ _ _ _) ?_
        have rE42 := EA_rng hW (s := s) (t := t) (m := m) (k := 4) (by omega) (by omega) (by omega) (by omega) (by omega) (by omega)
        refine a_istore (ls' := [(5, ai (EA σ s t m 4)), (0, ar 153), (1, ai trip), (2, ai s), (3, ai t), (4, ai m)]) dX9_late_45 (Nat.le_of_ble_eq_true rfl) rfl ?_
        refine a_iload dX9_late_47 rfl ?_
        refine a_ldc (x := 1000000) cX9_175 (by decide) dX9_late_49 ?_
        refine a_icmp_lt (tgt := 57) dX9_late_51 (by decide) (inR_of (by omega) (by omega)) (inR_of (by omega) (by omega)) (fun c51 => ?_) (fun c51 => ?_)
        · refine a_iconst dX9_late_57 ?_
          refine a_istore (ls' := [(6, ai 1), (5, ai (EA σ s t m 4)), (0, ar 153), (1, ai trip), (2, ai s), (3, ai t), (4, ai m)]) dX9_late_58 (Nat.le_of_ble_eq_true rfl) rfl ?_
          rw [show lateF σ trip s t m = fs2 (fun d => decide (EA σ s t m 4 < earliestF (look σ trip d 0) s t m 4)) (-2) 240 1 from by unfold lateF; grind]
          exact a_keep (by simp) (t_late_l σ hW trip s t m (EA σ s t m 4) htrip (by assumption) (by assumption) (by omega) (by omega) 240 1 u (by omega) (by omega) (by omega) hFu hTu)
        · refine a_bipush (x := (-3)) dX9_late_54 (by decide) ?_
          exact a_iret rfl ⟨by unfold lateF; grind, hFu, hTu⟩ dX9_late_56
      · refine a_iconst dX9_late_30 ?_
        exact a_iret rfl ⟨by unfold lateF; grind, th_F σ, th_T hT⟩ dX9_late_31

set_option maxRecDepth 20000 in
theorem t_missed_l (σ : Sto) (hW : WOK σ) (s t m what : Int) (h2 : two σ s t) (hm : mnt m) (hw0 : 0 ≤ what) (hw1 : what ≤ 1) : ∀ (n : Nat) (trip : Int) (best : Int) (most : Int) (τ : Sto), 0 ≤ trip → trip ≤ 20 → n = (gN σ 155 2 - trip).toNat → -2 ≤ best → best ≤ 20 → -1000 ≤ most → most ≤ 2000000 → Fr pQ σ τ → TOK τ → RunA mX9_missed (qQ σ (msR (itr (msF σ s t m) n trip (best, most)) what)) 64 [(7, ai trip), (6, ai most), (5, ai best), (0, ar 153), (1, ai s), (2, ai t), (3, ai m), (4, ai what)] [] τ := by
  have hS := hW.2.1
  have hTr := hW.2.2.1
  intro n
  induction n with
  | zero =>
    intro trip best most τ h0 h5 hn hb0 hb1 hl0 hl1 hFτ hTτ
    refine a_iload dX9_missed_64 rfl ?_
    refine a_aload_n dX9_missed_66 rfl rfl ?_
    refine a_getF (d := 155) fX9_13 k153 rfl r153_3 dX9_missed_67 ?_
    refine a_iconst dX9_missed_70 ?_
    refine a_ild k155 n155 (by omega) (by omega) dX9_missed_71 ?_
    refine a_topI (y := gN σ 155 2) (Q155 hFτ _) ?_
    have hWτ := Q_W hFτ hW
    refine a_icmp_ge (tgt := 129) dX9_missed_72 (by decide) (inR_of (by omega) (by omega)) (inR_gN _ _ _) (fun c72 => ?_) (fun c72 => ?_)
    · refine a_iload dX9_missed_129 rfl ?_
      refine a_bipush (x := (-2)) dX9_missed_131 (by decide) ?_
      refine a_icmp_eq (tgt := 141) dX9_missed_133 (by decide) (inR_of (by omega) (by omega)) (inR_of (by omega) (by omega)) (fun c133 => ?_) (fun c133 => ?_)
      · refine a_iload dX9_missed_141 rfl ?_
        refine a_goto (tgt := 160) dX9_missed_143 (by decide) ?_
        exact a_iret rfl ⟨by simp only [itr]; unfold msR; grind, hFτ, hTτ⟩ dX9_missed_160
      · refine a_iload dX9_missed_136 rfl ?_
        refine a_if_ne (tgt := 146) dX9_missed_138 (by decide) (inR_of (by omega) (by omega)) (fun c138 => ?_) (fun c138 => ?_)
        · refine a_iload dX9_missed_146 rfl ?_
          refine a_ldc (x := 1000000) cX9_175 (by decide) dX9_missed_148 ?_
          refine a_icmp_lt (tgt := 158) dX9_missed_150 (by decide) (inR_of (by omega) (by omega)) (inR_of (by omega) (by omega)) (fun c150 => ?_) (fun c150 => ?_)
          · refine a_iload dX9_missed_158 rfl ?_
            exact a_iret rfl ⟨by simp only [itr]; unfold msR; grind, hFτ, hTτ⟩ dX9_missed_160
          · refine a_bipush (x := (-3)) dX9_missed_153 (by decide) ?_
            refine a_goto (tgt := 160) dX9_missed_155 (by decide) ?_
            exact a_iret rfl ⟨by simp only [itr]; unfold msR; grind, hFτ, hTτ⟩ dX9_missed_160
        · refine a_iload dX9_missed_141 rfl ?_
          refine a_goto (tgt := 160) dX9_missed_143 (by decide) ?_
          exact a_iret rfl ⟨by simp only [itr]; unfold msR; grind, hFτ, hTτ⟩ dX9_missed_160
    · exfalso; omega
  | succ n ih =>
    intro trip best most τ h0 h5 hn hb0 hb1 hl0 hl1 hFτ hTτ
    refine a_iload dX9_missed_64 rfl ?_
    refine a_aload_n dX9_missed_66 rfl rfl ?_
    refine a_getF (d := 155) fX9_13 k153 rfl r153_3 dX9_missed_67 ?_
    refine a_iconst dX9_missed_70 ?_
    refine a_ild k155 n155 (by omega) (by omega) dX9_missed_71 ?_
    refine a_topI (y := gN σ 155 2) (Q155 hFτ _) ?_
    have hWτ := Q_W hFτ hW
    refine a_icmp_ge (tgt := 129) dX9_missed_72 (by decide) (inR_of (by omega) (by omega)) (inR_gN _ _ _) (fun c72 => ?_) (fun c72 => ?_)
    · exfalso; omega
    · refine a_aload_n dX9_missed_75 rfl rfl ?_
      refine a_iload dX9_missed_76 rfl ?_
      refine a_cI (c := 153) (as := [ai trip]) (rest := []) (t_goes τ trip hWτ (inR_of (by omega) (by omega))) mvX9_goes lX9_332 k153 (by decide) rfl rfl rfl rfl (Nat.le_of_ble_eq_true rfl) (Nat.le_of_ble_eq_true rfl) (Nat.le_of_ble_eq_true rfl) dX9_missed_78 ?_
      refine a_topI (y := if anyZ (goF σ trip) (gN σ 155 3).toNat 0 = true then 1 else 0) (by rw [goF_eq hFτ, Q155 hFτ]) ?_
      refine a_ifb_ne (tgt := 87) dX9_missed_81 (by decide) (fun c81 => ?_) (fun c81 => ?_)
      · refine a_aload_n dX9_missed_87 rfl rfl ?_
        refine a_iload dX9_missed_88 rfl ?_
        refine a_iconst dX9_missed_90 ?_
        refine a_iconst dX9_missed_91 ?_
        refine a_callV (c := 153) (as := [ai trip, ai 0, ai 1]) (rest := []) (t_looks τ (Q_W hFτ hW) trip 0 1 (inR_of (by omega) (by omega)) (by omega) (by omega) (Or.inr rfl) hTτ) mvX9_looks lX9_249 k153 (by decide) rfl rfl rfl rfl (Nat.le_of_ble_eq_true rfl) (Nat.le_of_ble_eq_true rfl) (Nat.le_of_ble_eq_true rfl) dX9_missed_92 (fun υ hυ => ?_)
        obtain ⟨hFυ, hTυ, hRυ⟩ := lk_fin hW hFτ (by omega) (by omega) hυ.2
        have hWυ := Q_W hFυ hW
        refine a_aload_n dX9_missed_95 rfl rfl ?_
        refine a_iload_n dX9_missed_96 rfl rfl ?_
        refine a_iload_n dX9_missed_97 rfl rfl ?_
        refine a_iload_n dX9_missed_98 rfl rfl ?_
        refine a_iconst dX9_missed_99 ?_
        refine a_cI (c := 153) (as := [ai s, ai t, ai m, ai 4]) (rest := []) (t_earliestOf υ hWυ hTυ s t m 4 (by omega) (by omega) (by omega) (by omega) (by omega) (by omega) (by omega) (by omega)) mvX9_earliestOf lX9_316 k153 (by decide) rfl rfl rfl rfl (Nat.le_of_ble_eq_true rfl) (Nat.le_of_ble_eq_true rfl) (Nat.le_of_ble_eq_true rfl) dX9_missed_100 ?_
        refine a_topI (y := earliestF (look σ trip 0 1) s t m 4) (hRυ.earliest _ _ _ _) ?_
        have rE := earliest_rng (look_W hW trip 0 1) (look_T hW (trip := trip) (later := 0) (gone := 1) (by omega) (by omega)) (s := s) (t := t) (m := m) (k := 4) (by omega) (by omega) (by omega) (by omega) (by omega) (by omega)
        refine a_istore (ls' := [(8, ai (earliestF (look σ trip 0 1) s t m 4)), (7, ai trip), (6, ai most), (5, ai best), (0, ar 153), (1, ai s), (2, ai t), (3, ai m), (4, ai what)]) dX9_missed_103 (Nat.le_of_ble_eq_true rfl) rfl ?_
        refine a_iload dX9_missed_105 rfl ?_
        refine a_iload dX9_missed_107 rfl ?_
        refine a_icmp_gt (tgt := 115) dX9_missed_109 (by decide) (inR_of (by omega) (by omega)) (inR_of (by omega) (by omega)) (fun c109 => ?_) (fun c109 => ?_)
        · refine a_iload dX9_missed_115 rfl ?_
          refine a_istore (ls' := [(5, ai trip), (8, ai (earliestF (look σ trip 0 1) s t m 4)), (7, ai trip), (6, ai most), (0, ar 153), (1, ai s), (2, ai t), (3, ai m), (4, ai what)]) dX9_missed_117 (Nat.le_of_ble_eq_true rfl) rfl ?_
          refine a_iload dX9_missed_119 rfl ?_
          refine a_istore (ls' := [(6, ai (earliestF (look σ trip 0 1) s t m 4)), (5, ai trip), (8, ai (earliestF (look σ trip 0 1) s t m 4)), (7, ai trip), (0, ar 153), (1, ai s), (2, ai t), (3, ai m), (4, ai what)]) dX9_missed_121 (Nat.le_of_ble_eq_true rfl) rfl ?_
          refine a_iinc (y := trip + 1) (ls' := [(7, ai (trip + 1)), (6, ai (earliestF (look σ trip 0 1) s t m 4)), (5, ai trip), (8, ai (earliestF (look σ trip 0 1) s t m 4)), (0, ar 153), (1, ai s), (2, ai t), (3, ai m), (4, ai what)]) dX9_missed_123 rfl rfl (Nat.le_of_ble_eq_true rfl) rfl ?_
          refine a_goto (tgt := 64) dX9_missed_126 (by decide) ?_
          have e : msF σ s t m trip (best, most) = (trip, earliestF (look σ trip 0 1) s t m 4) := by unfold msF; grind
          rw [show itr (msF σ s t m) (n + 1) trip (best, most) = itr (msF σ s t m) n (trip + 1) (msF σ s t m trip (best, most)) from rfl, e]
          exact a_keep (by simp) (ih (trip + 1) (trip) (earliestF (look σ trip 0 1) s t m 4) υ (by omega) (by omega) (by omega) (by omega) (by omega) (by omega) (by omega) hFυ hTυ)
        · refine a_goto (tgt := 123) dX9_missed_112 (by decide) ?_
          refine a_iinc (y := trip + 1) (ls' := [(7, ai (trip + 1)), (8, ai (earliestF (look σ trip 0 1) s t m 4)), (6, ai most), (5, ai best), (0, ar 153), (1, ai s), (2, ai t), (3, ai m), (4, ai what)]) dX9_missed_123 rfl rfl (Nat.le_of_ble_eq_true rfl) rfl ?_
          refine a_goto (tgt := 64) dX9_missed_126 (by decide) ?_
          have e : msF σ s t m trip (best, most) = (best, most) := by unfold msF; grind
          rw [show itr (msF σ s t m) (n + 1) trip (best, most) = itr (msF σ s t m) n (trip + 1) (msF σ s t m trip (best, most)) from rfl, e]
          exact a_keep (by simp) (ih (trip + 1) (best) (most) υ (by omega) (by omega) (by omega) (by omega) (by omega) (by omega) (by omega) hFυ hTυ)
      · refine a_goto (tgt := 123) dX9_missed_84 (by decide) ?_
        refine a_iinc (y := trip + 1) (ls' := [(7, ai (trip + 1)), (6, ai most), (5, ai best), (0, ar 153), (1, ai s), (2, ai t), (3, ai m), (4, ai what)]) dX9_missed_123 rfl rfl (Nat.le_of_ble_eq_true rfl) rfl ?_
        refine a_goto (tgt := 64) dX9_missed_126 (by decide) ?_
        have e : msF σ s t m trip (best, most) = (best, most) := by unfold msF; grind
        rw [show itr (msF σ s t m) (n + 1) trip (best, most) = itr (msF σ s t m) n (trip + 1) (msF σ s t m trip (best, most)) from rfl, e]
        exact a_keep (by simp) (ih (trip + 1) (best) (most) τ (by omega) (by omega) (by omega) (by omega) (by omega) (by omega) (by omega) hFτ hTτ)

set_option maxRecDepth 20000 in
theorem t_missed (σ : Sto) (s t m what : Int) (hs : inR s) (ht : inR t) (hm : inR m) (hwhat : inR what) (hW : WOK σ) (hT : TOK σ) : MetA mX9_missed [ar 153, ai s, ai t, ai m, ai what] σ (qQ σ (missedF σ s t m what)) := by
  have hS := hW.2.1
  have hR := hW.1
  have hTr := hW.2.2.1
  refine a_entry (by decide) (Nat.le_of_ble_eq_true rfl) ?_
  refine a_aload_n dX9_missed_0 rfl rfl ?_
  refine a_iconst dX9_missed_1 ?_
  refine a_putI (J := 0) fX9_85 k153 rfl rfl rfl dX9_missed_2 ?_
  refine a_aload_n dX9_missed_5 rfl rfl ?_
  refine a_iload_n dX9_missed_6 rfl rfl ?_
  refine a_iload_n dX9_missed_7 rfl rfl ?_
  refine a_cI (c := 153) (as := [ai s, ai t]) (rest := []) (t_areTwo (sN σ 153 0 0) s t hs ht) mvX9_areTwo lX9_287 k153 (by decide) rfl rfl rfl rfl (Nat.le_of_ble_eq_true rfl) (Nat.le_of_ble_eq_true rfl) (Nat.le_of_ble_eq_true rfl) dX9_missed_8 ?_
  refine a_topI (y := if two σ s t then 1 else 0) (by simp only [th155]) ?_
  refine a_ifb_eq (tgt := 32) dX9_missed_11 (by decide) (fun c11 => ?_) (fun c11 => ?_)
  · refine a_iconst dX9_missed_32 ?_
    exact a_iret rfl ⟨by unfold missedF; grind, th_F σ, th_T hT⟩ dX9_missed_33
  · refine a_iload_n dX9_missed_14 rfl rfl ?_
    refine a_sI (as := [ai m]) (rest := []) (t_isMinute (sN σ 153 0 0) m hm) mvX9_isMinute lX9_320 rfl rfl rfl (Nat.le_of_ble_eq_true rfl) (Nat.le_of_ble_eq_true rfl) (Nat.le_of_ble_eq_true rfl) dX9_missed_15 ?_
    refine a_ifb_eq (tgt := 32) dX9_missed_18 (by decide) (fun c18 => ?_) (fun c18 => ?_)
    · refine a_iconst dX9_missed_32 ?_
      exact a_iret rfl ⟨by unfold missedF; grind, th_F σ, th_T hT⟩ dX9_missed_33
    · refine a_iload dX9_missed_21 rfl ?_
      refine a_if_lt (tgt := 32) dX9_missed_23 (by decide) hwhat (fun c23 => ?_) (fun c23 => ?_)
      · refine a_iconst dX9_missed_32 ?_
        exact a_iret rfl ⟨by unfold missedF; grind, th_F σ, th_T hT⟩ dX9_missed_33
      · refine a_iload dX9_missed_26 rfl ?_
        refine a_iconst dX9_missed_28 ?_
        refine a_icmp_le (tgt := 34) dX9_missed_29 (by decide) hwhat (inR_of (by omega) (by omega)) (fun c29 => ?_) (fun c29 => ?_)
        · refine a_aload_n dX9_missed_34 rfl rfl ?_
          refine a_callV (c := 153) (as := []) (rest := []) (t_looksNow (sN σ 153 0 0) (Q_W (th_F σ) hW) (th_T hT)) mvX9_looksNow lX9_290 k153 (by decide) rfl rfl rfl rfl (Nat.le_of_ble_eq_true rfl) (Nat.le_of_ble_eq_true rfl) (Nat.le_of_ble_eq_true rfl) dX9_missed_35 (fun u hu => ?_)
          obtain ⟨hFu, hTu, hRu⟩ := lk_fin hW (th_F σ) (by omega) (by omega) hu.2
          have hWu := Q_W hFu hW
          refine a_aload_n dX9_missed_38 rfl rfl ?_
          refine a_iload_n dX9_missed_39 rfl rfl ?_
          refine a_iload_n dX9_missed_40 rfl rfl ?_
          refine a_iload_n dX9_missed_41 rfl rfl ?_
          refine a_iconst dX9_missed_42 ?_
          refine a_cI (c := 153) (as := [ai s, ai t, ai m, ai 4]) (rest := []) (t_earliestOf u hWu hTu s t m 4 (by omega) (by omega) (by omega) (by omega) (by omega) (by omega) (by omega) (by omega)) mvX9_earliestOf lX9_316 k153 (by decide) rfl rfl rfl rfl (Nat.le_of_ble_eq_true rfl) (Nat.le_of_ble_eq_true rfl) (Nat.le_of_ble_eq_true rfl) dX9_missed_43 ?_
          refine a_topI (y := EA σ s t m 4) (hRu.earliest _ _ _ _) ?_
          have rE43 := EA_rng hW (s := s) (t := t) (m := m) (k := 4) (by omega) (by omega) (by omega) (by omega) (by omega) (by omega)
          refine a_ldc (x := 1000000) cX9_175 (by decide) dX9_missed_46 ?_
          refine a_icmp_lt (tgt := 54) dX9_missed_48 (by decide) (inR_of (by omega) (by omega)) (inR_of (by omega) (by omega)) (fun c48 => ?_) (fun c48 => ?_)
          · refine a_bipush (x := (-2)) dX9_missed_54 (by decide) ?_
            refine a_istore (ls' := [(5, ai (-2)), (0, ar 153), (1, ai s), (2, ai t), (3, ai m), (4, ai what)]) dX9_missed_56 (Nat.le_of_ble_eq_true rfl) rfl ?_
            refine a_iconst dX9_missed_58 ?_
            refine a_istore (ls' := [(6, ai (-1)), (5, ai (-2)), (0, ar 153), (1, ai s), (2, ai t), (3, ai m), (4, ai what)]) dX9_missed_59 (Nat.le_of_ble_eq_true rfl) rfl ?_
            refine a_iconst dX9_missed_61 ?_
            refine a_istore (ls' := [(7, ai 0), (6, ai (-1)), (5, ai (-2)), (0, ar 153), (1, ai s), (2, ai t), (3, ai m), (4, ai what)]) dX9_missed_62 (Nat.le_of_ble_eq_true rfl) rfl ?_
            rw [show missedF σ s t m what = msR (itr (msF σ s t m) (gN σ 155 2).toNat 0 (-2, -1)) what from by unfold missedF; grind]
            exact a_keep (by simp) (t_missed_l σ hW s t m what (by assumption) (by assumption) (by omega) (by omega) _ 0 (-2) (-1) u (by omega) (by omega) (by omega) (by omega) (by omega) (by omega) (by omega) hFu hTu)
          · refine a_bipush (x := (-2)) dX9_missed_51 (by decide) ?_
            exact a_iret rfl ⟨by unfold missedF; grind, hFu, hTu⟩ dX9_missed_53
        · refine a_iconst dX9_missed_32 ?_
          exact a_iret rfl ⟨by unfold missedF; grind, th_F σ, th_T hT⟩ dX9_missed_33

set_option maxRecDepth 20000 in
theorem t_ifLate (σ : Sto) (trip d s t m : Int) (htrip : inR trip) (hd : inR d) (hs : inR s) (ht : inR t) (hm : inR m) (hW : WOK σ) (hT : TOK σ) : MetA mX9_ifLate [ar 153, ai trip, ai d, ai s, ai t, ai m] σ (qQ σ (ifLateF σ trip d s t m)) := by
  have hS := hW.2.1
  have hR := hW.1
  have hTr := hW.2.2.1
  refine a_entry (by decide) (Nat.le_of_ble_eq_true rfl) ?_
  refine a_aload_n dX9_ifLate_0 rfl rfl ?_
  refine a_iconst dX9_ifLate_1 ?_
  refine a_putI (J := 0) fX9_85 k153 rfl rfl rfl dX9_ifLate_2 ?_
  refine a_aload_n dX9_ifLate_5 rfl rfl ?_
  refine a_iload_n dX9_ifLate_6 rfl rfl ?_
  refine a_cI (c := 153) (as := [ai trip]) (rest := []) (t_isTrip (sN σ 153 0 0) trip htrip) mvX9_isTrip lX9_222 k153 (by decide) rfl rfl rfl rfl (Nat.le_of_ble_eq_true rfl) (Nat.le_of_ble_eq_true rfl) (Nat.le_of_ble_eq_true rfl) dX9_ifLate_7 ?_
  refine a_topI (y := if trp σ trip then 1 else 0) (by simp only [th155]) ?_
  refine a_ifb_eq (tgt := 51) dX9_ifLate_10 (by decide) (fun c10 => ?_) (fun c10 => ?_)
  · refine a_iconst dX9_ifLate_51 ?_
    exact a_iret rfl ⟨by unfold ifLateF; grind, th_F σ, th_T hT⟩ dX9_ifLate_52
  · refine a_iload_n dX9_ifLate_13 rfl rfl ?_
    refine a_bipush (x := (-60)) dX9_ifLate_14 (by decide) ?_
    refine a_icmp_lt (tgt := 51) dX9_ifLate_16 (by decide) hd (inR_of (by omega) (by omega)) (fun c16 => ?_) (fun c16 => ?_)
    · refine a_iconst dX9_ifLate_51 ?_
      exact a_iret rfl ⟨by unfold ifLateF; grind, th_F σ, th_T hT⟩ dX9_ifLate_52
    · refine a_iload_n dX9_ifLate_19 rfl rfl ?_
      refine a_sipush (x := 240) dX9_ifLate_20 (by decide) ?_
      refine a_icmp_gt (tgt := 51) dX9_ifLate_23 (by decide) hd (inR_of (by omega) (by omega)) (fun c23 => ?_) (fun c23 => ?_)
      · refine a_iconst dX9_ifLate_51 ?_
        exact a_iret rfl ⟨by unfold ifLateF; grind, th_F σ, th_T hT⟩ dX9_ifLate_52
      · refine a_aload_n dX9_ifLate_26 rfl rfl ?_
        refine a_iload_n dX9_ifLate_27 rfl rfl ?_
        refine a_cI (c := 153) (as := [ai s]) (rest := []) (t_isStop (sN σ 153 0 0) s hs) mvX9_isStop lX9_213 k153 (by decide) rfl rfl rfl rfl (Nat.le_of_ble_eq_true rfl) (Nat.le_of_ble_eq_true rfl) (Nat.le_of_ble_eq_true rfl) dX9_ifLate_28 ?_
        refine a_topI (y := if stp σ s then 1 else 0) (by simp only [th155]) ?_
        refine a_ifb_eq (tgt := 51) dX9_ifLate_31 (by decide) (fun c31 => ?_) (fun c31 => ?_)
        · refine a_iconst dX9_ifLate_51 ?_
          exact a_iret rfl ⟨by unfold ifLateF; grind, th_F σ, th_T hT⟩ dX9_ifLate_52
        · refine a_aload_n dX9_ifLate_34 rfl rfl ?_
          refine a_iload dX9_ifLate_35 rfl ?_
          refine a_cI (c := 153) (as := [ai t]) (rest := []) (t_isStop (sN σ 153 0 0) t ht) mvX9_isStop lX9_213 k153 (by decide) rfl rfl rfl rfl (Nat.le_of_ble_eq_true rfl) (Nat.le_of_ble_eq_true rfl) (Nat.le_of_ble_eq_true rfl) dX9_ifLate_37 ?_
          refine a_topI (y := if stp σ t then 1 else 0) (by simp only [th155]) ?_
          refine a_ifb_eq (tgt := 51) dX9_ifLate_40 (by decide) (fun c40 => ?_) (fun c40 => ?_)
          · refine a_iconst dX9_ifLate_51 ?_
            exact a_iret rfl ⟨by unfold ifLateF; grind, th_F σ, th_T hT⟩ dX9_ifLate_52
          · refine a_iload dX9_ifLate_43 rfl ?_
            refine a_sI (as := [ai m]) (rest := []) (t_isMinute (sN σ 153 0 0) m hm) mvX9_isMinute lX9_320 rfl rfl rfl (Nat.le_of_ble_eq_true rfl) (Nat.le_of_ble_eq_true rfl) (Nat.le_of_ble_eq_true rfl) dX9_ifLate_45 ?_
            refine a_ifb_ne (tgt := 53) dX9_ifLate_48 (by decide) (fun c48 => ?_) (fun c48 => ?_)
            · refine a_iload_n dX9_ifLate_53 rfl rfl ?_
              refine a_iload dX9_ifLate_54 rfl ?_
              refine a_icmp_ne (tgt := 62) dX9_ifLate_56 (by decide) hs ht (fun c56 => ?_) (fun c56 => ?_)
              · refine a_aload_n dX9_ifLate_62 rfl rfl ?_
                refine a_iload_n dX9_ifLate_63 rfl rfl ?_
                refine a_iload_n dX9_ifLate_64 rfl rfl ?_
                refine a_iconst dX9_ifLate_65 ?_
                refine a_callV (c := 153) (as := [ai trip, ai d, ai 0]) (rest := []) (t_looks (sN σ 153 0 0) (Q_W (th_F σ) hW) trip d 0 htrip (by omega) (by omega) (Or.inl rfl) (th_T hT)) mvX9_looks lX9_249 k153 (by decide) rfl rfl rfl rfl (Nat.le_of_ble_eq_true rfl) (Nat.le_of_ble_eq_true rfl) (Nat.le_of_ble_eq_true rfl) dX9_ifLate_66 (fun υ hυ => ?_)
                obtain ⟨hFυ, hTυ, hRυ⟩ := lk_fin hW (th_F σ) (by omega) (by omega) hυ.2
                have hWυ := Q_W hFυ hW
                refine a_aload_n dX9_ifLate_69 rfl rfl ?_
                refine a_iload_n dX9_ifLate_70 rfl rfl ?_
                refine a_iload dX9_ifLate_71 rfl ?_
                refine a_iload dX9_ifLate_73 rfl ?_
                refine a_iconst dX9_ifLate_75 ?_
                refine a_cI (c := 153) (as := [ai s, ai t, ai m, ai 4]) (rest := []) (t_earliestOf υ hWυ hTυ s t m 4 (by omega) (by omega) (by omega) (by omega) (by omega) (by omega) (by omega) (by omega)) mvX9_earliestOf lX9_316 k153 (by decide) rfl rfl rfl rfl (Nat.le_of_ble_eq_true rfl) (Nat.le_of_ble_eq_true rfl) (Nat.le_of_ble_eq_true rfl) dX9_ifLate_76 ?_
                refine a_topI (y := earliestF (look σ trip d 0) s t m 4) (hRυ.earliest _ _ _ _) ?_
                have rE := earliest_rng (look_W hW trip d 0) (look_T hW (trip := trip) (later := d) (gone := 0) (by omega) (by omega)) (s := s) (t := t) (m := m) (k := 4) (by omega) (by omega) (by omega) (by omega) (by omega) (by omega)
                refine a_sI (as := [ai (earliestF (look σ trip d 0) s t m 4)]) (rest := []) (t_orNot υ (earliestF (look σ trip d 0) s t m 4) (inR_of (by omega) (by omega))) mvX9_orNot lX9_326 rfl rfl rfl (Nat.le_of_ble_eq_true rfl) (Nat.le_of_ble_eq_true rfl) (Nat.le_of_ble_eq_true rfl) dX9_ifLate_79 ?_
                exact a_iret rfl ⟨by unfold ifLateF; grind, hFυ, hTυ⟩ dX9_ifLate_82
              · refine a_iload dX9_ifLate_59 rfl ?_
                exact a_iret rfl ⟨by unfold ifLateF; grind, th_F σ, th_T hT⟩ dX9_ifLate_61
            · refine a_iconst dX9_ifLate_51 ?_
              exact a_iret rfl ⟨by unfold ifLateF; grind, th_F σ, th_T hT⟩ dX9_ifLate_52

