set_option maxRecDepth 20000 in
theorem t_firstOf_l (σ : Sto) (hW : WOK σ) (trip : Int) (htr : inR trip) (V : Int) : ∀ (n : Nat) (i : Int), 0 ≤ i → n = (gN σ 155 3 - i).toNat → ∀ x : Int, i ≤ x → x < gN σ 155 3 → (fun i => decide (gN σ 155 (115 + 5 * i + 0) = trip)) x = true → V = fs2 (fun i => decide (gN σ 155 (115 + 5 * i + 0) = trip)) (-1) n i → RunA mX9_firstOf (qI V σ) 2 [(2, ai i), (0, ar 153), (1, ai trip)] [] σ := by
  have hR := hW.1
  intro n
  induction n with
  | zero =>
    intro i h0 hn x h1 h2 h3 hV
    exfalso; omega
  | succ n ih =>
    intro i h0 hn x h1 h2 h3 hV
    refine a_aload_n dX9_firstOf_2 rfl rfl ?_
    refine a_iload_n dX9_firstOf_3 rfl rfl ?_
    refine a_iconst dX9_firstOf_4 ?_
    refine a_cI (c := 153) (as := [ai i, ai 0]) (rest := []) (t_told σ i 0 (by omega) (by omega)) mvX9_told lX9_201 k153 (by decide) rfl rfl rfl rfl (Nat.le_of_ble_eq_true rfl) (Nat.le_of_ble_eq_true rfl) (Nat.le_of_ble_eq_true rfl) dX9_firstOf_5 ?_
    refine a_iload_n dX9_firstOf_8 rfl rfl ?_
    refine a_icmp_eq (tgt := 18) dX9_firstOf_9 (by decide) (inR_gN _ _ _) htr (fun c9 => ?_) (fun c9 => ?_)
    · refine a_iload_n dX9_firstOf_18 rfl rfl ?_
      exact a_iret rfl ⟨by rw [hV, fs2_yes (show (fun i => decide (gN σ 155 (115 + 5 * i + 0) = trip)) i = true by grind)], rfl⟩ dX9_firstOf_19
    · refine a_iinc (y := i + 1) (ls' := [(2, ai (i + 1)), (0, ar 153), (1, ai trip)]) dX9_firstOf_12 rfl rfl (Nat.le_of_ble_eq_true rfl) rfl ?_
      refine a_goto (tgt := 2) dX9_firstOf_15 (by decide) ?_
      have hp : (fun i => decide (gN σ 155 (115 + 5 * i + 0) = trip)) i = false := by grind
      exact a_keep (by simp) (ih (i + 1) (by omega) (by omega) x (lt_of_no (p := (fun i => decide (gN σ 155 (115 + 5 * i + 0) = trip))) hp h3 h1) h2 h3 (by rw [hV, fs2_no hp]))

set_option maxRecDepth 20000 in
theorem t_firstOf (σ : Sto) (trip : Int) (hW : WOK σ) (hR2 : TrOK σ) (ht : trp σ trip) : MetI mX9_firstOf [ar 153, ai trip] σ (foF σ trip) σ := by
  have hR := hW.1
  have hTr := hW.2.2.1
  refine a_entry (by decide) (Nat.le_of_ble_eq_true rfl) ?_
  refine a_iconst dX9_firstOf_0 ?_
  refine a_istore_n (ls' := [(2, ai 0), (0, ar 153), (1, ai trip)]) dX9_firstOf_1 rfl (Nat.le_of_ble_eq_true rfl) rfl ?_
  obtain ⟨x, hx, e⟩ := hR2.1 trip ht
  exact a_keep (by simp) (t_firstOf_l σ hW trip (inR_of (by omega) (by omega)) _ _ 0 (by omega) (by omega) x hx.1 hx.2 (decide_eq_true e) rfl)

set_option maxRecDepth 20000 in
theorem t_manyOf_l (σ : Sto) (hW : WOK σ) (trip : Int) (htr : inR trip) : ∀ (n : Nat) (i : Int) (c : Int), 0 ≤ i → i ≤ 60 → n = (gN σ 155 3 - i).toNat → RunA mX9_manyOf (qI (itr (moF1 σ trip) n i c) σ) 4 [(3, ai i), (2, ai c), (0, ar 153), (1, ai trip)] [] σ := by
  have hR := hW.1
  intro n
  induction n with
  | zero =>
    intro i c h0 h5 hn
    refine a_iload_n dX9_manyOf_4 rfl rfl ?_
    refine a_aload_n dX9_manyOf_5 rfl rfl ?_
    refine a_cI (c := 153) (as := []) (rest := [ai i]) (t_rides σ) mvX9_rides lX9_198 k153 (by decide) rfl rfl rfl rfl (Nat.le_of_ble_eq_true rfl) (Nat.le_of_ble_eq_true rfl) (Nat.le_of_ble_eq_true rfl) dX9_manyOf_6 ?_
    refine a_icmp_ge (tgt := 36) dX9_manyOf_9 (by decide) (inR_of (by omega) (by omega)) (inR_gN _ _ _) (fun c9 => ?_) (fun c9 => ?_)
    · refine a_iload_n dX9_manyOf_36 rfl rfl ?_
      exact a_iret rfl ⟨rfl, rfl⟩ dX9_manyOf_37
    · exfalso; omega
  | succ n ih =>
    intro i c h0 h5 hn
    refine a_iload_n dX9_manyOf_4 rfl rfl ?_
    refine a_aload_n dX9_manyOf_5 rfl rfl ?_
    refine a_cI (c := 153) (as := []) (rest := [ai i]) (t_rides σ) mvX9_rides lX9_198 k153 (by decide) rfl rfl rfl rfl (Nat.le_of_ble_eq_true rfl) (Nat.le_of_ble_eq_true rfl) (Nat.le_of_ble_eq_true rfl) dX9_manyOf_6 ?_
    refine a_icmp_ge (tgt := 36) dX9_manyOf_9 (by decide) (inR_of (by omega) (by omega)) (inR_gN _ _ _) (fun c9 => ?_) (fun c9 => ?_)
    · exfalso; omega
    · refine a_iload_n dX9_manyOf_12 rfl rfl ?_
      refine a_aload_n dX9_manyOf_13 rfl rfl ?_
      refine a_iload_n dX9_manyOf_14 rfl rfl ?_
      refine a_iconst dX9_manyOf_15 ?_
      refine a_cI (c := 153) (as := [ai i, ai 0]) (rest := [ai c]) (t_told σ i 0 (by omega) (by omega)) mvX9_told lX9_201 k153 (by decide) rfl rfl rfl rfl (Nat.le_of_ble_eq_true rfl) (Nat.le_of_ble_eq_true rfl) (Nat.le_of_ble_eq_true rfl) dX9_manyOf_16 ?_
      refine a_iload_n dX9_manyOf_19 rfl rfl ?_
      refine a_icmp_ne (tgt := 27) dX9_manyOf_20 (by decide) (inR_gN _ _ _) htr (fun c20 => ?_) (fun c20 => ?_)
      · refine a_iconst dX9_manyOf_27 ?_
        refine a_iadd dX9_manyOf_28 ?_
        refine a_istore_n (ls' := [(2, ai (c + 0)), (3, ai i), (0, ar 153), (1, ai trip)]) dX9_manyOf_29 rfl (Nat.le_of_ble_eq_true rfl) rfl ?_
        refine a_iinc (y := i + 1) (ls' := [(3, ai (i + 1)), (2, ai (c + 0)), (0, ar 153), (1, ai trip)]) dX9_manyOf_30 rfl rfl (Nat.le_of_ble_eq_true rfl) rfl ?_
        refine a_goto (tgt := 4) dX9_manyOf_33 (by decide) ?_
        have e : moF1 σ trip i c = c + 0 := by unfold moF1; grind
        rw [show itr (moF1 σ trip) (n + 1) i c = itr (moF1 σ trip) n (i + 1) (moF1 σ trip i c) from rfl, e]
        exact a_keep (by simp) (ih (i + 1) (c + 0) (by omega) (by omega) (by omega))
      · refine a_iconst dX9_manyOf_23 ?_
        refine a_goto (tgt := 28) dX9_manyOf_24 (by decide) ?_
        refine a_iadd dX9_manyOf_28 ?_
        refine a_istore_n (ls' := [(2, ai (c + 1)), (3, ai i), (0, ar 153), (1, ai trip)]) dX9_manyOf_29 rfl (Nat.le_of_ble_eq_true rfl) rfl ?_
        refine a_iinc (y := i + 1) (ls' := [(3, ai (i + 1)), (2, ai (c + 1)), (0, ar 153), (1, ai trip)]) dX9_manyOf_30 rfl rfl (Nat.le_of_ble_eq_true rfl) rfl ?_
        refine a_goto (tgt := 4) dX9_manyOf_33 (by decide) ?_
        have e : moF1 σ trip i c = c + 1 := by unfold moF1; grind
        rw [show itr (moF1 σ trip) (n + 1) i c = itr (moF1 σ trip) n (i + 1) (moF1 σ trip i c) from rfl, e]
        exact a_keep (by simp) (ih (i + 1) (c + 1) (by omega) (by omega) (by omega))

set_option maxRecDepth 20000 in
theorem t_manyOf (σ : Sto) (trip : Int) (hW : WOK σ) (htr : inR trip) : MetI mX9_manyOf [ar 153, ai trip] σ (moF σ trip) σ := by
  have hR := hW.1
  refine a_entry (by decide) (Nat.le_of_ble_eq_true rfl) ?_
  refine a_iconst dX9_manyOf_0 ?_
  refine a_istore_n (ls' := [(2, ai 0), (0, ar 153), (1, ai trip)]) dX9_manyOf_1 rfl (Nat.le_of_ble_eq_true rfl) rfl ?_
  refine a_iconst dX9_manyOf_2 ?_
  refine a_istore_n (ls' := [(3, ai 0), (2, ai 0), (0, ar 153), (1, ai trip)]) dX9_manyOf_3 rfl (Nat.le_of_ble_eq_true rfl) rfl ?_
  exact a_keep (by simp) (t_manyOf_l σ hW trip htr _ 0 0 (by omega) (by omega) (by omega))

set_option maxRecDepth 20000 in
theorem t_canGo_l (σ : Sto) (hW : WOK σ) (trip frm mi : Int) (hf : inR frm) (hm0 : -60 ≤ mi) (hm1 : mi ≤ 240) (V : Bool) : ∀ (n : Nat) (i ahead : Int), 0 ≤ i → i < gN σ 155 3 → n = (gN σ 155 3 - i).toNat → -1000 ≤ ahead → ahead ≤ 10000 → n < 100 → V = cgF σ frm mi n i ahead → RunA mX9_canGo (qI (if V = true then 1 else 0) σ) 10 [(5, ai i), (4, ai ahead), (0, ar 153), (1, ai trip), (2, ai frm), (3, ai mi)] [] σ := by
  have hR := hW.1
  intro n
  induction n with
  | zero =>
    intro i ahead h0 h1 hn ha0 ha1 h9 hV
    exfalso; omega
  | succ n ih =>
    intro i ahead h0 h1 hn ha0 ha1 h9 hV
    refine a_iload dX9_canGo_10 rfl ?_
    refine a_iconst dX9_canGo_12 ?_
    refine a_icmp_eq (tgt := 75) dX9_canGo_13 (by decide) (inR_of (by omega) (by omega)) (inR_of (by omega) (by omega)) (fun c13 => ?_) (fun c13 => ?_)
    · exfalso; omega
    · have b := hW.2.2.2.1 i (by omega) (by omega)
      have bs := hW.2.2.2.2.2.2 i (by omega) (by omega)
      refine a_iload dX9_canGo_16 rfl ?_
      refine a_iload_n dX9_canGo_18 rfl rfl ?_
      refine a_icmp_ge (tgt := 32) dX9_canGo_19 (by decide) (inR_of (by omega) (by omega)) hf (fun c19 => ?_) (fun c19 => ?_)
      · refine a_iload_n dX9_canGo_32 rfl rfl ?_
        refine a_istore (ls' := [(6, ai mi), (5, ai i), (4, ai ahead), (0, ar 153), (1, ai trip), (2, ai frm), (3, ai mi)]) dX9_canGo_33 (Nat.le_of_ble_eq_true rfl) rfl ?_
        refine a_aload_n dX9_canGo_35 rfl rfl ?_
        refine a_iload dX9_canGo_36 rfl ?_
        refine a_iconst dX9_canGo_38 ?_
        refine a_cI (c := 153) (as := [ai i, ai 3]) (rest := []) (t_told σ i 3 (by omega) (by omega)) mvX9_told lX9_201 k153 (by decide) rfl rfl rfl rfl (Nat.le_of_ble_eq_true rfl) (Nat.le_of_ble_eq_true rfl) (Nat.le_of_ble_eq_true rfl) dX9_canGo_39 ?_
        refine a_iload dX9_canGo_42 rfl ?_
        refine a_iadd dX9_canGo_44 ?_
        refine a_iload dX9_canGo_45 rfl ?_
        refine a_icmp_ge (tgt := 52) dX9_canGo_47 (by decide) (inR_of (by omega) (by omega)) (inR_of (by omega) (by omega)) (fun c47 => ?_) (fun c47 => ?_)
        · refine a_aload_n dX9_canGo_52 rfl rfl ?_
          refine a_iload dX9_canGo_53 rfl ?_
          refine a_iconst dX9_canGo_55 ?_
          refine a_cI (c := 153) (as := [ai i, ai 4]) (rest := []) (t_told σ i 4 (by omega) (by omega)) mvX9_told lX9_201 k153 (by decide) rfl rfl rfl rfl (Nat.le_of_ble_eq_true rfl) (Nat.le_of_ble_eq_true rfl) (Nat.le_of_ble_eq_true rfl) dX9_canGo_56 ?_
          refine a_iload dX9_canGo_59 rfl ?_
          refine a_iadd dX9_canGo_61 ?_
          refine a_istore (ls' := [(4, ai (gN σ 155 (115 + 5 * i + 4) + mi)), (6, ai mi), (5, ai i), (0, ar 153), (1, ai trip), (2, ai frm), (3, ai mi)]) dX9_canGo_62 (Nat.le_of_ble_eq_true rfl) rfl ?_
          refine a_aload_n dX9_canGo_64 rfl rfl ?_
          refine a_iload dX9_canGo_65 rfl ?_
          refine a_cI (c := 153) (as := [ai i]) (rest := []) (t_behind σ i (by omega) (by omega) (by omega)) mvX9_behind lX9_210 k153 (by decide) rfl rfl rfl rfl (Nat.le_of_ble_eq_true rfl) (Nat.le_of_ble_eq_true rfl) (Nat.le_of_ble_eq_true rfl) dX9_canGo_67 ?_
          by_cases hnx : nxt σ i
          · rw [if_pos hnx]
            refine a_istore (ls' := [(5, ai (i + 1)), (4, ai (gN σ 155 (115 + 5 * i + 4) + mi)), (6, ai mi), (0, ar 153), (1, ai trip), (2, ai frm), (3, ai mi)]) dX9_canGo_70 (Nat.le_of_ble_eq_true rfl) rfl ?_
            refine a_goto (tgt := 10) dX9_canGo_72 (by decide) ?_
            exact a_keep (by simp) (ih (i + 1) (gN σ 155 (115 + 5 * i + 4) + mi) (by omega) (by omega) (by omega) (by omega) (by omega) (by omega) (by rw [hV]; show (if _ then _ else if _ then _ else _) = _; unfold cgB; grind))
          · rw [if_neg hnx]
            refine a_istore (ls' := [(5, ai (-1)), (4, ai (gN σ 155 (115 + 5 * i + 4) + mi)), (6, ai mi), (0, ar 153), (1, ai trip), (2, ai frm), (3, ai mi)]) dX9_canGo_70 (Nat.le_of_ble_eq_true rfl) rfl ?_
            refine a_goto (tgt := 10) dX9_canGo_72 (by decide) ?_
            refine a_iload dX9_canGo_10 rfl ?_
            refine a_iconst dX9_canGo_12 ?_
            refine a_icmp_eq (tgt := 75) dX9_canGo_13 (by decide) (inR_of (by omega) (by omega)) (inR_of (by omega) (by omega)) (fun c13 => ?_) (fun c13 => ?_)
            · refine a_iconst dX9_canGo_75 ?_
              exact a_zret rfl (by omega) ⟨by rw [hV]; show _ = some (ai (if (if _ then _ else if _ then _ else _) = true then 1 else 0)); unfold cgB; grind, rfl⟩ dX9_canGo_76
            · exact absurd c13 (by decide)
        · refine a_iconst dX9_canGo_50 ?_
          exact a_zret rfl (by omega) ⟨by rw [hV]; show _ = some (ai (if (if _ then _ else if _ then _ else _) = true then 1 else 0)); unfold cgB; grind, rfl⟩ dX9_canGo_51
      · refine a_aload_n dX9_canGo_22 rfl rfl ?_
        refine a_getF (d := 158) fX9_26 k153 rfl r153_16 dX9_canGo_23 ?_
        refine a_iload dX9_canGo_26 rfl ?_
        refine a_ild k158 n158 (by omega) (by omega) dX9_canGo_28 ?_
        refine a_goto (tgt := 33) dX9_canGo_29 (by decide) ?_
        refine a_istore (ls' := [(6, ai (gN σ 158 i)), (5, ai i), (4, ai ahead), (0, ar 153), (1, ai trip), (2, ai frm), (3, ai mi)]) dX9_canGo_33 (Nat.le_of_ble_eq_true rfl) rfl ?_
        refine a_aload_n dX9_canGo_35 rfl rfl ?_
        refine a_iload dX9_canGo_36 rfl ?_
        refine a_iconst dX9_canGo_38 ?_
        refine a_cI (c := 153) (as := [ai i, ai 3]) (rest := []) (t_told σ i 3 (by omega) (by omega)) mvX9_told lX9_201 k153 (by decide) rfl rfl rfl rfl (Nat.le_of_ble_eq_true rfl) (Nat.le_of_ble_eq_true rfl) (Nat.le_of_ble_eq_true rfl) dX9_canGo_39 ?_
        refine a_iload dX9_canGo_42 rfl ?_
        refine a_iadd dX9_canGo_44 ?_
        refine a_iload dX9_canGo_45 rfl ?_
        refine a_icmp_ge (tgt := 52) dX9_canGo_47 (by decide) (inR_of (by omega) (by omega)) (inR_of (by omega) (by omega)) (fun c47 => ?_) (fun c47 => ?_)
        · refine a_aload_n dX9_canGo_52 rfl rfl ?_
          refine a_iload dX9_canGo_53 rfl ?_
          refine a_iconst dX9_canGo_55 ?_
          refine a_cI (c := 153) (as := [ai i, ai 4]) (rest := []) (t_told σ i 4 (by omega) (by omega)) mvX9_told lX9_201 k153 (by decide) rfl rfl rfl rfl (Nat.le_of_ble_eq_true rfl) (Nat.le_of_ble_eq_true rfl) (Nat.le_of_ble_eq_true rfl) dX9_canGo_56 ?_
          refine a_iload dX9_canGo_59 rfl ?_
          refine a_iadd dX9_canGo_61 ?_
          refine a_istore (ls' := [(4, ai (gN σ 155 (115 + 5 * i + 4) + (gN σ 158 i))), (6, ai (gN σ 158 i)), (5, ai i), (0, ar 153), (1, ai trip), (2, ai frm), (3, ai mi)]) dX9_canGo_62 (Nat.le_of_ble_eq_true rfl) rfl ?_
          refine a_aload_n dX9_canGo_64 rfl rfl ?_
          refine a_iload dX9_canGo_65 rfl ?_
          refine a_cI (c := 153) (as := [ai i]) (rest := []) (t_behind σ i (by omega) (by omega) (by omega)) mvX9_behind lX9_210 k153 (by decide) rfl rfl rfl rfl (Nat.le_of_ble_eq_true rfl) (Nat.le_of_ble_eq_true rfl) (Nat.le_of_ble_eq_true rfl) dX9_canGo_67 ?_
          by_cases hnx : nxt σ i
          · rw [if_pos hnx]
            refine a_istore (ls' := [(5, ai (i + 1)), (4, ai (gN σ 155 (115 + 5 * i + 4) + (gN σ 158 i))), (6, ai (gN σ 158 i)), (0, ar 153), (1, ai trip), (2, ai frm), (3, ai mi)]) dX9_canGo_70 (Nat.le_of_ble_eq_true rfl) rfl ?_
            refine a_goto (tgt := 10) dX9_canGo_72 (by decide) ?_
            exact a_keep (by simp) (ih (i + 1) (gN σ 155 (115 + 5 * i + 4) + (gN σ 158 i)) (by omega) (by omega) (by omega) (by omega) (by omega) (by omega) (by rw [hV]; show (if _ then _ else if _ then _ else _) = _; unfold cgB; grind))
          · rw [if_neg hnx]
            refine a_istore (ls' := [(5, ai (-1)), (4, ai (gN σ 155 (115 + 5 * i + 4) + (gN σ 158 i))), (6, ai (gN σ 158 i)), (0, ar 153), (1, ai trip), (2, ai frm), (3, ai mi)]) dX9_canGo_70 (Nat.le_of_ble_eq_true rfl) rfl ?_
            refine a_goto (tgt := 10) dX9_canGo_72 (by decide) ?_
            refine a_iload dX9_canGo_10 rfl ?_
            refine a_iconst dX9_canGo_12 ?_
            refine a_icmp_eq (tgt := 75) dX9_canGo_13 (by decide) (inR_of (by omega) (by omega)) (inR_of (by omega) (by omega)) (fun c13 => ?_) (fun c13 => ?_)
            · refine a_iconst dX9_canGo_75 ?_
              exact a_zret rfl (by omega) ⟨by rw [hV]; show _ = some (ai (if (if _ then _ else if _ then _ else _) = true then 1 else 0)); unfold cgB; grind, rfl⟩ dX9_canGo_76
            · exact absurd c13 (by decide)
        · refine a_iconst dX9_canGo_50 ?_
          exact a_zret rfl (by omega) ⟨by rw [hV]; show _ = some (ai (if (if _ then _ else if _ then _ else _) = true then 1 else 0)); unfold cgB; grind, rfl⟩ dX9_canGo_51

set_option maxRecDepth 20000 in
theorem t_canGo (σ : Sto) (trip frm mi : Int) (hW : WOK σ) (hR2 : TrOK σ) (ht : trp σ trip) (hf : inR frm) (hm0 : -60 ≤ mi) (hm1 : mi ≤ 240) : MetI mX9_canGo [ar 153, ai trip, ai frm, ai mi] σ (if canF σ trip frm mi = true then 1 else 0) σ := by
  have hR := hW.1
  have fo := fo_ok hR2 ht
  refine a_entry (by decide) (Nat.le_of_ble_eq_true rfl) ?_
  refine a_iconst dX9_canGo_0 ?_
  refine a_istore (ls' := [(4, ai 0), (0, ar 153), (1, ai trip), (2, ai frm), (3, ai mi)]) dX9_canGo_1 (Nat.le_of_ble_eq_true rfl) rfl ?_
  refine a_aload_n dX9_canGo_3 rfl rfl ?_
  refine a_iload_n dX9_canGo_4 rfl rfl ?_
  refine a_cI (c := 153) (as := [ai trip]) (rest := []) (t_firstOf σ trip hW hR2 ht) mvX9_firstOf lX9_219 k153 (by decide) rfl rfl rfl rfl (Nat.le_of_ble_eq_true rfl) (Nat.le_of_ble_eq_true rfl) (Nat.le_of_ble_eq_true rfl) dX9_canGo_5 ?_
  refine a_istore (ls' := [(5, ai (foF σ trip)), (4, ai 0), (0, ar 153), (1, ai trip), (2, ai frm), (3, ai mi)]) dX9_canGo_8 (Nat.le_of_ble_eq_true rfl) rfl ?_
  exact a_keep (by simp) (t_canGo_l σ hW trip frm mi hf hm0 hm1 _ (gN σ 155 3 - foF σ trip).toNat (foF σ trip) 0 (by omega) (by omega) (by omega) (by omega) (by omega) (by omega) rfl)

set_option maxRecDepth 20000 in
theorem t_keeps_3 (σ : Sto) (hN0 : 0 ≤ (gN σ 153 20 - dn σ)) (hN1 : (gN σ 153 20 - dn σ) ≤ 19) : ∀ (n : Nat) (i : Int) (τ : Sto), 0 ≤ i → i ≤ 60 → n = (60 - i).toNat → Fr pUd σ τ → gN τ 153 20 = gN σ 153 20 - dn σ → (∀ k j : Int, 0 ≤ k → k < (gN σ 153 20 - dn σ) → 0 ≤ j → j < 60 → gN τ 159 (60 * k + j) = gN σ 159 (60 * (k + dn σ) + j)) → (∀ j : Int, 0 ≤ j → j < i → gN τ 159 (60 * (gN σ 153 20 - dn σ) + j) = gN σ 158 j) → (∀ k : Int, 0 ≤ k → k < (gN σ 153 20 - dn σ) → gL τ 160 k = gL σ 160 (k + dn σ)) → RunA mX9_keeps (fun r u => r = none ∧ Kept σ u) 80 [(1, ai i), (0, ar 153)] [] τ := by
  intro n
  induction n with
  | zero =>
    intro i τ h0 h5 hn hF h20 hA hB hL
    refine a_iload_n dX9_keeps_80 rfl rfl ?_
    refine a_bipush (x := 60) dX9_keeps_81 (by decide) ?_
    refine a_icmp_ge (tgt := 112) dX9_keeps_83 (by decide) (inR_of (by omega) (by omega)) (inR_of (by omega) (by omega)) (fun c83 => ?_) (fun c83 => ?_)
    · refine a_aload_n dX9_keeps_112 rfl rfl ?_
      refine a_getF (d := 160) fX9_32 k153 rfl r153_19 dX9_keeps_113 ?_
      refine a_aload_n dX9_keeps_116 rfl rfl ?_
      refine a_getI (J := 20) fX9_183 k153 rfl rfl dX9_keeps_117 ?_
      refine a_topI (y := gN σ 153 20 - dn σ) h20 ?_
      refine a_aload_n dX9_keeps_120 rfl rfl ?_
      refine a_getL (J := 17) fX9_179 k153 rfl rfl dX9_keeps_121 ?_
      refine a_topL (y := gL σ 153 17) (hF.2.1 153 17 (by unfold pUd; omega)) ?_
      refine a_lst k160 n160 (by omega) (by omega) dX9_keeps_124 ?_
      refine a_aload_n dX9_keeps_125 rfl rfl ?_
      refine a_dup dX9_keeps_126 rfl ?_
      refine a_getI (J := 20) fX9_183 k153 rfl rfl dX9_keeps_127 ?_
      refine a_topI (y := gN σ 153 20 - dn σ) (by rw [gN_sL]; exact h20) ?_
      refine a_iconst dX9_keeps_130 ?_
      refine a_iadd dX9_keeps_131 ?_
      refine a_putI (J := 20) fX9_183 k153 rfl rfl rfl dX9_keeps_132 ?_
      exact a_vret rfl ⟨rfl, ((hF.sL (by unfold pUd; omega)).sN (by unfold pUd; omega)), by rw [gN_sN, if_pos ⟨rfl, rfl⟩, nrm_of (inR_of (by omega) (by omega))], fun k j q0 q1 q2 q3 => by rw [gN_sN, if_neg (by omega), gN_sL]; exact hA k j q0 q1 q2 q3, fun j q0 q1 => by rw [gN_sN, if_neg (by omega), gN_sL]; exact hB j q0 (by omega), fun k q0 q1 => by rw [gL_sN, gL_sL, if_neg (by omega)]; exact hL k q0 q1, by rw [gL_sN, gL_sL, if_pos ⟨rfl, rfl⟩]⟩ dX9_keeps_135
    · exfalso; omega
  | succ n ih =>
    intro i τ h0 h5 hn hF h20 hA hB hL
    refine a_iload_n dX9_keeps_80 rfl rfl ?_
    refine a_bipush (x := 60) dX9_keeps_81 (by decide) ?_
    refine a_icmp_ge (tgt := 112) dX9_keeps_83 (by decide) (inR_of (by omega) (by omega)) (inR_of (by omega) (by omega)) (fun c83 => ?_) (fun c83 => ?_)
    · exfalso; omega
    · refine a_aload_n dX9_keeps_86 rfl rfl ?_
      refine a_getF (d := 159) fX9_29 k153 rfl r153_18 dX9_keeps_87 ?_
      refine a_bipush (x := 60) dX9_keeps_90 (by decide) ?_
      refine a_aload_n dX9_keeps_92 rfl rfl ?_
      refine a_getI (J := 20) fX9_183 k153 rfl rfl dX9_keeps_93 ?_
      refine a_topI (y := gN σ 153 20 - dn σ) h20 ?_
      refine a_imul dX9_keeps_96 ?_
      refine a_iload_n dX9_keeps_97 rfl rfl ?_
      refine a_iadd dX9_keeps_98 ?_
      refine a_aload_n dX9_keeps_99 rfl rfl ?_
      refine a_getF (d := 158) fX9_26 k153 rfl r153_16 dX9_keeps_100 ?_
      refine a_iload_n dX9_keeps_103 rfl rfl ?_
      refine a_ild k158 n158 (by omega) (by omega) dX9_keeps_104 ?_
      refine a_topI (y := gN σ 158 i) (hF.1 158 i (by unfold pUd; omega)) ?_
      refine a_ist k159 n159 (by omega) (by omega) dX9_keeps_105 ?_
      refine a_iinc (y := i + 1) (ls' := [(1, ai (i + 1)), (0, ar 153)]) dX9_keeps_106 rfl rfl (Nat.le_of_ble_eq_true rfl) rfl ?_
      refine a_goto (tgt := 80) dX9_keeps_109 (by decide) ?_
      refine a_keep (by simp) (ih (i + 1) (sN τ 159 (60 * (gN σ 153 20 - dn σ) + i) (gN σ 158 i)) (by omega) (by omega) (by omega) (hF.sN (by unfold pUd; omega)) (by rw [gN_sN, if_neg (by omega)]; exact h20) (fun k j q0 q1 q2 q3 => by rw [gN_sN, if_neg (by omega)]; exact hA k j q0 q1 q2 q3) (fun j q0 q1 => ?_) hL)
      rw [gN_sN]
      by_cases e : j = i
      · rw [e, if_pos ⟨rfl, rfl⟩, nrm_of (inR_of (by have := inR_gN σ 158 i; unfold inR at this; omega) (by have := inR_gN σ 158 i; unfold inR at this; omega))]
      · rw [if_neg (by omega)]; exact hB j q0 (by omega)

set_option maxRecDepth 20000 in
theorem t_keeps_1 (σ : Sto) (hx : ∀ τ : Sto, Fr pUd σ τ → gN τ 153 20 = 20 → (∀ j : Int, 0 ≤ j → j < 1140 → gN τ 159 j = gN σ 159 (j + 60)) → (∀ j : Int, gL τ 160 j = gL σ 160 j) → RunA mX9_keeps (fun r u => r = none ∧ Kept σ u) 40 [(0, ar 153)] [] τ) : ∀ (n : Nat) (k : Int) (τ : Sto), 60 ≤ k → k ≤ 1200 → n = (1200 - k).toNat → Fr pUd σ τ → gN τ 153 20 = 20 → (∀ j : Int, 0 ≤ j → j < k - 60 → gN τ 159 j = gN σ 159 (j + 60)) → (∀ j : Int, k - 60 ≤ j → j < 1200 → gN τ 159 j = gN σ 159 j) → (∀ j : Int, gL τ 160 j = gL σ 160 j) → RunA mX9_keeps (fun r u => r = none ∧ Kept σ u) 12 [(1, ai k), (0, ar 153)] [] τ := by
  intro n
  induction n with
  | zero =>
    intro k τ h0 h5 hn hF h20 hA hC hL
    refine a_iload_n dX9_keeps_12 rfl rfl ?_
    refine a_sipush (x := 1200) dX9_keeps_13 (by decide) ?_
    refine a_icmp_ge (tgt := 40) dX9_keeps_16 (by decide) (inR_of (by omega) (by omega)) (inR_of (by omega) (by omega)) (fun c16 => ?_) (fun c16 => ?_)
    · exact a_keep (by simp) (hx τ hF h20 (fun j q0 q1 => hA j q0 (by omega)) hL)
    · exfalso; omega
  | succ n ih =>
    intro k τ h0 h5 hn hF h20 hA hC hL
    refine a_iload_n dX9_keeps_12 rfl rfl ?_
    refine a_sipush (x := 1200) dX9_keeps_13 (by decide) ?_
    refine a_icmp_ge (tgt := 40) dX9_keeps_16 (by decide) (inR_of (by omega) (by omega)) (inR_of (by omega) (by omega)) (fun c16 => ?_) (fun c16 => ?_)
    · exfalso; omega
    · refine a_aload_n dX9_keeps_19 rfl rfl ?_
      refine a_getF (d := 159) fX9_29 k153 rfl r153_18 dX9_keeps_20 ?_
      refine a_iload_n dX9_keeps_23 rfl rfl ?_
      refine a_bipush (x := 60) dX9_keeps_24 (by decide) ?_
      refine a_isub dX9_keeps_26 ?_
      refine a_aload_n dX9_keeps_27 rfl rfl ?_
      refine a_getF (d := 159) fX9_29 k153 rfl r153_18 dX9_keeps_28 ?_
      refine a_iload_n dX9_keeps_31 rfl rfl ?_
      refine a_ild k159 n159 (by omega) (by omega) dX9_keeps_32 ?_
      refine a_ist k159 n159 (by omega) (by omega) dX9_keeps_33 ?_
      refine a_iinc (y := k + 1) (ls' := [(1, ai (k + 1)), (0, ar 153)]) dX9_keeps_34 rfl rfl (Nat.le_of_ble_eq_true rfl) rfl ?_
      refine a_goto (tgt := 12) dX9_keeps_37 (by decide) ?_
      refine a_keep (by simp) (ih (k + 1) (sN τ 159 (k - 60) (gN τ 159 k)) (by omega) (by omega) (by omega) (hF.sN (by unfold pUd; omega)) (by rw [gN_sN, if_neg (by omega)]; exact h20) (fun j q0 q1 => ?_) (fun j q0 q1 => by rw [gN_sN, if_neg (by omega)]; exact hC j (by omega) q1) hL)
      rw [gN_sN]
      by_cases e : j = k - 60
      · rw [e, if_pos ⟨rfl, rfl⟩, hC k (by omega) (by omega), nrm_of (by have := inR_gN σ 159 k; exact this), show k - 60 + 60 = k by omega]
      · rw [if_neg (by omega)]; exact hA j q0 (by omega)

set_option maxRecDepth 20000 in
theorem t_keeps_2 (σ : Sto) (hx : ∀ τ : Sto, Fr pUd σ τ → gN τ 153 20 = 20 → (∀ j : Int, 0 ≤ j → j < 1140 → gN τ 159 j = gN σ 159 (j + 60)) → (∀ j : Int, 0 ≤ j → j < 19 → gL τ 160 j = gL σ 160 (j + 1)) → RunA mX9_keeps (fun r u => r = none ∧ Kept σ u) 68 [(0, ar 153)] [] τ) : ∀ (n : Nat) (k : Int) (τ : Sto), 1 ≤ k → k ≤ 20 → n = (20 - k).toNat → Fr pUd σ τ → gN τ 153 20 = 20 → (∀ j : Int, 0 ≤ j → j < 1140 → gN τ 159 j = gN σ 159 (j + 60)) → (∀ j : Int, 0 ≤ j → j < k - 1 → gL τ 160 j = gL σ 160 (j + 1)) → (∀ j : Int, k - 1 ≤ j → j < 20 → gL τ 160 j = gL σ 160 j) → RunA mX9_keeps (fun r u => r = none ∧ Kept σ u) 42 [(1, ai k), (0, ar 153)] [] τ := by
  intro n
  induction n with
  | zero =>
    intro k τ h0 h5 hn hF h20 hA hL hC
    refine a_iload_n dX9_keeps_42 rfl rfl ?_
    refine a_bipush (x := 20) dX9_keeps_43 (by decide) ?_
    refine a_icmp_ge (tgt := 68) dX9_keeps_45 (by decide) (inR_of (by omega) (by omega)) (inR_of (by omega) (by omega)) (fun c45 => ?_) (fun c45 => ?_)
    · exact a_keep (by simp) (hx τ hF h20 hA (fun j q0 q1 => hL j q0 (by omega)))
    · exfalso; omega
  | succ n ih =>
    intro k τ h0 h5 hn hF h20 hA hL hC
    refine a_iload_n dX9_keeps_42 rfl rfl ?_
    refine a_bipush (x := 20) dX9_keeps_43 (by decide) ?_
    refine a_icmp_ge (tgt := 68) dX9_keeps_45 (by decide) (inR_of (by omega) (by omega)) (inR_of (by omega) (by omega)) (fun c45 => ?_) (fun c45 => ?_)
    · exfalso; omega
    · refine a_aload_n dX9_keeps_48 rfl rfl ?_
      refine a_getF (d := 160) fX9_32 k153 rfl r153_19 dX9_keeps_49 ?_
      refine a_iload_n dX9_keeps_52 rfl rfl ?_
      refine a_iconst dX9_keeps_53 ?_
      refine a_isub dX9_keeps_54 ?_
      refine a_aload_n dX9_keeps_55 rfl rfl ?_
      refine a_getF (d := 160) fX9_32 k153 rfl r153_19 dX9_keeps_56 ?_
      refine a_iload_n dX9_keeps_59 rfl rfl ?_
      refine a_lld k160 n160 (by omega) (by omega) dX9_keeps_60 ?_
      refine a_lst k160 n160 (by omega) (by omega) dX9_keeps_61 ?_
      refine a_iinc (y := k + 1) (ls' := [(1, ai (k + 1)), (0, ar 153)]) dX9_keeps_62 rfl rfl (Nat.le_of_ble_eq_true rfl) rfl ?_
      refine a_goto (tgt := 42) dX9_keeps_65 (by decide) ?_
      refine a_keep (by simp) (ih (k + 1) (sL τ 160 (k - 1) (gL τ 160 k)) (by omega) (by omega) (by omega) (hF.sL (by unfold pUd; omega)) h20 hA (fun j q0 q1 => ?_) (fun j q0 q1 => by rw [gL_sL, if_neg (by omega)]; exact hC j (by omega) q1))
      rw [gL_sL]
      by_cases e : j = k - 1
      · rw [e, if_pos ⟨rfl, rfl⟩, hC k (by omega) (by omega), show k - 1 + 1 = k by omega]
      · rw [if_neg (by omega)]; exact hL j q0 (by omega)

set_option maxRecDepth 20000 in
theorem t_keeps (σ : Sto) (hU : UnOK σ) : MetA mX9_keeps [ar 153] σ (fun r u => r = none ∧ Kept σ u) := by
  have hu := hU.1
  refine a_entry (by decide) (Nat.le_of_ble_eq_true rfl) ?_
  refine a_aload_n dX9_keeps_0 rfl rfl ?_
  refine a_getI (J := 20) fX9_183 k153 rfl rfl dX9_keeps_1 ?_
  refine a_bipush (x := 20) dX9_keeps_4 (by decide) ?_
  refine a_icmp_ne (tgt := 78) dX9_keeps_6 (by decide) (inR_gN _ _ _) (inR_of (by omega) (by omega)) (fun c6 => ?_) (fun c6 => ?_)
  · refine a_iconst dX9_keeps_78 ?_
    refine a_istore_n (ls' := [(1, ai 0), (0, ar 153)]) dX9_keeps_79 rfl (Nat.le_of_ble_eq_true rfl) rfl ?_
    refine a_keep (ls' := [(1, ai 0), (0, ar 153)]) (by simp) ?_
    have ed : dn σ = 0 := by unfold dn; rw [if_neg (by omega)]
    refine t_keeps_3 σ (by omega) (by omega) 60 0 σ (by omega) (by omega) (by omega) Fr.rfl (by omega) (fun k j q0 q1 q2 q3 => by rw [ed]; congr 1; omega) (fun j q0 q1 => by omega) (fun k q0 q1 => by rw [ed, Int.add_zero])
  · refine a_bipush (x := 60) dX9_keeps_9 (by decide) ?_
    refine a_istore_n (ls' := [(1, ai 60), (0, ar 153)]) dX9_keeps_11 rfl (Nat.le_of_ble_eq_true rfl) rfl ?_
    refine a_keep (ls' := [(1, ai 60), (0, ar 153)]) (by simp) ?_
    have ed : dn σ = 1 := by unfold dn; rw [if_pos (by omega)]
    refine t_keeps_1 σ (fun α a1 a2 a3 a4 => ?_) 1140 60 σ (by omega) (by omega) (by omega) Fr.rfl (by omega) (fun j q0 q1 => by omega) (fun j q0 q1 => rfl) (fun j => rfl)
    refine a_iconst dX9_keeps_40 ?_
    refine a_istore_n (ls' := [(1, ai 1), (0, ar 153)]) dX9_keeps_41 rfl (Nat.le_of_ble_eq_true rfl) rfl ?_
    refine a_keep (ls' := [(1, ai 1), (0, ar 153)]) (by simp) ?_
    refine t_keeps_2 σ (fun β b1 b2 b3 b4 => ?_) 19 1 α (by omega) (by omega) (by omega) a1 a2 a3 (fun j q0 q1 => by omega) (fun j q0 q1 => a4 j)
    refine a_aload_n dX9_keeps_68 rfl rfl ?_
    refine a_dup dX9_keeps_69 rfl ?_
    refine a_getI (J := 20) fX9_183 k153 rfl rfl dX9_keeps_70 ?_
    refine a_iconst dX9_keeps_73 ?_
    refine a_isub dX9_keeps_74 ?_
    refine a_putI (J := 20) fX9_183 k153 rfl rfl rfl dX9_keeps_75 ?_
    refine a_iconst dX9_keeps_78 ?_
    refine a_istore_n (ls' := [(1, ai 0), (0, ar 153)]) dX9_keeps_79 rfl (Nat.le_of_ble_eq_true rfl) rfl ?_
    refine a_keep (ls' := [(1, ai 0), (0, ar 153)]) (by simp) ?_
    refine t_keeps_3 σ (by omega) (by omega) 60 0 _ (by omega) (by omega) (by omega) (b1.sN (by unfold pUd; omega)) (by rw [gN_sN, if_pos ⟨rfl, rfl⟩, nrm_of (inR_of (by omega) (by omega))]; omega) (fun k j q0 q1 q2 q3 => by rw [gN_sN, if_neg (by omega), b3 _ (by omega) (by omega), ed]; congr 1; omega) (fun j q0 q1 => by omega) (fun k q0 q1 => by rw [gL_sN, b4 k q0 (by omega), ed])

