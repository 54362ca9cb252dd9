set_option maxRecDepth 20000 in
theorem c_gap_l (σ τ ρ : Sto) (N : Nat) (hW : WV ρ) (hQτ : CQ τ ρ N) (hFτ : Fg pCq σ τ) (s t : Int) (hs0 : 0 ≤ s) (hs1 : s < gN ρ 155 0) (ht0 : 0 ≤ t) (ht1 : t < gN ρ 155 0) (hZτ : gN τ 73 0 = (MK ρ s t).length ∧ gN τ 73 1 = t ∧ RwR τ (MK ρ s t)) (hLn : ((MK ρ s t).length : Int) ≤ 300) (G : Int) : ∀ (n : Nat) (i : Int) (g : Int), 1 ≤ i → i ≤ 301 → n = ((MK ρ s t).length - i).toNat → 0 ≤ g → g ≤ 4000 → G = itr (gpC ρ s t) n i g → RunA mX8_gap (cqQ σ ρ N (if G = 0 then -2 else G)) 34 [(4, ai i), (3, ai g), (0, ar 0), (1, ai s), (2, ai t)] [] τ := by
  have hNk := hQτ.n.k
  have hR := hW.R
  have hS := hW.S
  have hTr := hW.T
  have hCτ := hQτ.c
  have hNτ := hQτ.n
  have hT7τ := hQτ.t
  have hM7τ := hQτ.m
  intro n
  induction n with
  | zero =>
    intro i g h0 h5 hn hg0 hg1 hE
    refine a_iload dX8_gap_34 rfl ?_
    refine a_aload_n dX8_gap_36 rfl rfl ?_
    refine a_getF (d := 73) fX8_37 k0 rfl r0_7 dX8_gap_37 ?_
    refine a_getI (J := 0) fX8_245 k73 rfl rfl dX8_gap_40 ?_
    refine a_topI (y := ((MK ρ s t).length : Int)) hZτ.1 ?_
    refine a_icmp_ge (tgt := 78) dX8_gap_43 (by decide) (inR_of (by omega) (by omega)) (inR_of (by omega) (by omega)) (fun c43 => ?_) (fun c43 => ?_)
    · have hG : G = g := hE
      refine a_iload_n dX8_gap_78 rfl rfl ?_
      refine a_if_ne (tgt := 87) dX8_gap_79 (by decide) (inR_of (by omega) (by omega)) (fun c79 => ?_) (fun c79 => ?_)
      · refine a_iload_n dX8_gap_87 rfl rfl ?_
        exact a_iret rfl ⟨by rw [hG, if_neg (by omega)], hQτ, hFτ⟩ dX8_gap_88
      · refine a_bipush (x := (-2)) dX8_gap_82 (by decide) ?_
        refine a_goto (tgt := 88) dX8_gap_84 (by decide) ?_
        exact a_iret rfl ⟨by rw [hG, if_pos (by omega)], hQτ, hFτ⟩ dX8_gap_88
    · exfalso; omega
  | succ n ih =>
    intro i g h0 h5 hn hg0 hg1 hE
    refine a_iload dX8_gap_34 rfl ?_
    refine a_aload_n dX8_gap_36 rfl rfl ?_
    refine a_getF (d := 73) fX8_37 k0 rfl r0_7 dX8_gap_37 ?_
    refine a_getI (J := 0) fX8_245 k73 rfl rfl dX8_gap_40 ?_
    refine a_topI (y := ((MK ρ s t).length : Int)) hZτ.1 ?_
    refine a_icmp_ge (tgt := 78) dX8_gap_43 (by decide) (inR_of (by omega) (by omega)) (inR_of (by omega) (by omega)) (fun c43 => ?_) (fun c43 => ?_)
    · exfalso; omega
    · refine a_iload_n dX8_gap_46 rfl rfl ?_
      refine a_aload_n dX8_gap_47 rfl rfl ?_
      refine a_getF (d := 73) fX8_37 k0 rfl r0_7 dX8_gap_48 ?_
      refine a_iload dX8_gap_51 rfl ?_
      refine a_cI (c := 73) (as := [ai i]) (rest := [ai g]) (c_departure τ (MK ρ s t) hZτ.2.2 hLn i (by omega) (by omega)) mvX4_departure lX8_246 k73 (by decide) rfl rfl rfl rfl (Nat.le_of_ble_eq_true rfl) (Nat.le_of_ble_eq_true rfl) (Nat.le_of_ble_eq_true rfl) dX8_gap_53 ?_
      have hrw87 := row_rng4 hW (s := s) (t := t) (i := i) hs0 hs1 ht0 ht1 (by omega) (by omega)
      refine a_topI (y := (row (MK ρ s t) i).1) rfl ?_
      refine a_aload_n dX8_gap_56 rfl rfl ?_
      refine a_getF (d := 73) fX8_37 k0 rfl r0_7 dX8_gap_57 ?_
      refine a_iload dX8_gap_60 rfl ?_
      refine a_iconst dX8_gap_62 ?_
      refine a_isub dX8_gap_63 ?_
      refine a_cI (c := 73) (as := [ai (i - 1)]) (rest := [ai ((row (MK ρ s t) i).1), ai g]) (c_departure τ (MK ρ s t) hZτ.2.2 hLn (i - 1) (by omega) (by omega)) mvX4_departure lX8_246 k73 (by decide) rfl rfl rfl rfl (Nat.le_of_ble_eq_true rfl) (Nat.le_of_ble_eq_true rfl) (Nat.le_of_ble_eq_true rfl) dX8_gap_64 ?_
      have hrw88 := row_rng4 hW (s := s) (t := t) (i := (i - 1)) hs0 hs1 ht0 ht1 (by omega) (by omega)
      refine a_topI (y := (row (MK ρ s t) (i - 1)).1) rfl ?_
      refine a_isub dX8_gap_67 ?_
      refine a_mmax lm8_283 (inR_of (by omega) (by omega)) (inR_of (by omega) (by omega)) (Nat.le_of_ble_eq_true rfl) (Nat.le_of_ble_eq_true rfl) (Nat.le_of_ble_eq_true rfl) dX8_gap_68 ?_
      refine a_topI (y := gpC ρ s t i g) rfl ?_
      have hg2 : 0 ≤ gpC ρ s t i g ∧ gpC ρ s t i g ≤ 4000 := by unfold gpC mxI; split <;> omega
      refine a_istore_n (ls' := [(3, ai (gpC ρ s t i g)), (4, ai i), (0, ar 0), (1, ai s), (2, ai t)]) dX8_gap_71 rfl (Nat.le_of_ble_eq_true rfl) rfl ?_
      refine a_iinc (y := i + 1) (ls' := [(4, ai (i + 1)), (3, ai (gpC ρ s t i g)), (0, ar 0), (1, ai s), (2, ai t)]) dX8_gap_72 rfl rfl (Nat.le_of_ble_eq_true rfl) rfl ?_
      refine a_goto (tgt := 34) dX8_gap_75 (by decide) ?_
      exact a_keep (by simp) (ih (i + 1) (gpC ρ s t i g) (by omega) (by omega) (by omega) (by omega) (by omega) (by rw [hE, itr_s]))

set_option maxRecDepth 20000 in
theorem c_gap (σ ρ : Sto) (N : Nat) (hW : WV ρ) (hQ : CQ σ ρ N) (s t : Int) (hs : inR s) (ht : inR t) : MetA mX8_gap [ar 0, ai s, ai t] σ (cqQ σ ρ N (cGap ρ s t)) := by
  have hC := hQ.c
  have hN := hQ.n
  have hT7 := hQ.t
  have hM7 := hQ.m
  have hF : Fg pCq σ σ := Fg.rfl
  have hNk := hN.k
  have hR := hW.R
  have hS := hW.S
  have hTr := hW.T
  refine a_entry (by decide) (Nat.le_of_ble_eq_true rfl) ?_
  refine a_ls (ls' := [(0, ar 0), (1, ai s), (2, ai t)]) rfl ?_
  refine a_aload_n dX8_gap_0 rfl rfl ?_
  refine a_iload_n dX8_gap_1 rfl rfl ?_
  refine a_iload_n dX8_gap_2 rfl rfl ?_
  refine a_cI (c := 0) (as := [ai s, ai t]) (rest := []) (c_arePair σ ρ N hW hC hN s t hs ht) mvX8_arePair lX8_238 k0 (by decide) rfl rfl rfl rfl (Nat.le_of_ble_eq_true rfl) (Nat.le_of_ble_eq_true rfl) (Nat.le_of_ble_eq_true rfl) dX8_gap_3 ?_
  refine a_ifb_ne (tgt := 11) dX8_gap_6 (by decide) (fun c6 => ?_) (fun c6 => ?_)
  · refine a_aload_n dX8_gap_11 rfl rfl ?_
    refine a_getF (d := 73) fX8_37 k0 rfl r0_7 dX8_gap_12 ?_
    refine a_aload_n dX8_gap_15 rfl rfl ?_
    refine a_getF (d := 7) fX8_81 k0 rfl r0_3 dX8_gap_16 ?_
    refine a_aload_n dX8_gap_19 rfl rfl ?_
    refine a_getF (d := 38) fX8_30 k0 rfl r0_6 dX8_gap_20 ?_
    refine a_iload_n dX8_gap_23 rfl rfl ?_
    refine a_iload_n dX8_gap_24 rfl rfl ?_
    refine a_iconst dX8_gap_25 ?_
    refine a_callV (c := 73) (as := [ar 7, ar 38, ai s, ai t, ai 4]) (rest := []) (c_make σ ρ N hW hQ s t 4 (by omega) (by omega) (by omega) (by omega) (by omega) (by omega)) mvX4_make lX8_241 k73 (by decide) rfl rfl rfl rfl (Nat.le_of_ble_eq_true rfl) (Nat.le_of_ble_eq_true rfl) (Nat.le_of_ble_eq_true rfl) dX8_gap_26 (fun u89 hu => ?_)
    obtain ⟨-, hKu89⟩ := hu
    have hQu89 : CQ u89 ρ N := hKu89.2.1
    have hCu89 := hQu89.c
    have hNu89 := hQu89.n
    have hT7u89 := hQu89.t
    have hM7u89 := hQu89.m
    have hFu89 : Fg pCq σ u89 := hF.trans (hKu89.1.mono (fun c j z => pMk_Q z))
    have hZu89 := hKu89.2.2.1
    have hLnu89 : ((MK ρ s t).length : Int) ≤ 300 := hKu89.2.2.2.1
    refine a_iconst dX8_gap_29 ?_
    refine a_istore_n (ls' := [(3, ai 0), (0, ar 0), (1, ai s), (2, ai t)]) dX8_gap_30 rfl (Nat.le_of_ble_eq_true rfl) rfl ?_
    refine a_iconst dX8_gap_31 ?_
    refine a_istore (ls' := [(4, ai 1), (3, ai 0), (0, ar 0), (1, ai s), (2, ai t)]) dX8_gap_32 (Nat.le_of_ble_eq_true rfl) rfl ?_
    have e : cGap ρ s t = if itr (gpC ρ s t) ((MK ρ s t).length - 1) 1 0 = 0 then -2 else itr (gpC ρ s t) ((MK ρ s t).length - 1) 1 0 := by unfold cGap; rw [if_neg (by grind)]
    rw [e]
    exact a_keep (by simp) (c_gap_l σ u89 ρ N hW hQu89 hFu89 s t (by omega) (by omega) (by omega) (by omega) hZu89 hLnu89 _ ((MK ρ s t).length - 1) 1 0 (by omega) (by omega) (by omega) (by omega) (by omega) rfl)
  · refine a_iconst dX8_gap_9 ?_
    exact a_iret rfl ⟨by unfold cGap; grind, hQ, hF⟩ dX8_gap_10

set_option maxRecDepth 20000 in
theorem c_quick_l (σ τ ρ : Sto) (N : Nat) (hW : WV ρ) (hQτ : CQ τ ρ N) (hFτ : Fg pCq σ τ) (s t : Int) (hs0 : 0 ≤ s) (hs1 : s < gN ρ 155 0) (ht0 : 0 ≤ t) (ht1 : t < gN ρ 155 0) (hZτ : gN τ 73 0 = (MK ρ s t).length ∧ gN τ 73 1 = t ∧ RwR τ (MK ρ s t)) (hLn : ((MK ρ s t).length : Int) ≤ 300) (what V : Int) (hw0 : 0 ≤ what) (hw1 : what ≤ 1) : ∀ (n : Nat) (i : Int) (least : Int) (best : Int), 0 ≤ i → i ≤ (MK ρ s t).length → n = ((MK ρ s t).length - i).toNat → -10000 ≤ least → least ≤ 1000000 → -2 ≤ best → best ≤ 300 → V = meR (itr (qkC ρ s t) n i (best, least)) what → RunA mX8_quickest (cqQ σ ρ N V) 50 [(6, ai i), (5, ai least), (4, ai best), (0, ar 0), (1, ai s), (2, ai t), (3, ai what)] [] τ := by
  have hNk := hQτ.n.k
  have hR := hW.R
  have hS := hW.S
  have hTr := hW.T
  have hCτ := hQτ.c
  have hNτ := hQτ.n
  have hT7τ := hQτ.t
  have hM7τ := hQτ.m
  intro n
  induction n with
  | zero =>
    intro i least best h0 h5 hn hl0 hl1 hb0 hb1 hE
    refine a_iload dX8_quickest_50 rfl ?_
    refine a_aload_n dX8_quickest_52 rfl rfl ?_
    refine a_getF (d := 73) fX8_37 k0 rfl r0_7 dX8_quickest_53 ?_
    refine a_getI (J := 0) fX8_245 k73 rfl rfl dX8_quickest_56 ?_
    refine a_topI (y := ((MK ρ s t).length : Int)) hZτ.1 ?_
    refine a_icmp_ge (tgt := 104) dX8_quickest_59 (by decide) (inR_of (by omega) (by omega)) (inR_of (by omega) (by omega)) (fun c59 => ?_) (fun c59 => ?_)
    · refine a_iload dX8_quickest_104 rfl ?_
      refine a_if_ge (tgt := 112) dX8_quickest_106 (by decide) (inR_of (by omega) (by omega)) (fun c106 => ?_) (fun c106 => ?_)
      · refine a_iload_n dX8_quickest_112 rfl rfl ?_
        refine a_if_ne (tgt := 121) dX8_quickest_113 (by decide) (inR_of (by omega) (by omega)) (fun c113 => ?_) (fun c113 => ?_)
        · refine a_iload dX8_quickest_121 rfl ?_
          exact a_iret rfl ⟨by rw [hE]; show _ = some (ai (meR (best, least) what)); unfold meR; dsimp only; grind, hQτ, hFτ⟩ dX8_quickest_123
        · refine a_iload dX8_quickest_116 rfl ?_
          refine a_goto (tgt := 123) dX8_quickest_118 (by decide) ?_
          exact a_iret rfl ⟨by rw [hE]; show _ = some (ai (meR (best, least) what)); unfold meR; dsimp only; grind, hQτ, hFτ⟩ dX8_quickest_123
      · refine a_bipush (x := (-2)) dX8_quickest_109 (by decide) ?_
        exact a_iret rfl ⟨by rw [hE]; show _ = some (ai (meR (best, least) what)); unfold meR; dsimp only; grind, hQτ, hFτ⟩ dX8_quickest_111
    · exfalso; omega
  | succ n ih =>
    intro i least best h0 h5 hn hl0 hl1 hb0 hb1 hE
    refine a_iload dX8_quickest_50 rfl ?_
    refine a_aload_n dX8_quickest_52 rfl rfl ?_
    refine a_getF (d := 73) fX8_37 k0 rfl r0_7 dX8_quickest_53 ?_
    refine a_getI (J := 0) fX8_245 k73 rfl rfl dX8_quickest_56 ?_
    refine a_topI (y := ((MK ρ s t).length : Int)) hZτ.1 ?_
    refine a_icmp_ge (tgt := 104) dX8_quickest_59 (by decide) (inR_of (by omega) (by omega)) (inR_of (by omega) (by omega)) (fun c59 => ?_) (fun c59 => ?_)
    · exfalso; omega
    · refine a_aload_n dX8_quickest_62 rfl rfl ?_
      refine a_getF (d := 73) fX8_37 k0 rfl r0_7 dX8_quickest_63 ?_
      refine a_iload dX8_quickest_66 rfl ?_
      refine a_cI (c := 73) (as := [ai i]) (rest := []) (c_arrival τ (MK ρ s t) hZτ.2.2 hLn i (by omega) (by omega)) mvX4_arrival lX8_249 k73 (by decide) rfl rfl rfl rfl (Nat.le_of_ble_eq_true rfl) (Nat.le_of_ble_eq_true rfl) (Nat.le_of_ble_eq_true rfl) dX8_quickest_68 ?_
      have hrw90 := row_rng4 hW (s := s) (t := t) (i := i) hs0 hs1 ht0 ht1 (by omega) (by omega)
      refine a_topI (y := (row (MK ρ s t) i).2.1) rfl ?_
      refine a_aload_n dX8_quickest_71 rfl rfl ?_
      refine a_getF (d := 73) fX8_37 k0 rfl r0_7 dX8_quickest_72 ?_
      refine a_iload dX8_quickest_75 rfl ?_
      refine a_cI (c := 73) (as := [ai i]) (rest := [ai ((row (MK ρ s t) i).2.1)]) (c_departure τ (MK ρ s t) hZτ.2.2 hLn i (by omega) (by omega)) mvX4_departure lX8_246 k73 (by decide) rfl rfl rfl rfl (Nat.le_of_ble_eq_true rfl) (Nat.le_of_ble_eq_true rfl) (Nat.le_of_ble_eq_true rfl) dX8_quickest_77 ?_
      have hrw91 := row_rng4 hW (s := s) (t := t) (i := i) hs0 hs1 ht0 ht1 (by omega) (by omega)
      refine a_topI (y := (row (MK ρ s t) i).1) rfl ?_
      refine a_isub dX8_quickest_80 ?_
      refine a_istore (ls' := [(7, ai ((row (MK ρ s t) i).2.1 - ((row (MK ρ s t) i).1))), (6, ai i), (5, ai least), (4, ai best), (0, ar 0), (1, ai s), (2, ai t), (3, ai what)]) dX8_quickest_81 (Nat.le_of_ble_eq_true rfl) rfl ?_
      refine a_iload dX8_quickest_83 rfl ?_
      refine a_iload dX8_quickest_85 rfl ?_
      refine a_icmp_ge (tgt := 98) dX8_quickest_87 (by decide) (inR_of (by omega) (by omega)) (inR_of (by omega) (by omega)) (fun c87 => ?_) (fun c87 => ?_)
      · refine a_iinc (y := i + 1) (ls' := [(6, ai (i + 1)), (7, ai ((row (MK ρ s t) i).2.1 - ((row (MK ρ s t) i).1))), (5, ai least), (4, ai best), (0, ar 0), (1, ai s), (2, ai t), (3, ai what)]) dX8_quickest_98 rfl rfl (Nat.le_of_ble_eq_true rfl) rfl ?_
        refine a_goto (tgt := 50) dX8_quickest_101 (by decide) ?_
        have e : qkC ρ s t i (best, least) = (best, least) := by unfold qkC; dsimp only; rw [if_neg (by omega)]
        exact a_keep (by simp) (ih (i + 1) (least) (best) (by omega) (by omega) (by omega) (by omega) (by omega) (by omega) (by omega) (by rw [hE, itr_s, e]))
      · refine a_iload dX8_quickest_90 rfl ?_
        refine a_istore (ls' := [(4, ai i), (7, ai ((row (MK ρ s t) i).2.1 - ((row (MK ρ s t) i).1))), (6, ai i), (5, ai least), (0, ar 0), (1, ai s), (2, ai t), (3, ai what)]) dX8_quickest_92 (Nat.le_of_ble_eq_true rfl) rfl ?_
        refine a_iload dX8_quickest_94 rfl ?_
        refine a_istore (ls' := [(5, ai ((row (MK ρ s t) i).2.1 - ((row (MK ρ s t) i).1))), (4, ai i), (7, ai ((row (MK ρ s t) i).2.1 - ((row (MK ρ s t) i).1))), (6, ai i), (0, ar 0), (1, ai s), (2, ai t), (3, ai what)]) dX8_quickest_96 (Nat.le_of_ble_eq_true rfl) rfl ?_
        refine a_iinc (y := i + 1) (ls' := [(6, ai (i + 1)), (5, ai ((row (MK ρ s t) i).2.1 - ((row (MK ρ s t) i).1))), (4, ai i), (7, ai ((row (MK ρ s t) i).2.1 - ((row (MK ρ s t) i).1))), (0, ar 0), (1, ai s), (2, ai t), (3, ai what)]) dX8_quickest_98 rfl rfl (Nat.le_of_ble_eq_true rfl) rfl ?_
        refine a_goto (tgt := 50) dX8_quickest_101 (by decide) ?_
        have e : qkC ρ s t i (best, least) = (i, (row (MK ρ s t) i).2.1 - ((row (MK ρ s t) i).1)) := by unfold qkC; dsimp only; rw [if_pos (by omega)]
        exact a_keep (by simp) (ih (i + 1) ((row (MK ρ s t) i).2.1 - ((row (MK ρ s t) i).1)) (i) (by omega) (by omega) (by omega) (by omega) (by omega) (by omega) (by omega) (by rw [hE, itr_s, e]))

set_option maxRecDepth 20000 in
theorem c_quickest (σ ρ : Sto) (N : Nat) (hW : WV ρ) (hQ : CQ σ ρ N) (s t what : Int) (hs : inR s) (ht : inR t) (hwhat : inR what) : MetA mX8_quickest [ar 0, ai s, ai t, ai what] σ (cqQ σ ρ N (cQuickest ρ s t what)) := by
  have hC := hQ.c
  have hN := hQ.n
  have hT7 := hQ.t
  have hM7 := hQ.m
  have hF : Fg pCq σ σ := Fg.rfl
  have hNk := hN.k
  have hR := hW.R
  have hS := hW.S
  have hTr := hW.T
  refine a_entry (by decide) (Nat.le_of_ble_eq_true rfl) ?_
  refine a_ls (ls' := [(0, ar 0), (1, ai s), (2, ai t), (3, ai what)]) rfl ?_
  refine a_aload_n dX8_quickest_0 rfl rfl ?_
  refine a_iload_n dX8_quickest_1 rfl rfl ?_
  refine a_iload_n dX8_quickest_2 rfl rfl ?_
  refine a_cI (c := 0) (as := [ai s, ai t]) (rest := []) (c_arePair σ ρ N hW hC hN s t hs ht) mvX8_arePair lX8_238 k0 (by decide) rfl rfl rfl rfl (Nat.le_of_ble_eq_true rfl) (Nat.le_of_ble_eq_true rfl) (Nat.le_of_ble_eq_true rfl) dX8_quickest_3 ?_
  refine a_ifb_eq (tgt := 18) dX8_quickest_6 (by decide) (fun c6 => ?_) (fun c6 => ?_)
  · refine a_iconst dX8_quickest_18 ?_
    exact a_iret rfl ⟨by unfold cQuickest; grind, hQ, hF⟩ dX8_quickest_19
  · refine a_iload_n dX8_quickest_9 rfl rfl ?_
    refine a_iconst dX8_quickest_10 ?_
    refine a_iconst dX8_quickest_11 ?_
    refine a_sI (as := [ai what, ai 0, ai 1]) (rest := []) (c_within σ what 0 1 hwhat (inR_of (by omega) (by omega)) (inR_of (by omega) (by omega))) mvX8_within lX8_179 rfl rfl rfl (Nat.le_of_ble_eq_true rfl) (Nat.le_of_ble_eq_true rfl) (Nat.le_of_ble_eq_true rfl) dX8_quickest_12 ?_
    refine a_ifb_ne (tgt := 20) dX8_quickest_15 (by decide) (fun c15 => ?_) (fun c15 => ?_)
    · refine a_aload_n dX8_quickest_20 rfl rfl ?_
      refine a_getF (d := 73) fX8_37 k0 rfl r0_7 dX8_quickest_21 ?_
      refine a_aload_n dX8_quickest_24 rfl rfl ?_
      refine a_getF (d := 7) fX8_81 k0 rfl r0_3 dX8_quickest_25 ?_
      refine a_aload_n dX8_quickest_28 rfl rfl ?_
      refine a_getF (d := 38) fX8_30 k0 rfl r0_6 dX8_quickest_29 ?_
      refine a_iload_n dX8_quickest_32 rfl rfl ?_
      refine a_iload_n dX8_quickest_33 rfl rfl ?_
      refine a_iconst dX8_quickest_34 ?_
      refine a_callV (c := 73) (as := [ar 7, ar 38, ai s, ai t, ai 4]) (rest := []) (c_make σ ρ N hW hQ s t 4 (by omega) (by omega) (by omega) (by omega) (by omega) (by omega)) mvX4_make lX8_241 k73 (by decide) rfl rfl rfl rfl (Nat.le_of_ble_eq_true rfl) (Nat.le_of_ble_eq_true rfl) (Nat.le_of_ble_eq_true rfl) dX8_quickest_35 (fun u92 hu => ?_)
      obtain ⟨-, hKu92⟩ := hu
      have hQu92 : CQ u92 ρ N := hKu92.2.1
      have hCu92 := hQu92.c
      have hNu92 := hQu92.n
      have hT7u92 := hQu92.t
      have hM7u92 := hQu92.m
      have hFu92 : Fg pCq σ u92 := hF.trans (hKu92.1.mono (fun c j z => pMk_Q z))
      have hZu92 := hKu92.2.2.1
      have hLnu92 : ((MK ρ s t).length : Int) ≤ 300 := hKu92.2.2.2.1
      refine a_bipush (x := (-2)) dX8_quickest_38 (by decide) ?_
      refine a_istore (ls' := [(4, ai (-2)), (0, ar 0), (1, ai s), (2, ai t), (3, ai what)]) dX8_quickest_40 (Nat.le_of_ble_eq_true rfl) rfl ?_
      refine a_ldc_w (x := 1000000) cX8_286 (by decide) dX8_quickest_42 ?_
      refine a_istore (ls' := [(5, ai 1000000), (4, ai (-2)), (0, ar 0), (1, ai s), (2, ai t), (3, ai what)]) dX8_quickest_45 (Nat.le_of_ble_eq_true rfl) rfl ?_
      refine a_iconst dX8_quickest_47 ?_
      refine a_istore (ls' := [(6, ai 0), (5, ai 1000000), (4, ai (-2)), (0, ar 0), (1, ai s), (2, ai t), (3, ai what)]) dX8_quickest_48 (Nat.le_of_ble_eq_true rfl) rfl ?_
      have e : cQuickest ρ s t what = meR (itr (qkC ρ s t) (MK ρ s t).length 0 (-2, 1000000)) what := by unfold cQuickest; rw [if_neg (by grind)]
      rw [e]
      exact a_keep (by simp) (c_quick_l σ u92 ρ N hW hQu92 hFu92 s t (by omega) (by omega) (by omega) (by omega) hZu92 hLnu92 what _ (by omega) (by omega) (MK ρ s t).length 0 1000000 (-2) (by omega) (by omega) (by omega) (by omega) (by omega) (by omega) (by omega) rfl)
    · refine a_iconst dX8_quickest_18 ?_
      exact a_iret rfl ⟨by unfold cQuickest; grind, hQ, hF⟩ dX8_quickest_19

def cbP (ρ : Sto) (trip d s t i : Int) : Prop := if d = 0 then anyZ (aoP ρ (UL ρ s t i) trip) (UL ρ s t i).length 0 = true else anyZ (bbP ρ (UL ρ s t i) trip d) ((UL ρ s t i).length - 1) 1 = true
def ciF (ρ : Sto) (trip d s t i n : Int) : Int := if d = 0 then (if anyZ (aoP ρ (UL ρ s t i) trip) (UL ρ s t i).length 0 = true then n + 1 else n) else if anyZ (bbP ρ (UL ρ s t i) trip d) ((UL ρ s t i).length - 1) 1 = true then n + 1 else n
def csF (ρ : Sto) (trip d t s n : Int) : Int := if s = t then n else itr (ciF ρ trip d s t) (MK ρ s t).length 0 n
def ctoT (ρ : Sto) (t trip d : Int) : Int := itr (csF ρ trip d t) (gN ρ 155 0).toNat 0 0

set_option maxRecDepth 20000 in
theorem c_cto_i (σ ρ : Sto) (N : Nat) (hW : WV ρ) (trip d : Int) (htr : inR trip) (hd0 : 0 ≤ d) (hd1 : d ≤ 240) (s t : Int) (hs0 : 0 ≤ s) (hs1 : s < gN ρ 155 0) (ht0 : 0 ≤ t) (ht1 : t < gN ρ 155 0) (hLn : ((MK ρ s t).length : Int) ≤ 300) (Q : Option Av → Sto → Prop) (V : Int) (hx : ∀ υ : Sto, CQ υ ρ N → Fg pCq σ υ → RunA mX8_countTo Q 125 [(5, ai s), (4, ai V), (0, ar 0), (1, ai t), (2, ai trip), (3, ai d)] [] υ) : ∀ (n : Nat) (i : Int) (c : Int) (τ : Sto), 0 ≤ i → i ≤ (MK ρ s t).length → n = ((MK ρ s t).length - i).toNat → CQ τ ρ N → Fg pCq σ τ → gN τ 73 0 = (MK ρ s t).length ∧ gN τ 73 1 = t ∧ RwR τ (MK ρ s t) → gN τ 42 t = 1 → V = itr (ciF ρ trip d s t) n i c → RunA mX8_countTo Q 49 [(6, ai i), (5, ai s), (4, ai c), (0, ar 0), (1, ai t), (2, ai trip), (3, ai d)] [] τ := by
  have hR := hW.R
  have hS := hW.S
  have hTr := hW.T
  intro n
  induction n with
  | zero =>
    intro i c τ h0 h5 hn hQτ hFτ hZτ h42 hE
    have hNk := hQτ.n.k
    have hCτ := hQτ.c
    have hNτ := hQτ.n
    have hT7τ := hQτ.t
    have hM7τ := hQτ.m
    refine a_iload dX8_countTo_49 rfl ?_
    refine a_aload_n dX8_countTo_51 rfl rfl ?_
    refine a_getF (d := 73) fX8_37 k0 rfl r0_7 dX8_countTo_52 ?_
    refine a_getI (J := 0) fX8_245 k73 rfl rfl dX8_countTo_55 ?_
    refine a_topI (y := ((MK ρ s t).length : Int)) hZτ.1 ?_
    refine a_icmp_ge (tgt := 125) dX8_countTo_58 (by decide) (inR_of (by omega) (by omega)) (inR_of (by omega) (by omega)) (fun c58 => ?_) (fun c58 => ?_)
    · have hV : V = c := hE
      rw [hV] at hx
      exact a_keep (by simp) (hx τ hQτ hFτ)
    · exfalso; omega
  | succ n ih =>
    intro i c τ h0 h5 hn hQτ hFτ hZτ h42 hE
    have hNk := hQτ.n.k
    have hCτ := hQτ.c
    have hNτ := hQτ.n
    have hT7τ := hQτ.t
    have hM7τ := hQτ.m
    refine a_iload dX8_countTo_49 rfl ?_
    refine a_aload_n dX8_countTo_51 rfl rfl ?_
    refine a_getF (d := 73) fX8_37 k0 rfl r0_7 dX8_countTo_52 ?_
    refine a_getI (J := 0) fX8_245 k73 rfl rfl dX8_countTo_55 ?_
    refine a_topI (y := ((MK ρ s t).length : Int)) hZτ.1 ?_
    refine a_icmp_ge (tgt := 125) dX8_countTo_58 (by decide) (inR_of (by omega) (by omega)) (inR_of (by omega) (by omega)) (fun c58 => ?_) (fun c58 => ?_)
    · exfalso; omega
    · have hro : RowOK ρ t 4 (row (MK ρ s t) i) := mkF_ok hW (by omega) _ (row_mem (L := MK ρ s t) (by omega) (by omega))
      refine a_aload_n dX8_countTo_61 rfl rfl ?_
      refine a_getF (d := 73) fX8_37 k0 rfl r0_7 dX8_countTo_62 ?_
      refine a_iload dX8_countTo_65 rfl ?_
      refine a_aload_n dX8_countTo_67 rfl rfl ?_
      refine a_getF (d := 38) fX8_30 k0 rfl r0_6 dX8_countTo_68 ?_
      refine a_aload_n dX8_countTo_71 rfl rfl ?_
      refine a_getF (d := 83) fX8_44 k0 rfl r0_8 dX8_countTo_72 ?_
      refine a_callV (c := 73) (as := [ai i, ar 38, ar 83]) (rest := []) (c_unfoldP τ ρ hW t ht0 ht1 (hQτ.o t ht0 (by omega) |>.2 ht1 h42) hZτ.2.1 (MK ρ s t) hZτ.2.2 hLn i (by omega) (by omega) hro.1 hro.2.1 (row_bet hW hro)) mvX4_unfold lX8_265 k73 (by decide) rfl rfl rfl rfl (Nat.le_of_ble_eq_true rfl) (Nat.le_of_ble_eq_true rfl) (Nat.le_of_ble_eq_true rfl) dX8_countTo_75 (fun υ hv => ?_)
      obtain ⟨-, hv1, hv2⟩ := hv
      have hQυ : CQ υ ρ N := hQτ.aft hS.2 hR.2 (hv1.mono (fun c j z => by unfold pAft; omega))
      have hCυ := hQυ.c
      have hNυ := hQυ.n
      have hT7υ := hQυ.t
      have hFυ : Fg pCq σ υ := hFτ.trans (hv1.mono (fun c j z => by unfold pCq; omega))
      have hLgυ : LgR υ 83 (UL ρ s t i) := hv2
      have hul := UL_ok hW (s := s) (t := t) (i := i) ht0 ht1 (by omega) (by omega)
      have hGk : Gok 83 := Or.inl rfl
      have hZυ : gN υ 73 0 = (MK ρ s t).length ∧ gN υ 73 1 = t ∧ RwR υ (MK ρ s t) := ⟨(hv1.n (by omega)).trans hZτ.1, (hv1.n (by omega)).trans hZτ.2.1, hZτ.2.2.of (hv1.n (by omega)) (fun c j _ _ => hv1.n (by omega))⟩
      have h42υ : gN υ 42 t = 1 := (hv1.n (by omega)).trans h42
      refine a_iload_n dX8_countTo_78 rfl rfl ?_
      refine a_if_ne (tgt := 100) dX8_countTo_79 (by decide) (inR_of (by omega) (by omega)) (fun c79 => ?_) (fun c79 => ?_)
      · refine a_aload_n dX8_countTo_100 rfl rfl ?_
        refine a_getF (d := 83) fX8_44 k0 rfl r0_8 dX8_countTo_101 ?_
        refine a_aload_n dX8_countTo_104 rfl rfl ?_
        refine a_getF (d := 7) fX8_81 k0 rfl r0_3 dX8_countTo_105 ?_
        refine a_iload_n dX8_countTo_108 rfl rfl ?_
        refine a_iload_n dX8_countTo_109 rfl rfl ?_
        refine a_cI (c := 83) (as := [ar 7, ai trip, ai d]) (rest := []) (c_brokenBy υ ρ N 7 83 hW hNυ hT7υ hGk (UL ρ s t i) hLgυ hul.1 (by omega) trip d htr hd0 hd1) mvX1_brokenBy lX8_300 k83 (by decide) rfl rfl rfl rfl (Nat.le_of_ble_eq_true rfl) (Nat.le_of_ble_eq_true rfl) (Nat.le_of_ble_eq_true rfl) dX8_countTo_110 ?_
        refine a_ifb_eq (tgt := 119) dX8_countTo_113 (by decide) (fun c113 => ?_) (fun c113 => ?_)
        · refine a_iinc (y := i + 1) (ls' := [(6, ai (i + 1)), (5, ai s), (4, ai c), (0, ar 0), (1, ai t), (2, ai trip), (3, ai d)]) dX8_countTo_119 rfl rfl (Nat.le_of_ble_eq_true rfl) rfl ?_
          refine a_goto (tgt := 49) dX8_countTo_122 (by decide) ?_
          have e : ciF ρ trip d s t i c = c := by unfold ciF; grind
          exact a_keep (by simp) (ih (i + 1) (c) υ (by omega) (by omega) (by omega) hQυ hFυ hZυ h42υ (by rw [hE, itr_s, e]))
        · refine a_iinc (y := c + 1) (ls' := [(4, ai (c + 1)), (6, ai i), (5, ai s), (0, ar 0), (1, ai t), (2, ai trip), (3, ai d)]) dX8_countTo_116 rfl rfl (Nat.le_of_ble_eq_true rfl) rfl ?_
          refine a_iinc (y := i + 1) (ls' := [(6, ai (i + 1)), (4, ai (c + 1)), (5, ai s), (0, ar 0), (1, ai t), (2, ai trip), (3, ai d)]) dX8_countTo_119 rfl rfl (Nat.le_of_ble_eq_true rfl) rfl ?_
          refine a_goto (tgt := 49) dX8_countTo_122 (by decide) ?_
          have e : ciF ρ trip d s t i c = c + 1 := by unfold ciF; grind
          exact a_keep (by simp) (ih (i + 1) (c + 1) υ (by omega) (by omega) (by omega) hQυ hFυ hZυ h42υ (by rw [hE, itr_s, e]))
      · refine a_aload_n dX8_countTo_82 rfl rfl ?_
        refine a_getF (d := 83) fX8_44 k0 rfl r0_8 dX8_countTo_83 ?_
        refine a_aload_n dX8_countTo_86 rfl rfl ?_
        refine a_getR (d := N) (J := 12) fX8_65 k0 rfl q0_12 rfl hCυ dX8_countTo_87 ?_
        refine a_iload_n dX8_countTo_90 rfl rfl ?_
        refine a_cI (c := 83) (as := [ar N, ai trip]) (rest := []) (c_areOn υ ρ N 83 hW hNυ hGk (UL ρ s t i) hLgυ hul.1 (by omega) trip htr) mvX1_areOn lX8_296 k83 (by decide) rfl rfl rfl rfl (Nat.le_of_ble_eq_true rfl) (Nat.le_of_ble_eq_true rfl) (Nat.le_of_ble_eq_true rfl) dX8_countTo_91 ?_
        refine a_ifb_eq (tgt := 119) dX8_countTo_94 (by decide) (fun c94 => ?_) (fun c94 => ?_)
        · refine a_iinc (y := i + 1) (ls' := [(6, ai (i + 1)), (5, ai s), (4, ai c), (0, ar 0), (1, ai t), (2, ai trip), (3, ai d)]) dX8_countTo_119 rfl rfl (Nat.le_of_ble_eq_true rfl) rfl ?_
          refine a_goto (tgt := 49) dX8_countTo_122 (by decide) ?_
          have e : ciF ρ trip d s t i c = c := by unfold ciF; grind
          exact a_keep (by simp) (ih (i + 1) (c) υ (by omega) (by omega) (by omega) hQυ hFυ hZυ h42υ (by rw [hE, itr_s, e]))
        · refine a_goto (tgt := 116) dX8_countTo_97 (by decide) ?_
          refine a_iinc (y := c + 1) (ls' := [(4, ai (c + 1)), (6, ai i), (5, ai s), (0, ar 0), (1, ai t), (2, ai trip), (3, ai d)]) dX8_countTo_116 rfl rfl (Nat.le_of_ble_eq_true rfl) rfl ?_
          refine a_iinc (y := i + 1) (ls' := [(6, ai (i + 1)), (4, ai (c + 1)), (5, ai s), (0, ar 0), (1, ai t), (2, ai trip), (3, ai d)]) dX8_countTo_119 rfl rfl (Nat.le_of_ble_eq_true rfl) rfl ?_
          refine a_goto (tgt := 49) dX8_countTo_122 (by decide) ?_
          have e : ciF ρ trip d s t i c = c + 1 := by unfold ciF; grind
          exact a_keep (by simp) (ih (i + 1) (c + 1) υ (by omega) (by omega) (by omega) hQυ hFυ hZυ h42υ (by rw [hE, itr_s, e]))

set_option maxRecDepth 20000 in
theorem c_cto_o (σ ρ : Sto) (N : Nat) (hW : WV ρ) (t : Int) (ht0 : 0 ≤ t) (ht1 : t < gN ρ 155 0) (trip d : Int) (htr : inR trip) (hd0 : 0 ≤ d) (hd1 : d ≤ 240) (V : Int) : ∀ (n : Nat) (s : Int) (c : Int) (τ : Sto), 0 ≤ s → s ≤ gN ρ 155 0 → n = (gN ρ 155 0 - s).toNat → CQ τ ρ N → Fg pCq σ τ → V = itr (csF ρ trip d t) n s c → RunA mX8_countTo (cqQ σ ρ N V) 6 [(5, ai s), (4, ai c), (0, ar 0), (1, ai t), (2, ai trip), (3, ai d)] [] τ := by
  have hR := hW.R
  have hS := hW.S
  have hTr := hW.T
  intro n
  induction n with
  | zero =>
    intro s c τ h0 h5 hn hQτ hFτ hE
    have hNk := hQτ.n.k
    have hCτ := hQτ.c
    have hNτ := hQτ.n
    have hT7τ := hQτ.t
    have hM7τ := hQτ.m
    refine a_iload dX8_countTo_6 rfl ?_
    refine a_aload_n dX8_countTo_8 rfl rfl ?_
    refine a_getR (d := N) (J := 12) fX8_65 k0 rfl q0_12 rfl hCτ dX8_countTo_9 ?_
    refine a_getI (J := 0) fX8_293 (kN hNk) rfl rfl dX8_countTo_12 ?_
    refine a_topI (y := gN ρ 155 0) hNτ.n0 ?_
    refine a_icmp_ge (tgt := 131) dX8_countTo_15 (by decide) (inR_of (by omega) (by omega)) (inR_gN _ _ _) (fun c15 => ?_) (fun c15 => ?_)
    · refine a_iload dX8_countTo_131 rfl ?_
      exact a_iret rfl ⟨by rw [hE]; rfl, hQτ, hFτ⟩ dX8_countTo_133
    · exfalso; omega
  | succ n ih =>
    intro s c τ h0 h5 hn hQτ hFτ hE
    have hNk := hQτ.n.k
    have hCτ := hQτ.c
    have hNτ := hQτ.n
    have hT7τ := hQτ.t
    have hM7τ := hQτ.m
    refine a_iload dX8_countTo_6 rfl ?_
    refine a_aload_n dX8_countTo_8 rfl rfl ?_
    refine a_getR (d := N) (J := 12) fX8_65 k0 rfl q0_12 rfl hCτ dX8_countTo_9 ?_
    refine a_getI (J := 0) fX8_293 (kN hNk) rfl rfl dX8_countTo_12 ?_
    refine a_topI (y := gN ρ 155 0) hNτ.n0 ?_
    refine a_icmp_ge (tgt := 131) dX8_countTo_15 (by decide) (inR_of (by omega) (by omega)) (inR_gN _ _ _) (fun c15 => ?_) (fun c15 => ?_)
    · exfalso; omega
    · refine a_iload dX8_countTo_18 rfl ?_
      refine a_iload_n dX8_countTo_20 rfl rfl ?_
      refine a_icmp_ne (tgt := 27) dX8_countTo_21 (by decide) (inR_of (by omega) (by omega)) (inR_of (by omega) (by omega)) (fun c21 => ?_) (fun c21 => ?_)
      · refine a_aload_n dX8_countTo_27 rfl rfl ?_
        refine a_getF (d := 73) fX8_37 k0 rfl r0_7 dX8_countTo_28 ?_
        refine a_aload_n dX8_countTo_31 rfl rfl ?_
        refine a_getF (d := 7) fX8_81 k0 rfl r0_3 dX8_countTo_32 ?_
        refine a_aload_n dX8_countTo_35 rfl rfl ?_
        refine a_getF (d := 38) fX8_30 k0 rfl r0_6 dX8_countTo_36 ?_
        refine a_iload dX8_countTo_39 rfl ?_
        refine a_iload_n dX8_countTo_41 rfl rfl ?_
        refine a_iconst dX8_countTo_42 ?_
        refine a_callV (c := 73) (as := [ar 7, ar 38, ai s, ai t, ai 4]) (rest := []) (c_make τ ρ N hW hQτ s t 4 (by omega) (by omega) (by omega) (by omega) (by omega) (by omega)) mvX4_make lX8_241 k73 (by decide) rfl rfl rfl rfl (Nat.le_of_ble_eq_true rfl) (Nat.le_of_ble_eq_true rfl) (Nat.le_of_ble_eq_true rfl) dX8_countTo_43 (fun u93 hu => ?_)
        obtain ⟨-, hKu93⟩ := hu
        have hQu93 : CQ u93 ρ N := hKu93.2.1
        have hCu93 := hQu93.c
        have hNu93 := hQu93.n
        have hT7u93 := hQu93.t
        have hM7u93 := hQu93.m
        have hFu93 : Fg pCq σ u93 := hFτ.trans (hKu93.1.mono (fun c j z => pMk_Q z))
        have hZu93 := hKu93.2.2.1
        have hLnu93 : ((MK ρ s t).length : Int) ≤ 300 := hKu93.2.2.2.1
        refine a_iconst dX8_countTo_46 ?_
        refine a_istore (ls' := [(6, ai 0), (5, ai s), (4, ai c), (0, ar 0), (1, ai t), (2, ai trip), (3, ai d)]) dX8_countTo_47 (Nat.le_of_ble_eq_true rfl) rfl ?_
        have e : csF ρ trip d t s c = itr (ciF ρ trip d s t) (MK ρ s t).length 0 c := if_neg (by omega)
        refine a_keep (by simp) (c_cto_i σ ρ N hW trip d htr hd0 hd1 s t h0 (by omega) ht0 ht1 hLnu93 _ (itr (ciF ρ trip d s t) (MK ρ s t).length 0 c) (fun υ a1 a2 => ?_) (MK ρ s t).length 0 c u93 (by omega) (by omega) (by omega) hQu93 hFu93 hZu93 hKu93.2.2.2.2 rfl)
        refine a_iinc (y := s + 1) (ls' := [(5, ai (s + 1)), (4, ai (itr (ciF ρ trip d s t) (MK ρ s t).length 0 c)), (0, ar 0), (1, ai t), (2, ai trip), (3, ai d)]) dX8_countTo_125 rfl rfl (Nat.le_of_ble_eq_true rfl) rfl ?_
        refine a_goto (tgt := 6) dX8_countTo_128 (by decide) ?_
        exact ih (s + 1) _ υ (by omega) (by omega) (by omega) a1 a2 (by rw [hE, itr_s, e])
      · refine a_goto (tgt := 125) dX8_countTo_24 (by decide) ?_
        refine a_iinc (y := s + 1) (ls' := [(5, ai (s + 1)), (4, ai c), (0, ar 0), (1, ai t), (2, ai trip), (3, ai d)]) dX8_countTo_125 rfl rfl (Nat.le_of_ble_eq_true rfl) rfl ?_
        refine a_goto (tgt := 6) dX8_countTo_128 (by decide) ?_
        have e : csF ρ trip d t s c = c := if_pos (by omega)
        exact a_keep (by simp) (ih (s + 1) c τ (by omega) (by omega) (by omega) hQτ hFτ (by rw [hE, itr_s, e]))

set_option maxRecDepth 20000 in
theorem c_countTo (σ ρ : Sto) (N : Nat) (hW : WV ρ) (hQ : CQ σ ρ N) (t : Int) (ht0 : 0 ≤ t) (ht1 : t < gN ρ 155 0) (trip d : Int) (htr : inR trip) (hd0 : 0 ≤ d) (hd1 : d ≤ 240) : MetA mX8_countTo [ar 0, ai t, ai trip, ai d] σ (cqQ σ ρ N (ctoT ρ t trip d)) := by
  have hC := hQ.c
  have hN := hQ.n
  have hT7 := hQ.t
  have hM7 := hQ.m
  have hF : Fg pCq σ σ := Fg.rfl
  have hNk := hN.k
  have hR := hW.R
  have hS := hW.S
  have hTr := hW.T
  refine a_entry (by decide) (Nat.le_of_ble_eq_true rfl) ?_
  refine a_ls (ls' := [(0, ar 0), (1, ai t), (2, ai trip), (3, ai d)]) rfl ?_
  refine a_iconst dX8_countTo_0 ?_
  refine a_istore (ls' := [(4, ai 0), (0, ar 0), (1, ai t), (2, ai trip), (3, ai d)]) dX8_countTo_1 (Nat.le_of_ble_eq_true rfl) rfl ?_
  refine a_iconst dX8_countTo_3 ?_
  refine a_istore (ls' := [(5, ai 0), (4, ai 0), (0, ar 0), (1, ai t), (2, ai trip), (3, ai d)]) dX8_countTo_4 (Nat.le_of_ble_eq_true rfl) rfl ?_
  exact a_keep (by simp) (c_cto_o σ ρ N hW t ht0 ht1 trip d htr hd0 hd1 _ (gN ρ 155 0).toNat 0 0 σ (by omega) (by omega) (by omega) hQ hF rfl)

def cUses (ρ : Sto) (trip t : Int) : Int := if ¬ trp ρ trip ∨ ¬ stp ρ t then -1 else ctoT ρ t trip 0
def cBreaks (ρ : Sto) (trip d t : Int) : Int := if ¬ trp ρ trip ∨ d < 1 ∨ 240 < d ∨ ¬ stp ρ t then -1 else ctoT ρ t trip d

set_option maxRecDepth 20000 in
theorem c_uses (σ ρ : Sto) (N : Nat) (hW : WV ρ) (hQ : CQ σ ρ N) (trip t : Int) (htrip : inR trip) (ht : inR t) : MetA mX8_uses [ar 0, ai trip, ai t] σ (cqQ σ ρ N (cUses ρ trip t)) := by
  have hC := hQ.c
  have hN := hQ.n
  have hT7 := hQ.t
  have hM7 := hQ.m
  have hF : Fg pCq σ σ := Fg.rfl
  have hNk := hN.k
  have hR := hW.R
  have hS := hW.S
  have hTr := hW.T
  refine a_entry (by decide) (Nat.le_of_ble_eq_true rfl) ?_
  refine a_ls (ls' := [(0, ar 0), (1, ai trip), (2, ai t)]) rfl ?_
  refine a_aload_n dX8_uses_0 rfl rfl ?_
  refine a_iload_n dX8_uses_1 rfl rfl ?_
  refine a_cI (c := 0) (as := [ai trip]) (rest := []) (c_isTrip σ ρ N hW hC hN trip htrip) mvX8_isTrip lX8_287 k0 (by decide) rfl rfl rfl rfl (Nat.le_of_ble_eq_true rfl) (Nat.le_of_ble_eq_true rfl) (Nat.le_of_ble_eq_true rfl) dX8_uses_2 ?_
  refine a_ifb_eq (tgt := 16) dX8_uses_5 (by decide) (fun c5 => ?_) (fun c5 => ?_)
  · refine a_iconst dX8_uses_16 ?_
    exact a_iret rfl ⟨by unfold cUses; grind, hQ, hF⟩ dX8_uses_17
  · refine a_aload_n dX8_uses_8 rfl rfl ?_
    refine a_iload_n dX8_uses_9 rfl rfl ?_
    refine a_cI (c := 0) (as := [ai t]) (rest := []) (c_isStop σ ρ N hW hC hN t ht) mvX8_isStop lX8_161 k0 (by decide) rfl rfl rfl rfl (Nat.le_of_ble_eq_true rfl) (Nat.le_of_ble_eq_true rfl) (Nat.le_of_ble_eq_true rfl) dX8_uses_10 ?_
    refine a_ifb_ne (tgt := 18) dX8_uses_13 (by decide) (fun c13 => ?_) (fun c13 => ?_)
    · refine a_aload_n dX8_uses_18 rfl rfl ?_
      refine a_iload_n dX8_uses_19 rfl rfl ?_
      refine a_iload_n dX8_uses_20 rfl rfl ?_
      refine a_iconst dX8_uses_21 ?_
      refine a_callI (c := 0) (as := [ai t, ai trip, ai 0]) (rest := []) (c_countTo σ ρ N hW hQ t (by omega) (by omega) trip 0 (inR_of (by omega) (by omega)) (by omega) (by omega)) mvX8_countTo lX8_290 k0 (by decide) rfl rfl rfl rfl (Nat.le_of_ble_eq_true rfl) (Nat.le_of_ble_eq_true rfl) (Nat.le_of_ble_eq_true rfl) dX8_uses_22 (fun x u94 hu => ?_)
      obtain ⟨hx, hQu94, hFu94⟩ := hu
      cases hx
      exact a_iret rfl ⟨by unfold cUses; grind, hQu94, hFu94⟩ dX8_uses_25
    · refine a_iconst dX8_uses_16 ?_
      exact a_iret rfl ⟨by unfold cUses; grind, hQ, hF⟩ dX8_uses_17

set_option maxRecDepth 20000 in
theorem c_breaks (σ ρ : Sto) (N : Nat) (hW : WV ρ) (hQ : CQ σ ρ N) (trip d t : Int) (htrip : inR trip) (hd : inR d) (ht : inR t) : MetA mX8_breaks [ar 0, ai trip, ai d, ai t] σ (cqQ σ ρ N (cBreaks ρ trip d t)) := by
  have hC := hQ.c
  have hN := hQ.n
  have hT7 := hQ.t
  have hM7 := hQ.m
  have hF : Fg pCq σ σ := Fg.rfl
  have hNk := hN.k
  have hR := hW.R
  have hS := hW.S
  have hTr := hW.T
  refine a_entry (by decide) (Nat.le_of_ble_eq_true rfl) ?_
  refine a_ls (ls' := [(0, ar 0), (1, ai trip), (2, ai d), (3, ai t)]) rfl ?_
  refine a_aload_n dX8_breaks_0 rfl rfl ?_
  refine a_iload_n dX8_breaks_1 rfl rfl ?_
  refine a_cI (c := 0) (as := [ai trip]) (rest := []) (c_isTrip σ ρ N hW hC hN trip htrip) mvX8_isTrip lX8_287 k0 (by decide) rfl rfl rfl rfl (Nat.le_of_ble_eq_true rfl) (Nat.le_of_ble_eq_true rfl) (Nat.le_of_ble_eq_true rfl) dX8_breaks_2 ?_
  refine a_ifb_eq (tgt := 27) dX8_breaks_5 (by decide) (fun c5 => ?_) (fun c5 => ?_)
  · refine a_iconst dX8_breaks_27 ?_
    exact a_iret rfl ⟨by unfold cBreaks; grind, hQ, hF⟩ dX8_breaks_28
  · refine a_aload_n dX8_breaks_8 rfl rfl ?_
    refine a_iload_n dX8_breaks_9 rfl rfl ?_
    refine a_cI (c := 0) (as := [ai t]) (rest := []) (c_isStop σ ρ N hW hC hN t ht) mvX8_isStop lX8_161 k0 (by decide) rfl rfl rfl rfl (Nat.le_of_ble_eq_true rfl) (Nat.le_of_ble_eq_true rfl) (Nat.le_of_ble_eq_true rfl) dX8_breaks_10 ?_
    refine a_ifb_eq (tgt := 27) dX8_breaks_13 (by decide) (fun c13 => ?_) (fun c13 => ?_)
    · refine a_iconst dX8_breaks_27 ?_
      exact a_iret rfl ⟨by unfold cBreaks; grind, hQ, hF⟩ dX8_breaks_28
    · refine a_iload_n dX8_breaks_16 rfl rfl ?_
      refine a_iconst dX8_breaks_17 ?_
      refine a_sipush (x := 240) dX8_breaks_18 (by decide) ?_
      refine a_sI (as := [ai d, ai 1, ai 240]) (rest := []) (c_within σ d 1 240 hd (inR_of (by omega) (by omega)) (inR_of (by omega) (by omega))) mvX8_within lX8_179 rfl rfl rfl (Nat.le_of_ble_eq_true rfl) (Nat.le_of_ble_eq_true rfl) (Nat.le_of_ble_eq_true rfl) dX8_breaks_21 ?_
      refine a_ifb_ne (tgt := 29) dX8_breaks_24 (by decide) (fun c24 => ?_) (fun c24 => ?_)
      · refine a_aload_n dX8_breaks_29 rfl rfl ?_
        refine a_iload_n dX8_breaks_30 rfl rfl ?_
        refine a_iload_n dX8_breaks_31 rfl rfl ?_
        refine a_iload_n dX8_breaks_32 rfl rfl ?_
        refine a_callI (c := 0) (as := [ai t, ai trip, ai d]) (rest := []) (c_countTo σ ρ N hW hQ t (by omega) (by omega) trip d (inR_of (by omega) (by omega)) (by omega) (by omega)) mvX8_countTo lX8_290 k0 (by decide) rfl rfl rfl rfl (Nat.le_of_ble_eq_true rfl) (Nat.le_of_ble_eq_true rfl) (Nat.le_of_ble_eq_true rfl) dX8_breaks_33 (fun x u95 hu => ?_)
        obtain ⟨hx, hQu95, hFu95⟩ := hu
        cases hx
        exact a_iret rfl ⟨by unfold cBreaks; grind, hQu95, hFu95⟩ dX8_breaks_36
      · refine a_iconst dX8_breaks_27 ?_
        exact a_iret rfl ⟨by unfold cBreaks; grind, hQ, hF⟩ dX8_breaks_28

