/-! The class: what if, boards. -/
theorem CQ.cp {σ u ρ : Sto} {N : Nat} (h : CQ σ ρ N) (hS : gN ρ 155 0 ≤ 10) (hR : gN ρ 155 3 ≤ 60) (hP : CpP σ u N ρ) : CQ u ρ N := by
  have hF := hP.1
  have hk := h.n.k
  refine ⟨by rw [hF.r (by omega)]; exact h.c, h.n.of hS (fun c j q0 q1 => hF.n (by omega)), h.t.of (hF.r (by omega)) (hF.l (by omega)) (fun j => hF.n (by omega)) (fun j => hF.n (by omega)) (Or.inr (Or.inr hP.2.1.2)), fun _ => hP.2.1.1, fun t a b => ?_⟩
  rw [hF.n (by omega)]
  have o := h.o t a b
  exact ⟨o.1, fun z y => (o.2 z y).of (fun c j q _ => hF.n (by omega)) hR⟩
def RO (ρ : Sto) (trip : Int) : Int64 := bitsF (f1F ρ trip) (f1F ρ (trip + 1))
def cLate (ρ : Sto) (ρd : Int → Sto) (trip s t m : Int) : Int := if ¬ trp ρ trip ∨ ¬ two ρ s t ∨ ¬ mnt m then -1 else if 1000000 ≤ SO ρ s t m 4 0 then -3 else if SO ρ s t m 4 (RO ρ trip) ≤ SO ρ s t m 4 0 then -2 else fs2 (fun d => decide (SO ρ s t m 4 0 < SO (ρd d) s t m 4 0)) (-2) 240 1
def cIfLate (ρ ρ' : Sto) (trip d s t m : Int) : Int := if ¬ trp ρ trip ∨ d < -60 ∨ 240 < d ∨ ¬ stp ρ s ∨ ¬ stp ρ t ∨ ¬ mnt m then -1 else orN (SO ρ' s t m 4 0)
def msC (ρ : Sto) (s t m trip : Int) (q : Int × Int) : Int × Int := if RO ρ trip &&& (gL ρ 153 23 ^^^ (-1)) = 0 then q else if q.2 < SO ρ s t m 4 (RO ρ trip) then (trip, SO ρ s t m 4 (RO ρ trip)) else q
def mssR (q : Int × Int) (what : Int) : Int := if q.1 < 0 ∨ what = 0 then q.1 else if 1000000 ≤ q.2 then -3 else q.2
def cMissed (ρ : Sto) (s t m what : Int) : Int := if ¬ two ρ s t ∨ ¬ mnt m ∨ what < 0 ∨ 1 < what then -1 else if 1000000 ≤ SO ρ s t m 4 0 then -2 else mssR (itr (msC ρ s t m) (gN ρ 155 2).toNat 0 (-2, -1)) what

set_option maxRecDepth 20000 in
theorem c_ifLate (σ ρ : Sto) (N : Nat) (hW : WV ρ) (hQ : CQ σ ρ N) (trip d s t m : Int) (htrip : inR trip) (hd : inR d) (hs : inR s) (ht : inR t) (hm : inR m) (ρ' : Sto) (hSh : trp ρ trip → -60 ≤ d → d ≤ 240 → WV ρ' ∧ Shd ρ ρ' trip d) : MetA mX8_ifLate [ar 0, ai trip, ai d, ai s, ai t, ai m] σ (cqQ σ ρ N (cIfLate ρ ρ' trip d s t m)) := by
  have hC := hQ.c
  have hN := hQ.n
  have hT7 := hQ.t
  have hM7 := hQ.m
  have hF : Fg pCq σ σ := Fg.rfl
  have hNk := hN.k
  have hR := hW.R
  have hS := hW.S
  have hTr := hW.T
  refine a_entry (by decide) (Nat.le_of_ble_eq_true rfl) ?_
  refine a_ls (ls' := [(0, ar 0), (1, ai trip), (2, ai d), (3, ai s), (4, ai t), (5, ai m)]) rfl ?_
  refine a_aload_n dX8_ifLate_0 rfl rfl ?_
  refine a_iload_n dX8_ifLate_1 rfl rfl ?_
  refine a_cI (c := 0) (as := [ai trip]) (rest := []) (c_isTrip σ ρ N hW hC hN trip htrip) mvX8_isTrip lX8_287 k0 (by decide) rfl rfl rfl rfl (Nat.le_of_ble_eq_true rfl) (Nat.le_of_ble_eq_true rfl) (Nat.le_of_ble_eq_true rfl) dX8_ifLate_2 ?_
  refine a_ifb_eq (tgt := 45) dX8_ifLate_5 (by decide) (fun c5 => ?_) (fun c5 => ?_)
  · refine a_iconst dX8_ifLate_45 ?_
    exact a_iret rfl ⟨by unfold cIfLate; grind, hQ, hF⟩ dX8_ifLate_46
  · refine a_iload_n dX8_ifLate_8 rfl rfl ?_
    refine a_bipush (x := (-60)) dX8_ifLate_9 (by decide) ?_
    refine a_sipush (x := 240) dX8_ifLate_11 (by decide) ?_
    refine a_sI (as := [ai d, ai (-60), ai 240]) (rest := []) (c_within σ d (-60) 240 hd (inR_of (by omega) (by omega)) (inR_of (by omega) (by omega))) mvX8_within lX8_179 rfl rfl rfl (Nat.le_of_ble_eq_true rfl) (Nat.le_of_ble_eq_true rfl) (Nat.le_of_ble_eq_true rfl) dX8_ifLate_14 ?_
    refine a_ifb_eq (tgt := 45) dX8_ifLate_17 (by decide) (fun c17 => ?_) (fun c17 => ?_)
    · refine a_iconst dX8_ifLate_45 ?_
      exact a_iret rfl ⟨by unfold cIfLate; grind, hQ, hF⟩ dX8_ifLate_46
    · refine a_aload_n dX8_ifLate_20 rfl rfl ?_
      refine a_iload_n dX8_ifLate_21 rfl rfl ?_
      refine a_cI (c := 0) (as := [ai s]) (rest := []) (c_isStop σ ρ N hW hC hN s hs) mvX8_isStop lX8_161 k0 (by decide) rfl rfl rfl rfl (Nat.le_of_ble_eq_true rfl) (Nat.le_of_ble_eq_true rfl) (Nat.le_of_ble_eq_true rfl) dX8_ifLate_22 ?_
      refine a_ifb_eq (tgt := 45) dX8_ifLate_25 (by decide) (fun c25 => ?_) (fun c25 => ?_)
      · refine a_iconst dX8_ifLate_45 ?_
        exact a_iret rfl ⟨by unfold cIfLate; grind, hQ, hF⟩ dX8_ifLate_46
      · refine a_aload_n dX8_ifLate_28 rfl rfl ?_
        refine a_iload dX8_ifLate_29 rfl ?_
        refine a_cI (c := 0) (as := [ai t]) (rest := []) (c_isStop σ ρ N hW hC hN t ht) mvX8_isStop lX8_161 k0 (by decide) rfl rfl rfl rfl (Nat.le_of_ble_eq_true rfl) (Nat.le_of_ble_eq_true rfl) (Nat.le_of_ble_eq_true rfl) dX8_ifLate_31 ?_
        refine a_ifb_eq (tgt := 45) dX8_ifLate_34 (by decide) (fun c34 => ?_) (fun c34 => ?_)
        · refine a_iconst dX8_ifLate_45 ?_
          exact a_iret rfl ⟨by unfold cIfLate; grind, hQ, hF⟩ dX8_ifLate_46
        · refine a_iload dX8_ifLate_37 rfl ?_
          refine a_sI (as := [ai m]) (rest := []) (c_isMinute σ m hm) mvX8_isMinute lX8_307 rfl rfl rfl (Nat.le_of_ble_eq_true rfl) (Nat.le_of_ble_eq_true rfl) (Nat.le_of_ble_eq_true rfl) dX8_ifLate_39 ?_
          refine a_ifb_ne (tgt := 47) dX8_ifLate_42 (by decide) (fun c42 => ?_) (fun c42 => ?_)
          · have htp : trp ρ trip := (by assumption)
            have hdb : -60 ≤ d ∧ d ≤ 240 := (by assumption)
            have hW2 := (hSh htp hdb.1 hdb.2).1
            have hS2 := (hSh htp hdb.1 hdb.2).2
            have e155 := hS2.1
            refine a_aload_n dX8_ifLate_47 rfl rfl ?_
            refine a_getF (d := 11) fX8_84 k0 rfl r0_4 dX8_ifLate_48 ?_
            refine a_aload_n dX8_ifLate_51 rfl rfl ?_
            refine a_getF (d := 7) fX8_81 k0 rfl r0_3 dX8_ifLate_52 ?_
            refine a_callV (c := 11) (as := [ar 7]) (rest := []) (c_copy σ ρ N hW hN hT7 hM7) mvX6_copy lX8_350 k11 (by decide) rfl rfl rfl rfl (Nat.le_of_ble_eq_true rfl) (Nat.le_of_ble_eq_true rfl) (Nat.le_of_ble_eq_true rfl) dX8_ifLate_55 (fun u107 hu => ?_)
            obtain ⟨-, hPu107⟩ := hu
            have hQu107 : CQ u107 ρ N := hQ.cp hS.2 hR.2 hPu107
            have hCu107 := hQu107.c
            have hNu107 := hQu107.n
            have hT7u107 := hQu107.t
            have hM7u107 := hQu107.m
            have hFu107 : Fg pCq σ u107 := hF.trans (hPu107.1.mono (fun c j z => by unfold pLn p11 at z; unfold pCq; omega))
            have hT11u107 := hPu107.2.2.1
            have hL11u107 := hPu107.2.2.2.1
            refine a_aload_n dX8_ifLate_58 rfl rfl ?_
            refine a_getF (d := 11) fX8_84 k0 rfl r0_4 dX8_ifLate_59 ?_
            refine a_iload_n dX8_ifLate_62 rfl rfl ?_
            refine a_iload_n dX8_ifLate_63 rfl rfl ?_
            refine a_callV (c := 11) (as := [ai trip, ai d]) (rest := []) (c_shift u107 ρ ρ' N hW hW2 trip d htp hS2 (by omega) (by omega) (hNu107.w (fun _ => rfl)) hT11u107 hL11u107) mvX6_shift lX8_353 k11 (by decide) rfl rfl rfl rfl (Nat.le_of_ble_eq_true rfl) (Nat.le_of_ble_eq_true rfl) (Nat.le_of_ble_eq_true rfl) dX8_ifLate_64 (fun u108 hu => ?_)
            obtain ⟨-, hPu108⟩ := hu
            have hQu108 : CQ u108 ρ N := hQu107.aft hS.2 hR.2 (hPu108.1.mono (fun c j z => by unfold pAft; omega))
            have hCu108 := hQu108.c
            have hNu108 := hQu108.n
            have hT7u108 := hQu108.t
            have hM7u108 := hQu108.m
            have hFu108 : Fg pCq σ u108 := hFu107.trans (hPu108.1.mono (fun c j z => by unfold pCq; omega))
            have hT11u108 := hPu108.2.1
            have hL11u108 := hPu108.2.2
            refine a_aload_n dX8_ifLate_67 rfl rfl ?_
            refine a_getF (d := 11) fX8_84 k0 rfl r0_4 dX8_ifLate_68 ?_
            refine a_iload_n dX8_ifLate_71 rfl rfl ?_
            refine a_iload dX8_ifLate_72 rfl ?_
            refine a_iload dX8_ifLate_74 rfl ?_
            refine a_iconst dX8_ifLate_76 ?_
            refine a_lconst (v := 0) dX8_ifLate_77 rfl ?_
            refine a_callI (c := 11) (as := [ai s, ai t, ai m, ai 4, al 0]) (rest := []) (c_soonest u108 ρ' N 11 hW2 (hNu108.w (e155)) hT11u108 (fun _ => hL11u108) s t m 4 0 (by omega) (by rw [e155]; omega) (by omega) (by rw [e155]; omega) (by omega) (by omega) (by omega) (by omega)) mvX6_soonest lX8_310 k11 (by decide) rfl rfl rfl rfl (Nat.le_of_ble_eq_true rfl) (Nat.le_of_ble_eq_true rfl) (Nat.le_of_ble_eq_true rfl) dX8_ifLate_78 (fun x u109 hu => ?_)
            obtain ⟨hx, hPu109⟩ := hu
            cases hx
            have hQu109 : CQ u109 ρ N := hQu108.aft hS.2 hR.2 (hPu109.1.mono (fun c j z => by unfold pLn at z; unfold pAft; omega))
            have hCu109 := hQu109.c
            have hNu109 := hQu109.n
            have hT7u109 := hQu109.t
            have hM7u109 := hQu109.m
            have hFu109 : Fg pCq σ u109 := hFu108.trans (hPu109.1.mono (fun c j z => by unfold pLn at z; unfold pCq; omega))
            have hT11u109 := hT11u108.ln hPu109.1 (Or.inr hPu109.2.2)
            have hL11u109 := hPu109.2.1
            have hsou109 : -1000 ≤ SO ρ' s t m 4 0 ∧ SO ρ' s t m 4 0 ≤ 1000000 := soon_rng hW2 (set := riddenF ρ' s m 4 0) (s := s) (t := t) (m := m) (by omega) (by rw [e155]; omega) (by omega) (by rw [e155]; omega) (by omega)
            refine a_topI (y := SO ρ' s t m 4 0) rfl ?_
            refine a_sI (as := [ai (SO ρ' s t m 4 0)]) (rest := []) (c_orMissing u109 (SO ρ' s t m 4 0) (inR_of (by omega) (by omega))) mvX8_orMissing lX8_168 rfl rfl rfl (Nat.le_of_ble_eq_true rfl) (Nat.le_of_ble_eq_true rfl) (Nat.le_of_ble_eq_true rfl) dX8_ifLate_81 ?_
            exact a_iret rfl ⟨by unfold cIfLate; grind, hQu109, hFu109⟩ dX8_ifLate_84
          · refine a_iconst dX8_ifLate_45 ?_
            exact a_iret rfl ⟨by unfold cIfLate; grind, hQ, hF⟩ dX8_ifLate_46

set_option maxRecDepth 20000 in
theorem c_late_l (σ ρ : Sto) (N : Nat) (hW : WV ρ) (trip s t m : Int) (htp : trp ρ trip) (h2 : two ρ s t) (hm : mnt m) (ρd : Int → Sto) (hd : ∀ d : Int, 0 ≤ d → d ≤ 240 → WV (ρd d) ∧ ∀ j, gN (ρd d) 155 j = gN ρ 155 j) (hSh : ∀ d : Int, 1 ≤ d → d ≤ 240 → Shd (ρd (d - 1)) (ρd d) trip 1) (V : Int) : ∀ (n : Nat) (d : Int) (τ : Sto), 1 ≤ d → d ≤ 241 → n = (241 - d).toNat → CQ τ ρ N → Fg pCq σ τ → TmR τ N 11 (ρd (d - 1)) → LkR τ 11 (ρd (d - 1)) → V = fs2 (fun d => decide (SO ρ s t m 4 0 < SO (ρd d) s t m 4 0)) (-2) n d → RunA mX8_late (cqQ σ ρ N V) 95 [(6, ai d), (5, ai (SO ρ s t m 4 0)), (0, ar 0), (1, ai trip), (2, ai s), (3, ai t), (4, ai m)] [] τ := by
  have hR := hW.R
  have hS := hW.S
  have hTr := hW.T
  have h2a := h2.1
  have h2b := h2.2.1
  have h2c := h2.2.2
  have hm0 := hm.1
  have hm1 := hm.2
  intro n
  induction n with
  | zero =>
    intro d τ h0 h5 hn hQτ hFτ hT11τ hL11τ hV
    have hNk := hQτ.n.k
    have hCτ := hQτ.c
    have hNτ := hQτ.n
    have hT7τ := hQτ.t
    have hM7τ := hQτ.m
    have hs4 : -1000 ≤ SO ρ s t m 4 0 ∧ SO ρ s t m 4 0 ≤ 1000000 := soon_rng hW (set := riddenF ρ s m 4 0) (s := s) (t := t) (m := m) (by omega) (by omega) (by omega) (by omega) (by omega)
    refine a_iload dX8_late_95 rfl ?_
    refine a_sipush (x := 240) dX8_late_97 (by decide) ?_
    refine a_icmp_gt (tgt := 139) dX8_late_100 (by decide) (inR_of (by omega) (by omega)) (inR_of (by omega) (by omega)) (fun c100 => ?_) (fun c100 => ?_)
    · refine a_bipush (x := (-2)) dX8_late_139 (by decide) ?_
      exact a_iret rfl ⟨by rw [hV]; rfl, hQτ, hFτ⟩ dX8_late_141
    · exfalso; omega
  | succ n ih =>
    intro d τ h0 h5 hn hQτ hFτ hT11τ hL11τ hV
    have hNk := hQτ.n.k
    have hCτ := hQτ.c
    have hNτ := hQτ.n
    have hT7τ := hQτ.t
    have hM7τ := hQτ.m
    have hs4 : -1000 ≤ SO ρ s t m 4 0 ∧ SO ρ s t m 4 0 ≤ 1000000 := soon_rng hW (set := riddenF ρ s m 4 0) (s := s) (t := t) (m := m) (by omega) (by omega) (by omega) (by omega) (by omega)
    refine a_iload dX8_late_95 rfl ?_
    refine a_sipush (x := 240) dX8_late_97 (by decide) ?_
    refine a_icmp_gt (tgt := 139) dX8_late_100 (by decide) (inR_of (by omega) (by omega)) (inR_of (by omega) (by omega)) (fun c100 => ?_) (fun c100 => ?_)
    · exfalso; omega
    · have hWa := (hd (d - 1) (by omega) (by omega)).1
      have e155 := (hd (d - 1) (by omega) (by omega)).2
      have hWb := (hd d (by omega) (by omega)).1
      have e156 := (hd d (by omega) (by omega)).2
      have hSd := hSh d (by omega) (by omega)
      have htq : trp (ρd (d - 1)) trip := by unfold trp; rw [e155]; exact htp
      refine a_aload_n dX8_late_103 rfl rfl ?_
      refine a_getF (d := 11) fX8_84 k0 rfl r0_4 dX8_late_104 ?_
      refine a_iload_n dX8_late_107 rfl rfl ?_
      refine a_iconst dX8_late_108 ?_
      refine a_callV (c := 11) (as := [ai trip, ai 1]) (rest := []) (c_shift τ (ρd (d - 1)) (ρd d) N hWa hWb trip 1 htq hSd (by omega) (by omega) (hNτ.w e155) hT11τ hL11τ) mvX6_shift lX8_353 k11 (by decide) rfl rfl rfl rfl (Nat.le_of_ble_eq_true rfl) (Nat.le_of_ble_eq_true rfl) (Nat.le_of_ble_eq_true rfl) dX8_late_109 (fun u110 hu => ?_)
      obtain ⟨-, hPu110⟩ := hu
      have hQu110 : CQ u110 ρ N := hQτ.aft hS.2 hR.2 (hPu110.1.mono (fun c j z => by unfold pAft; omega))
      have hCu110 := hQu110.c
      have hNu110 := hQu110.n
      have hT7u110 := hQu110.t
      have hM7u110 := hQu110.m
      have hFu110 : Fg pCq σ u110 := hFτ.trans (hPu110.1.mono (fun c j z => by unfold pCq; omega))
      have hT11u110 := hPu110.2.1
      have hL11u110 := hPu110.2.2
      refine a_aload_n dX8_late_112 rfl rfl ?_
      refine a_getF (d := 11) fX8_84 k0 rfl r0_4 dX8_late_113 ?_
      refine a_iload_n dX8_late_116 rfl rfl ?_
      refine a_iload_n dX8_late_117 rfl rfl ?_
      refine a_iload dX8_late_118 rfl ?_
      refine a_iconst dX8_late_120 ?_
      refine a_lconst (v := 0) dX8_late_121 rfl ?_
      refine a_callI (c := 11) (as := [ai s, ai t, ai m, ai 4, al 0]) (rest := []) (c_soonest u110 (ρd d) N 11 hWb (hNu110.w (e156)) hT11u110 (fun _ => hL11u110) s t m 4 0 (by omega) (by rw [e156]; omega) (by omega) (by rw [e156]; omega) (by omega) (by omega) (by omega) (by omega)) mvX6_soonest lX8_310 k11 (by decide) rfl rfl rfl rfl (Nat.le_of_ble_eq_true rfl) (Nat.le_of_ble_eq_true rfl) (Nat.le_of_ble_eq_true rfl) dX8_late_122 (fun x u111 hu => ?_)
      obtain ⟨hx, hPu111⟩ := hu
      cases hx
      have hQu111 : CQ u111 ρ N := hQu110.aft hS.2 hR.2 (hPu111.1.mono (fun c j z => by unfold pLn at z; unfold pAft; omega))
      have hCu111 := hQu111.c
      have hNu111 := hQu111.n
      have hT7u111 := hQu111.t
      have hM7u111 := hQu111.m
      have hFu111 : Fg pCq σ u111 := hFu110.trans (hPu111.1.mono (fun c j z => by unfold pLn at z; unfold pCq; omega))
      have hT11u111 := hT11u110.ln hPu111.1 (Or.inr hPu111.2.2)
      have hL11u111 := hPu111.2.1
      have hsou111 : -1000 ≤ SO (ρd d) s t m 4 0 ∧ SO (ρd d) s t m 4 0 ≤ 1000000 := soon_rng hWb (set := riddenF (ρd d) s m 4 0) (s := s) (t := t) (m := m) (by omega) (by rw [e156]; omega) (by omega) (by rw [e156]; omega) (by omega)
      refine a_topI (y := SO (ρd d) s t m 4 0) rfl ?_
      refine a_iload dX8_late_125 rfl ?_
      refine a_icmp_le (tgt := 133) dX8_late_127 (by decide) (inR_of (by omega) (by omega)) (inR_of (by omega) (by omega)) (fun c127 => ?_) (fun c127 => ?_)
      · refine a_iinc (y := d + 1) (ls' := [(6, ai (d + 1)), (5, ai (SO ρ s t m 4 0)), (0, ar 0), (1, ai trip), (2, ai s), (3, ai t), (4, ai m)]) dX8_late_133 rfl rfl (Nat.le_of_ble_eq_true rfl) rfl ?_
        refine a_goto (tgt := 95) dX8_late_136 (by decide) ?_
        exact a_keep (by simp) (ih (d + 1) u111 (by omega) (by omega) (by omega) hQu111 hFu111 (by rw [show d + 1 - 1 = d by omega]; exact hT11u111) (by rw [show d + 1 - 1 = d by omega]; exact hL11u111) (by rw [hV, fs2_no (decide_eq_false (by omega))]))
      · refine a_iload dX8_late_130 rfl ?_
        exact a_iret rfl ⟨by rw [hV, fs2_yes (decide_eq_true (by omega))], hQu111, hFu111⟩ dX8_late_132

set_option maxRecDepth 20000 in
theorem c_late (σ ρ : Sto) (N : Nat) (hW : WV ρ) (hQ : CQ σ ρ N) (trip s t m : Int) (htrip : inR trip) (hs : inR s) (ht : inR t) (hm : inR m) (ρd : Int → Sto) (h0 : trp ρ trip → ρd 0 = ρ) (hd : trp ρ trip → ∀ d : Int, 0 ≤ d → d ≤ 240 → WV (ρd d) ∧ ∀ j, gN (ρd d) 155 j = gN ρ 155 j) (hSh : trp ρ trip → ∀ d : Int, 1 ≤ d → d ≤ 240 → Shd (ρd (d - 1)) (ρd d) trip 1) : MetA mX8_late [ar 0, ai trip, ai s, ai t, ai m] σ (cqQ σ ρ N (cLate ρ ρd trip s t m)) := by
  have hC := hQ.c
  have hN := hQ.n
  have hT7 := hQ.t
  have hM7 := hQ.m
  have hF : Fg pCq σ σ := Fg.rfl
  have hNk := hN.k
  have hR := hW.R
  have hS := hW.S
  have hTr := hW.T
  refine a_entry (by decide) (Nat.le_of_ble_eq_true rfl) ?_
  refine a_ls (ls' := [(0, ar 0), (1, ai trip), (2, ai s), (3, ai t), (4, ai m)]) rfl ?_
  refine a_aload_n dX8_late_0 rfl rfl ?_
  refine a_iload_n dX8_late_1 rfl rfl ?_
  refine a_cI (c := 0) (as := [ai trip]) (rest := []) (c_isTrip σ ρ N hW hC hN trip htrip) mvX8_isTrip lX8_287 k0 (by decide) rfl rfl rfl rfl (Nat.le_of_ble_eq_true rfl) (Nat.le_of_ble_eq_true rfl) (Nat.le_of_ble_eq_true rfl) dX8_late_2 ?_
  refine a_ifb_eq (tgt := 25) dX8_late_5 (by decide) (fun c5 => ?_) (fun c5 => ?_)
  · refine a_iconst dX8_late_25 ?_
    exact a_iret rfl ⟨by unfold cLate; grind, hQ, hF⟩ dX8_late_26
  · refine a_aload_n dX8_late_8 rfl rfl ?_
    refine a_iload_n dX8_late_9 rfl rfl ?_
    refine a_iload_n dX8_late_10 rfl rfl ?_
    refine a_cI (c := 0) (as := [ai s, ai t]) (rest := []) (c_arePair σ ρ N hW hC hN s t hs ht) mvX8_arePair lX8_238 k0 (by decide) rfl rfl rfl rfl (Nat.le_of_ble_eq_true rfl) (Nat.le_of_ble_eq_true rfl) (Nat.le_of_ble_eq_true rfl) dX8_late_11 ?_
    refine a_ifb_eq (tgt := 25) dX8_late_14 (by decide) (fun c14 => ?_) (fun c14 => ?_)
    · refine a_iconst dX8_late_25 ?_
      exact a_iret rfl ⟨by unfold cLate; grind, hQ, hF⟩ dX8_late_26
    · refine a_iload dX8_late_17 rfl ?_
      refine a_sI (as := [ai m]) (rest := []) (c_isMinute σ m hm) mvX8_isMinute lX8_307 rfl rfl rfl (Nat.le_of_ble_eq_true rfl) (Nat.le_of_ble_eq_true rfl) (Nat.le_of_ble_eq_true rfl) dX8_late_19 ?_
      refine a_ifb_ne (tgt := 27) dX8_late_22 (by decide) (fun c22 => ?_) (fun c22 => ?_)
      · refine a_aload_n dX8_late_27 rfl rfl ?_
        refine a_getF (d := 7) fX8_81 k0 rfl r0_3 dX8_late_28 ?_
        refine a_iload_n dX8_late_31 rfl rfl ?_
        refine a_iload_n dX8_late_32 rfl rfl ?_
        refine a_iload dX8_late_33 rfl ?_
        refine a_iconst dX8_late_35 ?_
        refine a_lconst (v := 0) dX8_late_36 rfl ?_
        refine a_callI (c := 7) (as := [ai s, ai t, ai m, ai 4, al 0]) (rest := []) (c_soonest σ ρ N 7 hW hN hT7 hM7 s t m 4 0 (by omega) (by omega) (by omega) (by omega) (by omega) (by omega) (by omega) (by omega)) mvX6_soonest lX8_310 k7 (by decide) rfl rfl rfl rfl (Nat.le_of_ble_eq_true rfl) (Nat.le_of_ble_eq_true rfl) (Nat.le_of_ble_eq_true rfl) dX8_late_37 (fun x u112 hu => ?_)
        obtain ⟨hx, hPu112⟩ := hu
        cases hx
        have hQu112 : CQ u112 ρ N := hQ.ln hS.2 hR.2 hPu112
        have hCu112 := hQu112.c
        have hNu112 := hQu112.n
        have hT7u112 := hQu112.t
        have hM7u112 := hQu112.m
        have hFu112 : Fg pCq σ u112 := hF.trans (hPu112.1.mono (fun c j z => by unfold pLn at z; unfold pCq; omega))
        have hsou112 : -1000 ≤ SO ρ s t m 4 0 ∧ SO ρ s t m 4 0 ≤ 1000000 := soon_rng hW (set := riddenF ρ s m 4 0) (s := s) (t := t) (m := m) (by omega) (by omega) (by omega) (by omega) (by omega)
        refine a_topI (y := SO ρ s t m 4 0) rfl ?_
        refine a_istore (ls' := [(5, ai (SO ρ s t m 4 0)), (0, ar 0), (1, ai trip), (2, ai s), (3, ai t), (4, ai m)]) dX8_late_40 (Nat.le_of_ble_eq_true rfl) rfl ?_
        refine a_iload dX8_late_42 rfl ?_
        refine a_ldc_w (x := 1000000) cX8_286 (by decide) dX8_late_44 ?_
        refine a_icmp_lt (tgt := 53) dX8_late_47 (by decide) (inR_of (by omega) (by omega)) (inR_of (by omega) (by omega)) (fun c47 => ?_) (fun c47 => ?_)
        · refine a_aload_n dX8_late_53 rfl rfl ?_
          refine a_getF (d := 7) fX8_81 k0 rfl r0_3 dX8_late_54 ?_
          refine a_iload_n dX8_late_57 rfl rfl ?_
          refine a_iload_n dX8_late_58 rfl rfl ?_
          refine a_iload dX8_late_59 rfl ?_
          refine a_iconst dX8_late_61 ?_
          refine a_aload_n dX8_late_62 rfl rfl ?_
          refine a_getR (d := N) (J := 12) fX8_65 k0 rfl q0_12 rfl hCu112 dX8_late_63 ?_
          refine a_iload_n dX8_late_66 rfl rfl ?_
          refine a_cL (c := N) (as := [ai trip]) (rest := [ai 4, ai m, ai t, ai s, ar 7]) (c_ridesOf u112 ρ N hW hNu112 trip (by assumption)) mvX2_ridesOf lX8_346 (kN hNk) (by decide) rfl rfl rfl rfl (Nat.le_of_ble_eq_true rfl) (Nat.le_of_ble_eq_true rfl) (Nat.le_of_ble_eq_true rfl) dX8_late_67 ?_
          refine a_topL (y := RO ρ trip) rfl ?_
          refine a_callI (c := 7) (as := [ai s, ai t, ai m, ai 4, al (RO ρ trip)]) (rest := []) (c_soonest u112 ρ N 7 hW hNu112 hT7u112 hM7u112 s t m 4 (RO ρ trip) (by omega) (by omega) (by omega) (by omega) (by omega) (by omega) (by omega) (by omega)) mvX6_soonest lX8_310 k7 (by decide) rfl rfl rfl rfl (Nat.le_of_ble_eq_true rfl) (Nat.le_of_ble_eq_true rfl) (Nat.le_of_ble_eq_true rfl) dX8_late_70 (fun x u113 hu => ?_)
          obtain ⟨hx, hPu113⟩ := hu
          cases hx
          have hQu113 : CQ u113 ρ N := hQu112.ln hS.2 hR.2 hPu113
          have hCu113 := hQu113.c
          have hNu113 := hQu113.n
          have hT7u113 := hQu113.t
          have hM7u113 := hQu113.m
          have hFu113 : Fg pCq σ u113 := hFu112.trans (hPu113.1.mono (fun c j z => by unfold pLn at z; unfold pCq; omega))
          have hsou113 : -1000 ≤ SO ρ s t m 4 (RO ρ trip) ∧ SO ρ s t m 4 (RO ρ trip) ≤ 1000000 := soon_rng hW (set := riddenF ρ s m 4 (RO ρ trip)) (s := s) (t := t) (m := m) (by omega) (by omega) (by omega) (by omega) (by omega)
          refine a_topI (y := SO ρ s t m 4 (RO ρ trip)) rfl ?_
          refine a_iload dX8_late_73 rfl ?_
          refine a_icmp_gt (tgt := 81) dX8_late_75 (by decide) (inR_of (by omega) (by omega)) (inR_of (by omega) (by omega)) (fun c75 => ?_) (fun c75 => ?_)
          · refine a_aload_n dX8_late_81 rfl rfl ?_
            refine a_getF (d := 11) fX8_84 k0 rfl r0_4 dX8_late_82 ?_
            refine a_aload_n dX8_late_85 rfl rfl ?_
            refine a_getF (d := 7) fX8_81 k0 rfl r0_3 dX8_late_86 ?_
            refine a_callV (c := 11) (as := [ar 7]) (rest := []) (c_copy u113 ρ N hW hNu113 hT7u113 hM7u113) mvX6_copy lX8_350 k11 (by decide) rfl rfl rfl rfl (Nat.le_of_ble_eq_true rfl) (Nat.le_of_ble_eq_true rfl) (Nat.le_of_ble_eq_true rfl) dX8_late_89 (fun u114 hu => ?_)
            obtain ⟨-, hPu114⟩ := hu
            have hQu114 : CQ u114 ρ N := hQu113.cp hS.2 hR.2 hPu114
            have hCu114 := hQu114.c
            have hNu114 := hQu114.n
            have hT7u114 := hQu114.t
            have hM7u114 := hQu114.m
            have hFu114 : Fg pCq σ u114 := hFu113.trans (hPu114.1.mono (fun c j z => by unfold pLn p11 at z; unfold pCq; omega))
            have hT11u114 := hPu114.2.2.1
            have hL11u114 := hPu114.2.2.2.1
            refine a_iconst dX8_late_92 ?_
            refine a_istore (ls' := [(6, ai 1), (5, ai (SO ρ s t m 4 0)), (0, ar 0), (1, ai trip), (2, ai s), (3, ai t), (4, ai m)]) dX8_late_93 (Nat.le_of_ble_eq_true rfl) rfl ?_
            have htp : trp ρ trip := (by assumption)
            have e : cLate ρ ρd trip s t m = fs2 (fun d => decide (SO ρ s t m 4 0 < SO (ρd d) s t m 4 0)) (-2) 240 1 := by unfold cLate; rw [if_neg (by grind), if_neg (by omega), if_neg (by omega)]
            rw [e]
            exact a_keep (by simp) (c_late_l σ ρ N hW trip s t m htp (by grind) (by grind) ρd (hd htp) (hSh htp) _ 240 1 u114 (by omega) (by omega) (by omega) hQu114 hFu114 (by rw [show (1 : Int) - 1 = 0 by omega, h0 htp]; exact hT11u114) (by rw [show (1 : Int) - 1 = 0 by omega, h0 htp]; exact hL11u114) rfl)
          · refine a_bipush (x := (-2)) dX8_late_78 (by decide) ?_
            exact a_iret rfl ⟨by unfold cLate; grind, hQu113, hFu113⟩ dX8_late_80
        · refine a_bipush (x := (-3)) dX8_late_50 (by decide) ?_
          exact a_iret rfl ⟨by unfold cLate; grind, hQu112, hFu112⟩ dX8_late_52
      · refine a_iconst dX8_late_25 ?_
        exact a_iret rfl ⟨by unfold cLate; grind, hQ, hF⟩ dX8_late_26

set_option maxRecDepth 20000 in
theorem c_missed_l (σ ρ : Sto) (N : Nat) (hW : WV ρ) (s t m what : Int) (h2 : two ρ s t) (hm : mnt m) (hw0 : 0 ≤ what) (hw1 : what ≤ 1) (V : Int) : ∀ (n : Nat) (trip : Int) (best : Int) (most : Int) (τ : Sto), 0 ≤ trip → trip ≤ gN ρ 155 2 → n = (gN ρ 155 2 - trip).toNat → -2 ≤ best → best ≤ 20 → -1000 ≤ most → most ≤ 1000000 → CQ τ ρ N → Fg pCq σ τ → V = mssR (itr (msC ρ s t m) n trip (best, most)) what → RunA mX8_missed (cqQ σ ρ N V) 59 [(7, ai trip), (6, ai most), (5, ai best), (0, ar 0), (1, ai s), (2, ai t), (3, ai m), (4, ai what)] [] τ := by
  have hR := hW.R
  have hS := hW.S
  have hTr := hW.T
  have h2a := h2.1
  have h2b := h2.2.1
  have h2c := h2.2.2
  have hmm0 := hm.1
  have hmm1 := hm.2
  intro n
  induction n with
  | zero =>
    intro trip best most τ h0 h5 hn hb0 hb1 hm0 hm1 hQτ hFτ hV
    have hNk := hQτ.n.k
    have hCτ := hQτ.c
    have hNτ := hQτ.n
    have hT7τ := hQτ.t
    have hM7τ := hQτ.m
    refine a_iload dX8_missed_59 rfl ?_
    refine a_aload_n dX8_missed_61 rfl rfl ?_
    refine a_getR (d := N) (J := 12) fX8_65 k0 rfl q0_12 rfl hCτ dX8_missed_62 ?_
    refine a_getI (J := 2) fX8_356 (kN hNk) rfl rfl dX8_missed_65 ?_
    refine a_topI (y := gN ρ 155 2) hNτ.n2 ?_
    refine a_icmp_ge (tgt := 140) dX8_missed_68 (by decide) (inR_of (by omega) (by omega)) (inR_gN _ _ _) (fun c68 => ?_) (fun c68 => ?_)
    · refine a_iload dX8_missed_140 rfl ?_
      refine a_if_lt (tgt := 150) dX8_missed_142 (by decide) (inR_of (by omega) (by omega)) (fun c142 => ?_) (fun c142 => ?_)
      · refine a_iload dX8_missed_150 rfl ?_
        exact a_iret rfl ⟨by rw [hV]; show _ = some (ai (mssR (best, most) what)); unfold mssR; dsimp only; grind, hQτ, hFτ⟩ dX8_missed_152
      · refine a_iload dX8_missed_145 rfl ?_
        refine a_if_ne (tgt := 153) dX8_missed_147 (by decide) (inR_of (by omega) (by omega)) (fun c147 => ?_) (fun c147 => ?_)
        · refine a_iload dX8_missed_153 rfl ?_
          refine a_ldc_w (x := 1000000) cX8_286 (by decide) dX8_missed_155 ?_
          refine a_icmp_lt (tgt := 166) dX8_missed_158 (by decide) (inR_of (by omega) (by omega)) (inR_of (by omega) (by omega)) (fun c158 => ?_) (fun c158 => ?_)
          · refine a_iload dX8_missed_166 rfl ?_
            exact a_iret rfl ⟨by rw [hV]; show _ = some (ai (mssR (best, most) what)); unfold mssR; dsimp only; grind, hQτ, hFτ⟩ dX8_missed_168
          · refine a_bipush (x := (-3)) dX8_missed_161 (by decide) ?_
            refine a_goto (tgt := 168) dX8_missed_163 (by decide) ?_
            exact a_iret rfl ⟨by rw [hV]; show _ = some (ai (mssR (best, most) what)); unfold mssR; dsimp only; grind, hQτ, hFτ⟩ dX8_missed_168
        · refine a_iload dX8_missed_150 rfl ?_
          exact a_iret rfl ⟨by rw [hV]; show _ = some (ai (mssR (best, most) what)); unfold mssR; dsimp only; grind, hQτ, hFτ⟩ dX8_missed_152
    · exfalso; omega
  | succ n ih =>
    intro trip best most τ h0 h5 hn hb0 hb1 hm0 hm1 hQτ hFτ hV
    have hNk := hQτ.n.k
    have hCτ := hQτ.c
    have hNτ := hQτ.n
    have hT7τ := hQτ.t
    have hM7τ := hQτ.m
    refine a_iload dX8_missed_59 rfl ?_
    refine a_aload_n dX8_missed_61 rfl rfl ?_
    refine a_getR (d := N) (J := 12) fX8_65 k0 rfl q0_12 rfl hCτ dX8_missed_62 ?_
    refine a_getI (J := 2) fX8_356 (kN hNk) rfl rfl dX8_missed_65 ?_
    refine a_topI (y := gN ρ 155 2) hNτ.n2 ?_
    refine a_icmp_ge (tgt := 140) dX8_missed_68 (by decide) (inR_of (by omega) (by omega)) (inR_gN _ _ _) (fun c68 => ?_) (fun c68 => ?_)
    · exfalso; omega
    · have htp : trp ρ trip := ⟨by omega, by omega⟩
      refine a_aload_n dX8_missed_71 rfl rfl ?_
      refine a_getR (d := N) (J := 12) fX8_65 k0 rfl q0_12 rfl hCτ dX8_missed_72 ?_
      refine a_iload dX8_missed_75 rfl ?_
      refine a_cL (c := N) (as := [ai trip]) (rest := []) (c_ridesOf τ ρ N hW hNτ trip (by assumption)) mvX2_ridesOf lX8_346 (kN hNk) (by decide) rfl rfl rfl rfl (Nat.le_of_ble_eq_true rfl) (Nat.le_of_ble_eq_true rfl) (Nat.le_of_ble_eq_true rfl) dX8_missed_77 ?_
      refine a_topL (y := RO ρ trip) rfl ?_
      refine a_lstore (ls' := [(8, al (RO ρ trip)), (7, ai trip), (6, ai most), (5, ai best), (0, ar 0), (1, ai s), (2, ai t), (3, ai m), (4, ai what)]) dX8_missed_80 (Nat.le_of_ble_eq_true rfl) rfl ?_
      refine a_lload dX8_missed_82 rfl ?_
      refine a_aload_n dX8_missed_84 rfl rfl ?_
      refine a_getF (d := 7) fX8_81 k0 rfl r0_3 dX8_missed_85 ?_
      refine a_getL (J := 1) fX8_213 k7 rfl rfl dX8_missed_88 ?_
      refine a_topL (y := gL ρ 153 23) hT7τ.off ?_
      refine a_ldc2 cX8_217 dX8_missed_91 ?_
      refine a_lxor dX8_missed_94 ?_
      refine a_land dX8_missed_95 ?_
      refine a_lconst (v := 0) dX8_missed_96 rfl ?_
      refine a_lcmp_ne (tgt := 104) dX8_missed_97 dX8_missed_98 (by decide) (fun c97 => ?_) (fun c97 => ?_)
      · refine a_aload_n dX8_missed_104 rfl rfl ?_
        refine a_getF (d := 7) fX8_81 k0 rfl r0_3 dX8_missed_105 ?_
        refine a_iload_n dX8_missed_108 rfl rfl ?_
        refine a_iload_n dX8_missed_109 rfl rfl ?_
        refine a_iload_n dX8_missed_110 rfl rfl ?_
        refine a_iconst dX8_missed_111 ?_
        refine a_lload dX8_missed_112 rfl ?_
        refine a_callI (c := 7) (as := [ai s, ai t, ai m, ai 4, al (RO ρ trip)]) (rest := []) (c_soonest τ ρ N 7 hW hNτ hT7τ hM7τ s t m 4 (RO ρ trip) (by omega) (by omega) (by omega) (by omega) (by omega) (by omega) (by omega) (by omega)) mvX6_soonest lX8_310 k7 (by decide) rfl rfl rfl rfl (Nat.le_of_ble_eq_true rfl) (Nat.le_of_ble_eq_true rfl) (Nat.le_of_ble_eq_true rfl) dX8_missed_114 (fun x u115 hu => ?_)
        obtain ⟨hx, hPu115⟩ := hu
        cases hx
        have hQu115 : CQ u115 ρ N := hQτ.ln hS.2 hR.2 hPu115
        have hCu115 := hQu115.c
        have hNu115 := hQu115.n
        have hT7u115 := hQu115.t
        have hM7u115 := hQu115.m
        have hFu115 : Fg pCq σ u115 := hFτ.trans (hPu115.1.mono (fun c j z => by unfold pLn at z; unfold pCq; omega))
        have hsou115 : -1000 ≤ SO ρ s t m 4 (RO ρ trip) ∧ SO ρ s t m 4 (RO ρ trip) ≤ 1000000 := soon_rng hW (set := riddenF ρ s m 4 (RO ρ trip)) (s := s) (t := t) (m := m) (by omega) (by omega) (by omega) (by omega) (by omega)
        refine a_topI (y := SO ρ s t m 4 (RO ρ trip)) rfl ?_
        refine a_istore (ls' := [(10, ai (SO ρ s t m 4 (RO ρ trip))), (8, al (RO ρ trip)), (7, ai trip), (6, ai most), (5, ai best), (0, ar 0), (1, ai s), (2, ai t), (3, ai m), (4, ai what)]) dX8_missed_117 (Nat.le_of_ble_eq_true rfl) rfl ?_
        refine a_iload dX8_missed_119 rfl ?_
        refine a_iload dX8_missed_121 rfl ?_
        refine a_icmp_le (tgt := 134) dX8_missed_123 (by decide) (inR_of (by omega) (by omega)) (inR_of (by omega) (by omega)) (fun c123 => ?_) (fun c123 => ?_)
        · refine a_iinc (y := trip + 1) (ls' := [(7, ai (trip + 1)), (10, ai (SO ρ s t m 4 (RO ρ trip))), (8, al (RO ρ trip)), (6, ai most), (5, ai best), (0, ar 0), (1, ai s), (2, ai t), (3, ai m), (4, ai what)]) dX8_missed_134 rfl rfl (Nat.le_of_ble_eq_true rfl) rfl ?_
          refine a_goto (tgt := 59) dX8_missed_137 (by decide) ?_
          have e : msC ρ s t m trip (best, most) = (best, most) := by unfold msC; dsimp only; rw [if_neg (by assumption), if_neg (by omega)]
          exact a_keep (by simp) (ih (trip + 1) (best) (most) u115 (by omega) (by omega) (by omega) (by omega) (by omega) (by omega) (by omega) hQu115 hFu115 (by rw [hV, itr_s, e]))
        · refine a_iload dX8_missed_126 rfl ?_
          refine a_istore (ls' := [(5, ai trip), (10, ai (SO ρ s t m 4 (RO ρ trip))), (8, al (RO ρ trip)), (7, ai trip), (6, ai most), (0, ar 0), (1, ai s), (2, ai t), (3, ai m), (4, ai what)]) dX8_missed_128 (Nat.le_of_ble_eq_true rfl) rfl ?_
          refine a_iload dX8_missed_130 rfl ?_
          refine a_istore (ls' := [(6, ai (SO ρ s t m 4 (RO ρ trip))), (5, ai trip), (10, ai (SO ρ s t m 4 (RO ρ trip))), (8, al (RO ρ trip)), (7, ai trip), (0, ar 0), (1, ai s), (2, ai t), (3, ai m), (4, ai what)]) dX8_missed_132 (Nat.le_of_ble_eq_true rfl) rfl ?_
          refine a_iinc (y := trip + 1) (ls' := [(7, ai (trip + 1)), (6, ai (SO ρ s t m 4 (RO ρ trip))), (5, ai trip), (10, ai (SO ρ s t m 4 (RO ρ trip))), (8, al (RO ρ trip)), (0, ar 0), (1, ai s), (2, ai t), (3, ai m), (4, ai what)]) dX8_missed_134 rfl rfl (Nat.le_of_ble_eq_true rfl) rfl ?_
          refine a_goto (tgt := 59) dX8_missed_137 (by decide) ?_
          have e : msC ρ s t m trip (best, most) = (trip, SO ρ s t m 4 (RO ρ trip)) := by unfold msC; dsimp only; rw [if_neg (by assumption), if_pos (by omega)]
          exact a_keep (by simp) (ih (trip + 1) (trip) (SO ρ s t m 4 (RO ρ trip)) u115 (by omega) (by omega) (by omega) (by omega) (by omega) (by omega) (by omega) hQu115 hFu115 (by rw [hV, itr_s, e]))
      · refine a_goto (tgt := 134) dX8_missed_101 (by decide) ?_
        refine a_iinc (y := trip + 1) (ls' := [(7, ai (trip + 1)), (8, al (RO ρ trip)), (6, ai most), (5, ai best), (0, ar 0), (1, ai s), (2, ai t), (3, ai m), (4, ai what)]) dX8_missed_134 rfl rfl (Nat.le_of_ble_eq_true rfl) rfl ?_
        refine a_goto (tgt := 59) dX8_missed_137 (by decide) ?_
        have e : msC ρ s t m trip (best, most) = (best, most) := by unfold msC; dsimp only; rw [if_pos (by assumption)]
        exact a_keep (by simp) (ih (trip + 1) (best) (most) τ (by omega) (by omega) (by omega) (by omega) (by omega) (by omega) (by omega) hQτ hFτ (by rw [hV, itr_s, e]))

set_option maxRecDepth 20000 in
theorem c_missed (σ ρ : Sto) (N : Nat) (hW : WV ρ) (hQ : CQ σ ρ N) (s t m what : Int) (hs : inR s) (ht : inR t) (hm : inR m) (hwhat : inR what) : MetA mX8_missed [ar 0, ai s, ai t, ai m, ai what] σ (cqQ σ ρ N (cMissed ρ s t m what)) := by
  have hC := hQ.c
  have hN := hQ.n
  have hT7 := hQ.t
  have hM7 := hQ.m
  have hF : Fg pCq σ σ := Fg.rfl
  have hNk := hN.k
  have hR := hW.R
  have hS := hW.S
  have hTr := hW.T
  refine a_entry (by decide) (Nat.le_of_ble_eq_true rfl) ?_
  refine a_ls (ls' := [(0, ar 0), (1, ai s), (2, ai t), (3, ai m), (4, ai what)]) rfl ?_
  refine a_aload_n dX8_missed_0 rfl rfl ?_
  refine a_iload_n dX8_missed_1 rfl rfl ?_
  refine a_iload_n dX8_missed_2 rfl rfl ?_
  refine a_cI (c := 0) (as := [ai s, ai t]) (rest := []) (c_arePair σ ρ N hW hC hN s t hs ht) mvX8_arePair lX8_238 k0 (by decide) rfl rfl rfl rfl (Nat.le_of_ble_eq_true rfl) (Nat.le_of_ble_eq_true rfl) (Nat.le_of_ble_eq_true rfl) dX8_missed_3 ?_
  refine a_ifb_eq (tgt := 26) dX8_missed_6 (by decide) (fun c6 => ?_) (fun c6 => ?_)
  · refine a_iconst dX8_missed_26 ?_
    exact a_iret rfl ⟨by unfold cMissed; grind, hQ, hF⟩ dX8_missed_27
  · refine a_iload_n dX8_missed_9 rfl rfl ?_
    refine a_sI (as := [ai m]) (rest := []) (c_isMinute σ m hm) mvX8_isMinute lX8_307 rfl rfl rfl (Nat.le_of_ble_eq_true rfl) (Nat.le_of_ble_eq_true rfl) (Nat.le_of_ble_eq_true rfl) dX8_missed_10 ?_
    refine a_ifb_eq (tgt := 26) dX8_missed_13 (by decide) (fun c13 => ?_) (fun c13 => ?_)
    · refine a_iconst dX8_missed_26 ?_
      exact a_iret rfl ⟨by unfold cMissed; grind, hQ, hF⟩ dX8_missed_27
    · refine a_iload dX8_missed_16 rfl ?_
      refine a_iconst dX8_missed_18 ?_
      refine a_iconst dX8_missed_19 ?_
      refine a_sI (as := [ai what, ai 0, ai 1]) (rest := []) (c_within σ what 0 1 hwhat (inR_of (by omega) (by omega)) (inR_of (by omega) (by omega))) mvX8_within lX8_179 rfl rfl rfl (Nat.le_of_ble_eq_true rfl) (Nat.le_of_ble_eq_true rfl) (Nat.le_of_ble_eq_true rfl) dX8_missed_20 ?_
      refine a_ifb_ne (tgt := 28) dX8_missed_23 (by decide) (fun c23 => ?_) (fun c23 => ?_)
      · refine a_aload_n dX8_missed_28 rfl rfl ?_
        refine a_getF (d := 7) fX8_81 k0 rfl r0_3 dX8_missed_29 ?_
        refine a_iload_n dX8_missed_32 rfl rfl ?_
        refine a_iload_n dX8_missed_33 rfl rfl ?_
        refine a_iload_n dX8_missed_34 rfl rfl ?_
        refine a_iconst dX8_missed_35 ?_
        refine a_lconst (v := 0) dX8_missed_36 rfl ?_
        refine a_callI (c := 7) (as := [ai s, ai t, ai m, ai 4, al 0]) (rest := []) (c_soonest σ ρ N 7 hW hN hT7 hM7 s t m 4 0 (by omega) (by omega) (by omega) (by omega) (by omega) (by omega) (by omega) (by omega)) mvX6_soonest lX8_310 k7 (by decide) rfl rfl rfl rfl (Nat.le_of_ble_eq_true rfl) (Nat.le_of_ble_eq_true rfl) (Nat.le_of_ble_eq_true rfl) dX8_missed_37 (fun x u116 hu => ?_)
        obtain ⟨hx, hPu116⟩ := hu
        cases hx
        have hQu116 : CQ u116 ρ N := hQ.ln hS.2 hR.2 hPu116
        have hCu116 := hQu116.c
        have hNu116 := hQu116.n
        have hT7u116 := hQu116.t
        have hM7u116 := hQu116.m
        have hFu116 : Fg pCq σ u116 := hF.trans (hPu116.1.mono (fun c j z => by unfold pLn at z; unfold pCq; omega))
        have hsou116 : -1000 ≤ SO ρ s t m 4 0 ∧ SO ρ s t m 4 0 ≤ 1000000 := soon_rng hW (set := riddenF ρ s m 4 0) (s := s) (t := t) (m := m) (by omega) (by omega) (by omega) (by omega) (by omega)
        refine a_topI (y := SO ρ s t m 4 0) rfl ?_
        refine a_ldc_w (x := 1000000) cX8_286 (by decide) dX8_missed_40 ?_
        refine a_icmp_lt (tgt := 49) dX8_missed_43 (by decide) (inR_of (by omega) (by omega)) (inR_of (by omega) (by omega)) (fun c43 => ?_) (fun c43 => ?_)
        · refine a_bipush (x := (-2)) dX8_missed_49 (by decide) ?_
          refine a_istore (ls' := [(5, ai (-2)), (0, ar 0), (1, ai s), (2, ai t), (3, ai m), (4, ai what)]) dX8_missed_51 (Nat.le_of_ble_eq_true rfl) rfl ?_
          refine a_iconst dX8_missed_53 ?_
          refine a_istore (ls' := [(6, ai (-1)), (5, ai (-2)), (0, ar 0), (1, ai s), (2, ai t), (3, ai m), (4, ai what)]) dX8_missed_54 (Nat.le_of_ble_eq_true rfl) rfl ?_
          refine a_iconst dX8_missed_56 ?_
          refine a_istore (ls' := [(7, ai 0), (6, ai (-1)), (5, ai (-2)), (0, ar 0), (1, ai s), (2, ai t), (3, ai m), (4, ai what)]) dX8_missed_57 (Nat.le_of_ble_eq_true rfl) rfl ?_
          have e : cMissed ρ s t m what = mssR (itr (msC ρ s t m) (gN ρ 155 2).toNat 0 (-2, -1)) what := by unfold cMissed; rw [if_neg (by grind), if_neg (by omega)]
          rw [e]
          exact a_keep (by simp) (c_missed_l σ ρ N hW s t m what (by grind) (by grind) (by omega) (by omega) _ (gN ρ 155 2).toNat 0 (-2) (-1) u116 (by omega) (by omega) (by omega) (by omega) (by omega) (by omega) (by omega) hQu116 hFu116 rfl)
        · refine a_bipush (x := (-2)) dX8_missed_46 (by decide) ?_
          exact a_iret rfl ⟨by unfold cMissed; grind, hQu116, hFu116⟩ dX8_missed_48
      · refine a_iconst dX8_missed_26 ?_
        exact a_iret rfl ⟨by unfold cMissed; grind, hQ, hF⟩ dX8_missed_27

def plC (ρ : Sto) (co r : Int) : Int := if co = 0 then gN ρ 155 (115 + 5 * r + 1) else gN ρ 155 (115 + 5 * r + 2)
def miC (ρ : Sto) (co r : Int) : Int := if co = 0 then gN ρ 161 r else gN ρ 162 r
def lbF (ρ : Sto) (co stop ride mi r best : Int) : Int := if plC ρ co r = stop ∧ ¬ cnc ρ r ∧ (mi < miC ρ co r ∨ (miC ρ co r = mi ∧ ride < r)) ∧ (best < 0 ∨ miC ρ co r < miC ρ co best) then r else best
def lbT (ρ : Sto) (co stop ride mi : Int) : Int := itr (lbF ρ co stop ride mi) (gN ρ 155 3).toNat 0 (-2)
def bdN (ρ : Sto) (co stop : Int) : Nat → Int → Int → Int
  | 0, ride, _ => ride
  | n + 1, ride, mi => if lbT ρ co stop ride mi < 0 then -2 else bdN ρ co stop n (lbT ρ co stop ride mi) (miC ρ co (lbT ρ co stop ride mi))
def cBoard (ρ : Sto) (stop m co i : Int) : Int := if ¬ stp ρ stop ∨ ¬ mnt m ∨ i < 0 then -1 else bdN ρ co stop ((if i < gN ρ 155 3 then i else gN ρ 155 3) + 1).toNat (-2) m
theorem lb_rng {ρ : Sto} {co stop ride mi : Int} : ∀ (n : Nat) (r best : Int), 0 ≤ r → (best = -2 ∨ (0 ≤ best ∧ best < r)) → itr (lbF ρ co stop ride mi) n r best = -2 ∨ (0 ≤ itr (lbF ρ co stop ride mi) n r best ∧ itr (lbF ρ co stop ride mi) n r best < r + n)
  | 0, r, best, _, h => by simpa [itr] using h
  | n + 1, r, best, h0, h => by
    rw [itr_s]
    have z := lb_rng (ρ := ρ) (co := co) (stop := stop) (ride := ride) (mi := mi) n (r + 1) (lbF ρ co stop ride mi r best) (by omega) (by unfold lbF; split <;> omega)
    omega
theorem lbT_rng {ρ : Sto} (hR : 0 ≤ gN ρ 155 3) {co stop ride mi : Int} : lbT ρ co stop ride mi = -2 ∨ (0 ≤ lbT ρ co stop ride mi ∧ lbT ρ co stop ride mi < gN ρ 155 3) := by
  have z := lb_rng (ρ := ρ) (co := co) (stop := stop) (ride := ride) (mi := mi) (gN ρ 155 3).toNat 0 (-2) (by omega) (Or.inl rfl)
  unfold lbT
  omega
theorem miC_rng {ρ : Sto} (hW : WV ρ) {co r : Int} (h0 : 0 ≤ r) (h1 : r < gN ρ 155 3) : -1000 ≤ miC ρ co r ∧ miC ρ co r ≤ 4000 := by
  have b := hW.tm r h0 h1
  unfold miC
  split <;> omega

set_option maxRecDepth 20000 in
theorem c_lb0_l (σ ρ : Sto) (N : Nat) (hW : WV ρ) (hQ : CQ σ ρ N) (stop ride mi : Int) (hst : inR stop) (hri : inR ride) (hmi : inR mi) (V : Int) : ∀ (n : Nat) (r : Int) (best : Int), 0 ≤ r → r ≤ gN ρ 155 3 → n = (gN ρ 155 3 - r).toNat → best = -2 ∨ (0 ≤ best ∧ best < r) → V = itr (lbF ρ 0 stop ride mi) n r best → RunA mX8_leastBehind (qI V σ) 7 [(7, ai r), (6, ai best), (0, ar 0), (1, ar (N + 7)), (2, ar 8), (3, ai stop), (4, ai ride), (5, ai mi)] [] σ := by
  have hC := hQ.c
  have hN := hQ.n
  have hT7 := hQ.t
  have hM7 := hQ.m
  have hF : Fg pCq σ σ := Fg.rfl
  have hNk := hN.k
  have hR := hW.R
  have hS := hW.S
  have hTr := hW.T
  intro n
  induction n with
  | zero =>
    intro r best h0 h5 hn hb hE
    refine a_iload dX8_leastBehind_7 rfl ?_
    refine a_aload_n dX8_leastBehind_9 rfl rfl ?_
    refine a_getR (d := N) (J := 12) fX8_65 k0 rfl q0_12 rfl hC dX8_leastBehind_10 ?_
    refine a_getI (J := 3) fX8_359 (kN hNk) rfl rfl dX8_leastBehind_13 ?_
    refine a_topI (y := gN ρ 155 3) hN.n3 ?_
    refine a_icmp_ge (tgt := 105) dX8_leastBehind_16 (by decide) (inR_of (by omega) (by omega)) (inR_gN _ _ _) (fun c16 => ?_) (fun c16 => ?_)
    · refine a_iload dX8_leastBehind_105 rfl ?_
      exact a_iret rfl ⟨by rw [hE]; rfl, rfl⟩ dX8_leastBehind_107
    · exfalso; omega
  | succ n ih =>
    intro r best h0 h5 hn hb hE
    refine a_iload dX8_leastBehind_7 rfl ?_
    refine a_aload_n dX8_leastBehind_9 rfl rfl ?_
    refine a_getR (d := N) (J := 12) fX8_65 k0 rfl q0_12 rfl hC dX8_leastBehind_10 ?_
    refine a_getI (J := 3) fX8_359 (kN hNk) rfl rfl dX8_leastBehind_13 ?_
    refine a_topI (y := gN ρ 155 3) hN.n3 ?_
    refine a_icmp_ge (tgt := 105) dX8_leastBehind_16 (by decide) (inR_of (by omega) (by omega)) (inR_gN _ _ _) (fun c16 => ?_) (fun c16 => ?_)
    · exfalso; omega
    · refine a_aload_n dX8_leastBehind_19 rfl rfl ?_
      refine a_iload dX8_leastBehind_20 rfl ?_
      refine a_ild (kN_7 hNk) (nN_7 hNk) (by omega) (by omega) dX8_leastBehind_22 ?_
      refine a_topI (y := gN ρ 155 (115 + 5 * r + 1)) (hN.r1 (by omega) (by omega)) ?_
      have hb89 := hW.ride r (by omega) (by omega)
      refine a_iload_n dX8_leastBehind_23 rfl rfl ?_
      refine a_icmp_ne (tgt := 99) dX8_leastBehind_24 (by decide) (inR_gN _ _ _) hst (fun c24 => ?_) (fun c24 => ?_)
      · refine a_iinc (y := r + 1) (ls' := [(7, ai (r + 1)), (6, ai best), (0, ar 0), (1, ar (N + 7)), (2, ar 8), (3, ai stop), (4, ai ride), (5, ai mi)]) dX8_leastBehind_99 rfl rfl (Nat.le_of_ble_eq_true rfl) rfl ?_
        refine a_goto (tgt := 7) dX8_leastBehind_102 (by decide) ?_
        have e : lbF ρ 0 stop ride mi r best = best := by unfold lbF plC miC; grind
        exact a_keep (by simp) (ih (r + 1) (best) (by omega) (by omega) (by omega) (by omega) (by rw [hE, itr_s, e]))
      · refine a_aload_n dX8_leastBehind_27 rfl rfl ?_
        refine a_getF (d := 7) fX8_81 k0 rfl r0_3 dX8_leastBehind_28 ?_
        refine a_iload dX8_leastBehind_31 rfl ?_
        refine a_cI (c := 7) (as := [ai r]) (rest := []) (c_isCancelled σ ρ N 7 hW hN hT7 r (by omega) (by omega)) mvX6_isCancelled lX8_150 k7 (by decide) rfl rfl rfl rfl (Nat.le_of_ble_eq_true rfl) (Nat.le_of_ble_eq_true rfl) (Nat.le_of_ble_eq_true rfl) dX8_leastBehind_33 ?_
        refine a_ifb_eq (tgt := 42) dX8_leastBehind_36 (by decide) (fun c36 => ?_) (fun c36 => ?_)
        · refine a_aload_n dX8_leastBehind_42 rfl rfl ?_
          refine a_iload dX8_leastBehind_43 rfl ?_
          refine a_ild k8 n8 (by omega) (by omega) dX8_leastBehind_45 ?_
          refine a_topI (y := gN ρ 161 r) (hT7.lv (by omega) (by omega)) ?_
          have hb90 := hW.tm r (by omega) (by omega)
          refine a_iload dX8_leastBehind_46 rfl ?_
          refine a_icmp_gt (tgt := 67) dX8_leastBehind_48 (by decide) (inR_gN _ _ _) hmi (fun c48 => ?_) (fun c48 => ?_)
          · refine a_iconst dX8_leastBehind_67 ?_
            refine a_goto (tgt := 72) dX8_leastBehind_68 (by decide) ?_
            refine a_istore (ls' := [(8, ai 1), (7, ai r), (6, ai best), (0, ar 0), (1, ar (N + 7)), (2, ar 8), (3, ai stop), (4, ai ride), (5, ai mi)]) dX8_leastBehind_72 (Nat.le_of_ble_eq_true rfl) rfl ?_
            refine a_iload dX8_leastBehind_74 rfl ?_
            refine a_if_eq (tgt := 99) dX8_leastBehind_76 (by decide) (inR_of (by omega) (by omega)) (fun c76 => ?_) (fun c76 => ?_)
            · exact absurd c76 (by decide)
            · refine a_iload dX8_leastBehind_79 rfl ?_
              refine a_if_lt (tgt := 95) dX8_leastBehind_81 (by decide) (inR_of (by omega) (by omega)) (fun c81 => ?_) (fun c81 => ?_)
              · refine a_iload dX8_leastBehind_95 rfl ?_
                refine a_istore (ls' := [(6, ai r), (8, ai 1), (7, ai r), (0, ar 0), (1, ar (N + 7)), (2, ar 8), (3, ai stop), (4, ai ride), (5, ai mi)]) dX8_leastBehind_97 (Nat.le_of_ble_eq_true rfl) rfl ?_
                refine a_iinc (y := r + 1) (ls' := [(7, ai (r + 1)), (6, ai r), (8, ai 1), (0, ar 0), (1, ar (N + 7)), (2, ar 8), (3, ai stop), (4, ai ride), (5, ai mi)]) dX8_leastBehind_99 rfl rfl (Nat.le_of_ble_eq_true rfl) rfl ?_
                refine a_goto (tgt := 7) dX8_leastBehind_102 (by decide) ?_
                have e : lbF ρ 0 stop ride mi r best = r := by unfold lbF plC miC; grind
                exact a_keep (by simp) (ih (r + 1) (r) (by omega) (by omega) (by omega) (by omega) (by rw [hE, itr_s, e]))
              · refine a_aload_n dX8_leastBehind_84 rfl rfl ?_
                refine a_iload dX8_leastBehind_85 rfl ?_
                refine a_ild k8 n8 (by omega) (by omega) dX8_leastBehind_87 ?_
                refine a_topI (y := gN ρ 161 r) (hT7.lv (by omega) (by omega)) ?_
                refine a_aload_n dX8_leastBehind_88 rfl rfl ?_
                refine a_iload dX8_leastBehind_89 rfl ?_
                refine a_ild k8 n8 (by omega) (by omega) dX8_leastBehind_91 ?_
                refine a_topI (y := gN ρ 161 best) (hT7.lv (by omega) (by omega)) ?_
                have hb91 := hW.tm best (by omega) (by omega)
                refine a_icmp_ge (tgt := 99) dX8_leastBehind_92 (by decide) (inR_gN _ _ _) (inR_gN _ _ _) (fun c92 => ?_) (fun c92 => ?_)
                · refine a_iinc (y := r + 1) (ls' := [(7, ai (r + 1)), (8, ai 1), (6, ai best), (0, ar 0), (1, ar (N + 7)), (2, ar 8), (3, ai stop), (4, ai ride), (5, ai mi)]) dX8_leastBehind_99 rfl rfl (Nat.le_of_ble_eq_true rfl) rfl ?_
                  refine a_goto (tgt := 7) dX8_leastBehind_102 (by decide) ?_
                  have e : lbF ρ 0 stop ride mi r best = best := by unfold lbF plC miC; grind
                  exact a_keep (by simp) (ih (r + 1) (best) (by omega) (by omega) (by omega) (by omega) (by rw [hE, itr_s, e]))
                · refine a_iload dX8_leastBehind_95 rfl ?_
                  refine a_istore (ls' := [(6, ai r), (8, ai 1), (7, ai r), (0, ar 0), (1, ar (N + 7)), (2, ar 8), (3, ai stop), (4, ai ride), (5, ai mi)]) dX8_leastBehind_97 (Nat.le_of_ble_eq_true rfl) rfl ?_
                  refine a_iinc (y := r + 1) (ls' := [(7, ai (r + 1)), (6, ai r), (8, ai 1), (0, ar 0), (1, ar (N + 7)), (2, ar 8), (3, ai stop), (4, ai ride), (5, ai mi)]) dX8_leastBehind_99 rfl rfl (Nat.le_of_ble_eq_true rfl) rfl ?_
                  refine a_goto (tgt := 7) dX8_leastBehind_102 (by decide) ?_
                  have e : lbF ρ 0 stop ride mi r best = r := by unfold lbF plC miC; grind
                  exact a_keep (by simp) (ih (r + 1) (r) (by omega) (by omega) (by omega) (by omega) (by rw [hE, itr_s, e]))
          · refine a_aload_n dX8_leastBehind_51 rfl rfl ?_
            refine a_iload dX8_leastBehind_52 rfl ?_
            refine a_ild k8 n8 (by omega) (by omega) dX8_leastBehind_54 ?_
            refine a_topI (y := gN ρ 161 r) (hT7.lv (by omega) (by omega)) ?_
            refine a_iload dX8_leastBehind_55 rfl ?_
            refine a_icmp_ne (tgt := 71) dX8_leastBehind_57 (by decide) (inR_gN _ _ _) hmi (fun c57 => ?_) (fun c57 => ?_)
            · refine a_iconst dX8_leastBehind_71 ?_
              refine a_istore (ls' := [(8, ai 0), (7, ai r), (6, ai best), (0, ar 0), (1, ar (N + 7)), (2, ar 8), (3, ai stop), (4, ai ride), (5, ai mi)]) dX8_leastBehind_72 (Nat.le_of_ble_eq_true rfl) rfl ?_
              refine a_iload dX8_leastBehind_74 rfl ?_
              refine a_if_eq (tgt := 99) dX8_leastBehind_76 (by decide) (inR_of (by omega) (by omega)) (fun c76 => ?_) (fun c76 => ?_)
              · refine a_iinc (y := r + 1) (ls' := [(7, ai (r + 1)), (8, ai 0), (6, ai best), (0, ar 0), (1, ar (N + 7)), (2, ar 8), (3, ai stop), (4, ai ride), (5, ai mi)]) dX8_leastBehind_99 rfl rfl (Nat.le_of_ble_eq_true rfl) rfl ?_
                refine a_goto (tgt := 7) dX8_leastBehind_102 (by decide) ?_
                have e : lbF ρ 0 stop ride mi r best = best := by unfold lbF plC miC; grind
                exact a_keep (by simp) (ih (r + 1) (best) (by omega) (by omega) (by omega) (by omega) (by rw [hE, itr_s, e]))
              · exact absurd c76 (by decide)
            · refine a_iload dX8_leastBehind_60 rfl ?_
              refine a_iload dX8_leastBehind_62 rfl ?_
              refine a_icmp_le (tgt := 71) dX8_leastBehind_64 (by decide) (inR_of (by omega) (by omega)) hri (fun c64 => ?_) (fun c64 => ?_)
              · refine a_iconst dX8_leastBehind_71 ?_
                refine a_istore (ls' := [(8, ai 0), (7, ai r), (6, ai best), (0, ar 0), (1, ar (N + 7)), (2, ar 8), (3, ai stop), (4, ai ride), (5, ai mi)]) dX8_leastBehind_72 (Nat.le_of_ble_eq_true rfl) rfl ?_
                refine a_iload dX8_leastBehind_74 rfl ?_
                refine a_if_eq (tgt := 99) dX8_leastBehind_76 (by decide) (inR_of (by omega) (by omega)) (fun c76 => ?_) (fun c76 => ?_)
                · refine a_iinc (y := r + 1) (ls' := [(7, ai (r + 1)), (8, ai 0), (6, ai best), (0, ar 0), (1, ar (N + 7)), (2, ar 8), (3, ai stop), (4, ai ride), (5, ai mi)]) dX8_leastBehind_99 rfl rfl (Nat.le_of_ble_eq_true rfl) rfl ?_
                  refine a_goto (tgt := 7) dX8_leastBehind_102 (by decide) ?_
                  have e : lbF ρ 0 stop ride mi r best = best := by unfold lbF plC miC; grind
                  exact a_keep (by simp) (ih (r + 1) (best) (by omega) (by omega) (by omega) (by omega) (by rw [hE, itr_s, e]))
                · exact absurd c76 (by decide)
              · refine a_iconst dX8_leastBehind_67 ?_
                refine a_goto (tgt := 72) dX8_leastBehind_68 (by decide) ?_
                refine a_istore (ls' := [(8, ai 1), (7, ai r), (6, ai best), (0, ar 0), (1, ar (N + 7)), (2, ar 8), (3, ai stop), (4, ai ride), (5, ai mi)]) dX8_leastBehind_72 (Nat.le_of_ble_eq_true rfl) rfl ?_
                refine a_iload dX8_leastBehind_74 rfl ?_
                refine a_if_eq (tgt := 99) dX8_leastBehind_76 (by decide) (inR_of (by omega) (by omega)) (fun c76 => ?_) (fun c76 => ?_)
                · exact absurd c76 (by decide)
                · refine a_iload dX8_leastBehind_79 rfl ?_
                  refine a_if_lt (tgt := 95) dX8_leastBehind_81 (by decide) (inR_of (by omega) (by omega)) (fun c81 => ?_) (fun c81 => ?_)
                  · refine a_iload dX8_leastBehind_95 rfl ?_
                    refine a_istore (ls' := [(6, ai r), (8, ai 1), (7, ai r), (0, ar 0), (1, ar (N + 7)), (2, ar 8), (3, ai stop), (4, ai ride), (5, ai mi)]) dX8_leastBehind_97 (Nat.le_of_ble_eq_true rfl) rfl ?_
                    refine a_iinc (y := r + 1) (ls' := [(7, ai (r + 1)), (6, ai r), (8, ai 1), (0, ar 0), (1, ar (N + 7)), (2, ar 8), (3, ai stop), (4, ai ride), (5, ai mi)]) dX8_leastBehind_99 rfl rfl (Nat.le_of_ble_eq_true rfl) rfl ?_
                    refine a_goto (tgt := 7) dX8_leastBehind_102 (by decide) ?_
                    have e : lbF ρ 0 stop ride mi r best = r := by unfold lbF plC miC; grind
                    exact a_keep (by simp) (ih (r + 1) (r) (by omega) (by omega) (by omega) (by omega) (by rw [hE, itr_s, e]))
                  · refine a_aload_n dX8_leastBehind_84 rfl rfl ?_
                    refine a_iload dX8_leastBehind_85 rfl ?_
                    refine a_ild k8 n8 (by omega) (by omega) dX8_leastBehind_87 ?_
                    refine a_topI (y := gN ρ 161 r) (hT7.lv (by omega) (by omega)) ?_
                    refine a_aload_n dX8_leastBehind_88 rfl rfl ?_
                    refine a_iload dX8_leastBehind_89 rfl ?_
                    refine a_ild k8 n8 (by omega) (by omega) dX8_leastBehind_91 ?_
                    refine a_topI (y := gN ρ 161 best) (hT7.lv (by omega) (by omega)) ?_
                    have hb92 := hW.tm best (by omega) (by omega)
                    refine a_icmp_ge (tgt := 99) dX8_leastBehind_92 (by decide) (inR_gN _ _ _) (inR_gN _ _ _) (fun c92 => ?_) (fun c92 => ?_)
                    · refine a_iinc (y := r + 1) (ls' := [(7, ai (r + 1)), (8, ai 1), (6, ai best), (0, ar 0), (1, ar (N + 7)), (2, ar 8), (3, ai stop), (4, ai ride), (5, ai mi)]) dX8_leastBehind_99 rfl rfl (Nat.le_of_ble_eq_true rfl) rfl ?_
                      refine a_goto (tgt := 7) dX8_leastBehind_102 (by decide) ?_
                      have e : lbF ρ 0 stop ride mi r best = best := by unfold lbF plC miC; grind
                      exact a_keep (by simp) (ih (r + 1) (best) (by omega) (by omega) (by omega) (by omega) (by rw [hE, itr_s, e]))
                    · refine a_iload dX8_leastBehind_95 rfl ?_
                      refine a_istore (ls' := [(6, ai r), (8, ai 1), (7, ai r), (0, ar 0), (1, ar (N + 7)), (2, ar 8), (3, ai stop), (4, ai ride), (5, ai mi)]) dX8_leastBehind_97 (Nat.le_of_ble_eq_true rfl) rfl ?_
                      refine a_iinc (y := r + 1) (ls' := [(7, ai (r + 1)), (6, ai r), (8, ai 1), (0, ar 0), (1, ar (N + 7)), (2, ar 8), (3, ai stop), (4, ai ride), (5, ai mi)]) dX8_leastBehind_99 rfl rfl (Nat.le_of_ble_eq_true rfl) rfl ?_
                      refine a_goto (tgt := 7) dX8_leastBehind_102 (by decide) ?_
                      have e : lbF ρ 0 stop ride mi r best = r := by unfold lbF plC miC; grind
                      exact a_keep (by simp) (ih (r + 1) (r) (by omega) (by omega) (by omega) (by omega) (by rw [hE, itr_s, e]))
        · refine a_goto (tgt := 99) dX8_leastBehind_39 (by decide) ?_
          refine a_iinc (y := r + 1) (ls' := [(7, ai (r + 1)), (6, ai best), (0, ar 0), (1, ar (N + 7)), (2, ar 8), (3, ai stop), (4, ai ride), (5, ai mi)]) dX8_leastBehind_99 rfl rfl (Nat.le_of_ble_eq_true rfl) rfl ?_
          refine a_goto (tgt := 7) dX8_leastBehind_102 (by decide) ?_
          have e : lbF ρ 0 stop ride mi r best = best := by unfold lbF plC miC; grind
          exact a_keep (by simp) (ih (r + 1) (best) (by omega) (by omega) (by omega) (by omega) (by rw [hE, itr_s, e]))

set_option maxRecDepth 20000 in
theorem c_lb0 (σ ρ : Sto) (N : Nat) (hW : WV ρ) (hQ : CQ σ ρ N) (stop ride mi : Int) (hst : inR stop) (hri : inR ride) (hmi : inR mi) : MetI mX8_leastBehind [ar 0, ar (N + 7), ar 8, ai stop, ai ride, ai mi] σ (lbT ρ 0 stop ride mi) σ := by
  have hC := hQ.c
  have hN := hQ.n
  have hT7 := hQ.t
  have hM7 := hQ.m
  have hF : Fg pCq σ σ := Fg.rfl
  have hNk := hN.k
  have hR := hW.R
  have hS := hW.S
  have hTr := hW.T
  refine a_entry (by decide) (Nat.le_of_ble_eq_true rfl) ?_
  refine a_ls (ls' := [(0, ar 0), (1, ar (N + 7)), (2, ar 8), (3, ai stop), (4, ai ride), (5, ai mi)]) rfl ?_
  refine a_bipush (x := (-2)) dX8_leastBehind_0 (by decide) ?_
  refine a_istore (ls' := [(6, ai (-2)), (0, ar 0), (1, ar (N + 7)), (2, ar 8), (3, ai stop), (4, ai ride), (5, ai mi)]) dX8_leastBehind_2 (Nat.le_of_ble_eq_true rfl) rfl ?_
  refine a_iconst dX8_leastBehind_4 ?_
  refine a_istore (ls' := [(7, ai 0), (6, ai (-2)), (0, ar 0), (1, ar (N + 7)), (2, ar 8), (3, ai stop), (4, ai ride), (5, ai mi)]) dX8_leastBehind_5 (Nat.le_of_ble_eq_true rfl) rfl ?_
  exact a_keep (by simp) (c_lb0_l σ ρ N hW hQ stop ride mi hst hri hmi _ (gN ρ 155 3).toNat 0 (-2) (by omega) (by omega) (by omega) (Or.inl rfl) rfl)

set_option maxRecDepth 20000 in
theorem c_bd0_l (σ ρ : Sto) (N : Nat) (hW : WV ρ) (hQ : CQ σ ρ N) (stop m co i : Int) (hst : inR stop) (hi0 : 0 ≤ i) (hi : inR i) (V : Int) : ∀ (n : Nat) (k : Int) (mi : Int) (ride : Int), 0 ≤ k → n = ((if i < gN ρ 155 3 then i else gN ρ 155 3) + 1 - k).toNat → k ≤ (if i < gN ρ 155 3 then i else gN ρ 155 3) + 1 → inR ride → inR mi → V = bdN ρ 0 stop n ride mi → RunA mX8_board (cqQ σ ρ N V) 78 [(9, ai k), (8, ai mi), (7, ai ride), (0, ar 0), (1, ai stop), (2, ai m), (3, ai co), (4, ai i), (5, ar (N + 7)), (6, ar 8)] [] σ := by
  have hC := hQ.c
  have hN := hQ.n
  have hT7 := hQ.t
  have hM7 := hQ.m
  have hF : Fg pCq σ σ := Fg.rfl
  have hNk := hN.k
  have hR := hW.R
  have hS := hW.S
  have hTr := hW.T
  intro n
  induction n with
  | zero =>
    intro k mi ride h0 hn hk hri hmi hE
    refine a_iload dX8_board_78 rfl ?_
    refine a_iload dX8_board_80 rfl ?_
    refine a_icmp_gt (tgt := 133) dX8_board_82 (by decide) (inR_of (by omega) (by omega)) hi (fun c82 => ?_) (fun c82 => ?_)
    · refine a_iload dX8_board_133 rfl ?_
      exact a_iret rfl ⟨by rw [hE]; rfl, hQ, hF⟩ dX8_board_135
    · refine a_iload dX8_board_85 rfl ?_
      refine a_aload_n dX8_board_87 rfl rfl ?_
      refine a_getR (d := N) (J := 12) fX8_65 k0 rfl q0_12 rfl hC dX8_board_88 ?_
      refine a_getI (J := 3) fX8_359 (kN hNk) rfl rfl dX8_board_91 ?_
      refine a_topI (y := gN ρ 155 3) hN.n3 ?_
      refine a_icmp_gt (tgt := 133) dX8_board_94 (by decide) (inR_of (by omega) (by omega)) (inR_gN _ _ _) (fun c94 => ?_) (fun c94 => ?_)
      · refine a_iload dX8_board_133 rfl ?_
        exact a_iret rfl ⟨by rw [hE]; rfl, hQ, hF⟩ dX8_board_135
      · exfalso; split at hn <;> omega
  | succ n ih =>
    intro k mi ride h0 hn hk hri hmi hE
    refine a_iload dX8_board_78 rfl ?_
    refine a_iload dX8_board_80 rfl ?_
    refine a_icmp_gt (tgt := 133) dX8_board_82 (by decide) (inR_of (by omega) (by omega)) hi (fun c82 => ?_) (fun c82 => ?_)
    · exfalso; split at hn <;> omega
    · refine a_iload dX8_board_85 rfl ?_
      refine a_aload_n dX8_board_87 rfl rfl ?_
      refine a_getR (d := N) (J := 12) fX8_65 k0 rfl q0_12 rfl hC dX8_board_88 ?_
      refine a_getI (J := 3) fX8_359 (kN hNk) rfl rfl dX8_board_91 ?_
      refine a_topI (y := gN ρ 155 3) hN.n3 ?_
      refine a_icmp_gt (tgt := 133) dX8_board_94 (by decide) (inR_of (by omega) (by omega)) (inR_gN _ _ _) (fun c94 => ?_) (fun c94 => ?_)
      · exfalso; split at hn <;> omega
      · refine a_aload_n dX8_board_97 rfl rfl ?_
        refine a_aload dX8_board_98 rfl ?_
        refine a_aload dX8_board_100 rfl ?_
        refine a_iload_n dX8_board_102 rfl rfl ?_
        refine a_iload dX8_board_103 rfl ?_
        refine a_iload dX8_board_105 rfl ?_
        refine a_cI (c := 0) (as := [ar (N + 7), ar 8, ai stop, ai ride, ai mi]) (rest := []) (c_lb0 σ ρ N hW hQ stop ride mi hst hri hmi) mvX8_leastBehind lX8_361 k0 (by decide) rfl rfl rfl rfl (Nat.le_of_ble_eq_true rfl) (Nat.le_of_ble_eq_true rfl) (Nat.le_of_ble_eq_true rfl) dX8_board_107 ?_
        have hlr := lbT_rng hR.1 (ρ := ρ) (co := 0) (stop := stop) (ride := ride) (mi := mi)
        refine a_istore (ls' := [(7, ai (lbT ρ 0 stop ride mi)), (9, ai k), (8, ai mi), (0, ar 0), (1, ai stop), (2, ai m), (3, ai co), (4, ai i), (5, ar (N + 7)), (6, ar 8)]) dX8_board_110 (Nat.le_of_ble_eq_true rfl) rfl ?_
        refine a_iload dX8_board_112 rfl ?_
        refine a_if_ge (tgt := 120) dX8_board_114 (by decide) (inR_of (by omega) (by omega)) (fun c114 => ?_) (fun c114 => ?_)
        · refine a_aload dX8_board_120 rfl ?_
          refine a_iload dX8_board_122 rfl ?_
          refine a_ild k8 n8 (by omega) (by omega) dX8_board_124 ?_
          refine a_topI (y := miC ρ 0 (lbT ρ 0 stop ride mi)) (by rw [hT7.lv (by omega) (by omega)]; rfl) ?_
          refine a_istore (ls' := [(8, ai (miC ρ 0 (lbT ρ 0 stop ride mi))), (7, ai (lbT ρ 0 stop ride mi)), (9, ai k), (0, ar 0), (1, ai stop), (2, ai m), (3, ai co), (4, ai i), (5, ar (N + 7)), (6, ar 8)]) dX8_board_125 (Nat.le_of_ble_eq_true rfl) rfl ?_
          refine a_iinc (y := k + 1) (ls' := [(9, ai (k + 1)), (8, ai (miC ρ 0 (lbT ρ 0 stop ride mi))), (7, ai (lbT ρ 0 stop ride mi)), (0, ar 0), (1, ai stop), (2, ai m), (3, ai co), (4, ai i), (5, ar (N + 7)), (6, ar 8)]) dX8_board_127 rfl rfl (Nat.le_of_ble_eq_true rfl) rfl ?_
          refine a_goto (tgt := 78) dX8_board_130 (by decide) ?_
          have htm := hW.tm (lbT ρ 0 stop ride mi) (by omega) (by omega)
          exact a_keep (by simp) (ih (k + 1) (miC ρ 0 (lbT ρ 0 stop ride mi)) (lbT ρ 0 stop ride mi) (by omega) (by omega) (by omega) (inR_of (by omega) (by omega)) (inR_of (by unfold miC; omega) (by unfold miC; omega)) (by rw [hE, bdN, if_neg (by omega)]))
        · refine a_bipush (x := (-2)) dX8_board_117 (by decide) ?_
          exact a_iret rfl ⟨by rw [hE, bdN, if_pos (by omega)], hQ, hF⟩ dX8_board_119

set_option maxRecDepth 20000 in
theorem c_lb1_l (σ ρ : Sto) (N : Nat) (hW : WV ρ) (hQ : CQ σ ρ N) (stop ride mi : Int) (hst : inR stop) (hri : inR ride) (hmi : inR mi) (V : Int) : ∀ (n : Nat) (r : Int) (best : Int), 0 ≤ r → r ≤ gN ρ 155 3 → n = (gN ρ 155 3 - r).toNat → best = -2 ∨ (0 ≤ best ∧ best < r) → V = itr (lbF ρ 1 stop ride mi) n r best → RunA mX8_leastBehind (qI V σ) 7 [(7, ai r), (6, ai best), (0, ar 0), (1, ar (N + 8)), (2, ar 9), (3, ai stop), (4, ai ride), (5, ai mi)] [] σ := by
  have hC := hQ.c
  have hN := hQ.n
  have hT7 := hQ.t
  have hM7 := hQ.m
  have hF : Fg pCq σ σ := Fg.rfl
  have hNk := hN.k
  have hR := hW.R
  have hS := hW.S
  have hTr := hW.T
  intro n
  induction n with
  | zero =>
    intro r best h0 h5 hn hb hE
    refine a_iload dX8_leastBehind_7 rfl ?_
    refine a_aload_n dX8_leastBehind_9 rfl rfl ?_
    refine a_getR (d := N) (J := 12) fX8_65 k0 rfl q0_12 rfl hC dX8_leastBehind_10 ?_
    refine a_getI (J := 3) fX8_359 (kN hNk) rfl rfl dX8_leastBehind_13 ?_
    refine a_topI (y := gN ρ 155 3) hN.n3 ?_
    refine a_icmp_ge (tgt := 105) dX8_leastBehind_16 (by decide) (inR_of (by omega) (by omega)) (inR_gN _ _ _) (fun c16 => ?_) (fun c16 => ?_)
    · refine a_iload dX8_leastBehind_105 rfl ?_
      exact a_iret rfl ⟨by rw [hE]; rfl, rfl⟩ dX8_leastBehind_107
    · exfalso; omega
  | succ n ih =>
    intro r best h0 h5 hn hb hE
    refine a_iload dX8_leastBehind_7 rfl ?_
    refine a_aload_n dX8_leastBehind_9 rfl rfl ?_
    refine a_getR (d := N) (J := 12) fX8_65 k0 rfl q0_12 rfl hC dX8_leastBehind_10 ?_
    refine a_getI (J := 3) fX8_359 (kN hNk) rfl rfl dX8_leastBehind_13 ?_
    refine a_topI (y := gN ρ 155 3) hN.n3 ?_
    refine a_icmp_ge (tgt := 105) dX8_leastBehind_16 (by decide) (inR_of (by omega) (by omega)) (inR_gN _ _ _) (fun c16 => ?_) (fun c16 => ?_)
    · exfalso; omega
    · refine a_aload_n dX8_leastBehind_19 rfl rfl ?_
      refine a_iload dX8_leastBehind_20 rfl ?_
      refine a_ild (kN_8 hNk) (nN_8 hNk) (by omega) (by omega) dX8_leastBehind_22 ?_
      refine a_topI (y := gN ρ 155 (115 + 5 * r + 2)) (hN.r2 (by omega) (by omega)) ?_
      have hb93 := hW.ride r (by omega) (by omega)
      refine a_iload_n dX8_leastBehind_23 rfl rfl ?_
      refine a_icmp_ne (tgt := 99) dX8_leastBehind_24 (by decide) (inR_gN _ _ _) hst (fun c24 => ?_) (fun c24 => ?_)
      · refine a_iinc (y := r + 1) (ls' := [(7, ai (r + 1)), (6, ai best), (0, ar 0), (1, ar (N + 8)), (2, ar 9), (3, ai stop), (4, ai ride), (5, ai mi)]) dX8_leastBehind_99 rfl rfl (Nat.le_of_ble_eq_true rfl) rfl ?_
        refine a_goto (tgt := 7) dX8_leastBehind_102 (by decide) ?_
        have e : lbF ρ 1 stop ride mi r best = best := by unfold lbF plC miC; grind
        exact a_keep (by simp) (ih (r + 1) (best) (by omega) (by omega) (by omega) (by omega) (by rw [hE, itr_s, e]))
      · refine a_aload_n dX8_leastBehind_27 rfl rfl ?_
        refine a_getF (d := 7) fX8_81 k0 rfl r0_3 dX8_leastBehind_28 ?_
        refine a_iload dX8_leastBehind_31 rfl ?_
        refine a_cI (c := 7) (as := [ai r]) (rest := []) (c_isCancelled σ ρ N 7 hW hN hT7 r (by omega) (by omega)) mvX6_isCancelled lX8_150 k7 (by decide) rfl rfl rfl rfl (Nat.le_of_ble_eq_true rfl) (Nat.le_of_ble_eq_true rfl) (Nat.le_of_ble_eq_true rfl) dX8_leastBehind_33 ?_
        refine a_ifb_eq (tgt := 42) dX8_leastBehind_36 (by decide) (fun c36 => ?_) (fun c36 => ?_)
        · refine a_aload_n dX8_leastBehind_42 rfl rfl ?_
          refine a_iload dX8_leastBehind_43 rfl ?_
          refine a_ild k9 n9 (by omega) (by omega) dX8_leastBehind_45 ?_
          refine a_topI (y := gN ρ 162 r) (hT7.cm (by omega) (by omega)) ?_
          have hb94 := hW.tm r (by omega) (by omega)
          refine a_iload dX8_leastBehind_46 rfl ?_
          refine a_icmp_gt (tgt := 67) dX8_leastBehind_48 (by decide) (inR_gN _ _ _) hmi (fun c48 => ?_) (fun c48 => ?_)
          · refine a_iconst dX8_leastBehind_67 ?_
            refine a_goto (tgt := 72) dX8_leastBehind_68 (by decide) ?_
            refine a_istore (ls' := [(8, ai 1), (7, ai r), (6, ai best), (0, ar 0), (1, ar (N + 8)), (2, ar 9), (3, ai stop), (4, ai ride), (5, ai mi)]) dX8_leastBehind_72 (Nat.le_of_ble_eq_true rfl) rfl ?_
            refine a_iload dX8_leastBehind_74 rfl ?_
            refine a_if_eq (tgt := 99) dX8_leastBehind_76 (by decide) (inR_of (by omega) (by omega)) (fun c76 => ?_) (fun c76 => ?_)
            · exact absurd c76 (by decide)
            · refine a_iload dX8_leastBehind_79 rfl ?_
              refine a_if_lt (tgt := 95) dX8_leastBehind_81 (by decide) (inR_of (by omega) (by omega)) (fun c81 => ?_) (fun c81 => ?_)
              · refine a_iload dX8_leastBehind_95 rfl ?_
                refine a_istore (ls' := [(6, ai r), (8, ai 1), (7, ai r), (0, ar 0), (1, ar (N + 8)), (2, ar 9), (3, ai stop), (4, ai ride), (5, ai mi)]) dX8_leastBehind_97 (Nat.le_of_ble_eq_true rfl) rfl ?_
                refine a_iinc (y := r + 1) (ls' := [(7, ai (r + 1)), (6, ai r), (8, ai 1), (0, ar 0), (1, ar (N + 8)), (2, ar 9), (3, ai stop), (4, ai ride), (5, ai mi)]) dX8_leastBehind_99 rfl rfl (Nat.le_of_ble_eq_true rfl) rfl ?_
                refine a_goto (tgt := 7) dX8_leastBehind_102 (by decide) ?_
                have e : lbF ρ 1 stop ride mi r best = r := by unfold lbF plC miC; grind
                exact a_keep (by simp) (ih (r + 1) (r) (by omega) (by omega) (by omega) (by omega) (by rw [hE, itr_s, e]))
              · refine a_aload_n dX8_leastBehind_84 rfl rfl ?_
                refine a_iload dX8_leastBehind_85 rfl ?_
                refine a_ild k9 n9 (by omega) (by omega) dX8_leastBehind_87 ?_
                refine a_topI (y := gN ρ 162 r) (hT7.cm (by omega) (by omega)) ?_
                refine a_aload_n dX8_leastBehind_88 rfl rfl ?_
                refine a_iload dX8_leastBehind_89 rfl ?_
                refine a_ild k9 n9 (by omega) (by omega) dX8_leastBehind_91 ?_
                refine a_topI (y := gN ρ 162 best) (hT7.cm (by omega) (by omega)) ?_
                have hb95 := hW.tm best (by omega) (by omega)
                refine a_icmp_ge (tgt := 99) dX8_leastBehind_92 (by decide) (inR_gN _ _ _) (inR_gN _ _ _) (fun c92 => ?_) (fun c92 => ?_)
                · refine a_iinc (y := r + 1) (ls' := [(7, ai (r + 1)), (8, ai 1), (6, ai best), (0, ar 0), (1, ar (N + 8)), (2, ar 9), (3, ai stop), (4, ai ride), (5, ai mi)]) dX8_leastBehind_99 rfl rfl (Nat.le_of_ble_eq_true rfl) rfl ?_
                  refine a_goto (tgt := 7) dX8_leastBehind_102 (by decide) ?_
                  have e : lbF ρ 1 stop ride mi r best = best := by unfold lbF plC miC; grind
                  exact a_keep (by simp) (ih (r + 1) (best) (by omega) (by omega) (by omega) (by omega) (by rw [hE, itr_s, e]))
                · refine a_iload dX8_leastBehind_95 rfl ?_
                  refine a_istore (ls' := [(6, ai r), (8, ai 1), (7, ai r), (0, ar 0), (1, ar (N + 8)), (2, ar 9), (3, ai stop), (4, ai ride), (5, ai mi)]) dX8_leastBehind_97 (Nat.le_of_ble_eq_true rfl) rfl ?_
                  refine a_iinc (y := r + 1) (ls' := [(7, ai (r + 1)), (6, ai r), (8, ai 1), (0, ar 0), (1, ar (N + 8)), (2, ar 9), (3, ai stop), (4, ai ride), (5, ai mi)]) dX8_leastBehind_99 rfl rfl (Nat.le_of_ble_eq_true rfl) rfl ?_
                  refine a_goto (tgt := 7) dX8_leastBehind_102 (by decide) ?_
                  have e : lbF ρ 1 stop ride mi r best = r := by unfold lbF plC miC; grind
                  exact a_keep (by simp) (ih (r + 1) (r) (by omega) (by omega) (by omega) (by omega) (by rw [hE, itr_s, e]))
          · refine a_aload_n dX8_leastBehind_51 rfl rfl ?_
            refine a_iload dX8_leastBehind_52 rfl ?_
            refine a_ild k9 n9 (by omega) (by omega) dX8_leastBehind_54 ?_
            refine a_topI (y := gN ρ 162 r) (hT7.cm (by omega) (by omega)) ?_
            refine a_iload dX8_leastBehind_55 rfl ?_
            refine a_icmp_ne (tgt := 71) dX8_leastBehind_57 (by decide) (inR_gN _ _ _) hmi (fun c57 => ?_) (fun c57 => ?_)
            · refine a_iconst dX8_leastBehind_71 ?_
              refine a_istore (ls' := [(8, ai 0), (7, ai r), (6, ai best), (0, ar 0), (1, ar (N + 8)), (2, ar 9), (3, ai stop), (4, ai ride), (5, ai mi)]) dX8_leastBehind_72 (Nat.le_of_ble_eq_true rfl) rfl ?_
              refine a_iload dX8_leastBehind_74 rfl ?_
              refine a_if_eq (tgt := 99) dX8_leastBehind_76 (by decide) (inR_of (by omega) (by omega)) (fun c76 => ?_) (fun c76 => ?_)
              · refine a_iinc (y := r + 1) (ls' := [(7, ai (r + 1)), (8, ai 0), (6, ai best), (0, ar 0), (1, ar (N + 8)), (2, ar 9), (3, ai stop), (4, ai ride), (5, ai mi)]) dX8_leastBehind_99 rfl rfl (Nat.le_of_ble_eq_true rfl) rfl ?_
                refine a_goto (tgt := 7) dX8_leastBehind_102 (by decide) ?_
                have e : lbF ρ 1 stop ride mi r best = best := by unfold lbF plC miC; grind
                exact a_keep (by simp) (ih (r + 1) (best) (by omega) (by omega) (by omega) (by omega) (by rw [hE, itr_s, e]))
              · exact absurd c76 (by decide)
            · refine a_iload dX8_leastBehind_60 rfl ?_
              refine a_iload dX8_leastBehind_62 rfl ?_
              refine a_icmp_le (tgt := 71) dX8_leastBehind_64 (by decide) (inR_of (by omega) (by omega)) hri (fun c64 => ?_) (fun c64 => ?_)
              · refine a_iconst dX8_leastBehind_71 ?_
                refine a_istore (ls' := [(8, ai 0), (7, ai r), (6, ai best), (0, ar 0), (1, ar (N + 8)), (2, ar 9), (3, ai stop), (4, ai ride), (5, ai mi)]) dX8_leastBehind_72 (Nat.le_of_ble_eq_true rfl) rfl ?_
                refine a_iload dX8_leastBehind_74 rfl ?_
                refine a_if_eq (tgt := 99) dX8_leastBehind_76 (by decide) (inR_of (by omega) (by omega)) (fun c76 => ?_) (fun c76 => ?_)
                · refine a_iinc (y := r + 1) (ls' := [(7, ai (r + 1)), (8, ai 0), (6, ai best), (0, ar 0), (1, ar (N + 8)), (2, ar 9), (3, ai stop), (4, ai ride), (5, ai mi)]) dX8_leastBehind_99 rfl rfl (Nat.le_of_ble_eq_true rfl) rfl ?_
                  refine a_goto (tgt := 7) dX8_leastBehind_102 (by decide) ?_
                  have e : lbF ρ 1 stop ride mi r best = best := by unfold lbF plC miC; grind
                  exact a_keep (by simp) (ih (r + 1) (best) (by omega) (by omega) (by omega) (by omega) (by rw [hE, itr_s, e]))
                · exact absurd c76 (by decide)
              · refine a_iconst dX8_leastBehind_67 ?_
                refine a_goto (tgt := 72) dX8_leastBehind_68 (by decide) ?_
                refine a_istore (ls' := [(8, ai 1), (7, ai r), (6, ai best), (0, ar 0), (1, ar (N + 8)), (2, ar 9), (3, ai stop), (4, ai ride), (5, ai mi)]) dX8_leastBehind_72 (Nat.le_of_ble_eq_true rfl) rfl ?_
                refine a_iload dX8_leastBehind_74 rfl ?_
                refine a_if_eq (tgt := 99) dX8_leastBehind_76 (by decide) (inR_of (by omega) (by omega)) (fun c76 => ?_) (fun c76 => ?_)
                · exact absurd c76 (by decide)
                · refine a_iload dX8_leastBehind_79 rfl ?_
                  refine a_if_lt (tgt := 95) dX8_leastBehind_81 (by decide) (inR_of (by omega) (by omega)) (fun c81 => ?_) (fun c81 => ?_)
                  · refine a_iload dX8_leastBehind_95 rfl ?_
                    refine a_istore (ls' := [(6, ai r), (8, ai 1), (7, ai r), (0, ar 0), (1, ar (N + 8)), (2, ar 9), (3, ai stop), (4, ai ride), (5, ai mi)]) dX8_leastBehind_97 (Nat.le_of_ble_eq_true rfl) rfl ?_
                    refine a_iinc (y := r + 1) (ls' := [(7, ai (r + 1)), (6, ai r), (8, ai 1), (0, ar 0), (1, ar (N + 8)), (2, ar 9), (3, ai stop), (4, ai ride), (5, ai mi)]) dX8_leastBehind_99 rfl rfl (Nat.le_of_ble_eq_true rfl) rfl ?_
                    refine a_goto (tgt := 7) dX8_leastBehind_102 (by decide) ?_
                    have e : lbF ρ 1 stop ride mi r best = r := by unfold lbF plC miC; grind
                    exact a_keep (by simp) (ih (r + 1) (r) (by omega) (by omega) (by omega) (by omega) (by rw [hE, itr_s, e]))
                  · refine a_aload_n dX8_leastBehind_84 rfl rfl ?_
                    refine a_iload dX8_leastBehind_85 rfl ?_
                    refine a_ild k9 n9 (by omega) (by omega) dX8_leastBehind_87 ?_
                    refine a_topI (y := gN ρ 162 r) (hT7.cm (by omega) (by omega)) ?_
                    refine a_aload_n dX8_leastBehind_88 rfl rfl ?_
                    refine a_iload dX8_leastBehind_89 rfl ?_
                    refine a_ild k9 n9 (by omega) (by omega) dX8_leastBehind_91 ?_
                    refine a_topI (y := gN ρ 162 best) (hT7.cm (by omega) (by omega)) ?_
                    have hb96 := hW.tm best (by omega) (by omega)
                    refine a_icmp_ge (tgt := 99) dX8_leastBehind_92 (by decide) (inR_gN _ _ _) (inR_gN _ _ _) (fun c92 => ?_) (fun c92 => ?_)
                    · refine a_iinc (y := r + 1) (ls' := [(7, ai (r + 1)), (8, ai 1), (6, ai best), (0, ar 0), (1, ar (N + 8)), (2, ar 9), (3, ai stop), (4, ai ride), (5, ai mi)]) dX8_leastBehind_99 rfl rfl (Nat.le_of_ble_eq_true rfl) rfl ?_
                      refine a_goto (tgt := 7) dX8_leastBehind_102 (by decide) ?_
                      have e : lbF ρ 1 stop ride mi r best = best := by unfold lbF plC miC; grind
                      exact a_keep (by simp) (ih (r + 1) (best) (by omega) (by omega) (by omega) (by omega) (by rw [hE, itr_s, e]))
                    · refine a_iload dX8_leastBehind_95 rfl ?_
                      refine a_istore (ls' := [(6, ai r), (8, ai 1), (7, ai r), (0, ar 0), (1, ar (N + 8)), (2, ar 9), (3, ai stop), (4, ai ride), (5, ai mi)]) dX8_leastBehind_97 (Nat.le_of_ble_eq_true rfl) rfl ?_
                      refine a_iinc (y := r + 1) (ls' := [(7, ai (r + 1)), (6, ai r), (8, ai 1), (0, ar 0), (1, ar (N + 8)), (2, ar 9), (3, ai stop), (4, ai ride), (5, ai mi)]) dX8_leastBehind_99 rfl rfl (Nat.le_of_ble_eq_true rfl) rfl ?_
                      refine a_goto (tgt := 7) dX8_leastBehind_102 (by decide) ?_
                      have e : lbF ρ 1 stop ride mi r best = r := by unfold lbF plC miC; grind
                      exact a_keep (by simp) (ih (r + 1) (r) (by omega) (by omega) (by omega) (by omega) (by rw [hE, itr_s, e]))
        · refine a_goto (tgt := 99) dX8_leastBehind_39 (by decide) ?_
          refine a_iinc (y := r + 1) (ls' := [(7, ai (r + 1)), (6, ai best), (0, ar 0), (1, ar (N + 8)), (2, ar 9), (3, ai stop), (4, ai ride), (5, ai mi)]) dX8_leastBehind_99 rfl rfl (Nat.le_of_ble_eq_true rfl) rfl ?_
          refine a_goto (tgt := 7) dX8_leastBehind_102 (by decide) ?_
          have e : lbF ρ 1 stop ride mi r best = best := by unfold lbF plC miC; grind
          exact a_keep (by simp) (ih (r + 1) (best) (by omega) (by omega) (by omega) (by omega) (by rw [hE, itr_s, e]))

set_option maxRecDepth 20000 in
theorem c_lb1 (σ ρ : Sto) (N : Nat) (hW : WV ρ) (hQ : CQ σ ρ N) (stop ride mi : Int) (hst : inR stop) (hri : inR ride) (hmi : inR mi) : MetI mX8_leastBehind [ar 0, ar (N + 8), ar 9, ai stop, ai ride, ai mi] σ (lbT ρ 1 stop ride mi) σ := by
  have hC := hQ.c
  have hN := hQ.n
  have hT7 := hQ.t
  have hM7 := hQ.m
  have hF : Fg pCq σ σ := Fg.rfl
  have hNk := hN.k
  have hR := hW.R
  have hS := hW.S
  have hTr := hW.T
  refine a_entry (by decide) (Nat.le_of_ble_eq_true rfl) ?_
  refine a_ls (ls' := [(0, ar 0), (1, ar (N + 8)), (2, ar 9), (3, ai stop), (4, ai ride), (5, ai mi)]) rfl ?_
  refine a_bipush (x := (-2)) dX8_leastBehind_0 (by decide) ?_
  refine a_istore (ls' := [(6, ai (-2)), (0, ar 0), (1, ar (N + 8)), (2, ar 9), (3, ai stop), (4, ai ride), (5, ai mi)]) dX8_leastBehind_2 (Nat.le_of_ble_eq_true rfl) rfl ?_
  refine a_iconst dX8_leastBehind_4 ?_
  refine a_istore (ls' := [(7, ai 0), (6, ai (-2)), (0, ar 0), (1, ar (N + 8)), (2, ar 9), (3, ai stop), (4, ai ride), (5, ai mi)]) dX8_leastBehind_5 (Nat.le_of_ble_eq_true rfl) rfl ?_
  exact a_keep (by simp) (c_lb1_l σ ρ N hW hQ stop ride mi hst hri hmi _ (gN ρ 155 3).toNat 0 (-2) (by omega) (by omega) (by omega) (Or.inl rfl) rfl)

set_option maxRecDepth 20000 in
theorem c_bd1_l (σ ρ : Sto) (N : Nat) (hW : WV ρ) (hQ : CQ σ ρ N) (stop m co i : Int) (hst : inR stop) (hi0 : 0 ≤ i) (hi : inR i) (V : Int) : ∀ (n : Nat) (k : Int) (mi : Int) (ride : Int), 0 ≤ k → n = ((if i < gN ρ 155 3 then i else gN ρ 155 3) + 1 - k).toNat → k ≤ (if i < gN ρ 155 3 then i else gN ρ 155 3) + 1 → inR ride → inR mi → V = bdN ρ 1 stop n ride mi → RunA mX8_board (cqQ σ ρ N V) 78 [(9, ai k), (8, ai mi), (7, ai ride), (0, ar 0), (1, ai stop), (2, ai m), (3, ai co), (4, ai i), (5, ar (N + 8)), (6, ar 9)] [] σ := by
  have hC := hQ.c
  have hN := hQ.n
  have hT7 := hQ.t
  have hM7 := hQ.m
  have hF : Fg pCq σ σ := Fg.rfl
  have hNk := hN.k
  have hR := hW.R
  have hS := hW.S
  have hTr := hW.T
  intro n
  induction n with
  | zero =>
    intro k mi ride h0 hn hk hri hmi hE
    refine a_iload dX8_board_78 rfl ?_
    refine a_iload dX8_board_80 rfl ?_
    refine a_icmp_gt (tgt := 133) dX8_board_82 (by decide) (inR_of (by omega) (by omega)) hi (fun c82 => ?_) (fun c82 => ?_)
    · refine a_iload dX8_board_133 rfl ?_
      exact a_iret rfl ⟨by rw [hE]; rfl, hQ, hF⟩ dX8_board_135
    · refine a_iload dX8_board_85 rfl ?_
      refine a_aload_n dX8_board_87 rfl rfl ?_
      refine a_getR (d := N) (J := 12) fX8_65 k0 rfl q0_12 rfl hC dX8_board_88 ?_
      refine a_getI (J := 3) fX8_359 (kN hNk) rfl rfl dX8_board_91 ?_
      refine a_topI (y := gN ρ 155 3) hN.n3 ?_
      refine a_icmp_gt (tgt := 133) dX8_board_94 (by decide) (inR_of (by omega) (by omega)) (inR_gN _ _ _) (fun c94 => ?_) (fun c94 => ?_)
      · refine a_iload dX8_board_133 rfl ?_
        exact a_iret rfl ⟨by rw [hE]; rfl, hQ, hF⟩ dX8_board_135
      · exfalso; split at hn <;> omega
  | succ n ih =>
    intro k mi ride h0 hn hk hri hmi hE
    refine a_iload dX8_board_78 rfl ?_
    refine a_iload dX8_board_80 rfl ?_
    refine a_icmp_gt (tgt := 133) dX8_board_82 (by decide) (inR_of (by omega) (by omega)) hi (fun c82 => ?_) (fun c82 => ?_)
    · exfalso; split at hn <;> omega
    · refine a_iload dX8_board_85 rfl ?_
      refine a_aload_n dX8_board_87 rfl rfl ?_
      refine a_getR (d := N) (J := 12) fX8_65 k0 rfl q0_12 rfl hC dX8_board_88 ?_
      refine a_getI (J := 3) fX8_359 (kN hNk) rfl rfl dX8_board_91 ?_
      refine a_topI (y := gN ρ 155 3) hN.n3 ?_
      refine a_icmp_gt (tgt := 133) dX8_board_94 (by decide) (inR_of (by omega) (by omega)) (inR_gN _ _ _) (fun c94 => ?_) (fun c94 => ?_)
      · exfalso; split at hn <;> omega
      · refine a_aload_n dX8_board_97 rfl rfl ?_
        refine a_aload dX8_board_98 rfl ?_
        refine a_aload dX8_board_100 rfl ?_
        refine a_iload_n dX8_board_102 rfl rfl ?_
        refine a_iload dX8_board_103 rfl ?_
        refine a_iload dX8_board_105 rfl ?_
        refine a_cI (c := 0) (as := [ar (N + 8), ar 9, ai stop, ai ride, ai mi]) (rest := []) (c_lb1 σ ρ N hW hQ stop ride mi hst hri hmi) mvX8_leastBehind lX8_361 k0 (by decide) rfl rfl rfl rfl (Nat.le_of_ble_eq_true rfl) (Nat.le_of_ble_eq_true rfl) (Nat.le_of_ble_eq_true rfl) dX8_board_107 ?_
        have hlr := lbT_rng hR.1 (ρ := ρ) (co := 1) (stop := stop) (ride := ride) (mi := mi)
        refine a_istore (ls' := [(7, ai (lbT ρ 1 stop ride mi)), (9, ai k), (8, ai mi), (0, ar 0), (1, ai stop), (2, ai m), (3, ai co), (4, ai i), (5, ar (N + 8)), (6, ar 9)]) dX8_board_110 (Nat.le_of_ble_eq_true rfl) rfl ?_
        refine a_iload dX8_board_112 rfl ?_
        refine a_if_ge (tgt := 120) dX8_board_114 (by decide) (inR_of (by omega) (by omega)) (fun c114 => ?_) (fun c114 => ?_)
        · refine a_aload dX8_board_120 rfl ?_
          refine a_iload dX8_board_122 rfl ?_
          refine a_ild k9 n9 (by omega) (by omega) dX8_board_124 ?_
          refine a_topI (y := miC ρ 1 (lbT ρ 1 stop ride mi)) (by rw [hT7.cm (by omega) (by omega)]; rfl) ?_
          refine a_istore (ls' := [(8, ai (miC ρ 1 (lbT ρ 1 stop ride mi))), (7, ai (lbT ρ 1 stop ride mi)), (9, ai k), (0, ar 0), (1, ai stop), (2, ai m), (3, ai co), (4, ai i), (5, ar (N + 8)), (6, ar 9)]) dX8_board_125 (Nat.le_of_ble_eq_true rfl) rfl ?_
          refine a_iinc (y := k + 1) (ls' := [(9, ai (k + 1)), (8, ai (miC ρ 1 (lbT ρ 1 stop ride mi))), (7, ai (lbT ρ 1 stop ride mi)), (0, ar 0), (1, ai stop), (2, ai m), (3, ai co), (4, ai i), (5, ar (N + 8)), (6, ar 9)]) dX8_board_127 rfl rfl (Nat.le_of_ble_eq_true rfl) rfl ?_
          refine a_goto (tgt := 78) dX8_board_130 (by decide) ?_
          have htm := hW.tm (lbT ρ 1 stop ride mi) (by omega) (by omega)
          exact a_keep (by simp) (ih (k + 1) (miC ρ 1 (lbT ρ 1 stop ride mi)) (lbT ρ 1 stop ride mi) (by omega) (by omega) (by omega) (inR_of (by omega) (by omega)) (inR_of (by unfold miC; omega) (by unfold miC; omega)) (by rw [hE, bdN, if_neg (by omega)]))
        · refine a_bipush (x := (-2)) dX8_board_117 (by decide) ?_
          exact a_iret rfl ⟨by rw [hE, bdN, if_pos (by omega)], hQ, hF⟩ dX8_board_119

set_option maxRecDepth 20000 in
theorem c_board (σ ρ : Sto) (N : Nat) (hW : WV ρ) (hQ : CQ σ ρ N) (stop m co i : Int) (hstop : inR stop) (hm : inR m) (hco : inR co) (hi : inR i) (hco1 : co = 0 ∨ co = 1) : MetA mX8_board [ar 0, ai stop, ai m, ai co, ai i] σ (cqQ σ ρ N (cBoard ρ stop m co i)) := by
  have hC := hQ.c
  have hN := hQ.n
  have hT7 := hQ.t
  have hM7 := hQ.m
  have hF : Fg pCq σ σ := Fg.rfl
  have hNk := hN.k
  have hR := hW.R
  have hS := hW.S
  have hTr := hW.T
  refine a_entry (by decide) (Nat.le_of_ble_eq_true rfl) ?_
  refine a_ls (ls' := [(0, ar 0), (1, ai stop), (2, ai m), (3, ai co), (4, ai i)]) rfl ?_
  refine a_aload_n dX8_board_0 rfl rfl ?_
  refine a_iload_n dX8_board_1 rfl rfl ?_
  refine a_cI (c := 0) (as := [ai stop]) (rest := []) (c_isStop σ ρ N hW hC hN stop hstop) mvX8_isStop lX8_161 k0 (by decide) rfl rfl rfl rfl (Nat.le_of_ble_eq_true rfl) (Nat.le_of_ble_eq_true rfl) (Nat.le_of_ble_eq_true rfl) dX8_board_2 ?_
  refine a_ifb_eq (tgt := 20) dX8_board_5 (by decide) (fun c5 => ?_) (fun c5 => ?_)
  · refine a_iconst dX8_board_20 ?_
    exact a_iret rfl ⟨by unfold cBoard; grind, hQ, hF⟩ dX8_board_21
  · refine a_iload_n dX8_board_8 rfl rfl ?_
    refine a_sI (as := [ai m]) (rest := []) (c_isMinute σ m hm) mvX8_isMinute lX8_307 rfl rfl rfl (Nat.le_of_ble_eq_true rfl) (Nat.le_of_ble_eq_true rfl) (Nat.le_of_ble_eq_true rfl) dX8_board_9 ?_
    refine a_ifb_eq (tgt := 20) dX8_board_12 (by decide) (fun c12 => ?_) (fun c12 => ?_)
    · refine a_iconst dX8_board_20 ?_
      exact a_iret rfl ⟨by unfold cBoard; grind, hQ, hF⟩ dX8_board_21
    · refine a_iload dX8_board_15 rfl ?_
      refine a_if_ge (tgt := 22) dX8_board_17 (by decide) hi (fun c17 => ?_) (fun c17 => ?_)
      · refine a_iload_n dX8_board_22 rfl rfl ?_
        refine a_if_eq (tgt := 36) dX8_board_23 (by decide) hco (fun c23 => ?_) (fun c23 => ?_)
        · refine a_aload_n dX8_board_36 rfl rfl ?_
          refine a_getR (d := N) (J := 12) fX8_65 k0 rfl q0_12 rfl hC dX8_board_37 ?_
          refine a_getF (d := (N + 7)) fX8_132 (kN hNk) rfl (rN_10 hNk) dX8_board_40 ?_
          refine a_astore (ls' := [(5, ar (N + 7)), (0, ar 0), (1, ai stop), (2, ai m), (3, ai co), (4, ai i)]) dX8_board_43 (Nat.le_of_ble_eq_true rfl) rfl ?_
          refine a_iload_n dX8_board_45 rfl rfl ?_
          refine a_if_eq (tgt := 59) dX8_board_46 (by decide) hco (fun c46 => ?_) (fun c46 => ?_)
          · refine a_aload_n dX8_board_59 rfl rfl ?_
            refine a_getF (d := 7) fX8_81 k0 rfl r0_3 dX8_board_60 ?_
            refine a_getF (d := 8) fX8_144 k7 rfl r7_3 dX8_board_63 ?_
            refine a_astore (ls' := [(6, ar 8), (5, ar (N + 7)), (0, ar 0), (1, ai stop), (2, ai m), (3, ai co), (4, ai i)]) dX8_board_66 (Nat.le_of_ble_eq_true rfl) rfl ?_
            refine a_bipush (x := (-2)) dX8_board_68 (by decide) ?_
            refine a_istore (ls' := [(7, ai (-2)), (6, ar 8), (5, ar (N + 7)), (0, ar 0), (1, ai stop), (2, ai m), (3, ai co), (4, ai i)]) dX8_board_70 (Nat.le_of_ble_eq_true rfl) rfl ?_
            refine a_iload_n dX8_board_72 rfl rfl ?_
            refine a_istore (ls' := [(8, ai m), (7, ai (-2)), (6, ar 8), (5, ar (N + 7)), (0, ar 0), (1, ai stop), (2, ai m), (3, ai co), (4, ai i)]) dX8_board_73 (Nat.le_of_ble_eq_true rfl) rfl ?_
            refine a_iconst dX8_board_75 ?_
            refine a_istore (ls' := [(9, ai 0), (8, ai m), (7, ai (-2)), (6, ar 8), (5, ar (N + 7)), (0, ar 0), (1, ai stop), (2, ai m), (3, ai co), (4, ai i)]) dX8_board_76 (Nat.le_of_ble_eq_true rfl) rfl ?_
            have eco : co = 0 := by omega
            have e : cBoard ρ stop m co i = bdN ρ 0 stop ((if i < gN ρ 155 3 then i else gN ρ 155 3) + 1).toNat (-2) m := by unfold cBoard; rw [if_neg (by grind), eco]
            rw [e]
            exact a_keep (by simp) (c_bd0_l σ ρ N hW hQ stop m co i hstop (by omega) hi _ ((if i < gN ρ 155 3 then i else gN ρ 155 3) + 1).toNat 0 m (-2) (by omega) (by omega) (by split <;> omega) (inR_of (by omega) (by omega)) hm rfl)
          · refine a_aload_n dX8_board_49 rfl rfl ?_
            refine a_getF (d := 7) fX8_81 k0 rfl r0_3 dX8_board_50 ?_
            refine a_getF (d := 9) fX8_147 k7 rfl r7_4 dX8_board_53 ?_
            refine a_goto (tgt := 66) dX8_board_56 (by decide) ?_
            refine a_astore (ls' := [(6, ar 9), (5, ar (N + 7)), (0, ar 0), (1, ai stop), (2, ai m), (3, ai co), (4, ai i)]) dX8_board_66 (Nat.le_of_ble_eq_true rfl) rfl ?_
            refine a_bipush (x := (-2)) dX8_board_68 (by decide) ?_
            refine a_istore (ls' := [(7, ai (-2)), (6, ar 9), (5, ar (N + 7)), (0, ar 0), (1, ai stop), (2, ai m), (3, ai co), (4, ai i)]) dX8_board_70 (Nat.le_of_ble_eq_true rfl) rfl ?_
            refine a_iload_n dX8_board_72 rfl rfl ?_
            refine a_istore (ls' := [(8, ai m), (7, ai (-2)), (6, ar 9), (5, ar (N + 7)), (0, ar 0), (1, ai stop), (2, ai m), (3, ai co), (4, ai i)]) dX8_board_73 (Nat.le_of_ble_eq_true rfl) rfl ?_
            refine a_iconst dX8_board_75 ?_
            refine a_istore (ls' := [(9, ai 0), (8, ai m), (7, ai (-2)), (6, ar 9), (5, ar (N + 7)), (0, ar 0), (1, ai stop), (2, ai m), (3, ai co), (4, ai i)]) dX8_board_76 (Nat.le_of_ble_eq_true rfl) rfl ?_
            exfalso; omega
        · refine a_aload_n dX8_board_26 rfl rfl ?_
          refine a_getR (d := N) (J := 12) fX8_65 k0 rfl q0_12 rfl hC dX8_board_27 ?_
          refine a_getF (d := (N + 8)) fX8_135 (kN hNk) rfl (rN_11 hNk) dX8_board_30 ?_
          refine a_goto (tgt := 43) dX8_board_33 (by decide) ?_
          refine a_astore (ls' := [(5, ar (N + 8)), (0, ar 0), (1, ai stop), (2, ai m), (3, ai co), (4, ai i)]) dX8_board_43 (Nat.le_of_ble_eq_true rfl) rfl ?_
          refine a_iload_n dX8_board_45 rfl rfl ?_
          refine a_if_eq (tgt := 59) dX8_board_46 (by decide) hco (fun c46 => ?_) (fun c46 => ?_)
          · refine a_aload_n dX8_board_59 rfl rfl ?_
            refine a_getF (d := 7) fX8_81 k0 rfl r0_3 dX8_board_60 ?_
            refine a_getF (d := 8) fX8_144 k7 rfl r7_3 dX8_board_63 ?_
            refine a_astore (ls' := [(6, ar 8), (5, ar (N + 8)), (0, ar 0), (1, ai stop), (2, ai m), (3, ai co), (4, ai i)]) dX8_board_66 (Nat.le_of_ble_eq_true rfl) rfl ?_
            refine a_bipush (x := (-2)) dX8_board_68 (by decide) ?_
            refine a_istore (ls' := [(7, ai (-2)), (6, ar 8), (5, ar (N + 8)), (0, ar 0), (1, ai stop), (2, ai m), (3, ai co), (4, ai i)]) dX8_board_70 (Nat.le_of_ble_eq_true rfl) rfl ?_
            refine a_iload_n dX8_board_72 rfl rfl ?_
            refine a_istore (ls' := [(8, ai m), (7, ai (-2)), (6, ar 8), (5, ar (N + 8)), (0, ar 0), (1, ai stop), (2, ai m), (3, ai co), (4, ai i)]) dX8_board_73 (Nat.le_of_ble_eq_true rfl) rfl ?_
            refine a_iconst dX8_board_75 ?_
            refine a_istore (ls' := [(9, ai 0), (8, ai m), (7, ai (-2)), (6, ar 8), (5, ar (N + 8)), (0, ar 0), (1, ai stop), (2, ai m), (3, ai co), (4, ai i)]) dX8_board_76 (Nat.le_of_ble_eq_true rfl) rfl ?_
            exfalso; omega
          · refine a_aload_n dX8_board_49 rfl rfl ?_
            refine a_getF (d := 7) fX8_81 k0 rfl r0_3 dX8_board_50 ?_
            refine a_getF (d := 9) fX8_147 k7 rfl r7_4 dX8_board_53 ?_
            refine a_goto (tgt := 66) dX8_board_56 (by decide) ?_
            refine a_astore (ls' := [(6, ar 9), (5, ar (N + 8)), (0, ar 0), (1, ai stop), (2, ai m), (3, ai co), (4, ai i)]) dX8_board_66 (Nat.le_of_ble_eq_true rfl) rfl ?_
            refine a_bipush (x := (-2)) dX8_board_68 (by decide) ?_
            refine a_istore (ls' := [(7, ai (-2)), (6, ar 9), (5, ar (N + 8)), (0, ar 0), (1, ai stop), (2, ai m), (3, ai co), (4, ai i)]) dX8_board_70 (Nat.le_of_ble_eq_true rfl) rfl ?_
            refine a_iload_n dX8_board_72 rfl rfl ?_
            refine a_istore (ls' := [(8, ai m), (7, ai (-2)), (6, ar 9), (5, ar (N + 8)), (0, ar 0), (1, ai stop), (2, ai m), (3, ai co), (4, ai i)]) dX8_board_73 (Nat.le_of_ble_eq_true rfl) rfl ?_
            refine a_iconst dX8_board_75 ?_
            refine a_istore (ls' := [(9, ai 0), (8, ai m), (7, ai (-2)), (6, ar 9), (5, ar (N + 8)), (0, ar 0), (1, ai stop), (2, ai m), (3, ai co), (4, ai i)]) dX8_board_76 (Nat.le_of_ble_eq_true rfl) rfl ?_
            have eco : co = 1 := by omega
            have e : cBoard ρ stop m co i = bdN ρ 1 stop ((if i < gN ρ 155 3 then i else gN ρ 155 3) + 1).toNat (-2) m := by unfold cBoard; rw [if_neg (by grind), eco]
            rw [e]
            exact a_keep (by simp) (c_bd1_l σ ρ N hW hQ stop m co i hstop (by omega) hi _ ((if i < gN ρ 155 3 then i else gN ρ 155 3) + 1).toNat 0 m (-2) (by omega) (by omega) (by split <;> omega) (inR_of (by omega) (by omega)) hm rfl)
      · refine a_iconst dX8_board_20 ?_
        exact a_iret rfl ⟨by unfold cBoard; grind, hQ, hF⟩ dX8_board_21

