/-! The class's queries by the soonest arrival. -/
abbrev cqQ (σ ρ : Sto) (N : Nat) (v : Int) : Option Av → Sto → Prop := fun r u => r = some (ai v) ∧ CQ u ρ N ∧ Fg pCq σ u
abbrev SO (ρ : Sto) (s t m k : Int) (wo : Int64) : Int := soonF ρ (riddenF ρ s m k wo) s t m
def cEarliest (ρ : Sto) (s t m k : Int) : Int := if ¬ stp ρ s ∨ ¬ stp ρ t ∨ ¬ mnt m ∨ k < 0 ∨ 4 < k then -1 else orN (SO ρ s t m k 0)
def cCost (ρ : Sto) (s t m k : Int) : Int := if ¬ two ρ s t ∨ ¬ mnt m ∨ k < 1 ∨ 4 < k then -1000 else if 1000000 ≤ SO ρ s t m k 0 then -1000 else if 1000000 ≤ SO ρ s t m (k - 1) 0 then 5000 else SO ρ s t m (k - 1) 0 - SO ρ s t m k 0
def cVia (ρ : Sto) (s v t m : Int) : Int := if ¬ stp ρ s ∨ ¬ stp ρ v ∨ ¬ stp ρ t ∨ ¬ mnt m then -1 else if 1000000 ≤ SO ρ s v m 4 0 then -2 else orN (SO ρ v t (SO ρ s v m 4 0) 4 0)
def cFewest (ρ : Sto) (s t m z : Int) : Int := if ¬ two ρ s t ∨ ¬ mnt m ∨ z < 0 ∨ 2000 < z then -1 else fs2 (fun k => decide (SO ρ s t m k 0 ≤ z)) (-2) 5 0
def rcF (ρ : Sto) (s m n : Int) (rd : Int64) (t st : Int) : Int := if soonF ρ rd s t m ≤ m + n then orI st (shlI 1 t) else st
def cReached (ρ : Sto) (s m n : Int) : Int := if ¬ stp ρ s ∨ ¬ mnt m ∨ n < 0 ∨ 2000 < n then -1 else itr (rcF ρ s m n (riddenF ρ s m 4 0)) (gN ρ 155 0).toNat 0 0
def mxI (x y : Int) : Int := if x < y then y else x
def meF_ (ρ : Sto) (a b m t : Int) (q : Int × Int) : Int × Int := if mxI (soonF ρ (riddenF ρ a m 4 0) a t m) (soonF ρ (riddenF ρ b m 4 0) b t m) < q.2 then (t, mxI (soonF ρ (riddenF ρ a m 4 0) a t m) (soonF ρ (riddenF ρ b m 4 0) b t m)) else q
def meR (q : Int × Int) (what : Int) : Int := if q.1 < 0 then -2 else if what = 0 then q.1 else q.2
def cMeet (ρ : Sto) (a b m what : Int) : Int := if ¬ stp ρ a ∨ ¬ stp ρ b ∨ ¬ mnt m ∨ what < 0 ∨ 1 < what then -1 else meR (itr (meF_ ρ a b m) (gN ρ 155 0).toNat 0 (-2, 1000000)) what
def cWalk (ρ : Sto) (a b : Int) : Int := if ¬ stp ρ a ∨ ¬ stp ρ b then -1 else orN (gN ρ 155 (15 + 10 * a + b))
def cChange (ρ : Sto) (a : Int) : Int := if stp ρ a then gN ρ 155 (5 + a) else -1
theorem so_nn {ρ : Sto} (hW : WV ρ) (hT0 : ∀ i : Int, 0 ≤ i → i < gN ρ 155 3 → 0 ≤ gN ρ 162 i) {set : Int64} {t : Int} (h0 : 0 ≤ t) (h1 : t < gN ρ 155 0) : ∀ (n : Nat) (i best : Int), 0 ≤ i → i + n ≤ gN ρ 155 3 → 0 ≤ best → 0 ≤ itr (soF ρ set t) n i best
  | 0, _, _, _, _, h2 => h2
  | n + 1, i, best, h4, h5, h2 => by
    have b := hW.ride i h4 (by omega)
    have b2 := hW.walk _ t b.2.2.1.1 b.2.2.1.2 h0 h1
    have b3 := hT0 i h4 (by omega)
    refine so_nn hW hT0 h0 h1 n (i + 1) _ (by omega) (by omega) ?_
    unfold soF
    split <;> (try split) <;> omega
theorem soon_nn {ρ : Sto} (hW : WV ρ) (hT0 : ∀ i : Int, 0 ≤ i → i < gN ρ 155 3 → 0 ≤ gN ρ 162 i) {set : Int64} {s t m : Int} (hs0 : 0 ≤ s) (hs1 : s < gN ρ 155 0) (h0 : 0 ≤ t) (h1 : t < gN ρ 155 0) (hm : 0 ≤ m) : 0 ≤ soonF ρ set s t m := by
  have hR := hW.R
  have b := hW.walk s t hs0 hs1 h0 h1
  exact so_nn hW hT0 h0 h1 _ 0 _ (by omega) (by omega) (by split <;> omega)
def cSlack (ρ : Sto) (e on : Int) : Int := if ¬ rid ρ e ∨ ¬ rid ρ on ∨ cnc ρ e ∨ cnc ρ on ∨ 1000000 ≤ btw ρ e on then -1000 else gN ρ 161 on - gN ρ 162 e - btw ρ e on

set_option maxRecDepth 20000 in
theorem c_earliest (σ ρ : Sto) (N : Nat) (hW : WV ρ) (hQ : CQ σ ρ N) (s t m k : Int) (hs : inR s) (ht : inR t) (hm : inR m) (hk : inR k) : MetA mX8_earliest [ar 0, ai s, ai t, ai m, ai k] σ (cqQ σ ρ N (cEarliest ρ s t m k)) := by
  have hC := hQ.c
  have hN := hQ.n
  have hT7 := hQ.t
  have hM7 := hQ.m
  have hF : Fg pCq σ σ := Fg.rfl
  have hNk := hN.k
  have hR := hW.R
  have hS := hW.S
  have hTr := hW.T
  refine a_entry (by decide) (Nat.le_of_ble_eq_true rfl) ?_
  refine a_ls (ls' := [(0, ar 0), (1, ai s), (2, ai t), (3, ai m), (4, ai k)]) rfl ?_
  refine a_aload_n dX8_earliest_0 rfl rfl ?_
  refine a_iload_n dX8_earliest_1 rfl rfl ?_
  refine a_cI (c := 0) (as := [ai s]) (rest := []) (c_isStop σ ρ N hW hC hN s hs) mvX8_isStop lX8_161 k0 (by decide) rfl rfl rfl rfl (Nat.le_of_ble_eq_true rfl) (Nat.le_of_ble_eq_true rfl) (Nat.le_of_ble_eq_true rfl) dX8_earliest_2 ?_
  refine a_ifb_eq (tgt := 33) dX8_earliest_5 (by decide) (fun c5 => ?_) (fun c5 => ?_)
  · refine a_iconst dX8_earliest_33 ?_
    exact a_iret rfl ⟨by unfold cEarliest; grind, hQ, hF⟩ dX8_earliest_34
  · refine a_aload_n dX8_earliest_8 rfl rfl ?_
    refine a_iload_n dX8_earliest_9 rfl rfl ?_
    refine a_cI (c := 0) (as := [ai t]) (rest := []) (c_isStop σ ρ N hW hC hN t ht) mvX8_isStop lX8_161 k0 (by decide) rfl rfl rfl rfl (Nat.le_of_ble_eq_true rfl) (Nat.le_of_ble_eq_true rfl) (Nat.le_of_ble_eq_true rfl) dX8_earliest_10 ?_
    refine a_ifb_eq (tgt := 33) dX8_earliest_13 (by decide) (fun c13 => ?_) (fun c13 => ?_)
    · refine a_iconst dX8_earliest_33 ?_
      exact a_iret rfl ⟨by unfold cEarliest; grind, hQ, hF⟩ dX8_earliest_34
    · refine a_iload_n dX8_earliest_16 rfl rfl ?_
      refine a_sI (as := [ai m]) (rest := []) (c_isMinute σ m hm) mvX8_isMinute lX8_307 rfl rfl rfl (Nat.le_of_ble_eq_true rfl) (Nat.le_of_ble_eq_true rfl) (Nat.le_of_ble_eq_true rfl) dX8_earliest_17 ?_
      refine a_ifb_eq (tgt := 33) dX8_earliest_20 (by decide) (fun c20 => ?_) (fun c20 => ?_)
      · refine a_iconst dX8_earliest_33 ?_
        exact a_iret rfl ⟨by unfold cEarliest; grind, hQ, hF⟩ dX8_earliest_34
      · refine a_iload dX8_earliest_23 rfl ?_
        refine a_iconst dX8_earliest_25 ?_
        refine a_iconst dX8_earliest_26 ?_
        refine a_sI (as := [ai k, ai 0, ai 4]) (rest := []) (c_within σ k 0 4 hk (inR_of (by omega) (by omega)) (inR_of (by omega) (by omega))) mvX8_within lX8_179 rfl rfl rfl (Nat.le_of_ble_eq_true rfl) (Nat.le_of_ble_eq_true rfl) (Nat.le_of_ble_eq_true rfl) dX8_earliest_27 ?_
        refine a_ifb_ne (tgt := 35) dX8_earliest_30 (by decide) (fun c30 => ?_) (fun c30 => ?_)
        · refine a_aload_n dX8_earliest_35 rfl rfl ?_
          refine a_getF (d := 7) fX8_81 k0 rfl r0_3 dX8_earliest_36 ?_
          refine a_iload_n dX8_earliest_39 rfl rfl ?_
          refine a_iload_n dX8_earliest_40 rfl rfl ?_
          refine a_iload_n dX8_earliest_41 rfl rfl ?_
          refine a_iload dX8_earliest_42 rfl ?_
          refine a_lconst (v := 0) dX8_earliest_44 rfl ?_
          refine a_callI (c := 7) (as := [ai s, ai t, ai m, ai k, al 0]) (rest := []) (c_soonest σ ρ N 7 hW hN hT7 hM7 s t m k 0 (by omega) (by omega) (by omega) (by omega) (by omega) (by omega) (by omega) (by omega)) mvX6_soonest lX8_310 k7 (by decide) rfl rfl rfl rfl (Nat.le_of_ble_eq_true rfl) (Nat.le_of_ble_eq_true rfl) (Nat.le_of_ble_eq_true rfl) dX8_earliest_45 (fun x u61 hu => ?_)
          obtain ⟨hx, hPu61⟩ := hu
          cases hx
          have hQu61 : CQ u61 ρ N := hQ.ln hS.2 hR.2 hPu61
          have hCu61 := hQu61.c
          have hNu61 := hQu61.n
          have hT7u61 := hQu61.t
          have hM7u61 := hQu61.m
          have hFu61 : Fg pCq σ u61 := hF.trans (hPu61.1.mono (fun c j z => by unfold pLn at z; unfold pCq; omega))
          have hsou61 : -1000 ≤ SO ρ s t m k 0 ∧ SO ρ s t m k 0 ≤ 1000000 := soon_rng hW (set := riddenF ρ s m k 0) (s := s) (t := t) (m := m) (by omega) (by omega) (by omega) (by omega) (by omega)
          refine a_topI (y := SO ρ s t m k 0) rfl ?_
          refine a_sI (as := [ai (SO ρ s t m k 0)]) (rest := []) (c_orMissing u61 (SO ρ s t m k 0) (inR_of (by omega) (by omega))) mvX8_orMissing lX8_168 rfl rfl rfl (Nat.le_of_ble_eq_true rfl) (Nat.le_of_ble_eq_true rfl) (Nat.le_of_ble_eq_true rfl) dX8_earliest_48 ?_
          exact a_iret rfl ⟨by unfold cEarliest; grind, hQu61, hFu61⟩ dX8_earliest_51
        · refine a_iconst dX8_earliest_33 ?_
          exact a_iret rfl ⟨by unfold cEarliest; grind, hQ, hF⟩ dX8_earliest_34

set_option maxRecDepth 20000 in
theorem c_cost (σ ρ : Sto) (N : Nat) (hW : WV ρ) (hQ : CQ σ ρ N) (s t m k : Int) (hs : inR s) (ht : inR t) (hm : inR m) (hk : inR k) : MetA mX8_costOfFewer [ar 0, ai s, ai t, ai m, ai k] σ (cqQ σ ρ N (cCost ρ s t m k)) := by
  have hC := hQ.c
  have hN := hQ.n
  have hT7 := hQ.t
  have hM7 := hQ.m
  have hF : Fg pCq σ σ := Fg.rfl
  have hNk := hN.k
  have hR := hW.R
  have hS := hW.S
  have hTr := hW.T
  refine a_entry (by decide) (Nat.le_of_ble_eq_true rfl) ?_
  refine a_ls (ls' := [(0, ar 0), (1, ai s), (2, ai t), (3, ai m), (4, ai k)]) rfl ?_
  refine a_aload_n dX8_costOfFewer_0 rfl rfl ?_
  refine a_iload_n dX8_costOfFewer_1 rfl rfl ?_
  refine a_iload_n dX8_costOfFewer_2 rfl rfl ?_
  refine a_cI (c := 0) (as := [ai s, ai t]) (rest := []) (c_arePair σ ρ N hW hC hN s t hs ht) mvX8_arePair lX8_238 k0 (by decide) rfl rfl rfl rfl (Nat.le_of_ble_eq_true rfl) (Nat.le_of_ble_eq_true rfl) (Nat.le_of_ble_eq_true rfl) dX8_costOfFewer_3 ?_
  refine a_ifb_eq (tgt := 26) dX8_costOfFewer_6 (by decide) (fun c6 => ?_) (fun c6 => ?_)
  · refine a_sipush (x := (-1000)) dX8_costOfFewer_26 (by decide) ?_
    exact a_iret rfl ⟨by unfold cCost; grind, hQ, hF⟩ dX8_costOfFewer_29
  · refine a_iload_n dX8_costOfFewer_9 rfl rfl ?_
    refine a_sI (as := [ai m]) (rest := []) (c_isMinute σ m hm) mvX8_isMinute lX8_307 rfl rfl rfl (Nat.le_of_ble_eq_true rfl) (Nat.le_of_ble_eq_true rfl) (Nat.le_of_ble_eq_true rfl) dX8_costOfFewer_10 ?_
    refine a_ifb_eq (tgt := 26) dX8_costOfFewer_13 (by decide) (fun c13 => ?_) (fun c13 => ?_)
    · refine a_sipush (x := (-1000)) dX8_costOfFewer_26 (by decide) ?_
      exact a_iret rfl ⟨by unfold cCost; grind, hQ, hF⟩ dX8_costOfFewer_29
    · refine a_iload dX8_costOfFewer_16 rfl ?_
      refine a_iconst dX8_costOfFewer_18 ?_
      refine a_iconst dX8_costOfFewer_19 ?_
      refine a_sI (as := [ai k, ai 1, ai 4]) (rest := []) (c_within σ k 1 4 hk (inR_of (by omega) (by omega)) (inR_of (by omega) (by omega))) mvX8_within lX8_179 rfl rfl rfl (Nat.le_of_ble_eq_true rfl) (Nat.le_of_ble_eq_true rfl) (Nat.le_of_ble_eq_true rfl) dX8_costOfFewer_20 ?_
      refine a_ifb_ne (tgt := 30) dX8_costOfFewer_23 (by decide) (fun c23 => ?_) (fun c23 => ?_)
      · refine a_aload_n dX8_costOfFewer_30 rfl rfl ?_
        refine a_getF (d := 7) fX8_81 k0 rfl r0_3 dX8_costOfFewer_31 ?_
        refine a_iload_n dX8_costOfFewer_34 rfl rfl ?_
        refine a_iload_n dX8_costOfFewer_35 rfl rfl ?_
        refine a_iload_n dX8_costOfFewer_36 rfl rfl ?_
        refine a_iload dX8_costOfFewer_37 rfl ?_
        refine a_lconst (v := 0) dX8_costOfFewer_39 rfl ?_
        refine a_callI (c := 7) (as := [ai s, ai t, ai m, ai k, al 0]) (rest := []) (c_soonest σ ρ N 7 hW hN hT7 hM7 s t m k 0 (by omega) (by omega) (by omega) (by omega) (by omega) (by omega) (by omega) (by omega)) mvX6_soonest lX8_310 k7 (by decide) rfl rfl rfl rfl (Nat.le_of_ble_eq_true rfl) (Nat.le_of_ble_eq_true rfl) (Nat.le_of_ble_eq_true rfl) dX8_costOfFewer_40 (fun x u62 hu => ?_)
        obtain ⟨hx, hPu62⟩ := hu
        cases hx
        have hQu62 : CQ u62 ρ N := hQ.ln hS.2 hR.2 hPu62
        have hCu62 := hQu62.c
        have hNu62 := hQu62.n
        have hT7u62 := hQu62.t
        have hM7u62 := hQu62.m
        have hFu62 : Fg pCq σ u62 := hF.trans (hPu62.1.mono (fun c j z => by unfold pLn at z; unfold pCq; omega))
        have hsou62 : -1000 ≤ SO ρ s t m k 0 ∧ SO ρ s t m k 0 ≤ 1000000 := soon_rng hW (set := riddenF ρ s m k 0) (s := s) (t := t) (m := m) (by omega) (by omega) (by omega) (by omega) (by omega)
        refine a_topI (y := SO ρ s t m k 0) rfl ?_
        refine a_istore (ls' := [(5, ai (SO ρ s t m k 0)), (0, ar 0), (1, ai s), (2, ai t), (3, ai m), (4, ai k)]) dX8_costOfFewer_43 (Nat.le_of_ble_eq_true rfl) rfl ?_
        refine a_iload dX8_costOfFewer_45 rfl ?_
        refine a_ldc_w (x := 1000000) cX8_286 (by decide) dX8_costOfFewer_47 ?_
        refine a_icmp_lt (tgt := 57) dX8_costOfFewer_50 (by decide) (inR_of (by omega) (by omega)) (inR_of (by omega) (by omega)) (fun c50 => ?_) (fun c50 => ?_)
        · refine a_aload_n dX8_costOfFewer_57 rfl rfl ?_
          refine a_getF (d := 7) fX8_81 k0 rfl r0_3 dX8_costOfFewer_58 ?_
          refine a_iload_n dX8_costOfFewer_61 rfl rfl ?_
          refine a_iload_n dX8_costOfFewer_62 rfl rfl ?_
          refine a_iload_n dX8_costOfFewer_63 rfl rfl ?_
          refine a_iload dX8_costOfFewer_64 rfl ?_
          refine a_iconst dX8_costOfFewer_66 ?_
          refine a_isub dX8_costOfFewer_67 ?_
          refine a_lconst (v := 0) dX8_costOfFewer_68 rfl ?_
          refine a_callI (c := 7) (as := [ai s, ai t, ai m, ai (k - 1), al 0]) (rest := []) (c_soonest u62 ρ N 7 hW hNu62 hT7u62 hM7u62 s t m (k - 1) 0 (by omega) (by omega) (by omega) (by omega) (by omega) (by omega) (by omega) (by omega)) mvX6_soonest lX8_310 k7 (by decide) rfl rfl rfl rfl (Nat.le_of_ble_eq_true rfl) (Nat.le_of_ble_eq_true rfl) (Nat.le_of_ble_eq_true rfl) dX8_costOfFewer_69 (fun x u63 hu => ?_)
          obtain ⟨hx, hPu63⟩ := hu
          cases hx
          have hQu63 : CQ u63 ρ N := hQu62.ln hS.2 hR.2 hPu63
          have hCu63 := hQu63.c
          have hNu63 := hQu63.n
          have hT7u63 := hQu63.t
          have hM7u63 := hQu63.m
          have hFu63 : Fg pCq σ u63 := hFu62.trans (hPu63.1.mono (fun c j z => by unfold pLn at z; unfold pCq; omega))
          have hsou63 : -1000 ≤ SO ρ s t m (k - 1) 0 ∧ SO ρ s t m (k - 1) 0 ≤ 1000000 := soon_rng hW (set := riddenF ρ s m (k - 1) 0) (s := s) (t := t) (m := m) (by omega) (by omega) (by omega) (by omega) (by omega)
          refine a_topI (y := SO ρ s t m (k - 1) 0) rfl ?_
          refine a_istore (ls' := [(6, ai (SO ρ s t m (k - 1) 0)), (5, ai (SO ρ s t m k 0)), (0, ar 0), (1, ai s), (2, ai t), (3, ai m), (4, ai k)]) dX8_costOfFewer_72 (Nat.le_of_ble_eq_true rfl) rfl ?_
          refine a_iload dX8_costOfFewer_74 rfl ?_
          refine a_ldc_w (x := 1000000) cX8_286 (by decide) dX8_costOfFewer_76 ?_
          refine a_icmp_lt (tgt := 88) dX8_costOfFewer_79 (by decide) (inR_of (by omega) (by omega)) (inR_of (by omega) (by omega)) (fun c79 => ?_) (fun c79 => ?_)
          · refine a_iload dX8_costOfFewer_88 rfl ?_
            refine a_iload dX8_costOfFewer_90 rfl ?_
            refine a_isub dX8_costOfFewer_92 ?_
            exact a_iret rfl ⟨by unfold cCost; grind, hQu63, hFu63⟩ dX8_costOfFewer_93
          · refine a_sipush (x := 5000) dX8_costOfFewer_82 (by decide) ?_
            refine a_goto (tgt := 93) dX8_costOfFewer_85 (by decide) ?_
            exact a_iret rfl ⟨by unfold cCost; grind, hQu63, hFu63⟩ dX8_costOfFewer_93
        · refine a_sipush (x := (-1000)) dX8_costOfFewer_53 (by decide) ?_
          exact a_iret rfl ⟨by unfold cCost; grind, hQu62, hFu62⟩ dX8_costOfFewer_56
      · refine a_sipush (x := (-1000)) dX8_costOfFewer_26 (by decide) ?_
        exact a_iret rfl ⟨by unfold cCost; grind, hQ, hF⟩ dX8_costOfFewer_29

set_option maxRecDepth 20000 in
theorem c_via (σ ρ : Sto) (N : Nat) (hW : WV ρ) (hQ : CQ σ ρ N) (s v t m : Int) (hs : inR s) (hv : inR v) (ht : inR t) (hm : inR m) (hT0 : ∀ i : Int, 0 ≤ i → i < gN ρ 155 3 → 0 ≤ gN ρ 162 i) : MetA mX8_via [ar 0, ai s, ai v, ai t, ai m] σ (cqQ σ ρ N (cVia ρ s v t m)) := by
  have hC := hQ.c
  have hN := hQ.n
  have hT7 := hQ.t
  have hM7 := hQ.m
  have hF : Fg pCq σ σ := Fg.rfl
  have hNk := hN.k
  have hR := hW.R
  have hS := hW.S
  have hTr := hW.T
  refine a_entry (by decide) (Nat.le_of_ble_eq_true rfl) ?_
  refine a_ls (ls' := [(0, ar 0), (1, ai s), (2, ai v), (3, ai t), (4, ai m)]) rfl ?_
  refine a_aload_n dX8_via_0 rfl rfl ?_
  refine a_iload_n dX8_via_1 rfl rfl ?_
  refine a_cI (c := 0) (as := [ai s]) (rest := []) (c_isStop σ ρ N hW hC hN s hs) mvX8_isStop lX8_161 k0 (by decide) rfl rfl rfl rfl (Nat.le_of_ble_eq_true rfl) (Nat.le_of_ble_eq_true rfl) (Nat.le_of_ble_eq_true rfl) dX8_via_2 ?_
  refine a_ifb_eq (tgt := 32) dX8_via_5 (by decide) (fun c5 => ?_) (fun c5 => ?_)
  · refine a_iconst dX8_via_32 ?_
    exact a_iret rfl ⟨by unfold cVia; grind, hQ, hF⟩ dX8_via_33
  · refine a_aload_n dX8_via_8 rfl rfl ?_
    refine a_iload_n dX8_via_9 rfl rfl ?_
    refine a_cI (c := 0) (as := [ai v]) (rest := []) (c_isStop σ ρ N hW hC hN v hv) mvX8_isStop lX8_161 k0 (by decide) rfl rfl rfl rfl (Nat.le_of_ble_eq_true rfl) (Nat.le_of_ble_eq_true rfl) (Nat.le_of_ble_eq_true rfl) dX8_via_10 ?_
    refine a_ifb_eq (tgt := 32) dX8_via_13 (by decide) (fun c13 => ?_) (fun c13 => ?_)
    · refine a_iconst dX8_via_32 ?_
      exact a_iret rfl ⟨by unfold cVia; grind, hQ, hF⟩ dX8_via_33
    · refine a_aload_n dX8_via_16 rfl rfl ?_
      refine a_iload_n dX8_via_17 rfl rfl ?_
      refine a_cI (c := 0) (as := [ai t]) (rest := []) (c_isStop σ ρ N hW hC hN t ht) mvX8_isStop lX8_161 k0 (by decide) rfl rfl rfl rfl (Nat.le_of_ble_eq_true rfl) (Nat.le_of_ble_eq_true rfl) (Nat.le_of_ble_eq_true rfl) dX8_via_18 ?_
      refine a_ifb_eq (tgt := 32) dX8_via_21 (by decide) (fun c21 => ?_) (fun c21 => ?_)
      · refine a_iconst dX8_via_32 ?_
        exact a_iret rfl ⟨by unfold cVia; grind, hQ, hF⟩ dX8_via_33
      · refine a_iload dX8_via_24 rfl ?_
        refine a_sI (as := [ai m]) (rest := []) (c_isMinute σ m hm) mvX8_isMinute lX8_307 rfl rfl rfl (Nat.le_of_ble_eq_true rfl) (Nat.le_of_ble_eq_true rfl) (Nat.le_of_ble_eq_true rfl) dX8_via_26 ?_
        refine a_ifb_ne (tgt := 34) dX8_via_29 (by decide) (fun c29 => ?_) (fun c29 => ?_)
        · refine a_aload_n dX8_via_34 rfl rfl ?_
          refine a_getF (d := 7) fX8_81 k0 rfl r0_3 dX8_via_35 ?_
          refine a_iload_n dX8_via_38 rfl rfl ?_
          refine a_iload_n dX8_via_39 rfl rfl ?_
          refine a_iload dX8_via_40 rfl ?_
          refine a_iconst dX8_via_42 ?_
          refine a_lconst (v := 0) dX8_via_43 rfl ?_
          refine a_callI (c := 7) (as := [ai s, ai v, ai m, ai 4, al 0]) (rest := []) (c_soonest σ ρ N 7 hW hN hT7 hM7 s v m 4 0 (by omega) (by omega) (by omega) (by omega) (by omega) (by omega) (by omega) (by omega)) mvX6_soonest lX8_310 k7 (by decide) rfl rfl rfl rfl (Nat.le_of_ble_eq_true rfl) (Nat.le_of_ble_eq_true rfl) (Nat.le_of_ble_eq_true rfl) dX8_via_44 (fun x u64 hu => ?_)
          obtain ⟨hx, hPu64⟩ := hu
          cases hx
          have hQu64 : CQ u64 ρ N := hQ.ln hS.2 hR.2 hPu64
          have hCu64 := hQu64.c
          have hNu64 := hQu64.n
          have hT7u64 := hQu64.t
          have hM7u64 := hQu64.m
          have hFu64 : Fg pCq σ u64 := hF.trans (hPu64.1.mono (fun c j z => by unfold pLn at z; unfold pCq; omega))
          have hsou64 : -1000 ≤ SO ρ s v m 4 0 ∧ SO ρ s v m 4 0 ≤ 1000000 := soon_rng hW (set := riddenF ρ s m 4 0) (s := s) (t := v) (m := m) (by omega) (by omega) (by omega) (by omega) (by omega)
          have hnnu64 : 0 ≤ SO ρ s v m 4 0 := soon_nn hW hT0 (by omega) (by omega) (by omega) (by omega) (by omega)
          refine a_topI (y := SO ρ s v m 4 0) rfl ?_
          refine a_istore (ls' := [(5, ai (SO ρ s v m 4 0)), (0, ar 0), (1, ai s), (2, ai v), (3, ai t), (4, ai m)]) dX8_via_47 (Nat.le_of_ble_eq_true rfl) rfl ?_
          refine a_iload dX8_via_49 rfl ?_
          refine a_ldc_w (x := 1000000) cX8_286 (by decide) dX8_via_51 ?_
          refine a_icmp_lt (tgt := 60) dX8_via_54 (by decide) (inR_of (by omega) (by omega)) (inR_of (by omega) (by omega)) (fun c54 => ?_) (fun c54 => ?_)
          · refine a_aload_n dX8_via_60 rfl rfl ?_
            refine a_getF (d := 7) fX8_81 k0 rfl r0_3 dX8_via_61 ?_
            refine a_iload_n dX8_via_64 rfl rfl ?_
            refine a_iload_n dX8_via_65 rfl rfl ?_
            refine a_iload dX8_via_66 rfl ?_
            refine a_iconst dX8_via_68 ?_
            refine a_lconst (v := 0) dX8_via_69 rfl ?_
            refine a_callI (c := 7) (as := [ai v, ai t, ai (SO ρ s v m 4 0), ai 4, al 0]) (rest := []) (c_soonest u64 ρ N 7 hW hNu64 hT7u64 hM7u64 v t (SO ρ s v m 4 0) 4 0 (by omega) (by omega) (by omega) (by omega) (by omega) (by omega) (by omega) (by omega)) mvX6_soonest lX8_310 k7 (by decide) rfl rfl rfl rfl (Nat.le_of_ble_eq_true rfl) (Nat.le_of_ble_eq_true rfl) (Nat.le_of_ble_eq_true rfl) dX8_via_70 (fun x u65 hu => ?_)
            obtain ⟨hx, hPu65⟩ := hu
            cases hx
            have hQu65 : CQ u65 ρ N := hQu64.ln hS.2 hR.2 hPu65
            have hCu65 := hQu65.c
            have hNu65 := hQu65.n
            have hT7u65 := hQu65.t
            have hM7u65 := hQu65.m
            have hFu65 : Fg pCq σ u65 := hFu64.trans (hPu65.1.mono (fun c j z => by unfold pLn at z; unfold pCq; omega))
            have hsou65 : -1000 ≤ SO ρ v t (SO ρ s v m 4 0) 4 0 ∧ SO ρ v t (SO ρ s v m 4 0) 4 0 ≤ 1000000 := soon_rng hW (set := riddenF ρ v (SO ρ s v m 4 0) 4 0) (s := v) (t := t) (m := (SO ρ s v m 4 0)) (by omega) (by omega) (by omega) (by omega) (by omega)
            have hnnu65 : 0 ≤ SO ρ v t (SO ρ s v m 4 0) 4 0 := soon_nn hW hT0 (by omega) (by omega) (by omega) (by omega) (by omega)
            refine a_topI (y := SO ρ v t (SO ρ s v m 4 0) 4 0) rfl ?_
            refine a_sI (as := [ai (SO ρ v t (SO ρ s v m 4 0) 4 0)]) (rest := []) (c_orMissing u65 (SO ρ v t (SO ρ s v m 4 0) 4 0) (inR_of (by omega) (by omega))) mvX8_orMissing lX8_168 rfl rfl rfl (Nat.le_of_ble_eq_true rfl) (Nat.le_of_ble_eq_true rfl) (Nat.le_of_ble_eq_true rfl) dX8_via_73 ?_
            exact a_iret rfl ⟨by unfold cVia; grind, hQu65, hFu65⟩ dX8_via_76
          · refine a_bipush (x := (-2)) dX8_via_57 (by decide) ?_
            exact a_iret rfl ⟨by unfold cVia; grind, hQu64, hFu64⟩ dX8_via_59
        · refine a_iconst dX8_via_32 ?_
          exact a_iret rfl ⟨by unfold cVia; grind, hQ, hF⟩ dX8_via_33

set_option maxRecDepth 20000 in
theorem c_walk (σ ρ : Sto) (N : Nat) (hW : WV ρ) (hQ : CQ σ ρ N) (a b : Int) (ha : inR a) (hb : inR b) : MetA mX8_walk [ar 0, ai a, ai b] σ (cqQ σ ρ N (cWalk ρ a b)) := by
  have hC := hQ.c
  have hN := hQ.n
  have hT7 := hQ.t
  have hM7 := hQ.m
  have hF : Fg pCq σ σ := Fg.rfl
  have hNk := hN.k
  have hR := hW.R
  have hS := hW.S
  have hTr := hW.T
  refine a_entry (by decide) (Nat.le_of_ble_eq_true rfl) ?_
  refine a_ls (ls' := [(0, ar 0), (1, ai a), (2, ai b)]) rfl ?_
  refine a_aload_n dX8_walk_0 rfl rfl ?_
  refine a_iload_n dX8_walk_1 rfl rfl ?_
  refine a_cI (c := 0) (as := [ai a]) (rest := []) (c_isStop σ ρ N hW hC hN a ha) mvX8_isStop lX8_161 k0 (by decide) rfl rfl rfl rfl (Nat.le_of_ble_eq_true rfl) (Nat.le_of_ble_eq_true rfl) (Nat.le_of_ble_eq_true rfl) dX8_walk_2 ?_
  refine a_ifb_eq (tgt := 16) dX8_walk_5 (by decide) (fun c5 => ?_) (fun c5 => ?_)
  · refine a_iconst dX8_walk_16 ?_
    exact a_iret rfl ⟨by unfold cWalk; grind, hQ, hF⟩ dX8_walk_17
  · refine a_aload_n dX8_walk_8 rfl rfl ?_
    refine a_iload_n dX8_walk_9 rfl rfl ?_
    refine a_cI (c := 0) (as := [ai b]) (rest := []) (c_isStop σ ρ N hW hC hN b hb) mvX8_isStop lX8_161 k0 (by decide) rfl rfl rfl rfl (Nat.le_of_ble_eq_true rfl) (Nat.le_of_ble_eq_true rfl) (Nat.le_of_ble_eq_true rfl) dX8_walk_10 ?_
    refine a_ifb_ne (tgt := 18) dX8_walk_13 (by decide) (fun c13 => ?_) (fun c13 => ?_)
    · refine a_aload_n dX8_walk_18 rfl rfl ?_
      refine a_getR (d := N) (J := 12) fX8_65 k0 rfl q0_12 rfl hC dX8_walk_19 ?_
      refine a_getF (d := (N + 3)) fX8_164 (kN hNk) rfl (rN_6 hNk) dX8_walk_22 ?_
      refine a_iload_n dX8_walk_25 rfl rfl ?_
      refine a_ald (d := (N + 11 + a.toNat)) (kN_3 hNk) (nN_3 hNk) (by omega) (by omega) (rowN_w hNk (by omega) (by omega)) dX8_walk_26 ?_
      refine a_iload_n dX8_walk_27 rfl rfl ?_
      refine a_ild (kNw hNk (by omega) (by omega)) (nNw hNk (by omega) (by omega)) (by omega) (by omega) dX8_walk_28 ?_
      refine a_topI (y := gN ρ 155 (15 + 10 * a + b)) (hN.wk (by omega) (by omega) (by omega) (by omega)) ?_
      have hb76 := hW.walk a b (by omega) (by omega) (by omega) (by omega)
      refine a_sI (as := [ai (gN ρ 155 (15 + 10 * a + b))]) (rest := []) (c_orMissing σ (gN ρ 155 (15 + 10 * a + b)) (inR_gN _ _ _)) mvX8_orMissing lX8_168 rfl rfl rfl (Nat.le_of_ble_eq_true rfl) (Nat.le_of_ble_eq_true rfl) (Nat.le_of_ble_eq_true rfl) dX8_walk_29 ?_
      exact a_iret rfl ⟨by unfold cWalk; grind, hQ, hF⟩ dX8_walk_32
    · refine a_iconst dX8_walk_16 ?_
      exact a_iret rfl ⟨by unfold cWalk; grind, hQ, hF⟩ dX8_walk_17

set_option maxRecDepth 20000 in
theorem c_change (σ ρ : Sto) (N : Nat) (hW : WV ρ) (hQ : CQ σ ρ N) (a : Int) (ha : inR a) : MetA mX8_change [ar 0, ai a] σ (cqQ σ ρ N (cChange ρ a)) := by
  have hC := hQ.c
  have hN := hQ.n
  have hT7 := hQ.t
  have hM7 := hQ.m
  have hF : Fg pCq σ σ := Fg.rfl
  have hNk := hN.k
  have hR := hW.R
  have hS := hW.S
  have hTr := hW.T
  refine a_entry (by decide) (Nat.le_of_ble_eq_true rfl) ?_
  refine a_ls (ls' := [(0, ar 0), (1, ai a)]) rfl ?_
  refine a_aload_n dX8_change_0 rfl rfl ?_
  refine a_iload_n dX8_change_1 rfl rfl ?_
  refine a_cI (c := 0) (as := [ai a]) (rest := []) (c_isStop σ ρ N hW hC hN a ha) mvX8_isStop lX8_161 k0 (by decide) rfl rfl rfl rfl (Nat.le_of_ble_eq_true rfl) (Nat.le_of_ble_eq_true rfl) (Nat.le_of_ble_eq_true rfl) dX8_change_2 ?_
  refine a_ifb_eq (tgt := 20) dX8_change_5 (by decide) (fun c5 => ?_) (fun c5 => ?_)
  · refine a_iconst dX8_change_20 ?_
    exact a_iret rfl ⟨by unfold cChange; grind, hQ, hF⟩ dX8_change_21
  · refine a_aload_n dX8_change_8 rfl rfl ?_
    refine a_getR (d := N) (J := 12) fX8_65 k0 rfl q0_12 rfl hC dX8_change_9 ?_
    refine a_getF (d := (N + 2)) fX8_172 (kN hNk) rfl (rN_5 hNk) dX8_change_12 ?_
    refine a_iload_n dX8_change_15 rfl rfl ?_
    refine a_ild (kN_2 hNk) (nN_2 hNk) (by omega) (by omega) dX8_change_16 ?_
    refine a_topI (y := gN ρ 155 (5 + a)) (hN.ch (by omega) (by omega)) ?_
    have hb77 := hW.chg a (by omega) (by omega)
    refine a_goto (tgt := 21) dX8_change_17 (by decide) ?_
    exact a_iret rfl ⟨by unfold cChange; grind, hQ, hF⟩ dX8_change_21

set_option maxRecDepth 20000 in
theorem c_slack (σ ρ : Sto) (N : Nat) (hW : WV ρ) (hQ : CQ σ ρ N) (e on : Int) (he : inR e) (hon : inR on) : MetA mX8_slack [ar 0, ai e, ai on] σ (cqQ σ ρ N (cSlack ρ e on)) := by
  have hC := hQ.c
  have hN := hQ.n
  have hT7 := hQ.t
  have hM7 := hQ.m
  have hF : Fg pCq σ σ := Fg.rfl
  have hNk := hN.k
  have hR := hW.R
  have hS := hW.S
  have hTr := hW.T
  refine a_entry (by decide) (Nat.le_of_ble_eq_true rfl) ?_
  refine a_ls (ls' := [(0, ar 0), (1, ai e), (2, ai on)]) rfl ?_
  refine a_aload_n dX8_slack_0 rfl rfl ?_
  refine a_iload_n dX8_slack_1 rfl rfl ?_
  refine a_cI (c := 0) (as := [ai e]) (rest := []) (c_isRide σ ρ N hW hC hN e he) mvX8_isRide lX8_118 k0 (by decide) rfl rfl rfl rfl (Nat.le_of_ble_eq_true rfl) (Nat.le_of_ble_eq_true rfl) (Nat.le_of_ble_eq_true rfl) dX8_slack_2 ?_
  refine a_ifb_eq (tgt := 38) dX8_slack_5 (by decide) (fun c5 => ?_) (fun c5 => ?_)
  · refine a_sipush (x := (-1000)) dX8_slack_38 (by decide) ?_
    exact a_iret rfl ⟨by unfold cSlack; have hbt := btw_tf ρ e on; grind, hQ, hF⟩ dX8_slack_41
  · refine a_aload_n dX8_slack_8 rfl rfl ?_
    refine a_iload_n dX8_slack_9 rfl rfl ?_
    refine a_cI (c := 0) (as := [ai on]) (rest := []) (c_isRide σ ρ N hW hC hN on hon) mvX8_isRide lX8_118 k0 (by decide) rfl rfl rfl rfl (Nat.le_of_ble_eq_true rfl) (Nat.le_of_ble_eq_true rfl) (Nat.le_of_ble_eq_true rfl) dX8_slack_10 ?_
    refine a_ifb_eq (tgt := 38) dX8_slack_13 (by decide) (fun c13 => ?_) (fun c13 => ?_)
    · refine a_sipush (x := (-1000)) dX8_slack_38 (by decide) ?_
      exact a_iret rfl ⟨by unfold cSlack; have hbt := btw_tf ρ e on; grind, hQ, hF⟩ dX8_slack_41
    · refine a_aload_n dX8_slack_16 rfl rfl ?_
      refine a_getF (d := 7) fX8_81 k0 rfl r0_3 dX8_slack_17 ?_
      refine a_iload_n dX8_slack_20 rfl rfl ?_
      refine a_cI (c := 7) (as := [ai e]) (rest := []) (c_isCancelled σ ρ N 7 hW hN hT7 e (by omega) (by omega)) mvX6_isCancelled lX8_150 k7 (by decide) rfl rfl rfl rfl (Nat.le_of_ble_eq_true rfl) (Nat.le_of_ble_eq_true rfl) (Nat.le_of_ble_eq_true rfl) dX8_slack_21 ?_
      refine a_ifb_ne (tgt := 38) dX8_slack_24 (by decide) (fun c24 => ?_) (fun c24 => ?_)
      · refine a_sipush (x := (-1000)) dX8_slack_38 (by decide) ?_
        exact a_iret rfl ⟨by unfold cSlack; have hbt := btw_tf ρ e on; grind, hQ, hF⟩ dX8_slack_41
      · refine a_aload_n dX8_slack_27 rfl rfl ?_
        refine a_getF (d := 7) fX8_81 k0 rfl r0_3 dX8_slack_28 ?_
        refine a_iload_n dX8_slack_31 rfl rfl ?_
        refine a_cI (c := 7) (as := [ai on]) (rest := []) (c_isCancelled σ ρ N 7 hW hN hT7 on (by omega) (by omega)) mvX6_isCancelled lX8_150 k7 (by decide) rfl rfl rfl rfl (Nat.le_of_ble_eq_true rfl) (Nat.le_of_ble_eq_true rfl) (Nat.le_of_ble_eq_true rfl) dX8_slack_32 ?_
        refine a_ifb_eq (tgt := 42) dX8_slack_35 (by decide) (fun c35 => ?_) (fun c35 => ?_)
        · refine a_aload_n dX8_slack_42 rfl rfl ?_
          refine a_getR (d := N) (J := 12) fX8_65 k0 rfl q0_12 rfl hC dX8_slack_43 ?_
          refine a_getF (d := (N + 4)) fX8_365 (kN hNk) rfl (rN_7 hNk) dX8_slack_46 ?_
          refine a_aload_n dX8_slack_49 rfl rfl ?_
          refine a_getR (d := N) (J := 12) fX8_65 k0 rfl q0_12 rfl hC dX8_slack_50 ?_
          refine a_getF (d := (N + 8)) fX8_135 (kN hNk) rfl (rN_11 hNk) dX8_slack_53 ?_
          refine a_iload_n dX8_slack_56 rfl rfl ?_
          refine a_ild (kN_8 hNk) (nN_8 hNk) (by omega) (by omega) dX8_slack_57 ?_
          refine a_topI (y := gN ρ 155 (115 + 5 * e + 2)) (hN.r2 (by omega) (by omega)) ?_
          have hb78 := hW.ride e (by omega) (by omega)
          refine a_ald (d := (N + 21 + (gN ρ 155 (115 + 5 * e + 2)).toNat)) (kN_4 hNk) (nN_4 hNk) (by omega) (by omega) (rowN_t hNk (by omega) (by omega)) dX8_slack_58 ?_
          refine a_aload_n dX8_slack_59 rfl rfl ?_
          refine a_getR (d := N) (J := 12) fX8_65 k0 rfl q0_12 rfl hC dX8_slack_60 ?_
          refine a_getF (d := (N + 7)) fX8_132 (kN hNk) rfl (rN_10 hNk) dX8_slack_63 ?_
          refine a_iload_n dX8_slack_66 rfl rfl ?_
          refine a_ild (kN_7 hNk) (nN_7 hNk) (by omega) (by omega) dX8_slack_67 ?_
          refine a_topI (y := gN ρ 155 (115 + 5 * on + 1)) (hN.r1 (by omega) (by omega)) ?_
          have hb79 := hW.ride on (by omega) (by omega)
          refine a_ild (kNt hNk (by omega) (by omega)) (nNt hNk (by omega) (by omega)) (by omega) (by omega) dX8_slack_68 ?_
          refine a_topI (y := tfF ρ (gN ρ 155 (115 + 5 * e + 2)) (gN ρ 155 (115 + 5 * on + 1))) (hN.tf (by omega) (by omega) (by omega) (by omega)) ?_
          have hb80 := hW.tf (gN ρ 155 (115 + 5 * e + 2)) (gN ρ 155 (115 + 5 * on + 1)) (by omega) (by omega) (by omega) (by omega)
          refine a_ldc_w (x := 1000000) cX8_286 (by decide) dX8_slack_69 ?_
          refine a_icmp_lt (tgt := 79) dX8_slack_72 (by decide) (inR_of (by omega) (by omega)) (inR_of (by omega) (by omega)) (fun c72 => ?_) (fun c72 => ?_)
          · refine a_aload_n dX8_slack_79 rfl rfl ?_
            refine a_getF (d := 7) fX8_81 k0 rfl r0_3 dX8_slack_80 ?_
            refine a_iload_n dX8_slack_83 rfl rfl ?_
            refine a_iload_n dX8_slack_84 rfl rfl ?_
            refine a_cI (c := 7) (as := [ai e, ai on]) (rest := []) (c_slackOf σ ρ N 7 hW hN hT7 e on (by omega) (by omega) (by omega) (by omega)) mvX6_slackOf lX8_368 k7 (by decide) rfl rfl rfl rfl (Nat.le_of_ble_eq_true rfl) (Nat.le_of_ble_eq_true rfl) (Nat.le_of_ble_eq_true rfl) dX8_slack_85 ?_
            exact a_iret rfl ⟨by unfold cSlack; have hbt := btw_tf ρ e on; grind, hQ, hF⟩ dX8_slack_88
          · refine a_sipush (x := (-1000)) dX8_slack_75 (by decide) ?_
            exact a_iret rfl ⟨by unfold cSlack; have hbt := btw_tf ρ e on; grind, hQ, hF⟩ dX8_slack_78
        · refine a_sipush (x := (-1000)) dX8_slack_38 (by decide) ?_
          exact a_iret rfl ⟨by unfold cSlack; have hbt := btw_tf ρ e on; grind, hQ, hF⟩ dX8_slack_41

set_option maxRecDepth 20000 in
theorem c_fewest_l (σ ρ : Sto) (N : Nat) (hW : WV ρ) (hQ : CQ σ ρ N) (s t m z : Int) (h2 : two ρ s t) (hm : mnt m) (hz0 : 0 ≤ z) (hz1 : z ≤ 2000) (V : Int) : ∀ (n : Nat) (k : Int) (τ : Sto), 0 ≤ k → k ≤ 5 → n = (5 - k).toNat → CQ τ ρ N → Fg pCq σ τ → V = fs2 (fun k => decide (SO ρ s t m k 0 ≤ z)) (-2) n k → RunA mX8_fewest (cqQ σ ρ N V) 33 [(5, ai k), (0, ar 0), (1, ai s), (2, ai t), (3, ai m), (4, ai z)] [] τ := by
  have hNk := hQ.n.k
  have hR := hW.R
  have hS := hW.S
  have hTr := hW.T
  have h2a := h2.1
  have h2b := h2.2.1
  have h2c := h2.2.2
  intro n
  induction n with
  | zero =>
    intro k τ h0 h5 hn hQτ hFτ hV
    have hCτ := hQτ.c
    have hNτ := hQτ.n
    have hT7τ := hQτ.t
    have hM7τ := hQτ.m
    refine a_iload dX8_fewest_33 rfl ?_
    refine a_iconst dX8_fewest_35 ?_
    refine a_icmp_gt (tgt := 66) dX8_fewest_36 (by decide) (inR_of (by omega) (by omega)) (inR_of (by omega) (by omega)) (fun c36 => ?_) (fun c36 => ?_)
    · refine a_bipush (x := (-2)) dX8_fewest_66 (by decide) ?_
      exact a_iret rfl ⟨by rw [hV]; rfl, hQτ, hFτ⟩ dX8_fewest_68
    · exfalso; omega
  | succ n ih =>
    intro k τ h0 h5 hn hQτ hFτ hV
    have hCτ := hQτ.c
    have hNτ := hQτ.n
    have hT7τ := hQτ.t
    have hM7τ := hQτ.m
    refine a_iload dX8_fewest_33 rfl ?_
    refine a_iconst dX8_fewest_35 ?_
    refine a_icmp_gt (tgt := 66) dX8_fewest_36 (by decide) (inR_of (by omega) (by omega)) (inR_of (by omega) (by omega)) (fun c36 => ?_) (fun c36 => ?_)
    · exfalso; omega
    · refine a_aload_n dX8_fewest_39 rfl rfl ?_
      refine a_getF (d := 7) fX8_81 k0 rfl r0_3 dX8_fewest_40 ?_
      refine a_iload_n dX8_fewest_43 rfl rfl ?_
      refine a_iload_n dX8_fewest_44 rfl rfl ?_
      refine a_iload_n dX8_fewest_45 rfl rfl ?_
      refine a_iload dX8_fewest_46 rfl ?_
      refine a_lconst (v := 0) dX8_fewest_48 rfl ?_
      refine a_callI (c := 7) (as := [ai s, ai t, ai m, ai k, al 0]) (rest := []) (c_soonest τ ρ N 7 hW hNτ hT7τ hM7τ s t m k 0 (by omega) (by omega) (by omega) (by omega) (by omega) (by omega) (by omega) (by omega)) mvX6_soonest lX8_310 k7 (by decide) rfl rfl rfl rfl (Nat.le_of_ble_eq_true rfl) (Nat.le_of_ble_eq_true rfl) (Nat.le_of_ble_eq_true rfl) dX8_fewest_49 (fun x u66 hu => ?_)
      obtain ⟨hx, hPu66⟩ := hu
      cases hx
      have hQu66 : CQ u66 ρ N := hQτ.ln hS.2 hR.2 hPu66
      have hCu66 := hQu66.c
      have hNu66 := hQu66.n
      have hT7u66 := hQu66.t
      have hM7u66 := hQu66.m
      have hFu66 : Fg pCq σ u66 := hFτ.trans (hPu66.1.mono (fun c j z => by unfold pLn at z; unfold pCq; omega))
      have hsou66 : -1000 ≤ SO ρ s t m k 0 ∧ SO ρ s t m k 0 ≤ 1000000 := soon_rng hW (set := riddenF ρ s m k 0) (s := s) (t := t) (m := m) (by omega) (by omega) (by omega) (by omega) (by omega)
      refine a_topI (y := SO ρ s t m k 0) rfl ?_
      refine a_iload dX8_fewest_52 rfl ?_
      refine a_icmp_gt (tgt := 60) dX8_fewest_54 (by decide) (inR_of (by omega) (by omega)) (inR_of (by omega) (by omega)) (fun c54 => ?_) (fun c54 => ?_)
      · refine a_iinc (y := k + 1) (ls' := [(5, ai (k + 1)), (0, ar 0), (1, ai s), (2, ai t), (3, ai m), (4, ai z)]) dX8_fewest_60 rfl rfl (Nat.le_of_ble_eq_true rfl) rfl ?_
        refine a_goto (tgt := 33) dX8_fewest_63 (by decide) ?_
        exact a_keep (by simp) (ih (k + 1) u66 (by omega) (by omega) (by omega) hQu66 hFu66 (by rw [hV, fs2_no (decide_eq_false (by omega))]))
      · refine a_iload dX8_fewest_57 rfl ?_
        exact a_iret rfl ⟨by rw [hV, fs2_yes (decide_eq_true (by omega))], hQu66, hFu66⟩ dX8_fewest_59

set_option maxRecDepth 20000 in
theorem c_fewest (σ ρ : Sto) (N : Nat) (hW : WV ρ) (hQ : CQ σ ρ N) (s t m z : Int) (hs : inR s) (ht : inR t) (hm : inR m) (hz : inR z) : MetA mX8_fewest [ar 0, ai s, ai t, ai m, ai z] σ (cqQ σ ρ N (cFewest ρ s t m z)) := by
  have hC := hQ.c
  have hN := hQ.n
  have hT7 := hQ.t
  have hM7 := hQ.m
  have hF : Fg pCq σ σ := Fg.rfl
  have hNk := hN.k
  have hR := hW.R
  have hS := hW.S
  have hTr := hW.T
  refine a_entry (by decide) (Nat.le_of_ble_eq_true rfl) ?_
  refine a_ls (ls' := [(0, ar 0), (1, ai s), (2, ai t), (3, ai m), (4, ai z)]) rfl ?_
  refine a_aload_n dX8_fewest_0 rfl rfl ?_
  refine a_iload_n dX8_fewest_1 rfl rfl ?_
  refine a_iload_n dX8_fewest_2 rfl rfl ?_
  refine a_cI (c := 0) (as := [ai s, ai t]) (rest := []) (c_arePair σ ρ N hW hC hN s t hs ht) mvX8_arePair lX8_238 k0 (by decide) rfl rfl rfl rfl (Nat.le_of_ble_eq_true rfl) (Nat.le_of_ble_eq_true rfl) (Nat.le_of_ble_eq_true rfl) dX8_fewest_3 ?_
  refine a_ifb_eq (tgt := 28) dX8_fewest_6 (by decide) (fun c6 => ?_) (fun c6 => ?_)
  · refine a_iconst dX8_fewest_28 ?_
    exact a_iret rfl ⟨by unfold cFewest; grind, hQ, hF⟩ dX8_fewest_29
  · refine a_iload_n dX8_fewest_9 rfl rfl ?_
    refine a_sI (as := [ai m]) (rest := []) (c_isMinute σ m hm) mvX8_isMinute lX8_307 rfl rfl rfl (Nat.le_of_ble_eq_true rfl) (Nat.le_of_ble_eq_true rfl) (Nat.le_of_ble_eq_true rfl) dX8_fewest_10 ?_
    refine a_ifb_eq (tgt := 28) dX8_fewest_13 (by decide) (fun c13 => ?_) (fun c13 => ?_)
    · refine a_iconst dX8_fewest_28 ?_
      exact a_iret rfl ⟨by unfold cFewest; grind, hQ, hF⟩ dX8_fewest_29
    · refine a_iload dX8_fewest_16 rfl ?_
      refine a_iconst dX8_fewest_18 ?_
      refine a_sipush (x := 2000) dX8_fewest_19 (by decide) ?_
      refine a_sI (as := [ai z, ai 0, ai 2000]) (rest := []) (c_within σ z 0 2000 hz (inR_of (by omega) (by omega)) (inR_of (by omega) (by omega))) mvX8_within lX8_179 rfl rfl rfl (Nat.le_of_ble_eq_true rfl) (Nat.le_of_ble_eq_true rfl) (Nat.le_of_ble_eq_true rfl) dX8_fewest_22 ?_
      refine a_ifb_ne (tgt := 30) dX8_fewest_25 (by decide) (fun c25 => ?_) (fun c25 => ?_)
      · refine a_iconst dX8_fewest_30 ?_
        refine a_istore (ls' := [(5, ai 0), (0, ar 0), (1, ai s), (2, ai t), (3, ai m), (4, ai z)]) dX8_fewest_31 (Nat.le_of_ble_eq_true rfl) rfl ?_
        have e : cFewest ρ s t m z = fs2 (fun k => decide (SO ρ s t m k 0 ≤ z)) (-2) 5 0 := by unfold cFewest; rw [if_neg (by grind)]
        rw [e]
        exact a_keep (by simp) (c_fewest_l σ ρ N hW hQ s t m z (by grind) (by grind) (by omega) (by omega) _ 5 0 σ (by omega) (by omega) (by omega) hQ hF rfl)
      · refine a_iconst dX8_fewest_28 ?_
        exact a_iret rfl ⟨by unfold cFewest; grind, hQ, hF⟩ dX8_fewest_29

set_option maxRecDepth 20000 in
theorem c_reached_l (σ τ ρ : Sto) (N : Nat) (hW : WV ρ) (hQτ : CQ τ ρ N) (hFτ : Fg pCq σ τ) (s m n0 : Int) (hs0 : 0 ≤ s) (hs1 : s < gN ρ 155 0) (hm : mnt m) (hn0 : 0 ≤ n0) (hn1 : n0 ≤ 2000) (V : Int) : ∀ (n : Nat) (t : Int) (st : Int), 0 ≤ t → t ≤ gN ρ 155 0 → n = (gN ρ 155 0 - t).toNat → V = itr (rcF ρ s m n0 (riddenF ρ s m 4 0)) n t st → RunA mX8_reached (cqQ σ ρ N V) 47 [(7, ai t), (6, ai st), (0, ar 0), (1, ai s), (2, ai m), (3, ai n0), (4, al (riddenF ρ s m 4 0))] [] τ := by
  have hNk := hQτ.n.k
  have hR := hW.R
  have hS := hW.S
  have hTr := hW.T
  have hCτ := hQτ.c
  have hNτ := hQτ.n
  have hT7τ := hQτ.t
  have hM7τ := hQτ.m
  intro n
  induction n with
  | zero =>
    intro t st h0 h5 hn hE
    refine a_iload dX8_reached_47 rfl ?_
    refine a_aload_n dX8_reached_49 rfl rfl ?_
    refine a_getR (d := N) (J := 12) fX8_65 k0 rfl q0_12 rfl hCτ dX8_reached_50 ?_
    refine a_getI (J := 0) fX8_293 (kN hNk) rfl rfl dX8_reached_53 ?_
    refine a_topI (y := gN ρ 155 0) hNτ.n0 ?_
    refine a_icmp_ge (tgt := 93) dX8_reached_56 (by decide) (inR_of (by omega) (by omega)) (inR_gN _ _ _) (fun c56 => ?_) (fun c56 => ?_)
    · refine a_iload dX8_reached_93 rfl ?_
      exact a_iret rfl ⟨by rw [hE]; rfl, hQτ, hFτ⟩ dX8_reached_95
    · exfalso; omega
  | succ n ih =>
    intro t st h0 h5 hn hE
    refine a_iload dX8_reached_47 rfl ?_
    refine a_aload_n dX8_reached_49 rfl rfl ?_
    refine a_getR (d := N) (J := 12) fX8_65 k0 rfl q0_12 rfl hCτ dX8_reached_50 ?_
    refine a_getI (J := 0) fX8_293 (kN hNk) rfl rfl dX8_reached_53 ?_
    refine a_topI (y := gN ρ 155 0) hNτ.n0 ?_
    refine a_icmp_ge (tgt := 93) dX8_reached_56 (by decide) (inR_of (by omega) (by omega)) (inR_gN _ _ _) (fun c56 => ?_) (fun c56 => ?_)
    · exfalso; omega
    · refine a_aload_n dX8_reached_59 rfl rfl ?_
      refine a_getF (d := 7) fX8_81 k0 rfl r0_3 dX8_reached_60 ?_
      refine a_lload dX8_reached_63 rfl ?_
      refine a_iload_n dX8_reached_65 rfl rfl ?_
      refine a_iload dX8_reached_66 rfl ?_
      refine a_iload_n dX8_reached_68 rfl rfl ?_
      refine a_cI (c := 7) (as := [al (riddenF ρ s m 4 0), ai s, ai t, ai m]) (rest := []) (c_soonestOf τ ρ N 7 hW hNτ hT7τ (riddenF ρ s m 4 0) s t m (by omega) (by omega) (by omega) (by omega) (by omega) (by omega)) mvX6_soonestOf lX8_335 k7 (by decide) rfl rfl rfl rfl (Nat.le_of_ble_eq_true rfl) (Nat.le_of_ble_eq_true rfl) (Nat.le_of_ble_eq_true rfl) dX8_reached_69 ?_
      have hsf67 := soon_rng hW (set := (riddenF ρ s m 4 0)) (s := s) (t := t) (m := m) (by omega) (by omega) (by omega) (by omega) (by omega)
      refine a_iload_n dX8_reached_72 rfl rfl ?_
      refine a_iload_n dX8_reached_73 rfl rfl ?_
      refine a_iadd dX8_reached_74 ?_
      refine a_icmp_gt (tgt := 87) dX8_reached_75 (by decide) (inR_of (by omega) (by omega)) (inR_of (by omega) (by omega)) (fun c75 => ?_) (fun c75 => ?_)
      · refine a_iinc (y := t + 1) (ls' := [(7, ai (t + 1)), (6, ai st), (0, ar 0), (1, ai s), (2, ai m), (3, ai n0), (4, al (riddenF ρ s m 4 0))]) dX8_reached_87 rfl rfl (Nat.le_of_ble_eq_true rfl) rfl ?_
        refine a_goto (tgt := 47) dX8_reached_90 (by decide) ?_
        have e : rcF ρ s m n0 (riddenF ρ s m 4 0) t st = st := by unfold rcF; rw [if_neg (by omega)]
        exact a_keep (by simp) (ih (t + 1) (st) (by omega) (by omega) (by omega) (by rw [hE, itr_s, e]))
      · refine a_iload dX8_reached_78 rfl ?_
        refine a_iconst dX8_reached_80 ?_
        refine a_iload dX8_reached_81 rfl ?_
        refine a_ishl (z := shlI 1 t) dX8_reached_83 (Int32.ofInt_toInt _).symm ?_
        refine a_ior (z := orI st (shlI 1 t)) dX8_reached_84 (Int32.ofInt_toInt _).symm ?_
        refine a_istore (ls' := [(6, ai (orI st (shlI 1 t))), (7, ai t), (0, ar 0), (1, ai s), (2, ai m), (3, ai n0), (4, al (riddenF ρ s m 4 0))]) dX8_reached_85 (Nat.le_of_ble_eq_true rfl) rfl ?_
        refine a_iinc (y := t + 1) (ls' := [(7, ai (t + 1)), (6, ai (orI st (shlI 1 t))), (0, ar 0), (1, ai s), (2, ai m), (3, ai n0), (4, al (riddenF ρ s m 4 0))]) dX8_reached_87 rfl rfl (Nat.le_of_ble_eq_true rfl) rfl ?_
        refine a_goto (tgt := 47) dX8_reached_90 (by decide) ?_
        have e : rcF ρ s m n0 (riddenF ρ s m 4 0) t st = orI st (shlI 1 t) := by unfold rcF; rw [if_pos (by omega)]
        exact a_keep (by simp) (ih (t + 1) (orI st (shlI 1 t)) (by omega) (by omega) (by omega) (by rw [hE, itr_s, e]))

set_option maxRecDepth 20000 in
theorem c_reached (σ ρ : Sto) (N : Nat) (hW : WV ρ) (hQ : CQ σ ρ N) (s m n : Int) (hs : inR s) (hm : inR m) (hn : inR n) : MetA mX8_reached [ar 0, ai s, ai m, ai n] σ (cqQ σ ρ N (cReached ρ s m n)) := by
  have hC := hQ.c
  have hN := hQ.n
  have hT7 := hQ.t
  have hM7 := hQ.m
  have hF : Fg pCq σ σ := Fg.rfl
  have hNk := hN.k
  have hR := hW.R
  have hS := hW.S
  have hTr := hW.T
  refine a_entry (by decide) (Nat.le_of_ble_eq_true rfl) ?_
  refine a_ls (ls' := [(0, ar 0), (1, ai s), (2, ai m), (3, ai n)]) rfl ?_
  refine a_aload_n dX8_reached_0 rfl rfl ?_
  refine a_iload_n dX8_reached_1 rfl rfl ?_
  refine a_cI (c := 0) (as := [ai s]) (rest := []) (c_isStop σ ρ N hW hC hN s hs) mvX8_isStop lX8_161 k0 (by decide) rfl rfl rfl rfl (Nat.le_of_ble_eq_true rfl) (Nat.le_of_ble_eq_true rfl) (Nat.le_of_ble_eq_true rfl) dX8_reached_2 ?_
  refine a_ifb_eq (tgt := 26) dX8_reached_5 (by decide) (fun c5 => ?_) (fun c5 => ?_)
  · refine a_iconst dX8_reached_26 ?_
    exact a_iret rfl ⟨by unfold cReached; grind, hQ, hF⟩ dX8_reached_27
  · refine a_iload_n dX8_reached_8 rfl rfl ?_
    refine a_sI (as := [ai m]) (rest := []) (c_isMinute σ m hm) mvX8_isMinute lX8_307 rfl rfl rfl (Nat.le_of_ble_eq_true rfl) (Nat.le_of_ble_eq_true rfl) (Nat.le_of_ble_eq_true rfl) dX8_reached_9 ?_
    refine a_ifb_eq (tgt := 26) dX8_reached_12 (by decide) (fun c12 => ?_) (fun c12 => ?_)
    · refine a_iconst dX8_reached_26 ?_
      exact a_iret rfl ⟨by unfold cReached; grind, hQ, hF⟩ dX8_reached_27
    · refine a_iload_n dX8_reached_15 rfl rfl ?_
      refine a_iconst dX8_reached_16 ?_
      refine a_sipush (x := 2000) dX8_reached_17 (by decide) ?_
      refine a_sI (as := [ai n, ai 0, ai 2000]) (rest := []) (c_within σ n 0 2000 hn (inR_of (by omega) (by omega)) (inR_of (by omega) (by omega))) mvX8_within lX8_179 rfl rfl rfl (Nat.le_of_ble_eq_true rfl) (Nat.le_of_ble_eq_true rfl) (Nat.le_of_ble_eq_true rfl) dX8_reached_20 ?_
      refine a_ifb_ne (tgt := 28) dX8_reached_23 (by decide) (fun c23 => ?_) (fun c23 => ?_)
      · refine a_aload_n dX8_reached_28 rfl rfl ?_
        refine a_getF (d := 7) fX8_81 k0 rfl r0_3 dX8_reached_29 ?_
        refine a_iload_n dX8_reached_32 rfl rfl ?_
        refine a_iload_n dX8_reached_33 rfl rfl ?_
        refine a_iconst dX8_reached_34 ?_
        refine a_lconst (v := 0) dX8_reached_35 rfl ?_
        refine a_callL (c := 7) (as := [ai s, ai m, ai 4, al 0]) (rest := []) (c_ridden σ ρ N 7 hW hN hT7 hM7 s m 4 0 (by omega) (by omega) (by omega) (by omega) (by omega) (by omega)) mvX6_ridden lX8_331 k7 (by decide) rfl rfl rfl rfl (Nat.le_of_ble_eq_true rfl) (Nat.le_of_ble_eq_true rfl) (Nat.le_of_ble_eq_true rfl) dX8_reached_36 (fun x u68 hu => ?_)
        obtain ⟨hx, hPu68⟩ := hu
        cases hx
        have hQu68 : CQ u68 ρ N := hQ.ln hS.2 hR.2 hPu68
        have hCu68 := hQu68.c
        have hNu68 := hQu68.n
        have hT7u68 := hQu68.t
        have hM7u68 := hQu68.m
        have hFu68 : Fg pCq σ u68 := hF.trans (hPu68.1.mono (fun c j z => by unfold pLn at z; unfold pCq; omega))
        refine a_lstore (ls' := [(4, al (riddenF ρ s m 4 0)), (0, ar 0), (1, ai s), (2, ai m), (3, ai n)]) dX8_reached_39 (Nat.le_of_ble_eq_true rfl) rfl ?_
        refine a_iconst dX8_reached_41 ?_
        refine a_istore (ls' := [(6, ai 0), (4, al (riddenF ρ s m 4 0)), (0, ar 0), (1, ai s), (2, ai m), (3, ai n)]) dX8_reached_42 (Nat.le_of_ble_eq_true rfl) rfl ?_
        refine a_iconst dX8_reached_44 ?_
        refine a_istore (ls' := [(7, ai 0), (6, ai 0), (4, al (riddenF ρ s m 4 0)), (0, ar 0), (1, ai s), (2, ai m), (3, ai n)]) dX8_reached_45 (Nat.le_of_ble_eq_true rfl) rfl ?_
        have e : cReached ρ s m n = itr (rcF ρ s m n (riddenF ρ s m 4 0)) (gN ρ 155 0).toNat 0 0 := by unfold cReached; rw [if_neg (by grind)]
        rw [e]
        exact a_keep (by simp) (c_reached_l σ u68 ρ N hW hQu68 hFu68 s m n (by omega) (by omega) (by grind) (by omega) (by omega) _ (gN ρ 155 0).toNat 0 0 (by omega) (by omega) (by omega) rfl)
      · refine a_iconst dX8_reached_26 ?_
        exact a_iret rfl ⟨by unfold cReached; grind, hQ, hF⟩ dX8_reached_27

set_option maxRecDepth 20000 in
theorem c_meet_l (σ τ ρ : Sto) (N : Nat) (hW : WV ρ) (hQτ : CQ τ ρ N) (hFτ : Fg pCq σ τ) (a b m what : Int) (ha0 : 0 ≤ a) (ha1 : a < gN ρ 155 0) (hb0 : 0 ≤ b) (hb1 : b < gN ρ 155 0) (hm : mnt m) (hw0 : 0 ≤ what) (hw1 : what ≤ 1) (V : Int) : ∀ (n : Nat) (t : Int) (least : Int) (best : Int), 0 ≤ t → t ≤ gN ρ 155 0 → n = (gN ρ 155 0 - t).toNat → -1000 ≤ least → least ≤ 1000000 → -2 ≤ best → best ≤ 10 → V = meR (itr (meF_ ρ a b m) n t (best, least)) what → RunA mX8_meet (cqQ σ ρ N V) 73 [(11, ai t), (10, ai least), (9, ai best), (0, ar 0), (1, ai a), (2, ai b), (3, ai m), (4, ai what), (5, al (riddenF ρ a m 4 0)), (7, al (riddenF ρ b m 4 0))] [] τ := by
  have hNk := hQτ.n.k
  have hR := hW.R
  have hS := hW.S
  have hTr := hW.T
  have hCτ := hQτ.c
  have hNτ := hQτ.n
  have hT7τ := hQτ.t
  have hM7τ := hQτ.m
  intro n
  induction n with
  | zero =>
    intro t least best h0 h5 hn hl0 hl1 hb0 hb1 hE
    refine a_iload dX8_meet_73 rfl ?_
    refine a_aload_n dX8_meet_75 rfl rfl ?_
    refine a_getR (d := N) (J := 12) fX8_65 k0 rfl q0_12 rfl hCτ dX8_meet_76 ?_
    refine a_getI (J := 0) fX8_293 (kN hNk) rfl rfl dX8_meet_79 ?_
    refine a_topI (y := gN ρ 155 0) hNτ.n0 ?_
    refine a_icmp_ge (tgt := 137) dX8_meet_82 (by decide) (inR_of (by omega) (by omega)) (inR_gN _ _ _) (fun c82 => ?_) (fun c82 => ?_)
    · refine a_iload dX8_meet_137 rfl ?_
      refine a_if_ge (tgt := 145) dX8_meet_139 (by decide) (inR_of (by omega) (by omega)) (fun c139 => ?_) (fun c139 => ?_)
      · refine a_iload dX8_meet_145 rfl ?_
        refine a_if_ne (tgt := 155) dX8_meet_147 (by decide) (inR_of (by omega) (by omega)) (fun c147 => ?_) (fun c147 => ?_)
        · refine a_iload dX8_meet_155 rfl ?_
          exact a_iret rfl ⟨by rw [hE]; show _ = some (ai (meR (best, least) what)); unfold meR; dsimp only; grind, hQτ, hFτ⟩ dX8_meet_157
        · refine a_iload dX8_meet_150 rfl ?_
          refine a_goto (tgt := 157) dX8_meet_152 (by decide) ?_
          exact a_iret rfl ⟨by rw [hE]; show _ = some (ai (meR (best, least) what)); unfold meR; dsimp only; grind, hQτ, hFτ⟩ dX8_meet_157
      · refine a_bipush (x := (-2)) dX8_meet_142 (by decide) ?_
        exact a_iret rfl ⟨by rw [hE]; show _ = some (ai (meR (best, least) what)); unfold meR; dsimp only; grind, hQτ, hFτ⟩ dX8_meet_144
    · exfalso; omega
  | succ n ih =>
    intro t least best h0 h5 hn hl0 hl1 hb0 hb1 hE
    refine a_iload dX8_meet_73 rfl ?_
    refine a_aload_n dX8_meet_75 rfl rfl ?_
    refine a_getR (d := N) (J := 12) fX8_65 k0 rfl q0_12 rfl hCτ dX8_meet_76 ?_
    refine a_getI (J := 0) fX8_293 (kN hNk) rfl rfl dX8_meet_79 ?_
    refine a_topI (y := gN ρ 155 0) hNτ.n0 ?_
    refine a_icmp_ge (tgt := 137) dX8_meet_82 (by decide) (inR_of (by omega) (by omega)) (inR_gN _ _ _) (fun c82 => ?_) (fun c82 => ?_)
    · exfalso; omega
    · refine a_aload_n dX8_meet_85 rfl rfl ?_
      refine a_getF (d := 7) fX8_81 k0 rfl r0_3 dX8_meet_86 ?_
      refine a_lload dX8_meet_89 rfl ?_
      refine a_iload_n dX8_meet_91 rfl rfl ?_
      refine a_iload dX8_meet_92 rfl ?_
      refine a_iload_n dX8_meet_94 rfl rfl ?_
      refine a_cI (c := 7) (as := [al (riddenF ρ a m 4 0), ai a, ai t, ai m]) (rest := []) (c_soonestOf τ ρ N 7 hW hNτ hT7τ (riddenF ρ a m 4 0) a t m (by omega) (by omega) (by omega) (by omega) (by omega) (by omega)) mvX6_soonestOf lX8_335 k7 (by decide) rfl rfl rfl rfl (Nat.le_of_ble_eq_true rfl) (Nat.le_of_ble_eq_true rfl) (Nat.le_of_ble_eq_true rfl) dX8_meet_95 ?_
      have hsf69 := soon_rng hW (set := (riddenF ρ a m 4 0)) (s := a) (t := t) (m := m) (by omega) (by omega) (by omega) (by omega) (by omega)
      refine a_aload_n dX8_meet_98 rfl rfl ?_
      refine a_getF (d := 7) fX8_81 k0 rfl r0_3 dX8_meet_99 ?_
      refine a_lload dX8_meet_102 rfl ?_
      refine a_iload_n dX8_meet_104 rfl rfl ?_
      refine a_iload dX8_meet_105 rfl ?_
      refine a_iload_n dX8_meet_107 rfl rfl ?_
      refine a_cI (c := 7) (as := [al (riddenF ρ b m 4 0), ai b, ai t, ai m]) (rest := [ai (soonF ρ (riddenF ρ a m 4 0) a t m)]) (c_soonestOf τ ρ N 7 hW hNτ hT7τ (riddenF ρ b m 4 0) b t m (by omega) (by omega) (by omega) (by omega) (by omega) (by omega)) mvX6_soonestOf lX8_335 k7 (by decide) rfl rfl rfl rfl (Nat.le_of_ble_eq_true rfl) (Nat.le_of_ble_eq_true rfl) (Nat.le_of_ble_eq_true rfl) dX8_meet_108 ?_
      have hsf70 := soon_rng hW (set := (riddenF ρ b m 4 0)) (s := b) (t := t) (m := m) (by omega) (by omega) (by omega) (by omega) (by omega)
      refine a_mmax lm8_283 (inR_of (by omega) (by omega)) (inR_of (by omega) (by omega)) (Nat.le_of_ble_eq_true rfl) (Nat.le_of_ble_eq_true rfl) (Nat.le_of_ble_eq_true rfl) dX8_meet_111 ?_
      refine a_topI (y := mxI (soonF ρ (riddenF ρ a m 4 0) a t m) (soonF ρ (riddenF ρ b m 4 0) b t m)) rfl ?_
      have hmx : -1000 ≤ mxI (soonF ρ (riddenF ρ a m 4 0) a t m) (soonF ρ (riddenF ρ b m 4 0) b t m) ∧ mxI (soonF ρ (riddenF ρ a m 4 0) a t m) (soonF ρ (riddenF ρ b m 4 0) b t m) ≤ 1000000 := by unfold mxI; split <;> omega
      refine a_istore (ls' := [(12, ai (mxI (soonF ρ (riddenF ρ a m 4 0) a t m) (soonF ρ (riddenF ρ b m 4 0) b t m))), (11, ai t), (10, ai least), (9, ai best), (0, ar 0), (1, ai a), (2, ai b), (3, ai m), (4, ai what), (5, al (riddenF ρ a m 4 0)), (7, al (riddenF ρ b m 4 0))]) dX8_meet_114 (Nat.le_of_ble_eq_true rfl) rfl ?_
      refine a_iload dX8_meet_116 rfl ?_
      refine a_iload dX8_meet_118 rfl ?_
      refine a_icmp_ge (tgt := 131) dX8_meet_120 (by decide) (inR_of (by omega) (by omega)) (inR_of (by omega) (by omega)) (fun c120 => ?_) (fun c120 => ?_)
      · refine a_iinc (y := t + 1) (ls' := [(11, ai (t + 1)), (12, ai (mxI (soonF ρ (riddenF ρ a m 4 0) a t m) (soonF ρ (riddenF ρ b m 4 0) b t m))), (10, ai least), (9, ai best), (0, ar 0), (1, ai a), (2, ai b), (3, ai m), (4, ai what), (5, al (riddenF ρ a m 4 0)), (7, al (riddenF ρ b m 4 0))]) dX8_meet_131 rfl rfl (Nat.le_of_ble_eq_true rfl) rfl ?_
        refine a_goto (tgt := 73) dX8_meet_134 (by decide) ?_
        have e : meF_ ρ a b m t (best, least) = (best, least) := by unfold meF_; dsimp only; rw [if_neg (by omega)]
        exact a_keep (by simp) (ih (t + 1) (least) (best) (by omega) (by omega) (by omega) (by omega) (by omega) (by omega) (by omega) (by rw [hE, itr_s, e]))
      · refine a_iload dX8_meet_123 rfl ?_
        refine a_istore (ls' := [(9, ai t), (12, ai (mxI (soonF ρ (riddenF ρ a m 4 0) a t m) (soonF ρ (riddenF ρ b m 4 0) b t m))), (11, ai t), (10, ai least), (0, ar 0), (1, ai a), (2, ai b), (3, ai m), (4, ai what), (5, al (riddenF ρ a m 4 0)), (7, al (riddenF ρ b m 4 0))]) dX8_meet_125 (Nat.le_of_ble_eq_true rfl) rfl ?_
        refine a_iload dX8_meet_127 rfl ?_
        refine a_istore (ls' := [(10, ai (mxI (soonF ρ (riddenF ρ a m 4 0) a t m) (soonF ρ (riddenF ρ b m 4 0) b t m))), (9, ai t), (12, ai (mxI (soonF ρ (riddenF ρ a m 4 0) a t m) (soonF ρ (riddenF ρ b m 4 0) b t m))), (11, ai t), (0, ar 0), (1, ai a), (2, ai b), (3, ai m), (4, ai what), (5, al (riddenF ρ a m 4 0)), (7, al (riddenF ρ b m 4 0))]) dX8_meet_129 (Nat.le_of_ble_eq_true rfl) rfl ?_
        refine a_iinc (y := t + 1) (ls' := [(11, ai (t + 1)), (10, ai (mxI (soonF ρ (riddenF ρ a m 4 0) a t m) (soonF ρ (riddenF ρ b m 4 0) b t m))), (9, ai t), (12, ai (mxI (soonF ρ (riddenF ρ a m 4 0) a t m) (soonF ρ (riddenF ρ b m 4 0) b t m))), (0, ar 0), (1, ai a), (2, ai b), (3, ai m), (4, ai what), (5, al (riddenF ρ a m 4 0)), (7, al (riddenF ρ b m 4 0))]) dX8_meet_131 rfl rfl (Nat.le_of_ble_eq_true rfl) rfl ?_
        refine a_goto (tgt := 73) dX8_meet_134 (by decide) ?_
        have e : meF_ ρ a b m t (best, least) = (t, mxI (soonF ρ (riddenF ρ a m 4 0) a t m) (soonF ρ (riddenF ρ b m 4 0) b t m)) := by unfold meF_; dsimp only; rw [if_pos (by omega)]
        exact a_keep (by simp) (ih (t + 1) (mxI (soonF ρ (riddenF ρ a m 4 0) a t m) (soonF ρ (riddenF ρ b m 4 0) b t m)) (t) (by omega) (by omega) (by omega) (by omega) (by omega) (by omega) (by omega) (by rw [hE, itr_s, e]))

set_option maxRecDepth 20000 in
theorem c_meet (σ ρ : Sto) (N : Nat) (hW : WV ρ) (hQ : CQ σ ρ N) (a b m what : Int) (ha : inR a) (hb : inR b) (hm : inR m) (hwhat : inR what) : MetA mX8_meet [ar 0, ai a, ai b, ai m, ai what] σ (cqQ σ ρ N (cMeet ρ a b m what)) := by
  have hC := hQ.c
  have hN := hQ.n
  have hT7 := hQ.t
  have hM7 := hQ.m
  have hF : Fg pCq σ σ := Fg.rfl
  have hNk := hN.k
  have hR := hW.R
  have hS := hW.S
  have hTr := hW.T
  refine a_entry (by decide) (Nat.le_of_ble_eq_true rfl) ?_
  refine a_ls (ls' := [(0, ar 0), (1, ai a), (2, ai b), (3, ai m), (4, ai what)]) rfl ?_
  refine a_aload_n dX8_meet_0 rfl rfl ?_
  refine a_iload_n dX8_meet_1 rfl rfl ?_
  refine a_cI (c := 0) (as := [ai a]) (rest := []) (c_isStop σ ρ N hW hC hN a ha) mvX8_isStop lX8_161 k0 (by decide) rfl rfl rfl rfl (Nat.le_of_ble_eq_true rfl) (Nat.le_of_ble_eq_true rfl) (Nat.le_of_ble_eq_true rfl) dX8_meet_2 ?_
  refine a_ifb_eq (tgt := 33) dX8_meet_5 (by decide) (fun c5 => ?_) (fun c5 => ?_)
  · refine a_iconst dX8_meet_33 ?_
    exact a_iret rfl ⟨by unfold cMeet; grind, hQ, hF⟩ dX8_meet_34
  · refine a_aload_n dX8_meet_8 rfl rfl ?_
    refine a_iload_n dX8_meet_9 rfl rfl ?_
    refine a_cI (c := 0) (as := [ai b]) (rest := []) (c_isStop σ ρ N hW hC hN b hb) mvX8_isStop lX8_161 k0 (by decide) rfl rfl rfl rfl (Nat.le_of_ble_eq_true rfl) (Nat.le_of_ble_eq_true rfl) (Nat.le_of_ble_eq_true rfl) dX8_meet_10 ?_
    refine a_ifb_eq (tgt := 33) dX8_meet_13 (by decide) (fun c13 => ?_) (fun c13 => ?_)
    · refine a_iconst dX8_meet_33 ?_
      exact a_iret rfl ⟨by unfold cMeet; grind, hQ, hF⟩ dX8_meet_34
    · refine a_iload_n dX8_meet_16 rfl rfl ?_
      refine a_sI (as := [ai m]) (rest := []) (c_isMinute σ m hm) mvX8_isMinute lX8_307 rfl rfl rfl (Nat.le_of_ble_eq_true rfl) (Nat.le_of_ble_eq_true rfl) (Nat.le_of_ble_eq_true rfl) dX8_meet_17 ?_
      refine a_ifb_eq (tgt := 33) dX8_meet_20 (by decide) (fun c20 => ?_) (fun c20 => ?_)
      · refine a_iconst dX8_meet_33 ?_
        exact a_iret rfl ⟨by unfold cMeet; grind, hQ, hF⟩ dX8_meet_34
      · refine a_iload dX8_meet_23 rfl ?_
        refine a_iconst dX8_meet_25 ?_
        refine a_iconst dX8_meet_26 ?_
        refine a_sI (as := [ai what, ai 0, ai 1]) (rest := []) (c_within σ what 0 1 hwhat (inR_of (by omega) (by omega)) (inR_of (by omega) (by omega))) mvX8_within lX8_179 rfl rfl rfl (Nat.le_of_ble_eq_true rfl) (Nat.le_of_ble_eq_true rfl) (Nat.le_of_ble_eq_true rfl) dX8_meet_27 ?_
        refine a_ifb_ne (tgt := 35) dX8_meet_30 (by decide) (fun c30 => ?_) (fun c30 => ?_)
        · refine a_aload_n dX8_meet_35 rfl rfl ?_
          refine a_getF (d := 7) fX8_81 k0 rfl r0_3 dX8_meet_36 ?_
          refine a_iload_n dX8_meet_39 rfl rfl ?_
          refine a_iload_n dX8_meet_40 rfl rfl ?_
          refine a_iconst dX8_meet_41 ?_
          refine a_lconst (v := 0) dX8_meet_42 rfl ?_
          refine a_callL (c := 7) (as := [ai a, ai m, ai 4, al 0]) (rest := []) (c_ridden σ ρ N 7 hW hN hT7 hM7 a m 4 0 (by omega) (by omega) (by omega) (by omega) (by omega) (by omega)) mvX6_ridden lX8_331 k7 (by decide) rfl rfl rfl rfl (Nat.le_of_ble_eq_true rfl) (Nat.le_of_ble_eq_true rfl) (Nat.le_of_ble_eq_true rfl) dX8_meet_43 (fun x u71 hu => ?_)
          obtain ⟨hx, hPu71⟩ := hu
          cases hx
          have hQu71 : CQ u71 ρ N := hQ.ln hS.2 hR.2 hPu71
          have hCu71 := hQu71.c
          have hNu71 := hQu71.n
          have hT7u71 := hQu71.t
          have hM7u71 := hQu71.m
          have hFu71 : Fg pCq σ u71 := hF.trans (hPu71.1.mono (fun c j z => by unfold pLn at z; unfold pCq; omega))
          refine a_lstore (ls' := [(5, al (riddenF ρ a m 4 0)), (0, ar 0), (1, ai a), (2, ai b), (3, ai m), (4, ai what)]) dX8_meet_46 (Nat.le_of_ble_eq_true rfl) rfl ?_
          refine a_aload_n dX8_meet_48 rfl rfl ?_
          refine a_getF (d := 7) fX8_81 k0 rfl r0_3 dX8_meet_49 ?_
          refine a_iload_n dX8_meet_52 rfl rfl ?_
          refine a_iload_n dX8_meet_53 rfl rfl ?_
          refine a_iconst dX8_meet_54 ?_
          refine a_lconst (v := 0) dX8_meet_55 rfl ?_
          refine a_callL (c := 7) (as := [ai b, ai m, ai 4, al 0]) (rest := []) (c_ridden u71 ρ N 7 hW hNu71 hT7u71 hM7u71 b m 4 0 (by omega) (by omega) (by omega) (by omega) (by omega) (by omega)) mvX6_ridden lX8_331 k7 (by decide) rfl rfl rfl rfl (Nat.le_of_ble_eq_true rfl) (Nat.le_of_ble_eq_true rfl) (Nat.le_of_ble_eq_true rfl) dX8_meet_56 (fun x u72 hu => ?_)
          obtain ⟨hx, hPu72⟩ := hu
          cases hx
          have hQu72 : CQ u72 ρ N := hQu71.ln hS.2 hR.2 hPu72
          have hCu72 := hQu72.c
          have hNu72 := hQu72.n
          have hT7u72 := hQu72.t
          have hM7u72 := hQu72.m
          have hFu72 : Fg pCq σ u72 := hFu71.trans (hPu72.1.mono (fun c j z => by unfold pLn at z; unfold pCq; omega))
          refine a_lstore (ls' := [(7, al (riddenF ρ b m 4 0)), (5, al (riddenF ρ a m 4 0)), (0, ar 0), (1, ai a), (2, ai b), (3, ai m), (4, ai what)]) dX8_meet_59 (Nat.le_of_ble_eq_true rfl) rfl ?_
          refine a_bipush (x := (-2)) dX8_meet_61 (by decide) ?_
          refine a_istore (ls' := [(9, ai (-2)), (7, al (riddenF ρ b m 4 0)), (5, al (riddenF ρ a m 4 0)), (0, ar 0), (1, ai a), (2, ai b), (3, ai m), (4, ai what)]) dX8_meet_63 (Nat.le_of_ble_eq_true rfl) rfl ?_
          refine a_ldc_w (x := 1000000) cX8_286 (by decide) dX8_meet_65 ?_
          refine a_istore (ls' := [(10, ai 1000000), (9, ai (-2)), (7, al (riddenF ρ b m 4 0)), (5, al (riddenF ρ a m 4 0)), (0, ar 0), (1, ai a), (2, ai b), (3, ai m), (4, ai what)]) dX8_meet_68 (Nat.le_of_ble_eq_true rfl) rfl ?_
          refine a_iconst dX8_meet_70 ?_
          refine a_istore (ls' := [(11, ai 0), (10, ai 1000000), (9, ai (-2)), (7, al (riddenF ρ b m 4 0)), (5, al (riddenF ρ a m 4 0)), (0, ar 0), (1, ai a), (2, ai b), (3, ai m), (4, ai what)]) dX8_meet_71 (Nat.le_of_ble_eq_true rfl) rfl ?_
          have e : cMeet ρ a b m what = meR (itr (meF_ ρ a b m) (gN ρ 155 0).toNat 0 (-2, 1000000)) what := by unfold cMeet; rw [if_neg (by grind)]
          rw [e]
          exact a_keep (by simp) (c_meet_l σ u72 ρ N hW hQu72 hFu72 a b m what (by omega) (by omega) (by omega) (by omega) (by grind) (by omega) (by omega) _ (gN ρ 155 0).toNat 0 1000000 (-2) (by omega) (by omega) (by omega) (by omega) (by omega) (by omega) (by omega) rfl)
        · refine a_iconst dX8_meet_33 ?_
          exact a_iret rfl ⟨by unfold cMeet; grind, hQ, hF⟩ dX8_meet_34

