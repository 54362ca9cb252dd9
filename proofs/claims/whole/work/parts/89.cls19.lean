/-! The class's queries by profiles. -/
theorem pr_dep {ls lt lr : Int → Int} {mi wk : Int} {p : Rw → Prop} (hp : ∀ a b c, p (mi, a, b, c)) : ∀ (n : Nat) (c bf : Int) (L : List Rw), (∀ x ∈ L, p x) → ∀ x ∈ (itr (prF ls lt lr mi wk) n c (bf, L)).2, p x
  | 0, _, _, _, h => h
  | n + 1, c, bf, L, h => by
    rw [itr_s]
    refine pr_dep hp n (c + 1) _ _ ?_
    show ∀ x ∈ (if ls c < bf ∧ ls c < lt c ∧ ls c - mi < wk then (mi, ls c, c, lr c) :: L else L), p x
    split
    · intro x hx
      rcases List.mem_cons.mp hx with y | y
      · rw [y]; exact hp _ _ _
      · exact h x y
    · exact h
theorem mk_dep {ρ : Sto} {s t most wk : Int} {K : List Int} (hK : ∀ x ∈ K, 0 ≤ dpF ρ s x ∧ dpF ρ s x ≤ 4000) : ∀ (n : Nat) (q : Mks), n ≤ K.length → (∀ x ∈ q.2.2.2, 0 ≤ x.1 ∧ x.1 ≤ 4000) → ∀ x ∈ (mkT ρ s t most wk K n q).2.2.2, 0 ≤ x.1 ∧ x.1 ≤ 4000
  | 0, _, _, h => h
  | n + 1, q, hn, h => by
    have hk := hK (K.getD n 0) (by rw [List.getD_eq_getElem?_getD, List.getElem?_eq_getElem (by omega)]; exact List.getElem_mem _)
    unfold mkT
    refine mk_dep hK n _ (by omega) ?_
    unfold mkS
    split
    · unfold puS
      exact pr_dep (p := fun x => 0 ≤ x.1 ∧ x.1 ≤ 4000) (fun _ _ _ => hk) _ 0 1000000 _ h
    · exact h
theorem row_rng {ρ : Sto} (hW : WV ρ) {s t most i : Int} (hs0 : 0 ≤ s) (hs1 : s < gN ρ 155 0) (ht0 : 0 ≤ t) (ht1 : t < gN ρ 155 0) (hm : 0 ≤ most) (h0 : 0 ≤ i) (h1 : i < (mkF ρ s t most).length) : (0 ≤ (row (mkF ρ s t most) i).1 ∧ (row (mkF ρ s t most) i).1 ≤ 4000) ∧ (-1000 ≤ (row (mkF ρ s t most) i).2.1 ∧ (row (mkF ρ s t most) i).2.1 ≤ 1000000) ∧ (0 ≤ (row (mkF ρ s t most) i).2.2.1 ∧ (row (mkF ρ s t most) i).2.2.1 ≤ most) ∧ (0 ≤ (row (mkF ρ s t most) i).2.2.2 ∧ (row (mkF ρ s t most) i).2.2.2 < gN ρ 155 3) := by
  have hm1 := row_mem h0 h1
  have hok := ord_ok hW.R.1 s
  have a := mkF_ok hW (s := s) (t := t) hm _ hm1
  have b := mk_dep (ρ := ρ) (s := s) (t := t) (most := most) (wk := gN ρ 155 (15 + 10 * s + t)) (K := ordL ρ s) (fun x hx => ⟨(hok.1 x hx).2.1, (dp_rng hW hs0 hs1 (hok.1 x hx).1.1 (hok.1 x hx).1.2).2⟩) (ordL ρ s).length mk0 (Nat.le_refl _) (by simp [mk0]) _ hm1
  have c := AR_rng hW ht0 ht1 (row (mkF ρ s t most) i).2.2.1 a.2.1.1 a.2.1.2
  rw [a.2.2.1] at c
  exact ⟨b, c, a.1, a.2.1⟩
theorem row_rng4 {ρ : Sto} (hW : WV ρ) {s t i : Int} (hs0 : 0 ≤ s) (hs1 : s < gN ρ 155 0) (ht0 : 0 ≤ t) (ht1 : t < gN ρ 155 0) (h0 : 0 ≤ i) (h1 : i < (MK ρ s t).length) : (0 ≤ (row (MK ρ s t) i).1 ∧ (row (MK ρ s t) i).1 ≤ 4000) ∧ (-1000 ≤ (row (MK ρ s t) i).2.1 ∧ (row (MK ρ s t) i).2.1 ≤ 1000000) ∧ (0 ≤ (row (MK ρ s t) i).2.2.1 ∧ (row (MK ρ s t) i).2.2.1 ≤ 4) ∧ (0 ≤ (row (MK ρ s t) i).2.2.2 ∧ (row (MK ρ s t) i).2.2.2 < gN ρ 155 3) := row_rng hW hs0 hs1 ht0 ht1 (by omega) h0 h1
def cProfileBy (ρ : Sto) (s t k : Int) : Int := if ¬ two ρ s t ∨ k < 0 ∨ 4 < k then -1 else (mkF ρ s t k).length
def rwW (x : Rw) (what : Int) : Int := if what = 0 then x.1 else if what = 1 then x.2.1 else x.2.2.1
def cAtBy (ρ : Sto) (s t k i what : Int) : Int := if ¬ two ρ s t ∨ k < 0 ∨ 4 < k ∨ i < 0 ∨ what < 0 ∨ 2 < what then -1 else if (mkF ρ s t k).length ≤ i then -2 else rwW (row (mkF ρ s t k) i) what
def cLeg (ρ : Sto) (s t i l what : Int) : Int := if ¬ two ρ s t ∨ i < 0 ∨ l < 0 ∨ what < 0 ∨ 1 < what then -1 else if (MK ρ s t).length ≤ i ∨ (UL ρ s t i).length ≤ l then -2 else if what = 0 then (lg (UL ρ s t i) l).1 else (lg (UL ρ s t i) l).2
def cWaits (ρ : Sto) (s t i what : Int) : Int := if ¬ two ρ s t ∨ i < 0 ∨ what < 0 ∨ 1 < what then -1 else if (MK ρ s t).length ≤ i then -2 else if what = 1 then (if ((UL ρ s t i).length : Int) < 2 then -2 else skT ρ (UL ρ s t i)) else (row (MK ρ s t) i).2.1 - (row (MK ρ s t) i).1 - onT ρ (UL ρ s t i) - wkT ρ (UL ρ s t i) s t
def cTravels (ρ : Sto) (s t i what : Int) : Int := if ¬ two ρ s t ∨ i < 0 ∨ what < 0 ∨ 2 < what then -1 else if (MK ρ s t).length ≤ i then -2 else if what = 0 then onT ρ (UL ρ s t i) else if what = 1 then wkT ρ (UL ρ s t i) s t else rdT (UL ρ s t i)
def gpC (ρ : Sto) (s t i g : Int) : Int := mxI g ((row (MK ρ s t) i).1 - (row (MK ρ s t) (i - 1)).1)
def cGap (ρ : Sto) (s t : Int) : Int := if ¬ two ρ s t then -1 else if itr (gpC ρ s t) ((MK ρ s t).length - 1) 1 0 = 0 then -2 else itr (gpC ρ s t) ((MK ρ s t).length - 1) 1 0
def qkC (ρ : Sto) (s t i : Int) (q : Int × Int) : Int × Int := if (row (MK ρ s t) i).2.1 - (row (MK ρ s t) i).1 < q.2 then (i, (row (MK ρ s t) i).2.1 - (row (MK ρ s t) i).1) else q
def cQuickest (ρ : Sto) (s t what : Int) : Int := if ¬ two ρ s t ∨ what < 0 ∨ 1 < what then -1 else meR (itr (qkC ρ s t) (MK ρ s t).length 0 (-2, 1000000)) what
/-- the profile of s and t is made, and one of it unfolded -/
def UfP (σ u ρ : Sto) (N : Nat) (s t i : Int) : Prop := Fg pCq σ u ∧ CQ u ρ N ∧ (gN u 73 0 = (MK ρ s t).length ∧ gN u 73 1 = t ∧ RwR u (MK ρ s t)) ∧ ((MK ρ s t).length : Int) ≤ 300 ∧ (0 ≤ i ∧ i < (MK ρ s t).length → LgR u 83 (UL ρ s t i))

set_option maxRecDepth 20000 in
theorem c_profileBy (σ ρ : Sto) (N : Nat) (hW : WV ρ) (hQ : CQ σ ρ N) (s t k : Int) (hs : inR s) (ht : inR t) (hk : inR k) : MetA mX8_profileBy [ar 0, ai s, ai t, ai k] σ (cqQ σ ρ N (cProfileBy ρ s t k)) := by
  have hC := hQ.c
  have hN := hQ.n
  have hT7 := hQ.t
  have hM7 := hQ.m
  have hF : Fg pCq σ σ := Fg.rfl
  have hNk := hN.k
  have hR := hW.R
  have hS := hW.S
  have hTr := hW.T
  refine a_entry (by decide) (Nat.le_of_ble_eq_true rfl) ?_
  refine a_ls (ls' := [(0, ar 0), (1, ai s), (2, ai t), (3, ai k)]) rfl ?_
  refine a_aload_n dX8_profileBy_0 rfl rfl ?_
  refine a_iload_n dX8_profileBy_1 rfl rfl ?_
  refine a_iload_n dX8_profileBy_2 rfl rfl ?_
  refine a_cI (c := 0) (as := [ai s, ai t]) (rest := []) (c_arePair σ ρ N hW hC hN s t hs ht) mvX8_arePair lX8_238 k0 (by decide) rfl rfl rfl rfl (Nat.le_of_ble_eq_true rfl) (Nat.le_of_ble_eq_true rfl) (Nat.le_of_ble_eq_true rfl) dX8_profileBy_3 ?_
  refine a_ifb_eq (tgt := 18) dX8_profileBy_6 (by decide) (fun c6 => ?_) (fun c6 => ?_)
  · refine a_iconst dX8_profileBy_18 ?_
    exact a_iret rfl ⟨by unfold cProfileBy; grind, hQ, hF⟩ dX8_profileBy_19
  · refine a_iload_n dX8_profileBy_9 rfl rfl ?_
    refine a_iconst dX8_profileBy_10 ?_
    refine a_iconst dX8_profileBy_11 ?_
    refine a_sI (as := [ai k, ai 0, ai 4]) (rest := []) (c_within σ k 0 4 hk (inR_of (by omega) (by omega)) (inR_of (by omega) (by omega))) mvX8_within lX8_179 rfl rfl rfl (Nat.le_of_ble_eq_true rfl) (Nat.le_of_ble_eq_true rfl) (Nat.le_of_ble_eq_true rfl) dX8_profileBy_12 ?_
    refine a_ifb_ne (tgt := 20) dX8_profileBy_15 (by decide) (fun c15 => ?_) (fun c15 => ?_)
    · refine a_aload_n dX8_profileBy_20 rfl rfl ?_
      refine a_getF (d := 73) fX8_37 k0 rfl r0_7 dX8_profileBy_21 ?_
      refine a_aload_n dX8_profileBy_24 rfl rfl ?_
      refine a_getF (d := 7) fX8_81 k0 rfl r0_3 dX8_profileBy_25 ?_
      refine a_aload_n dX8_profileBy_28 rfl rfl ?_
      refine a_getF (d := 38) fX8_30 k0 rfl r0_6 dX8_profileBy_29 ?_
      refine a_iload_n dX8_profileBy_32 rfl rfl ?_
      refine a_iload_n dX8_profileBy_33 rfl rfl ?_
      refine a_iload_n dX8_profileBy_34 rfl rfl ?_
      refine a_callV (c := 73) (as := [ar 7, ar 38, ai s, ai t, ai k]) (rest := []) (c_make σ ρ N hW hQ s t k (by omega) (by omega) (by omega) (by omega) (by omega) (by omega)) mvX4_make lX8_241 k73 (by decide) rfl rfl rfl rfl (Nat.le_of_ble_eq_true rfl) (Nat.le_of_ble_eq_true rfl) (Nat.le_of_ble_eq_true rfl) dX8_profileBy_35 (fun u73 hu => ?_)
      obtain ⟨-, hKu73⟩ := hu
      have hQu73 : CQ u73 ρ N := hKu73.2.1
      have hCu73 := hQu73.c
      have hNu73 := hQu73.n
      have hT7u73 := hQu73.t
      have hM7u73 := hQu73.m
      have hFu73 : Fg pCq σ u73 := hF.trans (hKu73.1.mono (fun c j z => pMk_Q z))
      have hZu73 := hKu73.2.2.1
      have hLnu73 : ((mkF ρ s t k).length : Int) ≤ 300 := hKu73.2.2.2.1
      refine a_aload_n dX8_profileBy_38 rfl rfl ?_
      refine a_getF (d := 73) fX8_37 k0 rfl r0_7 dX8_profileBy_39 ?_
      refine a_getI (J := 0) fX8_245 k73 rfl rfl dX8_profileBy_42 ?_
      refine a_topI (y := ((mkF ρ s t k).length : Int)) hZu73.1 ?_
      exact a_iret rfl ⟨by unfold cProfileBy; grind, hQu73, hFu73⟩ dX8_profileBy_45
    · refine a_iconst dX8_profileBy_18 ?_
      exact a_iret rfl ⟨by unfold cProfileBy; grind, hQ, hF⟩ dX8_profileBy_19

set_option maxRecDepth 20000 in
theorem c_atBy (σ ρ : Sto) (N : Nat) (hW : WV ρ) (hQ : CQ σ ρ N) (s t k i what : Int) (hs : inR s) (ht : inR t) (hk : inR k) (hi : inR i) (hwhat : inR what) : MetA mX8_atBy [ar 0, ai s, ai t, ai k, ai i, ai what] σ (cqQ σ ρ N (cAtBy ρ s t k i what)) := by
  have hC := hQ.c
  have hN := hQ.n
  have hT7 := hQ.t
  have hM7 := hQ.m
  have hF : Fg pCq σ σ := Fg.rfl
  have hNk := hN.k
  have hR := hW.R
  have hS := hW.S
  have hTr := hW.T
  refine a_entry (by decide) (Nat.le_of_ble_eq_true rfl) ?_
  refine a_ls (ls' := [(0, ar 0), (1, ai s), (2, ai t), (3, ai k), (4, ai i), (5, ai what)]) rfl ?_
  refine a_aload_n dX8_atBy_0 rfl rfl ?_
  refine a_iload_n dX8_atBy_1 rfl rfl ?_
  refine a_iload_n dX8_atBy_2 rfl rfl ?_
  refine a_cI (c := 0) (as := [ai s, ai t]) (rest := []) (c_arePair σ ρ N hW hC hN s t hs ht) mvX8_arePair lX8_238 k0 (by decide) rfl rfl rfl rfl (Nat.le_of_ble_eq_true rfl) (Nat.le_of_ble_eq_true rfl) (Nat.le_of_ble_eq_true rfl) dX8_atBy_3 ?_
  refine a_ifb_eq (tgt := 33) dX8_atBy_6 (by decide) (fun c6 => ?_) (fun c6 => ?_)
  · refine a_iconst dX8_atBy_33 ?_
    exact a_iret rfl ⟨by unfold cAtBy rwW; grind, hQ, hF⟩ dX8_atBy_34
  · refine a_iload_n dX8_atBy_9 rfl rfl ?_
    refine a_iconst dX8_atBy_10 ?_
    refine a_iconst dX8_atBy_11 ?_
    refine a_sI (as := [ai k, ai 0, ai 4]) (rest := []) (c_within σ k 0 4 hk (inR_of (by omega) (by omega)) (inR_of (by omega) (by omega))) mvX8_within lX8_179 rfl rfl rfl (Nat.le_of_ble_eq_true rfl) (Nat.le_of_ble_eq_true rfl) (Nat.le_of_ble_eq_true rfl) dX8_atBy_12 ?_
    refine a_ifb_eq (tgt := 33) dX8_atBy_15 (by decide) (fun c15 => ?_) (fun c15 => ?_)
    · refine a_iconst dX8_atBy_33 ?_
      exact a_iret rfl ⟨by unfold cAtBy rwW; grind, hQ, hF⟩ dX8_atBy_34
    · refine a_iload dX8_atBy_18 rfl ?_
      refine a_if_lt (tgt := 33) dX8_atBy_20 (by decide) hi (fun c20 => ?_) (fun c20 => ?_)
      · refine a_iconst dX8_atBy_33 ?_
        exact a_iret rfl ⟨by unfold cAtBy rwW; grind, hQ, hF⟩ dX8_atBy_34
      · refine a_iload dX8_atBy_23 rfl ?_
        refine a_iconst dX8_atBy_25 ?_
        refine a_iconst dX8_atBy_26 ?_
        refine a_sI (as := [ai what, ai 0, ai 2]) (rest := []) (c_within σ what 0 2 hwhat (inR_of (by omega) (by omega)) (inR_of (by omega) (by omega))) mvX8_within lX8_179 rfl rfl rfl (Nat.le_of_ble_eq_true rfl) (Nat.le_of_ble_eq_true rfl) (Nat.le_of_ble_eq_true rfl) dX8_atBy_27 ?_
        refine a_ifb_ne (tgt := 35) dX8_atBy_30 (by decide) (fun c30 => ?_) (fun c30 => ?_)
        · refine a_aload_n dX8_atBy_35 rfl rfl ?_
          refine a_getF (d := 73) fX8_37 k0 rfl r0_7 dX8_atBy_36 ?_
          refine a_aload_n dX8_atBy_39 rfl rfl ?_
          refine a_getF (d := 7) fX8_81 k0 rfl r0_3 dX8_atBy_40 ?_
          refine a_aload_n dX8_atBy_43 rfl rfl ?_
          refine a_getF (d := 38) fX8_30 k0 rfl r0_6 dX8_atBy_44 ?_
          refine a_iload_n dX8_atBy_47 rfl rfl ?_
          refine a_iload_n dX8_atBy_48 rfl rfl ?_
          refine a_iload_n dX8_atBy_49 rfl rfl ?_
          refine a_callV (c := 73) (as := [ar 7, ar 38, ai s, ai t, ai k]) (rest := []) (c_make σ ρ N hW hQ s t k (by omega) (by omega) (by omega) (by omega) (by omega) (by omega)) mvX4_make lX8_241 k73 (by decide) rfl rfl rfl rfl (Nat.le_of_ble_eq_true rfl) (Nat.le_of_ble_eq_true rfl) (Nat.le_of_ble_eq_true rfl) dX8_atBy_50 (fun u74 hu => ?_)
          obtain ⟨-, hKu74⟩ := hu
          have hQu74 : CQ u74 ρ N := hKu74.2.1
          have hCu74 := hQu74.c
          have hNu74 := hQu74.n
          have hT7u74 := hQu74.t
          have hM7u74 := hQu74.m
          have hFu74 : Fg pCq σ u74 := hF.trans (hKu74.1.mono (fun c j z => pMk_Q z))
          have hZu74 := hKu74.2.2.1
          have hLnu74 : ((mkF ρ s t k).length : Int) ≤ 300 := hKu74.2.2.2.1
          refine a_iload dX8_atBy_53 rfl ?_
          refine a_aload_n dX8_atBy_55 rfl rfl ?_
          refine a_getF (d := 73) fX8_37 k0 rfl r0_7 dX8_atBy_56 ?_
          refine a_getI (J := 0) fX8_245 k73 rfl rfl dX8_atBy_59 ?_
          refine a_topI (y := ((mkF ρ s t k).length : Int)) hZu74.1 ?_
          refine a_icmp_lt (tgt := 68) dX8_atBy_62 (by decide) hi (inR_of (by omega) (by omega)) (fun c62 => ?_) (fun c62 => ?_)
          · refine a_iload dX8_atBy_68 rfl ?_
            refine a_if_ne (tgt := 83) dX8_atBy_70 (by decide) hwhat (fun c70 => ?_) (fun c70 => ?_)
            · refine a_iload dX8_atBy_83 rfl ?_
              refine a_iconst dX8_atBy_85 ?_
              refine a_icmp_ne (tgt := 101) dX8_atBy_86 (by decide) hwhat (inR_of (by omega) (by omega)) (fun c86 => ?_) (fun c86 => ?_)
              · refine a_aload_n dX8_atBy_101 rfl rfl ?_
                refine a_getF (d := 73) fX8_37 k0 rfl r0_7 dX8_atBy_102 ?_
                refine a_iload dX8_atBy_105 rfl ?_
                refine a_cI (c := 73) (as := [ai i]) (rest := []) (c_changesOf u74 (mkF ρ s t k) hZu74.2.2 hLnu74 i (by omega) (by omega)) mvX4_changesOf lX8_252 k73 (by decide) rfl rfl rfl rfl (Nat.le_of_ble_eq_true rfl) (Nat.le_of_ble_eq_true rfl) (Nat.le_of_ble_eq_true rfl) dX8_atBy_107 ?_
                have hrw75 := row_rng hW (s := s) (t := t) (most := k) (i := i) (by omega) (by omega) (by omega) (by omega) (by omega) (by omega) (by omega)
                refine a_topI (y := (row (mkF ρ s t k) i).2.2.1) rfl ?_
                exact a_iret rfl ⟨by unfold cAtBy rwW; grind, hQu74, hFu74⟩ dX8_atBy_110
              · refine a_aload_n dX8_atBy_89 rfl rfl ?_
                refine a_getF (d := 73) fX8_37 k0 rfl r0_7 dX8_atBy_90 ?_
                refine a_iload dX8_atBy_93 rfl ?_
                refine a_cI (c := 73) (as := [ai i]) (rest := []) (c_arrival u74 (mkF ρ s t k) hZu74.2.2 hLnu74 i (by omega) (by omega)) mvX4_arrival lX8_249 k73 (by decide) rfl rfl rfl rfl (Nat.le_of_ble_eq_true rfl) (Nat.le_of_ble_eq_true rfl) (Nat.le_of_ble_eq_true rfl) dX8_atBy_95 ?_
                have hrw76 := row_rng hW (s := s) (t := t) (most := k) (i := i) (by omega) (by omega) (by omega) (by omega) (by omega) (by omega) (by omega)
                refine a_topI (y := (row (mkF ρ s t k) i).2.1) rfl ?_
                refine a_goto (tgt := 110) dX8_atBy_98 (by decide) ?_
                exact a_iret rfl ⟨by unfold cAtBy rwW; grind, hQu74, hFu74⟩ dX8_atBy_110
            · refine a_aload_n dX8_atBy_73 rfl rfl ?_
              refine a_getF (d := 73) fX8_37 k0 rfl r0_7 dX8_atBy_74 ?_
              refine a_iload dX8_atBy_77 rfl ?_
              refine a_cI (c := 73) (as := [ai i]) (rest := []) (c_departure u74 (mkF ρ s t k) hZu74.2.2 hLnu74 i (by omega) (by omega)) mvX4_departure lX8_246 k73 (by decide) rfl rfl rfl rfl (Nat.le_of_ble_eq_true rfl) (Nat.le_of_ble_eq_true rfl) (Nat.le_of_ble_eq_true rfl) dX8_atBy_79 ?_
              have hrw77 := row_rng hW (s := s) (t := t) (most := k) (i := i) (by omega) (by omega) (by omega) (by omega) (by omega) (by omega) (by omega)
              refine a_topI (y := (row (mkF ρ s t k) i).1) rfl ?_
              exact a_iret rfl ⟨by unfold cAtBy rwW; grind, hQu74, hFu74⟩ dX8_atBy_82
          · refine a_bipush (x := (-2)) dX8_atBy_65 (by decide) ?_
            exact a_iret rfl ⟨by unfold cAtBy rwW; grind, hQu74, hFu74⟩ dX8_atBy_67
        · refine a_iconst dX8_atBy_33 ?_
          exact a_iret rfl ⟨by unfold cAtBy rwW; grind, hQ, hF⟩ dX8_atBy_34

set_option maxRecDepth 20000 in
theorem c_profile (σ ρ : Sto) (N : Nat) (hW : WV ρ) (hQ : CQ σ ρ N) (s t : Int) (hs : inR s) (ht : inR t) : MetA mX8_profile [ar 0, ai s, ai t] σ (cqQ σ ρ N (cProfileBy ρ s t 4)) := by
  have hC := hQ.c
  have hN := hQ.n
  have hT7 := hQ.t
  have hM7 := hQ.m
  have hF : Fg pCq σ σ := Fg.rfl
  have hNk := hN.k
  have hR := hW.R
  have hS := hW.S
  have hTr := hW.T
  refine a_entry (by decide) (Nat.le_of_ble_eq_true rfl) ?_
  refine a_ls (ls' := [(0, ar 0), (1, ai s), (2, ai t)]) rfl ?_
  refine a_aload_n dX8_profile_0 rfl rfl ?_
  refine a_iload_n dX8_profile_1 rfl rfl ?_
  refine a_iload_n dX8_profile_2 rfl rfl ?_
  refine a_iconst dX8_profile_3 ?_
  refine a_callI (c := 0) (as := [ai s, ai t, ai 4]) (rest := []) (c_profileBy σ ρ N hW hQ s t 4 hs ht (inR_of (by omega) (by omega))) mvX8_profileBy lX8_230 k0 (by decide) rfl rfl rfl rfl (Nat.le_of_ble_eq_true rfl) (Nat.le_of_ble_eq_true rfl) (Nat.le_of_ble_eq_true rfl) dX8_profile_4 (fun x u78 hu => ?_)
  obtain ⟨hx, hQu78, hFu78⟩ := hu
  cases hx
  exact a_iret rfl ⟨by rfl, hQu78, hFu78⟩ dX8_profile_7

set_option maxRecDepth 20000 in
theorem c_at (σ ρ : Sto) (N : Nat) (hW : WV ρ) (hQ : CQ σ ρ N) (s t i what : Int) (hs : inR s) (ht : inR t) (hi : inR i) (hwhat : inR what) : MetA mX8_at [ar 0, ai s, ai t, ai i, ai what] σ (cqQ σ ρ N (cAtBy ρ s t 4 i what)) := by
  have hC := hQ.c
  have hN := hQ.n
  have hT7 := hQ.t
  have hM7 := hQ.m
  have hF : Fg pCq σ σ := Fg.rfl
  have hNk := hN.k
  have hR := hW.R
  have hS := hW.S
  have hTr := hW.T
  refine a_entry (by decide) (Nat.le_of_ble_eq_true rfl) ?_
  refine a_ls (ls' := [(0, ar 0), (1, ai s), (2, ai t), (3, ai i), (4, ai what)]) rfl ?_
  refine a_aload_n dX8_at_0 rfl rfl ?_
  refine a_iload_n dX8_at_1 rfl rfl ?_
  refine a_iload_n dX8_at_2 rfl rfl ?_
  refine a_iconst dX8_at_3 ?_
  refine a_iload_n dX8_at_4 rfl rfl ?_
  refine a_iload dX8_at_5 rfl ?_
  refine a_callI (c := 0) (as := [ai s, ai t, ai 4, ai i, ai what]) (rest := []) (c_atBy σ ρ N hW hQ s t 4 i what hs ht (inR_of (by omega) (by omega)) hi hwhat) mvX8_atBy lX8_234 k0 (by decide) rfl rfl rfl rfl (Nat.le_of_ble_eq_true rfl) (Nat.le_of_ble_eq_true rfl) (Nat.le_of_ble_eq_true rfl) dX8_at_7 (fun x u79 hu => ?_)
  obtain ⟨hx, hQu79, hFu79⟩ := hu
  cases hx
  exact a_iret rfl ⟨by rfl, hQu79, hFu79⟩ dX8_at_10

set_option maxRecDepth 20000 in
theorem c_unfold8 (σ ρ : Sto) (N : Nat) (hW : WV ρ) (hQ : CQ σ ρ N) (s t i : Int) (hi : inR i) (hs0 : 0 ≤ s) (hs1 : s < gN ρ 155 0) (ht0 : 0 ≤ t) (ht1 : t < gN ρ 155 0) : MetA mX8_unfold [ar 0, ai s, ai t, ai i] σ (fun r u => r = some (ai (if 0 ≤ i ∧ i < (MK ρ s t).length then 1 else 0)) ∧ UfP σ u ρ N s t i) := by
  have hC := hQ.c
  have hN := hQ.n
  have hT7 := hQ.t
  have hM7 := hQ.m
  have hF : Fg pCq σ σ := Fg.rfl
  have hNk := hN.k
  have hR := hW.R
  have hS := hW.S
  have hTr := hW.T
  refine a_entry (by decide) (Nat.le_of_ble_eq_true rfl) ?_
  refine a_ls (ls' := [(0, ar 0), (1, ai s), (2, ai t), (3, ai i)]) rfl ?_
  refine a_aload_n dX8_unfold_0 rfl rfl ?_
  refine a_getF (d := 73) fX8_37 k0 rfl r0_7 dX8_unfold_1 ?_
  refine a_aload_n dX8_unfold_4 rfl rfl ?_
  refine a_getF (d := 7) fX8_81 k0 rfl r0_3 dX8_unfold_5 ?_
  refine a_aload_n dX8_unfold_8 rfl rfl ?_
  refine a_getF (d := 38) fX8_30 k0 rfl r0_6 dX8_unfold_9 ?_
  refine a_iload_n dX8_unfold_12 rfl rfl ?_
  refine a_iload_n dX8_unfold_13 rfl rfl ?_
  refine a_iconst dX8_unfold_14 ?_
  refine a_callV (c := 73) (as := [ar 7, ar 38, ai s, ai t, ai 4]) (rest := []) (c_make σ ρ N hW hQ s t 4 (by omega) (by omega) (by omega) (by omega) (by omega) (by omega)) mvX4_make lX8_241 k73 (by decide) rfl rfl rfl rfl (Nat.le_of_ble_eq_true rfl) (Nat.le_of_ble_eq_true rfl) (Nat.le_of_ble_eq_true rfl) dX8_unfold_15 (fun u80 hu => ?_)
  obtain ⟨-, hKu80⟩ := hu
  have hQu80 : CQ u80 ρ N := hKu80.2.1
  have hCu80 := hQu80.c
  have hNu80 := hQu80.n
  have hT7u80 := hQu80.t
  have hM7u80 := hQu80.m
  have hFu80 : Fg pCq σ u80 := hF.trans (hKu80.1.mono (fun c j z => pMk_Q z))
  have hZu80 := hKu80.2.2.1
  have hLnu80 : ((MK ρ s t).length : Int) ≤ 300 := hKu80.2.2.2.1
  refine a_iload_n dX8_unfold_18 rfl rfl ?_
  refine a_if_lt (tgt := 33) dX8_unfold_19 (by decide) hi (fun c19 => ?_) (fun c19 => ?_)
  · refine a_iconst dX8_unfold_33 ?_
    exact a_zret rfl (by omega) ⟨by rw [if_neg (by omega)], hFu80, hQu80, hZu80, hLnu80, fun z => absurd z (by omega)⟩ dX8_unfold_34
  · refine a_iload_n dX8_unfold_22 rfl rfl ?_
    refine a_aload_n dX8_unfold_23 rfl rfl ?_
    refine a_getF (d := 73) fX8_37 k0 rfl r0_7 dX8_unfold_24 ?_
    refine a_getI (J := 0) fX8_245 k73 rfl rfl dX8_unfold_27 ?_
    refine a_topI (y := ((MK ρ s t).length : Int)) hZu80.1 ?_
    refine a_icmp_lt (tgt := 35) dX8_unfold_30 (by decide) hi (inR_of (by omega) (by omega)) (fun c30 => ?_) (fun c30 => ?_)
    · have hro : RowOK ρ t 4 (row (MK ρ s t) i) := mkF_ok hW (by omega) _ (row_mem (by omega) (by omega))
      refine a_aload_n dX8_unfold_35 rfl rfl ?_
      refine a_getF (d := 73) fX8_37 k0 rfl r0_7 dX8_unfold_36 ?_
      refine a_iload_n dX8_unfold_39 rfl rfl ?_
      refine a_aload_n dX8_unfold_40 rfl rfl ?_
      refine a_getF (d := 38) fX8_30 k0 rfl r0_6 dX8_unfold_41 ?_
      refine a_aload_n dX8_unfold_44 rfl rfl ?_
      refine a_getF (d := 83) fX8_44 k0 rfl r0_8 dX8_unfold_45 ?_
      refine a_callV (c := 73) (as := [ai i, ar 38, ar 83]) (rest := []) (c_unfoldP u80 ρ hW t (by omega) (by omega) (hQu80.o t (by omega) (by omega) |>.2 (by omega) hKu80.2.2.2.2) hZu80.2.1 (MK ρ s t) hZu80.2.2 hLnu80 i (by omega) (by omega) hro.1 hro.2.1 (row_bet hW hro)) mvX4_unfold lX8_265 k73 (by decide) rfl rfl rfl rfl (Nat.le_of_ble_eq_true rfl) (Nat.le_of_ble_eq_true rfl) (Nat.le_of_ble_eq_true rfl) dX8_unfold_48 (fun v81 hv => ?_)
      obtain ⟨-, hv1, hv2⟩ := hv
      refine a_iconst dX8_unfold_51 ?_
      exact a_zret rfl (by omega) ⟨by rw [if_pos (by omega)], hFu80.trans (hv1.mono (fun c j z => by unfold pCq; omega)), hQu80.aft hS.2 hR.2 (hv1.mono (fun c j z => by unfold pAft; omega)), ⟨(hv1.n (by omega)).trans hZu80.1, (hv1.n (by omega)).trans hZu80.2.1, hZu80.2.2.of (hv1.n (by omega)) (fun c j _ _ => hv1.n (by omega))⟩, hLnu80, fun _ => hv2⟩ dX8_unfold_52
    · refine a_iconst dX8_unfold_33 ?_
      exact a_zret rfl (by omega) ⟨by rw [if_neg (by omega)], hFu80, hQu80, hZu80, hLnu80, fun z => absurd z (by omega)⟩ dX8_unfold_34

set_option maxRecDepth 20000 in
theorem c_leg (σ ρ : Sto) (N : Nat) (hW : WV ρ) (hQ : CQ σ ρ N) (s t i l what : Int) (hs : inR s) (ht : inR t) (hi : inR i) (hl : inR l) (hwhat : inR what) : MetA mX8_leg [ar 0, ai s, ai t, ai i, ai l, ai what] σ (cqQ σ ρ N (cLeg ρ s t i l what)) := by
  have hC := hQ.c
  have hN := hQ.n
  have hT7 := hQ.t
  have hM7 := hQ.m
  have hF : Fg pCq σ σ := Fg.rfl
  have hNk := hN.k
  have hR := hW.R
  have hS := hW.S
  have hTr := hW.T
  refine a_entry (by decide) (Nat.le_of_ble_eq_true rfl) ?_
  refine a_ls (ls' := [(0, ar 0), (1, ai s), (2, ai t), (3, ai i), (4, ai l), (5, ai what)]) rfl ?_
  refine a_aload_n dX8_leg_0 rfl rfl ?_
  refine a_iload_n dX8_leg_1 rfl rfl ?_
  refine a_iload_n dX8_leg_2 rfl rfl ?_
  refine a_cI (c := 0) (as := [ai s, ai t]) (rest := []) (c_arePair σ ρ N hW hC hN s t hs ht) mvX8_arePair lX8_238 k0 (by decide) rfl rfl rfl rfl (Nat.le_of_ble_eq_true rfl) (Nat.le_of_ble_eq_true rfl) (Nat.le_of_ble_eq_true rfl) dX8_leg_3 ?_
  refine a_ifb_eq (tgt := 28) dX8_leg_6 (by decide) (fun c6 => ?_) (fun c6 => ?_)
  · refine a_iconst dX8_leg_28 ?_
    exact a_iret rfl ⟨by unfold cLeg; grind, hQ, hF⟩ dX8_leg_29
  · refine a_iload_n dX8_leg_9 rfl rfl ?_
    refine a_if_lt (tgt := 28) dX8_leg_10 (by decide) hi (fun c10 => ?_) (fun c10 => ?_)
    · refine a_iconst dX8_leg_28 ?_
      exact a_iret rfl ⟨by unfold cLeg; grind, hQ, hF⟩ dX8_leg_29
    · refine a_iload dX8_leg_13 rfl ?_
      refine a_if_lt (tgt := 28) dX8_leg_15 (by decide) hl (fun c15 => ?_) (fun c15 => ?_)
      · refine a_iconst dX8_leg_28 ?_
        exact a_iret rfl ⟨by unfold cLeg; grind, hQ, hF⟩ dX8_leg_29
      · refine a_iload dX8_leg_18 rfl ?_
        refine a_iconst dX8_leg_20 ?_
        refine a_iconst dX8_leg_21 ?_
        refine a_sI (as := [ai what, ai 0, ai 1]) (rest := []) (c_within σ what 0 1 hwhat (inR_of (by omega) (by omega)) (inR_of (by omega) (by omega))) mvX8_within lX8_179 rfl rfl rfl (Nat.le_of_ble_eq_true rfl) (Nat.le_of_ble_eq_true rfl) (Nat.le_of_ble_eq_true rfl) dX8_leg_22 ?_
        refine a_ifb_ne (tgt := 30) dX8_leg_25 (by decide) (fun c25 => ?_) (fun c25 => ?_)
        · refine a_aload_n dX8_leg_30 rfl rfl ?_
          refine a_iload_n dX8_leg_31 rfl rfl ?_
          refine a_iload_n dX8_leg_32 rfl rfl ?_
          refine a_iload_n dX8_leg_33 rfl rfl ?_
          refine a_callI (c := 0) (as := [ai s, ai t, ai i]) (rest := []) (c_unfold8 σ ρ N hW hQ s t i hi (by omega) (by omega) (by omega) (by omega)) mvX8_unfold lX8_255 k0 (by decide) rfl rfl rfl rfl (Nat.le_of_ble_eq_true rfl) (Nat.le_of_ble_eq_true rfl) (Nat.le_of_ble_eq_true rfl) dX8_leg_34 (fun x u82 hu => ?_)
          obtain ⟨hx, hUu82⟩ := hu
          cases hx
          have hQu82 : CQ u82 ρ N := hUu82.2.1
          have hCu82 := hQu82.c
          have hNu82 := hQu82.n
          have hT7u82 := hQu82.t
          have hM7u82 := hQu82.m
          have hFu82 : Fg pCq σ u82 := hF.trans (hUu82.1)
          have hZu82 := hUu82.2.2.1
          have hLnu82 := hUu82.2.2.2.1
          refine a_ifb_eq (tgt := 52) dX8_leg_37 (by decide) (fun c37 => ?_) (fun c37 => ?_)
          · refine a_bipush (x := (-2)) dX8_leg_52 (by decide) ?_
            exact a_iret rfl ⟨by unfold cLeg; grind, hQu82, hFu82⟩ dX8_leg_54
          · have hli : 0 ≤ i ∧ i < ((MK ρ s t).length : Int) := (by assumption)
            have hLgu82 : LgR u82 83 (UL ρ s t i) := hUu82.2.2.2.2 hli
            have hul := UL_ok hW (s := s) (t := t) (i := i) (by omega) (by omega) hli.1 hli.2
            have hGk : Gok 83 := Or.inl rfl
            refine a_iload dX8_leg_40 rfl ?_
            refine a_aload_n dX8_leg_42 rfl rfl ?_
            refine a_getF (d := 83) fX8_44 k0 rfl r0_8 dX8_leg_43 ?_
            refine a_getI (J := 0) fX8_258 k83 rfl rfl dX8_leg_46 ?_
            refine a_topI (y := ((UL ρ s t i).length : Int)) hLgu82.1 ?_
            refine a_icmp_lt (tgt := 55) dX8_leg_49 (by decide) hl (inR_of (by omega) (by omega)) (fun c49 => ?_) (fun c49 => ?_)
            · refine a_iload dX8_leg_55 rfl ?_
              refine a_if_ne (tgt := 73) dX8_leg_57 (by decide) hwhat (fun c57 => ?_) (fun c57 => ?_)
              · refine a_aload_n dX8_leg_73 rfl rfl ?_
                refine a_getF (d := 83) fX8_44 k0 rfl r0_8 dX8_leg_74 ?_
                refine a_getF (d := 85) fX8_262 k83 rfl r83_2 dX8_leg_77 ?_
                refine a_iload dX8_leg_80 rfl ?_
                refine a_ild k85 n85 (by omega) (by omega) dX8_leg_82 ?_
                refine a_topI (y := (lg (UL ρ s t i) l).2) (hLgu82.at (by omega) (by omega)).2.1 ?_
                exact a_iret rfl ⟨by unfold cLeg; grind, hQu82, hFu82⟩ dX8_leg_83
              · refine a_aload_n dX8_leg_60 rfl rfl ?_
                refine a_getF (d := 83) fX8_44 k0 rfl r0_8 dX8_leg_61 ?_
                refine a_getF (d := 84) fX8_259 k83 rfl r83_1 dX8_leg_64 ?_
                refine a_iload dX8_leg_67 rfl ?_
                refine a_ild k84 n84 (by omega) (by omega) dX8_leg_69 ?_
                refine a_topI (y := (lg (UL ρ s t i) l).1) (hLgu82.at (by omega) (by omega)).1 ?_
                refine a_goto (tgt := 83) dX8_leg_70 (by decide) ?_
                exact a_iret rfl ⟨by unfold cLeg; grind, hQu82, hFu82⟩ dX8_leg_83
            · refine a_bipush (x := (-2)) dX8_leg_52 (by decide) ?_
              exact a_iret rfl ⟨by unfold cLeg; grind, hQu82, hFu82⟩ dX8_leg_54
        · refine a_iconst dX8_leg_28 ?_
          exact a_iret rfl ⟨by unfold cLeg; grind, hQ, hF⟩ dX8_leg_29

set_option maxRecDepth 20000 in
theorem c_waits (σ ρ : Sto) (N : Nat) (hW : WV ρ) (hQ : CQ σ ρ N) (s t i what : Int) (hs : inR s) (ht : inR t) (hi : inR i) (hwhat : inR what) : MetA mX8_waits [ar 0, ai s, ai t, ai i, ai what] σ (cqQ σ ρ N (cWaits ρ s t i what)) := by
  have hC := hQ.c
  have hN := hQ.n
  have hT7 := hQ.t
  have hM7 := hQ.m
  have hF : Fg pCq σ σ := Fg.rfl
  have hNk := hN.k
  have hR := hW.R
  have hS := hW.S
  have hTr := hW.T
  refine a_entry (by decide) (Nat.le_of_ble_eq_true rfl) ?_
  refine a_ls (ls' := [(0, ar 0), (1, ai s), (2, ai t), (3, ai i), (4, ai what)]) rfl ?_
  refine a_aload_n dX8_waits_0 rfl rfl ?_
  refine a_iload_n dX8_waits_1 rfl rfl ?_
  refine a_iload_n dX8_waits_2 rfl rfl ?_
  refine a_cI (c := 0) (as := [ai s, ai t]) (rest := []) (c_arePair σ ρ N hW hC hN s t hs ht) mvX8_arePair lX8_238 k0 (by decide) rfl rfl rfl rfl (Nat.le_of_ble_eq_true rfl) (Nat.le_of_ble_eq_true rfl) (Nat.le_of_ble_eq_true rfl) dX8_waits_3 ?_
  refine a_ifb_eq (tgt := 23) dX8_waits_6 (by decide) (fun c6 => ?_) (fun c6 => ?_)
  · refine a_iconst dX8_waits_23 ?_
    exact a_iret rfl ⟨by unfold cWaits; grind, hQ, hF⟩ dX8_waits_24
  · refine a_iload_n dX8_waits_9 rfl rfl ?_
    refine a_if_lt (tgt := 23) dX8_waits_10 (by decide) hi (fun c10 => ?_) (fun c10 => ?_)
    · refine a_iconst dX8_waits_23 ?_
      exact a_iret rfl ⟨by unfold cWaits; grind, hQ, hF⟩ dX8_waits_24
    · refine a_iload dX8_waits_13 rfl ?_
      refine a_iconst dX8_waits_15 ?_
      refine a_iconst dX8_waits_16 ?_
      refine a_sI (as := [ai what, ai 0, ai 1]) (rest := []) (c_within σ what 0 1 hwhat (inR_of (by omega) (by omega)) (inR_of (by omega) (by omega))) mvX8_within lX8_179 rfl rfl rfl (Nat.le_of_ble_eq_true rfl) (Nat.le_of_ble_eq_true rfl) (Nat.le_of_ble_eq_true rfl) dX8_waits_17 ?_
      refine a_ifb_ne (tgt := 25) dX8_waits_20 (by decide) (fun c20 => ?_) (fun c20 => ?_)
      · refine a_aload_n dX8_waits_25 rfl rfl ?_
        refine a_iload_n dX8_waits_26 rfl rfl ?_
        refine a_iload_n dX8_waits_27 rfl rfl ?_
        refine a_iload_n dX8_waits_28 rfl rfl ?_
        refine a_callI (c := 0) (as := [ai s, ai t, ai i]) (rest := []) (c_unfold8 σ ρ N hW hQ s t i hi (by omega) (by omega) (by omega) (by omega)) mvX8_unfold lX8_255 k0 (by decide) rfl rfl rfl rfl (Nat.le_of_ble_eq_true rfl) (Nat.le_of_ble_eq_true rfl) (Nat.le_of_ble_eq_true rfl) dX8_waits_29 (fun x u83 hu => ?_)
        obtain ⟨hx, hUu83⟩ := hu
        cases hx
        have hQu83 : CQ u83 ρ N := hUu83.2.1
        have hCu83 := hQu83.c
        have hNu83 := hQu83.n
        have hT7u83 := hQu83.t
        have hM7u83 := hQu83.m
        have hFu83 : Fg pCq σ u83 := hF.trans (hUu83.1)
        have hZu83 := hUu83.2.2.1
        have hLnu83 := hUu83.2.2.2.1
        refine a_ifb_ne (tgt := 38) dX8_waits_32 (by decide) (fun c32 => ?_) (fun c32 => ?_)
        · have hli : 0 ≤ i ∧ i < ((MK ρ s t).length : Int) := (by assumption)
          have hLgu83 : LgR u83 83 (UL ρ s t i) := hUu83.2.2.2.2 hli
          have hul := UL_ok hW (s := s) (t := t) (i := i) (by omega) (by omega) hli.1 hli.2
          have hGk : Gok 83 := Or.inl rfl
          refine a_iload dX8_waits_38 rfl ?_
          refine a_iconst dX8_waits_40 ?_
          refine a_icmp_ne (tgt := 72) dX8_waits_41 (by decide) hwhat (inR_of (by omega) (by omega)) (fun c41 => ?_) (fun c41 => ?_)
          · refine a_aload_n dX8_waits_72 rfl rfl ?_
            refine a_getF (d := 73) fX8_37 k0 rfl r0_7 dX8_waits_73 ?_
            refine a_iload_n dX8_waits_76 rfl rfl ?_
            refine a_cI (c := 73) (as := [ai i]) (rest := []) (c_arrival u83 (MK ρ s t) hZu83.2.2 hLnu83 i (by omega) (by omega)) mvX4_arrival lX8_249 k73 (by decide) rfl rfl rfl rfl (Nat.le_of_ble_eq_true rfl) (Nat.le_of_ble_eq_true rfl) (Nat.le_of_ble_eq_true rfl) dX8_waits_77 ?_
            have hrw84 := row_rng4 hW (s := s) (t := t) (i := i) (by omega) (by omega) (by omega) (by omega) (by omega) (by omega)
            refine a_topI (y := (row (MK ρ s t) i).2.1) rfl ?_
            refine a_aload_n dX8_waits_80 rfl rfl ?_
            refine a_getF (d := 73) fX8_37 k0 rfl r0_7 dX8_waits_81 ?_
            refine a_iload_n dX8_waits_84 rfl rfl ?_
            refine a_cI (c := 73) (as := [ai i]) (rest := [ai ((row (MK ρ s t) i).2.1)]) (c_departure u83 (MK ρ s t) hZu83.2.2 hLnu83 i (by omega) (by omega)) mvX4_departure lX8_246 k73 (by decide) rfl rfl rfl rfl (Nat.le_of_ble_eq_true rfl) (Nat.le_of_ble_eq_true rfl) (Nat.le_of_ble_eq_true rfl) dX8_waits_85 ?_
            have hrw85 := row_rng4 hW (s := s) (t := t) (i := i) (by omega) (by omega) (by omega) (by omega) (by omega) (by omega)
            refine a_topI (y := (row (MK ρ s t) i).1) rfl ?_
            refine a_isub dX8_waits_88 ?_
            refine a_istore (ls' := [(5, ai ((row (MK ρ s t) i).2.1 - ((row (MK ρ s t) i).1))), (0, ar 0), (1, ai s), (2, ai t), (3, ai i), (4, ai what)]) dX8_waits_89 (Nat.le_of_ble_eq_true rfl) rfl ?_
            refine a_iload dX8_waits_91 rfl ?_
            refine a_aload_n dX8_waits_93 rfl rfl ?_
            refine a_getF (d := 83) fX8_44 k0 rfl r0_8 dX8_waits_94 ?_
            refine a_aload_n dX8_waits_97 rfl rfl ?_
            refine a_getF (d := 7) fX8_81 k0 rfl r0_3 dX8_waits_98 ?_
            refine a_cI (c := 83) (as := [ar 7]) (rest := [ai ((row (MK ρ s t) i).2.1 - ((row (MK ρ s t) i).1))]) (c_minutesOn u83 ρ N 7 83 hW hNu83 hT7u83 hGk (UL ρ s t i) hLgu83 hul.1 (by omega)) mvX1_minutesOn lX8_272 k83 (by decide) rfl rfl rfl rfl (Nat.le_of_ble_eq_true rfl) (Nat.le_of_ble_eq_true rfl) (Nat.le_of_ble_eq_true rfl) dX8_waits_101 ?_
            refine a_isub dX8_waits_104 ?_
            refine a_aload_n dX8_waits_105 rfl rfl ?_
            refine a_getF (d := 83) fX8_44 k0 rfl r0_8 dX8_waits_106 ?_
            refine a_aload_n dX8_waits_109 rfl rfl ?_
            refine a_getR (d := N) (J := 12) fX8_65 k0 rfl q0_12 rfl hCu83 dX8_waits_110 ?_
            refine a_iload_n dX8_waits_113 rfl rfl ?_
            refine a_iload_n dX8_waits_114 rfl rfl ?_
            refine a_cI (c := 83) (as := [ar N, ai s, ai t]) (rest := [ai ((row (MK ρ s t) i).2.1 - ((row (MK ρ s t) i).1) - (onT ρ (UL ρ s t i)))]) (c_minutesWalked u83 ρ N 83 hW hNu83 hGk (UL ρ s t i) hLgu83 hul.1 (by omega) s t (by omega) (by omega) (by omega) (by omega)) mvX1_minutesWalked lX8_275 k83 (by decide) rfl rfl rfl rfl (Nat.le_of_ble_eq_true rfl) (Nat.le_of_ble_eq_true rfl) (Nat.le_of_ble_eq_true rfl) dX8_waits_115 ?_
            refine a_isub dX8_waits_118 ?_
            exact a_iret rfl ⟨by unfold cWaits; grind, hQu83, hFu83⟩ dX8_waits_119
          · refine a_aload_n dX8_waits_44 rfl rfl ?_
            refine a_getF (d := 83) fX8_44 k0 rfl r0_8 dX8_waits_45 ?_
            refine a_getI (J := 0) fX8_258 k83 rfl rfl dX8_waits_48 ?_
            refine a_topI (y := ((UL ρ s t i).length : Int)) hLgu83.1 ?_
            refine a_iconst dX8_waits_51 ?_
            refine a_icmp_ge (tgt := 60) dX8_waits_52 (by decide) (inR_of (by omega) (by omega)) (inR_of (by omega) (by omega)) (fun c52 => ?_) (fun c52 => ?_)
            · refine a_aload_n dX8_waits_60 rfl rfl ?_
              refine a_getF (d := 83) fX8_44 k0 rfl r0_8 dX8_waits_61 ?_
              refine a_aload_n dX8_waits_64 rfl rfl ?_
              refine a_getF (d := 7) fX8_81 k0 rfl r0_3 dX8_waits_65 ?_
              refine a_cI (c := 83) (as := [ar 7]) (rest := []) (c_leastSlack u83 ρ N 7 83 hW hNu83 hT7u83 hGk (UL ρ s t i) hLgu83 hul.1 (by omega)) mvX1_leastSlack lX8_268 k83 (by decide) rfl rfl rfl rfl (Nat.le_of_ble_eq_true rfl) (Nat.le_of_ble_eq_true rfl) (Nat.le_of_ble_eq_true rfl) dX8_waits_68 ?_
              exact a_iret rfl ⟨by unfold cWaits; grind, hQu83, hFu83⟩ dX8_waits_71
            · refine a_bipush (x := (-2)) dX8_waits_55 (by decide) ?_
              refine a_goto (tgt := 71) dX8_waits_57 (by decide) ?_
              exact a_iret rfl ⟨by unfold cWaits; grind, hQu83, hFu83⟩ dX8_waits_71
        · refine a_bipush (x := (-2)) dX8_waits_35 (by decide) ?_
          exact a_iret rfl ⟨by unfold cWaits; grind, hQu83, hFu83⟩ dX8_waits_37
      · refine a_iconst dX8_waits_23 ?_
        exact a_iret rfl ⟨by unfold cWaits; grind, hQ, hF⟩ dX8_waits_24

set_option maxRecDepth 20000 in
theorem c_travels (σ ρ : Sto) (N : Nat) (hW : WV ρ) (hQ : CQ σ ρ N) (s t i what : Int) (hs : inR s) (ht : inR t) (hi : inR i) (hwhat : inR what) : MetA mX8_travels [ar 0, ai s, ai t, ai i, ai what] σ (cqQ σ ρ N (cTravels ρ s t i what)) := by
  have hC := hQ.c
  have hN := hQ.n
  have hT7 := hQ.t
  have hM7 := hQ.m
  have hF : Fg pCq σ σ := Fg.rfl
  have hNk := hN.k
  have hR := hW.R
  have hS := hW.S
  have hTr := hW.T
  refine a_entry (by decide) (Nat.le_of_ble_eq_true rfl) ?_
  refine a_ls (ls' := [(0, ar 0), (1, ai s), (2, ai t), (3, ai i), (4, ai what)]) rfl ?_
  refine a_aload_n dX8_travels_0 rfl rfl ?_
  refine a_iload_n dX8_travels_1 rfl rfl ?_
  refine a_iload_n dX8_travels_2 rfl rfl ?_
  refine a_cI (c := 0) (as := [ai s, ai t]) (rest := []) (c_arePair σ ρ N hW hC hN s t hs ht) mvX8_arePair lX8_238 k0 (by decide) rfl rfl rfl rfl (Nat.le_of_ble_eq_true rfl) (Nat.le_of_ble_eq_true rfl) (Nat.le_of_ble_eq_true rfl) dX8_travels_3 ?_
  refine a_ifb_eq (tgt := 23) dX8_travels_6 (by decide) (fun c6 => ?_) (fun c6 => ?_)
  · refine a_iconst dX8_travels_23 ?_
    exact a_iret rfl ⟨by unfold cTravels; grind, hQ, hF⟩ dX8_travels_24
  · refine a_iload_n dX8_travels_9 rfl rfl ?_
    refine a_if_lt (tgt := 23) dX8_travels_10 (by decide) hi (fun c10 => ?_) (fun c10 => ?_)
    · refine a_iconst dX8_travels_23 ?_
      exact a_iret rfl ⟨by unfold cTravels; grind, hQ, hF⟩ dX8_travels_24
    · refine a_iload dX8_travels_13 rfl ?_
      refine a_iconst dX8_travels_15 ?_
      refine a_iconst dX8_travels_16 ?_
      refine a_sI (as := [ai what, ai 0, ai 2]) (rest := []) (c_within σ what 0 2 hwhat (inR_of (by omega) (by omega)) (inR_of (by omega) (by omega))) mvX8_within lX8_179 rfl rfl rfl (Nat.le_of_ble_eq_true rfl) (Nat.le_of_ble_eq_true rfl) (Nat.le_of_ble_eq_true rfl) dX8_travels_17 ?_
      refine a_ifb_ne (tgt := 25) dX8_travels_20 (by decide) (fun c20 => ?_) (fun c20 => ?_)
      · refine a_aload_n dX8_travels_25 rfl rfl ?_
        refine a_iload_n dX8_travels_26 rfl rfl ?_
        refine a_iload_n dX8_travels_27 rfl rfl ?_
        refine a_iload_n dX8_travels_28 rfl rfl ?_
        refine a_callI (c := 0) (as := [ai s, ai t, ai i]) (rest := []) (c_unfold8 σ ρ N hW hQ s t i hi (by omega) (by omega) (by omega) (by omega)) mvX8_unfold lX8_255 k0 (by decide) rfl rfl rfl rfl (Nat.le_of_ble_eq_true rfl) (Nat.le_of_ble_eq_true rfl) (Nat.le_of_ble_eq_true rfl) dX8_travels_29 (fun x u86 hu => ?_)
        obtain ⟨hx, hUu86⟩ := hu
        cases hx
        have hQu86 : CQ u86 ρ N := hUu86.2.1
        have hCu86 := hQu86.c
        have hNu86 := hQu86.n
        have hT7u86 := hQu86.t
        have hM7u86 := hQu86.m
        have hFu86 : Fg pCq σ u86 := hF.trans (hUu86.1)
        have hZu86 := hUu86.2.2.1
        have hLnu86 := hUu86.2.2.2.1
        refine a_ifb_ne (tgt := 38) dX8_travels_32 (by decide) (fun c32 => ?_) (fun c32 => ?_)
        · have hli : 0 ≤ i ∧ i < ((MK ρ s t).length : Int) := (by assumption)
          have hLgu86 : LgR u86 83 (UL ρ s t i) := hUu86.2.2.2.2 hli
          have hul := UL_ok hW (s := s) (t := t) (i := i) (by omega) (by omega) hli.1 hli.2
          have hGk : Gok 83 := Or.inl rfl
          refine a_iload dX8_travels_38 rfl ?_
          refine a_if_ne (tgt := 55) dX8_travels_40 (by decide) hwhat (fun c40 => ?_) (fun c40 => ?_)
          · refine a_iload dX8_travels_55 rfl ?_
            refine a_iconst dX8_travels_57 ?_
            refine a_icmp_ne (tgt := 77) dX8_travels_58 (by decide) hwhat (inR_of (by omega) (by omega)) (fun c58 => ?_) (fun c58 => ?_)
            · refine a_aload_n dX8_travels_77 rfl rfl ?_
              refine a_getF (d := 83) fX8_44 k0 rfl r0_8 dX8_travels_78 ?_
              refine a_cI (c := 83) (as := []) (rest := []) (c_rides u86 ρ N 83 hW hNu86 hGk (UL ρ s t i) hLgu86 hul.1 (by omega)) mvX1_rides lX8_279 k83 (by decide) rfl rfl rfl rfl (Nat.le_of_ble_eq_true rfl) (Nat.le_of_ble_eq_true rfl) (Nat.le_of_ble_eq_true rfl) dX8_travels_81 ?_
              exact a_iret rfl ⟨by unfold cTravels; grind, hQu86, hFu86⟩ dX8_travels_84
            · refine a_aload_n dX8_travels_61 rfl rfl ?_
              refine a_getF (d := 83) fX8_44 k0 rfl r0_8 dX8_travels_62 ?_
              refine a_aload_n dX8_travels_65 rfl rfl ?_
              refine a_getR (d := N) (J := 12) fX8_65 k0 rfl q0_12 rfl hCu86 dX8_travels_66 ?_
              refine a_iload_n dX8_travels_69 rfl rfl ?_
              refine a_iload_n dX8_travels_70 rfl rfl ?_
              refine a_cI (c := 83) (as := [ar N, ai s, ai t]) (rest := []) (c_minutesWalked u86 ρ N 83 hW hNu86 hGk (UL ρ s t i) hLgu86 hul.1 (by omega) s t (by omega) (by omega) (by omega) (by omega)) mvX1_minutesWalked lX8_275 k83 (by decide) rfl rfl rfl rfl (Nat.le_of_ble_eq_true rfl) (Nat.le_of_ble_eq_true rfl) (Nat.le_of_ble_eq_true rfl) dX8_travels_71 ?_
              refine a_goto (tgt := 84) dX8_travels_74 (by decide) ?_
              exact a_iret rfl ⟨by unfold cTravels; grind, hQu86, hFu86⟩ dX8_travels_84
          · refine a_aload_n dX8_travels_43 rfl rfl ?_
            refine a_getF (d := 83) fX8_44 k0 rfl r0_8 dX8_travels_44 ?_
            refine a_aload_n dX8_travels_47 rfl rfl ?_
            refine a_getF (d := 7) fX8_81 k0 rfl r0_3 dX8_travels_48 ?_
            refine a_cI (c := 83) (as := [ar 7]) (rest := []) (c_minutesOn u86 ρ N 7 83 hW hNu86 hT7u86 hGk (UL ρ s t i) hLgu86 hul.1 (by omega)) mvX1_minutesOn lX8_272 k83 (by decide) rfl rfl rfl rfl (Nat.le_of_ble_eq_true rfl) (Nat.le_of_ble_eq_true rfl) (Nat.le_of_ble_eq_true rfl) dX8_travels_51 ?_
            exact a_iret rfl ⟨by unfold cTravels; grind, hQu86, hFu86⟩ dX8_travels_54
        · refine a_bipush (x := (-2)) dX8_travels_35 (by decide) ?_
          exact a_iret rfl ⟨by unfold cTravels; grind, hQu86, hFu86⟩ dX8_travels_37
      · refine a_iconst dX8_travels_23 ?_
        exact a_iret rfl ⟨by unfold cTravels; grind, hQ, hF⟩ dX8_travels_24

