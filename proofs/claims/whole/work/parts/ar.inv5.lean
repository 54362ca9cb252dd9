/-! Delays, cancelled rides, what is undone: of both, the same answer, and INV again. -/
theorem Kept.mx {σ u y : Sto} (h : Kept (sN (mix σ u) 153 0 0) y) : Fr (fun c j => pUd c j ∨ (c = 153 ∧ j = 0)) (mix σ u) y ∧ gN y 153 20 = gN σ 153 20 - dn σ + 1 ∧ (∀ k i : Int, 0 ≤ k → k < gN σ 153 20 - dn σ → 0 ≤ i → i < 60 → gN y 159 (60 * k + i) = gN σ 159 (60 * (k + dn σ) + i)) ∧ (∀ i : Int, 0 ≤ i → i < 60 → gN y 159 (60 * (gN σ 153 20 - dn σ) + i) = gN σ 158 i) ∧ (∀ k : Int, 0 ≤ k → k < gN σ 153 20 - dn σ → gL y 160 k = gL σ 160 (k + dn σ)) ∧ gL y 160 (gN σ 153 20 - dn σ) = gL σ 153 17 := by
  have e20 : gN (sN (mix σ u) 153 0 0) 153 20 = gN σ 153 20 := by rw [gN_sN, if_neg (by omega)]; rfl
  have ed : dn (sN (mix σ u) 153 0 0) = dn σ := by unfold dn; rw [e20]
  obtain ⟨k1, k2, k3, k4, k5, k6⟩ := h
  rw [e20, ed] at k2 k4 k6
  simp only [e20, ed] at k3 k5
  exact ⟨(Fr.rfl.sN (Or.inr ⟨rfl, rfl⟩)).trans (k1.mono fun c j q => Or.inl q), k2, k3, k4, k5, k6⟩
/-- what the class may change with its times -/
abbrev pSt (c : Nat) (j : Int) : Prop := (15 ≤ c ∧ c ≤ 37) ∨ c = 8 ∨ c = 9 ∨ c = 42 ∨ (c = 7 ∧ (j = 1 ∨ j = 2))
theorem IA.set {σ u w : Sto} {N N' : Nat} (hA : IA σ N N') (hB : IB σ) (kcw : Kc u w) (huF : Fg pSt σ u) (e155 : ∀ j, gN w 155 j = gN σ 155 j) (hFr : Frs u) (h7 : gL u 7 1 = gL w 153 17) (h8 : ∀ i : Int, 0 ≤ i → i < gN σ 155 3 → gN u 8 i = gN (lkN w) 161 i ∧ gN u 9 i = gN (lkN w) 162 i) : IA w N N' := by
  obtain ⟨h1, h2, h3, h4, h5, h6, h7'⟩ := hA
  have hN := h1.n.k
  have hS := hB.1.1.2.1
  have n : ∀ (c : Nat) (j : Int), c < 153 → ¬ pSt c j → gN w c j = gN σ c j := fun c j hc q => (kcw c j hc).1.trans (huF c j q).1
  have r : ∀ (c : Nat) (j : Int), c < 153 → ¬ pSt c j → gR w c j = gR σ c j := fun c j hc q => (kcw c j hc).2.2.trans (huF c j q).2.2
  have z72 : gN w 7 2 = 0 := (kcw 7 2 (by omega)).1.trans hFr.1
  refine ⟨⟨(r 0 12 (by omega) (by unfold pSt; omega)).trans h1.c, (h1.n.of hS.2 (fun c j q0 q1 => n c j (by omega) (by unfold pSt; omega))).w (fun j => e155 j), ⟨h1.t.k, (r 7 0 (by omega) (by unfold pSt; omega)).trans h1.t.net, ?_, fun i i0 i1 => ?_, Or.inl z72⟩, fun x => by omega, fun t t0 t1 => ?_⟩, ?_, (r 0 13 (by omega) (by unfold pSt; omega)).trans h3, h4, h5, (n _ _ (by omega) (by unfold pSt; omega)).trans h6, (n _ _ (by omega) (by unfold pSt; omega)).trans h7'⟩
  · have a : gL (lkN w) 153 23 = gL w 153 17 := look23_0 w (-1) 0
    rw [a, (kcw 7 1 (by omega)).2.1]
    exact h7
  · have i1' : i < gN σ 155 3 := by rw [← e155]; exact i1
    have a := h8 i i0 i1'
    exact ⟨(kcw 8 i (by omega)).1.trans a.1, (kcw 9 i (by omega)).1.trans a.2⟩
  · have z := (kcw 42 t (by omega)).1.trans (hFr.2 t t0 t1)
    exact ⟨Or.inl z, fun _ y => by omega⟩
  · exact (h2.of (r 3 0 (by omega) (by unfold pSt; omega)) ((kcw 3 1 (by omega)).2.1.trans (huF 3 1 (by unfold pSt; omega)).2.1) (fun j => n 4 j (by omega) (by unfold pSt; omega)) (fun j => n 5 j (by omega) (by unfold pSt; omega)) (Or.inl (n 3 2 (by omega) (by unfold pSt; omega)))).rq (td_rq e155)
/-- what delay, cancel and undo leave alone of the rest -/
theorem IC.set {σ u w : Sto} (h : IC σ) (kcw : Kc u w) (huF : Fg pSt σ u) (e2 : gN w 153 2 = gN σ 153 2) (e154 : ∀ j, gN w 154 j = gN σ 154 j) (e14 : gN w 153 14 = gN σ 153 14) (e15 : gN w 153 15 = gN σ 153 15) : IC w := by
  obtain ⟨h1, h2, h3, h4, h5⟩ := h
  have n : ∀ (c : Nat) (j : Int), c < 153 → ¬ pSt c j → gN w c j = gN σ c j := fun c j hc q => (kcw c j hc).1.trans (huF c j q).1
  refine ⟨by rw [e2]; exact h1, by rw [e2, n 0 14 (by omega) (by unfold pSt; omega)]; exact h2, fun j j0 j1 => ?_, by rw [e14, n 2 0 (by omega) (by unfold pSt; omega)]; exact h4, by rw [e15, n 2 1 (by omega) (by unfold pSt; omega)]; exact h5⟩
  rw [e2] at j1
  rw [n 1 j (by omega) (by unfold pSt; omega), e154]
  exact h3 j j0 j1
theorem ID.set {σ u w : Sto} {L : List (Int × Int)} (h : ID σ L) (kcw : Kc u w) (huF : Fg pSt σ u) (e155 : ∀ j, gN w 155 j = gN σ 155 j) (e38 : gN w 153 38 = gN σ 153 38) (e173 : ∀ j, gN w 173 j = gN σ 173 j) (e174 : ∀ j, gN w 174 j = gN σ 174 j) : ID w L := by
  obtain ⟨h1, h2, h3, h4⟩ := h
  refine ⟨h1.of e38 (fun l => ⟨e173 l, e174 l⟩), h2.of (fun c j q0 q1 => (kcw c j (by omega)).1.trans (huF c j (by unfold pSt; omega)).1), fun q hq => ?_, h4⟩
  show lgOK (gN w 155 3) q
  rw [e155]
  exact h3 q hq
theorem INV.push {σ u y w : Sto} {N N' : Nat} {L : List (Int × Int)} (hA : IA σ N N') (hB : IB σ) (hC : IC σ) (hD : ID σ L) (hE : IE σ) (hy : Kept (sN (mix σ u) 153 0 0) y) (hyw : Fg (fun c j => c = 158 ∨ (c = 153 ∧ j = 17)) y w)
    (huF : Fg (fun c j => pUk (gN σ 15 1) c j ∨ c = 8 ∨ c = 9 ∨ c = 42 ∨ (c = 7 ∧ (j = 1 ∨ j = 2))) σ u) (hKp : KpA u (lkN σ) (gN σ 15 1) (gN σ 15 0)) (hFr : Frs u) (hLW : LW w) (hOf : OfE w) (h7 : gL u 7 1 = gL w 153 17)
    (h8 : ∀ i : Int, 0 ≤ i → i < gN σ 155 3 → gN u 8 i = gN (lkN w) 161 i ∧ gN u 9 i = gN (lkN w) 162 i) : INV w := by
  have hU := hB.2.2.1
  have hR := hB.1.1.1
  have tp := hE.1.2.1
  have s20 := hE.1.1
  obtain ⟨m1, m2, m3, m4, m5, m6⟩ := hy.mx
  have huS : Fg pSt σ u := huF.mono (fun c j q => by unfold pUk at q; unfold pSt; omega)
  have kcw : Kc u w := fun c j hc => by
    have a := hyw c j (by omega)
    have b := Kc.mix σ u c j hc
    exact ⟨a.1.trans ((m1.1 c j (by unfold pUd; omega)).trans b.1), a.2.1.trans ((m1.2.1 c j (by unfold pUd; omega)).trans b.2.1), a.2.2.trans ((m1.2.2 c j).trans b.2.2)⟩
  have kr : ∀ (c : Nat) (j : Int), ¬ c < 153 → ¬ (pUd c j ∨ (c = 153 ∧ (j = 0 ∨ j = 17)) ∨ c = 158) → gN w c j = gN σ c j := fun c j hc q => by
    have b := Kr.mix σ u c j hc
    exact (hyw c j (by omega)).1.trans ((m1.1 c j (by unfold pUd at q ⊢; omega)).trans b.1)
  have e155 : ∀ j, gN w 155 j = gN σ 155 j := fun j => kr 155 j (by omega) (by unfold pUd; omega)
  have w20 : gN w 153 20 = gN σ 153 20 - dn σ + 1 := (hyw 153 20 (by omega)).1.trans m2
  have w159 : ∀ j, gN w 159 j = gN y 159 j := fun j => (hyw 159 j (by omega)).1
  have w160 : ∀ j, gL w 160 j = gL y 160 j := fun j => (hyw 160 j (by omega)).2.1
  have hd : dn σ = if gN σ 153 20 = 20 then 1 else 0 := rfl
  have hd2 : (gN σ 153 20 = 20 ∧ dn σ = 1) ∨ (gN σ 153 20 ≠ 20 ∧ dn σ = 0) := by
    by_cases h : gN σ 153 20 = 20
    · rw [if_pos h] at hd; exact Or.inl ⟨h, hd⟩
    · rw [if_neg h] at hd; exact Or.inr ⟨h, hd⟩
  have u20 := hU.1
  have hD' : ID w L := hD.set kcw huS e155 (kr 153 38 (by omega) (by unfold pUd; omega)) (fun j => kr 173 j (by omega) (by unfold pUd; omega)) (fun j => kr 174 j (by omega) (by unfold pUd; omega))
  refine ⟨N, N', L, hA.set hB kcw huS e155 hFr h7 h8, ⟨hLW, fun i i0 i1 => ?_, ⟨by omega, fun k i k0 k1 i0 i1 => ?_⟩, PlOK.id hD', fun j => ?_, hOf⟩, hC.set kcw huS (kr 153 2 (by omega) (by unfold pUd; omega)) (fun j => kr 154 j (by omega) (by unfold pUd; omega)) (kr 153 14 (by omega) (by unfold pUd; omega)) (kr 153 15 (by omega) (by unfold pUd; omega)), hD', ?_, fun k k0 k1 => ?_⟩
  · rw [kr 161 i (by omega) (by unfold pUd; omega), kr 162 i (by omega) (by unfold pUd; omega)]
    exact hB.2.1 i i0 i1
  · rw [w159]
    by_cases hk : k < gN σ 153 20 - dn σ
    · rw [m3 k i k0 hk i0 i1]
      exact hU.2 (k + dn σ) i (by omega) (by omega) i0 i1
    · have hk' : k = gN σ 153 20 - dn σ := by omega
      rw [hk', m4 i i0 i1]
      exact hB.1.1.2.2.2.2.2.2 i i0 i1
  · rw [kr 154 j (by omega) (by unfold pUd; omega)]
    exact hB.2.2.2.2.1 j
  · refine hE.1.push hU hR.2 (e155 3) ((kcw 15 0 (by omega)).1.trans hKp.1) ((kcw 15 1 (by omega)).1.trans hKp.2.1) ?_ (fun k k0 k1 k2 => ?_) (fun i i0 i1 => ?_) (fun k k0 k1 k2 i => ?_) w20 (fun k i k0 k1 i0 i1 => by rw [w159]; exact m3 k i k0 k1 i0 i1) (fun i i0 i1 => by rw [w159]; exact m4 i i0 i1) (fun k k0 k1 => by rw [w160]; exact m5 k k0 k1) (by rw [w160]; exact m6)
    · have a : gL (lkN σ) 153 23 = gL σ 153 17 := look23_0 σ (-1) 0
      rw [(kcw 17 _ (by omega)).2.1, hKp.2.2.1, a]
    · exact (kcw 17 k (by omega)).2.1.trans (huF 17 k (by unfold pUk; omega)).2.1
    · rw [(kcw _ i (by omega)).1, hKp.2.2.2 i i0 i1]
      have t := (lkN_t hB.1.1 i0 i1).1
      have g : gN (lkN σ) 155 (115 + 5 * i + 3) = gN σ 155 (115 + 5 * i + 3) := rfl
      rw [t, g]
      omega
    · exact (kcw _ i (by omega)).1.trans (huF _ i (by unfold pUk; omega)).1
  · rw [w20] at k1
    by_cases hk : k < gN σ 153 20 - dn σ
    · have e := hE.2 (k + dn σ) (by omega) (by omega)
      refine ⟨e.1.of (fun q => e155 q) (fun i i0 i1 => ?_), fun i i0 i1 => ?_⟩
      · rw [kr158, kr158, w159, m3 k i k0 hk i0 i1]
      · rw [e155] at i0
        rw [w160, m5 k k0 hk]
        exact e.2 i i0 i1
    · have hk' : k = gN σ 153 20 - dn σ := by omega
      refine ⟨hB.1.of (fun q => e155 q) (fun i i0 i1 => ?_), fun i i0 i1 => ?_⟩
      · rw [kr158, w159, hk', m4 i i0 i1]
      · rw [e155] at i0
        rw [w160, hk', m6]
        exact hB.2.2.2.2.2 i i0 i1
theorem LW.mix {σ : Sto} (h : LW σ) (u : Sto) : LW (mix σ u) := h.of (fun _ => rfl) (fun _ _ _ => rfl)
theorem f1_mix (σ u : Sto) (t : Int) : f1F (lkN (mix σ u)) t = f1F (lkN σ) t := rfl
theorem cd_mix (ρ u : Sto) (trip j mi : Int) : cDelay (mix ρ u) trip j mi = cDelay ρ trip j mi := by
  have a : ∀ t, f1F (mix ρ u) t = f1F ρ t := fun _ => rfl
  have b : dlC (mix ρ u) mi = dlC ρ mi := rfl
  unfold cDelay
  refine ite_congr (by unfold ofT; rw [a, a]; rfl) (fun _ => rfl) (fun _ => ite_congr (by rw [a]; rfl) (fun _ => rfl) (fun _ => by rw [a, a, b]))
theorem e_delay {σ : Sto} (h : LW σ) (u : Sto) (trip j mi : Int) : delayF (mix σ u) trip j mi = delayF σ trip j mi := by
  refine (q_delay (h.mix u) trip j mi).symm.trans (Eq.trans ?_ (q_delay h trip j mi))
  rw [lkN_mix]
  exact cd_mix _ _ _ _ _
theorem w_delay {σ : Sto} (h : INV σ) (trip j mi : Int) (h_trip : inR trip) (h_j : inR j) (h_mi : inR mi) : Two mX8_delay mX9_delay [ai trip, ai j, ai mi] σ := by
  obtain ⟨N, N', L, hA, hB, hC, hD, hE⟩ := h
  have tp := hE.1.2.1
  have s20 := hE.1.1
  have u20 := hB.2.2.1.1
  have q := q_delay hB.1 trip j mi
  have e := e_delay hB.1
  refine ⟨_, c_delay σ (lkN σ) N hB.1.V hA.1 (gN σ 15 1) (gN σ 15 0) rfl rfl tp.1 tp.2 (by omega) (by omega) trip j mi h_trip h_j h_mi, fun x u hu => ?_⟩
  obtain ⟨hu1, hu2⟩ := hu
  have a := sai hu1
  by_cases hp : 0 < cDelay (lkN σ) trip j mi
  · rw [if_pos hp] at hu2
    obtain ⟨g1, g2, g3, g4⟩ := hu2
    have kr : Kr σ u := kr_fg g1 (fun c j q => by unfold pDl pUk at q; omega)
    refine ⟨_, MetA.mix kr (t_delay (mix σ u) trip j mi h_trip h_j h_mi hB.1.1 hB.1.2.2.1 hB.2.2.1), fun y w hw => ?_⟩
    obtain ⟨hw1, hw2⟩ := hw
    have b := sai hw1
    rw [e] at b
    refine ⟨by rw [a, b, q], ?_⟩
    unfold DlPost at hw2
    rw [e, if_pos (by rw [← q]; exact hp)] at hw2
    obtain ⟨y1, d1, d2, d3⟩ := hw2
    have hv : ofT (lkN σ) trip j ∧ (-60 ≤ mi ∧ mi ≤ 240) ∧ ¬ rfz (lkN σ) (f1F (lkN σ) trip + j) mi := by
      unfold cDelay at hp
      split at hp
      · omega
      · rename_i c1
        split at hp
        · omega
        · rename_i c2
          exact ⟨Classical.byContradiction fun z => c1 (Or.inl z), ⟨by omega, by omega⟩, c2⟩
    have ht : trp σ trip := hv.1.1
    have fo : foF (mix σ u) trip = f1F (lkN σ) trip := fo_f1 (ρ := mix σ u) ht
    have rg : f1F (lkN σ) (trip + 1) ≤ gN σ 155 3 := (hB.1.V.f1 (trip + 1) (by omega)).2
    have f0 := (hB.1.V.f1 trip (by omega)).1
    have te : teF (mix σ u) (gN (mix σ u) 155 3 - (foF (mix σ u) trip + j)).toNat (foF (mix σ u) trip + j) = f1F (lkN σ) (trip + 1) := by
      rw [fo]
      have hj := hv.1.2
      refine te_eq (hB.1.mix u) (trip := trip) ht (f1F (lkN σ) (trip + 1) - (f1F (lkN σ) trip + j) - 1).toNat _ _ ?_ ?_ ?_
      · show f1F (lkN σ) trip ≤ _; omega
      · show _ = f1F (lkN σ) (trip + 1); omega
      · show _ = gN σ 155 3
        have z : gN (mix σ u) 155 3 = gN σ 155 3 := rfl
        rw [z]
        omega
    have e158 : ∀ i : Int, 0 ≤ i → i < 60 → gN w 158 i = if f1F (lkN σ) trip + j ≤ i ∧ i < f1F (lkN σ) (trip + 1) then mi else gN σ 158 i := fun i i0 i1 => by
      have z := d3 i i0 i1
      rw [te, fo] at z
      exact z
    have hyw : Fg (fun c j => c = 158 ∨ (c = 153 ∧ j = 17)) y1 w := d2.g.mono (fun c j q => Or.inl q)
    have m1 := d1.mx.1
    have e155 : ∀ j, gN w 155 j = gN σ 155 j := fun j => (hyw 155 j (by omega)).1.trans (m1.1 155 j (by unfold pUd; omega))
    have e17 : gL w 153 17 = gL σ 153 17 := (d2.2.1 153 17 (by omega)).trans (m1.2.1 153 17 (by unfold pUd; omega))
    have hLW : LW w := hB.1.delay hv.1 hv.2.1.1 hv.2.1.2 hv.2.2 e155 e158
    refine INV.push hA hB hC hD hE d1 hyw (g1.mono (fun c j q => by unfold pDl at q; rcases q with q | q | q | q | q; exact Or.inl q; exact Or.inr (Or.inl q); exact Or.inr (Or.inr (Or.inl q)); exact Or.inr (Or.inr (Or.inr (Or.inl q))); exact Or.inr (Or.inr (Or.inr (Or.inr ⟨q.1, Or.inr q.2⟩))))) g2 g4 hLW (fun i i0 i1 => ?_) ?_ (fun i i0 i1 => ?_)
    · rw [e155] at i0
      rw [e17]
      exact hB.2.2.2.2.2 i i0 i1
    · rw [e17, (g1 7 1 (by unfold pDl pUk; omega)).2.1, hA.1.t.off]
      exact look23_0 σ (-1) 0
    · have t := lkN_t hLW.1 i0 (by rw [e155]; exact i1)
      have t0 := lkN_t hB.1.1 i0 i1
      have hR := hB.1.1.1
      rw [t.1, t.2, e155, e155, e158 i i0 (by omega), (g3 i i0 i1).1, (g3 i i0 i1).2]
      by_cases z : f1F (lkN σ) trip + j ≤ i ∧ i < f1F (lkN σ) (trip + 1)
      · rw [if_pos z, if_pos z, if_pos z]
        exact ⟨rfl, rfl⟩
      · rw [if_neg z, if_neg z, if_neg z, t0.1, t0.2]
        exact ⟨rfl, rfl⟩
  · rw [if_neg hp] at hu2
    subst hu2
    refine ⟨_, t_delay u trip j mi h_trip h_j h_mi hB.1.1 hB.1.2.2.1 hB.2.2.1, fun y w hw => ?_⟩
    obtain ⟨hw1, hw2⟩ := hw
    have b := sai hw1
    refine ⟨by rw [a, b, q], ?_⟩
    unfold DlPost at hw2
    rw [if_neg (by rw [← q]; exact hp)] at hw2
    rw [hw2]
    exact INV.th hA hB hC hD hE
