/-! The class's reader: trips; the readers of lines. -/
theorem addTrip_ok {ω σ u : Sto} {N : Nat} {q : RS} (hN : Nok N) (h : CRa ω σ u N q 0) (hT : q.f 2 < 20) : CRa ω σ (sN (sN (sN u (N + 5) (q.f 2) (q.f 3)) N 2 (q.f 2 + 1)) (N + 5) (q.f 2 + 1) (q.f 3)) N q 1 := by
  have hO := h.O
  have b3 := hO.f3
  have b2 := hO.f2
  have hb := h.1.2.2.2.1
  obtain ⟨c1, c2, c3, c4, c5, c6⟩ := h.C
  obtain ⟨d1, d2, d3⟩ := h.Q
  have g : ∀ (c : Nat) (j : Int), c ≠ N + 5 → (c = N → j ≠ 2) → gN (sN (sN (sN u (N + 5) (q.f 2) (q.f 3)) N 2 (q.f 2 + 1)) (N + 5) (q.f 2 + 1) (q.f 3)) c j = gN u c j := fun c j a b => by
    rw [gN_sN, if_neg (by omega), gN_sN, if_neg (by omega), gN_sN, if_neg (by omega)]
  have g5 : ∀ j : Int, gN (sN (sN (sN u (N + 5) (q.f 2) (q.f 3)) N 2 (q.f 2 + 1)) (N + 5) (q.f 2 + 1) (q.f 3)) (N + 5) j = if j = q.f 2 ∨ j = q.f 2 + 1 then q.f 3 else gN u (N + 5) j := fun j => by
    rw [gN_sN]
    by_cases e : j = q.f 2 + 1
    · rw [if_pos ⟨rfl, e⟩, nrm_of (inR_of (by omega) (by omega)), if_pos (Or.inr e)]
    · rw [if_neg (fun z => e z.2), gN_sN, if_neg (by omega), gN_sN]
      by_cases e2 : j = q.f 2
      · rw [if_pos ⟨rfl, e2⟩, nrm_of (inR_of (by omega) (by omega)), if_pos (Or.inl e2)]
      · rw [if_neg (fun z => e2 z.2), if_neg (by omega)]
  have z5 : gN u (N + 5) (q.f 2) = q.f 3 := by rw [show q.f 2 = q.f 2 + 0 by omega]; exact c5.2.2
  refine ⟨⟨((h.F.sN (by omega)).sN (by omega)).sN (by omega), ⟨h.I.1, by rw [g _ _ (by omega) (by omega)]; exact h.I.2.1, h.I.2.2.1, fun j j0 j1 => by rw [g _ _ (by omega) (by omega)]; exact h.I.2.2.2.1 j j0 j1, h.I.2.2.2.2⟩, h.net, ⟨by rw [g _ _ (by omega) (by omega)]; exact hb.1, by rw [g _ _ (by omega) (by omega)]; exact hb.2.1, by rw [g _ _ (by omega) (by omega)]; exact hb.2.2⟩, by rw [g _ _ (by omega) (by omega)]; exact h.at_⟩, ⟨⟨?_, ?_, ?_, ?_⟩, fun s s0 s1 => ?_, fun a b a0 a1 b0' b1' => ?_, fun i i0 i1 => ?_, ⟨?_, fun z => by omega, ?_⟩, fun t t0 t1 => ?_⟩, ⟨d1, ⟨fun i i0 i1 => ?_, d2.2⟩, d3⟩, hO, h.fa⟩
  · rw [g _ _ (by omega) (by omega)]; exact c1.1
  · rw [g _ _ (by omega) (by omega)]; exact c1.2.1
  · rw [gN_sN, if_neg (by omega), gN_sN, if_pos ⟨rfl, rfl⟩, nrm_of (inR_of (by omega) (by omega))]
  · rw [g _ _ (by omega) (by omega)]; exact c1.2.2.2
  · rw [g _ _ (by omega) (by omega), g _ _ (by omega) (by omega)]; exact c2 s s0 s1
  · rw [g _ _ (by omega) (by omega)]; exact c3 a b a0 a1 b0' b1'
  · rw [g _ _ (by omega) (by omega), g _ _ (by omega) (by omega), g _ _ (by omega) (by omega), g _ _ (by omega) (by omega), g _ _ (by omega) (by omega)]; exact c4 i i0 i1
  · rw [g5]
    split
    · exact c5.2.1 (by omega)
    · exact c5.1
  · rw [g5, if_pos (Or.inr rfl)]
  · rw [g5, g5]
    by_cases e : t = q.f 2
    · rw [if_pos (Or.inl e), if_pos (Or.inr (by omega))]
      exact ⟨by omega, fun z => by omega, fun i i0 i1 => by omega⟩
    · have z := c6 t t0 (by omega)
      rw [if_neg (by omega)]
      by_cases e2 : t + 1 = q.f 2
      · rw [if_pos (Or.inl e2)]
        rw [e2, z5] at z
        exact z
      · rw [if_neg (by omega)]
        exact z
  · have z := d2.1 i i0 i1
    exact ⟨⟨z.1.1, by omega⟩, z.2⟩
theorem rtE_all {r fr to lv cm : Int} {q : RS} (hr : 115 ≤ r) : ∀ j : Int, (rtE r fr to lv cm q).f j = if j = 3 then q.f 3 + 1 else if j = r then q.f 2 else if j = r + 1 then fr else if j = r + 2 then to else if j = r + 3 then lv else if j = r + 4 then cm else q.f j := by
  intro j
  show up1 (up1 (up1 (up1 (up1 (up1 q.f r (q.f 2)) (r + 1) fr) (r + 2) to) (r + 3) lv) (r + 4) cm) 3 (up1 (up1 (up1 (up1 (up1 q.f r (q.f 2)) (r + 1) fr) (r + 2) to) (r + 3) lv) (r + 4) cm 3 + 1) j = _
  by_cases e3 : j = 3
  · rw [if_pos e3, e3, up_pos, up_neg (by omega), up_neg (by omega), up_neg (by omega), up_neg (by omega), up_neg (by omega)]
  · rw [if_neg e3, up_neg e3]
    by_cases f4 : j = r + 4
    · rw [if_neg (by omega), if_neg (by omega), if_neg (by omega), if_neg (by omega), if_pos f4, f4, up_pos]
    · rw [up_neg f4]
      by_cases f3 : j = r + 3
      · rw [if_neg (by omega), if_neg (by omega), if_neg (by omega), if_pos f3, f3, up_pos]
      · rw [up_neg f3]
        by_cases f2 : j = r + 2
        · rw [if_neg (by omega), if_neg (by omega), if_pos f2, f2, up_pos]
        · rw [up_neg f2]
          by_cases f1 : j = r + 1
          · rw [if_neg (by omega), if_pos f1, f1, up_pos]
          · rw [up_neg f1]
            by_cases f0 : j = r
            · rw [if_pos f0, f0, up_pos]
            · rw [up_neg f0, if_neg f0, if_neg f1, if_neg f2, if_neg f3, if_neg f4]
theorem addRide_ok {ω σ u : Sto} {N : Nat} {q : RS} {fr to lv cm : Int} (hN : Nok N) (h : CRa ω σ u N q 1) (hT : q.f 2 < 20) (hR : q.f 3 < 60) (hf0 : 0 ≤ fr) (hf1 : fr < q.f 0) (ht0 : 0 ≤ to) (ht1 : to < q.f 0) (hl0 : 0 ≤ lv) (hlc : lv < cm) (hc : cm < 1440) (hah : 0 < q.f 3 → q.f (115 + 5 * (q.f 3 - 1) + 0) = q.f 2 → q.f (115 + 5 * (q.f 3 - 1) + 4) ≤ lv) : CRa ω σ (sN (sN (sN (sN (sN (sN (sN u (N + 6) (q.f 3) (q.f 2 + 1 - 1)) (N + 7) (q.f 3) fr) (N + 8) (q.f 3) to) (N + 9) (q.f 3) lv) (N + 10) (q.f 3) cm) N 3 (q.f 3 + 1)) (N + 5) (q.f 2 + 1) (q.f 3 + 1)) N (rtE (115 + 5 * q.f 3) fr to lv cm q) 1 := by
  have hO := h.O
  have b0 := hO.f0
  have b1 := hO.f1
  have b3 := hO.f3
  have b2 := hO.f2
  have hb := h.1.2.2.2.1
  obtain ⟨c1, c2, c3, c4, c5, c6⟩ := h.C
  obtain ⟨d1, d2, d3⟩ := h.Q
  have ef := rtE_all (r := 115 + 5 * q.f 3) (fr := fr) (to := to) (lv := lv) (cm := cm) (q := q) (by omega)
  obtain ⟨q', eq'⟩ : ∃ z, z = rtE (115 + 5 * q.f 3) fr to lv cm q := ⟨_, rfl⟩
  have ea : q'.at_ = q.at_ := by rw [eq']; rfl
  have efa : q'.fa = q.fa := by rw [eq']; rfl
  have enm : q'.nm = q.nm := by rw [eq']; rfl
  rw [← eq'] at ef ⊢
  have e3 : q'.f 3 = q.f 3 + 1 := by rw [ef, if_pos rfl]
  have el : ∀ j : Int, j ≠ 3 → j < 115 + 5 * q.f 3 → q'.f j = q.f j := fun j a b => by rw [ef, if_neg a, if_neg (by omega), if_neg (by omega), if_neg (by omega), if_neg (by omega), if_neg (by omega)]
  have E0 := el 0 (by omega) (by omega)
  have E1 := el 1 (by omega) (by omega)
  have E2 := el 2 (by omega) (by omega)
  have E4 := el 4 (by omega) (by omega)
  have r0 : q'.f (115 + 5 * q.f 3 + 0) = q.f 2 := by rw [ef, if_neg (by omega), if_pos (by omega)]
  have r1 : q'.f (115 + 5 * q.f 3 + 1) = fr := by rw [ef, if_neg (by omega), if_neg (by omega), if_pos rfl]
  have r2 : q'.f (115 + 5 * q.f 3 + 2) = to := by rw [ef, if_neg (by omega), if_neg (by omega), if_neg (by omega), if_pos rfl]
  have r3 : q'.f (115 + 5 * q.f 3 + 3) = lv := by rw [ef, if_neg (by omega), if_neg (by omega), if_neg (by omega), if_neg (by omega), if_pos rfl]
  have r4 : q'.f (115 + 5 * q.f 3 + 4) = cm := by rw [ef, if_neg (by omega), if_neg (by omega), if_neg (by omega), if_neg (by omega), if_neg (by omega), if_pos rfl]
  have hr : ∀ (i z : Int), 0 ≤ i → i < q.f 3 → 0 ≤ z → z ≤ 4 → q'.f (115 + 5 * i + z) = q.f (115 + 5 * i + z) := fun i z i0 i1 z0 z1 => el _ (by omega) (by omega)
  obtain ⟨v, ev⟩ : ∃ v, v = sN (sN (sN (sN (sN (sN (sN u (N + 6) (q.f 3) (q.f 2 + 1 - 1)) (N + 7) (q.f 3) fr) (N + 8) (q.f 3) to) (N + 9) (q.f 3) lv) (N + 10) (q.f 3) cm) N 3 (q.f 3 + 1)) (N + 5) (q.f 2 + 1) (q.f 3 + 1) := ⟨_, rfl⟩
  have g : ∀ (c : Nat) (j : Int), ¬ (c = N + 5 ∧ j = q.f 2 + 1) → ¬ (c = N ∧ j = 3) → ¬ (N + 6 ≤ c ∧ c ≤ N + 10 ∧ j = q.f 3) → gN v c j = gN u c j := fun c j x y z => by
    rw [ev, gN_sN, if_neg (by omega), gN_sN, if_neg (by omega), gN_sN, if_neg (by omega), gN_sN, if_neg (by omega), gN_sN, if_neg (by omega), gN_sN, if_neg (by omega), gN_sN, if_neg (by omega)]
  have g3 : gN v N 3 = q.f 3 + 1 := by rw [ev, gN_sN, if_neg (by omega), gN_sN, if_pos ⟨rfl, rfl⟩, nrm_of (inR_of (by omega) (by omega))]
  have g5 : gN v (N + 5) (q.f 2 + 1) = q.f 3 + 1 := by rw [ev, gN_sN, if_pos ⟨rfl, rfl⟩, nrm_of (inR_of (by omega) (by omega))]
  have g10 : gN v (N + 10) (q.f 3) = cm := by rw [ev, gN_sN, if_neg (by omega), gN_sN, if_neg (by omega), gN_sN, if_pos ⟨rfl, rfl⟩, nrm_of (inR_of (by omega) (by omega))]
  have g9 : gN v (N + 9) (q.f 3) = lv := by rw [ev, gN_sN, if_neg (by omega), gN_sN, if_neg (by omega), gN_sN, if_neg (by omega), gN_sN, if_pos ⟨rfl, rfl⟩, nrm_of (inR_of (by omega) (by omega))]
  have g8 : gN v (N + 8) (q.f 3) = to := by rw [ev, gN_sN, if_neg (by omega), gN_sN, if_neg (by omega), gN_sN, if_neg (by omega), gN_sN, if_neg (by omega), gN_sN, if_pos ⟨rfl, rfl⟩, nrm_of (inR_of (by omega) (by omega))]
  have g7 : gN v (N + 7) (q.f 3) = fr := by rw [ev, gN_sN, if_neg (by omega), gN_sN, if_neg (by omega), gN_sN, if_neg (by omega), gN_sN, if_neg (by omega), gN_sN, if_neg (by omega), gN_sN, if_pos ⟨rfl, rfl⟩, nrm_of (inR_of (by omega) (by omega))]
  have g6 : gN v (N + 6) (q.f 3) = q.f 2 := by rw [ev, gN_sN, if_neg (by omega), gN_sN, if_neg (by omega), gN_sN, if_neg (by omega), gN_sN, if_neg (by omega), gN_sN, if_neg (by omega), gN_sN, if_neg (by omega), gN_sN, if_pos ⟨rfl, rfl⟩, nrm_of (inR_of (by omega) (by omega))]; omega
  have hF : Fg (pRc N) σ v := by rw [ev]; exact ((((((h.F.sN (by omega)).sN (by omega)).sN (by omega)).sN (by omega)).sN (by omega)).sN (by omega)).sN (by omega)
  have hgr : ∀ c j, gR v c j = gR u c j := fun c j => by rw [ev]; rfl
  rw [← ev]
  refine ⟨⟨hF, ⟨by rw [hgr]; exact h.I.1, by rw [g _ _ (by omega) (by omega) (by omega)]; exact h.I.2.1, h.I.2.2.1, fun j j0 j1 => by rw [g _ _ (by omega) (by omega) (by omega)]; exact h.I.2.2.2.1 j j0 j1, h.I.2.2.2.2⟩, by rw [hgr]; exact h.net, ⟨by rw [g _ _ (by omega) (by omega) (by omega)]; exact hb.1, by rw [g _ _ (by omega) (by omega) (by omega)]; exact hb.2.1, by rw [g _ _ (by omega) (by omega) (by omega), E4]; exact hb.2.2⟩, by rw [g _ _ (by omega) (by omega) (by omega), ea]; exact h.at_⟩, ⟨⟨?_, ?_, ?_, ?_⟩, fun s s0 s1 => ?_, fun a b a0 a1 b0' b1' => ?_, fun i i0 i1 => ?_, ⟨?_, fun z => by omega, ?_⟩, fun t t0 t1 => ?_⟩, ⟨fun a b a0 a1 b0' b1' => ?_, ⟨fun i i0 i1 => ?_, fun i i0 i1 => ?_⟩, ⟨fun s s0 s1 => ?_, fun i i0 i1 => ?_⟩⟩, ⟨by rw [ea]; exact hO.a, by rw [E0]; exact b0, by rw [E1]; exact b1, by rw [E2]; exact b2, by omega⟩, by rw [efa]; exact h.fa⟩
  · rw [g _ _ (by omega) (by omega) (by omega), E0]; exact c1.1
  · rw [g _ _ (by omega) (by omega) (by omega), E1]; exact c1.2.1
  · rw [g _ _ (by omega) (by omega) (by omega), E2]; exact c1.2.2.1
  · rw [g3, e3]
  · rw [E0] at s1
    rw [g _ _ (by omega) (by omega) (by omega), g _ _ (by omega) (by omega) (by omega), enm, el _ (by omega) (by omega)]
    exact c2 s s0 s1
  · rw [g _ _ (by omega) (by omega) (by omega), el _ (by omega) (by omega)]
    exact c3 a b a0 a1 b0' b1'
  · by_cases e : i = q.f 3
    · rw [e, g6, g7, g8, g9, g10, r0, r1, r2, r3, r4]
      exact ⟨rfl, rfl, rfl, rfl, rfl⟩
    · rw [g _ _ (by omega) (by omega) (by omega), g _ _ (by omega) (by omega) (by omega), g _ _ (by omega) (by omega) (by omega), g _ _ (by omega) (by omega) (by omega), g _ _ (by omega) (by omega) (by omega), hr i 0 i0 (by omega) (by omega) (by omega), hr i 1 i0 (by omega) (by omega) (by omega), hr i 2 i0 (by omega) (by omega) (by omega), hr i 3 i0 (by omega) (by omega) (by omega), hr i 4 i0 (by omega) (by omega) (by omega)]
      exact c4 i i0 (by omega)
  · rw [g _ _ (by omega) (by omega) (by omega)]; exact c5.1
  · rw [E2, g5, e3]
  · rw [E2] at t1
    have z := c6 t t0 t1
    rw [g (N + 5) t (by omega) (by omega) (by omega), E2, e3]
    by_cases e : t = q.f 2
    · rw [show t + 1 = q.f 2 + 1 by omega, g5]
      rw [show t + 1 = q.f 2 + 1 by omega, c5.2.2] at z
      refine ⟨by omega, fun y => by omega, fun i i0 i1 => ?_⟩
      by_cases e2 : i = q.f 3
      · rw [e2, r0]; omega
      · rw [hr i 0 (by omega) (by omega) (by omega) (by omega)]
        exact z.2.2 i i0 (by omega)
    · rw [g (N + 5) (t + 1) (by omega) (by omega) (by omega)]
      exact ⟨by omega, z.2.1, fun i i0 i1 => by rw [hr i 0 (by omega) (by omega) (by omega) (by omega)]; exact z.2.2 i i0 i1⟩
  · rw [el _ (by omega) (by omega), el (15 + 10 * b + a) (by omega) (by omega), E0]
    exact d1 a b a0 a1 b0' b1'
  · rw [E2, E0]
    by_cases e : i = q.f 3
    · rw [e, r0, r1, r2, r3, r4]
      omega
    · rw [hr i 0 i0 (by omega) (by omega) (by omega), hr i 1 i0 (by omega) (by omega) (by omega), hr i 2 i0 (by omega) (by omega) (by omega), hr i 3 i0 (by omega) (by omega) (by omega), hr i 4 i0 (by omega) (by omega) (by omega)]
      exact d2.1 i i0 (by omega)
  · by_cases e : i + 1 = q.f 3
    · have z := d2.1 i i0 (by omega)
      have hh := hah (by omega)
      rw [show q.f 3 - 1 = i by omega] at hh
      rw [e, r0, r3, hr i 0 i0 (by omega) (by omega) (by omega), hr i 4 i0 (by omega) (by omega) (by omega)]
      exact ⟨by omega, fun y => hh y.symm⟩
    · rw [hr i 0 i0 (by omega) (by omega) (by omega), hr (i + 1) 0 (by omega) (by omega) (by omega) (by omega), hr i 4 i0 (by omega) (by omega) (by omega), hr (i + 1) 3 (by omega) (by omega) (by omega) (by omega)]
      exact d2.2 i i0 (by omega)
  · rw [el _ (by omega) (by omega)]
    exact d3.1 s s0 s1
  · by_cases e : i = q.f 3
    · rw [e, r0, r1, r2, r3, r4]
      omega
    · have eo : ∀ z : Int, 0 ≤ z → z ≤ 4 → q'.f (115 + 5 * i + z) = q.f (115 + 5 * i + z) := fun z z0 z1 => by rw [ef, if_neg (by omega), if_neg (by omega), if_neg (by omega), if_neg (by omega), if_neg (by omega), if_neg (by omega)]
      rw [eo 0 (by omega) (by omega), eo 1 (by omega) (by omega), eo 2 (by omega) (by omega), eo 3 (by omega) (by omega), eo 4 (by omega) (by omega)]
      exact d3.2 i i0 i1
theorem endTrip_ok {ω σ u : Sto} {N : Nat} {q : RS} (h : CRd ω σ u N q 1) (hT : q.f 2 < 20) (hne : gN u (N + 5) (q.f 2) < q.f 3) : CRd ω σ u N (q.wF (up1 q.f 2 (q.f 2 + 1))) 0 := by
  have hO := h.1.O
  have hb := h.1.1.2.2.2.1
  obtain ⟨c1, c2, c3, c4, c5, c6⟩ := h.1.C
  obtain ⟨d1, d2, d3⟩ := h.1.Q
  have b2 := hO.f2
  have b0 := hO.f0
  have e2 : (q.wF (up1 q.f 2 (q.f 2 + 1))).f 2 = q.f 2 + 1 := wF_pos
  have e1 : ∀ j : Int, j ≠ 2 → (q.wF (up1 q.f 2 (q.f 2 + 1))).f j = q.f j := fun j a => wF_neg a
  refine ⟨⟨⟨h.1.F, h.1.I, h.1.net, ⟨hb.1, hb.2.1, by rw [e1 _ (by omega)]; exact hb.2.2⟩, h.1.at_⟩, ⟨⟨?_, ?_, ?_, ?_⟩, fun s s0 s1 => ?_, fun a b a0 a1 b0' b1' => ?_, fun i i0 i1 => ?_, ⟨c5.1, ?_, ?_⟩, fun t t0 t1 => ?_⟩, ⟨fun a b a0 a1 b0' b1' => ?_, ⟨fun i i0 i1 => ?_, fun i i0 i1 => ?_⟩, ⟨fun s s0 s1 => ?_, fun i i0 i1 => ?_⟩⟩, wF2_ok hO (by omega), h.1.fa⟩, h.2⟩
  · rw [e1 _ (by omega)]; exact c1.1
  · rw [e1 _ (by omega)]; exact c1.2.1
  · rw [e2]; rw [c1.2.2.1]; omega
  · rw [e1 _ (by omega)]; exact c1.2.2.2
  · rw [e1 0 (by omega)] at s1
    rw [e1 _ (by omega)]; exact c2 s s0 s1
  · rw [e1 _ (by omega)]; exact c3 a b a0 a1 b0' b1'
  · rw [e1 3 (by omega)] at i1
    rw [e1 _ (by omega), e1 _ (by omega), e1 _ (by omega), e1 _ (by omega), e1 _ (by omega)]; exact c4 i i0 i1
  · rw [e2]; intro z; omega
  · rw [e2, e1 3 (by omega), show q.f 2 + 1 + 0 = q.f 2 + 1 by omega]; exact c5.2.2
  · rw [e2] at t1
    rw [e2, e1 3 (by omega)]
    have z := c6 t t0 (by omega)
    refine ⟨z.1, fun y => ?_, fun i i0 i1 => by rw [e1 _ (by omega)]; exact z.2.2 i i0 i1⟩
    by_cases e : t = q.f 2
    · rw [e, c5.2.2]; exact hne
    · exact z.2.1 (by omega)
  · rw [e1 _ (by omega), e1 (15 + 10 * b + a) (by omega), e1 0 (by omega)]; exact d1 a b a0 a1 b0' b1'
  · rw [e1 3 (by omega)] at i1
    rw [e1 (115 + 5 * i + 0) (by omega), e1 (115 + 5 * i + 1) (by omega), e1 (115 + 5 * i + 2) (by omega), e1 (115 + 5 * i + 3) (by omega), e1 (115 + 5 * i + 4) (by omega), e1 0 (by omega), e2]
    have z := d2.1 i i0 i1
    exact ⟨⟨z.1.1, by omega⟩, z.2⟩
  · rw [e1 3 (by omega)] at i1
    rw [e1 (115 + 5 * i + 0) (by omega), e1 (115 + 5 * (i + 1) + 0) (by omega), e1 (115 + 5 * i + 4) (by omega), e1 (115 + 5 * (i + 1) + 3) (by omega)]
    exact d2.2 i i0 i1
  · rw [e1 _ (by omega)]; exact d3.1 s s0 s1
  · rw [e1 (115 + 5 * i + 0) (by omega), e1 (115 + 5 * i + 1) (by omega), e1 (115 + 5 * i + 2) (by omega), e1 (115 + 5 * i + 3) (by omega), e1 (115 + 5 * i + 4) (by omega)]; exact d3.2 i i0 i1
theorem noS_rel {ω : Sto} {q : RS} (hO : ROK ω q) : (noS q ∧ (if othF q then nmdF q else -1) = -1) ∨ (¬ noS q ∧ (if othF q then nmdF q else -1) = nmdF q ∧ 0 ≤ (if othF q then nmdF q else -1) ∧ (if othF q then nmdF q else -1) < q.f 0) := by
  have r := nmd_rng hO
  unfold noS
  by_cases z : othF q
  · rw [if_pos z]
    by_cases y : nmdF q = -1
    · exact Or.inl ⟨Or.inr y, y⟩
    · exact Or.inr ⟨fun x => x.elim (fun a => a z) y, rfl, by omega, by omega⟩
  · rw [if_neg z]
    exact Or.inl ⟨Or.inl z, rfl⟩
theorem failN_ok {ω σ u : Sto} {N : Nat} {q X : RS} {k lo hi : Int} (hN : Nok N) (h : CRd ω σ u N q k) (hc : ¬ (q.so = 1 ∧ lo ≤ q.va ∧ q.va ≤ hi)) : CFl σ (sN (sN u 2 0 (if q.so = 1 then 2 else 1)) 2 1 (gN u 2 6)) N (if q.so ≠ 1 then q.wX 1 q.pl else if q.va < lo ∨ hi < q.va then q.wX 2 q.pl else X) := by
  by_cases e : q.so = 1
  · rw [if_pos e, if_neg (by omega), if_pos (by omega)]
    exact fail_ok hN h (by omega) (by omega)
  · rw [if_neg e, if_pos e]
    exact fail_ok hN h (by omega) (by omega)

set_option maxRecDepth 20000 in
theorem c_readStop (ω σ u : Sto) (N : Nat) (hNk : Nok N) (q : RS) (hC : CRd ω σ u N q 0) : MetA mX5_readStop [ar 2] u (RdQ ω σ N (rdStop ω q) 0) := by
  have hTq := hC.2.2
  have hOq := hC.1.O
  have hfa := hC.1.fa
  have b0 := hOq.f0
  have b1 := hOq.f1
  have b2 := hOq.f2
  have b3 := hOq.f3
  refine a_entry (by decide) (Nat.le_of_ble_eq_true rfl) ?_
  refine a_ls (ls' := [(0, ar 2)]) rfl ?_
  refine a_aload_n dX5_readStop_0 rfl rfl ?_
  refine a_getR (d := N) (J := 5) fX5_28 k2 rfl q2_5 rfl hC.1.net dX5_readStop_1 ?_
  refine a_getI (J := 0) fX5_84 (kN hNk) rfl rfl dX5_readStop_4 ?_
  refine a_topI (y := q.f 0) hC.1.C.1.1 ?_
  refine a_bipush (x := 10) dX5_readStop_7 (by decide) ?_
  refine a_icmp_lt (tgt := 18) dX5_readStop_9 (by decide) (inR_of (by omega) (by omega)) (inR_of (by omega) (by omega)) (fun c9 => ?_) (fun c9 => ?_)
  · refine a_aload_n dX5_readStop_18 rfl rfl ?_
    refine a_callV (c := 2) (as := []) (rest := []) (c_advance u (fun j => gN ω 154 j) (gN ω 153 6) (hC.1).I q.at_ (hC.1).at_ (hC.1).O.a.1 (hC.1).O.a.2) mvX5_advance lX5_46 k2 (by decide) rfl rfl rfl rfl (Nat.le_of_ble_eq_true rfl) (Nat.le_of_ble_eq_true rfl) (Nat.le_of_ble_eq_true rfl) dX5_readStop_19 (fun v1 hv => ?_)
    obtain ⟨-, hPq1⟩ := hv
    have hC1 := adv_ok hNk (hC.1) hPq1
    obtain ⟨q1, eq1⟩ : ∃ z, z = tkS ω q := ⟨_, rfl⟩
    rw [← eq1] at hC1
    have hfq1 : q1.f = q.f := by rw [eq1]; rfl
    have hTq1 := hC1.2.2
    have hOq1 := hC1.1.O
    have hfq1_0 : q1.f 0 = q.f 0 := by rw [hfq1]
    have hfq1_1 : q1.f 1 = q.f 1 := by rw [hfq1]
    have hfq1_2 : q1.f 2 = q.f 2 := by rw [hfq1]
    have hfq1_3 : q1.f 3 = q.f 3 := by rw [hfq1]
    refine a_aload_n dX5_readStop_22 rfl rfl ?_
    refine a_cI (c := 2) (as := []) (rest := []) (c_isName ω σ v1 N hNk q1 0 hC1) mvX5_isName lX5_87 k2 (by decide) rfl rfl rfl rfl (Nat.le_of_ble_eq_true rfl) (Nat.le_of_ble_eq_true rfl) (Nat.le_of_ble_eq_true rfl) dX5_readStop_23 ?_
    refine a_ifb_ne (tgt := 35) dX5_readStop_26 (by decide) (fun c26 => ?_) (fun c26 => ?_)
    · have hot : othF q1 := (by assumption)
      have hot1 := hot.1
      refine a_aload_n dX5_readStop_35 rfl rfl ?_
      refine a_getI (J := 9) fX5_62 k2 rfl rfl dX5_readStop_36 ?_
      refine a_istore_n (ls' := [(1, ai (gN v1 2 9)), (0, ar 2)]) dX5_readStop_39 rfl (Nat.le_of_ble_eq_true rfl) rfl ?_
      refine a_aload_n dX5_readStop_40 rfl rfl ?_
      refine a_getR (d := N) (J := 5) fX5_28 k2 rfl q2_5 rfl hC1.1.net dX5_readStop_41 ?_
      refine a_iload_n dX5_readStop_44 rfl rfl ?_
      refine a_cI (c := N) (as := [ai (gN v1 2 9)]) (rest := []) (c_nStopNamed v1 N hNk (q1.f 0) hC1.1.C.1.1 hC1.1.O.f0.1 hC1.1.O.f0.2 (gN v1 2 9) (inR_gN _ _ _)) mvX2_stopNamed lX5_90 (kN hNk) (by decide) rfl rfl rfl rfl (Nat.le_of_ble_eq_true rfl) (Nat.le_of_ble_eq_true rfl) (Nat.le_of_ble_eq_true rfl) dX5_readStop_45 ?_
      refine a_topI (y := nmdF q1) (nmd_rel hC1.1 (hTq1.2.2.1 hot.1).1) ?_
      have hnr := nmd_rng (hO := hC1.1.O)
      refine a_if_lt (tgt := 57) dX5_readStop_48 (by decide) (inR_of (by omega) (by omega)) (fun c48 => ?_) (fun c48 => ?_)
      · refine a_aload_n dX5_readStop_57 rfl rfl ?_
        refine a_callV (c := 2) (as := []) (rest := []) (c_advance v1 (fun j => gN ω 154 j) (gN ω 153 6) (hC1.1).I q1.at_ (hC1.1).at_ (hC1.1).O.a.1 (hC1.1).O.a.2) mvX5_advance lX5_46 k2 (by decide) rfl rfl rfl rfl (Nat.le_of_ble_eq_true rfl) (Nat.le_of_ble_eq_true rfl) (Nat.le_of_ble_eq_true rfl) dX5_readStop_58 (fun v2 hv => ?_)
        obtain ⟨-, hPq2⟩ := hv
        have hC2 := adv_ok hNk (hC1.1) hPq2
        obtain ⟨q2, eq2⟩ : ∃ z, z = tkS ω q1 := ⟨_, rfl⟩
        rw [← eq2] at hC2
        have hfq2 : q2.f = q1.f := by rw [eq2]; rfl
        have hTq2 := hC2.2.2
        have hOq2 := hC2.1.O
        have hfq2_0 : q2.f 0 = q1.f 0 := by rw [hfq2]
        have hfq2_1 : q2.f 1 = q1.f 1 := by rw [hfq2]
        have hfq2_2 : q2.f 2 = q1.f 2 := by rw [hfq2]
        have hfq2_3 : q2.f 3 = q1.f 3 := by rw [hfq2]
        refine a_aload_n dX5_readStop_61 rfl rfl ?_
        refine a_iconst dX5_readStop_62 ?_
        refine a_bipush (x := 60) dX5_readStop_63 (by decide) ?_
        refine a_cI (c := 2) (as := [ai 0, ai 60]) (rest := []) (c_isNumber ω σ v2 N hNk q2 0 hC2 0 60 (inR_of (by omega) (by omega)) (inR_of (by omega) (by omega)) (by omega) (by omega)) mvX5_isNumber lX5_94 k2 (by decide) rfl rfl rfl rfl (Nat.le_of_ble_eq_true rfl) (Nat.le_of_ble_eq_true rfl) (Nat.le_of_ble_eq_true rfl) dX5_readStop_65 ?_
        refine a_ifb_ne (tgt := 76) dX5_readStop_68 (by decide) (fun c68 => ?_) (fun c68 => ?_)
        · refine a_aload_n dX5_readStop_76 rfl rfl ?_
          refine a_getR (d := N) (J := 5) fX5_28 k2 rfl q2_5 rfl hC2.1.net dX5_readStop_77 ?_
          refine a_iload_n dX5_readStop_80 rfl rfl ?_
          refine a_aload_n dX5_readStop_81 rfl rfl ?_
          refine a_getI (J := 9) fX5_62 k2 rfl rfl dX5_readStop_82 ?_
          have hva : gN v2 2 9 = q2.va := by have z := hTq2.2.2.2 (by omega); unfold NuR at z; omega
          refine a_topI (y := q2.va) hva ?_
          refine a_cV (c := N) (as := [ai (gN v1 2 9), ai q2.va]) (rest := []) (c_addStop v2 N hNk (q2.f 0) hC2.1.C.1.1 (by omega) (by omega) (by omega) (gN v1 2 9) q2.va) mvX2_addStop lX5_101 (kN hNk) (by decide) rfl rfl rfl rfl (Nat.le_of_ble_eq_true rfl) (Nat.le_of_ble_eq_true rfl) (Nat.le_of_ble_eq_true rfl) dX5_readStop_85 ?_
          have hA := addStop_ok (m := q2.va) hNk hC2.1 (by omega) (hTq1.2.2.1 hot.1).1 (by omega) (by omega)
          refine a_aload_n dX5_readStop_88 rfl rfl ?_
          refine a_callV (c := 2) (as := []) (rest := []) (c_advance (sN (sN (sN v2 (N + 1) (q2.f 0) (gN v1 2 9)) (N + 2) (q2.f 0) q2.va) N 0 (q2.f 0 + 1)) (fun j => gN ω 154 j) (gN ω 153 6) (hA).I (rsE q1.wo q2.va q2).at_ (hA).at_ (hA).O.a.1 (hA).O.a.2) mvX5_advance lX5_46 k2 (by decide) rfl rfl rfl rfl (Nat.le_of_ble_eq_true rfl) (Nat.le_of_ble_eq_true rfl) (Nat.le_of_ble_eq_true rfl) dX5_readStop_89 (fun v3 hv => ?_)
          obtain ⟨-, hPq3⟩ := hv
          have hC3 := adv_ok hNk (hA) hPq3
          obtain ⟨q3, eq3⟩ : ∃ z, z = tkS ω (rsE q1.wo q2.va q2) := ⟨_, rfl⟩
          rw [← eq3] at hC3
          have hfq3 : q3.f = (rsE q1.wo q2.va q2).f := by rw [eq3]; rfl
          have hTq3 := hC3.2.2
          have hOq3 := hC3.1.O
          have hfq3_0 : q3.f 0 = (rsE q1.wo q2.va q2).f 0 := by rw [hfq3]
          have hfq3_1 : q3.f 1 = (rsE q1.wo q2.va q2).f 1 := by rw [hfq3]
          have hfq3_2 : q3.f 2 = (rsE q1.wo q2.va q2).f 2 := by rw [hfq3]
          have hfq3_3 : q3.f 3 = (rsE q1.wo q2.va q2).f 3 := by rw [hfq3]
          refine a_iconst dX5_readStop_92 ?_
          exact a_zret rfl (by omega) (by
    have eS : rdStop ω q = q3 := by rw [rdStop_nf hfa]; unfold stopS; simp only [← eq1, ← eq2]; rw [if_neg (by first | omega | assumption), if_neg (by first | omega | assumption), if_neg (by first | omega | assumption), if_neg (by first | omega | assumption), if_neg (by first | omega | assumption), rsE_tk hC2.1.fa]; exact eq3.symm
    rw [eS]; exact Or.inl ⟨rfl, hC3.1.fa, hC3⟩) dX5_readStop_93
        · refine a_aload_n dX5_readStop_71 rfl rfl ?_
          refine a_cI (c := 2) (as := []) (rest := []) (c_failNumber ω σ v2 N hNk q2 0 hC2) mvX5_failNumber lX5_98 k2 (by decide) rfl rfl rfl rfl (Nat.le_of_ble_eq_true rfl) (Nat.le_of_ble_eq_true rfl) (Nat.le_of_ble_eq_true rfl) dX5_readStop_72 ?_
          exact a_zret rfl (by omega) (Or.inr ⟨rfl, by have eS := rdStop_nf (ω := ω) hfa; unfold stopS at eS; (try dsimp only at eS); simp only [← eq1, ← eq2] at eS; rw [if_neg (by first | omega | assumption), if_neg (by first | omega | assumption), if_neg (by first | omega | assumption)] at eS; rw [eS]; exact failN_ok hNk hC2 (by assumption)⟩) dX5_readStop_75
      · refine a_aload_n dX5_readStop_51 rfl rfl ?_
        refine a_iconst dX5_readStop_52 ?_
        refine a_cI (c := 2) (as := [ai 3]) (rest := []) (c_fail v1 3) mvX5_fail lX5_77 k2 (by decide) rfl rfl rfl rfl (Nat.le_of_ble_eq_true rfl) (Nat.le_of_ble_eq_true rfl) (Nat.le_of_ble_eq_true rfl) dX5_readStop_53 ?_
        exact a_zret rfl (by omega) (Or.inr ⟨rfl, by have eS := rdStop_nf (ω := ω) hfa; unfold stopS at eS; (try dsimp only at eS); simp only [← eq1] at eS; rw [if_neg (by first | omega | assumption), if_neg (by first | omega | assumption), if_pos (by first | omega | assumption)] at eS; rw [eS]; exact fail_ok hNk hC1 (by omega) (by omega)⟩) dX5_readStop_56
    · refine a_aload_n dX5_readStop_29 rfl rfl ?_
      refine a_iconst dX5_readStop_30 ?_
      refine a_cI (c := 2) (as := [ai 1]) (rest := []) (c_fail v1 1) mvX5_fail lX5_77 k2 (by decide) rfl rfl rfl rfl (Nat.le_of_ble_eq_true rfl) (Nat.le_of_ble_eq_true rfl) (Nat.le_of_ble_eq_true rfl) dX5_readStop_31 ?_
      exact a_zret rfl (by omega) (Or.inr ⟨rfl, by have eS := rdStop_nf (ω := ω) hfa; unfold stopS at eS; (try dsimp only at eS); simp only [← eq1] at eS; rw [if_neg (by first | omega | assumption), if_pos (by first | omega | assumption)] at eS; rw [eS]; exact fail_ok hNk hC1 (by omega) (by omega)⟩) dX5_readStop_34
  · refine a_aload_n dX5_readStop_12 rfl rfl ?_
    refine a_iconst dX5_readStop_13 ?_
    refine a_cI (c := 2) (as := [ai 2]) (rest := []) (c_fail u 2) mvX5_fail lX5_77 k2 (by decide) rfl rfl rfl rfl (Nat.le_of_ble_eq_true rfl) (Nat.le_of_ble_eq_true rfl) (Nat.le_of_ble_eq_true rfl) dX5_readStop_14 ?_
    exact a_zret rfl (by omega) (Or.inr ⟨rfl, by have eS := rdStop_nf (ω := ω) hfa; unfold stopS at eS; (try dsimp only at eS); rw [if_pos (by first | omega | assumption)] at eS; rw [eS]; exact fail_ok hNk hC (by omega) (by omega)⟩) dX5_readStop_17

