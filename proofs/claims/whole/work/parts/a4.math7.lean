/-! The profile of the class is the profile of the reference. -/
theorem least_int {Q : Int → Prop} : ∀ (n : Nat) (i : Int), i ≤ n → 0 ≤ i → Q i → ∃ f, 0 ≤ f ∧ Q f ∧ ∀ j, 0 ≤ j → Q j → f ≤ j
  | 0, i, h0, h1, h => ⟨i, h1, h, fun j j0 _ => by omega⟩
  | n + 1, i, h0, h1, h => by
    by_cases e : ∃ j, 0 ≤ j ∧ j < i ∧ Q j
    · obtain ⟨j, j0, j1, hj⟩ := e
      exact least_int n j (by omega) j0 hj
    · exact ⟨i, h1, h, fun j j0 hj => by
        by_cases y : i ≤ j
        · exact y
        · exact absurd ⟨j, j0, by omega, hj⟩ e⟩
theorem row_cand {ρ : Sto} (hW : WV ρ) {s t : Int} (hs0 : 0 ≤ s) (hs1 : s < gN ρ 155 0) (ht0 : 0 ≤ t) (ht1 : t < gN ρ 155 0) {x : Rw} (hx : RowP ρ s t (gN ρ 155 (15 + 10 * s + t)) x) (hc0 : 0 ≤ x.2.2.1) (hc1 : x.2.2.1 ≤ 4) : rwC x ∈ candL ρ s t ∧ ¬ btn (candL ρ s t) (gN ρ 155 (15 + 10 * s + t)) (rwC x) := by
  obtain ⟨x1, ⟨x2, x3, x4⟩, x5, x6, x7, x8⟩ := hx
  constructor
  · obtain ⟨q, hq, e1, e2, e3, m, m1, m2⟩ := (cand_by hW hs0 hs1 ht0 ht1 x1 hc0 hc1 x2).mp (by omega)
    have b := (AN_rng hW (n := m) (i := x.2.2.2) ht0 ht1)
    have f1 : q.2.2 = x.2.2.1 := by
      by_cases y : q.2.2 = x.2.2.1
      · exact y
      · have z := (cand_by hW hs0 hs1 ht0 ht1 x1 (c := q.2.2) (by omega) (by omega) x2).mpr ⟨q, hq, e1, e2, Int.le_refl _, m, m1, m2⟩
        have := x6 q.2.2 (by omega) (by omega) _ x2 x3
        omega
    have f2 : q.2.1 = x.2.1 := by
      by_cases y : q.2.1 < x.2.1
      · have z := (cand_by hW hs0 hs1 ht0 ht1 (v := q.2.1) (by omega) hc0 hc1 x2).mpr ⟨q, hq, e1, Int.le_refl _, e3, m, m1, m2⟩
        omega
      · omega
    have : rwC x = q := by
      obtain ⟨q1, q2, q3⟩ := q
      unfold rwC
      dsimp only at *
      rw [e1, x3, f1, f2]
    rw [this]; exact hq
  · rintro (h | ⟨y, hy, hn, y1, y2, y3⟩)
    · unfold rwC at h
      dsimp only at h
      omega
    · unfold rwC at y1 y2 y3
      dsimp only at y1 y2 y3
      obtain ⟨i, hi, m, m0, mA, e⟩ := (cand_mem hW hs0 hs1 y).mp hy
      have d1 : y.1 = dpF ρ s i := by rw [e]
      have d2 : y.2.1 = AN ρ t m i := by rw [e]
      have d3 : y.2.2 = (m : Int) := by rw [e]
      have ac := (cand_by hW hs0 hs1 ht0 ht1 x1 hc0 hc1 hi).mpr ⟨y, hy, d1, y2, y3, m, d3.symm, d2⟩
      by_cases c1 : x.1 < dpF ρ s i
      · have := x7 i hi c1
        omega
      · have ed : dpF ρ s i = x.1 := by omega
        by_cases c2 : y.2.2 < x.2.2.1
        · have z := (cand_by hW hs0 hs1 ht0 ht1 x1 (c := y.2.2) (by omega) (by omega) hi).mpr ⟨y, hy, d1, y2, Int.le_refl _, m, d3.symm, d2⟩
          have := x6 y.2.2 (by omega) c2 i hi ed
          omega
        · by_cases c3 : y.2.1 < x.2.1
          · have z := (cand_by hW hs0 hs1 ht0 ht1 (v := y.2.1) (by omega) hc0 hc1 hi).mpr ⟨y, hy, d1, Int.le_refl _, y3, m, d3.symm, d2⟩
            have := (x5 i hi ed).1
            omega
          · apply hn
            obtain ⟨q1, q2, q3⟩ := y
            unfold rwC
            dsimp only at *
            rw [show q1 = x.1 by omega, show q2 = x.2.1 by omega, show q3 = x.2.2.1 by omega]
theorem cand_row {ρ : Sto} (hW : WV ρ) {s t : Int} (hs0 : 0 ≤ s) (hs1 : s < gN ρ 155 0) (ht0 : 0 ≤ t) (ht1 : t < gN ρ 155 0) {q : Cd} (hq : q ∈ candL ρ s t) (hn : ¬ btn (candL ρ s t) (gN ρ 155 (15 + 10 * s + t)) q) : ∃ x, RowP ρ s t (gN ρ 155 (15 + 10 * s + t)) x ∧ (0 ≤ x.2.2.1 ∧ x.2.2.1 ≤ 4) ∧ rwC x = q := by
  obtain ⟨i, hi, m, m0, mA, e⟩ := (cand_mem hW hs0 hs1 q).mp hq
  have d1 : q.1 = dpF ρ s i := by rw [e]
  have d2 : q.2.1 = AN ρ t m i := by rw [e]
  have d3 : q.2.2 = (m : Int) := by rw [e]
  have nb : ∀ y ∈ candL ρ s t, q.1 ≤ y.1 → y.2.1 ≤ q.2.1 → y.2.2 ≤ q.2.2 → y = q := fun y hy a b c => by
    by_cases z : y = q
    · exact z
    · exact absurd (Or.inr ⟨y, hy, z, a, b, c⟩) hn
  have low : ∀ j, fsO ρ s j → q.1 ≤ dpF ρ s j → ∀ c, 0 ≤ c → c ≤ q.2.2 → ∀ v, v ≤ q.2.1 → AR ρ t c j ≤ v → dpF ρ s j = q.1 ∧ c = q.2.2 ∧ v = q.2.1 := by
    intro j hj hd c c0 c1 v hv ha
    obtain ⟨y, hy, e1, e2, e3, _⟩ := (cand_by hW hs0 hs1 ht0 ht1 (by omega) c0 (by omega) hj).mp ha
    have z := nb y hy (by omega) (by omega) (by omega)
    rw [z] at e1 e2 e3
    omega
  have ai : AR ρ t q.2.2 i = q.2.1 := by
    have a := (cand_by hW hs0 hs1 ht0 ht1 (v := q.2.1) (by omega) (c := q.2.2) (by omega) (by omega) hi).mpr ⟨q, hq, d1, Int.le_refl _, Int.le_refl _, m, d3.symm, d2⟩
    have := low i hi (by omega) q.2.2 (by omega) (Int.le_refl _) (AR ρ t q.2.2 i) a (Int.le_refl _)
    omega
  obtain ⟨f, f0, ⟨hf, f1, f2⟩, f3⟩ := least_int (Q := fun j => fsO ρ s j ∧ dpF ρ s j = q.1 ∧ AR ρ t q.2.2 j = q.2.1) i.toNat i (by omega) hi.1.1 ⟨hi, d1.symm, ai⟩
  refine ⟨(q.1, q.2.1, q.2.2, f), ⟨by dsimp only; omega, ⟨hf, f1, f2⟩, fun j hj hd => ⟨?_, fun he => f3 j hj.1.1 ⟨hj, hd, he⟩⟩, fun c c0 c1 j hj hd => ?_, fun j hj hd => ?_, ?_⟩, by dsimp only; omega, rfl⟩
  · dsimp only at hd ⊢
    by_cases y : q.2.1 ≤ AR ρ t q.2.2 j
    · exact y
    · have := low j hj (by omega) q.2.2 (by omega) (Int.le_refl _) (AR ρ t q.2.2 j) (by omega) (Int.le_refl _)
      omega
  · dsimp only at c1 hd ⊢
    by_cases y : q.2.1 < AR ρ t c j
    · exact y
    · have := low j hj (by omega) c c0 (by omega) q.2.1 (Int.le_refl _) (by omega)
      omega
  · dsimp only at hd ⊢
    by_cases y : q.2.1 < AR ρ t q.2.2 j
    · exact y
    · have := low j hj (by omega) q.2.2 (by omega) (Int.le_refl _) q.2.1 (Int.le_refl _) (by omega)
      omega
  · dsimp only
    by_cases y : q.2.1 - q.1 < gN ρ 155 (15 + 10 * s + t)
    · exact y
    · exact absurd (Or.inl (by omega)) hn
/-- PROFILE -/
theorem rows_eq {ρ : Sto} (hW : WV ρ) {s t k : Int} (hs0 : 0 ≤ s) (hs1 : s < gN ρ 155 0) (ht0 : 0 ≤ t) (ht1 : t < gN ρ 155 0) (hk0 : 0 ≤ k) (hk1 : k ≤ 4) : (mkF ρ s t k).map rwC = (kpR (candL ρ s t) (gN ρ 155 (15 + 10 * s + t))).filter (fun q => decide (q.2.2 ≤ k)) := by
  have m := mkF_rows hW (s := s) (t := t) hk0
  have r := kpR_ok (candL ρ s t) (gN ρ 155 (15 + 10 * s + t))
  refine sorted_eq ahd_ir (fun x y => ahd_as) _ _ ?_ (r.1.sublist List.filter_sublist) (fun q => ?_)
  · rw [List.pairwise_map]
    exact m.1
  · rw [List.mem_map, List.mem_filter, decide_eq_true_iff, r.2]
    constructor
    · rintro ⟨x, hx, e⟩
      have z := (m.2 x).mp hx
      have y := row_cand hW hs0 hs1 ht0 ht1 z.1 z.2.1 (by omega)
      rw [e] at y
      refine ⟨y, ?_⟩
      rw [← e]
      exact z.2.2
    · rintro ⟨⟨h1, h2⟩, h3⟩
      obtain ⟨x, a, b, c⟩ := cand_row hW hs0 hs1 ht0 ht1 h1 h2
      refine ⟨x, (m.2 x).mpr ⟨a, b.1, ?_⟩, c⟩
      rw [← c] at h3
      exact h3
theorem rows_eq4 {ρ : Sto} (hW : WV ρ) {s t : Int} (hs0 : 0 ≤ s) (hs1 : s < gN ρ 155 0) (ht0 : 0 ≤ t) (ht1 : t < gN ρ 155 0) : (MK ρ s t).map rwC = kpR (candL ρ s t) (gN ρ 155 (15 + 10 * s + t)) := by
  have z := rows_eq hW hs0 hs1 ht0 ht1 (k := 4) (by omega) (by omega)
  rw [List.filter_eq_self.mpr] at z
  · exact z
  · intro q hq
    rw [decide_eq_true_iff]
    have r := (kpR_ok (candL ρ s t) (gN ρ 155 (15 + 10 * s + t))).2 q
    obtain ⟨i, hi, m, m0, mA, e⟩ := (cand_mem hW hs0 hs1 q).mp (r.mp hq).1
    rw [e]
    dsimp only
    omega
