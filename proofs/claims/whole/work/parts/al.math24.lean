/-! A delay keeps the times in order. -/
theorem le_up {σ : Sto} (h : LW σ) {trip fi : Int} (ht : trp σ trip) (h0 : f1F (lkN σ) trip ≤ fi) : ∀ n : Nat, fi + n < f1F (lkN σ) (trip + 1) → gN σ 155 (115 + 5 * fi + 3) ≤ gN σ 155 (115 + 5 * (fi + n) + 3)
  | 0, _ => by rw [show fi + ((0 : Nat) : Int) = fi by omega]; exact Int.le_refl _
  | n + 1, h1 => by
    have f := f1_lt h.V (trip := trip) ht
    have e : gN (lkN σ) 155 3 = gN σ 155 3 := rfl
    have ih := le_up h ht h0 n (by omega)
    have nx := (tr_nx h ht (i := fi + n) (by omega) (by omega)).mpr (by omega)
    have a := (h.2.1.1 (fi + n) (by omega) (by omega)).2.2.2
    have b := h.2.1.2.2.2.1 (fi + n) (by omega) nx
    rw [show fi + ((n + 1 : Nat) : Int) = fi + n + 1 by omega]
    omega
theorem LW.delay {σ v : Sto} (h : LW σ) {trip j mi : Int} (hk : ofT (lkN σ) trip j) (hm0 : -60 ≤ mi) (hm1 : mi ≤ 240) (hr : ¬ rfz (lkN σ) (f1F (lkN σ) trip + j) mi) (e155 : ∀ q, gN v 155 q = gN σ 155 q) (e158 : ∀ i : Int, 0 ≤ i → i < 60 → gN v 158 i = if f1F (lkN σ) trip + j ≤ i ∧ i < f1F (lkN σ) (trip + 1) then mi else gN σ 158 i) : LW v := by
  have ht : trp σ trip := hk.1
  have f := f1_lt h.V (trip := trip) ht
  have e : gN (lkN σ) 155 3 = gN σ 155 3 := rfl
  have k1 := hk.2.1
  have k2 := hk.2.2
  have R := h.1.1
  have hW : WOK v := by
    have w := h.1
    unfold WOK at w ⊢
    simp only [e155]
    refine ⟨w.1, w.2.1, w.2.2.1, w.2.2.2.1, w.2.2.2.2.1, w.2.2.2.2.2.1, fun i i0 i1 => ?_⟩
    have o := w.2.2.2.2.2.2 i i0 i1
    rw [e158 i i0 i1]
    split <;> omega
  have tv : ∀ i : Int, 0 ≤ i → i < gN σ 155 3 → gN (lkN v) 161 i = (if f1F (lkN σ) trip + j ≤ i ∧ i < f1F (lkN σ) (trip + 1) then gN σ 155 (115 + 5 * i + 3) + mi else gN (lkN σ) 161 i) ∧ gN (lkN v) 162 i = (if f1F (lkN σ) trip + j ≤ i ∧ i < f1F (lkN σ) (trip + 1) then gN σ 155 (115 + 5 * i + 4) + mi else gN (lkN σ) 162 i) := by
    intro i i0 i1
    have a := lkN_t hW (i := i) i0 (by rw [e155]; exact i1)
    have b := lkN_t h.1 (i := i) i0 i1
    rw [a.1, a.2, e155, e155, e158 i i0 (by omega), b.1, b.2]
    by_cases c : f1F (lkN σ) trip + j ≤ i ∧ i < f1F (lkN σ) (trip + 1)
    · rw [if_pos c, if_pos c, if_pos c]; exact ⟨rfl, rfl⟩
    · rw [if_neg c, if_neg c, if_neg c]; exact ⟨rfl, rfl⟩
  have lo : 0 ≤ gN σ 155 (115 + 5 * (f1F (lkN σ) trip + j) + 3) + mi := by
    by_cases c : gN σ 155 (115 + 5 * (f1F (lkN σ) trip + j) + 3) + mi < 0
    · exact absurd (Or.inl c) hr
    · omega
  refine ⟨hW, WX.of e155 h.2.1, TrOK.of e155 h.2.2.1, ⟨fun i i0 i1 => ?_, fun i i0 n => ?_⟩, fun i i0 i1 => ?_⟩
  · have i1 : i < gN v 155 3 := i1
    rw [e155] at i1
    have t := tv i i0 i1
    have o := h.O.1 i i0 i1
    have a := (h.2.1.1 i i0 i1).2.2.2
    rw [t.1, t.2]
    split <;> omega
  · have n' : nxt σ i := by
      have a : i + 1 < gN v 155 3 := n.1
      have b : gN v 155 (115 + 5 * (i + 1) + 0) = gN v 155 (115 + 5 * i + 0) := n.2
      rw [e155] at a
      rw [e155, e155] at b
      exact ⟨a, b⟩
    have n1 := n'.1
    have t := tv i i0 (by omega)
    have t' := tv (i + 1) (by omega) n1
    have o := h.O.2 i i0 n'
    have a := h.2.1.2.2.2.1 i i0 n'
    rw [t.2, t'.1]
    by_cases c : f1F (lkN σ) trip + j ≤ i ∧ i < f1F (lkN σ) (trip + 1)
    · have x := (tr_nx h ht (i := i) (by omega) c.2).mp n'
      rw [if_pos c, if_pos (by omega)]
      omega
    · rw [if_neg c]
      by_cases d : f1F (lkN σ) trip + j ≤ i + 1 ∧ i + 1 < f1F (lkN σ) (trip + 1)
      · rw [if_pos d]
        have y : i + 1 = f1F (lkN σ) trip + j := by omega
        by_cases w : gN σ 155 (115 + 5 * (i + 1) + 3) + mi < gN (lkN σ) 162 i
        · refine absurd (Or.inr ⟨by omega, ?_, ?_⟩) hr
          · rw [← y, show i + 1 - 1 = i by omega]; exact n'
          · rw [← y, show i + 1 - 1 = i by omega]; exact w
        · omega
      · rw [if_neg d]; exact o
  · rw [e155] at i1
    have t := tv i i0 i1
    have o := h.2.2.2.2 i i0 i1
    rw [t.1]
    by_cases c : f1F (lkN σ) trip + j ≤ i ∧ i < f1F (lkN σ) (trip + 1)
    · rw [if_pos c]
      have u := le_up h ht (fi := f1F (lkN σ) trip + j) (by omega) (i - (f1F (lkN σ) trip + j)).toNat (by omega)
      rw [show f1F (lkN σ) trip + j + ((i - (f1F (lkN σ) trip + j)).toNat : Int) = i by omega] at u
      omega
    · rw [if_neg c]; exact o
