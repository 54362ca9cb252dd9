/-! The world's order depends on what is told and how late it is, alone. -/
theorem LW.of {σ u : Sto} (h : LW σ) (e155 : ∀ q, gN u 155 q = gN σ 155 q) (e158 : ∀ i : Int, 0 ≤ i → i < 60 → gN u 158 i = gN σ 158 i) : LW u := by
  have R := h.1.1
  have hW : WOK u := by
    have w := h.1
    unfold WOK at w ⊢
    simp only [e155]
    exact ⟨w.1, w.2.1, w.2.2.1, w.2.2.2.1, w.2.2.2.2.1, w.2.2.2.2.2.1, fun i i0 i1 => by rw [e158 i i0 i1]; exact w.2.2.2.2.2.2 i i0 i1⟩
  have tv : ∀ i : Int, 0 ≤ i → i < gN σ 155 3 → gN (lkN u) 161 i = gN (lkN σ) 161 i ∧ gN (lkN u) 162 i = gN (lkN σ) 162 i := by
    intro i i0 i1
    have a := lkN_t hW (i := i) i0 (by rw [e155]; exact i1)
    have b := lkN_t h.1 (i := i) i0 i1
    rw [a.1, a.2, e155, e155, e158 i i0 (by omega), b.1, b.2]
    exact ⟨rfl, rfl⟩
  refine ⟨hW, WX.of e155 h.2.1, TrOK.of e155 h.2.2.1, ⟨fun i i0 i1 => ?_, fun i i0 n => ?_⟩, fun i i0 i1 => ?_⟩
  · have i1 : i < gN u 155 3 := i1
    rw [e155] at i1
    rw [(tv i i0 i1).1, (tv i i0 i1).2]
    exact h.O.1 i i0 i1
  · have n' : nxt σ i := by
      have a : i + 1 < gN u 155 3 := n.1
      have b : gN u 155 (115 + 5 * (i + 1) + 0) = gN u 155 (115 + 5 * i + 0) := n.2
      rw [e155] at a
      rw [e155, e155] at b
      exact ⟨a, b⟩
    have n1 := n'.1
    rw [(tv i i0 (by omega)).2, (tv (i + 1) (by omega) n1).1]
    exact h.O.2 i i0 n'
  · rw [e155] at i1
    rw [(tv i i0 i1).1]
    exact h.2.2.2.2 i i0 i1
