/-! What can be undone: the class's ring, the reference's rows. -/
def UnR (σ : Sto) : Prop := gN σ 15 0 = gN σ 153 20 ∧ (0 ≤ gN σ 15 1 ∧ gN σ 15 1 < 20) ∧ ∀ k : Int, 0 ≤ k → k < gN σ 153 20 → gL σ 17 (rgI (gN σ 15 1) (gN σ 153 20) k) = gL σ 160 k ∧ ∀ i : Int, 0 ≤ i → i < gN σ 155 3 → gN σ (18 + (rgI (gN σ 15 1) (gN σ 153 20) k).toNat) i = gN σ 159 (60 * k + i)
theorem rg_rng {tp sz k : Int} : 0 ≤ rgI tp sz k ∧ rgI tp sz k < 20 := by unfold rgI; omega
theorem UnR.push {σ u : Sto} (h : UnR σ) (hU : UnOK σ) (hR : gN σ 155 3 ≤ 60) (hR2 : gN u 155 3 = gN σ 155 3)
    (c0 : gN u 15 0 = if gN σ 15 0 + 1 < 20 then gN σ 15 0 + 1 else 20) (c1 : gN u 15 1 = if gN σ 15 1 + 1 < 20 then gN σ 15 1 + 1 else 0)
    (cL : gL u 17 (gN σ 15 1) = gL σ 153 17) (cLo : ∀ k : Int, 0 ≤ k → k < 20 → k ≠ gN σ 15 1 → gL u 17 k = gL σ 17 k)
    (cN : ∀ i : Int, 0 ≤ i → i < gN σ 155 3 → gN u (18 + (gN σ 15 1).toNat) i = gN σ 158 i) (cNo : ∀ k : Int, 0 ≤ k → k < 20 → k ≠ gN σ 15 1 → ∀ i : Int, gN u (18 + k.toNat) i = gN σ (18 + k.toNat) i)
    (r0 : gN u 153 20 = gN σ 153 20 - dn σ + 1) (rN : ∀ k i : Int, 0 ≤ k → k < gN σ 153 20 - dn σ → 0 ≤ i → i < 60 → gN u 159 (60 * k + i) = gN σ 159 (60 * (k + dn σ) + i)) (rT : ∀ i : Int, 0 ≤ i → i < 60 → gN u 159 (60 * (gN σ 153 20 - dn σ) + i) = gN σ 158 i)
    (rL : ∀ k : Int, 0 ≤ k → k < gN σ 153 20 - dn σ → gL u 160 k = gL σ 160 (k + dn σ)) (rM : gL u 160 (gN σ 153 20 - dn σ) = gL σ 153 17) : UnR u := by
  obtain ⟨h0, h1, h2⟩ := h
  have z := hU.1
  have d : dn σ = if gN σ 153 20 = 20 then 1 else 0 := rfl
  have e : gN u 153 20 = if gN σ 153 20 + 1 < 20 then gN σ 153 20 + 1 else 20 := by
    rw [r0, d]
    split <;> split <;> omega
  refine ⟨by rw [c0, e, h0], by rw [c1]; split <;> omega, fun k k0 k1 => ?_⟩
  rw [r0] at k1
  rw [c1, e, hR2]
  by_cases w : k = gN σ 153 20 - dn σ
  · have r := rg_next (tp := gN σ 15 1) (sz := gN σ 153 20) h1.1 h1.2 z.1 z.2
    rw [← d] at r
    rw [w, r]
    refine ⟨cL.trans rM.symm, fun i i0 i1 => ?_⟩
    rw [cN i i0 i1, rT i i0 (by omega)]
  · have r := rg_keep (tp := gN σ 15 1) (sz := gN σ 153 20) (k := k) h1.1 h1.2 z.1 z.2 k0 (by rw [← d]; omega)
    rw [← d] at r
    have rr := rg_rng (tp := gN σ 15 1) (sz := gN σ 153 20) (k := k + dn σ)
    have dd : 0 ≤ dn σ := by rw [d]; split <;> omega
    have o := h2 (k + dn σ) (by omega) (by omega)
    rw [r.1]
    refine ⟨?_, fun i i0 i1 => ?_⟩
    · rw [cLo _ rr.1 rr.2 r.2, o.1, rL k k0 (by omega)]
    · rw [cNo _ rr.1 rr.2 r.2 i, o.2 i i0 i1, rN k i k0 (by omega) i0 (by omega)]
theorem UnR.pop {σ u : Sto} (h : UnR σ) (hU : UnOK σ) (hp : 0 < gN σ 153 20) (hR2 : gN u 155 3 = gN σ 155 3) (c0 : gN u 15 0 = gN σ 15 0 - 1) (c1 : gN u 15 1 = tbT (gN σ 15 1)) (cL : ∀ k : Int, gL u 17 k = gL σ 17 k) (cN : ∀ k : Int, 0 ≤ k → k < 20 → ∀ i : Int, gN u (18 + k.toNat) i = gN σ (18 + k.toNat) i) (r0 : gN u 153 20 = gN σ 153 20 - 1) (rN : ∀ j : Int, gN u 159 j = gN σ 159 j) (rL : ∀ k : Int, gL u 160 k = gL σ 160 k) : UnR u := by
  obtain ⟨h0, h1, h2⟩ := h
  have z := hU.1
  refine ⟨by rw [c0, r0, h0], by rw [c1]; unfold tbT; split <;> omega, fun k k0 k1 => ?_⟩
  rw [r0] at k1
  have r := rg_less (tp := gN σ 15 1) (sz := gN σ 153 20) (k := k) h1.1 h1.2 hp z.2
  have rr := rg_rng (tp := gN σ 15 1) (sz := gN σ 153 20) (k := k)
  have o := h2 k k0 (by omega)
  rw [c1, r0, r, hR2]
  exact ⟨by rw [cL, rL]; exact o.1, fun i i0 i1 => by rw [cN _ rr.1 rr.2 i, rN]; exact o.2 i i0 i1⟩
