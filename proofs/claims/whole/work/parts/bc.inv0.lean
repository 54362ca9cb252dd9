/-! The state in which the law's loop begins. -/
def Bgn (u : Sto) : Prop := RowIs u 155 (closeF frF) ∧ (∀ i : Int, 0 ≤ i → i < 60 → gN u 158 i = 0) ∧ gL u 153 17 = 0 ∧ (gN u 153 20 = 0 ∧ gN u 153 38 = 0 ∧ gN u 153 2 = 0 ∧ gN u 153 14 = 0 ∧ gN u 153 15 = -1) ∧ (∀ (c : Nat) (j : Int), c < 153 → gN u c j = if c = 2 ∧ j = 1 then -1 else 0) ∧ (∀ (c : Nat) (j : Int), c < 153 → gL u c j = 0) ∧ (gR u 0 12 = some 91 ∧ gR u 0 13 = some 122 ∧ gR u 3 0 = some 91 ∧ gR u 7 0 = some 91) ∧ (∀ j : Int, gN u 154 j = 0 ∧ gN u 161 j = 0 ∧ gN u 162 j = 0)
theorem fr_key : ∀ a : Nat, a < 10 → ∀ b : Nat, b < 10 → frF (15 + 10 * (a : Int) + (b : Int)) = if a = b then 0 else 1000000 := by decide +kernel
theorem frF_wp : Wp frF ((0 : Nat) : Int) 240 := by
  intro a b a0 a1 b0 b1
  obtain ⟨x, rfl⟩ := Int.eq_ofNat_of_zero_le a0
  obtain ⟨y, rfl⟩ := Int.eq_ofNat_of_zero_le b0
  have hk := fr_key x (by omega) y (by omega)
  refine ⟨fun q => ?_, fun q => Or.inl ?_⟩
  · rw [hk, if_pos (by omega)]
  · rw [hk, if_neg (by omega)]
theorem Bgn.inv {u : Sto} (h : Bgn u) : INV u := by
  obtain ⟨h155, h158, hOff, ⟨u20, u38, u2, u14, u15⟩, hcn, hcl, ⟨r12, r13, r3, r7⟩, hz⟩ := h
  obtain ⟨wp, -, oth⟩ := close_all (S := 0) (by decide) frF_wp
  have ef : ∀ j : Int, 0 ≤ j → j < 415 → (j < 15 ∨ 115 ≤ j) → gN u 155 j = 0 := fun j q0 q1 q2 => by
    rw [h155 j q0 q1, oth j q2]
    unfold frF
    rw [if_neg (by omega)]
  have e0 := ef 0 (by omega) (by omega) (by omega)
  have e1 := ef 1 (by omega) (by omega) (by omega)
  have e2 := ef 2 (by omega) (by omega) (by omega)
  have e3 := ef 3 (by omega) (by omega) (by omega)
  have k155 : ∀ j, gN (lkN u) 155 j = gN u 155 j := fun _ => rfl
  have t155 : ∀ j, gN (tdW u) 155 j = gN u 155 j := fun _ => rfl
  have o23 : gL (lkN u) 153 23 = 0 := by
    show lkO u (-1) 0 = 0
    unfold lkO
    rw [e3]
    exact hOff
  have t23 : gL (tdW u) 153 23 = 0 := by
    show lkO (tdB u) (-1) 0 = 0
    unfold lkO
    have q : gN (tdB u) 155 3 = 0 := e3
    rw [q]
    rfl
  have wz : ∀ a b : Int, 0 ≤ a → a < 10 → 0 ≤ b → b < 10 → (a = b → gN u 155 (15 + 10 * a + b) = 0) ∧ (a ≠ b → gN u 155 (15 + 10 * a + b) = 1000000) := fun a b a0 a1 b0 b1 => by
    have hw := wp a b a0 a1 b0 b1
    rw [h155 _ (by omega) (by omega)]
    refine ⟨hw.1, fun q => ?_⟩
    rcases hw.2 q with q1 | q1
    · exact q1
    · exact absurd q1.2.2.1 (by omega)
  have hWO : WOK u := by
    refine ⟨by rw [e3]; omega, by rw [e0]; omega, by rw [e2]; omega, fun i i0 i1 => ?_, fun a b a0 a1 b0 b1 => ?_, fun a a0 a1 => ?_, fun i i0 i1 => ?_⟩
    · rw [ef _ (by omega) (by omega) (by omega), ef (115 + 5 * i + 1) (by omega) (by omega) (by omega), ef (115 + 5 * i + 2) (by omega) (by omega) (by omega), ef (115 + 5 * i + 3) (by omega) (by omega) (by omega), ef (115 + 5 * i + 4) (by omega) (by omega) (by omega)]
      omega
    · have q := wz a b a0 a1 b0 b1
      by_cases hab : a = b
      · rw [q.1 hab]; omega
      · rw [q.2 hab]; omega
    · rw [ef _ (by omega) (by omega) (by omega)]; omega
    · rw [h158 i i0 i1]; omega
  have hWX : WX u := by
    refine ⟨fun i i0 i1 => by omega, fun a b a0 a1 b0 b1 => ?_, fun a a0 a1 => (wz a a a0 a1 a0 a1).1 rfl, fun i i0 hn => by have := hn.1; omega, by rw [e1]; omega⟩
    have q := wz a b a0 a1 b0 b1
    by_cases hab : a = b
    · rw [q.1 hab]; omega
    · rw [q.2 hab]; omega
  have hTr : TrOK u := ⟨fun trip ht => by have := ht.1; have := ht.2; omega, fun i i0 i1 => by omega⟩
  have hLW : LW u := ⟨hWO, hWX, hTr, ⟨fun i i0 i1 => by rw [k155] at i1; omega, fun i i0 hn => by have := hn.1; rw [k155] at this; omega⟩, fun i i0 i1 => by omega⟩
  have cz : ∀ (c : Nat) (j : Int), c < 153 → c ≠ 2 → gN u c j = 0 := fun c j q1 q2 => by rw [hcn c j q1, if_neg (fun q => q2 q.1)]
  have n91 : ∀ j : Int, 0 ≤ j → j < 4 → gN u 155 j = 0 := fun j j0 j1 => ef j j0 (by omega) (by omega)
  have hNet : NetR u 91 (lkN u) := by
    refine ⟨Or.inl rfl, fun j j0 j1 => ?_, fun s s0 s1 => ?_, fun a b a0 a1 b0 b1 => ?_, fun i i0 i1 => ?_, fun t t0 t1 => ?_⟩
    · rw [k155, n91 j j0 j1]; exact cz 91 j (by omega) (by omega)
    · rw [k155] at s1; omega
    · rw [k155] at a1; omega
    · rw [k155] at i1; omega
    · rw [k155] at t1
      have q : t = 0 := by omega
      subst q
      rw [cz (91 + 5) 0 (by omega) (by omega)]
      unfold f1F
      rw [if_neg (by rw [k155]; omega), k155, e3]
  have hTm : ∀ (T : Nat) (ρ : Sto), Tok T → gR u T 0 = some 91 → (∀ j, gN ρ 155 j = gN u 155 j) → gL ρ 153 23 = 0 → TmR u 91 T ρ := fun T ρ hT hr hk ho => by
    have hlt : T < 153 := by rcases hT with q | q | q <;> omega
    have hne : T ≠ 2 := by rcases hT with q | q | q <;> omega
    refine ⟨hT, hr, ?_, fun i i0 i1 => ?_, Or.inl (cz T 2 hlt hne)⟩
    · rw [ho]; exact hcl T 1 hlt
    · rw [hk] at i1; omega
  have hCQ : CQ u (lkN u) 91 := by
    refine ⟨r12, hNet, hTm 7 _ (Or.inr (Or.inl rfl)) r7 k155 o23, fun q => ?_, fun t t0 t1 => ⟨Or.inl (cz 42 t (by omega) (by omega)), fun q => ?_⟩⟩
    · rw [cz 7 2 (by omega) (by omega)] at q; omega
    · rw [k155] at q; omega
  refine ⟨91, 122, [], ⟨hCQ, hTm 3 _ (Or.inl rfl) r3 t155 t23, r13, Or.inr rfl, by decide, cz 96 0 (by omega) (by omega), cz 127 0 (by omega) (by omega)⟩, ⟨hLW, fun i i0 i1 => ?_, ⟨by rw [u20]; omega, fun k i k0 k1 => ?_⟩, ⟨by rw [u38]; omega, fun l l0 l1 => ?_⟩, fun j => ?_, fun i i0 i1 => ?_⟩, ⟨by rw [u2]; omega, ?_, fun j j0 j1 => ?_, ?_, ?_⟩, ⟨⟨u38, fun l l0 l1 => ?_⟩, ⟨?_, fun l q hq => ?_⟩, fun q hq => ?_, ?_⟩, ⟨?_, ?_, fun k k0 k1 => ?_⟩, fun k k0 k1 => ?_⟩
  · rw [(hz i).2.1, (hz i).2.2]; omega
  · rw [u20] at k1; omega
  · rw [u38] at l1; omega
  · rw [(hz j).1]; omega
  · rw [hOff]; unfold bt; simp
  · rw [u2]; exact cz 0 14 (by omega) (by omega)
  · rw [u2] at j1; omega
  · rw [u14, hcn 2 0 (by omega), if_neg (by omega)]
  · rw [u15, hcn 2 1 (by omega), if_pos ⟨rfl, rfl⟩]
  · have l1 : l < 0 := l1
    omega
  · exact cz 86 0 (by omega) (by omega)
  · cases hq
  · cases hq
  · decide
  · rw [u20]; exact cz 15 0 (by omega) (by omega)
  · rw [cz 15 1 (by omega) (by omega)]; omega
  · rw [u20] at k1; omega
  · rw [u20] at k1; omega
