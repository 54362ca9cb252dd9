/-! Class and reference answer alike: delays. -/
theorem tr_nx {σ : Sto} (h : LW σ) {trip i : Int} (ht : trp σ trip) (h0 : f1F (lkN σ) trip ≤ i) (h1 : i < f1F (lkN σ) (trip + 1)) : nxt σ i ↔ i + 1 < f1F (lkN σ) (trip + 1) := by
  have f := f1_lt h.V (trip := trip) ht
  have e : gN (lkN σ) 155 3 = gN σ 155 3 := rfl
  have a := (f1_iff h.V (trip := trip) ht (i := i) (by omega) (by omega)).mpr ⟨h0, h1⟩
  have a : gN σ 155 (115 + 5 * i + 0) = trip := a
  constructor
  · rintro ⟨x, y⟩
    have b := (f1_iff h.V (trip := trip) ht (i := i + 1) (by omega) (by omega)).mp (show gN σ 155 (115 + 5 * (i + 1) + 0) = trip by rw [y, a])
    exact b.2
  · intro x
    have b := (f1_iff h.V (trip := trip) ht (i := i + 1) (by omega) (by omega)).mpr ⟨by omega, x⟩
    have b : gN σ 155 (115 + 5 * (i + 1) + 0) = trip := b
    exact ⟨by omega, by rw [b, a]⟩
theorem cg_on {σ : Sto} (h : LW σ) {frm mi : Int} : ∀ (d : Nat) (i ahead : Int), frm ≤ i → 0 ≤ i → i + d = gN σ 155 3 → ahead ≤ gN σ 155 (115 + 5 * i + 3) + mi → cgF σ frm mi d i ahead = true
  | 0, _, _, _, _, _, _ => rfl
  | d + 1, i, ahead, h0, h1, h2, h3 => by
    unfold cgF
    have e : cgB σ frm mi i = mi := by unfold cgB; rw [if_neg (by omega)]
    rw [e, if_neg (by omega)]
    by_cases c : nxt σ i
    · rw [if_pos c]
      have o := h.2.1.2.2.2.1 i h1 c
      exact cg_on h d (i + 1) _ (by omega) (by omega) (by omega) (by omega)
    · rw [if_neg c]
theorem cg_eq {σ : Sto} (h : LW σ) {trip frm mi : Int} (ht : trp σ trip) (hf : frm < f1F (lkN σ) (trip + 1)) : ∀ (k : Nat) (d : Nat) (i ahead : Int), i + k = frm → f1F (lkN σ) trip ≤ i → i + d = gN σ 155 3 → (i = f1F (lkN σ) trip → ahead = 0) → (i ≠ f1F (lkN σ) trip → ahead = gN (lkN σ) 162 (i - 1)) → (cgF σ frm mi d i ahead = false ↔ gN σ 155 (115 + 5 * frm + 3) + mi < (if frm = f1F (lkN σ) trip then 0 else gN (lkN σ) 162 (frm - 1)))
  | k, 0, i, ahead, h0, h1, h2, h3, h4 => by
    have f := f1_lt h.V (trip := trip) ht
    have e : gN (lkN σ) 155 3 = gN σ 155 3 := rfl
    omega
  | 0, d + 1, i, ahead, h0, h1, h2, h3, h4 => by
    have f := f1_lt h.V (trip := trip) ht
    have e0 : i = frm := by omega
    subst e0
    have ea : ahead = if i = f1F (lkN σ) trip then 0 else gN (lkN σ) 162 (i - 1) := by
      by_cases c : i = f1F (lkN σ) trip
      · rw [if_pos c]; exact h3 c
      · rw [if_neg c]; exact h4 c
    rw [← ea]
    unfold cgF
    have e : cgB σ i mi i = mi := by unfold cgB; rw [if_neg (by omega)]
    rw [e]
    by_cases c : gN σ 155 (115 + 5 * i + 3) + mi < ahead
    · rw [if_pos c]; exact ⟨fun _ => c, fun _ => rfl⟩
    · rw [if_neg c]
      refine ⟨fun x => ?_, fun x => absurd x c⟩
      by_cases n : nxt σ i
      · rw [if_pos n, cg_on h d (i + 1) _ (by omega) (by omega) (by omega) (by have o := h.2.1.2.2.2.1 i (by omega) n; omega)] at x
        exact absurd x (by decide)
      · rw [if_neg n] at x
        exact absurd x (by decide)
  | k + 1, d + 1, i, ahead, h0, h1, h2, h3, h4 => by
    have f := f1_lt h.V (trip := trip) ht
    have hl : i < gN σ 155 3 := by omega
    have t := lkN_t h.1 (i := i) (by omega) hl
    have nx := (tr_nx h ht h1 (by omega)).mpr (show i + 1 < f1F (lkN σ) (trip + 1) by omega)
    have ge : ahead ≤ gN (lkN σ) 161 i := by
      by_cases c : i = f1F (lkN σ) trip
      · rw [h3 c]; exact h.2.2.2.2 i (by omega) hl
      · rw [h4 c]
        have n1 := (tr_nx h ht (i := i - 1) (by omega) (by omega)).mpr (by omega)
        have o := h.O.2 (i - 1) (by omega) n1
        rw [show i - 1 + 1 = i by omega] at o
        exact o
    have e : cgB σ frm mi i = gN σ 158 i := by unfold cgB; rw [if_pos (by omega)]
    unfold cgF
    rw [e, ← t.1, if_neg (by omega), if_pos nx, ← t.2]
    exact cg_eq h ht hf k d (i + 1) _ (by omega) (by omega) (by omega) (fun x => by omega) (fun _ => by rw [show i + 1 - 1 = i by omega])
theorem dl_eq {σ : Sto} (h : LW σ) {trip mi : Int} (ht : trp σ trip) : ∀ (k d : Nat) (i n : Int), f1F (lkN σ) trip ≤ i → i + k + 1 = f1F (lkN σ) (trip + 1) → i + d = gN σ 155 3 → dlF σ mi d i n = itr (dlC (lkN σ) mi) (k + 1) i n
  | k, 0, i, n, h0, h1, h2 => by
    have f := f1_lt h.V (trip := trip) ht
    have e : gN (lkN σ) 155 3 = gN σ 155 3 := rfl
    omega
  | 0, d + 1, i, n, h0, h1, h2 => by
    have t := lkN_t h.1 (i := i) (by have := f1_lt h.V (trip := trip) ht; omega) (by omega)
    have nx : ¬ nxt σ i := fun x => by have := (tr_nx h ht h0 (by omega)).mp x; omega
    unfold dlF
    rw [if_neg nx, itr_s]
    show _ = dlC (lkN σ) mi i n
    unfold dlC
    rw [t.1, show gN (lkN σ) 155 (115 + 5 * i + 3) = gN σ 155 (115 + 5 * i + 3) from rfl]
    by_cases c : gN σ 158 i = mi
    · rw [if_pos c, if_pos (by omega)]; omega
    · rw [if_neg c, if_neg (by omega)]
  | k + 1, d + 1, i, n, h0, h1, h2 => by
    have t := lkN_t h.1 (i := i) (by have := f1_lt h.V (trip := trip) ht; omega) (by omega)
    have nx : nxt σ i := (tr_nx h ht h0 (by omega)).mpr (by omega)
    unfold dlF
    rw [if_pos nx, itr_s, dl_eq h ht k d (i + 1) _ (by omega) (by omega) (by omega)]
    congr 1
    unfold dlC
    rw [t.1, show gN (lkN σ) 155 (115 + 5 * i + 3) = gN σ 155 (115 + 5 * i + 3) from rfl]
    by_cases c : gN σ 158 i = mi
    · rw [if_pos c, if_pos (by omega)]; omega
    · rw [if_neg c, if_neg (by omega)]
theorem of_iff {σ : Sto} (h : LW σ) {trip j : Int} : ofT (lkN σ) trip j ↔ ¬ (¬ trp σ trip ∨ j < 0 ∨ moF σ trip ≤ j) := by
  by_cases c : trp σ trip
  · have m : moF σ trip = f1F (lkN σ) (trip + 1) - f1F (lkN σ) trip := mo_eq h.V (trip := trip) c
    rw [m]
    exact ⟨fun x y => y.elim (fun z => z c) (fun z => by have := x.2; omega), fun x => ⟨c, by omega, by omega⟩⟩
  · exact ⟨fun x => absurd x.1 c, fun x => absurd (Or.inl c) x⟩
theorem q_delay {σ : Sto} (h : LW σ) (trip j mi : Int) : cDelay (lkN σ) trip j mi = delayF σ trip j mi := by
  unfold cDelay delayF
  have o := of_iff h (trip := trip) (j := j)
  by_cases c : ¬ trp σ trip ∨ j < 0 ∨ moF σ trip ≤ j ∨ mi < -60 ∨ 240 < mi
  · rw [if_pos c, if_pos]
    by_cases d : ofT (lkN σ) trip j
    · refine Or.inr ?_
      have k := o.mp d
      rcases c with x | x | x | x
      · exact absurd (Or.inl x) k
      · exact absurd (Or.inr (Or.inl x)) k
      · exact absurd (Or.inr (Or.inr x)) k
      · exact x
    · exact Or.inl d
  · have k : ofT (lkN σ) trip j := o.mpr (fun x => c (x.elim Or.inl (fun y => y.elim (fun z => Or.inr (Or.inl z)) (fun z => Or.inr (Or.inr (Or.inl z))))))
    have hm : ¬ (mi < -60 ∨ 240 < mi) := fun x => c (Or.inr (Or.inr (Or.inr x)))
    rw [if_neg c, if_neg (fun x => x.elim (fun y => y k) hm)]
    have ht : trp σ trip := k.1
    have f := f1_lt h.V (trip := trip) ht
    have e : gN (lkN σ) 155 3 = gN σ 155 3 := rfl
    have fo : foF σ trip = f1F (lkN σ) trip := fo_f1 (ρ := lkN σ) k.1
    have k1 := k.2.1
    have k2 := k.2.2
    rw [fo]
    have cg := cg_eq h (mi := mi) (frm := f1F (lkN σ) trip + j) ht (by omega) j.toNat (gN σ 155 3 - f1F (lkN σ) trip).toNat (f1F (lkN σ) trip) 0 (by omega) (by omega) (by omega) (fun _ => rfl) (fun x => absurd rfl x)
    have rf : rfz (lkN σ) (f1F (lkN σ) trip + j) mi ↔ canF σ trip (f1F (lkN σ) trip + j) mi = false := by
      unfold canF
      rw [fo, cg]
      unfold rfz LE_
      rw [show gN (lkN σ) 155 (115 + 5 * (f1F (lkN σ) trip + j) + 3) = gN σ 155 (115 + 5 * (f1F (lkN σ) trip + j) + 3) from rfl]
      by_cases z : j = 0
      · rw [if_pos (by omega)]
        constructor
        · rintro (x | ⟨x, y, w⟩)
          · exact x
          · exfalso
            have b := (f1_iff h.V (trip := trip) ht (i := f1F (lkN σ) trip) (by omega) (by omega)).mpr ⟨by omega, by omega⟩
            have y2 := y.2
            rw [show f1F (lkN σ) trip + j - 1 + 1 = f1F (lkN σ) trip by omega, b] at y2
            have q := (f1_iff h.V (trip := trip) ht (i := f1F (lkN σ) trip + j - 1) (by omega) (by omega)).mp y2.symm
            omega
        · intro x
          exact Or.inl x
      · rw [if_neg (by omega)]
        have p := h.c0 (f1F (lkN σ) trip + j - 1) (by omega) (by omega)
        have nx : nxt (lkN σ) (f1F (lkN σ) trip + j - 1) := (tr_nx h ht (i := f1F (lkN σ) trip + j - 1) (by omega) (by omega)).mpr (by omega)
        constructor
        · rintro (x | ⟨x, y, w⟩)
          · omega
          · exact w
        · intro x
          exact Or.inr ⟨by omega, nx, x⟩
    refine ite_congr (propext rf) (fun _ => rfl) (fun _ => ?_)
    have dl := dl_eq h (mi := mi) ht (f1F (lkN σ) (trip + 1) - (f1F (lkN σ) trip + j) - 1).toNat (gN σ 155 3 - (f1F (lkN σ) trip + j)).toNat (f1F (lkN σ) trip + j) 0 (by omega) (by omega) (by omega)
    rw [dl, show (f1F (lkN σ) (trip + 1) - (f1F (lkN σ) trip + j) - 1).toNat + 1 = (f1F (lkN σ) (trip + 1) - (f1F (lkN σ) trip + j)).toNat by omega]
