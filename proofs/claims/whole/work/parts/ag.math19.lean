/-! Class and reference answer alike: cancelling. -/
theorem cnS_bt {b i : Int} {s : Int64} {q : Int} (i0 : 0 ≤ i) (i1 : i < 64) (q0 : 0 ≤ q) (q1 : q < 64) : bt (cnS b i s) q = if q = i then decide (b ≠ 0) else bt s q := by
  unfold cnS
  by_cases c : b = 0
  · rw [if_pos c, bt_and, bt_not q0 q1, bt_shl i0 i1 q0 q1]
    by_cases d : q = i
    · rw [if_pos d, decide_eq_true d, decide_eq_false (by omega), Bool.not_true, Bool.and_false]
    · rw [if_neg d, decide_eq_false d, Bool.not_false, Bool.and_true]
  · rw [if_neg c, bt_or, bt_shl i0 i1 q0 q1]
    by_cases d : q = i
    · rw [if_pos d, decide_eq_true d, decide_eq_true c, Bool.or_true]
    · rw [if_neg d, decide_eq_false d, Bool.or_false]
theorem cn_bt {σ : Sto} (h : LW σ) {trip b : Int} (ht : trp σ trip) : ∀ (k d : Nat) (left i : Int) (s : Int64), 0 ≤ left → f1F (lkN σ) trip ≤ i → i + k + 1 = f1F (lkN σ) (trip + 1) → i + d = gN σ 155 3 → ∀ q : Int, 0 ≤ q → q < 64 → bt (cnF σ b d left i s) q = if i ≤ q ∧ q < f1F (lkN σ) (trip + 1) ∧ q < i + left then decide (b ≠ 0) else bt s q
  | k, 0, left, i, s, _, h0, h1, h2 => by
    have f := f1_lt h.V (trip := trip) ht
    have e : gN (lkN σ) 155 3 = gN σ 155 3 := rfl
    omega
  | 0, d + 1, left, i, s, hl, h0, h1, h2 => by
    intro q q0 q1
    have f := f1_lt h.V (trip := trip) ht
    have R := h.1.1
    have nx : ¬ nxt σ i := fun x => by have := (tr_nx h ht h0 (by omega)).mp x; omega
    unfold cnF
    by_cases c : 0 < left
    · rw [if_pos c, if_neg nx, cnS_bt (by omega) (by omega) q0 q1]
      by_cases z : q = i
      · rw [if_pos z, if_pos (by omega)]
      · rw [if_neg z, if_neg (by omega)]
    · rw [if_neg c, if_neg (by omega)]
  | k + 1, d + 1, left, i, s, hl, h0, h1, h2 => by
    intro q q0 q1
    have f := f1_lt h.V (trip := trip) ht
    have R := h.1.1
    have nx : nxt σ i := (tr_nx h ht h0 (by omega)).mpr (by omega)
    unfold cnF
    by_cases c : 0 < left
    · rw [if_pos c, if_pos nx, cn_bt h ht k d (left - 1) (i + 1) _ (by omega) (by omega) (by omega) (by omega) q q0 q1, cnS_bt (by omega) (by omega) q0 q1]
      by_cases z : q = i
      · rw [if_neg (by omega), if_pos z, if_pos (by omega)]
      · rw [if_neg z]
        by_cases w : i + 1 ≤ q ∧ q < f1F (lkN σ) (trip + 1) ∧ q < i + 1 + (left - 1)
        · rw [if_pos w, if_pos (by omega)]
        · rw [if_neg w, if_neg (by omega)]
    · rw [if_neg c, if_neg (by omega)]
/-- which rides it speaks of -/
theorem cn_all {σ : Sto} (h : LW σ) {trip j n b : Int} (hk : ofT (lkN σ) trip j) (hn : 1 ≤ n) {q : Int} (q0 : 0 ≤ q) (q1 : q < 64) : bt (cnV σ trip j n b) q = if f1F (lkN σ) trip + j ≤ q ∧ q < cnE (lkN σ) trip (f1F (lkN σ) trip + j) n then decide (b ≠ 0) else bt (gL σ 153 17) q := by
  have ht : trp σ trip := hk.1
  have f := f1_lt h.V (trip := trip) ht
  have e : gN (lkN σ) 155 3 = gN σ 155 3 := rfl
  have fo : foF σ trip = f1F (lkN σ) trip := fo_f1 (ρ := lkN σ) hk.1
  have k1 := hk.2.1
  have k2 := hk.2.2
  unfold cnV
  rw [fo, cn_bt h ht (f1F (lkN σ) (trip + 1) - (f1F (lkN σ) trip + j) - 1).toNat _ n _ _ (by omega) (by omega) (by omega) (by omega) q q0 q1]
  have c : (f1F (lkN σ) trip + j ≤ q ∧ q < f1F (lkN σ) (trip + 1) ∧ q < f1F (lkN σ) trip + j + n) ↔ (f1F (lkN σ) trip + j ≤ q ∧ q < cnE (lkN σ) trip (f1F (lkN σ) trip + j) n) := by
    unfold cnE
    split <;> omega
  simp only [c]
theorem cnE_rng {ρ : Sto} {trip fi n : Int} (h0 : fi < f1F ρ (trip + 1)) (hn : 1 ≤ n) : fi < cnE ρ trip fi n ∧ cnE ρ trip fi n ≤ f1F ρ (trip + 1) := by
  unfold cnE
  split <;> omega
theorem cnB_eq {σ : Sto} (h : LW σ) {trip j n b : Int} (hk : ofT (lkN σ) trip j) (hn : 1 ≤ n) : cnB (lkN σ) b (f1F (lkN σ) trip + j) (cnE (lkN σ) trip (f1F (lkN σ) trip + j) n) = cnV σ trip j n b := by
  have ht : trp σ trip := hk.1
  have f := f1_lt h.V (trip := trip) ht
  have R := h.1.1
  have e : gN (lkN σ) 155 3 = gN σ 155 3 := rfl
  have k1 := hk.2.1
  have k2 := hk.2.2
  have r := cnE_rng (ρ := lkN σ) (trip := trip) (fi := f1F (lkN σ) trip + j) (n := n) (by omega) hn
  refine bt_ext (fun q q0 q1 => ?_)
  rw [cn_all h hk hn q0 q1]
  have bb : bt (bitsF (f1F (lkN σ) trip + j) (cnE (lkN σ) trip (f1F (lkN σ) trip + j) n)) q = decide (f1F (lkN σ) trip + j ≤ q ∧ q < cnE (lkN σ) trip (f1F (lkN σ) trip + j) n) := by
    unfold bitsF
    rw [bits_bt _ _ _ q (by omega) (by omega) q0 q1, bt_0, Bool.false_or, decide_eq_decide]
    omega
  have o : gL (lkN σ) 153 23 = gL σ 153 17 := look23_0 σ (-1) 0
  unfold cnB
  rw [o]
  by_cases c : b = 0
  · rw [if_pos c, bt_and, bt_not q0 q1, bb]
    by_cases d : f1F (lkN σ) trip + j ≤ q ∧ q < cnE (lkN σ) trip (f1F (lkN σ) trip + j) n
    · rw [if_pos d, decide_eq_true d, decide_eq_false (by omega), Bool.not_true, Bool.and_false]
    · rw [if_neg d, decide_eq_false d, Bool.not_false, Bool.and_true]
  · rw [if_neg c, bt_or, bb]
    by_cases d : f1F (lkN σ) trip + j ≤ q ∧ q < cnE (lkN σ) trip (f1F (lkN σ) trip + j) n
    · rw [if_pos d, decide_eq_true d, decide_eq_true c, Bool.or_true]
    · rw [if_neg d, decide_eq_false d, Bool.or_false]
theorem q_cancel {σ : Sto} (h : LW σ) (trip j n b : Int) (hb : b = 0 ∨ b = 1) : cCancel (lkN σ) trip j n b = cancelF σ trip j n b := by
  unfold cCancel cancelF
  have o := of_iff h (trip := trip) (j := j)
  by_cases c : ¬ trp σ trip ∨ j < 0 ∨ moF σ trip ≤ j ∨ n < 1
  · rw [if_pos c, if_pos]
    by_cases d : ofT (lkN σ) trip j
    · refine Or.inr ?_
      have k := o.mp d
      rcases c with x | x | x | x
      · exact absurd (Or.inl x) k
      · exact absurd (Or.inr (Or.inl x)) k
      · exact absurd (Or.inr (Or.inr x)) k
      · exact x
    · exact Or.inl d
  · have k : ofT (lkN σ) trip j := o.mpr (fun x => c (x.elim Or.inl (fun y => y.elim (fun z => Or.inr (Or.inl z)) (fun z => Or.inr (Or.inr (Or.inl z))))))
    have hn : ¬ n < 1 := fun x => c (Or.inr (Or.inr (Or.inr x)))
    rw [if_neg c, if_neg (fun x => x.elim (fun y => y k) hn)]
    have ht : trp σ trip := k.1
    have f := f1_lt h.V (trip := trip) ht
    have R := h.1.1
    have e : gN (lkN σ) 155 3 = gN σ 155 3 := rfl
    have k1 := k.2.1
    have k2 := k.2.2
    have r := cnE_rng (ρ := lkN σ) (trip := trip) (fi := f1F (lkN σ) trip + j) (n := n) (by omega) (by omega)
    have al := fun {q : Int} (q0 : 0 ≤ q) (q1 : q < 64) => cn_all h (b := b) k (n := n) (by omega) q0 q1
    have fi0 : 0 ≤ f1F (lkN σ) trip + j := by omega
    have en1 : cnE (lkN σ) trip (f1F (lkN σ) trip + j) n ≤ gN σ 155 3 := by omega
    generalize f1F (lkN σ) trip + j = fi at r al fi0 en1 ⊢
    generalize cnE (lkN σ) trip fi n = en at r al en1 ⊢
    have out : ∀ q : Int, 0 ≤ q → q < 64 → ¬ (fi ≤ q ∧ q < en) → bt (cnV σ trip j n b ^^^ gL σ 153 17) q = false := by
      intro q q0 q1 w
      rw [bt_xor, al q0 q1, if_neg w, Bool.xor_self]
    rw [bitC_to (n := gN σ 155 3) (by omega) (by omega) (fun q q0 q1 => out q (by omega) q1 (by omega))]
    have sp : smZ (fun i => if bt (cnV σ trip j n b ^^^ gL σ 153 17) i = true then 1 else 0) (gN σ 155 3).toNat 0 = smZ (fun i => if bt (cnV σ trip j n b ^^^ gL σ 153 17) i = true then 1 else 0) (en - fi).toNat fi := by
      rw [show (gN σ 155 3).toNat = fi.toNat + ((en - fi).toNat + (gN σ 155 3 - en).toNat) by omega, smZ_split, smZ_split]
      rw [smZ_congr (g := fun _ => 0) fi.toNat _ (fun q q0 q1 => by rw [out q (by omega) (by omega) (by omega)]; rfl), smZ_0]
      rw [smZ_congr (g := fun _ => 0) (gN σ 155 3 - en).toNat _ (fun q q0 q1 => by rw [out q (by omega) (by omega) (by omega)]; rfl), smZ_0]
      rw [show (0 : Int) + (fi.toNat : Int) = fi by omega]
      omega
    rw [sp, itr_ct (p := fun _ => True) (g := fun i => if bt (cnV σ trip j n b ^^^ gL σ 153 17) i = true then 1 else 0) _ _ _ (fun q q0 q1 x => ?_)]
    · omega
    · have ce : cnc (lkN σ) q ↔ bt (gL σ 153 17) q = true := by rw [cnc_ofB]; exact bt_one (by omega) (by omega)
      unfold cnC
      rw [bt_xor, al (by omega) (by omega), if_pos (by omega : fi ≤ q ∧ q < en)]
      by_cases w : bt (gL σ 153 17) q = true
      · rw [if_pos (ce.mpr w), w]
        rcases hb with v | v <;> subst v
        · rw [if_neg (by omega)]; rfl
        · rw [if_pos rfl]; show x = x + 0; omega
      · rw [if_neg (fun y => w (ce.mp y)), Bool.eq_false_iff.mpr w]
        rcases hb with v | v <;> subst v
        · rw [if_pos rfl]; show x = x + 0; omega
        · rw [if_neg (by omega)]; rfl
