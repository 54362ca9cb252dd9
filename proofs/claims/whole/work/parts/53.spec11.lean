/-! Delays, what is kept to undo. -/
/-- every trip has a ride; trips stand in their order -/
def TrOK (σ : Sto) : Prop := (∀ trip : Int, trp σ trip → ∃ i, rid σ i ∧ gN σ 155 (115 + 5 * i + 0) = trip) ∧ ∀ i : Int, 0 ≤ i → i + 1 < gN σ 155 3 → gN σ 155 (115 + 5 * i + 0) ≤ gN σ 155 (115 + 5 * (i + 1) + 0)
def foF (σ : Sto) (trip : Int) : Int := fs2 (fun i => decide (gN σ 155 (115 + 5 * i + 0) = trip)) (-1) (gN σ 155 3).toNat 0
def moF1 (σ : Sto) (trip i n : Int) : Int := n + if gN σ 155 (115 + 5 * i + 0) = trip then 1 else 0
def moF (σ : Sto) (trip : Int) : Int := itr (moF1 σ trip) (gN σ 155 3).toNat 0 0
theorem fo_ok {σ : Sto} (h : TrOK σ) {trip : Int} (ht : trp σ trip) : 0 ≤ foF σ trip ∧ foF σ trip < gN σ 155 3 ∧ gN σ 155 (115 + 5 * foF σ trip + 0) = trip := by
  obtain ⟨i, hi, e⟩ := h.1 trip ht
  have := fs2_spec (p := fun i => decide (gN σ 155 (115 + 5 * i + 0) = trip)) (e := -1) (gN σ 155 3).toNat 0 i hi.1 (by omega) (decide_eq_true e)
  exact ⟨this.1, by unfold foF; omega, of_decide_eq_true this.2.2⟩
theorem fs2_before {p : Int → Bool} {e : Int} : ∀ (n : Nat) (k x : Int), k ≤ x → x < fs2 p e n k → x < k + n → p x = false
  | 0, k, x, h0, h1, h2 => by omega
  | n + 1, k, x, h0, h1, h2 => by
    by_cases hk : p k = true
    · rw [fs2_yes hk] at h1; omega
    · have hk' : p k = false := by cases h : p k <;> simp_all
      rw [fs2_no hk'] at h1
      by_cases q : x = k
      · rw [q]; exact hk'
      · exact fs2_before n (k + 1) x (by omega) h1 (by omega)
theorem mo_le {σ : Sto} {trip f : Int} (hb : ∀ x, 0 ≤ x → x < f → gN σ 155 (115 + 5 * x + 0) ≠ trip) : ∀ (n : Nat) (i c : Int), 0 ≤ i → (i ≤ f → c ≤ 0) → (f < i → c ≤ i - f) → (i + n ≤ f → itr (moF1 σ trip) n i c ≤ 0) ∧ (f < i + n → itr (moF1 σ trip) n i c ≤ i + n - f)
  | 0, i, c, h0, h1, h2 => by simp only [itr]; omega
  | n + 1, i, c, h0, h1, h2 => by
    rw [itr_s]
    have ih := mo_le hb n (i + 1) (moF1 σ trip i c) (by omega) (fun h => by
      unfold moF1
      rw [if_neg (hb i h0 (by omega))]
      have := h1 (by omega)
      omega) (fun h => by
      unfold moF1
      by_cases e : i ≤ f
      · have := h1 e
        split <;> omega
      · have := h2 (by omega)
        split <;> omega)
    omega
theorem fo_mo {σ : Sto} (hR : 0 ≤ gN σ 155 3) (h : TrOK σ) {trip : Int} (ht : trp σ trip) : foF σ trip + moF σ trip ≤ gN σ 155 3 := by
  have fo := fo_ok h ht
  have := mo_le (σ := σ) (trip := trip) (f := foF σ trip) (fun x a b => by
    have := fs2_before (p := fun i => decide (gN σ 155 (115 + 5 * i + 0) = trip)) (e := -1) (gN σ 155 3).toNat 0 x a b (by omega)
    exact of_decide_eq_false this) (gN σ 155 3).toNat 0 0 (by omega) (by omega) (by omega)
  unfold moF
  omega
theorem mo_ge {σ : Sto} {trip : Int} : ∀ (n : Nat) (i c : Int), 0 ≤ c → 0 ≤ itr (moF1 σ trip) n i c
  | 0, _, _, h => h
  | n + 1, i, c, h => mo_ge n (i + 1) _ (by unfold moF1; split <;> omega)
abbrev nxt (σ : Sto) (i : Int) : Prop := i + 1 < gN σ 155 3 ∧ gN σ 155 (115 + 5 * (i + 1) + 0) = gN σ 155 (115 + 5 * i + 0)
def cgB (σ : Sto) (frm mi i : Int) : Int := if i < frm then gN σ 158 i else mi
def cgF (σ : Sto) (frm mi : Int) : Nat → Int → Int → Bool
  | 0, _, _ => true
  | d + 1, i, ahead => if gN σ 155 (115 + 5 * i + 3) + cgB σ frm mi i < ahead then false else if nxt σ i then cgF σ frm mi d (i + 1) (gN σ 155 (115 + 5 * i + 4) + cgB σ frm mi i) else true
/-- how many of the trip's rides from i on aren't late by mi -/
def dlF (σ : Sto) (mi : Int) : Nat → Int → Int → Int
  | 0, _, n => n
  | d + 1, i, n => if nxt σ i then dlF σ mi d (i + 1) (n + if gN σ 158 i = mi then 0 else 1) else n + if gN σ 158 i = mi then 0 else 1
/-- where the trip's rides end -/
def teF (σ : Sto) : Nat → Int → Int
  | 0, i => i
  | d + 1, i => if nxt σ i then teF σ d (i + 1) else i + 1
def canF (σ : Sto) (trip frm mi : Int) : Bool := cgF σ frm mi (gN σ 155 3 - foF σ trip).toNat (foF σ trip) 0
def delayF (σ : Sto) (trip j mi : Int) : Int := if ¬ trp σ trip ∨ j < 0 ∨ moF σ trip ≤ j ∨ mi < -60 ∨ 240 < mi then -1 else if canF σ trip (foF σ trip + j) mi = false then -2 else dlF σ mi (gN σ 155 3 - (foF σ trip + j)).toNat (foF σ trip + j) 0
/-- what is kept: how often, and what -/
def UnOK (σ : Sto) : Prop := (0 ≤ gN σ 153 20 ∧ gN σ 153 20 ≤ 20) ∧ ∀ k i : Int, 0 ≤ k → k < gN σ 153 20 → 0 ≤ i → i < 60 → -60 ≤ gN σ 159 (60 * k + i) ∧ gN σ 159 (60 * k + i) ≤ 240
abbrev pUd (c : Nat) (j : Int) : Prop := c = 159 ∨ c = 160 ∨ (c = 153 ∧ j = 20)
def dn (σ : Sto) : Int := if gN σ 153 20 = 20 then 1 else 0
def Kept (σ u : Sto) : Prop := Fr pUd σ u ∧ gN u 153 20 = gN σ 153 20 - dn σ + 1 ∧ (∀ k i : Int, 0 ≤ k → k < gN σ 153 20 - dn σ → 0 ≤ i → i < 60 → gN u 159 (60 * k + i) = gN σ 159 (60 * (k + dn σ) + i)) ∧ (∀ i : Int, 0 ≤ i → i < 60 → gN u 159 (60 * (gN σ 153 20 - dn σ) + i) = gN σ 158 i) ∧ (∀ k : Int, 0 ≤ k → k < gN σ 153 20 - dn σ → gL u 160 k = gL σ 160 (k + dn σ)) ∧ gL u 160 (gN σ 153 20 - dn σ) = gL σ 153 17
