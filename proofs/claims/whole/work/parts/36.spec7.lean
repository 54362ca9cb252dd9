/-! Those of the profile with so many changes at most; which rides meet. -/
def byP (L : List Cd) (k : Int) (x : Int) : Bool := decide ((cd L x).2.2 ≤ k)
def byK (L : List Cd) (K : List Int) (k : Int) : List Int := K.filter (byP L k)
theorem drop_at {K : List Int} {j : Int} (h0 : 0 ≤ j) (h1 : j < K.length) : K.drop j.toNat = K.getD j.toNat 0 :: K.drop (j + 1).toNat := by
  rw [show (j + 1).toNat = j.toNat + 1 by omega, List.getD_eq_getElem?_getD, List.getElem?_eq_getElem (by omega)]
  exact List.drop_eq_getElem_cons (by omega)
def profileByF (σ : Sto) (s t k : Int) : Int := if ¬ two σ s t ∨ k < 0 ∨ 4 < k then -1 else (byK (pfL σ s t) (pfK σ s t) k).length
def atByR (L : List Cd) (x what : Int) : Int := if x = -1 then -2 else cdW (cd L x) what
def atByF (σ : Sto) (s t k i what : Int) : Int := if ¬ two σ s t ∨ k < 0 ∨ 4 < k ∨ i < 0 ∨ what < 0 ∨ 2 < what then -1 else atByR (pfL σ s t) ((byK (pfL σ s t) (pfK σ s t) k).getD i.toNat (-1)) what
theorem getD_cases {K : List Int} {i : Nat} : (i < K.length ∧ K.getD i (-1) ∈ K) ∨ (K.length ≤ i ∧ K.getD i (-1) = -1) := by
  rcases Nat.lt_or_ge i K.length with h | h
  · left
    rw [List.getD_eq_getElem?_getD, List.getElem?_eq_getElem h]
    exact ⟨h, List.getElem_mem _⟩
  · right
    rw [List.getD_eq_getElem?_getD, List.getElem?_eq_none h]
    exact ⟨h, rfl⟩
def nxB (σ : Sto) (i : Int) : Bool := decide ((i + 1 < gN σ 155 3 ∧ gN σ 155 (115 + 5 * (i + 1) + 0) = gN σ 155 (115 + 5 * i + 0)) ∧ shrL (gL σ 153 23) (i + 1) &&& 1 = 0)
/-- from ride i on, by staying on, one at which e holds -/
def meF (σ : Sto) (e : Int → Bool) : Nat → Int → Bool
  | 0, _ => false
  | d + 1, i => e i || (nxB σ i && meF σ e d (i + 1))
def lkB (σ : Sto) (i k : Int) : Bool := decide (shrL (gL σ 163 i) k &&& 1 = 1)
/-- getting off ride i with n changes more one comes to t at arr -/
def enF (σ : Sto) (t arr : Int) : Nat → Int → Bool
  | 0, i => decide (gN σ 155 (15 + 10 * gN σ 155 (115 + 5 * i + 2) + t) < 1000000 ∧ gN σ 162 i + gN σ 155 (15 + 10 * gN σ 155 (115 + 5 * i + 2) + t) = arr)
  | n + 1, i => anyZ (fun k => lkB σ i k && meF σ (enF σ t arr n) (gN σ 155 3 - k).toNat k) (gN σ 155 3).toNat 0
def mtB (σ : Sto) (t arr : Int) (n : Nat) (i : Int) : Bool := meF σ (enF σ t arr n) (gN σ 155 3 - i).toNat i
abbrev pMe (c : Nat) (_ : Int) : Prop := c = 168 ∨ c = 169
theorem pMe_Rd {σ τ : Sto} (h : Fr pMe σ τ) : Rd σ τ := h.Rd (fun c j q => by unfold pMe at q; omega)
def b2i (b : Bool) : Int := if b = true then 1 else 0
/-- laid for all n below m, and for n = m from i on -/
def MeTo (σ τ : Sto) (t arr : Int) (m : Nat) (i : Int) : Prop := Fr pMe σ τ ∧ ∀ (n : Nat) (k : Int), 0 ≤ k → k < gN σ 155 3 → (n < m ∨ (n = m ∧ i ≤ k)) → gN τ 169 (60 * n + k) = b2i (enF σ t arr n k) ∧ gN τ 168 (60 * n + k) = b2i (mtB σ t arr n k)
theorem b2i_c (b : Bool) : b2i b = 0 ∨ b2i b = 1 := by cases b <;> simp [b2i]
theorem mtB_s {σ : Sto} {t arr : Int} {n : Nat} {i : Int} (h0 : 0 ≤ i) (h1 : i < gN σ 155 3) : mtB σ t arr n i = (enF σ t arr n i || (nxB σ i && mtB σ t arr n (i + 1))) := by
  unfold mtB
  rw [show (gN σ 155 3 - i).toNat = (gN σ 155 3 - (i + 1)).toNat + 1 by omega]
  rfl
