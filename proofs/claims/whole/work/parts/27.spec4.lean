/-! The profile: which candidates are kept, in which order. -/
def cd (L : List Cd) (k : Int) : Cd := L.getD k.toNat (0, 0, 0)
theorem CdIs.at {u : Sto} {L : List Cd} (h : CdIs u L) {k : Int} (h0 : 0 ≤ k) (h1 : k < L.length) : gN u 164 k = (cd L k).1 ∧ gN u 165 k = (cd L k).2.1 ∧ gN u 166 k = (cd L k).2.2 := by
  have e : ((k.toNat : Nat) : Int) = k := by omega
  have hk : k.toNat < L.length := by omega
  have := h.2 k.toNat (L[k.toNat]) (List.getElem?_eq_getElem hk)
  rw [e] at this
  unfold cd
  rw [List.getD_eq_getElem?_getD, List.getElem?_eq_getElem hk]
  exact this
theorem CdIs.of {u v : Sto} {L : List Cd} (h : CdIs u L) (h1 : gN v 153 28 = gN u 153 28) (h2 : ∀ j, gN v 164 j = gN u 164 j) (h3 : ∀ j, gN v 165 j = gN u 165 j) (h4 : ∀ j, gN v 166 j = gN u 166 j) : CdIs v L := ⟨h1.trans h.1, fun k q hk => by rw [h2, h3, h4]; exact h.2 k q hk⟩
abbrev alk (x y : Cd) : Prop := x.1 = y.1 ∧ x.2.1 = y.2.1 ∧ x.2.2 = y.2.2
abbrev ahd (x y : Cd) : Prop := x.1 < y.1 ∨ (x.1 = y.1 ∧ (x.2.1 < y.2.1 ∨ (x.2.1 = y.2.1 ∧ x.2.2 < y.2.2)))
def anyZ (p : Int → Bool) : Nat → Int → Bool
  | 0, _ => false
  | n + 1, k => p k || anyZ p n (k + 1)
def lsP (L : List Cd) (a b : Int) : Bool := decide ((alk (cd L a) (cd L b) ∧ b < a) ∨ (¬ alk (cd L a) (cd L b) ∧ (cd L a).1 ≤ (cd L b).1 ∧ (cd L b).2.1 ≤ (cd L a).2.1 ∧ (cd L b).2.2 ≤ (cd L a).2.2))
abbrev lost (L : List Cd) (w a : Int) : Prop := w ≤ (cd L a).2.1 - (cd L a).1 ∨ anyZ (lsP L a) L.length 0 = true
def posK (p : Int → Bool) (K : List Int) : Nat → Nat
  | 0 => 0
  | k + 1 => if p (K.getD k 0) = true then posK p K k else k + 1
def insK (p : Int → Bool) (a : Int) (K : List Int) : List Int := K.take (posK p K K.length) ++ a :: K.drop (posK p K K.length)
def kpF (L : List Cd) (w a : Int) (K : List Int) : List Int := if lost L w a then K else insK (fun y => decide (ahd (cd L a) (cd L y))) a K
def keptL (L : List Cd) (w : Int) : List Int := itr (kpF L w) L.length 0 []
def KpIs (u : Sto) (K : List Int) : Prop := gN u 153 30 = K.length ∧ ∀ (k : Nat) (x : Int), K[k]? = some x → gN u 167 k = x
theorem posK_le {p : Int → Bool} {K : List Int} : ∀ n, posK p K n ≤ n
  | 0 => Nat.le_refl 0
  | n + 1 => by
    unfold posK
    have := posK_le (p := p) (K := K) n
    split <;> omega
theorem insK_len {p : Int → Bool} {a : Int} {K : List Int} : (insK p a K).length = K.length + 1 := by
  unfold insK
  have := posK_le (p := p) (K := K) K.length
  simp
  omega
theorem insK_mem {p : Int → Bool} {a x : Int} {K : List Int} (h : x ∈ insK p a K) : x = a ∨ x ∈ K := by
  unfold insK at h
  rcases List.mem_append.mp h with h | h
  · exact Or.inr (List.mem_of_mem_take h)
  · rcases List.mem_cons.mp h with h | h
    · exact Or.inl h
    · exact Or.inr (List.mem_of_mem_drop h)
abbrev pPr (c : Nat) (j : Int) : Prop := c = 164 ∨ c = 165 ∨ c = 166 ∨ c = 167 ∨ (c = 153 ∧ (j = 28 ∨ j = 30))
abbrev pKp (c : Nat) (j : Int) : Prop := c = 167 ∨ (c = 153 ∧ j = 30)
theorem pPr_Rd {σ τ : Sto} (h : Fr pPr σ τ) : Rd σ τ := h.Rd (fun c j q => by unfold pPr at q; omega)
theorem pKp_Rd {σ τ : Sto} (h : Fr pKp σ τ) : Rd σ τ := h.Rd (fun c j q => by unfold pKp at q; omega)
theorem pKp_Cd {σ τ : Sto} {L : List Cd} (h : Fr pKp σ τ) (hC : CdIs σ L) : CdIs τ L := hC.of (h.1 153 28 (by unfold pKp; omega)) (fun j => h.1 164 j (by unfold pKp; omega)) (fun j => h.1 165 j (by unfold pKp; omega)) (fun j => h.1 166 j (by unfold pKp; omega))
/-- where a place is free at k, and what stood from k on stands one behind -/
def KpGap (u : Sto) (K : List Int) (k : Nat) : Prop := ∀ (j : Nat) (x : Int), K[j]? = some x → gN u 167 (if j < k then (j : Int) else j + 1) = x
theorem anyZ_here {p : Int → Bool} {n : Nat} {k : Int} (h : p k = true) : anyZ p (n + 1) k = true := by unfold anyZ; rw [h]; rfl
