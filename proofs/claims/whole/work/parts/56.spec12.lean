/-! planAs, ride, feed, a fresh text, walks that hang together. -/
def remI (x y : Int) : Int := (Int32.ofInt x - Int32.ofInt x / Int32.ofInt y * Int32.ofInt y).toInt
def fdS (a b c d e k : Int) : Int := if k < 4 then a else if k < 8 then b else if k < 12 then c else if k < 16 then d else e
def fdV (a b c d e k : Int) : Int := andI (shrI (fdS a b c d e k) (24 - 8 * remI k 4)) 255
def feedF (σ : Sto) : Int := if 880 < gN σ 153 2 then -1 else gN σ 153 2 + 20
abbrev pFd (c : Nat) (j : Int) : Prop := c = 154 ∨ (c = 153 ∧ (j = 0 ∨ j = 2))
def FdPost (σ u : Sto) (a b c d e : Int) : Prop := if 880 < gN σ 153 2 then u = sN σ 153 0 0 else Fr pFd σ u ∧ gN u 153 2 = gN σ 153 2 + 20 ∧ ∀ j : Int, gN u 154 j = if gN σ 153 2 ≤ j ∧ j < gN σ 153 2 + 20 then fdV a b c d e (j - gN σ 153 2) else gN σ 154 j
def frF (k : Int) : Int := if 15 ≤ k ∧ k < 115 then (if remI (k - 15) 11 = 0 then 0 else 1000000) else 0
def clB (by_ a b : Int) (w : Int → Int) : Int → Int := fun j => if j = 15 + 10 * a + b ∧ w (15 + 10 * a + by_) + w (15 + 10 * by_ + b) < w (15 + 10 * a + b) then w (15 + 10 * a + by_) + w (15 + 10 * by_ + b) else w j
def clA (by_ a : Int) (w : Int → Int) : Int → Int := itr (clB by_ a) 10 0 w
def clO (by_ : Int) (w : Int → Int) : Int → Int := itr (clA by_) 10 0 w
def closeF (w : Int → Int) : Int → Int := itr clO 10 0 w
def WlkB (w : Int → Int) : Prop := ∀ j : Int, 15 ≤ j → j < 115 → 0 ≤ w j ∧ w j ≤ 1000000
theorem clB_B {by_ a b : Int} {w : Int → Int} (h : WlkB w) (h0 : 0 ≤ by_) (h1 : by_ < 10) (ha0 : 0 ≤ a) (ha1 : a < 10) (hb0 : 0 ≤ b) (hb1 : b < 10) : WlkB (clB by_ a b w) := fun j q0 q1 => by
  have x := h (15 + 10 * a + by_) (by omega) (by omega)
  have y := h (15 + 10 * by_ + b) (by omega) (by omega)
  have z := h j q0 q1
  have z2 := h (15 + 10 * a + b) (by omega) (by omega)
  unfold clB
  split <;> omega
theorem clA_B {by_ a : Int} (h0 : 0 ≤ by_) (h1 : by_ < 10) (ha0 : 0 ≤ a) (ha1 : a < 10) : ∀ (n : Nat) (b : Int) (w : Int → Int), 0 ≤ b → b + n ≤ 10 → WlkB w → WlkB (itr (clB by_ a) n b w)
  | 0, _, _, _, _, h => h
  | n + 1, b, w, q0, q1, h => clA_B h0 h1 ha0 ha1 n (b + 1) _ (by omega) (by omega) (clB_B h h0 h1 ha0 ha1 q0 (by omega))
theorem clO_B {by_ : Int} (h0 : 0 ≤ by_) (h1 : by_ < 10) : ∀ (n : Nat) (a : Int) (w : Int → Int), 0 ≤ a → a + n ≤ 10 → WlkB w → WlkB (itr (clA by_) n a w)
  | 0, _, _, _, _, h => h
  | n + 1, a, w, q0, q1, h => clO_B h0 h1 n (a + 1) _ (by omega) (by omega) (clA_B h0 h1 q0 (by omega) 10 0 w (by omega) (by omega) h)
theorem close_B : ∀ (n : Nat) (k : Int) (w : Int → Int), 0 ≤ k → k + n ≤ 10 → WlkB w → WlkB (itr clO n k w)
  | 0, _, _, _, _, h => h
  | n + 1, k, w, q0, q1, h => close_B n (k + 1) _ (by omega) (by omega) (clO_B q0 (by omega) 10 0 w (by omega) (by omega) h)
/-- a row of ints holds w -/
def RowIs (u : Sto) (c : Nat) (w : Int → Int) : Prop := ∀ j : Int, 0 ≤ j → j < 415 → gN u c j = w j
theorem RowIs.put {u : Sto} {c : Nat} {w : Int → Int} {j v : Int} (h : RowIs u c w) (hv : inR v) : RowIs (sN u c j v) c (fun i => if i = j then v else w i) := fun i q0 q1 => by
  show _ = if i = j then v else w i
  rw [gN_sN]
  by_cases e : i = j
  · rw [if_pos ⟨rfl, e⟩, if_pos e, nrm_of hv]
  · rw [if_neg (by omega), if_neg e]
    exact h i q0 q1
def PsPost (σ u : Sto) (s t i : Int) : Prop := if 0 < planAsF σ s t i then (∃ ω, Fr pQ σ ω ∧ TOK ω ∧ Fr (fun c j => c = 173 ∨ c = 174 ∨ (c = 153 ∧ j = 38)) ω u ∧ gN u 153 38 = (lgL σ s t (kx σ s t i)).length ∧ ∀ l : Int, 0 ≤ l → l < (lgL σ s t (kx σ s t i)).length → gN u 173 l = (lg (lgL σ s t (kx σ s t i)) l).1 ∧ gN u 174 l = (lg (lgL σ s t (kx σ s t i)) l).2) else Fr pQ σ u ∧ TOK u
/-- what ride answers, and what it says was thrown -/
def rideV (σ : Sto) (i what : Int) : Int × Int := if ¬ rid σ i then (0, 1) else if 0 ≤ what ∧ what ≤ 4 then (gN σ 155 (115 + 5 * i + what), 0) else if what = 5 ∨ what = 6 then (gN σ 155 (115 + 5 * i + (what - 2)) + gN σ 158 i, 0) else if what = 7 then (if ofB σ i then 1 else 0, 0) else if what = 8 then (if nxt σ i then i + 1 else -2, 0) else (0, 2)
