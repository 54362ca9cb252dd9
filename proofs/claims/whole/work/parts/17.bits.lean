/-! Bits of longs. -/
def bt (x : Int64) (i : Int) : Bool := x.toBitVec.getLsbD i.toNat
theorem amt64 {i : Int} (h0 : 0 ≤ i) (h1 : i < 64) : ((Int32.ofInt i).toInt64 &&& 63) = Int64.ofNat i.toNat := by
  have h : ∀ n : Fin 64, ((Int32.ofInt ((n : Nat) : Int)).toInt64 &&& 63) = Int64.ofNat n := by decide +kernel
  have e : ((i.toNat : Nat) : Int) = i := by omega
  have := h ⟨i.toNat, by omega⟩
  rw [← e]
  exact this
theorem amtS (n : Fin 64) : ((Int64.ofNat n).toBitVec.smod 64#64).toNat = n := by
  have h : ∀ n : Fin 64, ((Int64.ofNat n).toBitVec.smod 64#64).toNat = n := by decide +kernel
  exact h n
theorem shrL_bv {x : Int64} {i : Int} (h0 : 0 ≤ i) (h1 : i < 64) : (shrL x i).toBitVec = x.toBitVec.sshiftRight i.toNat := by
  unfold shrL
  rw [amt64 h0 h1, Int64.toBitVec_shiftRight]
  show x.toBitVec.sshiftRight ((Int64.ofNat i.toNat).toBitVec.smod 64).toNat = _
  rw [show ((Int64.ofNat i.toNat).toBitVec.smod 64).toNat = i.toNat from amtS ⟨i.toNat, by omega⟩]
theorem shlL_bv {x : Int64} {i : Int} (h0 : 0 ≤ i) (h1 : i < 64) : (shlL x i).toBitVec = x.toBitVec <<< i.toNat := by
  unfold shlL
  rw [amt64 h0 h1, Int64.toBitVec_shiftLeft]
  show x.toBitVec <<< ((Int64.ofNat i.toNat).toBitVec.smod 64).toNat = _
  rw [show ((Int64.ofNat i.toNat).toBitVec.smod 64).toNat = i.toNat from amtS ⟨i.toNat, by omega⟩]
theorem one_bit (i : Nat) (h : i < 64) : (1#64).getLsbD i = decide (i = 0) := by
  have h2 : ∀ n : Fin 64, (1#64).getLsbD n = decide ((n : Nat) = 0) := by decide +kernel
  exact h2 ⟨i, h⟩
theorem and_one (y : BitVec 64) : y &&& 1#64 = if y.getLsbD 0 = true then 1#64 else 0#64 := by
  apply BitVec.eq_of_getLsbD_eq
  intro i hi
  rw [BitVec.getLsbD_and, one_bit i hi]
  by_cases h : i = 0
  · subst h
    cases hy : y.getLsbD 0 <;> simp
  · cases hy : y.getLsbD 0 <;> simp [h, one_bit i hi]
theorem bit0_shr {x : Int64} {i : Int} (h0 : 0 ≤ i) (h1 : i < 64) : (shrL x i &&& 1).toBitVec = if bt x i = true then 1#64 else 0#64 := by
  rw [Int64.toBitVec_and, shrL_bv h0 h1]
  show x.toBitVec.sshiftRight i.toNat &&& 1#64 = _
  rw [and_one]
  have e : (x.toBitVec.sshiftRight i.toNat).getLsbD 0 = bt x i := by
    rw [BitVec.getLsbD_sshiftRight]
    unfold bt
    simp
    omega
  rw [e]
theorem bt_one {x : Int64} {i : Int} (h0 : 0 ≤ i) (h1 : i < 64) : shrL x i &&& 1 = 1 ↔ bt x i = true := by
  rw [← Int64.toBitVec_inj, bit0_shr h0 h1]
  cases bt x i <;> decide
theorem bt_zero {x : Int64} {i : Int} (h0 : 0 ≤ i) (h1 : i < 64) : shrL x i &&& 1 = 0 ↔ bt x i = false := by
  rw [← Int64.toBitVec_inj, bit0_shr h0 h1]
  cases bt x i <;> decide
theorem bt_or {x y : Int64} {i : Int} : bt (x ||| y) i = (bt x i || bt y i) := by
  unfold bt
  rw [Int64.toBitVec_or, BitVec.getLsbD_or]
theorem bt_and {x y : Int64} {i : Int} : bt (x &&& y) i = (bt x i && bt y i) := by
  unfold bt
  rw [Int64.toBitVec_and, BitVec.getLsbD_and]
theorem bt_xor {x y : Int64} {i : Int} : bt (x ^^^ y) i = (bt x i ^^ bt y i) := by
  unfold bt
  rw [Int64.toBitVec_xor, BitVec.getLsbD_xor]
theorem bt_0 (i : Int) : bt 0 i = false := by
  unfold bt
  show (0#64).getLsbD i.toNat = false
  simp
theorem bt_shl {k i : Int} (h0 : 0 ≤ k) (h1 : k < 64) (h2 : 0 ≤ i) (h3 : i < 64) : bt (shlL 1 k) i = decide (i = k) := by
  unfold bt
  rw [shlL_bv h0 h1, BitVec.getLsbD_shiftLeft]
  show (decide (i.toNat < 64) && !decide (i.toNat < k.toNat) && (1#64).getLsbD (i.toNat - k.toNat)) = _
  rw [one_bit _ (by omega)]
  by_cases h : i = k
  · subst h
    simp
    omega
  · by_cases h4 : i.toNat < k.toNat
    · simp [h, h4]
    · simp [h]
      omega
theorem bt_not {x : Int64} {i : Int} (h2 : 0 ≤ i) (h3 : i < 64) : bt (x ^^^ (-1)) i = !bt x i := by
  rw [bt_xor]
  have h : ∀ n : Fin 64, (-1 : Int64).toBitVec.getLsbD n = true := by decide +kernel
  have e : bt (-1) i = true := h ⟨i.toNat, by omega⟩
  rw [e]
  cases bt x i <;> rfl
theorem bt_ext {x y : Int64} (h : ∀ i : Int, 0 ≤ i → i < 64 → bt x i = bt y i) : x = y := by
  rw [← Int64.toBitVec_inj]
  apply BitVec.eq_of_getLsbD_eq
  intro i hi
  have := h i (by omega) (by omega)
  unfold bt at this
  exact this
/-- a loop by its number of turns: what is left to do -/
def itr {α : Type} (f : Int → α → α) : Nat → Int → α → α
  | 0, _, a => a
  | n + 1, k, a => itr f n (k + 1) (f k a)
theorem itr_s {α : Type} {f : Int → α → α} {n : Nat} {k : Int} {a : α} : itr f (n + 1) k a = itr f n (k + 1) (f k a) := rfl
/-- the first at which p holds, of n from k on; -1 -/
def fst1 (p : Int → Bool) : Nat → Int → Int
  | 0, _ => -1
  | n + 1, k => if p k = true then k else fst1 p n (k + 1)
theorem itr_z {α : Type} {f : Int → α → α} {m n : Nat} {k : Int} {a : α} (h : m = n + 1) : itr f m k a = itr f n (k + 1) (f k a) := by subst h; rfl
