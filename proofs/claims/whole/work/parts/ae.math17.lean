/-! Class and reference answer alike: feeding; how many rides a trip has. -/
theorem and255 (x : Int32) : (x &&& Int32.ofInt 255).toInt = (x.toBitVec.toNat % 256 : Nat) := by
  have c : (Int32.ofInt 255).toBitVec.toNat = 2 ^ 8 - 1 := by decide
  have e : (x &&& Int32.ofInt 255).toBitVec.toNat = x.toBitVec.toNat % 256 := by
    rw [Int32.toBitVec_and, BitVec.toNat_and, c, Nat.and_two_pow_sub_one_eq_mod]
  rw [← Int32.toInt_toBitVec, BitVec.toInt_eq_toNat_of_lt (by rw [e]; omega), e]
theorem by_sg (x : Int32) : x.toInt8.toInt32.toInt = sgB (x.toBitVec.toNat % 256 : Nat) := by
  rw [Int8.toInt_toInt32, ← Int8.toInt_toBitVec, Int32.toBitVec_toInt8, BitVec.signExtend_eq_setWidth_of_le _ (by omega), BitVec.toInt_eq_toNat_cond, BitVec.toNat_setWidth]
  unfold sgB
  split <;> split <;> omega
theorem byB_sg (y : Int) : byB y = sgB (andI y 255) := by
  unfold byB andI
  rw [by_sg, and255]
theorem rem4 : ∀ k : Nat, k < 20 → remI (k : Int) 4 = (k : Int) - 4 * ((k : Int) / 4) := by decide
/-- FEED: what the class's tape holds is what the reference's holds -/
theorem fd_eq {a b c d e k : Int} (h0 : 0 ≤ k) (h1 : k < 20) : fdC a b c d e k = sgB (fdV a b c d e k) := by
  have r := rem4 k.toNat (by omega)
  rw [show ((k.toNat : Nat) : Int) = k by omega] at r
  unfold fdC fdV apV
  rw [byB_sg, r]
theorem q_feed {σ : Sto} {k : Int} (h : k = gN σ 153 2) : cFeed k = feedF σ := by
  unfold cFeed feedF
  rw [h]
  refine ite_congr (propext ?_) (fun _ => rfl) (fun _ => rfl)
  omega
theorem smZ_run {a b : Int} {f : Int → Int} (hf : ∀ k, (a ≤ k ∧ k < b → f k = 1) ∧ (¬ (a ≤ k ∧ k < b) → f k = 0)) : ∀ (n : Nat) (i : Int), a ≤ i → i ≤ b → b ≤ i + n → smZ f n i = b - i
  | 0, i, h0, h1, h2 => by show (0 : Int) = b - i; omega
  | n + 1, i, h0, h1, h2 => by
    show f i + smZ f n (i + 1) = b - i
    by_cases c : i < b
    · rw [(hf i).1 ⟨h0, c⟩, smZ_run hf n (i + 1) (by omega) (by omega) (by omega)]
      omega
    · rw [(hf i).2 (by omega), smZ_congr (g := fun _ => 0) n _ (fun k k0 k1 => (hf k).2 (by omega)), smZ_0]
      omega
theorem smZ_in {p : Int → Prop} {a b : Int} {f : Int → Int} (hf : ∀ k, (a ≤ k ∧ k < b → f k = 1) ∧ (¬ (a ≤ k ∧ k < b) → f k = 0)) : ∀ (n : Nat) (i : Int), i ≤ a → a ≤ b → b ≤ i + n → smZ f n i = b - a
  | 0, i, h0, h1, h2 => by show (0 : Int) = b - a; omega
  | n + 1, i, h0, h1, h2 => by
    show f i + smZ f n (i + 1) = b - a
    by_cases c : a ≤ i ∧ i < b
    · rw [(hf i).1 c]
      have z := smZ_run hf n (i + 1) (by omega) (by omega) (by omega)
      omega
    · rw [(hf i).2 c]
      by_cases d : a ≤ i
      · have z : smZ f n (i + 1) = 0 := by
          rw [smZ_congr (g := fun _ => 0) n _ (fun k k0 k1 => (hf k).2 (by omega)), smZ_0]
        omega
      · have := smZ_in (p := p) hf n (i + 1) (by omega) h1 (by omega)
        omega
/-- a trip's rides stand in a row: as many as lie between its first and the next trip's first -/
theorem mo_eq {ρ : Sto} (hW : WV ρ) {trip : Int} (ht : trp ρ trip) : moF ρ trip = f1F ρ (trip + 1) - f1F ρ trip := by
  have R := hW.R
  have f := f1_lt hW ht
  unfold moF
  have e : itr (moF1 ρ trip) (gN ρ 155 3).toNat 0 0 = 0 + smZ (fun k => if f1F ρ trip ≤ k ∧ k < f1F ρ (trip + 1) then 1 else 0) (gN ρ 155 3).toNat 0 := by
    refine itr_ct (p := fun _ => True) _ _ _ (fun k k0 k1 x => ?_)
    unfold moF1
    have i := f1_iff hW ht k0 (show k < gN ρ 155 3 by omega)
    by_cases c : gN ρ 155 (115 + 5 * k + 0) = trip
    · rw [if_pos c, if_pos (i.mp c)]
    · rw [if_neg c, if_neg (fun y => c (i.mpr y))]
  rw [e, smZ_in (p := fun _ => True) (fun k => ⟨fun c => if_pos c, fun c => if_neg c⟩) _ _ (by omega) (by omega) (by omega)]
  omega
theorem fo_f1 {ρ : Sto} {trip : Int} (ht : trp ρ trip) : foF ρ trip = f1F ρ trip := by
  unfold f1F
  rw [if_pos ht.2]
