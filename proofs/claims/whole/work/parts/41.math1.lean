/-! Every candidate unfolds: what the sets reach forward is met backward. -/
theorem anyZ_in {p : Int → Bool} : ∀ (n : Nat) (k x : Int), k ≤ x → x < k + n → p x = true → anyZ p n k = true
  | 0, k, x, h0, h1, _ => by omega
  | n + 1, k, x, h0, h1, h => by
    unfold anyZ
    by_cases e : x = k
    · rw [← e, h]; rfl
    · rw [anyZ_in n (k + 1) x (by omega) (by omega) h, Bool.or_true]
theorem bt_or0 {x : Int64} {i : Int} : bt (x ||| 0) i = bt x i := by rw [bt_or, bt_0, Bool.or_false]
/-- one can stay on from i up to j -/
def chain (σ : Sto) (i j : Int) : Prop := ∀ m, i ≤ m → m < j → nxB σ m = true
theorem meF_chain {σ : Sto} {e : Int → Bool} : ∀ (d : Nat) (i j : Int), i ≤ j → j < i + d → chain σ i j → e j = true → meF σ e d i = true
  | 0, i, j, h0, h1, _, _ => by omega
  | d + 1, i, j, h0, h1, hc, he => by
    unfold meF
    by_cases q : i = j
    · rw [q, he]; rfl
    · rw [meF_chain d (i + 1) j (by omega) (by omega) (fun m a b => hc m (by omega) b) he, hc i (by omega) (by omega)]
      simp
theorem stays_inv {σ : Sto} (hR : gN σ 155 3 ≤ 60) (x : Int64) : ∀ (n : Nat) (i : Int) (all : Int64), 0 ≤ i → i + n < 60 ∨ n = 0 → (∀ j, 0 ≤ j → j < 60 → bt all j = true → ∃ k, 0 ≤ k ∧ k ≤ j ∧ bt x k = true ∧ chain σ k j) → ∀ j, 0 ≤ j → j < 60 → bt (itr (stF σ) n i all) j = true → ∃ k, 0 ≤ k ∧ k ≤ j ∧ bt x k = true ∧ chain σ k j
  | 0, _, _, _, _, h => h
  | n + 1, i, all, h0, h1, h => by
    rw [itr_s]
    refine stays_inv hR x n (i + 1) _ (by omega) (by omega) (fun j q0 q1 hb => ?_)
    unfold stF at hb
    split at hb
    · rename_i hc
      rw [bt_or, Bool.or_eq_true_iff] at hb
      rcases hb with hb | hb
      · exact h j q0 q1 hb
      · rw [bt_shl (by omega) (by omega) q0 (by omega)] at hb
        have e := of_decide_eq_true hb
        subst e
        have hi := (bt_one (x := all) (i := i) h0 (by omega)).mp hc.1
        obtain ⟨k, a, b, c, d⟩ := h i h0 (by omega) hi
        refine ⟨k, a, by omega, c, fun m m0 m1 => ?_⟩
        rcases Int.lt_or_le m i with z | z
        · exact d m m0 z
        · rw [show m = i by omega]
          unfold nxB
          exact decide_eq_true ⟨hc.2.1, hc.2.2⟩
    · rw [bt_or0] at hb
      exact h j q0 q1 hb
theorem stays_back {σ : Sto} (hW : WOK σ) {x : Int64} {j : Int} (h0 : 0 ≤ j) (h1 : j < gN σ 155 3) (h : bt (staysF σ x) j = true) : ∃ k, 0 ≤ k ∧ k ≤ j ∧ bt x k = true ∧ chain σ k j := by
  have hR := hW.1
  refine stays_inv hR.2 x _ 0 x (by omega) (by omega) (fun j q0 q1 hb => ⟨j, q0, Int.le_refl _, hb, fun m a b => by omega⟩) j h0 (by omega) h
theorem ch_inv {σ : Sto} {set : Int64} : ∀ (n : Nat) (i : Int) (all : Int64) (j : Int), 0 ≤ i → i + n ≤ 60 → 0 ≤ j → j < 60 → bt (itr (chF σ set) n i all) j = true → bt all j = true ∨ ∃ k, i ≤ k ∧ k < i + n ∧ bt set k = true ∧ bt (gL σ 163 k) j = true
  | 0, _, _, _, _, _, _, _, h => Or.inl h
  | n + 1, i, all, j, h0, h1, q0, q1, h => by
    rw [itr_s] at h
    rcases ch_inv n (i + 1) _ j (by omega) (by omega) q0 q1 h with z | ⟨k, a, b, c⟩
    · unfold chF at z
      split at z
      · rename_i hc
        rw [bt_or, Bool.or_eq_true_iff] at z
        rcases z with z | z
        · exact Or.inl z
        · exact Or.inr ⟨i, Int.le_refl _, by omega, (bt_one h0 (by omega)).mp hc, z⟩
      · rw [bt_or0] at z
        exact Or.inl z
    · exact Or.inr ⟨k, by omega, by omega, c⟩
theorem changed_back {σ : Sto} (hW : WOK σ) {t arr : Int} {n : Nat} {set : Int64} {j : Int} (h0 : 0 ≤ j) (h1 : j < gN σ 155 3) (h : bt (changedF σ set) j = true) (he : enF σ t arr n j = true) : ∃ k, 0 ≤ k ∧ k < gN σ 155 3 ∧ bt set k = true ∧ enF σ t arr (n + 1) k = true := by
  have hR := hW.1
  obtain ⟨i, a, b, c, d⟩ := stays_back hW h0 h1 h
  rcases ch_inv (gN σ 155 3).toNat 0 0 i (by omega) (by omega) a (by omega) c with z | ⟨k, k0, k1, k2, k3⟩
  · rw [bt_0] at z; cases z
  · refine ⟨k, k0, by omega, k2, ?_⟩
    have hm : mtB σ t arr n i = true := meF_chain _ i j b (by omega) d he
    refine anyZ_in _ 0 i a (by omega) ?_
    show (lkB σ k i && mtB σ t arr n i) = true
    rw [hm, Bool.and_true]
    unfold lkB
    exact decide_eq_true ((bt_one a (by omega)).mpr k3)
theorem ar_inv {σ : Sto} {set : Int64} {t : Int} : ∀ (n : Nat) (i least : Int), 0 ≤ i → i + n ≤ 60 → itr (arF σ set t) n i least = least ∨ ∃ j, i ≤ j ∧ j < i + n ∧ bt set j = true ∧ enF σ t (itr (arF σ set t) n i least) 0 j = true
  | 0, _, _, _, _ => Or.inl rfl
  | n + 1, i, least, h0, h1 => by
    rw [itr_s]
    rcases ar_inv n (i + 1) (arF σ set t i least) (by omega) (by omega) with z | ⟨j, a, b, c, d⟩
    · rw [z]
      unfold arF
      split
      · rename_i hc
        exact Or.inr ⟨i, Int.le_refl _, by omega, (bt_one h0 (by omega)).mp hc.1, decide_eq_true ⟨hc.2.1, rfl⟩⟩
      · exact Or.inl rfl
    · exact Or.inr ⟨j, by omega, by omega, c, d⟩
/-- the set behind n changes -/
def setN (σ : Sto) (set : Int64) : Nat → Int64
  | 0 => set
  | n + 1 => changedF σ (setN σ set n)
theorem setN_back {σ : Sto} (hW : WOK σ) {t arr : Int} {set : Int64} : ∀ (n m : Nat) (j : Int), 0 ≤ j → j < gN σ 155 3 → bt (setN σ set n) j = true → enF σ t arr m j = true → ∃ k, 0 ≤ k ∧ k < gN σ 155 3 ∧ bt set k = true ∧ enF σ t arr (m + n) k = true
  | 0, m, j, h0, h1, h, he => ⟨j, h0, h1, h, he⟩
  | n + 1, m, j, h0, h1, h, he => by
    obtain ⟨k, a, b, c, d⟩ := changed_back hW h0 h1 h he
    obtain ⟨k', a', b', c', d'⟩ := setN_back hW n (m + 1) k a b c d
    exact ⟨k', a', b', c', by rw [show m + (n + 1) = m + 1 + n by omega]; exact d'⟩
/-- a candidate unfolds from ride x -/
def unfOK (σ : Sto) (s t : Int) (q : Cd) : Prop := ∃ x : Int, 0 ≤ x ∧ x < gN σ 155 3 ∧ lfF σ s x = q.1 ∧ mtB σ t q.2.1 q.2.2.toNat x = true
theorem cd_unf {σ : Sto} (hW : WOK σ) {s t i : Int} (hi0 : 0 ≤ i) (hi1 : i < gN σ 155 3) : ∀ (n m : Nat) (L : List Cd), (∀ x ∈ L, unfOK σ s t x) → ∀ x ∈ (itr (cdF σ t (lfF σ s i)) n m (L, setN σ (staysF σ (shlL 1 i)) m)).1, unfOK σ s t x
  | 0, _, _, h => h
  | n + 1, m, L, h => by
    have hR := hW.1
    rw [itr_s]
    have e : cdF σ t (lfF σ s i) m (L, setN σ (staysF σ (shlL 1 i)) m) = (if arrivesF σ (setN σ (staysF σ (shlL 1 i)) m) t < 1000000 then L ++ [(lfF σ s i, arrivesF σ (setN σ (staysF σ (shlL 1 i)) m) t, (m : Int))] else L, setN σ (staysF σ (shlL 1 i)) (m + 1)) := rfl
    rw [e]
    refine cd_unf hW hi0 hi1 n (m + 1) _ ?_
    intro x hx
    split at hx
    · rename_i hc
      rcases List.mem_append.mp hx with z | z
      · exact h x z
      · simp only [List.mem_cons, List.mem_nil_iff, or_false] at z
        subst z
        rcases ar_inv (σ := σ) (set := setN σ (staysF σ (shlL 1 i)) m) (t := t) (gN σ 155 3).toNat 0 1000000 (by omega) (by omega) with z | ⟨j, a, b, c, d⟩
        · exact absurd hc (by unfold arrivesF; omega)
        · obtain ⟨k, k0, k1, k2, k3⟩ := setN_back hW m 0 j a (by omega) c d
          obtain ⟨k', a', b', c', d'⟩ := stays_back hW k0 k1 k2
          rw [bt_shl (by omega) (by omega) a' (by omega)] at c'
          have e' := of_decide_eq_true c'
          subst e'
          refine ⟨k', a', by omega, rfl, ?_⟩
          show mtB σ t _ ((m : Int)).toNat k' = true
          rw [show ((m : Int)).toNat = 0 + m by omega]
          exact meF_chain _ k' k b' (by omega) d' k3
    · exact h x hx
theorem cand_unf {σ : Sto} (hW : WOK σ) {s t : Int} : ∀ (n : Nat) (i : Int) (L : List Cd), 0 ≤ i → i + n ≤ gN σ 155 3 → (∀ x ∈ L, unfOK σ s t x) → ∀ x ∈ itr (caF σ s t) n i L, unfOK σ s t x
  | 0, _, _, _, _, h => h
  | n + 1, i, L, h0, h1, h => by
    rw [itr_s]
    refine cand_unf hW n (i + 1) _ (by omega) (by omega) ?_
    unfold caF
    split
    · exact h
    · exact cd_unf hW h0 (by omega) 5 0 L h
theorem cand_un {σ : Sto} (hW : WOK σ) (s t : Int) : ∀ x ∈ candL σ s t, unfOK σ s t x := by
  have hR := hW.1
  exact cand_unf hW _ 0 [] (by omega) (by omega) (by simp)
