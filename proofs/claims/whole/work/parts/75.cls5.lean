/-! Rides of a trip; bits of whom one can change to; times that are shifted. -/
theorem tr_mono {ρ : Sto} (h : TrOK ρ) {i : Int} (h0 : 0 ≤ i) : ∀ (n : Nat), i + n < gN ρ 155 3 → gN ρ 155 (115 + 5 * i + 0) ≤ gN ρ 155 (115 + 5 * (i + n) + 0)
  | 0, _ => by rw [show i + ((0 : Nat) : Int) = i by omega]; exact Int.le_refl _
  | n + 1, h1 => by
    have a := tr_mono h h0 n (by omega)
    have b := h.2 (i + n) (by omega) (by omega)
    rw [show i + ((n + 1 : Nat) : Int) = i + n + 1 by omega]
    exact Int.le_trans a b
theorem tr_le {ρ : Sto} (h : TrOK ρ) {i j : Int} (h0 : 0 ≤ i) (h1 : i ≤ j) (h2 : j < gN ρ 155 3) : gN ρ 155 (115 + 5 * i + 0) ≤ gN ρ 155 (115 + 5 * j + 0) := by
  have a := tr_mono h h0 (j - i).toNat (by omega)
  rw [show i + ((j - i).toNat : Int) = j by omega] at a
  exact a
theorem fo_first {ρ : Sto} {trip i : Int} (h0 : 0 ≤ i) (h1 : i < gN ρ 155 3) (h : gN ρ 155 (115 + 5 * i + 0) = trip) : foF ρ trip ≤ i := by
  have a := fs2_spec (p := fun i => decide (gN ρ 155 (115 + 5 * i + 0) = trip)) (e := -1) (gN ρ 155 3).toNat 0 i h0 (by omega) (decide_eq_true h)
  exact a.2.1
theorem f1_iff {ρ : Sto} (hW : WV ρ) {trip i : Int} (ht : trp ρ trip) (h0 : 0 ≤ i) (h1 : i < gN ρ 155 3) : gN ρ 155 (115 + 5 * i + 0) = trip ↔ f1F ρ trip ≤ i ∧ i < f1F ρ (trip + 1) := by
  have hT := hW.2.2.1
  have a := fo_ok hT ht
  have ht2 := ht.2
  have e1 : f1F ρ trip = foF ρ trip := if_pos ht2
  rw [e1]
  have b := hW.ride i h0 h1
  constructor
  · intro h
    refine ⟨fo_first h0 h1 h, ?_⟩
    unfold f1F
    split
    · rename_i z
      have c := fo_ok hT (trip := trip + 1) ⟨by have := ht.1; omega, z⟩
      apply Classical.byContradiction
      intro y
      have := tr_le hT c.1 (show foF ρ (trip + 1) ≤ i by omega) h1
      omega
    · exact h1
  · intro h
    have c := tr_le hT a.1 h.1 h1
    have d : gN ρ 155 (115 + 5 * i + 0) < trip + 1 := by
      unfold f1F at h
      split at h
      · rename_i z
        have c := fo_ok hT (trip := trip + 1) ⟨by have := ht.1; omega, z⟩
        apply Classical.byContradiction
        intro y
        have e := tr_le hT h0 (show i ≤ foF ρ (trip + 1) by omega) c.2.1
        have g := fo_first h0 h1 (show gN ρ 155 (115 + 5 * i + 0) = trip + 1 by omega)
        omega
      · have := hT.1
        omega
    omega
theorem f1_lt {ρ : Sto} (hW : WV ρ) {trip : Int} (ht : trp ρ trip) : 0 ≤ f1F ρ trip ∧ f1F ρ trip < f1F ρ (trip + 1) ∧ f1F ρ (trip + 1) ≤ gN ρ 155 3 := by
  have a := fo_ok hW.2.2.1 ht
  have e1 : f1F ρ trip = foF ρ trip := if_pos ht.2
  have b := (f1_iff hW ht a.1 a.2.1).mp a.2.2
  have c := hW.f1 (trip + 1) (by have := ht.1; omega)
  omega
theorem lkH_bt {ρ : Sto} {lv cm : Int → Int} {out : Int64} {i k : Int} : ∀ (n : Nat) (j : Int) (c : Int64), 0 ≤ j → j + n ≤ 60 → 0 ≤ k → k < 64 → bt (itr (lkHf ρ lv cm out i) n j c) k = (bt c k || decide (j ≤ k ∧ k < j + n ∧ bt out k = false ∧ btw ρ i k ≤ lv k - cm i))
  | 0, j, c, _, _, _, _ => by
    show bt c k = _
    rw [decide_eq_false (by omega), Bool.or_false]
  | n + 1, j, c, h0, h1, h2, h3 => by
    rw [itr_s, lkH_bt n (j + 1) _ (by omega) (by omega) h2 h3]
    unfold lkHf
    by_cases e : k = j
    · by_cases z : shrL out j &&& 1 = 0 ∧ btw ρ i j ≤ lv j - cm i
      · rw [if_pos z, bt_or, bt_shl h0 (by omega) h2 h3]
        have y := (bt_zero h0 (by omega)).mp z.1
        simp [e, y, z.2]
        right
        omega
      · rw [if_neg z]
        have y : ¬ (bt out k = false ∧ btw ρ i k ≤ lv k - cm i) := fun q => z (by rw [e] at q; exact ⟨(bt_zero h0 (by omega)).mpr q.1, q.2⟩)
        congr 1
        apply decide_eq_decide.mpr
        exact ⟨fun q => absurd q.2.2 y, fun q => absurd q.2.2 y⟩
    · have s : bt (if shrL out j &&& 1 = 0 ∧ btw ρ i j ≤ lv j - cm i then c ||| shlL 1 j else c) k = bt c k := by
        split
        · rw [bt_or, bt_shl h0 (by omega) h2 h3]; simp [e]
        · rfl
      rw [s]
      congr 1
      apply decide_eq_decide.mpr
      exact ⟨fun q => ⟨by have := q.1; omega, by have := q.2.1; omega, q.2.2⟩, fun q => ⟨by have := q.1; omega, by have := q.2.1; omega, q.2.2⟩⟩
abbrev okC (ρ : Sto) (i k : Int) : Prop := k < gN ρ 155 3 ∧ bt (gL ρ 153 23) k = false ∧ btw ρ i k ≤ gN ρ 161 k - gN ρ 162 i
theorem chg_bt {ρ : Sto} (hW : WV ρ) {i k : Int} (h0 : 0 ≤ i) (h1 : i < gN ρ 155 3) (h2 : 0 ≤ k) (h3 : k < 64) : bt (gL ρ 163 i) k = decide (okC ρ i k) := by
  have hR := hW.R
  rw [hW.2.2.2.2 i h0 h1, lkH_bt _ _ _ (by omega) (by omega) h2 h3, bt_0, Bool.false_or]
  apply decide_eq_decide.mpr
  unfold okC
  exact ⟨fun q => ⟨by have := q.2.1; omega, q.2.2⟩, fun q => ⟨h2, by have := q.1; omega, q.2⟩⟩
theorem lnk_bt {ρ : Sto} {i k : Int} {c : Int64} (hk0 : 0 ≤ k) (hk1 : k < gN ρ 155 3) (hR : gN ρ 155 3 ≤ 60) {x : Int} (h2 : 0 ≤ x) (h3 : x < 64) : bt (lnkF ρ i k c) x = if x = k then decide (okC ρ i k) else bt c x := by
  unfold lnkF
  by_cases z : shrL (gL ρ 153 23) k &&& 1 = 0 ∧ 0 ≤ gN ρ 161 k - gN ρ 162 i - btw ρ i k
  · have y := (bt_zero hk0 (by omega)).mp z.1
    rw [if_pos z, bt_or, bt_shl hk0 (by omega) h2 h3]
    by_cases e : x = k
    · have : okC ρ i k := ⟨hk1, y, by omega⟩
      simp [e, this]
    · simp [e]
  · rw [if_neg z, bt_and, bt_not h2 h3, bt_shl hk0 (by omega) h2 h3]
    by_cases e : x = k
    · have : ¬ okC ρ i k := fun q => z ⟨(bt_zero hk0 (by omega)).mpr q.2.1, by have := q.2.2; omega⟩
      simp [e, this]
    · simp [e]
/-- ρ' is ρ with a trip later -/
def Shd (ρ ρ' : Sto) (trip d : Int) : Prop := (∀ j, gN ρ' 155 j = gN ρ 155 j) ∧ gL ρ' 153 23 = gL ρ 153 23 ∧ ∀ i : Int, 0 ≤ i → i < gN ρ 155 3 → gN ρ' 161 i = gN ρ 161 i + (if gN ρ 155 (115 + 5 * i + 0) = trip then d else 0) ∧ gN ρ' 162 i = gN ρ 162 i + (if gN ρ 155 (115 + 5 * i + 0) = trip then d else 0)
theorem NetR.w {σ ρ ρ' : Sto} {N : Nat} (h : NetR σ N ρ) (e : ∀ j, gN ρ' 155 j = gN ρ 155 j) : NetR σ N ρ' := by
  have e2 : f1F ρ' = f1F ρ := by funext t; unfold f1F; rw [e, e, foF_eq e]
  have e3 : tfF ρ' = tfF ρ := by funext a b; unfold tfF; rw [e, e]
  unfold NetR
  rw [e2, e3]
  simp only [e]
  exact h
abbrev p11 (c : Nat) (_ : Int) : Prop := 11 ≤ c ∧ c ≤ 14
