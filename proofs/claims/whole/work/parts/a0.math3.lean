/-! The soonest arrival of the class is the earliest of the reference. -/
theorem itr_un {f : Int → Int64 → Int64} {G : Int → Int → Prop} (hf : ∀ (i : Int) (x : Int64) (j : Int), 0 ≤ i → i < 60 → 0 ≤ j → j < 64 → (bt (f i x) j = true ↔ bt x j = true ∨ G i j)) : ∀ (n : Nat) (i : Int) (x : Int64) (j : Int), 0 ≤ i → i + n ≤ 60 → 0 ≤ j → j < 64 → (bt (itr f n i x) j = true ↔ bt x j = true ∨ ∃ a, i ≤ a ∧ a < i + n ∧ G a j)
  | 0, i, x, j, _, _, _, _ => ⟨Or.inl, fun h => h.elim id (fun ⟨a, a0, a1, _⟩ => by omega)⟩
  | n + 1, i, x, j, h0, h1, h2, h3 => by
    rw [itr_s, itr_un hf n (i + 1) (f i x) j (by omega) (by omega) h2 h3, hf i x j h0 (by omega) h2 h3]
    constructor
    · rintro ((h | h) | ⟨a, a0, a1, h⟩)
      · exact Or.inl h
      · exact Or.inr ⟨i, by omega, by omega, h⟩
      · exact Or.inr ⟨a, by omega, by omega, h⟩
    · rintro (h | ⟨a, a0, a1, h⟩)
      · exact Or.inl (Or.inl h)
      · by_cases e : a = i
        · subst e
          exact Or.inl (Or.inr h)
        · exact Or.inr ⟨a, by omega, by omega, h⟩
theorem bt_orT {x y : Int64} {j : Int} : bt (x ||| y) j = true ↔ bt x j = true ∨ bt y j = true := by rw [bt_or, Bool.or_eq_true]
theorem bt_shT {k j : Int} (h0 : 0 ≤ k) (h1 : k < 64) (h2 : 0 ≤ j) (h3 : j < 64) : bt (shlL 1 k) j = true ↔ j = k := by rw [bt_shl h0 h1 h2 h3, decide_eq_true_iff]
theorem bt_0T {j : Int} : bt 0 j = true ↔ False := by rw [bt_0]; simp
theorem st_bt {ρ : Sto} {i : Int} {x : Int64} {j : Int} (h0 : 0 ≤ i) (h1 : i < 60) (h2 : 0 ≤ j) (h3 : j < 64) : bt (stF ρ i x) j = true ↔ bt x j = true ∨ (j = i + 1 ∧ bt x i = true ∧ nxB ρ i = true) := by
  unfold stF nxB
  simp only [bt_one (x := x) h0 (show i < 64 by omega), decide_eq_true_iff]
  split
  · rename_i c
    rw [bt_orT, bt_shT (by omega) (by omega) h2 h3]
    exact ⟨fun z => z.elim Or.inl (fun e => Or.inr ⟨e, c.1, c.2⟩), fun z => z.elim Or.inl (fun e => Or.inr e.1)⟩
  · rename_i c
    rw [bt_orT, bt_0T]
    exact ⟨fun z => z.elim Or.inl False.elim, fun z => z.elim Or.inl (fun e => absurd e.2 c)⟩
theorem stays_inv2 {ρ : Sto} (x : Int64) : ∀ (n : Nat) (i : Int) (y : Int64), 0 ≤ i → i + n < 60 ∨ n = 0 → (∀ j, 0 ≤ j → j < 64 → bt x j = true → bt y j = true) → (∀ j k, 0 ≤ k → k ≤ j → j ≤ i → j < 64 → bt x k = true → chain ρ k j → bt y j = true) → ∀ j k, 0 ≤ k → k ≤ j → j ≤ i + n → j < 64 → bt x k = true → chain ρ k j → bt (itr (stF ρ) n i y) j = true
  | 0, i, y, _, _, _, h, j, k, k0, k1, j1, j2, hk, hc => h j k k0 k1 (by omega) j2 hk hc
  | n + 1, i, y, h0, h1, hx, h, j, k, k0, k1, j1, j2, hk, hc => by
    rw [itr_s]
    refine stays_inv2 x n (i + 1) _ (by omega) (by omega) (fun a a0 a1 ha => (st_bt h0 (by omega) a0 a1).mpr (Or.inl (hx a a0 a1 ha))) (fun a b b0 b1 a1 a2 hb hc2 => ?_) j k k0 k1 (by omega) j2 hk hc
    by_cases e : a = i + 1
    · by_cases e2 : b = i + 1
      · exact (st_bt h0 (by omega) (by omega) a2).mpr (Or.inl (hx a (by omega) a2 (by rw [e, ← e2]; exact hb)))
      · refine (st_bt h0 (by omega) (by omega) a2).mpr (Or.inr ⟨e, ?_, hc2 i (by omega) (by omega)⟩)
        exact h i b b0 (by omega) (by omega) (by omega) hb (fun m m0 m1 => hc2 m m0 (by omega))
    · exact (st_bt h0 (by omega) (by omega) a2).mpr (Or.inl (h a b b0 b1 (by omega) a2 hb hc2))
theorem stays_iff {ρ : Sto} (hW : WOK ρ) {x : Int64} {j : Int} (h0 : 0 ≤ j) (h1 : j < gN ρ 155 3) : bt (staysF ρ x) j = true ↔ ∃ k, 0 ≤ k ∧ k ≤ j ∧ bt x k = true ∧ chain ρ k j := by
  have hR := hW.1
  refine ⟨stays_back hW h0 h1, fun ⟨k, k0, k1, hk, hc⟩ => ?_⟩
  unfold staysF
  refine stays_inv2 (ρ := ρ) x (gN ρ 155 3 - 1).toNat 0 x (by omega) (by omega) (fun _ _ _ z => z) (fun a b b0 b1 a1 a2 hb _ => ?_) j k k0 k1 (by omega) (by omega) hk hc
  rw [show a = b by omega]; exact hb
theorem chain_tr {ρ : Sto} {i j k : Int} (h : chain ρ i j) (g : chain ρ j k) : chain ρ i k := fun m m0 m1 => by
  by_cases e : m < j
  · exact h m m0 e
  · exact g m (by omega) m1
theorem ch_bt {ρ : Sto} {set : Int64} (i : Int) (x : Int64) (j : Int) (h0 : 0 ≤ i) (h1 : i < 60) (h2 : 0 ≤ j) (h3 : j < 64) : bt (chF ρ set i x) j = true ↔ bt x j = true ∨ (bt set i = true ∧ bt (gL ρ 163 i) j = true) := by
  unfold chF
  simp only [bt_one (x := set) h0 (show i < 64 by omega)]
  split
  · rename_i c
    rw [bt_orT]
    exact ⟨fun z => z.elim Or.inl (fun e => Or.inr ⟨c, e⟩), fun z => z.elim Or.inl (fun e => Or.inr e.2)⟩
  · rename_i c
    rw [bt_orT, bt_0T]
    exact ⟨fun z => z.elim Or.inl False.elim, fun z => z.elim Or.inl (fun e => absurd e.1 c)⟩
theorem changed_iff {ρ : Sto} (hW : WOK ρ) {x : Int64} {j : Int} (h0 : 0 ≤ j) (h1 : j < gN ρ 155 3) : bt (changedF ρ x) j = true ↔ ∃ i k, (0 ≤ i ∧ i < gN ρ 155 3 ∧ bt x i = true) ∧ 0 ≤ k ∧ k ≤ j ∧ bt (gL ρ 163 i) k = true ∧ chain ρ k j := by
  have hR := hW.1
  unfold changedF
  rw [stays_iff hW h0 h1]
  constructor
  · rintro ⟨k, k0, k1, hk, hc⟩
    rw [itr_un (G := fun i j => bt x i = true ∧ bt (gL ρ 163 i) j = true) (fun i y j a b c d => ch_bt i y j a b c d) _ 0 0 k (by omega) (by omega) k0 (by omega)] at hk
    rcases hk with h | ⟨a, a0, a1, g1, g2⟩
    · rw [bt_0T] at h; exact h.elim
    · exact ⟨a, k, ⟨a0, by omega, g1⟩, k0, k1, g2, hc⟩
  · rintro ⟨i, k, ⟨i0, i1, hi⟩, k0, k1, hk, hc⟩
    refine ⟨k, k0, k1, ?_, hc⟩
    rw [itr_un (G := fun i j => bt x i = true ∧ bt (gL ρ 163 i) j = true) (fun i y j a b c d => ch_bt i y j a b c d) _ 0 0 k (by omega) (by omega) k0 (by omega)]
    exact Or.inr ⟨i, i0, by omega, hi, hk⟩
/-- where one can be on first -/
def bd0 (ρ : Sto) (s m i : Int) : Prop := bt (gL ρ 153 23) i = false ∧ m ≤ gN ρ 161 i - gN ρ 155 (15 + 10 * s + gN ρ 155 (115 + 5 * i + 1))
theorem e0_iff {ρ : Sto} (hW : WV ρ) {s m : Int} (hs0 : 0 ≤ s) (hs1 : s < gN ρ 155 0) (hm : 0 ≤ m) {j : Int} (h0 : 0 ≤ j) (h1 : j < gN ρ 155 3) : bt (itr (e0F ρ s m) (gN ρ 155 3).toNat 0 0) j = true ↔ bd0 ρ s m j := by
  have hR := hW.R
  have key : ∀ i : Int, 0 ≤ i → i < gN ρ 155 3 → ((m ≤ lfF ρ s i ∧ 0 ≤ lfF ρ s i) ↔ bd0 ρ s m i) := by
    intro i i0 i1
    have b := hW.ride i i0 i1
    have w := hW.walk s _ hs0 hs1 b.2.1.1 b.2.1.2
    have t := hW.tm i i0 i1
    unfold lfF bd0
    simp only [bt_one (x := gL ρ 153 23) i0 (show i < 64 by omega)]
    by_cases c1 : 1000000 ≤ gN ρ 155 (15 + 10 * s + gN ρ 155 (115 + 5 * i + 1))
    · rw [if_pos c1]
      exact ⟨fun z => by omega, fun z => by omega⟩
    · rw [if_neg c1]
      by_cases c2 : bt (gL ρ 153 23) i = true
      · rw [if_pos c2, c2]
        exact ⟨fun z => by omega, fun z => absurd z.1 (by decide)⟩
      · rw [if_neg c2]
        have c3 : bt (gL ρ 153 23) i = false := by cases z : bt (gL ρ 153 23) i <;> simp_all
        exact ⟨fun z => ⟨c3, z.1⟩, fun z => ⟨z.2, by omega⟩⟩
  rw [itr_un (G := fun i j => j = i ∧ (m ≤ lfF ρ s i ∧ 0 ≤ lfF ρ s i)) (fun i y j a b c d => ?_) _ 0 0 j (by omega) (by omega) h0 (by omega), bt_0T, ← key j h0 h1]
  · constructor
    · rintro (h | ⟨a, a0, a1, e, g⟩)
      · exact h.elim
      · rw [e]; exact g
    · intro h
      exact Or.inr ⟨j, h0, by omega, rfl, h⟩
  · unfold e0F
    split
    · rename_i q
      rw [bt_orT, bt_shT a (by omega) c d]
      exact ⟨fun z => z.elim Or.inl (fun e => Or.inr ⟨e, q⟩), fun z => z.elim Or.inl (fun e => Or.inr e.1)⟩
    · rename_i q
      rw [bt_orT, bt_0T]
      exact ⟨fun z => z.elim Or.inl False.elim, fun z => z.elim Or.inl (fun e => absurd e.2 q)⟩
/-- which rides one is on by n changes -/
def RcN (ρ : Sto) (s m : Int) : Nat → Int → Prop
  | 0, j => ∃ k, 0 ≤ k ∧ k ≤ j ∧ bd0 ρ s m k ∧ chain ρ k j
  | n + 1, j => ∃ i k, (0 ≤ i ∧ i < gN ρ 155 3 ∧ RcN ρ s m n i) ∧ 0 ≤ k ∧ k ≤ j ∧ bt (gL ρ 163 i) k = true ∧ chain ρ k j
theorem setN_iff {ρ : Sto} (hW : WV ρ) {s m : Int} (hs0 : 0 ≤ s) (hs1 : s < gN ρ 155 0) (hm : 0 ≤ m) : ∀ (n : Nat) (j : Int), 0 ≤ j → j < gN ρ 155 3 → (bt (setN ρ (staysF ρ (itr (e0F ρ s m) (gN ρ 155 3).toNat 0 0)) n) j = true ↔ RcN ρ s m n j)
  | 0, j, h0, h1 => by
    unfold setN RcN
    rw [stays_iff hW.1 h0 h1]
    constructor
    · rintro ⟨k, k0, k1, hk, hc⟩
      exact ⟨k, k0, k1, (e0_iff hW hs0 hs1 hm k0 (by omega)).mp hk, hc⟩
    · rintro ⟨k, k0, k1, hk, hc⟩
      exact ⟨k, k0, k1, (e0_iff hW hs0 hs1 hm k0 (by omega)).mpr hk, hc⟩
  | n + 1, j, h0, h1 => by
    unfold setN RcN
    rw [changed_iff hW.1 h0 h1]
    constructor
    · rintro ⟨i, k, ⟨i0, i1, hi⟩, r⟩
      exact ⟨i, k, ⟨i0, i1, (setN_iff hW hs0 hs1 hm n i i0 i1).mp hi⟩, r⟩
    · rintro ⟨i, k, ⟨i0, i1, hi⟩, r⟩
      exact ⟨i, k, ⟨i0, i1, (setN_iff hW hs0 hs1 hm n i i0 i1).mpr hi⟩, r⟩
theorem RcN.chain {ρ : Sto} {s m : Int} {n : Nat} {i j : Int} (hij : i ≤ j) (h : RcN ρ s m n i) (hc : chain ρ i j) : RcN ρ s m n j := by
  cases n with
  | zero =>
    obtain ⟨k, k0, k1, hk, h2⟩ := h
    exact ⟨k, k0, by omega, hk, chain_tr h2 hc⟩
  | succ n =>
    obtain ⟨a, k, ha, k0, k1, hk, h2⟩ := h
    exact ⟨a, k, ha, k0, by omega, hk, chain_tr h2 hc⟩
theorem zero_of_bt {x : Int64} {i : Int} (h0 : 0 ≤ i) (h1 : i < 64) : shrL x i &&& 1 ≠ 0 ↔ bt x i = true := by
  rw [Ne, bt_zero h0 h1]
  cases bt x i <;> simp
/-- barred rides: one can't be on them -/
theorem wn_bt {ρ : Sto} {bar : Int64} {i : Int} {x : Int64} {j : Int} (h0 : 0 ≤ i) (h1 : i < 60) (h2 : 0 ≤ j) (h3 : j < 64) : bt (wnF ρ bar i x) j = true ↔ bt x j = true ∨ (j = i + 1 ∧ bt x i = true ∧ (nxt ρ i ∧ bt bar (i + 1) = false)) := by
  unfold wnF
  simp only [bt_zero (x := bar) (i := i + 1) (by omega) (by omega), zero_of_bt (x := x) h0 (show i < 64 by omega)]
  split
  · rename_i c
    rw [bt_orT, bt_shT (by omega) (by omega) h2 h3]
    exact ⟨fun z => z.elim Or.inl (fun e => Or.inr ⟨e, c.2.1, c.2.2, c.1⟩), fun z => z.elim Or.inl (fun e => Or.inr e.1)⟩
  · rename_i c
    exact ⟨Or.inl, fun z => z.elim id (fun e => absurd ⟨e.2.2.2, e.2.1, e.2.2.1⟩ c)⟩
theorem wn_st {ρ : Sto} (hR : gN ρ 155 3 ≤ 60) : ∀ (n : Nat) (i : Int) (x y : Int64), 0 ≤ i → i + n < 60 ∨ n = 0 → (∀ j, 0 ≤ j → j < 64 → bt x j = bt y j) → ∀ j, 0 ≤ j → j < 64 → bt (itr (wnF ρ (gL ρ 153 23)) n i x) j = bt (itr (stF ρ) n i y) j
  | 0, _, _, _, _, _, h, j, j0, j1 => h j j0 j1
  | n + 1, i, x, y, h0, h1, h, j, j0, j1 => by
    rw [itr_s, itr_s]
    refine wn_st hR n (i + 1) _ _ (by omega) (by omega) (fun a a0 a1 => ?_) j j0 j1
    rw [Bool.eq_iff_iff, wn_bt h0 (by omega) a0 a1, st_bt h0 (by omega) a0 a1, h a a0 a1, h i h0 (by omega)]
    unfold nxB
    rw [decide_eq_true_iff, bt_zero (by omega) (by omega)]
theorem wno_st {ρ : Sto} (hW : WV ρ) {x : Int64} {j : Int} (j0 : 0 ≤ j) (j1 : j < 64) : bt (wnoF ρ (gL ρ 153 23) x) j = bt (staysF ρ x) j := by
  have hR := hW.R
  exact wn_st hR.2 _ 0 x x (by omega) (by omega) (fun _ _ _ => rfl) j j0 j1
theorem or_zero64 (x : Int64) : x ||| 0 = x := bt_ext (fun i _ _ => by rw [bt_or, bt_0]; simp)
theorem rid0_iff {ρ : Sto} (hW : WV ρ) {s m : Int} (hs0 : 0 ≤ s) (hs1 : s < gN ρ 155 0) (hm : 0 ≤ m) {j : Int} (h0 : 0 ≤ j) (h1 : j < gN ρ 155 3) : bt (rid0 ρ s m (gL ρ 153 23)) j = true ↔ RcN ρ s m 0 j := by
  have hR := hW.R
  unfold rid0 RcN
  rw [wno_st hW h0 (by omega), stays_iff hW.1 h0 h1]
  have key : ∀ k, 0 ≤ k → k < gN ρ 155 3 → (bt (itr (ri0 ρ s m (gL ρ 153 23)) (gN ρ 155 3).toNat 0 0) k = true ↔ bd0 ρ s m k) := by
    intro k k0 k1
    rw [itr_un (G := fun i j => j = i ∧ bd0 ρ s m i) (fun i y j a b c d => ?_) _ 0 0 k (by omega) (by omega) k0 (by omega), bt_0T]
    · constructor
      · rintro (h | ⟨a, a0, a1, e, g⟩)
        · exact h.elim
        · rw [e]; exact g
      · intro h
        exact Or.inr ⟨k, k0, by omega, rfl, h⟩
    · unfold ri0 bd0
      simp only [bt_zero (x := gL ρ 153 23) a (show i < 64 by omega)]
      split
      · rename_i q
        rw [bt_orT, bt_shT a (by omega) c d]
        exact ⟨fun z => z.elim Or.inl (fun e => Or.inr ⟨e, q⟩), fun z => z.elim Or.inl (fun e => Or.inr e.1)⟩
      · rename_i q
        exact ⟨Or.inl, fun z => z.elim id (fun e => absurd e.2 q)⟩
  constructor
  · rintro ⟨k, k0, k1, hk, hc⟩
    exact ⟨k, k0, k1, (key k k0 (by omega)).mp hk, hc⟩
  · rintro ⟨k, k0, k1, hk, hc⟩
    exact ⟨k, k0, k1, (key k k0 (by omega)).mpr hk, hc⟩
/-- links don't lead to cancelled rides, nor beyond the last -/
theorem lk_in {ρ : Sto} (hW : WV ρ) {i k : Int} (h0 : 0 ≤ i) (h1 : i < gN ρ 155 3) (h2 : 0 ≤ k) (h3 : k < 64) (h : bt (gL ρ 163 i) k = true) : okC ρ i k := by
  rw [chg_bt hW h0 h1 h2 h3, decide_eq_true_iff] at h
  exact h
theorem ris_iff {ρ : Sto} (hW : WV ρ) {x : Int64} {j : Int} (h0 : 0 ≤ j) (h1 : j < gN ρ 155 3) : bt (riS ρ (gL ρ 153 23) x) j = true ↔ ∃ k, 0 ≤ k ∧ k ≤ j ∧ (bt x k = true ∨ ∃ i, 0 ≤ i ∧ i < gN ρ 155 3 ∧ bt x i = true ∧ bt (gL ρ 163 i) k = true) ∧ chain ρ k j := by
  have hR := hW.R
  unfold riS
  rw [wno_st hW h0 (by omega), stays_iff hW.1 h0 h1]
  have key : ∀ k, 0 ≤ k → k < gN ρ 155 3 → (bt (itr (ri1 ρ (gL ρ 153 23) x) (gN ρ 155 3).toNat 0 x) k = true ↔ (bt x k = true ∨ ∃ i, 0 ≤ i ∧ i < gN ρ 155 3 ∧ bt x i = true ∧ bt (gL ρ 163 i) k = true)) := by
    intro k k0 k1
    rw [itr_un (G := fun i j => bt x i = true ∧ bt (gL ρ 163 i) j = true ∧ bt (gL ρ 153 23) j = false) (fun i y j a b c d => ?_) _ 0 x k (by omega) (by omega) k0 (by omega)]
    · constructor
      · rintro (h | ⟨a, a0, a1, g1, g2, _⟩)
        · exact Or.inl h
        · exact Or.inr ⟨a, a0, by omega, g1, g2⟩
      · rintro (h | ⟨a, a0, a1, g1, g2⟩)
        · exact Or.inl h
        · exact Or.inr ⟨a, a0, by omega, g1, g2, (lk_in hW a0 a1 k0 (by omega) g2).2.1⟩
    · unfold ri1
      simp only [zero_of_bt (x := x) a (show i < 64 by omega)]
      split
      · rename_i q
        rw [bt_orT, bt_and, bt_not c d, Bool.and_eq_true, Bool.not_eq_true']
        exact ⟨fun z => z.elim Or.inl (fun e => Or.inr ⟨q, e⟩), fun z => z.elim Or.inl (fun e => Or.inr e.2)⟩
      · rename_i q
        exact ⟨Or.inl, fun z => z.elim id (fun e => absurd e.1 q)⟩
  constructor
  · rintro ⟨k, k0, k1, hk, hc⟩
    exact ⟨k, k0, k1, (key k k0 (by omega)).mp hk, hc⟩
  · rintro ⟨k, k0, k1, hk, hc⟩
    exact ⟨k, k0, k1, (key k k0 (by omega)).mpr hk, hc⟩
theorem itr_cend {α : Type} {f : α → α} : ∀ (n : Nat) (k : Int) (a : α), itr (fun _ b => f b) (n + 1) k a = f (itr (fun _ b => f b) n k a)
  | 0, _, _ => rfl
  | n + 1, k, a => by
    rw [itr_s, itr_cend n (k + 1) (f a), itr_s]
theorem ridden_iff {ρ : Sto} (hW : WV ρ) {s m : Int} (hs0 : 0 ≤ s) (hs1 : s < gN ρ 155 0) (hm : 0 ≤ m) : ∀ (n : Nat) (j : Int), 0 ≤ j → j < gN ρ 155 3 → (bt (riddenF ρ s m n 0) j = true ↔ ∃ a, a ≤ n ∧ RcN ρ s m a j) := by
  intro n
  have e0 : gL ρ 153 23 ||| 0 = gL ρ 153 23 := or_zero64 _
  induction n with
  | zero =>
    intro j h0 h1
    have es : riddenF ρ s m ((0 : Nat) : Int) 0 = rid0 ρ s m (gL ρ 153 23) := by
      unfold riddenF
      rw [e0, show ((0 : Nat) : Int).toNat = 0 by omega]
      unfold itr
      rfl
    rw [es, rid0_iff hW hs0 hs1 hm h0 h1]
    exact ⟨fun h => ⟨0, by omega, h⟩, fun ⟨a, a0, h⟩ => by rw [show a = 0 by omega] at h; exact h⟩
  | succ n ih =>
    intro j h0 h1
    have es : riddenF ρ s m ((n + 1 : Nat) : Int) 0 = riS ρ (gL ρ 153 23) (riddenF ρ s m n 0) := by
      unfold riddenF
      rw [e0, show ((n + 1 : Nat) : Int).toNat = n + 1 by omega, show ((n : Int)).toNat = n by omega, itr_cend]
    rw [es, ris_iff hW h0 h1]
    constructor
    · rintro ⟨k, k0, k1, hk, hc⟩
      rcases hk with hk | ⟨i, i0, i1, hi, hl⟩
      · obtain ⟨a, a0, ha⟩ := (ih k k0 (by omega)).mp hk
        exact ⟨a, by omega, ha.chain k1 hc⟩
      · obtain ⟨a, a0, ha⟩ := (ih i i0 i1).mp hi
        exact ⟨a + 1, by omega, i, k, ⟨i0, i1, ha⟩, k0, k1, hl, hc⟩
    · rintro ⟨a, a0, ha⟩
      by_cases e : a ≤ n
      · exact ⟨j, h0, by omega, Or.inl ((ih j h0 h1).mpr ⟨a, e, ha⟩), fun m m0 m1 => by omega⟩
      · rw [show a = n + 1 by omega] at ha
        obtain ⟨i, k, ⟨i0, i1, hi⟩, k0, k1, hl, hc⟩ := ha
        exact ⟨k, k0, k1, Or.inr ⟨i, i0, i1, (ih i i0 i1).mpr ⟨n, by omega, hi⟩, hl⟩, hc⟩
/-- times in order: a ride comes later than it leaves, the next one of its trip leaves no earlier -/
def OrdT (ρ : Sto) : Prop := (∀ i : Int, 0 ≤ i → i < gN ρ 155 3 → gN ρ 161 i < gN ρ 162 i) ∧ ∀ i : Int, 0 ≤ i → nxt ρ i → gN ρ 162 i ≤ gN ρ 161 (i + 1)
theorem chain_ord {ρ : Sto} (hO : OrdT ρ) {i : Int} (h0 : 0 ≤ i) : ∀ (n : Nat), i + n < gN ρ 155 3 → chain ρ i (i + n) → gN ρ 161 i ≤ gN ρ 161 (i + n)
  | 0, _, _ => by rw [show i + ((0 : Nat) : Int) = i by omega]; exact Int.le_refl _
  | n + 1, h1, hc => by
    have z := chain_ord hO h0 n (by omega) (fun m m0 m1 => hc m m0 (by omega))
    have y := hc (i + n) (by omega) (by omega)
    unfold nxB at y
    rw [decide_eq_true_iff] at y
    have a := hO.1 (i + n) (by omega) (by omega)
    have b := hO.2 (i + n) (by omega) y.1
    rw [show i + ((n + 1 : Nat) : Int) = i + n + 1 by omega]
    omega
theorem chain_le {ρ : Sto} (hO : OrdT ρ) {i j : Int} (h0 : 0 ≤ i) (h1 : i ≤ j) (h2 : j < gN ρ 155 3) (hc : chain ρ i j) : gN ρ 161 i ≤ gN ρ 161 j := by
  have z := chain_ord hO h0 (j - i).toNat (by omega) (by rw [show i + ((j - i).toNat : Int) = j by omega]; exact hc)
  rw [show i + ((j - i).toNat : Int) = j by omega] at z
  exact z
theorem RcN.later {ρ : Sto} (hW : WV ρ) (hO : OrdT ρ) {s m : Int} (hs0 : 0 ≤ s) (hs1 : s < gN ρ 155 0) : ∀ (n : Nat) (j : Int), 0 ≤ j → j < gN ρ 155 3 → RcN ρ s m n j → m ≤ gN ρ 161 j ∧ m < gN ρ 162 j
  | 0, j, h0, h1, ⟨k, k0, k1, hk, hc⟩ => by
    have a := chain_le hO k0 k1 h1 hc
    have b := hO.1 j h0 h1
    have r := hW.ride k k0 (by omega)
    have w := hW.walk s _ hs0 hs1 r.2.1.1 r.2.1.2
    have c := hk.2
    omega
  | n + 1, j, h0, h1, ⟨i, k, ⟨i0, i1, hi⟩, k0, k1, hl, hc⟩ => by
    have hR := hW.R
    have z := RcN.later hW hO hs0 hs1 n i i0 i1 hi
    have l := lk_in hW i0 i1 k0 (by omega) hl
    have a := chain_le hO k0 k1 h1 hc
    have b := hO.1 j h0 h1
    have r := hW.ride i i0 i1
    have r2 := hW.ride k k0 (by omega)
    have w := hW.tf _ _ r.2.2.1.1 r.2.2.1.2 r2.2.1.1 r2.2.1.2
    rw [← btw_tf] at w
    have l3 := l.2.2
    omega
/-- the least arrival of a set, by its members -/
theorem ar_min {ρ : Sto} {set : Int64} {t : Int} : ∀ (n : Nat) (i least v : Int), 0 ≤ i → i + n ≤ 60 → (itr (arF ρ set t) n i least ≤ v ↔ least ≤ v ∨ ∃ j, i ≤ j ∧ j < i + n ∧ bt set j = true ∧ gN ρ 155 (15 + 10 * gN ρ 155 (115 + 5 * j + 2) + t) < 1000000 ∧ gN ρ 162 j + gN ρ 155 (15 + 10 * gN ρ 155 (115 + 5 * j + 2) + t) ≤ v)
  | 0, i, least, v, _, _ => ⟨Or.inl, fun h => h.elim id (fun ⟨j, a, b, _⟩ => by omega)⟩
  | n + 1, i, least, v, h0, h1 => by
    rw [itr_s, ar_min n (i + 1) _ v (by omega) (by omega)]
    unfold arF
    simp only [bt_one (x := set) h0 (show i < 64 by omega)]
    constructor
    · rintro (h | ⟨j, a, b, c⟩)
      · split at h
        · rename_i q
          exact Or.inr ⟨i, by omega, by omega, q.1, q.2.1, h⟩
        · exact Or.inl h
      · exact Or.inr ⟨j, by omega, by omega, c⟩
    · rintro (h | ⟨j, a, b, c⟩)
      · left
        split
        · omega
        · exact h
      · by_cases e : j = i
        · subst e
          left
          by_cases q : bt set j = true ∧ gN ρ 155 (15 + 10 * gN ρ 155 (115 + 5 * j + 2) + t) < 1000000 ∧ gN ρ 162 j + gN ρ 155 (15 + 10 * gN ρ 155 (115 + 5 * j + 2) + t) < least
          · rw [if_pos q]; exact c.2.2
          · rw [if_neg q]
            by_cases y : least ≤ v
            · exact y
            · exact absurd ⟨c.1, c.2.1, by omega⟩ q
        · exact Or.inr ⟨j, by omega, by omega, c⟩
theorem arr_le {ρ : Sto} (hW : WOK ρ) {set : Int64} {t v : Int} : arrivesF ρ set t ≤ v ↔ 1000000 ≤ v ∨ ∃ j, 0 ≤ j ∧ j < gN ρ 155 3 ∧ bt set j = true ∧ gN ρ 155 (15 + 10 * gN ρ 155 (115 + 5 * j + 2) + t) < 1000000 ∧ gN ρ 162 j + gN ρ 155 (15 + 10 * gN ρ 155 (115 + 5 * j + 2) + t) ≤ v := by
  have hR := hW.1
  unfold arrivesF
  rw [ar_min _ 0 1000000 v (by omega) (by omega)]
  constructor
  · rintro (h | ⟨j, a, b, c⟩)
    · exact Or.inl h
    · exact Or.inr ⟨j, a, by omega, c⟩
  · rintro (h | ⟨j, a, b, c⟩)
    · exact Or.inl h
    · exact Or.inr ⟨j, a, by omega, c⟩
theorem e1_le {ρ : Sto} {t : Int} {set : Int64} : ∀ (n : Nat) (i : Int) (b : Int) (k : Nat) (v : Int), ((itr (e1F ρ t) n i (b, setN ρ set k)).1 ≤ v ↔ b ≤ v ∨ ∃ a, k ≤ a ∧ a < k + n ∧ arrivesF ρ (setN ρ set a) t ≤ v)
  | 0, i, b, k, v => ⟨Or.inl, fun h => h.elim id (fun ⟨a, a0, a1, _⟩ => by omega)⟩
  | n + 1, i, b, k, v => by
    rw [itr_s]
    show (itr (e1F ρ t) n (i + 1) (if arrivesF ρ (setN ρ set k) t < b then arrivesF ρ (setN ρ set k) t else b, setN ρ set (k + 1))).1 ≤ v ↔ _
    rw [e1_le n (i + 1) _ (k + 1) v]
    constructor
    · rintro (h | ⟨a, a0, a1, c⟩)
      · split at h
        · exact Or.inr ⟨k, by omega, by omega, h⟩
        · exact Or.inl h
      · exact Or.inr ⟨a, by omega, by omega, c⟩
    · rintro (h | ⟨a, a0, a1, c⟩)
      · left
        split <;> omega
      · by_cases e : a = k
        · subst e
          left
          split <;> omega
        · exact Or.inr ⟨a, by omega, by omega, c⟩
/-- arrival at t by ride j -/
def cmT (ρ : Sto) (t j : Int) : Int := gN ρ 162 j + gN ρ 155 (15 + 10 * gN ρ 155 (115 + 5 * j + 2) + t)
abbrev wkO (ρ : Sto) (t j : Int) : Prop := gN ρ 155 (15 + 10 * gN ρ 155 (115 + 5 * j + 2) + t) < 1000000
theorem earl_le {ρ : Sto} (hW : WV ρ) {s t m : Int} {k : Nat} (hs0 : 0 ≤ s) (hs1 : s < gN ρ 155 0) (hm : 0 ≤ m) {v : Int} (hv : v < 1000000) : earliestF ρ s t m k ≤ v ↔ (gN ρ 155 (15 + 10 * s + t) < 1000000 ∧ m + gN ρ 155 (15 + 10 * s + t) ≤ v) ∨ ∃ a j, a ≤ k ∧ 0 ≤ j ∧ j < gN ρ 155 3 ∧ RcN ρ s m a j ∧ wkO ρ t j ∧ cmT ρ t j ≤ v := by
  unfold earliestF
  rw [show ((k : Int) + 1).toNat = k + 1 by omega]
  have e := e1_le (ρ := ρ) (t := t) (set := staysF ρ (itr (e0F ρ s m) (gN ρ 155 3).toNat 0 0)) (k + 1) 0 (if 1000000 ≤ gN ρ 155 (15 + 10 * s + t) then 1000000 else m + gN ρ 155 (15 + 10 * s + t)) 0 v
  refine Iff.trans e ?_
  constructor
  · rintro (h | ⟨a, a0, a1, c⟩)
    · split at h
      · omega
      · exact Or.inl ⟨by omega, h⟩
    · rw [arr_le hW.1] at c
      rcases c with c | ⟨j, j0, j1, hj, hw, hv2⟩
      · omega
      · exact Or.inr ⟨a, j, by omega, j0, j1, (setN_iff hW hs0 hs1 hm a j j0 j1).mp hj, hw, hv2⟩
  · rintro (h | ⟨a, j, a0, j0, j1, hr, hw, hv2⟩)
    · left
      rw [if_neg (by omega)]
      exact h.2
    · refine Or.inr ⟨a, by omega, by omega, ?_⟩
      rw [arr_le hW.1]
      exact Or.inr ⟨j, j0, j1, (setN_iff hW hs0 hs1 hm a j j0 j1).mpr hr, hw, hv2⟩
theorem so_min {ρ : Sto} {set : Int64} {t : Int} : ∀ (n : Nat) (i best v : Int), 0 ≤ i → i + n ≤ 60 → (itr (soF ρ set t) n i best ≤ v ↔ best ≤ v ∨ ∃ j, i ≤ j ∧ j < i + n ∧ bt set j = true ∧ cmT ρ t j ≤ v)
  | 0, i, best, v, _, _ => ⟨Or.inl, fun h => h.elim id (fun ⟨j, a, b, _⟩ => by omega)⟩
  | n + 1, i, best, v, h0, h1 => by
    rw [itr_s, so_min n (i + 1) _ v (by omega) (by omega)]
    have e1 : soF ρ set t i best ≤ v ↔ best ≤ v ∨ (bt set i = true ∧ cmT ρ t i ≤ v) := by
      unfold soF
      simp only [zero_of_bt (x := set) h0 (show i < 64 by omega)]
      unfold cmT
      split
      · rename_i q
        split
        · exact ⟨fun h => Or.inr ⟨q, h⟩, fun h => h.elim (fun z => by omega) (fun z => z.2)⟩
        · exact ⟨Or.inl, fun h => h.elim id (fun z => by omega)⟩
      · rename_i q
        exact ⟨Or.inl, fun h => h.elim id (fun z => absurd z.1 q)⟩
    rw [e1]
    constructor
    · rintro ((h | h) | ⟨j, a, b, c⟩)
      · exact Or.inl h
      · exact Or.inr ⟨i, by omega, by omega, h⟩
      · exact Or.inr ⟨j, by omega, by omega, c⟩
    · rintro (h | ⟨j, a, b, c⟩)
      · exact Or.inl (Or.inl h)
      · by_cases e : j = i
        · subst e
          exact Or.inl (Or.inr c)
        · exact Or.inr ⟨j, by omega, by omega, c⟩
/-- two numbers up to a bound that are alike below it -/
theorem eq_of_le {x y : Int} (hx : x ≤ 1000000) (hy : y ≤ 1000000) (h : ∀ v : Int, v < 1000000 → (x ≤ v ↔ y ≤ v)) : x = y := by
  by_cases c : x < 1000000
  · have a := (h x c).mp (Int.le_refl _)
    have b := (h y (by omega)).mpr (Int.le_refl _)
    omega
  · by_cases d : y < 1000000
    · have b := (h y d).mpr (Int.le_refl _)
      omega
    · omega
theorem so_le {ρ : Sto} (hW : WV ρ) (hO : OrdT ρ) {s t m : Int} {k : Nat} (hs0 : 0 ≤ s) (hs1 : s < gN ρ 155 0) (ht0 : 0 ≤ t) (ht1 : t < gN ρ 155 0) (hm : 0 ≤ m) (hm1 : m ≤ 700000) {v : Int} (hv : v < 1000000) : SO ρ s t m k 0 ≤ v ↔ (gN ρ 155 (15 + 10 * s + t) < 1000000 ∧ m + gN ρ 155 (15 + 10 * s + t) ≤ v) ∨ ∃ a j, a ≤ k ∧ 0 ≤ j ∧ j < gN ρ 155 3 ∧ RcN ρ s m a j ∧ wkO ρ t j ∧ cmT ρ t j ≤ v := by
  have hR := hW.R
  have w := hW.walk s t hs0 hs1 ht0 ht1
  show itr (soF ρ (riddenF ρ s m k 0) t) (gN ρ 155 3).toNat 0 _ ≤ v ↔ _
  rw [so_min _ 0 _ v (by omega) (by omega)]
  constructor
  · rintro (h | ⟨j, a, b, c, d⟩)
    · split at h
      · exact Or.inl ⟨by omega, h⟩
      · omega
    · obtain ⟨n, n0, hn⟩ := (ridden_iff hW hs0 hs1 hm k j a (by omega)).mp c
      have l := hn.later hW hO hs0 hs1 n j a (by omega)
      refine Or.inr ⟨n, j, n0, a, by omega, hn, ?_, d⟩
      have r := hW.ride j a (by omega)
      have w2 := hW.walk _ t r.2.2.1.1 r.2.2.1.2 ht0 ht1
      unfold cmT at d
      unfold wkO
      omega
  · rintro (h | ⟨n, j, n0, j0, j1, hr, hw, hv2⟩)
    · left
      rw [if_pos (by omega)]
      exact h.2
    · exact Or.inr ⟨j, j0, by omega, (ridden_iff hW hs0 hs1 hm k j j0 j1).mpr ⟨n, n0, hr⟩, hv2⟩
theorem earl_top {ρ : Sto} (hW : WV ρ) {s t m : Int} (k : Nat) (hs0 : 0 ≤ s) (hs1 : s < gN ρ 155 0) (ht0 : 0 ≤ t) (ht1 : t < gN ρ 155 0) (hm1 : m ≤ 700000) : earliestF ρ s t m k ≤ 1000000 := by
  have w := hW.walk s t hs0 hs1 ht0 ht1
  unfold earliestF
  have e := e1_le (ρ := ρ) (t := t) (set := staysF ρ (itr (e0F ρ s m) (gN ρ 155 3).toNat 0 0)) ((k : Int) + 1).toNat 0 (if 1000000 ≤ gN ρ 155 (15 + 10 * s + t) then 1000000 else m + gN ρ 155 (15 + 10 * s + t)) 0 1000000
  exact e.mpr (Or.inl (by split <;> omega))
/-- EARLIEST -/
theorem SO_eq {ρ : Sto} (hW : WV ρ) (hO : OrdT ρ) {s t m k : Int} (hs0 : 0 ≤ s) (hs1 : s < gN ρ 155 0) (ht0 : 0 ≤ t) (ht1 : t < gN ρ 155 0) (hm : 0 ≤ m) (hm1 : m ≤ 700000) (hk : 0 ≤ k) : SO ρ s t m k 0 = earliestF ρ s t m k := by
  obtain ⟨n, rfl⟩ : ∃ n : Nat, k = (n : Int) := ⟨k.toNat, by omega⟩
  refine eq_of_le (soon_rng hW hs0 hs1 ht0 ht1 hm).2 (earl_top hW n hs0 hs1 ht0 ht1 hm1) (fun v hv => ?_)
  rw [so_le hW hO hs0 hs1 ht0 ht1 hm hm1 hv, earl_le hW hs0 hs1 hm hv]
theorem SO_self {ρ : Sto} (hW : WV ρ) (hO : OrdT ρ) {s m k : Int} (hs0 : 0 ≤ s) (hs1 : s < gN ρ 155 0) (hm : 0 ≤ m) (hm1 : m ≤ 700000) (hk : 0 ≤ k) : SO ρ s s m k 0 = m := by
  obtain ⟨n, rfl⟩ : ∃ n : Nat, k = (n : Int) := ⟨k.toNat, by omega⟩
  have hS := hW.S
  have d := hW.2.1.2.2.1 s hs0 (by omega)
  have a := (so_le hW hO (k := n) hs0 hs1 hs0 hs1 hm hm1 (v := m) (by omega)).mpr (Or.inl (by omega))
  by_cases c : SO ρ s s m n 0 ≤ m - 1
  · rcases (so_le hW hO (k := n) hs0 hs1 hs0 hs1 hm hm1 (v := m - 1) (by omega)).mp c with h | ⟨a, j, _, j0, j1, hr, hw, hv⟩
    · omega
    · have l := hr.later hW hO hs0 hs1 a j j0 j1
      have r := hW.ride j j0 j1
      have w2 := hW.walk _ s r.2.2.1.1 r.2.2.1.2 hs0 hs1
      unfold cmT at hv
      omega
  · omega
