/-! Backward and forward: the class's outlook and the reference's candidates. -/
/-- off ride i, by n changes more, at t by v -/
def FE (ρ : Sto) (t v : Int) : Nat → Int → Prop
  | 0, i => wkO ρ t i ∧ cmT ρ t i ≤ v
  | n + 1, i => ∃ k a, (0 ≤ k ∧ bt (gL ρ 163 i) k = true) ∧ k ≤ a ∧ a < gN ρ 155 3 ∧ chain ρ k a ∧ FE ρ t v n a
def FM (ρ : Sto) (t v : Int) (n : Nat) (i : Int) : Prop := ∃ a, i ≤ a ∧ a < gN ρ 155 3 ∧ chain ρ i a ∧ FE ρ t v n a
theorem setN_FE {ρ : Sto} (hW : WV ρ) {X : Int64} {t v : Int} : ∀ (n m : Nat), (∃ j, 0 ≤ j ∧ j < gN ρ 155 3 ∧ bt (setN ρ X n) j = true ∧ FE ρ t v m j) ↔ ∃ j, 0 ≤ j ∧ j < gN ρ 155 3 ∧ bt X j = true ∧ FE ρ t v (m + n) j
  | 0, m => Iff.rfl
  | n + 1, m => by
    have e : m + (n + 1) = m + 1 + n := by omega
    rw [e, ← setN_FE hW n (m + 1)]
    constructor
    · rintro ⟨j, j0, j1, hj, hf⟩
      have hj2 : bt (changedF ρ (setN ρ X n)) j = true := hj
      rw [changed_iff hW.1 j0 j1] at hj2
      obtain ⟨i, k, ⟨i0, i1, hi⟩, k0, k1, hl, hc⟩ := hj2
      exact ⟨i, i0, i1, hi, k, j, ⟨k0, hl⟩, k1, j1, hc, hf⟩
    · rintro ⟨i, i0, i1, hi, k, j, ⟨k0, hl⟩, k1, j1, hc, hf⟩
      refine ⟨j, by omega, j1, ?_, hf⟩
      show bt (changedF ρ (setN ρ X n)) j = true
      rw [changed_iff hW.1 (by omega) j1]
      exact ⟨i, k, ⟨i0, i1, hi⟩, k0, k1, hl, hc⟩
/-- the arrival of one who begins on ride i, by just n changes -/
def AN (ρ : Sto) (t : Int) (n : Nat) (i : Int) : Int := arrivesF ρ (setN ρ (staysF ρ (shlL 1 i)) n) t
theorem AN_le {ρ : Sto} (hW : WV ρ) {t v i : Int} {n : Nat} (h0 : 0 ≤ i) (h1 : i < gN ρ 155 3) (hv : v < 1000000) : AN ρ t n i ≤ v ↔ FM ρ t v n i := by
  have hR := hW.R
  unfold AN
  rw [arr_le hW.1]
  have s := setN_FE hW (X := staysF ρ (shlL 1 i)) (t := t) (v := v) n 0
  rw [Nat.zero_add] at s
  constructor
  · rintro (h | ⟨j, j0, j1, hj, hw, hc⟩)
    · omega
    · obtain ⟨a, a0, a1, ha, hf⟩ := s.mp ⟨j, j0, j1, hj, hw, hc⟩
      rw [stays_iff hW.1 a0 a1] at ha
      obtain ⟨k, k0, k1, hk, hch⟩ := ha
      rw [bt_shT h0 (by omega) k0 (by omega)] at hk
      subst hk
      exact ⟨a, k1, a1, hch, hf⟩
  · rintro ⟨a, a0, a1, hc, hf⟩
    obtain ⟨j, j0, j1, hj, hw, hv2⟩ := s.mpr ⟨a, by omega, a1, (stays_iff hW.1 (by omega) a1).mpr ⟨i, h0, a0, (bt_shT h0 (by omega) h0 (by omega)).mpr rfl, hc⟩, hf⟩
    exact Or.inr ⟨j, j0, j1, hj, hw, hv2⟩
theorem AN_rng {ρ : Sto} (hW : WV ρ) {t i : Int} {n : Nat} (ht0 : 0 ≤ t) (ht1 : t < gN ρ 155 0) : -1000 ≤ AN ρ t n i ∧ AN ρ t n i ≤ 1000000 := by
  have hS := hW.S
  exact arrivesF_rng hW.1 hW.2.2.2.1 ht0 (by omega)
theorem cnc_iff {ρ : Sto} {i : Int} (h0 : 0 ≤ i) (h1 : i < 64) : cnc ρ i ↔ bt (gL ρ 153 23) i = true := zero_of_bt h0 h1
theorem stO_iff {ρ : Sto} {i : Int} : stO ρ i ↔ nxB ρ i = true := by
  unfold nxB
  rw [decide_eq_true_iff]
theorem FM_s {ρ : Sto} {t v : Int} {n : Nat} {i : Int} (h1 : i < gN ρ 155 3) : FM ρ t v n i ↔ FE ρ t v n i ∨ (nxB ρ i = true ∧ FM ρ t v n (i + 1)) := by
  constructor
  · rintro ⟨a, a0, a1, hc, hf⟩
    by_cases e : a = i
    · subst e
      exact Or.inl hf
    · exact Or.inr ⟨hc i (by omega) (by omega), a, by omega, a1, fun m m0 m1 => hc m (by omega) m1, hf⟩
  · rintro (h | ⟨h, a, a0, a1, hc, hf⟩)
    · exact ⟨i, by omega, h1, fun m m0 m1 => by omega, h⟩
    · refine ⟨a, by omega, a1, fun m m0 m1 => ?_, hf⟩
      by_cases e : m = i
      · rw [e]; exact h
      · exact hc m (by omega) m1
theorem w0_le {ρ : Sto} {t i v : Int} (hv : v < 1000000) : w0F ρ t i ≤ v ↔ FE ρ t v 0 i := by
  unfold w0F FE wkO cmT
  split
  · exact ⟨fun h => by omega, fun h => by omega⟩
  · exact ⟨fun h => ⟨by omega, h⟩, fun h => h.2⟩
theorem arL_le {ρ : Sto} (hW : WV ρ) {t v : Int} (ht0 : 0 ≤ t) (ht1 : t < gN ρ 155 0) (hv : v < 1000000) : ∀ (c d : Nat) (i : Int), 0 ≤ i → i + d = gN ρ 155 3 → 0 < d → (arL ρ t c i ≤ v ↔ ¬ cnc ρ i ∧ ∃ n, n ≤ c ∧ FM ρ t v n i) := by
  intro c
  have hR := hW.R
  induction c with
  | zero =>
    intro d
    induction d with
    | zero => intro i _ _ h; omega
    | succ d ih =>
      intro i h0 h1 _
      have hl := lv_s (ρ := ρ) (t := t) (c := 0) (i := i) (by omega)
      have ho : ownL ρ t 0 i ≤ v ↔ ∃ n, n ≤ 0 ∧ FE ρ t v n i := by
        rw [own_zero, w0_le hv]
        exact ⟨fun h => ⟨0, by omega, h⟩, fun ⟨n, n0, h⟩ => by rw [show n = 0 by omega] at h; exact h⟩
      have hnx : nxB ρ i = true → (arL ρ t 0 (i + 1) ≤ v ↔ ∃ n, n ≤ 0 ∧ FM ρ t v n (i + 1)) := by
        intro z
        unfold nxB at z
        rw [decide_eq_true_iff] at z
        rw [ih (i + 1) (by omega) (by omega) (by omega)]
        have : ¬ cnc ρ (i + 1) := fun y => y z.2
        exact ⟨fun y => y.2, fun y => ⟨this, y⟩⟩
      unfold arL
      rw [hl]
      by_cases e : cnc ρ i
      · rw [if_pos e]
        exact ⟨fun h => by dsimp only at h; omega, fun h => absurd e h.1⟩
      · rw [if_neg e]
        have comb : (ownL ρ t 0 i ≤ v ∨ (stO ρ i ∧ arL ρ t 0 (i + 1) ≤ v)) ↔ ¬ cnc ρ i ∧ ∃ n, n ≤ 0 ∧ FM ρ t v n i := by
          rw [ho]
          constructor
          · rintro (⟨n, n0, h⟩ | ⟨h, g⟩)
            · exact ⟨e, n, n0, (FM_s (by omega)).mpr (Or.inl h)⟩
            · rw [stO_iff] at h
              obtain ⟨n, n0, g2⟩ := (hnx h).mp g
              exact ⟨e, n, n0, (FM_s (by omega)).mpr (Or.inr ⟨h, g2⟩)⟩
          · rintro ⟨_, n, n0, h⟩
            rcases (FM_s (by omega)).mp h with h | ⟨h, g⟩
            · exact Or.inl ⟨n, n0, h⟩
            · exact Or.inr ⟨stO_iff.mpr h, (hnx h).mpr ⟨n, n0, g⟩⟩
        rw [← comb]
        by_cases q : stO ρ i ∧ arL ρ t 0 (i + 1) < ownL ρ t 0 i
        · rw [if_pos q]
          exact ⟨fun h => Or.inr ⟨q.1, h⟩, fun h => h.elim (fun y => by have := q.2; unfold arL at this; omega) (fun y => y.2)⟩
        · rw [if_neg q]
          exact ⟨Or.inl, fun h => h.elim id (fun y => by
            by_cases z : arL ρ t 0 (i + 1) < ownL ρ t 0 i
            · exact absurd ⟨y.1, z⟩ q
            · have := y.2; dsimp only; omega)⟩
  | succ c ihc =>
    have hO : ∀ i : Int, 0 ≤ i → i < gN ρ 155 3 → (ownL ρ t (c + 1) i ≤ v ↔ ∃ n, n ≤ c + 1 ∧ FE ρ t v n i) := by
      intro i i0 i1
      have b := own_all hR.1 t c i
      have hk : ∀ k, 0 ≤ k → k < gN ρ 155 3 → bt (gL ρ 163 i) k = true → (prvL ρ t (c + 1) k ≤ v ↔ ∃ n, n ≤ c ∧ FM ρ t v n k) := by
        intro k k0 k1 hl
        have l := lk_in hW i0 i1 k0 (by omega) hl
        show arL ρ t c k ≤ v ↔ _
        rw [ihc (gN ρ 155 3 - k).toNat k k0 (by omega) (by omega)]
        have : ¬ cnc ρ k := by rw [cnc_iff k0 (by omega), l.2.1]; decide
        exact ⟨fun y => y.2, fun y => ⟨this, y⟩⟩
      have comb : ownL ρ t (c + 1) i ≤ v ↔ w0F ρ t i ≤ v ∨ ∃ k, 0 ≤ k ∧ k < gN ρ 155 3 ∧ bt (gL ρ 163 i) k = true ∧ prvL ρ t (c + 1) k ≤ v := by
        rcases b with ⟨b1, b2, b3⟩ | ⟨b1, b2, b3, b4, b5, b6, b7⟩
        · dsimp only at b2
          rw [b2]
          exact ⟨Or.inl, fun h => h.elim id (fun ⟨k, k0, k1, hl, hp⟩ => by have := b3 k k0 k1 hl; omega)⟩
        · dsimp only at b1 b2 b3 b4 b5 b6
          constructor
          · intro h
            exact Or.inr ⟨_, b1, b2, b3, by rw [b4]; exact h⟩
          · rintro (h | ⟨k, k0, k1, hl, hp⟩)
            · omega
            · have := b6 k k0 k1 hl; omega
      rw [comb, w0_le hv]
      constructor
      · rintro (h | ⟨k, k0, k1, hl, hp⟩)
        · exact ⟨0, by omega, h⟩
        · obtain ⟨n, n0, a, a0, a1, hc, hf⟩ := (hk k k0 k1 hl).mp hp
          exact ⟨n + 1, by omega, k, a, ⟨k0, hl⟩, a0, a1, hc, hf⟩
      · rintro ⟨n, n0, h⟩
        cases n with
        | zero => exact Or.inl h
        | succ n =>
          obtain ⟨k, a, ⟨k0, hl⟩, a0, a1, hc, hf⟩ := h
          exact Or.inr ⟨k, k0, by omega, hl, (hk k k0 (by omega) hl).mpr ⟨n, by omega, a, a0, a1, hc, hf⟩⟩
    intro d
    induction d with
    | zero => intro i _ _ h; omega
    | succ d ih =>
      intro i h0 h1 _
      have hl := lv_s (ρ := ρ) (t := t) (c := c + 1) (i := i) (by omega)
      have ho := hO i h0 (by omega)
      have hnx : nxB ρ i = true → (arL ρ t (c + 1) (i + 1) ≤ v ↔ ∃ n, n ≤ c + 1 ∧ FM ρ t v n (i + 1)) := by
        intro z
        unfold nxB at z
        rw [decide_eq_true_iff] at z
        rw [ih (i + 1) (by omega) (by omega) (by omega)]
        have : ¬ cnc ρ (i + 1) := fun y => y z.2
        exact ⟨fun y => y.2, fun y => ⟨this, y⟩⟩
      unfold arL
      rw [hl]
      by_cases e : cnc ρ i
      · rw [if_pos e]
        exact ⟨fun h => by dsimp only at h; omega, fun h => absurd e h.1⟩
      · rw [if_neg e]
        have comb : (ownL ρ t (c + 1) i ≤ v ∨ (stO ρ i ∧ arL ρ t (c + 1) (i + 1) ≤ v)) ↔ ¬ cnc ρ i ∧ ∃ n, n ≤ c + 1 ∧ FM ρ t v n i := by
          rw [ho]
          constructor
          · rintro (⟨n, n0, h⟩ | ⟨h, g⟩)
            · exact ⟨e, n, n0, (FM_s (by omega)).mpr (Or.inl h)⟩
            · rw [stO_iff] at h
              obtain ⟨n, n0, g2⟩ := (hnx h).mp g
              exact ⟨e, n, n0, (FM_s (by omega)).mpr (Or.inr ⟨h, g2⟩)⟩
          · rintro ⟨_, n, n0, h⟩
            rcases (FM_s (by omega)).mp h with h | ⟨h, g⟩
            · exact Or.inl ⟨n, n0, h⟩
            · exact Or.inr ⟨stO_iff.mpr h, (hnx h).mpr ⟨n, n0, g⟩⟩
        rw [← comb]
        by_cases q : stO ρ i ∧ arL ρ t (c + 1) (i + 1) < ownL ρ t (c + 1) i
        · rw [if_pos q]
          exact ⟨fun h => Or.inr ⟨q.1, h⟩, fun h => h.elim (fun y => by have := q.2; unfold arL at this; omega) (fun y => y.2)⟩
        · rw [if_neg q]
          exact ⟨Or.inl, fun h => h.elim id (fun y => by
            by_cases z : arL ρ t (c + 1) (i + 1) < ownL ρ t (c + 1) i
            · exact absurd ⟨y.1, z⟩ q
            · have := y.2; dsimp only; omega)⟩
/-- at most c changes: the least of those by just n -/
theorem arL_AN {ρ : Sto} (hW : WV ρ) {t v : Int} (ht0 : 0 ≤ t) (ht1 : t < gN ρ 155 0) (hv : v < 1000000) {c : Nat} {i : Int} (h0 : 0 ≤ i) (h1 : i < gN ρ 155 3) (hc : ¬ cnc ρ i) : arL ρ t c i ≤ v ↔ ∃ n, n ≤ c ∧ AN ρ t n i ≤ v := by
  rw [arL_le hW ht0 ht1 hv c (gN ρ 155 3 - i).toNat i h0 (by omega) (by omega)]
  constructor
  · rintro ⟨_, n, n0, h⟩
    exact ⟨n, n0, (AN_le hW h0 h1 hv).mpr h⟩
  · rintro ⟨n, n0, h⟩
    exact ⟨hc, n, n0, (AN_le hW h0 h1 hv).mp h⟩
/-- a departure of the class, a departure of the reference -/
theorem dp_lf {ρ : Sto} (hW : WV ρ) {s i : Int} (hs0 : 0 ≤ s) (hs1 : s < gN ρ 155 0) (h0 : 0 ≤ i) (h1 : i < gN ρ 155 3) : (0 ≤ lfF ρ s i ↔ 0 ≤ dpF ρ s i ∧ ¬ cnc ρ i) ∧ (0 ≤ lfF ρ s i → lfF ρ s i = dpF ρ s i) := by
  have hR := hW.R
  have b := hW.ride i h0 h1
  have w := hW.walk s _ hs0 hs1 b.2.1.1 b.2.1.2
  have t := hW.tm i h0 h1
  have z := bt_one (x := gL ρ 153 23) h0 (show i < 64 by omega)
  have y := cnc_iff (ρ := ρ) h0 (show i < 64 by omega)
  unfold lfF dpF
  by_cases c1 : 1000000 ≤ gN ρ 155 (15 + 10 * s + gN ρ 155 (115 + 5 * i + 1))
  · rw [if_pos c1]
    exact ⟨⟨fun h => by omega, fun h => by omega⟩, fun h => by omega⟩
  · rw [if_neg c1]
    by_cases c2 : shrL (gL ρ 153 23) i &&& 1 = 1
    · rw [if_pos c2]
      exact ⟨⟨fun h => by omega, fun h => absurd (y.mpr (z.mp c2)) h.2⟩, fun h => by omega⟩
    · rw [if_neg c2]
      exact ⟨⟨fun h => ⟨h, fun q => c2 (z.mpr (y.mp q))⟩, fun h => h.1⟩, fun _ => rfl⟩
theorem cdF_mem {ρ : Sto} {t dep i : Int} : ∀ (n k : Nat) (L : List Cd) (q : Cd), q ∈ (itr (cdF ρ t dep) n (k : Int) (L, setN ρ (staysF ρ (shlL 1 i)) k)).1 ↔ q ∈ L ∨ ∃ a, k ≤ a ∧ a < k + n ∧ AN ρ t a i < 1000000 ∧ q = (dep, AN ρ t a i, (a : Int))
  | 0, k, L, q => ⟨Or.inl, fun h => h.elim id (fun ⟨a, a0, a1, _⟩ => by omega)⟩
  | n + 1, k, L, q => by
    rw [itr_s]
    show q ∈ (itr (cdF ρ t dep) n ((k : Int) + 1) (if AN ρ t k i < 1000000 then L ++ [(dep, AN ρ t k i, (k : Int))] else L, setN ρ (staysF ρ (shlL 1 i)) (k + 1))).1 ↔ _
    rw [show (k : Int) + 1 = ((k + 1 : Nat) : Int) by omega, cdF_mem n (k + 1) _ q]
    constructor
    · rintro (h | ⟨a, a0, a1, b, c⟩)
      · split at h
        · rename_i z
          rcases List.mem_append.mp h with h | h
          · exact Or.inl h
          · exact Or.inr ⟨k, by omega, by omega, z, List.mem_singleton.mp h⟩
        · exact Or.inl h
      · exact Or.inr ⟨a, by omega, by omega, b, c⟩
    · rintro (h | ⟨a, a0, a1, b, c⟩)
      · left
        split
        · exact List.mem_append.mpr (Or.inl h)
        · exact h
      · by_cases e : a = k
        · subst e
          left
          rw [if_pos b]
          exact List.mem_append.mpr (Or.inr (List.mem_singleton.mpr c))
        · exact Or.inr ⟨a, by omega, by omega, b, c⟩
theorem caF_mem {ρ : Sto} {s t : Int} : ∀ (n : Nat) (i : Int) (L : List Cd) (q : Cd), q ∈ itr (caF ρ s t) n i L ↔ q ∈ L ∨ ∃ a, i ≤ a ∧ a < i + n ∧ 0 ≤ lfF ρ s a ∧ ∃ m : Nat, m ≤ 4 ∧ AN ρ t m a < 1000000 ∧ q = (lfF ρ s a, AN ρ t m a, (m : Int))
  | 0, i, L, q => ⟨Or.inl, fun h => h.elim id (fun ⟨a, a0, a1, _⟩ => by omega)⟩
  | n + 1, i, L, q => by
    rw [itr_s, caF_mem n (i + 1) _ q]
    have e : q ∈ caF ρ s t i L ↔ q ∈ L ∨ (0 ≤ lfF ρ s i ∧ ∃ m : Nat, m ≤ 4 ∧ AN ρ t m i < 1000000 ∧ q = (lfF ρ s i, AN ρ t m i, (m : Int))) := by
      unfold caF
      split
      · exact ⟨Or.inl, fun h => h.elim id (fun y => by omega)⟩
      · have z := cdF_mem (ρ := ρ) (t := t) (dep := lfF ρ s i) (i := i) 5 0 L q
        refine Iff.trans z ?_
        constructor
        · rintro (h | ⟨a, a0, a1, b, c⟩)
          · exact Or.inl h
          · exact Or.inr ⟨by omega, a, by omega, b, c⟩
        · rintro (h | ⟨_, a, a0, b, c⟩)
          · exact Or.inl h
          · exact Or.inr ⟨a, by omega, by omega, b, c⟩
    rw [e]
    constructor
    · rintro ((h | h) | ⟨a, a0, a1, r⟩)
      · exact Or.inl h
      · exact Or.inr ⟨i, by omega, by omega, h⟩
      · exact Or.inr ⟨a, by omega, by omega, r⟩
    · rintro (h | ⟨a, a0, a1, r⟩)
      · exact Or.inl (Or.inl h)
      · by_cases e : a = i
        · subst e
          exact Or.inl (Or.inr r)
        · exact Or.inr ⟨a, by omega, by omega, r⟩
/-- a ride that one from s can be on first -/
abbrev fsO (ρ : Sto) (s i : Int) : Prop := (0 ≤ i ∧ i < gN ρ 155 3) ∧ 0 ≤ dpF ρ s i ∧ ¬ cnc ρ i
theorem cand_mem {ρ : Sto} (hW : WV ρ) {s t : Int} (hs0 : 0 ≤ s) (hs1 : s < gN ρ 155 0) (q : Cd) : q ∈ candL ρ s t ↔ ∃ i, fsO ρ s i ∧ ∃ m : Nat, m ≤ 4 ∧ AN ρ t m i < 1000000 ∧ q = (dpF ρ s i, AN ρ t m i, (m : Int)) := by
  have hR := hW.R
  unfold candL
  rw [caF_mem]
  constructor
  · rintro (h | ⟨a, a0, a1, hl, m, m0, hm, e⟩)
    · simp at h
    · have z := dp_lf hW hs0 hs1 a0 (by omega)
      exact ⟨a, ⟨⟨a0, by omega⟩, z.1.mp hl⟩, m, m0, hm, by rw [← z.2 hl]; exact e⟩
  · rintro ⟨a, ⟨⟨a0, a1⟩, hl⟩, m, m0, hm, e⟩
    have z := dp_lf hW hs0 hs1 a0 a1
    have hl2 := z.1.mpr hl
    exact Or.inr ⟨a, a0, by omega, hl2, m, m0, hm, by rw [z.2 hl2]; exact e⟩
/-- a candidate that comes by v with c changes at most, from ride i -/
theorem cand_by {ρ : Sto} (hW : WV ρ) {s t v : Int} (hs0 : 0 ≤ s) (hs1 : s < gN ρ 155 0) (ht0 : 0 ≤ t) (ht1 : t < gN ρ 155 0) (hv : v < 1000000) {c i : Int} (hc0 : 0 ≤ c) (hc1 : c ≤ 4) (hi : fsO ρ s i) : AR ρ t c i ≤ v ↔ ∃ q ∈ candL ρ s t, q.1 = dpF ρ s i ∧ q.2.1 ≤ v ∧ q.2.2 ≤ c ∧ ∃ m : Nat, (m : Int) = q.2.2 ∧ q.2.1 = AN ρ t m i := by
  unfold AR
  rw [arL_AN hW ht0 ht1 hv hi.1.1 hi.1.2 hi.2.2]
  constructor
  · rintro ⟨n, n0, h⟩
    exact ⟨(dpF ρ s i, AN ρ t n i, (n : Int)), (cand_mem hW hs0 hs1 _).mpr ⟨i, hi, n, by omega, by omega, rfl⟩, rfl, h, by dsimp only; omega, n, rfl, rfl⟩
  · rintro ⟨q, _, _, h2, h3, m, hm, e⟩
    exact ⟨m, by omega, by rw [← e]; exact h2⟩
