/-! Class and reference answer alike: boards. -/
/-- how many of n from i on -/
noncomputable def cnt (p : Int → Prop) (n : Nat) (i : Int) : Int := smZ (fun b => @ite Int (p b) (Classical.propDecidable (p b)) 1 0) n i
theorem cnt_congr {p q : Int → Prop} {n : Nat} {i : Int} (h : ∀ b, i ≤ b → b < i + n → (p b ↔ q b)) : cnt p n i = cnt q n i := by
  unfold cnt
  refine smZ_congr _ _ (fun b b0 b1 => ?_)
  have k := h b b0 b1
  by_cases c : p b
  · rw [if_pos c, if_pos (k.mp c)]
  · rw [if_neg c, if_neg (fun x => c (k.mpr x))]
theorem cnt_s {p : Int → Prop} {n : Nat} {i : Int} : (p i → cnt p (n + 1) i = 1 + cnt p n (i + 1)) ∧ (¬ p i → cnt p (n + 1) i = cnt p n (i + 1)) := by
  unfold cnt
  constructor
  · intro h
    show @ite Int (p i) (Classical.propDecidable (p i)) 1 0 + _ = _
    rw [if_pos h]
  · intro h
    show @ite Int (p i) (Classical.propDecidable (p i)) 1 0 + _ = _
    rw [if_neg h]
    omega
theorem cnt_le {p q : Int → Prop} : ∀ (n : Nat) (i : Int), (∀ b, i ≤ b → b < i + n → p b → q b) → cnt p n i ≤ cnt q n i
  | 0, _, _ => Int.le_refl _
  | n + 1, i, h => by
    have ih := cnt_le n (i + 1) (fun b b0 b1 => h b (by omega) (by omega))
    by_cases c : p i
    · rw [cnt_s.1 c, cnt_s.1 (h i (by omega) (by omega) c)]; omega
    · rw [cnt_s.2 c]
      by_cases d : q i
      · rw [cnt_s.1 d]; omega
      · rw [cnt_s.2 d]; exact ih
theorem cnt_ins {p : Int → Prop} {c : Int} (hp : ¬ p c) : ∀ (n : Nat) (i : Int), i ≤ c → c < i + n → cnt (fun b => p b ∨ b = c) n i = cnt p n i + 1
  | 0, i, h0, h1 => by omega
  | n + 1, i, h0, h1 => by
    by_cases e : i = c
    · rw [cnt_s.1 (show p i ∨ i = c from Or.inr e), cnt_s.2 (by rw [e]; exact hp)]
      rw [cnt_congr (q := p) (fun b b0 b1 => ⟨fun x => x.elim id (fun y => by omega), Or.inl⟩)]
      omega
    · have ih := cnt_ins hp n (i + 1) (by omega) (by omega)
      by_cases d : p i
      · rw [cnt_s.1 (show p i ∨ i = c from Or.inl d), cnt_s.1 d, ih]; omega
      · rw [cnt_s.2 (show ¬ (p i ∨ i = c) from fun x => x.elim d e), cnt_s.2 d, ih]
theorem cnt_lt {p q : Int → Prop} {c : Int} {n : Nat} {i : Int} (h : ∀ b, i ≤ b → b < i + n → p b → q b) (h0 : i ≤ c) (h1 : c < i + n) (hp : ¬ p c) (hq : q c) : cnt p n i + 1 ≤ cnt q n i := by
  rw [← cnt_ins hp n i h0 h1]
  exact cnt_le n i (fun b b0 b1 x => x.elim (h b b0 b1) (fun y => by rw [y]; exact hq))
theorem cnt_all : ∀ (n : Nat) (i : Int), cnt (fun _ => True) n i = n
  | 0, _ => rfl
  | n + 1, i => by rw [cnt_s.1 trivial, cnt_all n (i + 1)]; omega
/-- one on the board; ahead of another -/
abbrev bA (ρ : Sto) (co stop m r : Int) : Prop := plC ρ co r = stop ∧ ¬ cnc ρ r ∧ m ≤ miC ρ co r
abbrev bL (ρ : Sto) (co a b : Int) : Prop := miC ρ co a < miC ρ co b ∨ (miC ρ co a = miC ρ co b ∧ a < b)
/-- behind what was found last -/
abbrev bE (ρ : Sto) (co stop ride mi r : Int) : Prop := plC ρ co r = stop ∧ ¬ cnc ρ r ∧ (mi < miC ρ co r ∨ (miC ρ co r = mi ∧ ride < r))
theorem lb_ok {ρ : Sto} {co stop ride mi : Int} : ∀ (n : Nat) (k b : Int), 0 ≤ k → ((b = -2 ∧ ∀ r, 0 ≤ r → r < k → ¬ bE ρ co stop ride mi r) ∨ (0 ≤ b ∧ b < k ∧ bE ρ co stop ride mi b ∧ ∀ r, 0 ≤ r → r < k → bE ρ co stop ride mi r → r = b ∨ bL ρ co b r)) → ((itr (lbF ρ co stop ride mi) n k b = -2 ∧ ∀ r, 0 ≤ r → r < k + n → ¬ bE ρ co stop ride mi r) ∨ (0 ≤ itr (lbF ρ co stop ride mi) n k b ∧ itr (lbF ρ co stop ride mi) n k b < k + n ∧ bE ρ co stop ride mi (itr (lbF ρ co stop ride mi) n k b) ∧ ∀ r, 0 ≤ r → r < k + n → bE ρ co stop ride mi r → r = itr (lbF ρ co stop ride mi) n k b ∨ bL ρ co (itr (lbF ρ co stop ride mi) n k b) r))
  | 0, k, b, _, h => by rw [show k + ((0 : Nat) : Int) = k by omega]; exact h
  | n + 1, k, b, h0, h => by
    rw [itr_s, show k + ((n + 1 : Nat) : Int) = k + 1 + (n : Int) by omega]
    refine lb_ok n (k + 1) _ (by omega) ?_
    have e : lbF ρ co stop ride mi k b = if bE ρ co stop ride mi k ∧ (b < 0 ∨ miC ρ co k < miC ρ co b) then k else b := by
      unfold lbF bE
      refine ite_congr (propext ?_) (fun _ => rfl) (fun _ => rfl)
      exact ⟨fun x => ⟨⟨x.1, x.2.1, x.2.2.1⟩, x.2.2.2⟩, fun x => ⟨x.1.1, x.1.2.1, x.1.2.2, x.2⟩⟩
    rw [e]
    rcases h with ⟨h1, h2⟩ | ⟨h1, h2, h3, h4⟩
    · by_cases c : bE ρ co stop ride mi k
      · rw [if_pos ⟨c, Or.inl (by omega)⟩]
        refine Or.inr ⟨h0, by omega, c, fun r r0 r1 x => ?_⟩
        by_cases z : r = k
        · exact Or.inl z
        · exact absurd x (h2 r r0 (by omega))
      · rw [if_neg (fun x => c x.1)]
        refine Or.inl ⟨h1, fun r r0 r1 x => ?_⟩
        by_cases z : r = k
        · rw [z] at x; exact c x
        · exact h2 r r0 (by omega) x
    · by_cases c : bE ρ co stop ride mi k ∧ (b < 0 ∨ miC ρ co k < miC ρ co b)
      · rw [if_pos c]
        have lt : miC ρ co k < miC ρ co b := c.2.elim (fun x => by omega) id
        refine Or.inr ⟨h0, by omega, c.1, fun r r0 r1 x => ?_⟩
        by_cases z : r = k
        · exact Or.inl z
        · rcases h4 r r0 (by omega) x with y | y
          · rw [y]; exact Or.inr (Or.inl lt)
          · unfold bL at y ⊢; omega
      · rw [if_neg c]
        refine Or.inr ⟨h1, by omega, h3, fun r r0 r1 x => ?_⟩
        by_cases z : r = k
        · subst z
          have : ¬ miC ρ co r < miC ρ co b := fun y => c ⟨x, Or.inr y⟩
          unfold bL
          omega
        · exact h4 r r0 (by omega) x
noncomputable def rkB (ρ : Sto) (co stop m a : Int) : Int := cnt (fun b => bA ρ co stop m b ∧ bL ρ co b a) (gN ρ 155 3).toNat 0
theorem rk_lt {ρ : Sto} (hR : 0 ≤ gN ρ 155 3) {co stop m a b : Int} (a0 : 0 ≤ a) (a1 : a < gN ρ 155 3) (ha : bA ρ co stop m a) (h : bL ρ co a b) : rkB ρ co stop m a + 1 ≤ rkB ρ co stop m b := by
  unfold rkB
  refine cnt_lt (c := a) (fun x x0 x1 y => ⟨y.1, ?_⟩) a0 (by omega) (fun y => ?_) ⟨ha, h⟩
  · have := y.2; unfold bL at *; omega
  · have := y.2; unfold bL at this; omega
theorem rk_top {ρ : Sto} (hR : 0 ≤ gN ρ 155 3) {co stop m a : Int} (a0 : 0 ≤ a) (a1 : a < gN ρ 155 3) : rkB ρ co stop m a + 1 ≤ gN ρ 155 3 := by
  have e := cnt_all (gN ρ 155 3).toNat 0
  have := cnt_lt (p := fun b => bA ρ co stop m b ∧ bL ρ co b a) (q := fun _ => True) (c := a) (n := (gN ρ 155 3).toNat) (i := 0) (fun _ _ _ _ => trivial) a0 (by omega) (fun y => by have := y.2; unfold bL at this; omega) trivial
  unfold rkB
  omega
theorem bd_ok {ρ : Sto} (hR : 0 ≤ gN ρ 155 3) {co stop m : Int} : ∀ (n : Nat) (ride mi j : Int), (∀ r, 0 ≤ r → r < gN ρ 155 3 → bE ρ co stop ride mi r → bA ρ co stop m r) → (∀ a b, bE ρ co stop ride mi a → bA ρ co stop m b → ¬ bE ρ co stop ride mi b → bL ρ co b a) → cnt (fun b => bA ρ co stop m b ∧ ¬ bE ρ co stop ride mi b) (gN ρ 155 3).toNat 0 = j → ((bdN ρ co stop (n + 1) ride mi = -2 ∧ ∀ a, 0 ≤ a → a < gN ρ 155 3 → bA ρ co stop m a → rkB ρ co stop m a ≠ j + n) ∨ ((0 ≤ bdN ρ co stop (n + 1) ride mi ∧ bdN ρ co stop (n + 1) ride mi < gN ρ 155 3) ∧ bA ρ co stop m (bdN ρ co stop (n + 1) ride mi) ∧ rkB ρ co stop m (bdN ρ co stop (n + 1) ride mi) = j + n)) := by
  intro n
  induction n with
  | zero =>
    intro ride mi j h1 h2 h3
    have l := lb_ok (ρ := ρ) (co := co) (stop := stop) (ride := ride) (mi := mi) (gN ρ 155 3).toNat 0 (-2) (by omega) (Or.inl ⟨rfl, fun r r0 r1 => by omega⟩)
    rw [show (0 : Int) + ((gN ρ 155 3).toNat : Int) = gN ρ 155 3 by omega] at l
    unfold bdN bdN lbT
    generalize itr (lbF ρ co stop ride mi) (gN ρ 155 3).toNat 0 (-2) = a at l ⊢
    rcases l with ⟨l1, l2⟩ | ⟨l1, l2, l3, l4⟩
    · rw [if_pos (by omega)]
      refine Or.inl ⟨rfl, fun c c0 c1 hc e => ?_⟩
      have : rkB ρ co stop m c + 1 ≤ j := by
        rw [← h3]
        exact cnt_lt (c := c) (fun x x0 x1 y => ⟨y.1, l2 x x0 (by omega)⟩) c0 (by omega) (fun y => by have := y.2; unfold bL at this; omega) ⟨hc, l2 c c0 c1⟩
      omega
    · rw [if_neg (by omega)]
      refine Or.inr ⟨⟨l1, l2⟩, h1 a l1 l2 l3, ?_⟩
      rw [show j + ((0 : Nat) : Int) = j by omega, ← h3]
      unfold rkB
      refine cnt_congr (fun b b0 b1 => ⟨fun x => ⟨x.1, fun y => ?_⟩, fun x => ⟨x.1, h2 a b l3 x.1 x.2⟩⟩)
      rcases l4 b b0 (by omega) y with z | z
      · rw [z] at x; have := x.2; unfold bL at this; omega
      · have := x.2; unfold bL at this z; omega
  | succ n ih =>
    intro ride mi j h1 h2 h3
    have l := lb_ok (ρ := ρ) (co := co) (stop := stop) (ride := ride) (mi := mi) (gN ρ 155 3).toNat 0 (-2) (by omega) (Or.inl ⟨rfl, fun r r0 r1 => by omega⟩)
    rw [show (0 : Int) + ((gN ρ 155 3).toNat : Int) = gN ρ 155 3 by omega] at l
    rw [show bdN ρ co stop (n + 1 + 1) ride mi = if lbT ρ co stop ride mi < 0 then -2 else bdN ρ co stop (n + 1) (lbT ρ co stop ride mi) (miC ρ co (lbT ρ co stop ride mi)) from rfl]
    unfold lbT
    generalize itr (lbF ρ co stop ride mi) (gN ρ 155 3).toNat 0 (-2) = a at l ⊢
    rcases l with ⟨l1, l2⟩ | ⟨l1, l2, l3, l4⟩
    · rw [if_pos (by omega)]
      refine Or.inl ⟨rfl, fun c c0 c1 hc e => ?_⟩
      have : rkB ρ co stop m c + 1 ≤ j := by
        rw [← h3]
        exact cnt_lt (c := c) (fun x x0 x1 y => ⟨y.1, l2 x x0 (by omega)⟩) c0 (by omega) (fun y => by have := y.2; unfold bL at this; omega) ⟨hc, l2 c c0 c1⟩
      omega
    · rw [if_neg (by omega)]
      have ha := h1 a l1 l2 l3
      have k := ih a (miC ρ co a) (j + 1) (fun r r0 r1 x => ⟨x.1, x.2.1, by have y := x.2.2; have := ha.2.2; omega⟩) (fun x b hx hb hn => by
        have nb : ¬ (miC ρ co a < miC ρ co b ∨ (miC ρ co b = miC ρ co a ∧ a < b)) := fun y => hn ⟨hb.1, hb.2.1, y⟩
        have y := hx.2.2
        unfold bL
        omega) (by
        rw [← h3, ← cnt_ins (c := a) (p := fun b => bA ρ co stop m b ∧ ¬ bE ρ co stop ride mi b) (fun y => y.2 l3) (gN ρ 155 3).toNat 0 l1 (by omega)]
        refine cnt_congr (fun b b0 b1 => ?_)
        constructor
        · rintro ⟨x, y⟩
          by_cases z : b = a
          · exact Or.inr z
          · refine Or.inl ⟨x, fun w => ?_⟩
            rcases l4 b b0 (by omega) w with v | v
            · exact z v
            · exact y ⟨x.1, x.2.1, by unfold bL at v; omega⟩
        · rintro (⟨x, y⟩ | x)
          · refine ⟨x, fun w => ?_⟩
            have v := h2 a b l3 x y
            have := w.2.2
            unfold bL at v
            omega
          · subst x
            exact ⟨ha, fun w => by have := w.2.2; omega⟩)
      rw [show j + ((n + 1 : Nat) : Int) = j + 1 + (n : Int) by omega]
      exact k
theorem tm_A {σ : Sto} (h : LW σ) {stop m co a : Int} (a0 : 0 ≤ a) (a1 : a < gN σ 155 3) : (bA (lkN σ) co stop m a → tmF σ stop m co a = miC (lkN σ) co a ∧ miC (lkN σ) co a < 1000000) ∧ (¬ bA (lkN σ) co stop m a → tmF σ stop m co a = 1000000) := by
  have t := miC_rng h.V (co := co) a0 a1
  have e1 : (if co = 0 then LV σ a else CM σ a) = miC (lkN σ) co a := rfl
  have e2 : (if co = 0 then gN σ 155 (115 + 5 * a + 1) else gN σ 155 (115 + 5 * a + 2)) = plC (lkN σ) co a := rfl
  unfold tmF bA
  rw [e1, e2, cnc_ofB]
  constructor
  · rintro ⟨x, y, z⟩
    rw [if_neg (fun w => w.elim y (fun w => w.elim (fun v => v x) (fun v => by omega)))]
    exact ⟨rfl, by omega⟩
  · intro x
    refine if_pos ?_
    by_cases p : ofB σ a
    · exact Or.inl p
    · by_cases q : plC (lkN σ) co a = stop
      · exact Or.inr (Or.inr (by
          by_cases w : miC (lkN σ) co a < m
          · exact w
          · exact absurd ⟨q, p, by omega⟩ x))
      · exact Or.inr (Or.inl q)
theorem itr_sm {f : Int → Int} : ∀ (n : Nat) (i a : Int), itr (fun b x => x + f b) n i a = a + smZ f n i
  | 0, _, a => by show a = a + 0; omega
  | n + 1, i, a => by
    rw [itr_s, itr_sm n (i + 1)]
    show a + f i + _ = a + (f i + _)
    omega
theorem bdA_rk {σ : Sto} (h : LW σ) {stop m co a : Int} (a0 : 0 ≤ a) (a1 : a < gN σ 155 3) (ha : bA (lkN σ) co stop m a) : bdA σ stop m co a = rkB (lkN σ) co stop m a := by
  unfold bdA rkB cnt
  have e : bdB σ stop m co a = fun b x => x + (if tmF σ stop m co b < tmF σ stop m co a ∨ (tmF σ stop m co b = tmF σ stop m co a ∧ b < a) then 1 else 0) := rfl
  rw [e, itr_sm, show gN (lkN σ) 155 3 = gN σ 155 3 from rfl]
  refine (Int.zero_add _).trans (smZ_congr _ _ (fun b b0 b1 => ?_))
  · show (if tmF σ stop m co b < tmF σ stop m co a ∨ (tmF σ stop m co b = tmF σ stop m co a ∧ b < a) then (1 : Int) else 0) = @ite Int (bA (lkN σ) co stop m b ∧ bL (lkN σ) co b a) (Classical.propDecidable _) 1 0
    have x := (tm_A h (stop := stop) (m := m) (co := co) a0 a1).1 ha
    have y := tm_A h (stop := stop) (m := m) (co := co) (a := b) b0 (by omega)
    by_cases c : bA (lkN σ) co stop m b
    · have z := y.1 c
      rw [x.1, z.1]
      by_cases d : bL (lkN σ) co b a
      · rw [if_pos (show miC (lkN σ) co b < miC (lkN σ) co a ∨ (miC (lkN σ) co b = miC (lkN σ) co a ∧ b < a) from d), if_pos ⟨c, d⟩]
      · rw [if_neg (show ¬ (miC (lkN σ) co b < miC (lkN σ) co a ∨ (miC (lkN σ) co b = miC (lkN σ) co a ∧ b < a)) from d), if_neg (fun w => d w.2)]
    · have z := y.2 c
      rw [x.1, z, if_neg (by omega), if_neg (fun w => c w.1)]
theorem q_board {σ : Sto} (h : LW σ) (stop m co i : Int) : cBoard (lkN σ) stop m co i = boardF σ stop m co i := by
  unfold cBoard boardF
  refine ite_congr rfl (fun _ => rfl) (fun c => ?_)
  have R := h.1.1
  have R' : 0 ≤ gN (lkN σ) 155 3 := R.1
  rw [show gN (lkN σ) 155 3 = gN σ 155 3 from rfl]
  have key : ∀ k : Nat, (bdN (lkN σ) co stop (k + 1) (-2) m = -2 ∧ ∀ a, 0 ≤ a → a < gN σ 155 3 → bA (lkN σ) co stop m a → rkB (lkN σ) co stop m a ≠ k) ∨ ((0 ≤ bdN (lkN σ) co stop (k + 1) (-2) m ∧ bdN (lkN σ) co stop (k + 1) (-2) m < gN σ 155 3) ∧ bA (lkN σ) co stop m (bdN (lkN σ) co stop (k + 1) (-2) m) ∧ rkB (lkN σ) co stop m (bdN (lkN σ) co stop (k + 1) (-2) m) = k) := by
    intro k
    have same : ∀ r, 0 ≤ r → (bE (lkN σ) co stop (-2) m r ↔ bA (lkN σ) co stop m r) := fun r r0 => ⟨fun x => ⟨x.1, x.2.1, by have := x.2.2; omega⟩, fun x => ⟨x.1, x.2.1, by have := x.2.2; omega⟩⟩
    have z : cnt (fun b => bA (lkN σ) co stop m b ∧ ¬ bE (lkN σ) co stop (-2) m b) (gN (lkN σ) 155 3).toNat 0 = 0 := by
      rw [cnt_congr (q := fun _ => False) (fun b b0 b1 => ⟨fun x => x.2 ((same b b0).mpr x.1), fun x => x.elim⟩)]
      unfold cnt
      simp only [if_false]
      exact smZ_0 _ _
    have q := bd_ok R' (co := co) (stop := stop) (m := m) k (-2) m 0 (fun r r0 r1 x => (same r r0).mp x) (fun a b ha hb hn => by
      have nb : ¬ (m < miC (lkN σ) co b ∨ (miC (lkN σ) co b = m ∧ -2 < b)) := fun y => hn ⟨hb.1, hb.2.1, y⟩
      have y := ha.2.2
      have w := hb.2.2
      unfold bL
      omega) z
    rw [show (0 : Int) + (k : Int) = k by omega] at q
    exact q
  by_cases z : i < gN σ 155 3
  · rw [if_pos z, show (i + 1).toNat = i.toNat + 1 by omega]
    rcases key i.toNat with ⟨x, y⟩ | ⟨x, y, w⟩
    · rw [x]
      refine (fs2_none _ _ (fun a a0 a1 => ?_)).symm
      rw [decide_eq_false_iff_not]
      rintro ⟨u, v⟩
      by_cases ha : bA (lkN σ) co stop m a
      · rw [bdA_rk h a0 (by omega) ha] at v
        exact y a a0 (by omega) ha (by omega)
      · have := (tm_A h (stop := stop) (m := m) (co := co) a0 (by omega)).2 ha
        omega
    · generalize bdN (lkN σ) co stop (i.toNat + 1) (-2) m = a at x y w ⊢
      refine (fs2_first x.1 (by omega) ?_ (fun b b0 b1 hb => ?_)).symm
      · rw [decide_eq_true_iff]
        have t := (tm_A h (stop := stop) (m := m) (co := co) x.1 x.2).1 y
        exact ⟨by omega, by rw [bdA_rk h x.1 x.2 y]; omega⟩
      · rw [decide_eq_true_iff] at hb
        by_cases ha : bA (lkN σ) co stop m b
        · have v := hb.2
          rw [bdA_rk h b0 (by omega) ha] at v
          have u1 := rk_lt R' (co := co) (stop := stop) (m := m) (a := a) (b := b) x.1 x.2 y
          have u2 := rk_lt R' (co := co) (stop := stop) (m := m) (a := b) (b := a) b0 (show b < gN σ 155 3 by omega) ha
          unfold bL at u1 u2
          omega
        · have := (tm_A h (stop := stop) (m := m) (co := co) (a := b) b0 (by omega)).2 ha
          omega
  · rw [if_neg z, show (gN σ 155 3 + 1).toNat = (gN σ 155 3).toNat + 1 by omega]
    rcases key (gN σ 155 3).toNat with ⟨x, y⟩ | ⟨x, y, w⟩
    · rw [x]
      refine (fs2_none _ _ (fun a a0 a1 => ?_)).symm
      rw [decide_eq_false_iff_not]
      rintro ⟨u, v⟩
      by_cases ha : bA (lkN σ) co stop m a
      · rw [bdA_rk h a0 (by omega) ha] at v
        have := rk_top R' (co := co) (stop := stop) (m := m) a0 (show a < gN (lkN σ) 155 3 from (by have : gN (lkN σ) 155 3 = gN σ 155 3 := rfl; omega))
        have e : gN (lkN σ) 155 3 = gN σ 155 3 := rfl
        omega
      · have := (tm_A h (stop := stop) (m := m) (co := co) a0 (by omega)).2 ha
        omega
    · have := rk_top R' (co := co) (stop := stop) (m := m) x.1 x.2
      have e : gN (lkN σ) 155 3 = gN σ 155 3 := rfl
      omega
