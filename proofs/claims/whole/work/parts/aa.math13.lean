/-! Class and reference answer alike: what if a trip is late, or missed. -/
theorem bits_bt : ∀ (n : Nat) (a : Int) (x : Int64) (j : Int), 0 ≤ a → a + n ≤ 64 → 0 ≤ j → j < 64 → bt (itr (fun i x => x ||| shlL 1 i) n a x) j = (bt x j || decide (a ≤ j ∧ j < a + n))
  | 0, a, x, j, _, _, _, _ => by
    show bt x j = _
    rw [decide_eq_false (by omega), Bool.or_false]
  | n + 1, a, x, j, h0, h1, h2, h3 => by
    rw [itr_s, bits_bt n (a + 1) _ j (by omega) (by omega) h2 h3, bt_or, bt_shl h0 (by omega) h2 h3]
    rw [Bool.or_assoc]
    congr 1
    rw [← Bool.decide_or, decide_eq_decide]
    omega
theorem RO_bt {ρ : Sto} (hW : WV ρ) {trip j : Int} (ht : trp ρ trip) (h2 : 0 ≤ j) (h3 : j < 64) : bt (RO ρ trip) j = decide (j < gN ρ 155 3 ∧ gN ρ 155 (115 + 5 * j + 0) = trip) := by
  have R := hW.R
  have f := f1_lt hW ht
  unfold RO bitsF
  rw [bits_bt _ _ _ j (by omega) (by omega) h2 h3, bt_0, Bool.false_or, decide_eq_decide]
  constructor
  · intro h
    have k : j < gN ρ 155 3 := by omega
    exact ⟨k, (f1_iff hW ht h2 k).mpr (by omega)⟩
  · rintro ⟨k, e⟩
    have := (f1_iff hW ht h2 k).mp e
    omega
theorem lkO_bt {σ : Sto} {trip : Int} : ∀ (n : Nat) (a : Int) (x : Int64) (j : Int), 0 ≤ a → a + n ≤ 64 → 0 ≤ j → j < 64 → bt (itr (lkOf σ trip 1) n a x) j = (bt x j || decide (a ≤ j ∧ j < a + n ∧ gN σ 155 (115 + 5 * j + 0) = trip))
  | 0, a, x, j, _, _, _, _ => by
    show bt x j = _
    rw [decide_eq_false (by omega), Bool.or_false]
  | n + 1, a, x, j, h0, h1, h2, h3 => by
    rw [itr_s, lkO_bt n (a + 1) _ j (by omega) (by omega) h2 h3]
    unfold lkOf
    by_cases c : gN σ 155 (115 + 5 * a + 0) = trip
    · rw [if_pos ⟨by omega, c⟩, bt_or, bt_shl h0 (by omega) h2 h3, Bool.or_assoc]
      congr 1
      rw [← Bool.decide_or, decide_eq_decide]
      by_cases z : j = a
      · subst z; exact ⟨fun _ => ⟨by omega, by omega, c⟩, fun _ => Or.inl rfl⟩
      · exact ⟨fun y => y.elim (fun q => absurd q z) (fun q => ⟨by omega, by omega, q.2.2⟩), fun q => Or.inr ⟨by omega, by omega, q.2.2⟩⟩
    · rw [if_neg (fun y => c y.2)]
      congr 1
      rw [decide_eq_decide]
      by_cases z : j = a
      · subst z; exact ⟨fun q => absurd q.2.2 c, fun q => absurd q.2.2 c⟩
      · exact ⟨fun q => ⟨by omega, by omega, q.2.2⟩, fun q => ⟨by omega, by omega, q.2.2⟩⟩
/-- the world without a trip -/
theorem off1 {σ : Sto} (h : LW σ) {trip d j : Int} (h2 : 0 ≤ j) (h3 : j < 64) : bt (gL (look σ trip d 1) 153 23) j = (bt (gL σ 153 17) j || decide (j < gN σ 155 3 ∧ gN σ 155 (115 + 5 * j + 0) = trip)) := by
  have R := h.1.1
  rw [look23]
  unfold lkO
  rw [lkO_bt _ _ _ j (by omega) (by omega) h2 h3]
  congr 1
  rw [decide_eq_decide]
  exact ⟨fun q => ⟨by omega, q.2.2⟩, fun q => ⟨by omega, by omega, q.2⟩⟩
theorem bar_eq {σ : Sto} (h : LW σ) {trip : Int} (ht : trp σ trip) : gL (lkN σ) 153 23 ||| RO (lkN σ) trip = gL (look σ trip 0 1) 153 23 := by
  refine bt_ext (fun j h2 h3 => ?_)
  rw [bt_or, RO_bt h.V ht h2 h3, off1 h h2 h3, show gL (lkN σ) 153 23 = gL σ 153 17 from look23_0 σ (-1) 0]
  rfl
theorem t1 {σ : Sto} (h : LW σ) {trip i g : Int} (h0 : 0 ≤ i) (h1 : i < gN σ 155 3) : gN (look σ trip 0 g) 161 i = gN (lkN σ) 161 i ∧ gN (look σ trip 0 g) 162 i = gN (lkN σ) 162 i := by
  have a := look_t h.1 (trip := trip) (d := 0) (gone := g) (by omega) (by omega) h0 h1
  rw [a.1, a.2]
  constructor <;> (split <;> omega)
theorem both_and {x y b : Bool} (h : b = false → x = y) : (x && !b) = (y && !b) := by
  cases b
  · rw [h rfl]
  · rw [Bool.not_true, Bool.and_false, Bool.and_false]
theorem ln1 {σ : Sto} (h : LW σ) {trip i : Int} (h0 : 0 ≤ i) (h1 : i < gN σ 155 3) : gL (lkN σ) 163 i &&& (gL (look σ trip 0 1) 153 23 ^^^ (-1)) = gL (look σ trip 0 1) 163 i &&& (gL (look σ trip 0 1) 153 23 ^^^ (-1)) := by
  have R := h.1.1
  refine bt_ext (fun k h2 h3 => ?_)
  rw [bt_and, bt_and, bt_not h2 h3, chg_bt h.V h0 h1 h2 h3, chg_bt (h.vl trip 0 1 (by omega) (by omega)) h0 h1 h2 h3]
  refine both_and (fun c' => ?_)
  · rw [decide_eq_decide]
    have o := off1 h (trip := trip) (d := 0) h2 h3
    rw [c'] at o
    have o1 : bt (gL σ 153 17) k = false := by
      cases e : bt (gL σ 153 17) k
      · rfl
      · rw [e] at o; exact absurd o (by simp)
    have o2 : bt (gL (lkN σ) 153 23) k = false := by rw [show gL (lkN σ) 153 23 = gL σ 153 17 from look23_0 σ (-1) 0]; exact o1
    have b : btw (look σ trip 0 1) i k = btw σ i k := btw_eq (fun j => rfl) i k
    unfold okC
    rw [b, btN, c', o2, (t1 h (trip := trip) (g := 1) h0 h1).2]
    constructor
    · rintro ⟨x, _, y⟩
      rw [(t1 h (trip := trip) (g := 1) h2 x).1]
      exact ⟨x, rfl, y⟩
    · rintro ⟨x, _, y⟩
      rw [(t1 h (trip := trip) (g := 1) h2 x).1] at y
      exact ⟨x, rfl, y⟩
theorem rid_wo {σ : Sto} (h : LW σ) {trip : Int} (ht : trp σ trip) (s m k : Int) : riddenF (lkN σ) s m k (RO (lkN σ) trip) = riddenF (look σ trip 0 1) s m k 0 := by
  unfold riddenF
  rw [bar_eq h ht, or_zero64]
  have e1 : ∀ B, rid0 (lkN σ) s m B = rid0 (look σ trip 0 1) s m B := by
    intro B
    unfold rid0
    show wnoF (look σ trip 0 1) B _ = _
    congr 1
    refine itr_congr _ _ _ (fun i i0 i1 x => ?_)
    have i1 : i < 0 + ((gN σ 155 3).toNat : Int) := i1
    unfold ri0
    rw [(t1 h (trip := trip) (g := 1) i0 (by omega)).1]
    rfl
  have e2 : ∀ b, riS (lkN σ) (gL (look σ trip 0 1) 153 23) b = riS (look σ trip 0 1) (gL (look σ trip 0 1) 153 23) b := by
    intro b
    unfold riS
    show wnoF (look σ trip 0 1) _ _ = _
    congr 1
    refine itr_congr _ _ _ (fun i i0 i1 x => ?_)
    have i1 : i < 0 + ((gN σ 155 3).toNat : Int) := i1
    unfold ri1
    rw [ln1 h i0 (by omega)]
  rw [e1]
  simp only [e2]
theorem SO_wo {σ : Sto} (h : LW σ) {trip s t m : Int} (ht : trp σ trip) (hs : stp σ s) (htt : stp σ t) (hm : 0 ≤ m) (hm1 : m ≤ 700000) : SO (lkN σ) s t m 4 (RO (lkN σ) trip) = earliestF (look σ trip 0 1) s t m 4 := by
  rw [← SO_eq (h.vl trip 0 1 (by omega) (by omega)) (h.ol trip 0 1 (by omega) (by omega)) hs.1 hs.2 htt.1 htt.2 hm hm1 (by omega)]
  show soonF _ _ _ _ _ = soonF _ _ _ _ _
  rw [rid_wo h ht]
  unfold soonF
  refine itr_congr _ _ _ (fun i i0 i1 x => ?_)
  have i1 : i < 0 + ((gN σ 155 3).toNat : Int) := i1
  unfold soF
  rw [(t1 h (trip := trip) (g := 1) i0 (by omega)).2]
  rfl
theorem zero_iff {x : Int64} : x = 0 ↔ ∀ i : Int, 0 ≤ i → i < 64 → bt x i = false := ⟨fun h i _ _ => by rw [h]; exact bt_0 i, fun h => bt_ext (fun i h0 h1 => by rw [h i h0 h1, bt_0])⟩
theorem go_iff {σ : Sto} (h : LW σ) {trip : Int} (ht : trp σ trip) : RO (lkN σ) trip &&& (gL (lkN σ) 153 23 ^^^ (-1)) = 0 ↔ ¬ anyZ (goF σ trip) (gN σ 155 3).toNat 0 = true := by
  have R := h.1.1
  rw [zero_iff, anyZ_iff, show gL (lkN σ) 153 23 = gL σ 153 17 from look23_0 σ (-1) 0]
  constructor
  · rintro a ⟨x, x0, x1, y⟩
    have b := a x x0 (by omega)
    unfold goF at y
    rw [decide_eq_true_iff] at y
    rw [bt_and, RO_bt h.V ht x0 (by omega), bt_not x0 (by omega)] at b
    rw [bt_one x0 (by omega)] at y
    rw [decide_eq_true (show x < gN (lkN σ) 155 3 ∧ gN (lkN σ) 155 (115 + 5 * x + 0) = trip from ⟨show x < gN σ 155 3 by omega, y.1⟩), Bool.true_and, Bool.not_eq_false'] at b
    exact y.2 b
  · intro a i i0 i1
    rw [bt_and, RO_bt h.V ht i0 i1, bt_not i0 i1]
    cases e : (decide (i < gN (lkN σ) 155 3 ∧ gN (lkN σ) 155 (115 + 5 * i + 0) = trip) && !bt (gL σ 153 17) i)
    · rfl
    · exfalso
      rw [Bool.and_eq_true, decide_eq_true_iff, Bool.not_eq_true'] at e
      have e1 : i < gN σ 155 3 := e.1.1
      refine a ⟨i, i0, by omega, ?_⟩
      unfold goF
      rw [decide_eq_true_iff, bt_one i0 i1]
      exact ⟨e.1.2, by rw [e.2]; decide⟩
theorem ms_eq {σ : Sto} (h : LW σ) {s t m : Int} (hs : stp σ s) (ht : stp σ t) (hm : mnt m) : ∀ (n : Nat) (i : Int) (q : Int × Int), 0 ≤ i → i + n ≤ gN σ 155 2 → (q.1 = -2 ∨ 0 ≤ q.1) → itr (msC (lkN σ) s t m) n i q = itr (msF σ s t m) n i q ∧ ((itr (msF σ s t m) n i q).1 = -2 ∨ 0 ≤ (itr (msF σ s t m) n i q).1)
  | 0, _, _, _, _, hq => ⟨rfl, hq⟩
  | n + 1, i, q, h0, h1, hq => by
    have tp : trp σ i := ⟨h0, by omega⟩
    have e : msC (lkN σ) s t m i q = msF σ s t m i q := by
      unfold msC msF
      rw [SO_wo h tp hs ht (by omega) (by omega)]
      by_cases c : anyZ (goF σ i) (gN σ 155 3).toNat 0 = true
      · rw [if_neg (fun x => (go_iff h tp).mp x c)]
        by_cases d : q.2 < earliestF (look σ i 0 1) s t m 4
        · rw [if_pos d, if_pos ⟨c, d⟩]
        · rw [if_neg d, if_neg (fun x => d x.2)]
      · rw [if_pos ((go_iff h tp).mpr c), if_neg (fun x => c x.1)]
    rw [itr_s, itr_s, e]
    refine ms_eq h hs ht hm n (i + 1) _ (by omega) (by omega) ?_
    unfold msF
    split
    · exact Or.inr h0
    · exact hq
theorem q_missed {σ : Sto} (h : LW σ) (s t m what : Int) : cMissed (lkN σ) s t m what = missedF σ s t m what := by
  unfold cMissed missedF
  refine ite_congr rfl (fun _ => rfl) (fun c => ?_)
  have hs : stp σ s := ⟨by omega, by omega⟩
  have ht : stp σ t := ⟨by omega, by omega⟩
  have T := h.1.2.2.1
  rw [SO_eq h.V h.O hs.1 hs.2 ht.1 ht.2 (by omega) (by omega) (by omega)]
  refine ite_congr rfl (fun _ => rfl) (fun d => ?_)
  have e := ms_eq h hs ht (m := m) ⟨by omega, by omega⟩ (gN σ 155 2).toNat 0 (-2, -1) (by omega) (by omega) (Or.inl rfl)
  rw [show gN (lkN σ) 155 2 = gN σ 155 2 from rfl, e.1]
  generalize itr (msF σ s t m) (gN σ 155 2).toNat 0 (-2, -1) = q at e ⊢
  have := e.2
  unfold mssR msR
  refine ite_congr (propext ?_) (fun _ => rfl) (fun _ => rfl)
  omega
/-- a way without the trip is a way however late the trip is -/
theorem rcn_keep {σ : Sto} (h : LW σ) {trip d s m : Int} (d0 : -60 ≤ d) (d1 : d ≤ 240) : ∀ (n : Nat) (j : Int), 0 ≤ j → j < gN σ 155 3 → RcN (look σ trip 0 1) s m n j → gN σ 155 (115 + 5 * j + 0) ≠ trip ∧ RcN (look σ trip d 0) s m n j := by
  have R := h.1.1
  have no : ∀ k, 0 ≤ k → k < gN σ 155 3 → bt (gL (look σ trip 0 1) 153 23) k = false → gN σ 155 (115 + 5 * k + 0) ≠ trip ∧ bt (gL (look σ trip d 0) 153 23) k = false := by
    intro k k0 k1 c
    have o := off1 h (trip := trip) (d := 0) k0 (by omega)
    rw [c] at o
    rw [look23_0]
    constructor
    · intro e
      rw [decide_eq_true ⟨k1, e⟩, Bool.or_true] at o
      exact absurd o (by decide)
    · cases e : bt (gL σ 153 17) k
      · rfl
      · rw [e] at o; exact absurd o (by simp)
  have tm : ∀ k, 0 ≤ k → k < gN σ 155 3 → gN σ 155 (115 + 5 * k + 0) ≠ trip → gN (look σ trip d 0) 161 k = gN (look σ trip 0 1) 161 k ∧ gN (look σ trip d 0) 162 k = gN (look σ trip 0 1) 162 k := by
    intro k k0 k1 c
    have a := look_t h.1 (trip := trip) (d := d) (gone := 0) d0 d1 k0 k1
    have b := t1 h (trip := trip) (g := 1) k0 k1
    rw [a.1, a.2, b.1, b.2, if_neg c]
    omega
  have ch : ∀ k j, 0 ≤ k → k ≤ j → j < gN σ 155 3 → gN σ 155 (115 + 5 * k + 0) ≠ trip → chain (look σ trip 0 1) k j → chain (look σ trip d 0) k j ∧ gN σ 155 (115 + 5 * j + 0) ≠ trip := by
    intro k j k0 kj j1 c hc
    have st : ∀ x, k ≤ x → x < j → nxB (look σ trip d 0) x = true ∧ gN σ 155 (115 + 5 * (x + 1) + 0) ≠ trip := by
      intro x x0 x1
      have y := hc x x0 x1
      unfold nxB at y
      rw [decide_eq_true_iff] at y
      have n1 : x + 1 < gN σ 155 3 := y.1.1
      have f : bt (gL (look σ trip 0 1) 153 23) (x + 1) = false := by
        cases e : bt (gL (look σ trip 0 1) 153 23) (x + 1)
        · rfl
        · rw [← bt_one (by omega) (by omega)] at e
          rw [e] at y
          exact absurd y.2 (by decide)
      have z := no (x + 1) (by omega) n1 f
      refine ⟨?_, z.1⟩
      unfold nxB
      rw [decide_eq_true_iff]
      refine ⟨y.1, ?_⟩
      by_cases w : shrL (gL (look σ trip d 0) 153 23) (x + 1) &&& 1 = 0
      · exact w
      · have := (zero_of_bt (x := gL (look σ trip d 0) 153 23) (i := x + 1) (by omega) (by omega)).mp w
        rw [z.2] at this
        exact absurd this (by decide)
    refine ⟨fun x x0 x1 => (st x x0 x1).1, ?_⟩
    by_cases z : k = j
    · rw [← z]; exact c
    · have := (st (j - 1) (by omega) (by omega)).2
      rw [show j - 1 + 1 = j by omega] at this
      exact this
  intro n
  induction n with
  | zero =>
    rintro j j0 j1 ⟨k, k0, kj, ⟨b1, b2⟩, hc⟩
    have z := no k k0 (by omega) b1
    have y := ch k j k0 kj j1 z.1 hc
    refine ⟨y.2, k, k0, kj, ⟨z.2, ?_⟩, y.1⟩
    rw [(tm k k0 (by omega) z.1).1]
    exact b2
  | succ n ih =>
    rintro j j0 j1 ⟨i, k, ⟨i0, i1, hr⟩, k0, kj, hk, hc⟩
    have a := ih i i0 i1 hr
    have l := lk_in (h.vl trip 0 1 (by omega) (by omega)) i0 i1 k0 (by omega) hk
    have z := no k k0 (by omega) l.2.1
    have y := ch k j k0 kj j1 z.1 hc
    refine ⟨y.2, i, k, ⟨i0, i1, a.2⟩, k0, kj, ?_, y.1⟩
    rw [chg_bt (h.vl trip d 0 d0 d1) i0 i1 k0 (by omega), decide_eq_true_iff]
    refine ⟨l.1, z.2, ?_⟩
    rw [(tm k k0 (by omega) z.1).1, (tm i i0 i1 a.1).2]
    have q := l.2.2
    rw [show btw (look σ trip 0 1) i k = btw σ i k from btw_eq (fun j => rfl) i k] at q
    rw [show btw (look σ trip d 0) i k = btw σ i k from btw_eq (fun j => rfl) i k]
    exact q
theorem earl_keep {σ : Sto} (h : LW σ) {trip d s t m : Int} (d0 : -60 ≤ d) (d1 : d ≤ 240) (hs : stp σ s) (hm : 0 ≤ m) {v : Int} (hv : v < 1000000) (a : earliestF (look σ trip 0 1) s t m 4 ≤ v) : earliestF (look σ trip d 0) s t m 4 ≤ v := by
  have x := earl_le (h.vl trip 0 1 (by omega) (by omega)) (s := s) (t := t) (m := m) (k := 4) hs.1 hs.2 hm hv
  have y := earl_le (h.vl trip d 0 d0 d1) (s := s) (t := t) (m := m) (k := 4) hs.1 hs.2 hm hv
  refine y.mpr ?_
  rcases x.mp a with w | ⟨b, j, b0, j0, j1, r, w, c⟩
  · exact Or.inl w
  · have k := rcn_keep h d0 d1 b j j0 j1 r
    refine Or.inr ⟨b, j, b0, j0, j1, k.2, w, ?_⟩
    have p := look_t h.1 (trip := trip) (d := d) (gone := 0) d0 d1 j0 j1
    have q := t1 h (trip := trip) (g := 1) j0 j1
    unfold cmT at c ⊢
    rw [p.2, if_neg k.1]
    rw [q.2] at c
    have c : gN (lkN σ) 162 j + gN σ 155 (15 + 10 * gN σ 155 (115 + 5 * j + 2) + t) ≤ v := c
    show gN (lkN σ) 162 j + 0 + gN σ 155 (15 + 10 * gN σ 155 (115 + 5 * j + 2) + t) ≤ v
    omega
theorem fs2_none {p : Int → Bool} {e : Int} : ∀ (n : Nat) (k : Int), (∀ x, k ≤ x → x < k + n → p x = false) → fs2 p e n k = e
  | 0, _, _ => rfl
  | n + 1, k, h => by
    rw [fs2_no (h k (by omega) (by omega))]
    exact fs2_none n (k + 1) (fun x x0 x1 => h x (by omega) (by omega))
theorem q_late {σ : Sto} (h : LW σ) (trip s t m : Int) : cLate (lkN σ) (fun d => look σ trip d 0) trip s t m = lateF σ trip s t m := by
  unfold cLate lateF
  refine ite_congr rfl (fun _ => rfl) (fun c => ?_)
  have tp : trp σ trip := ⟨by omega, by omega⟩
  have hs : stp σ s := ⟨by omega, by omega⟩
  have ht : stp σ t := ⟨by omega, by omega⟩
  rw [SO_eq h.V h.O hs.1 hs.2 ht.1 ht.2 (by omega) (by omega) (by omega)]
  refine ite_congr rfl (fun _ => rfl) (fun d => ?_)
  have d : ¬ 1000000 ≤ earliestF (lkN σ) s t m 4 := d
  rw [SO_wo h tp hs ht (by omega) (by omega)]
  by_cases e : earliestF (look σ trip 0 1) s t m 4 ≤ earliestF (lkN σ) s t m 4
  · rw [if_pos e]
    refine (fs2_none _ _ (fun x x0 x1 => ?_)).symm
    have k := earl_keep h (d := x) (trip := trip) (s := s) (t := t) (m := m) (by omega) (by omega) hs (by omega) (v := earliestF (lkN σ) s t m 4) (by omega) e
    rw [decide_eq_false_iff_not]
    show ¬ earliestF (lkN σ) s t m 4 < _
    omega
  · rw [if_neg e]
    refine fs2_congr _ _ (fun x x0 x1 => ?_)
    rw [SO_eq (h.vl trip x 0 (by omega) (by omega)) (h.ol trip x 0 (by omega) (by omega)) hs.1 hs.2 ht.1 ht.2 (by omega) (by omega) (by omega)]
theorem q_ifLate {σ : Sto} (h : LW σ) (trip d s t m : Int) : cIfLate (lkN σ) (look σ trip d 0) trip d s t m = ifLateF σ trip d s t m := by
  unfold cIfLate ifLateF
  refine ite_congr rfl (fun _ => rfl) (fun c => ?_)
  have V := h.vl trip d 0 (by omega) (by omega)
  have O := h.ol trip d 0 (by omega) (by omega)
  by_cases e : s = t
  · subst e
    rw [if_pos rfl, SO_self V O (show 0 ≤ s by omega) (show s < gN σ 155 0 by omega) (by omega) (by omega) (by omega)]
    show (if (1000000 : Int) ≤ m then -2 else m) = m
    rw [if_neg (by omega)]
  · rw [if_neg e, SO_eq V O (show 0 ≤ s by omega) (show s < gN σ 155 0 by omega) (show 0 ≤ t by omega) (show t < gN σ 155 0 by omega) (by omega) (by omega) (by omega)]
/-- the worlds that late and ifLate go through -/
theorem look_0 (σ : Sto) (trip : Int) : look σ trip 0 0 = lkN σ := by
  have a : ∀ i, lkL σ trip 0 i = lkL σ (-1) 0 i := fun i => by unfold lkL; split <;> split <;> rfl
  have b : ∀ i, lkC σ trip 0 i = lkC σ (-1) 0 i := fun i => by unfold lkC; split <;> split <;> rfl
  have c : lkO σ trip 0 = lkO σ (-1) 0 := by
    unfold lkO
    rw [itr_id (fun k x => by unfold lkOf; rw [if_neg (by omega)]), itr_id (fun k x => by unfold lkOf; rw [if_neg (by omega)])]
  have d : ∀ i, lkH σ trip 0 0 i = lkH σ (-1) 0 0 i := fun i => by unfold lkH; rw [funext a, funext b, c]
  unfold lkN look
  simp only [a, b, c, d]
theorem look_Sh {σ : Sto} (h : LW σ) {trip d e : Int} (d0 : -60 ≤ d) (d1 : d ≤ 240) (e0 : -60 ≤ e) (e1 : e ≤ 240) : Shd (look σ trip d 0) (look σ trip e 0) trip (e - d) := by
  refine ⟨fun j => rfl, by rw [look23_0, look23_0], fun i i0 i1 => ?_⟩
  have a := look_t h.1 (trip := trip) (d := d) (gone := 0) d0 d1 i0 i1
  have b := look_t h.1 (trip := trip) (d := e) (gone := 0) e0 e1 i0 i1
  rw [a.1, a.2, b.1, b.2, show gN (look σ trip d 0) 155 (115 + 5 * i + 0) = gN σ 155 (115 + 5 * i + 0) from rfl]
  constructor <;> (split <;> omega)
