/-! Sorted lists; the order of departures; what is kept. -/
theorem posK_yes {p : Int → Bool} {K : List Int} : ∀ (n j : Nat), posK p K n ≤ j → j < n → p (K.getD j 0) = true
  | 0, j, _, h => by omega
  | n + 1, j, h0, h1 => by
    unfold posK at h0
    split at h0
    · rename_i c
      by_cases e : j = n
      · rw [e]; exact c
      · exact posK_yes n j h0 (by omega)
    · omega
theorem posK_no {p : Int → Bool} {K : List Int} : ∀ n : Nat, 0 < posK p K n → p (K.getD (posK p K n - 1) 0) = false
  | 0, h => by unfold posK at h; omega
  | n + 1, h => by
    unfold posK at h ⊢
    split at h
    · rename_i c
      rw [if_pos c]
      exact posK_no n h
    · rename_i c
      rw [if_neg c]
      show p (K.getD n 0) = false
      cases z : p (K.getD n 0) <;> simp_all
theorem insK_iff {p : Int → Bool} {a x : Int} {K : List Int} : x ∈ insK p a K ↔ x = a ∨ x ∈ K := by
  refine ⟨insK_mem, fun h => ?_⟩
  unfold insK
  rw [List.mem_append, List.mem_cons]
  rcases h with h | h
  · exact Or.inr (Or.inl h)
  · rw [← List.take_append_drop (posK p K K.length) K] at h
    rcases List.mem_append.mp h with h | h
    · exact Or.inl h
    · exact Or.inr (Or.inr h)
theorem insK_sorted {lt : Int → Int → Prop} {p : Int → Bool} {a : Int} {K : List Int} (hp : ∀ y ∈ K, (p y = true ↔ lt a y)) (ht : ∀ y ∈ K, ¬ lt a y → lt y a) (tr : ∀ x y z, lt x y → lt y z → lt x z) (hs : K.Pairwise lt) : (insK p a K).Pairwise lt := by
  have hle := posK_le (p := p) (K := K) K.length
  have hsplit := hs
  rw [← List.take_append_drop (posK p K K.length) K] at hsplit
  rw [List.pairwise_append] at hsplit
  obtain ⟨h1, h2, h3⟩ := hsplit
  have hdrop : ∀ y ∈ K.drop (posK p K K.length), lt a y := by
    intro y hy
    obtain ⟨j, hj, e⟩ := List.mem_iff_getElem.mp hy
    rw [List.getElem_drop] at e
    rw [List.length_drop] at hj
    have z := posK_yes (p := p) (K := K) K.length (posK p K K.length + j) (by omega) (by omega)
    rw [List.getD_eq_getElem?_getD, List.getElem?_eq_getElem (by omega)] at z
    simp only [Option.getD_some, e] at z
    exact (hp y (List.mem_of_mem_drop hy)).mp z
  have htake : ∀ x ∈ K.take (posK p K K.length), lt x a := by
    intro x hx
    obtain ⟨j, hj, e⟩ := List.mem_iff_getElem.mp hx
    rw [List.length_take] at hj
    rw [List.getElem_take] at e
    have z := posK_no (p := p) (K := K) K.length (by omega)
    rw [List.getD_eq_getElem?_getD, List.getElem?_eq_getElem (by omega)] at z
    simp only [Option.getD_some] at z
    have hm : K[posK p K K.length - 1] ∈ K := List.getElem_mem _
    have hl : lt (K[posK p K K.length - 1]) a := ht _ hm (fun y => by rw [← hp _ hm, z] at y; exact absurd y (by decide))
    by_cases e2 : j = posK p K K.length - 1
    · subst e2
      rw [← e]; exact hl
    · have := List.pairwise_iff_getElem.mp hs j (posK p K K.length - 1) (by omega) (by omega) (by omega)
      rw [← e]
      exact tr _ _ _ this hl
  unfold insK
  rw [List.pairwise_append]
  refine ⟨h1, List.pairwise_cons.mpr ⟨hdrop, h2⟩, fun x hx y hy => ?_⟩
  rcases List.mem_cons.mp hy with e | e
  · rw [e]; exact htake x hx
  · exact h3 x hx y e
theorem sorted_eq {α : Type} {lt : α → α → Prop} (ir : ∀ x, ¬ lt x x) (as : ∀ x y, lt x y → lt y x → False) : ∀ (A B : List α), A.Pairwise lt → B.Pairwise lt → (∀ x, x ∈ A ↔ x ∈ B) → A = B
  | [], [], _, _, _ => rfl
  | [], b :: B, _, _, h => absurd ((h b).mpr List.mem_cons_self) (by simp)
  | a :: A, [], _, _, h => absurd ((h a).mp List.mem_cons_self) (by simp)
  | a :: A, b :: B, hA, hB, h => by
    rw [List.pairwise_cons] at hA hB
    have e : a = b := by
      rcases List.mem_cons.mp ((h a).mp List.mem_cons_self) with x | x
      · exact x
      · rcases List.mem_cons.mp ((h b).mpr List.mem_cons_self) with y | y
        · exact y.symm
        · exact (as _ _ (hB.1 a x) (hA.1 b y)).elim
    subst e
    rw [sorted_eq ir as A B hA.2 hB.2 (fun x => ?_)]
    constructor
    · intro hx
      rcases List.mem_cons.mp ((h x).mp (List.mem_cons_of_mem _ hx)) with y | y
      · subst y
        exact (ir _ (hA.1 x hx)).elim
      · exact y
    · intro hx
      rcases List.mem_cons.mp ((h x).mpr (List.mem_cons_of_mem _ hx)) with y | y
      · subst y
        exact (ir _ (hB.1 x hx)).elim
      · exact y
/-- departures in their order -/
def dlt (ρ : Sto) (s x y : Int) : Prop := dpF ρ s x < dpF ρ s y ∨ (dpF ρ s x = dpF ρ s y ∧ x < y)
theorem oi_sorted {ρ : Sto} {s : Int} : ∀ (n : Nat) (r : Int) (K : List Int), K.Pairwise (dlt ρ s) → (∀ x ∈ K, x < r) → (itr (oiF ρ s) n r K).Pairwise (dlt ρ s) ∧ ∀ x, (x ∈ itr (oiF ρ s) n r K ↔ x ∈ K ∨ (r ≤ x ∧ x < r + n ∧ 0 ≤ dpF ρ s x ∧ ¬ cnc ρ x))
  | 0, r, K, h, _ => ⟨h, fun x => ⟨Or.inl, fun y => y.elim id (fun z => by omega)⟩⟩
  | n + 1, r, K, h, hb => by
    rw [itr_s]
    by_cases c : 0 ≤ dpF ρ s r ∧ ¬ cnc ρ r
    · have e : oiF ρ s r K = insK (fun y => decide (dpF ρ s r < dpF ρ s y)) r K := if_pos c
      rw [e]
      have hs : (insK (fun y => decide (dpF ρ s r < dpF ρ s y)) r K).Pairwise (dlt ρ s) := insK_sorted (fun y hy => by
        rw [decide_eq_true_iff]
        have := hb y hy
        unfold dlt
        omega) (fun y hy z => by
        have := hb y hy
        unfold dlt at z ⊢
        omega) (fun x y z a b => by unfold dlt at a b ⊢; omega) h
      have ih := oi_sorted n (r + 1) _ hs (fun x hx => by
        rcases insK_iff.mp hx with y | y
        · omega
        · have := hb x y; omega)
      refine ⟨ih.1, fun x => (ih.2 x).trans ?_⟩
      rw [insK_iff]
      constructor
      · rintro ((h | h) | h)
        · subst h
          exact Or.inr ⟨by omega, by omega, c⟩
        · exact Or.inl h
        · exact Or.inr ⟨by omega, by omega, h.2.2⟩
      · rintro (h | ⟨h1, h2, h3⟩)
        · exact Or.inl (Or.inr h)
        · by_cases e : x = r
          · exact Or.inl (Or.inl e)
          · exact Or.inr ⟨by omega, by omega, h3⟩
    · have e : oiF ρ s r K = K := if_neg c
      rw [e]
      have ih := oi_sorted n (r + 1) K h (fun x hx => by have := hb x hx; omega)
      refine ⟨ih.1, fun x => (ih.2 x).trans ?_⟩
      constructor
      · rintro (h | h)
        · exact Or.inl h
        · exact Or.inr ⟨by omega, by omega, h.2.2⟩
      · rintro (h | ⟨h1, h2, h3⟩)
        · exact Or.inl h
        · by_cases e : x = r
          · rw [e] at h3; exact absurd h3 c
          · exact Or.inr ⟨by omega, by omega, h3⟩
theorem ord_sorted {ρ : Sto} (hR : 0 ≤ gN ρ 155 3) (s : Int) : (ordL ρ s).Pairwise (dlt ρ s) ∧ ∀ x, (x ∈ ordL ρ s ↔ fsO ρ s x) := by
  have z := oi_sorted (ρ := ρ) (s := s) (gN ρ 155 3).toNat 0 [] List.Pairwise.nil (fun x hx => by simp at hx)
  refine ⟨z.1, fun x => (z.2 x).trans ?_⟩
  constructor
  · rintro (h | h)
    · simp at h
    · exact ⟨⟨h.1, by omega⟩, h.2.2⟩
  · intro h
    exact Or.inr ⟨h.1.1, by have := h.1.2; omega, h.2⟩
theorem getD_in {K : List Int} {n : Nat} (h : n < K.length) : K.getD n 0 ∈ K := by
  rw [List.getD_eq_getElem?_getD, List.getElem?_eq_getElem h]
  exact List.getElem_mem _
theorem pw_getD {lt : Int → Int → Prop} {K : List Int} (h : K.Pairwise lt) {a b : Nat} (ha : a < b) (hb : b < K.length) : lt (K.getD a 0) (K.getD b 0) := by
  rw [List.getD_eq_getElem?_getD, List.getElem?_eq_getElem (by omega), List.getD_eq_getElem?_getD, List.getElem?_eq_getElem hb]
  exact List.pairwise_iff_getElem.mp h a b (by omega) hb ha
theorem mem_getD {K : List Int} {x : Int} (h : x ∈ K) : ∃ n, n < K.length ∧ K.getD n 0 = x := by
  obtain ⟨n, hn, e⟩ := List.mem_iff_getElem.mp h
  exact ⟨n, hn, by rw [List.getD_eq_getElem?_getD, List.getElem?_eq_getElem hn]; exact e⟩
/-! what the reference keeps -/
theorem ahd_tr {x y z : Cd} (h : ahd x y) (g : ahd y z) : ahd x z := by unfold ahd at *; omega
theorem ahd_ir (x : Cd) : ¬ ahd x x := by unfold ahd; omega
theorem ahd_as {x y : Cd} (h : ahd x y) (g : ahd y x) : False := by unfold ahd at *; omega
theorem cd_eq {x y : Cd} (h : alk x y) : x = y := by
  obtain ⟨a, b, c⟩ := x
  obtain ⟨d, e, f⟩ := y
  unfold alk at h
  simp only at h
  rw [h.1, h.2.1, h.2.2]
theorem ahd_tot {x y : Cd} (h : ¬ alk x y) : ahd x y ∨ ahd y x := by unfold alk at h; unfold ahd; omega
theorem anyZ_iff {p : Int → Bool} : ∀ (n : Nat) (k : Int), anyZ p n k = true ↔ ∃ x, k ≤ x ∧ x < k + n ∧ p x = true
  | 0, k => ⟨fun h => by simp [anyZ] at h, fun ⟨x, a, b, _⟩ => by omega⟩
  | n + 1, k => by
    unfold anyZ
    rw [Bool.or_eq_true, anyZ_iff n (k + 1)]
    constructor
    · rintro (h | ⟨x, a, b, c⟩)
      · exact ⟨k, by omega, by omega, h⟩
      · exact ⟨x, by omega, by omega, c⟩
    · rintro ⟨x, a, b, c⟩
      by_cases e : x = k
      · rw [e] at c; exact Or.inl c
      · exact Or.inr ⟨x, by omega, by omega, c⟩
/-- beaten by one of a list -/
def btn (L : List Cd) (w : Int) (q : Cd) : Prop := w ≤ q.2.1 - q.1 ∨ ∃ x ∈ L, x ≠ q ∧ q.1 ≤ x.1 ∧ x.2.1 ≤ q.2.1 ∧ x.2.2 ≤ q.2.2
theorem lost_iff {L : List Cd} {w a : Int} (a0 : 0 ≤ a) (a1 : a < L.length) : lost L w a ↔ btn L w (cd L a) ∨ ∃ b, 0 ≤ b ∧ b < a ∧ cd L b = cd L a := by
  unfold lost btn
  rw [anyZ_iff]
  constructor
  · rintro (h | ⟨x, x0, x1, hx⟩)
    · exact Or.inl (Or.inl h)
    · unfold lsP at hx
      rw [decide_eq_true_iff] at hx
      rcases hx with ⟨h1, h2⟩ | ⟨h1, h2⟩
      · exact Or.inr ⟨x, x0, h2, (cd_eq h1).symm⟩
      · exact Or.inl (Or.inr ⟨cd L x, cd_mem x0 (by omega), fun e => h1 (by rw [e]; exact ⟨rfl, rfl, rfl⟩), h2⟩)
  · rintro ((h | ⟨x, hx, hn, h2⟩) | ⟨b, b0, b1, e⟩)
    · exact Or.inl h
    · obtain ⟨k, hk, e⟩ := List.mem_iff_getElem.mp hx
      have ek : cd L (k : Int) = x := by
        unfold cd
        rw [show ((k : Int)).toNat = k by omega, List.getD_eq_getElem?_getD, List.getElem?_eq_getElem hk]
        exact e
      refine Or.inr ⟨k, by omega, by omega, ?_⟩
      unfold lsP
      rw [decide_eq_true_iff, ek]
      exact Or.inr ⟨fun y => hn (cd_eq y).symm, h2⟩
    · refine Or.inr ⟨b, b0, by omega, ?_⟩
      unfold lsP
      rw [decide_eq_true_iff]
      exact Or.inl ⟨by rw [e]; exact ⟨rfl, rfl, rfl⟩, b1⟩
def klt (L : List Cd) (x y : Int) : Prop := ahd (cd L x) (cd L y)
theorem kp_sorted {L : List Cd} {w : Int} : ∀ (n : Nat) (a : Int) (K : List Int), 0 ≤ a → a + n ≤ L.length → K.Pairwise (klt L) → (∀ x ∈ K, 0 ≤ x ∧ x < a) → (itr (kpF L w) n a K).Pairwise (klt L) ∧ ∀ x, (x ∈ itr (kpF L w) n a K ↔ x ∈ K ∨ (a ≤ x ∧ x < a + n ∧ ¬ lost L w x))
  | 0, a, K, _, _, h, _ => ⟨h, fun x => ⟨Or.inl, fun y => y.elim id (fun z => by omega)⟩⟩
  | n + 1, a, K, h0, h1, h, hb => by
    rw [itr_s]
    by_cases c : lost L w a
    · have e : kpF L w a K = K := if_pos c
      rw [e]
      have ih := kp_sorted (w := w) n (a + 1) K (by omega) (by omega) h (fun x hx => by have := hb x hx; omega)
      refine ⟨ih.1, fun x => (ih.2 x).trans ?_⟩
      constructor
      · rintro (h | h)
        · exact Or.inl h
        · exact Or.inr ⟨by omega, by omega, h.2.2⟩
      · rintro (h | ⟨g1, g2, g3⟩)
        · exact Or.inl h
        · by_cases e : x = a
          · rw [e] at g3; exact absurd c g3
          · exact Or.inr ⟨by omega, by omega, g3⟩
    · have e : kpF L w a K = insK (fun y => decide (ahd (cd L a) (cd L y))) a K := if_neg c
      rw [e]
      have hs : (insK (fun y => decide (ahd (cd L a) (cd L y))) a K).Pairwise (klt L) := insK_sorted (fun y hy => by rw [decide_eq_true_iff]; exact Iff.rfl) (fun y hy z => by
        have b := hb y hy
        unfold klt at z ⊢
        rcases ahd_tot (x := cd L a) (y := cd L y) (fun q => c ((lost_iff h0 (by omega)).mpr (Or.inr ⟨y, b.1, b.2, (cd_eq q).symm⟩))) with q | q
        · exact absurd q z
        · exact q) (fun x y z p q => ahd_tr p q) h
      have ih := kp_sorted (w := w) n (a + 1) _ (by omega) (by omega) hs (fun x hx => by
        rcases insK_iff.mp hx with y | y
        · omega
        · have := hb x y; omega)
      refine ⟨ih.1, fun x => (ih.2 x).trans ?_⟩
      rw [insK_iff]
      constructor
      · rintro ((g | g) | g)
        · rw [g]; exact Or.inr ⟨by omega, by omega, c⟩
        · exact Or.inl g
        · exact Or.inr ⟨by omega, by omega, g.2.2⟩
      · rintro (g | ⟨g1, g2, g3⟩)
        · exact Or.inl (Or.inr g)
        · by_cases e : x = a
          · exact Or.inl (Or.inl e)
          · exact Or.inr ⟨by omega, by omega, g3⟩
/-- the kept ones, as rows -/
def kpR (L : List Cd) (w : Int) : List Cd := (keptL L w).map (cd L)
theorem first_of {L : List Cd} {q : Cd} : ∀ n : Nat, n ≤ L.length → (∃ k : Nat, k < n ∧ cd L k = q) → ∃ k : Nat, k < n ∧ cd L k = q ∧ ∀ b : Nat, b < k → cd L b ≠ q
  | 0, _, ⟨k, h, _⟩ => by omega
  | n + 1, hn, ⟨k, h, e⟩ => by
    by_cases z : ∃ k : Nat, k < n ∧ cd L k = q
    · obtain ⟨j, a, b, c⟩ := first_of n (by omega) z
      exact ⟨j, by omega, b, c⟩
    · have ek : k = n := by
        by_cases y : k < n
        · exact absurd ⟨k, y, e⟩ z
        · omega
      subst ek
      exact ⟨k, h, e, fun b hb hc => z ⟨b, hb, hc⟩⟩
theorem kpR_ok (L : List Cd) (w : Int) : (kpR L w).Pairwise ahd ∧ ∀ q, (q ∈ kpR L w ↔ q ∈ L ∧ ¬ btn L w q) := by
  have z := kp_sorted (L := L) (w := w) L.length 0 [] (by omega) (by omega) List.Pairwise.nil (fun x hx => by simp at hx)
  refine ⟨?_, fun q => ?_⟩
  · unfold kpR
    rw [List.pairwise_map]
    exact z.1
  · unfold kpR
    rw [List.mem_map]
    constructor
    · rintro ⟨x, hx, e⟩
      rcases (z.2 x).mp hx with h | ⟨h0, h1, h2⟩
      · simp at h
      · rw [lost_iff h0 (by omega)] at h2
        rw [← e]
        exact ⟨cd_mem h0 (by omega), fun y => h2 (Or.inl y)⟩
    · rintro ⟨hq, hn⟩
      obtain ⟨k, hk, e⟩ := List.mem_iff_getElem.mp hq
      have ek : cd L (k : Int) = q := by
        unfold cd
        rw [show ((k : Int)).toNat = k by omega, List.getD_eq_getElem?_getD, List.getElem?_eq_getElem hk]
        exact e
      obtain ⟨j, j1, j2, j3⟩ := first_of (L := L) (q := q) L.length (Nat.le_refl _) ⟨k, hk, ek⟩
      refine ⟨(j : Int), (z.2 _).mpr (Or.inr ⟨by omega, by omega, ?_⟩), j2⟩
      rw [lost_iff (by omega) (by omega), j2]
      rintro (h | ⟨b, b0, b1, e2⟩)
      · exact hn h
      · exact j3 b.toNat (by omega) (by rw [show ((b.toNat : Nat) : Int) = b by omega]; exact e2)
