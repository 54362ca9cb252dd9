/-! Class and reference answer alike: the next; the mean. -/
theorem sb_le {ρ : Sto} {s t m : Int} {K : List Int} (hs : K.Pairwise (dlt ρ s)) : ∀ (n : Nat), n ≤ K.length → ∀ b v, (sbF ρ s t K m n b ≤ v ↔ b ≤ v ∨ ∃ p : Nat, p < n ∧ m < dpF ρ s (K.getD p 0) ∧ AR ρ t 4 (K.getD p 0) ≤ v)
  | 0, _, b, v => ⟨Or.inl, fun h => h.elim id (fun ⟨p, hp, _⟩ => by omega)⟩
  | n + 1, hn, b, v => by
    unfold sbF
    by_cases c : dpF ρ s (K.getD n 0) ≤ m
    · rw [if_pos c]
      refine ⟨Or.inl, fun h => h.elim id (fun ⟨p, hp, hd, _⟩ => ?_)⟩
      by_cases z : p = n
      · rw [z] at hd; omega
      · have := pw_getD hs (show p < n by omega) (by omega)
        unfold dlt at this
        omega
    · rw [if_neg c, sb_le hs n (by omega)]
      have e : (if AR ρ t 4 (K.getD n 0) < b then AR ρ t 4 (K.getD n 0) else b) ≤ v ↔ b ≤ v ∨ AR ρ t 4 (K.getD n 0) ≤ v := by split <;> omega
      rw [e]
      constructor
      · rintro ((h | h) | ⟨p, hp, r⟩)
        · exact Or.inl h
        · exact Or.inr ⟨n, by omega, by omega, h⟩
        · exact Or.inr ⟨p, by omega, r⟩
      · rintro (h | ⟨p, hp, r⟩)
        · exact Or.inl (Or.inl h)
        · by_cases z : p = n
          · rw [z] at r; exact Or.inl (Or.inr r.2)
          · exact Or.inr ⟨p, by omega, r⟩
theorem sbV_le {ρ : Sto} (hW : WV ρ) {s t m v : Int} : sbV ρ s t m ≤ v ↔ 1000000 ≤ v ∨ ∃ i, fsO ρ s i ∧ AR ρ t 4 i ≤ v ∧ m < dpF ρ s i := by
  have o := ord_sorted hW.R.1 s
  unfold sbV
  rw [sb_le o.1 _ (Nat.le_refl _)]
  have z := mem_ix (K := ordL ρ s) (p := fun i => m < dpF ρ s i ∧ AR ρ t 4 i ≤ v)
  rw [z]
  exact or_congr Iff.rfl ⟨fun ⟨i, hi, r⟩ => ⟨i, (o.2 i).mp hi, r.2, r.1⟩, fun ⟨i, hi, r⟩ => ⟨i, (o.2 i).mpr hi, r.2, r.1⟩⟩
theorem nx1_ge {L : List Cd} {m first : Int} : ∀ (n : Nat) (k b x : Int), (x ≤ itr (nx1F L m first) n k b ↔ x ≤ b ∨ ∃ j, k ≤ j ∧ j < k + n ∧ (m ≤ (cd L j).1 ∧ (cd L j).2.1 = first ∧ x ≤ (cd L j).1))
  | 0, k, b, x => ⟨Or.inl, fun h => h.elim id (fun ⟨j, j0, j1, _⟩ => by omega)⟩
  | n + 1, k, b, x => by
    rw [itr_s, nx1_ge n (k + 1) _ x]
    have e : x ≤ nx1F L m first k b ↔ x ≤ b ∨ (m ≤ (cd L k).1 ∧ (cd L k).2.1 = first ∧ x ≤ (cd L k).1) := by
      unfold nx1F
      split <;> omega
    rw [e]
    constructor
    · rintro ((h | h) | ⟨j, j0, j1, r⟩)
      · exact Or.inl h
      · exact Or.inr ⟨k, by omega, by omega, h⟩
      · exact Or.inr ⟨j, by omega, by omega, r⟩
    · rintro (h | ⟨j, j0, j1, r⟩)
      · exact Or.inl (Or.inl h)
      · by_cases z : j = k
        · rw [z] at r; exact Or.inl (Or.inr r)
        · exact Or.inr ⟨j, by omega, by omega, r⟩
theorem nx2_le {L : List Cd} {dep : Int} : ∀ (n : Nat) (k b v : Int), (itr (nx2F L dep) n k b ≤ v ↔ b ≤ v ∨ ∃ j, k ≤ j ∧ j < k + n ∧ ((cd L j).2.1 ≤ v ∧ dep < (cd L j).1))
  | 0, k, b, v => ⟨Or.inl, fun h => h.elim id (fun ⟨j, j0, j1, _⟩ => by omega)⟩
  | n + 1, k, b, v => by
    rw [itr_s, nx2_le n (k + 1) _ v]
    have e : nx2F L dep k b ≤ v ↔ b ≤ v ∨ ((cd L k).2.1 ≤ v ∧ dep < (cd L k).1) := by
      unfold nx2F
      split <;> omega
    rw [e]
    constructor
    · rintro ((h | h) | ⟨j, j0, j1, r⟩)
      · exact Or.inl h
      · exact Or.inr ⟨k, by omega, by omega, h⟩
      · exact Or.inr ⟨j, by omega, by omega, r⟩
    · rintro (h | ⟨j, j0, j1, r⟩)
      · exact Or.inl (Or.inl h)
      · by_cases z : j = k
        · rw [z] at r; exact Or.inl (Or.inr r)
        · exact Or.inr ⟨j, by omega, by omega, r⟩
theorem q_next {σ : Sto} (h : LW σ) (s t m : Int) : cNext (lkN σ) s t m = nextF σ s t m := by
  unfold cNext nextF
  refine ite_congr rfl (fun _ => rfl) (fun c => ?_)
  have hs : stp σ s := ⟨by omega, by omega⟩
  have ht : stp σ t := ⟨by omega, by omega⟩
  have hm : 0 ≤ m := by omega
  rw [SO_eq h.V h.O hs.1 hs.2 ht.1 ht.2 (by omega) (by omega) (by omega)]
  have g1 : ∀ x, x ≤ itr (nx1F (pfL σ s t) m (EA σ s t m 4)) (pfL σ s t).length 0 (-1) ↔ x ≤ -1 ∨ ∃ q ∈ pfL σ s t, m ≤ q.1 ∧ q.2.1 = EA σ s t m 4 ∧ x ≤ q.1 := by
    intro x
    rw [nx1_ge, cd_ix (L := pfL σ s t) (p := fun q => m ≤ q.1 ∧ q.2.1 = EA σ s t m 4 ∧ x ≤ q.1)]
  generalize hN : itr (nx1F (pfL σ s t) m (EA σ s t m 4)) (pfL σ s t).length 0 (-1) = N at g1 ⊢
  have lo : -1 ≤ N := (g1 (-1)).mpr (Or.inl (Int.le_refl _))
  unfold nextR
  by_cases z : 1000000 ≤ earliestF (lkN σ) s t m 4
  · rw [if_pos z, if_pos]
    by_cases y : 0 ≤ N
    · rcases (g1 N).mp (Int.le_refl _) with a | ⟨q, hq, q1, q2, q3⟩
      · omega
      · obtain ⟨i, hi, n, hn, hl, e⟩ := (cand_mem h.V hs.1 hs.2 q).mp hq
        have e2 : q.2.1 = AN (lkN σ) t n i := by rw [e]
        have e3 : q.2.1 = earliestF (lkN σ) s t m 4 := q2
        omega
    · omega
  · rw [if_neg z]
    have same : ∀ x, m ≤ x → (x ≤ ldV (lkN σ) s t (earliestF (lkN σ) s t m 4) ↔ x ≤ N) := by
      intro x hx
      rw [ldV_ge h.V (by omega), fs_cand h.V (p := fun d => x ≤ d) hs.1 hs.2 ht.1 ht.2 (by omega), g1 x]
      constructor
      · rintro ⟨q, hq, q1, q2⟩
        refine Or.inr ⟨q, hq, by omega, ?_, q2⟩
        obtain ⟨i, hi, ha, hp⟩ := (fs_cand h.V (s := s) (t := t) (v := q.2.1) (p := fun d => x ≤ d) hs.1 hs.2 ht.1 ht.2 (by omega)).mpr ⟨q, hq, Int.le_refl _, q2⟩
        have := (earl_AR h.V (m := m) hs.1 hs.2 ht.1 ht.2 hm (v := q.2.1) (by omega)).mpr (Or.inr ⟨i, hi, by omega, ha⟩)
        show q.2.1 = earliestF (lkN σ) s t m 4
        omega
      · rintro (a | ⟨q, hq, q1, q2, q3⟩)
        · omega
        · exact ⟨q, hq, by have : q.2.1 = earliestF (lkN σ) s t m 4 := q2; omega, q3⟩
    by_cases d : ldV (lkN σ) s t (earliestF (lkN σ) s t m 4) < m
    · rw [if_pos d, if_pos]
      by_cases y : 0 ≤ N
      · rcases (g1 N).mp (Int.le_refl _) with a | ⟨q, hq, q1, q2, q3⟩
        · omega
        · have k1 := (g1 q.1).mpr (Or.inr ⟨q, hq, q1, q2, Int.le_refl _⟩)
          have k2 := (same q.1 q1).mpr k1
          omega
      · omega
    · rw [if_neg d]
      have k1 := (same _ (by omega)).mp (Int.le_refl (ldV (lkN σ) s t (earliestF (lkN σ) s t m 4)))
      have k2 := (same N (by omega)).mpr (Int.le_refl N)
      have e : ldV (lkN σ) s t (earliestF (lkN σ) s t m 4) = N := by omega
      rw [e, if_neg (by omega)]
      have f : sbV (lkN σ) s t N = itr (nx2F (pfL σ s t) N) (pfL σ s t).length 0 1000000 := by
        have w : ∀ v, itr (nx2F (pfL σ s t) N) (pfL σ s t).length 0 1000000 ≤ v ↔ 1000000 ≤ v ∨ ∃ q ∈ pfL σ s t, q.2.1 ≤ v ∧ N < q.1 := by
          intro v
          rw [nx2_le, cd_ix (L := pfL σ s t) (p := fun q => q.2.1 ≤ v ∧ N < q.1)]
        refine eq_of_le ((sbV_le h.V).mpr (Or.inl (Int.le_refl _))) ((w _).mpr (Or.inl (Int.le_refl _))) (fun v hv => ?_)
        rw [sbV_le h.V, w v, fs_cand h.V (p := fun d => N < d) hs.1 hs.2 ht.1 ht.2 hv]
        rfl
      rw [f]
/-! the mean -/
def BsI (ρ : Sto) (s t m : Int) (K : List Int) (n : Nat) (b : Int) : Prop := n ≤ K.length ∧ b ≤ 1000000 ∧ (∀ p : Nat, n ≤ p → p < K.length → m ≤ dpF ρ s (K.getD p 0)) ∧ ∀ v, v < 1000000 → (b ≤ v ↔ ∃ p : Nat, n ≤ p ∧ p < K.length ∧ AR ρ t 4 (K.getD p 0) ≤ v)
theorem mwI_ok {ρ : Sto} {s t m : Int} {K : List Int} (hs : K.Pairwise (dlt ρ s)) : ∀ (n : Nat) (b : Int), BsI ρ s t m K n b → BsI ρ s t m K (mwI ρ s t K m n b).1 (mwI ρ s t K m n b).2 ∧ ∀ p : Nat, p < (mwI ρ s t K m n b).1 → dpF ρ s (K.getD p 0) < m
  | 0, b, h => ⟨h, fun p hp => absurd hp (by show ¬ p < 0; omega)⟩
  | n + 1, b, h => by
    unfold mwI
    by_cases c : dpF ρ s (K.getD n 0) < m
    · rw [if_pos c]
      refine ⟨h, fun p hp => ?_⟩
      have hp : p < n + 1 := hp
      by_cases z : p = n
      · rw [z]; exact c
      · have := pw_getD hs (show p < n by omega) (by have := h.1; omega)
        unfold dlt at this
        omega
    · rw [if_neg c]
      refine mwI_ok hs n _ ⟨by have := h.1; omega, by have := h.2.1; split <;> omega, fun p p0 p1 => ?_, fun v hv => ?_⟩
      · by_cases z : p = n
        · rw [z]; omega
        · exact h.2.2.1 p (by omega) p1
      · have e : (if AR ρ t 4 (K.getD n 0) < b then AR ρ t 4 (K.getD n 0) else b) ≤ v ↔ b ≤ v ∨ AR ρ t 4 (K.getD n 0) ≤ v := by split <;> omega
        rw [e, h.2.2.2 v hv]
        constructor
        · rintro (⟨p, p0, p1, r⟩ | r)
          · exact ⟨p, by omega, p1, r⟩
          · exact ⟨n, by omega, by have := h.1; omega, r⟩
        · rintro ⟨p, p0, p1, r⟩
          by_cases z : p = n
          · rw [z] at r; exact Or.inr r
          · exact Or.inl ⟨p, by omega, p1, r⟩
/-- what one minute adds -/
def gM (ρ : Sto) (s t m : Int) : Int := if 1000000 ≤ earliestF ρ s t m 4 then 0 else earliestF ρ s t m 4 - m
def kM (ρ : Sto) (s t m : Int) : Int := if 1000000 ≤ earliestF ρ s t m 4 then 0 else 1
theorem mwS_ok {ρ : Sto} (hW : WV ρ) {s t m : Int} (hs0 : 0 ≤ s) (hs1 : s < gN ρ 155 0) (ht0 : 0 ≤ t) (ht1 : t < gN ρ 155 0) (hm : 0 ≤ m) (hm1 : m ≤ 1440) {q : Mw} (h : BsI ρ s t m (ordL ρ s) q.1 q.2.1) : BsI ρ s t m (ordL ρ s) (mwS ρ s t (gN ρ 155 (15 + 10 * s + t)) (ordL ρ s) m q).1 (mwS ρ s t (gN ρ 155 (15 + 10 * s + t)) (ordL ρ s) m q).2.1 ∧ (mwS ρ s t (gN ρ 155 (15 + 10 * s + t)) (ordL ρ s) m q).2.2.1 = q.2.2.1 + gM ρ s t m ∧ (mwS ρ s t (gN ρ 155 (15 + 10 * s + t)) (ordL ρ s) m q).2.2.2 = q.2.2.2 + kM ρ s t m := by
  have o := ord_sorted hW.R.1 s
  have z := mwI_ok (t := t) o.1 q.1 q.2.1 h
  have w := hW.walk s t hs0 hs1 ht0 ht1
  have top := earl_top hW (t := t) 4 hs0 hs1 ht0 ht1 (m := m) (by omega)
  rw [show ((4 : Nat) : Int) = 4 from rfl] at top
  unfold mwS
  generalize mwI ρ s t (ordL ρ s) m q.1 q.2.1 = r at z ⊢
  have key : ∀ v, v < 1000000 → (earliestF ρ s t m 4 ≤ v ↔ m + mwW (gN ρ 155 (15 + 10 * s + t)) m r.2 ≤ v) := by
    intro v hv
    rw [earl_AR hW hs0 hs1 ht0 ht1 hm hv]
    have b : r.2 ≤ v ↔ ∃ i, fsO ρ s i ∧ m ≤ dpF ρ s i ∧ AR ρ t 4 i ≤ v := by
      rw [z.1.2.2.2 v hv]
      constructor
      · rintro ⟨p, p0, p1, a⟩
        exact ⟨_, (o.2 _).mp (getD_in p1), z.1.2.2.1 p p0 p1, a⟩
      · rintro ⟨i, hi, hd, a⟩
        obtain ⟨p, p1, e⟩ := mem_getD ((o.2 i).mpr hi)
        refine ⟨p, ?_, p1, by rw [e]; exact a⟩
        by_cases y : p < r.1
        · have := z.2 p y
          rw [e] at this
          omega
        · omega
    rw [← b]
    unfold mwW
    split <;> omega
  have bb := z.1.2.1
  by_cases c : m + mwW (gN ρ 155 (15 + 10 * s + t)) m r.2 < 1000000
  · rw [if_pos c]
    have k1 := (key _ c).mpr (Int.le_refl _)
    have k2 := (key (earliestF ρ s t m 4) (by omega)).mp (Int.le_refl _)
    refine ⟨z.1, ?_, ?_⟩
    · unfold gM; rw [if_neg (by omega)]; show q.2.2.1 + _ = _; omega
    · unfold kM; rw [if_neg (by omega)]
  · rw [if_neg c]
    have k : 1000000 ≤ earliestF ρ s t m 4 := by
      by_cases y : 1000000 ≤ earliestF ρ s t m 4
      · exact y
      · have := (key (earliestF ρ s t m 4) (by omega)).mp (Int.le_refl _)
        omega
    refine ⟨z.1, ?_, ?_⟩
    · unfold gM; rw [if_pos k]; show q.2.2.1 = _; omega
    · unfold kM; rw [if_pos k]; show q.2.2.2 = _; omega
theorem smZ_end (f : Int → Int) : ∀ (n : Nat) (i : Int), smZ f (n + 1) i = smZ f n i + f (i + n)
  | 0, i => by show f i + 0 = 0 + f (i + (0 : Nat)); rw [show i + ((0 : Nat) : Int) = i by omega]; omega
  | n + 1, i => by
    show f i + smZ f (n + 1) (i + 1) = f i + smZ f n (i + 1) + f (i + (n + 1 : Nat))
    rw [smZ_end f n (i + 1), show i + 1 + (n : Int) = i + ((n + 1 : Nat) : Int) by omega]
    omega
theorem mwF_ok {ρ : Sto} (hW : WV ρ) {s t : Int} (hs0 : 0 ≤ s) (hs1 : s < gN ρ 155 0) (ht0 : 0 ≤ t) (ht1 : t < gN ρ 155 0) : ∀ (d : Nat) (m : Int) (q : Mw), d ≤ m + 1 → m < 1440 → BsI ρ s t (m + 1) (ordL ρ s) q.1 q.2.1 → (mwF ρ s t (gN ρ 155 (15 + 10 * s + t)) (ordL ρ s) d m q).2.2.1 = q.2.2.1 + smZ (gM ρ s t) d (m + 1 - d) ∧ (mwF ρ s t (gN ρ 155 (15 + 10 * s + t)) (ordL ρ s) d m q).2.2.2 = q.2.2.2 + smZ (kM ρ s t) d (m + 1 - d)
  | 0, m, q, _, _, _ => ⟨by show q.2.2.1 = q.2.2.1 + 0; omega, by show q.2.2.2 = q.2.2.2 + 0; omega⟩
  | d + 1, m, q, h0, h1, h => by
    have a := mwS_ok hW hs0 hs1 ht0 ht1 (m := m) (q := q) (by omega) (by omega) ⟨h.1, h.2.1, fun p p0 p1 => by have := h.2.2.1 p p0 p1; omega, h.2.2.2⟩
    have b := mwF_ok hW hs0 hs1 ht0 ht1 d (m - 1) (mwS ρ s t (gN ρ 155 (15 + 10 * s + t)) (ordL ρ s) m q) (by omega) (by omega) (by rw [show m - 1 + 1 = m by omega]; exact a.1)
    unfold mwF
    rw [b.1, b.2, a.2.1, a.2.2, smZ_end, smZ_end, show m - 1 + 1 - (d : Int) = m + 1 - ((d + 1 : Nat) : Int) by omega, show m + 1 - ((d + 1 : Nat) : Int) + (d : Int) = m by omega]
    exact ⟨by omega, by omega⟩
theorem gM_rng {ρ : Sto} (hW : WV ρ) (hO : OrdT ρ) {s t m : Int} (hs0 : 0 ≤ s) (hs1 : s < gN ρ 155 0) (ht0 : 0 ≤ t) (ht1 : t < gN ρ 155 0) (hm : 0 ≤ m) (hm1 : m ≤ 1440) : 0 ≤ gM ρ s t m ∧ gM ρ s t m ≤ 650000 := by
  unfold gM
  by_cases c : 1000000 ≤ earliestF ρ s t m 4
  · rw [if_pos c]; omega
  · rw [if_neg c]
    have f := earl_fin (k := 4) hW (t := t) hs0 hs1 ht0 ht1 hm (by omega) (show earliestF ρ s t m 4 < 1000000 by omega)
    rw [show ((4 : Nat) : Int) = 4 from rfl] at f
    have w := hW.walk s t hs0 hs1 ht0 ht1
    rcases (earl_AR hW (t := t) hs0 hs1 ht0 ht1 hm (v := earliestF ρ s t m 4) (by omega)).mp (Int.le_refl _) with a | ⟨i, hi, hd, ha⟩
    · omega
    · have := AR_later hW hO hs0 hs1 ht0 ht1 (by omega) hi ha
      omega
theorem add64 {X : Int64} {S d : Int} (hX : X.toInt = S) (h0 : 0 ≤ S) (h1 : S ≤ 2000000000) (d0 : 0 ≤ d) (d1 : d ≤ 1000000) : (X + (Int32.ofInt d).toInt64).toInt = S + d := by
  rw [Int64.toInt_add, hX, Int32.toInt_toInt64, Int32.toInt_ofInt_of_le (by omega) (by omega)]
  exact Int.bmod_eq_of_le (by omega) (by omega)
theorem mn_ok {σ : Sto} (h : LW σ) {s t : Int} (hs : stp σ s) (ht : stp σ t) : ∀ (n : Nat) (m : Int) (q : Int64 × Int), 0 ≤ m → m + n ≤ 1440 → 0 ≤ q.1.toInt → q.1.toInt ≤ 650000 * m → (itr (mnF σ s t) n m q).1.toInt = q.1.toInt + smZ (gM (lkN σ) s t) n m ∧ (itr (mnF σ s t) n m q).2 = q.2 + smZ (kM (lkN σ) s t) n m
  | 0, m, q, _, _, _, _ => ⟨by show q.1.toInt = q.1.toInt + 0; omega, by show q.2 = q.2 + 0; omega⟩
  | n + 1, m, q, h0, h1, b0, b1 => by
    have r := gM_rng h.V h.O hs.1 hs.2 ht.1 ht.2 h0 (by omega)
    have e : (mnF σ s t m q).1.toInt = q.1.toInt + gM (lkN σ) s t m ∧ (mnF σ s t m q).2 = q.2 + kM (lkN σ) s t m := by
      unfold mnF gM kM
      unfold gM at r
      by_cases c : 1000000 ≤ earliestF (lkN σ) s t m 4
      · rw [if_pos c, if_pos c, if_pos c]
        exact ⟨by omega, by omega⟩
      · rw [if_neg c] at r
        rw [if_neg c, if_neg c, if_neg c]
        exact ⟨add64 rfl b0 (by omega) r.1 (Int.le_trans r.2 (by omega)), rfl⟩
    rw [itr_s]
    have z := mn_ok h hs ht n (m + 1) (mnF σ s t m q) (by omega) (by omega) (by omega) (by omega)
    rw [z.1, z.2, e.1, e.2]
    constructor
    · show _ = q.1.toInt + (gM (lkN σ) s t m + smZ (gM (lkN σ) s t) n (m + 1)); omega
    · show _ = q.2 + (kM (lkN σ) s t m + smZ (kM (lkN σ) s t) n (m + 1)); omega
theorem smZ_rng {f : Int → Int} {B : Int} : ∀ (n : Nat) (i : Int), (∀ k, i ≤ k → k < i + n → 0 ≤ f k ∧ f k ≤ B) → 0 ≤ smZ f n i ∧ smZ f n i ≤ B * n
  | 0, _, _ => ⟨Int.le_refl _, by show (0 : Int) ≤ B * (0 : Nat); omega⟩
  | n + 1, i, h => by
    have a := h i (by omega) (by omega)
    have b := smZ_rng n (i + 1) (fun k k0 k1 => h k (by omega) (by omega))
    have e : B * ((n + 1 : Nat) : Int) = B * n + B := by rw [show ((n + 1 : Nat) : Int) = (n : Int) + 1 by omega, Int.mul_add, Int.mul_one]
    show 0 ≤ f i + smZ f n (i + 1) ∧ f i + smZ f n (i + 1) ≤ B * ((n + 1 : Nat) : Int)
    rw [e]
    omega
theorem q_mean {σ : Sto} (h : LW σ) (s t a b : Int) : cMean (lkN σ) s t a b = meanF σ s t a b := by
  unfold cMean meanF
  by_cases c : ¬ two σ s t ∨ a < 0 ∨ 1440 < b ∨ b ≤ a
  · rw [if_pos c, if_pos (show ¬ two (lkN σ) s t ∨ a < 0 ∨ b ≤ a ∨ 1440 < b from c.elim Or.inl (fun x => Or.inr (by omega)))]
  · rw [if_neg c, if_neg (show ¬ (¬ two (lkN σ) s t ∨ a < 0 ∨ b ≤ a ∨ 1440 < b) from fun x => x.elim (fun y => c (Or.inl y)) (fun y => by omega))]
    have hs : stp σ s := ⟨by omega, by omega⟩
    have ht : stp σ t := ⟨by omega, by omega⟩
    have p := mn_ok h hs ht (b - a).toNat a (0, 0) (by omega) (by omega) (by show (0 : Int) ≤ 0; omega) (by show (0 : Int) ≤ _; omega)
    have q := mwF_ok h.V hs.1 hs.2 ht.1 ht.2 (b - a).toNat (b - 1) ((ordL (lkN σ) s).length, 1000000, 0, 0) (by omega) (by omega) ⟨Nat.le_refl _, Int.le_refl _, fun p p0 p1 => absurd p1 (by show ¬ p < (ordL (lkN σ) s).length; have : (ordL (lkN σ) s).length ≤ p := p0; omega), fun v hv => ⟨fun x => by have : (1000000 : Int) ≤ v := x; omega, fun ⟨p, p0, p1, _⟩ => by have : (ordL (lkN σ) s).length ≤ p := p0; omega⟩⟩
    rw [show b - 1 + 1 - ((b - a).toNat : Int) = a by omega] at q
    have g := smZ_rng (f := gM (lkN σ) s t) (B := 650000) (b - a).toNat a (fun k k0 k1 => gM_rng h.V h.O hs.1 hs.2 ht.1 ht.2 (by omega) (by omega))
    have k := smZ_rng (f := kM (lkN σ) s t) (B := 1) (b - a).toNat a (fun k k0 k1 => by unfold kM; split <;> omega)
    unfold mwT mwR mnR
    rw [q.1, q.2, p.2]
    have p1 := p.1
    generalize itr (mnF σ s t) (b - a).toNat a (0, 0) = X at p1 ⊢
    generalize smZ (gM (lkN σ) s t) (b - a).toNat a = G at p1 g ⊢
    generalize smZ (kM (lkN σ) s t) (b - a).toNat a = C at k ⊢
    have p2 : X.1.toInt = G := by rw [p1]; show (0 : Int) + G = G; omega
    show (if (0 : Int) + C = 0 then -2 else (Int32.ofInt (0 + G) / Int32.ofInt (0 + C)).toInt) = if (0 : Int) + C = 0 then -2 else (X.1 / (Int32.ofInt (0 + C)).toInt64).toInt32.toInt
    refine ite_congr rfl (fun _ => rfl) (fun c0 => ?_)
    rw [show (0 : Int) + G = G by omega, show (0 : Int) + C = C by omega]
    have d0 : 0 ≤ G.tdiv C := Int.tdiv_nonneg g.1 k.1
    have d1 : G.tdiv C ≤ G := by
      rw [Int.tdiv_eq_ediv_of_nonneg g.1]
      exact Int.ediv_le_self _ g.1
    rw [Int32.toInt_div, Int32.toInt_ofInt_of_le (by omega) (by omega), Int32.toInt_ofInt_of_le (by omega) (by omega), Int64.toInt_toInt32, Int64.toInt_div, p2, Int32.toInt_toInt64, Int32.toInt_ofInt_of_le (by omega) (by omega)]
    rw [Int.bmod_eq_of_le (n := G.tdiv C) (by omega) (by omega), Int.bmod_eq_of_le (n := G.tdiv C) (m := 2 ^ 64) (by omega) (by omega), Int.bmod_eq_of_le (n := G.tdiv C) (by omega) (by omega)]
