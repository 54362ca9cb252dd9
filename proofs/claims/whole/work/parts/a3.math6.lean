/-! The rows of the class's profile. -/
def rwC (x : Rw) : Cd := (x.1, x.2.1, x.2.2.1)
def rlt (x y : Rw) : Prop := ahd (rwC x) (rwC y)
/-- which rows there are -/
def RowP (ρ : Sto) (s t wk : Int) (x : Rw) : Prop := x.2.1 < 1000000 ∧ (fsO ρ s x.2.2.2 ∧ dpF ρ s x.2.2.2 = x.1 ∧ AR ρ t x.2.2.1 x.2.2.2 = x.2.1) ∧ (∀ i, fsO ρ s i → dpF ρ s i = x.1 → x.2.1 ≤ AR ρ t x.2.2.1 i ∧ (AR ρ t x.2.2.1 i = x.2.1 → x.2.2.2 ≤ i)) ∧ (∀ c, 0 ≤ c → c < x.2.2.1 → ∀ i, fsO ρ s i → dpF ρ s i = x.1 → x.2.1 < AR ρ t c i) ∧ (∀ i, fsO ρ s i → x.1 < dpF ρ s i → x.2.1 < AR ρ t x.2.2.1 i) ∧ x.2.1 - x.1 < wk
theorem pr_iff {ls lt lr : Int → Int} {mi wk : Int} : ∀ (n : Nat) (c bf : Int) (L : List Rw), 0 ≤ c → bf ≤ 1000000 → (∀ v, v < 1000000 → (bf ≤ v ↔ ∃ e, 0 ≤ e ∧ e < c ∧ ls e ≤ v)) → ∀ x, (x ∈ (itr (prF ls lt lr mi wk) n c (bf, L)).2 ↔ x ∈ L ∨ ∃ e, c ≤ e ∧ e < c + n ∧ (ls e < 1000000 ∧ (∀ d, 0 ≤ d → d < e → ls e < ls d) ∧ ls e < lt e ∧ ls e - mi < wk) ∧ x = (mi, ls e, e, lr e))
  | 0, c, bf, L, _, _, _, x => ⟨Or.inl, fun h => h.elim id (fun ⟨e, a, b, _⟩ => by omega)⟩
  | n + 1, c, bf, L, h0, hb, hv, x => by
    rw [itr_s]
    have key : ls c < bf ↔ ls c < 1000000 ∧ ∀ d, 0 ≤ d → d < c → ls c < ls d := by
      constructor
      · intro h
        refine ⟨by omega, fun d d0 d1 => ?_⟩
        by_cases q : ls d ≤ ls c
        · have := (hv (ls c) (by omega)).mpr ⟨d, d0, d1, q⟩
          omega
        · omega
      · rintro ⟨h, g⟩
        by_cases q : bf ≤ ls c
        · obtain ⟨e, e0, e1, e2⟩ := (hv (ls c) h).mp q
          have := g e e0 e1
          omega
        · omega
    have ih := pr_iff (ls := ls) (lt := lt) (lr := lr) (mi := mi) (wk := wk) n (c + 1) (if ls c < bf then ls c else bf) (if ls c < bf ∧ ls c < lt c ∧ ls c - mi < wk then (mi, ls c, c, lr c) :: L else L) (by omega) (by split <;> omega) (fun v q => by
      constructor
      · intro h
        split at h
        · exact ⟨c, by omega, by omega, h⟩
        · obtain ⟨e, e0, e1, e2⟩ := (hv v q).mp h
          exact ⟨e, e0, by omega, e2⟩
      · rintro ⟨e, e0, e1, e2⟩
        by_cases y : e = c
        · rw [y] at e2
          split <;> omega
        · have := (hv v q).mpr ⟨e, e0, by omega, e2⟩
          split <;> omega) x
    refine Iff.trans ih ?_
    constructor
    · rintro (h | ⟨e, a, b, r⟩)
      · split at h
        · rename_i z
          rcases List.mem_cons.mp h with y | y
          · exact Or.inr ⟨c, by omega, by omega, ⟨(key.mp z.1).1, (key.mp z.1).2, z.2⟩, y⟩
          · exact Or.inl y
        · exact Or.inl h
      · exact Or.inr ⟨e, by omega, by omega, r⟩
    · rintro (h | ⟨e, a, b, r⟩)
      · left
        split
        · exact List.mem_cons_of_mem _ h
        · exact h
      · by_cases y : e = c
        · subst y
          left
          rw [if_pos ⟨key.mpr ⟨r.1.1, r.1.2.1⟩, r.1.2.2⟩]
          exact List.mem_cons.mpr (Or.inl r.2)
        · exact Or.inr ⟨e, by omega, by omega, r⟩
theorem pr_sorted {ls lt lr : Int → Int} {mi wk : Int} : ∀ (n : Nat) (c bf : Int) (L : List Rw), L.Pairwise rlt → (∀ x ∈ L, mi < x.1 ∨ (x.1 = mi ∧ bf ≤ x.2.1)) → (itr (prF ls lt lr mi wk) n c (bf, L)).2.Pairwise rlt
  | 0, _, _, _, h, _ => h
  | n + 1, c, bf, L, h, hb => by
    rw [itr_s]
    show (itr (prF ls lt lr mi wk) n (c + 1) (if ls c < bf then ls c else bf, if ls c < bf ∧ ls c < lt c ∧ ls c - mi < wk then (mi, ls c, c, lr c) :: L else L)).2.Pairwise rlt
    refine pr_sorted n (c + 1) _ _ ?_ ?_
    · split
      · rename_i z
        refine List.pairwise_cons.mpr ⟨fun x hx => ?_, h⟩
        have := hb x hx
        unfold rlt rwC ahd
        dsimp only
        omega
      · exact h
    · intro x hx
      split at hx
      · rename_i z
        rcases List.mem_cons.mp hx with y | y
        · rw [y, if_pos z.1]
          exact Or.inr ⟨rfl, Int.le_refl _⟩
        · have := hb x y
          split <;> omega
      · have := hb x hx
        split <;> omega
/-- what stands when the rides from place n on are done -/
def MkI (ρ : Sto) (s t most wk : Int) (K : List Int) (n : Nat) (q : Mks) : Prop :=
  (0 < n → ∀ c, 0 ≤ c → c ≤ most → (q.1 c ≤ 1000000 ∧ q.2.2.1 c ≤ 1000000) ∧ (∀ v, v < 1000000 → (q.1 c ≤ v ↔ ∃ p, n ≤ p ∧ p < K.length ∧ dpF ρ s (K.getD p 0) = dpF ρ s (K.getD (n - 1) 0) ∧ AR ρ t c (K.getD p 0) ≤ v)) ∧ (∀ v, v < 1000000 → (q.2.2.1 c ≤ v ↔ ∃ p, n ≤ p ∧ p < K.length ∧ dpF ρ s (K.getD (n - 1) 0) < dpF ρ s (K.getD p 0) ∧ AR ρ t c (K.getD p 0) ≤ v)) ∧ (q.1 c < 1000000 → ∃ p, n ≤ p ∧ p < K.length ∧ dpF ρ s (K.getD p 0) = dpF ρ s (K.getD (n - 1) 0) ∧ q.2.1 c = K.getD p 0 ∧ AR ρ t c (K.getD p 0) = q.1 c ∧ ∀ p', n ≤ p' → p' < K.length → dpF ρ s (K.getD p' 0) = dpF ρ s (K.getD (n - 1) 0) → AR ρ t c (K.getD p' 0) = q.1 c → K.getD p 0 ≤ K.getD p' 0)) ∧
  q.2.2.2.Pairwise rlt ∧ ∀ x, (x ∈ q.2.2.2 ↔ RowP ρ s t wk x ∧ (0 ≤ x.2.2.1 ∧ x.2.2.1 ≤ most) ∧ (0 < n → dpF ρ s (K.getD (n - 1) 0) < x.1))
theorem mk_step {ρ : Sto} (hW : WV ρ) {s t most wk : Int} {K : List Int} (hm : 0 ≤ most) (hs : K.Pairwise (dlt ρ s)) (hK : ∀ x, (x ∈ K ↔ fsO ρ s x)) {n : Nat} (hn : n < K.length) {q : Mks} (h : MkI ρ s t most wk K (n + 1) q) : MkI ρ s t most wk K n (mkS ρ s t most wk K n q) := by
  obtain ⟨h1, h2, h3⟩ := h
  have h1' := h1 (by omega)
  rw [Nat.add_sub_cancel] at h1' h3
  have lt_p : ∀ a b : Nat, a < b → b < K.length → dpF ρ s (K.getD a 0) ≤ dpF ρ s (K.getD b 0) ∧ (dpF ρ s (K.getD a 0) = dpF ρ s (K.getD b 0) → K.getD a 0 < K.getD b 0) := fun a b ab bl => by
    have z := pw_getD hs ab bl
    unfold dlt at z
    omega
  have hfs : ∀ p, p < K.length → fsO ρ s (K.getD p 0) := fun p hp => (hK _).mp (getD_in hp)
  -- behind the gathering
  have g1 : ∀ c, 0 ≤ c → c ≤ most → (gaS ρ t (K.getD n 0) q).1 c ≤ 1000000 ∧ (∀ v, v < 1000000 → ((gaS ρ t (K.getD n 0) q).1 c ≤ v ↔ ∃ p, n ≤ p ∧ p < K.length ∧ dpF ρ s (K.getD p 0) = dpF ρ s (K.getD n 0) ∧ AR ρ t c (K.getD p 0) ≤ v)) ∧ ((gaS ρ t (K.getD n 0) q).1 c < 1000000 → ∃ p, n ≤ p ∧ p < K.length ∧ dpF ρ s (K.getD p 0) = dpF ρ s (K.getD n 0) ∧ (gaS ρ t (K.getD n 0) q).2.1 c = K.getD p 0 ∧ AR ρ t c (K.getD p 0) = (gaS ρ t (K.getD n 0) q).1 c ∧ ∀ p', n ≤ p' → p' < K.length → dpF ρ s (K.getD p' 0) = dpF ρ s (K.getD n 0) → AR ρ t c (K.getD p' 0) = (gaS ρ t (K.getD n 0) q).1 c → K.getD p 0 ≤ K.getD p' 0) := by
    intro c c0 c1
    obtain ⟨a1, a2, a3, a4⟩ := h1' c c0 c1
    have e1 : (gaS ρ t (K.getD n 0) q).1 c = if AR ρ t c (K.getD n 0) ≤ q.1 c then AR ρ t c (K.getD n 0) else q.1 c := rfl
    have e2 : (gaS ρ t (K.getD n 0) q).2.1 c = if AR ρ t c (K.getD n 0) ≤ q.1 c then K.getD n 0 else q.2.1 c := rfl
    rw [e1, e2]
    by_cases z : AR ρ t c (K.getD n 0) ≤ q.1 c
    · rw [if_pos z, if_pos z]
      refine ⟨by omega, fun v hv => ⟨fun y => ⟨n, by omega, hn, rfl, y⟩, ?_⟩, fun y => ⟨n, by omega, hn, rfl, rfl, rfl, fun p' p0 p1 p2 p3 => ?_⟩⟩
      · rintro ⟨p, p0, p1, p2, p3⟩
        by_cases e : p = n
        · rw [e] at p3; exact p3
        · have := (a2 v hv).mpr ⟨p, by omega, p1, p2, p3⟩
          omega
      · by_cases e : p' = n
        · rw [e]; exact Int.le_refl _
        · have := (lt_p n p' (by omega) p1).2 p2.symm
          omega
    · rw [if_neg z, if_neg z]
      refine ⟨a1.1, fun v hv => ⟨fun y => ?_, ?_⟩, fun y => ?_⟩
      · obtain ⟨p, p0, p1, p2, p3⟩ := (a2 v hv).mp y
        exact ⟨p, by omega, p1, p2, p3⟩
      · rintro ⟨p, p0, p1, p2, p3⟩
        by_cases e : p = n
        · rw [e] at p3; omega
        · exact (a2 v hv).mpr ⟨p, by omega, p1, p2, p3⟩
      · obtain ⟨p, p0, p1, p2, p3, p4, p5⟩ := a4 y
        refine ⟨p, by omega, p1, p2, p3, p4, fun p' x0 x1 x2 x3 => ?_⟩
        by_cases e : p' = n
        · rw [e] at x3; omega
        · exact p5 p' (by omega) x1 x2 x3
  by_cases hput : n = 0 ∨ dpF ρ s (K.getD (n - 1) 0) ≠ dpF ρ s (K.getD n 0)
  · -- the end of a departure
    rw [mkS_put hput]
    have hlow : 0 < n → dpF ρ s (K.getD (n - 1) 0) < dpF ρ s (K.getD n 0) := fun z => by
      have := (lt_p (n - 1) n (by omega) hn).1
      omega
    have atp : ∀ i, fsO ρ s i → dpF ρ s (K.getD n 0) ≤ dpF ρ s i → ∃ p, n ≤ p ∧ p < K.length ∧ K.getD p 0 = i := by
      intro i hi hd
      obtain ⟨p, p1, p2⟩ := mem_getD ((hK i).mpr hi)
      refine ⟨p, ?_, p1, p2⟩
      by_cases e : n ≤ p
      · exact e
      · have a := hlow (by omega)
        have b : dpF ρ s (K.getD p 0) ≤ dpF ρ s (K.getD (n - 1) 0) := by
          by_cases e2 : p = n - 1
          · rw [e2]; exact Int.le_refl _
          · exact (lt_p p (n - 1) (by omega) (by omega)).1
        rw [p2] at b
        omega
    -- full groups
    have fa : ∀ c, 0 ≤ c → c ≤ most → ∀ v, v < 1000000 → ((gaS ρ t (K.getD n 0) q).1 c ≤ v ↔ ∃ i, fsO ρ s i ∧ dpF ρ s i = dpF ρ s (K.getD n 0) ∧ AR ρ t c i ≤ v) := fun c c0 c1 v hv => by
      rw [(g1 c c0 c1).2.1 v hv]
      constructor
      · rintro ⟨p, p0, p1, p2, p3⟩
        exact ⟨_, hfs p p1, p2, p3⟩
      · rintro ⟨i, i0, i1, i2⟩
        obtain ⟨p, p0, p1, p2⟩ := atp i i0 (by omega)
        exact ⟨p, p0, p1, by rw [p2]; exact i1, by rw [p2]; exact i2⟩
    have fb : ∀ c, 0 ≤ c → c ≤ most → ∀ v, v < 1000000 → (q.2.2.1 c ≤ v ↔ ∃ i, fsO ρ s i ∧ dpF ρ s (K.getD n 0) < dpF ρ s i ∧ AR ρ t c i ≤ v) := fun c c0 c1 v hv => by
      rw [(h1' c c0 c1).2.2.1 v hv]
      constructor
      · rintro ⟨p, p0, p1, p2, p3⟩
        exact ⟨_, hfs p p1, p2, p3⟩
      · rintro ⟨i, i0, i1, i2⟩
        obtain ⟨p, p0, p1, p2⟩ := atp i i0 (by omega)
        refine ⟨p, ?_, p1, by rw [p2]; exact i1, by rw [p2]; exact i2⟩
        by_cases e : p = n
        · rw [e] at p2; rw [p2] at i1; omega
        · omega
    have prI := pr_iff (ls := (gaS ρ t (K.getD n 0) q).1) (lt := q.2.2.1) (lr := (gaS ρ t (K.getD n 0) q).2.1) (mi := dpF ρ s (K.getD n 0)) (wk := wk) (most + 1).toNat 0 1000000 q.2.2.2 (by omega) (by omega) (fun v hv => ⟨fun z => by omega, fun ⟨e, a, b, _⟩ => by omega⟩)
    refine ⟨fun n0 c c0 c1 => ⟨⟨Int.le_refl _, ?_⟩, fun v hv => ⟨fun z => ?_, ?_⟩, fun v hv => ?_, fun z => ?_⟩, ?_, fun x => ?_⟩
    · show (if (gaS ρ t (K.getD n 0) q).1 c < q.2.2.1 c then (gaS ρ t (K.getD n 0) q).1 c else q.2.2.1 c) ≤ 1000000
      have := (g1 c c0 c1).1
      have := (h1' c c0 c1).1.2
      split <;> omega
    · have : (1000000 : Int) ≤ v := z
      omega
    · rintro ⟨p, p0, p1, p2, p3⟩
      have a := hlow n0
      have b : dpF ρ s (K.getD n 0) ≤ dpF ρ s (K.getD p 0) := by
        by_cases e : p = n
        · rw [e]; exact Int.le_refl _
        · exact (lt_p n p (by omega) p1).1
      omega
    · show (if (gaS ρ t (K.getD n 0) q).1 c < q.2.2.1 c then (gaS ρ t (K.getD n 0) q).1 c else q.2.2.1 c) ≤ v ↔ _
      have hlow' := hlow n0
      constructor
      · intro z
        have : (gaS ρ t (K.getD n 0) q).1 c ≤ v ∨ q.2.2.1 c ≤ v := by split at z <;> omega
        rcases this with y | y
        · obtain ⟨p, p0, p1, p2, p3⟩ := ((g1 c c0 c1).2.1 v hv).mp y
          exact ⟨p, p0, p1, by omega, p3⟩
        · obtain ⟨p, p0, p1, p2, p3⟩ := ((h1' c c0 c1).2.2.1 v hv).mp y
          exact ⟨p, by omega, p1, by omega, p3⟩
      · rintro ⟨p, p0, p1, p2, p3⟩
        have : (gaS ρ t (K.getD n 0) q).1 c ≤ v ∨ q.2.2.1 c ≤ v := by
          by_cases e : dpF ρ s (K.getD p 0) = dpF ρ s (K.getD n 0)
          · exact Or.inl (((g1 c c0 c1).2.1 v hv).mpr ⟨p, p0, p1, e, p3⟩)
          · have b : p ≠ n := fun y => e (by rw [y])
            have := (lt_p n p (by omega) p1).1
            exact Or.inr (((h1' c c0 c1).2.2.1 v hv).mpr ⟨p, by omega, p1, by omega, p3⟩)
        split <;> omega
    · have : (1000000 : Int) < 1000000 := z
      omega
    · exact pr_sorted _ 0 1000000 _ h2 (fun x hx => by
        have z := (h3 x).mp hx
        exact Or.inl (z.2.2 (by omega)))
    · refine Iff.trans (prI x) ?_
      have mi_n : 0 < n → dpF ρ s (K.getD (n - 1) 0) < dpF ρ s (K.getD n 0) := hlow
      constructor
      · rintro (hx | ⟨c, c0, c1, ⟨r1, r2, r3, r4⟩, ex⟩)
        · have z := (h3 x).mp hx
          exact ⟨z.1, z.2.1, fun y => by have := mi_n y; have := z.2.2 (by omega); omega⟩
        · have cm : c ≤ most := by omega
          obtain ⟨p, p0, p1, p2, p3, p4, p5⟩ := (g1 c c0 cm).2.2 r1
          subst ex
          refine ⟨⟨r1, ⟨?_, ?_, ?_⟩, fun i hi hd => ⟨?_, fun he => ?_⟩, fun d d0 d1 i hi hd => ?_, fun i hi hd => ?_, r4⟩, ⟨c0, cm⟩, mi_n⟩
          · dsimp only; rw [p3]; exact hfs p p1
          · dsimp only; rw [p3]; exact p2
          · dsimp only; rw [p3]; exact p4
          · by_cases y : (gaS ρ t (K.getD n 0) q).1 c ≤ AR ρ t c i
            · exact y
            · dsimp only at y ⊢
              have := (fa c c0 cm (AR ρ t c i) (by omega)).mpr ⟨i, hi, hd, Int.le_refl _⟩
              omega
          · obtain ⟨b, b0, b1, b2⟩ := atp i hi (by dsimp only at hd; omega)
            dsimp only at hd he ⊢
            rw [p3, ← b2]
            exact p5 b b0 b1 (by rw [b2]; exact hd) (by rw [b2]; exact he)
          · by_cases y : (gaS ρ t (K.getD n 0) q).1 c < AR ρ t d i
            · exact y
            · dsimp only at y ⊢ d1 hd
              have a := r2 d d0 d1
              have := (fa d d0 (by omega) (AR ρ t d i) (by omega)).mpr ⟨i, hi, hd, Int.le_refl _⟩
              omega
          · by_cases y : (gaS ρ t (K.getD n 0) q).1 c < AR ρ t c i
            · exact y
            · dsimp only at y ⊢ hd
              have := (fb c c0 cm (AR ρ t c i) (by omega)).mpr ⟨i, hi, hd, Int.le_refl _⟩
              omega
      · rintro ⟨⟨x1, ⟨x2, x3, x4⟩, x5, x6, x7, x8⟩, hc, hd⟩
        by_cases e : dpF ρ s (K.getD n 0) < x.1
        · exact Or.inl ((h3 x).mpr ⟨⟨x1, ⟨x2, x3, x4⟩, x5, x6, x7, x8⟩, hc, fun _ => e⟩)
        · right
          have ed : x.1 = dpF ρ s (K.getD n 0) := by
            obtain ⟨p, p1, p2⟩ := mem_getD ((hK _).mpr x2)
            by_cases y : n ≤ p
            · have : dpF ρ s (K.getD n 0) ≤ dpF ρ s (K.getD p 0) := by
                by_cases e2 : p = n
                · rw [e2]; exact Int.le_refl _
                · exact (lt_p n p (by omega) p1).1
              rw [p2] at this
              omega
            · have a := hd (by omega)
              have : dpF ρ s (K.getD p 0) ≤ dpF ρ s (K.getD (n - 1) 0) := by
                by_cases e2 : p = n - 1
                · rw [e2]; exact Int.le_refl _
                · exact (lt_p p (n - 1) (by omega) (by omega)).1
              rw [p2] at this
              omega
          have el : (gaS ρ t (K.getD n 0) q).1 x.2.2.1 = x.2.1 := by
            have a := (fa _ hc.1 hc.2 x.2.1 x1).mpr ⟨_, x2, by omega, by omega⟩
            obtain ⟨i, i0, i1, i2⟩ := (fa _ hc.1 hc.2 ((gaS ρ t (K.getD n 0) q).1 x.2.2.1) (by omega)).mp (Int.le_refl _)
            have := (x5 i i0 (by omega)).1
            omega
          refine ⟨x.2.2.1, hc.1, by omega, ⟨by omega, fun d d0 d1 => ?_, ?_, by omega⟩, ?_⟩
          · rw [el]
            by_cases y : x.2.1 < (gaS ρ t (K.getD n 0) q).1 d
            · exact y
            · obtain ⟨i, i0, i1, i2⟩ := (fa d d0 (by omega) x.2.1 x1).mp (by omega)
              have := x6 d d0 d1 i i0 (by omega)
              omega
          · rw [el]
            by_cases y : x.2.1 < q.2.2.1 x.2.2.1
            · exact y
            · obtain ⟨i, i0, i1, i2⟩ := (fb _ hc.1 hc.2 x.2.1 x1).mp (by omega)
              have := x7 i i0 (by omega)
              omega
          · obtain ⟨p, p0, p1, p2, p3, p4, p5⟩ := (g1 _ hc.1 hc.2).2.2 (by omega)
            have f1 := (x5 _ (hfs p p1) (by omega)).2 (by omega)
            obtain ⟨b, b0, b1, b2⟩ := atp _ x2 (by omega)
            have f2 := p5 b b0 b1 (by rw [b2]; omega) (by rw [b2, el]; exact x4)
            rw [b2] at f2
            have ef : (gaS ρ t (K.getD n 0) q).2.1 x.2.2.1 = x.2.2.2 := by omega
            obtain ⟨y1, y2, y3, y4⟩ := x
            dsimp only at *
            rw [ef, el, ed]
  · -- within a departure
    have hn0 : 0 < n := by omega
    have he : dpF ρ s (K.getD (n - 1) 0) = dpF ρ s (K.getD n 0) := by
      by_cases e : dpF ρ s (K.getD (n - 1) 0) = dpF ρ s (K.getD n 0)
      · exact e
      · exact absurd (Or.inr e) hput
    rw [mkS_no hput]
    refine ⟨fun _ c c0 c1 => ?_, h2, fun x => ?_⟩
    · have g := g1 c c0 c1
      have b := h1' c c0 c1
      rw [he]
      refine ⟨⟨g.1, b.1.2⟩, g.2.1, fun v hv => (b.2.2.1 v hv).trans ⟨fun ⟨p, p0, r⟩ => ⟨p, by omega, r⟩, fun ⟨p, p0, p1, p2, p3⟩ => ⟨p, ?_, p1, p2, p3⟩⟩, g.2.2⟩
      by_cases e : p = n
      · rw [e] at p2; omega
      · omega
    · rw [he]
      refine (h3 x).trans ⟨fun z => ⟨z.1, z.2.1, fun _ => z.2.2 (by omega)⟩, fun z => ⟨z.1, z.2.1, fun _ => z.2.2 hn0⟩⟩
theorem mk_all {ρ : Sto} (hW : WV ρ) {s t most wk : Int} {K : List Int} (hm : 0 ≤ most) (hs : K.Pairwise (dlt ρ s)) (hK : ∀ x, (x ∈ K ↔ fsO ρ s x)) : ∀ (n : Nat) (q : Mks), n ≤ K.length → MkI ρ s t most wk K n q → MkI ρ s t most wk K 0 (mkT ρ s t most wk K n q)
  | 0, _, _, h => h
  | n + 1, q, hn, h => by
    unfold mkT
    exact mk_all hW hm hs hK n _ (by omega) (mk_step hW hm hs hK (by omega) h)
theorem mkF_rows {ρ : Sto} (hW : WV ρ) {s t most : Int} (hm : 0 ≤ most) : (mkF ρ s t most).Pairwise rlt ∧ ∀ x, (x ∈ mkF ρ s t most ↔ RowP ρ s t (gN ρ 155 (15 + 10 * s + t)) x ∧ (0 ≤ x.2.2.1 ∧ x.2.2.1 ≤ most)) := by
  have ho := ord_sorted hW.R.1 s
  have h0 : MkI ρ s t most (gN ρ 155 (15 + 10 * s + t)) (ordL ρ s) (ordL ρ s).length mk0 := by
    refine ⟨fun n0 c c0 c1 => ⟨⟨Int.le_refl _, Int.le_refl _⟩, fun v hv => ⟨fun z => ?_, fun ⟨p, p0, p1, _⟩ => by omega⟩, fun v hv => ⟨fun z => ?_, fun ⟨p, p0, p1, _⟩ => by omega⟩, fun z => ?_⟩, List.Pairwise.nil, fun x => ⟨fun z => by simp [mk0] at z, fun z => ?_⟩⟩
    · have : (1000000 : Int) ≤ v := z
      omega
    · have : (1000000 : Int) ≤ v := z
      omega
    · have : (1000000 : Int) < 1000000 := z
      omega
    · exfalso
      have hx := (ho.2 _).mpr z.1.2.1.1
      obtain ⟨p, p1, p2⟩ := mem_getD hx
      have a := z.2.2 (by omega)
      have : dpF ρ s ((ordL ρ s).getD p 0) ≤ dpF ρ s ((ordL ρ s).getD ((ordL ρ s).length - 1) 0) := by
        by_cases e2 : p = (ordL ρ s).length - 1
        · rw [e2]; exact Int.le_refl _
        · have y := pw_getD ho.1 (a := p) (b := (ordL ρ s).length - 1) (by omega) (by omega)
          unfold dlt at y
          omega
      rw [p2, z.1.2.1.2.1] at this
      omega
  have z := mk_all hW hm ho.1 ho.2 (ordL ρ s).length mk0 (Nat.le_refl _) h0
  refine ⟨z.2.1, fun x => (z.2.2 x).trans ⟨fun y => ⟨y.1, y.2.1⟩, fun y => ⟨y.1, y.2, fun q => by omega⟩⟩⟩
