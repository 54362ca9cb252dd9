/-! Rows of the class's profile: their levels were all looked at. -/
theorem not_bet {ρ : Sto} (hW : WV ρ) {t : Int} {d : Nat} (e : ¬ betF ρ t (d + 1)) : ∀ k, 0 ≤ k → k < gN ρ 155 3 → arL ρ t (d + 1) k = arL ρ t d k := fun k k0 k1 => by
  have hz : anyZ (fun r => decide (arL ρ t (d + 1) r < prvL ρ t (d + 1) r)) (gN ρ 155 3).toNat 0 = false := by
    cases q : anyZ (fun r => decide (arL ρ t (d + 1) r < prvL ρ t (d + 1) r)) (gN ρ 155 3).toNat 0
    · rfl
    · exact absurd (Or.inr q) e
  have a := of_decide_eq_false (anyZ_not _ _ hz k k0 (by omega))
  have b := ar_mono hW (t := t) d k k0 k1
  have a2 : ¬ arL ρ t (d + 1) k < arL ρ t d k := a
  omega
theorem ar_stay {ρ : Sto} (hW : WV ρ) {t : Int} {d : Nat} (h : ∀ k, 0 ≤ k → k < gN ρ 155 3 → arL ρ t (d + 1) k = arL ρ t d k) : ∀ (y : Nat) (k : Int), 0 ≤ k → k < gN ρ 155 3 → arL ρ t (d + y + 1) k = arL ρ t (d + y) k
  | 0, k, k0, k1 => h k k0 k1
  | y + 1, k, k0, k1 => by
    have ih := ar_stay hW h y
    show arL ρ t (d + y + 2) k = arL ρ t (d + y + 1) k
    unfold arL
    rw [lv_same hW ih (gN ρ 155 3 - k).toNat k k0 (by omega) (by omega)]
theorem bet_of {ρ : Sto} (hW : WV ρ) {t : Int} {c : Nat} {r : Int} (h0 : 0 ≤ r) (h1 : r < gN ρ 155 3) (h : arL ρ t (c + 1) r < arL ρ t c r) : ∀ x, x < c + 2 → betF ρ t x := fun x hx => by
  apply Classical.byContradiction
  intro z
  have x0 : x ≠ 0 := fun q => z (Or.inl q)
  obtain ⟨d, rfl⟩ : ∃ d, x = d + 1 := ⟨x - 1, by omega⟩
  have a := ar_stay hW (not_bet hW z) (c - d) r h0 h1
  rw [show d + (c - d) = c by omega] at a
  omega
/-- what is known of a row -/
def RowOK (ρ : Sto) (t most : Int) (x : Rw) : Prop := (0 ≤ x.2.2.1 ∧ x.2.2.1 ≤ most) ∧ (0 ≤ x.2.2.2 ∧ x.2.2.2 < gN ρ 155 3) ∧ AR ρ t x.2.2.1 x.2.2.2 = x.2.1 ∧ ∀ c, 0 ≤ c → c < x.2.2.1 → x.2.1 < AR ρ t c x.2.2.2
def GI (ρ : Sto) (t most : Int) (q : Mks) : Prop := ∀ c, 0 ≤ c → c ≤ most → q.1 c < 1000000 → (0 ≤ q.2.1 c ∧ q.2.1 c < gN ρ 155 3) ∧ AR ρ t c (q.2.1 c) = q.1 c ∧ ∀ d, 0 ≤ d → d ≤ most → q.1 d ≤ AR ρ t d (q.2.1 c)
theorem GI.ga {ρ : Sto} {t most r : Int} {q : Mks} (h : GI ρ t most q) (h0 : 0 ≤ r) (h1 : r < gN ρ 155 3) : GI ρ t most (gaS ρ t r q) := by
  intro c c0 c1 hc
  unfold gaS at hc ⊢
  dsimp only at hc ⊢
  by_cases e : AR ρ t c r ≤ q.1 c
  · simp only [if_pos e]
    refine ⟨⟨h0, h1⟩, trivial, fun d d0 d1 => ?_⟩
    split <;> omega
  · simp only [if_neg e] at hc ⊢
    have a := h c c0 c1 hc
    refine ⟨a.1, a.2.1, fun d d0 d1 => ?_⟩
    have b := a.2.2 d d0 d1
    split <;> omega
theorem pr_ok {ρ : Sto} {t most mi wk : Int} {q : Mks} (h : GI ρ t most q) : ∀ (n : Nat) (c bf : Int) (L : List Rw), 0 ≤ c → c + n ≤ most + 1 → bf ≤ 1000000 → (∀ d, 0 ≤ d → d < c → bf ≤ q.1 d) → (∀ x ∈ L, RowOK ρ t most x) → ∀ x ∈ (itr (prF q.1 q.2.2.1 q.2.1 mi wk) n c (bf, L)).2, RowOK ρ t most x
  | 0, _, _, _, _, _, _, _, hL => hL
  | n + 1, c, bf, L, h0, h1, hb, hd, hL => by
    rw [itr_s]
    have e : prF q.1 q.2.2.1 q.2.1 mi wk c (bf, L) = ((if q.1 c < bf then q.1 c else bf), (if q.1 c < bf ∧ q.1 c < q.2.2.1 c ∧ q.1 c - mi < wk then (mi, q.1 c, c, q.2.1 c) :: L else L)) := rfl
    rw [e]
    refine pr_ok h n (c + 1) _ _ (by omega) (by omega) (by split <;> omega) (fun d d0 d1 => ?_) ?_
    · by_cases z : d = c
      · rw [z]; split <;> omega
      · have := hd d d0 (by omega)
        split <;> omega
    · split
      · rename_i z
        intro x hx
        rcases List.mem_cons.mp hx with y | y
        · subst y
          have g := h c h0 (by omega) (by omega)
          refine ⟨⟨h0, by dsimp only; omega⟩, g.1, g.2.1, fun d d0 d1 => ?_⟩
          have a := hd d d0 d1
          have b := g.2.2 d d0 (by dsimp only at d1; omega)
          dsimp only
          omega
        · exact hL x y
      · exact hL
theorem mk_ok {ρ : Sto} {s t most wk : Int} {K : List Int} (hK : ∀ x ∈ K, 0 ≤ x ∧ x < gN ρ 155 3) (hm : 0 ≤ most) : ∀ (n : Nat) (q : Mks), n ≤ K.length → GI ρ t most q → (∀ x ∈ q.2.2.2, RowOK ρ t most x) → ∀ x ∈ (mkT ρ s t most wk K n q).2.2.2, RowOK ρ t most x
  | 0, _, _, _, h => h
  | n + 1, q, hn, hG, h => by
    have hk := hK (K.getD n 0) (by rw [List.getD_eq_getElem?_getD, List.getElem?_eq_getElem (by omega)]; exact List.getElem_mem _)
    have hG1 := hG.ga hk.1 hk.2
    unfold mkT
    refine mk_ok hK hm n _ (by omega) ?_ ?_
    · unfold mkS
      split
      · intro c _ _ z
        exact absurd z (by show ¬ (1000000 : Int) < 1000000; omega)
      · exact hG1
    · unfold mkS
      split
      · unfold puS
        exact pr_ok hG1 _ 0 1000000 _ (by omega) (by omega) (by omega) (fun d d0 d1 => by omega) h
      · exact h
theorem mkF_ok {ρ : Sto} (hW : WV ρ) {s t most : Int} (hm : 0 ≤ most) : ∀ x ∈ mkF ρ s t most, RowOK ρ t most x := by
  have hok := ord_ok hW.R.1 s
  exact mk_ok (fun x hx => (hok.1 x hx).1) hm _ mk0 (Nat.le_refl _) (fun c _ _ z => absurd z (by show ¬ (1000000 : Int) < 1000000; omega)) (by simp [mk0])
theorem row_bet {ρ : Sto} (hW : WV ρ) {t most : Int} {x : Rw} (h : RowOK ρ t most x) : ∀ y, y < x.2.2.1.toNat → betF ρ t y := fun y hy => by
  obtain ⟨c, hc⟩ : ∃ c : Nat, x.2.2.1.toNat = c + 1 := ⟨x.2.2.1.toNat - 1, by omega⟩
  have a := h.2.2.2 (c : Int) (by omega) (by omega)
  have b := h.2.2.1
  unfold AR at a b
  rw [hc] at b
  rw [Int.toNat_natCast] at a
  exact bet_of hW h.2.1.1 h.2.1.2 (by rw [b]; exact a) y (by omega)
def row (L : List Rw) (i : Int) : Rw := L.getD i.toNat (0, 0, 0, 0)
theorem row_mem {L : List Rw} {i : Int} (h0 : 0 ≤ i) (h1 : i < L.length) : row L i ∈ L := by
  unfold row
  rw [List.getD_eq_getElem?_getD, List.getElem?_eq_getElem (by omega)]
  exact List.getElem_mem _
/-- the rows of s and t, and the legs of one -/
abbrev MK (ρ : Sto) (s t : Int) : List Rw := mkF ρ s t 4
def ULx (ρ : Sto) (t : Int) (x : Rw) : List (Int × Int) := unG ρ t (x.2.2.1.toNat + 1) x.2.2.2
def UL (ρ : Sto) (s t i : Int) : List (Int × Int) := ULx ρ t (row (MK ρ s t) i)
theorem unG_ok {ρ : Sto} (hW : WV ρ) {t : Int} (ht0 : 0 ≤ t) (ht1 : t < gN ρ 155 0) : ∀ (n : Nat) (r : Int), r < gN ρ 155 3 → ∀ q ∈ unG ρ t n r, lgOK (gN ρ 155 3) q
  | 0, _, _, q, h => by simp [unG] at h
  | n + 1, r, h1, q, h => by
    unfold unG at h
    split at h
    · rename_i h0
      have a := lv_rng hW ht0 ht1 n r h0 h1
      have o := onS_rng hW.R.1 (t := t) (c := n) (i := ofL ρ t n r)
      rcases List.mem_cons.mp h with z | z
      · subst z
        exact ⟨h0, a.2.1, a.2.2⟩
      · refine unG_ok hW ht0 ht1 n _ ?_ q z
        by_cases y : 0 ≤ onS ρ t n (ofL ρ t n r)
        · exact o.2 y
        · have := hW.R; omega
    · simp at h
theorem UL_ok {ρ : Sto} (hW : WV ρ) {s t i : Int} (ht0 : 0 ≤ t) (ht1 : t < gN ρ 155 0) (h0 : 0 ≤ i) (h1 : i < (MK ρ s t).length) : (∀ q ∈ UL ρ s t i, lgOK (gN ρ 155 3) q) ∧ ((UL ρ s t i).length : Int) ≤ 5 ∧ 1 ≤ ((UL ρ s t i).length : Int) := by
  have r : RowOK ρ t 4 (row (MK ρ s t) i) := mkF_ok hW (s := s) (t := t) (most := 4) (by omega) _ (row_mem h0 h1)
  have hl := unG_len (ρ := ρ) (t := t) ((row (MK ρ s t) i).2.2.1.toNat + 1) (row (MK ρ s t) i).2.2.2
  refine ⟨unG_ok hW ht0 ht1 _ _ r.2.1.2, ?_, ?_⟩
  · unfold UL ULx
    have := r.1
    omega
  · unfold UL ULx unG
    rw [if_pos r.2.1.1, List.length_cons]
    omega
