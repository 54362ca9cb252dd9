/-! INV: what holds between two calls of the law. The class's cells lie below 153, the reference's from there on. -/
def mix (σ u : Sto) : Sto := (fun c j => if c < 153 then u.1 c j else σ.1 c j, fun c j => if c < 153 then u.2.1 c j else σ.2.1 c j, fun c j => if c < 153 then u.2.2 c j else σ.2.2 c j)
/-- the reference's cells are alike -/
def Kr (σ u : Sto) : Prop := ∀ (c : Nat) (j : Int), ¬ c < 153 → gN u c j = gN σ c j ∧ gL u c j = gL σ c j ∧ gR u c j = gR σ c j
/-- the class's cells are alike -/
def Kc (σ u : Sto) : Prop := ∀ (c : Nat) (j : Int), c < 153 → gN u c j = gN σ c j ∧ gL u c j = gL σ c j ∧ gR u c j = gR σ c j
theorem cellF_co {ad : Nat → Nat} {cy : Nat → ClassId} {c : Nat} {n n' : Int → Int} {l : Int → Int64} {r : Int → Option Nat} (h : ∀ j, Int32.ofInt (n j) = Int32.ofInt (n' j)) : cellF ad cy c n l r = cellF ad cy c n' l r := by
  have hs : ∀ (ty : FieldType) (j : Int) (y : Int64) (rr : Option Nat), slV ad ty (n j) y rr = slV ad ty (n' j) y rr := by
    intro ty j y rr
    unfold slV
    cases ty <;> simp only [h]
  unfold cellF
  simp only [hs, h]
theorem wld_mix {σ u : Sto} (h : Kr σ u) (ad : Nat → Nat) (cy : Nat → ClassId) : wld ad cy u = wld ad cy (mix σ u) := by
  unfold wld
  apply List.map_congr_left
  intro c _
  congr 1
  unfold cellE
  by_cases hc : c < 153
  · have e1 : (mix σ u).1 c = u.1 c := by funext j; show (if c < 153 then u.1 c j else σ.1 c j) = u.1 c j; rw [if_pos hc]
    have e2 : (mix σ u).2.1 c = u.2.1 c := by funext j; show (if c < 153 then u.2.1 c j else σ.2.1 c j) = u.2.1 c j; rw [if_pos hc]
    have e3 : (mix σ u).2.2 c = u.2.2 c := by funext j; show (if c < 153 then u.2.2 c j else σ.2.2 c j) = u.2.2 c j; rw [if_pos hc]
    rw [e1, e2, e3]
  · have e1 : (mix σ u).1 c = σ.1 c := by funext j; show (if c < 153 then u.1 c j else σ.1 c j) = σ.1 c j; rw [if_neg hc]
    have e2 : (mix σ u).2.1 c = u.2.1 c := by funext j; show (if c < 153 then u.2.1 c j else σ.2.1 c j) = u.2.1 c j; rw [if_neg hc]; exact (h c j hc).2.1.symm
    have e3 : (mix σ u).2.2 c = u.2.2 c := by funext j; show (if c < 153 then u.2.2 c j else σ.2.2 c j) = u.2.2 c j; rw [if_neg hc]; exact (h c j hc).2.2.symm
    rw [e1, e2, e3]
    apply cellF_co
    intro j
    have z : nrm (u.1 c j) = nrm (σ.1 c j) := (h c j hc).1
    rw [← ofInt_nrm (u.1 c j), z, ofInt_nrm]
theorem MetA.mix {M : Mth} {as : List Av} {σ u : Sto} {Q : Option Av → Sto → Prop} (h : Kr σ u) (hM : MetA M as (mix σ u) Q) : MetA M as u Q := by
  intro l D ad cy sz
  have z := hM l D ad cy sz
  rw [← wld_mix h] at z
  exact z
theorem Kc.mix (σ u : Sto) : Kc u (mix σ u) := fun c j hc => by
  refine ⟨?_, ?_, ?_⟩
  · show nrm (if c < 153 then u.1 c j else σ.1 c j) = _; rw [if_pos hc]; rfl
  · show (if c < 153 then u.2.1 c j else σ.2.1 c j) = _; rw [if_pos hc]; rfl
  · show (if c < 153 then u.2.2 c j else σ.2.2 c j) = _; rw [if_pos hc]; rfl
theorem Kr.mix (σ u : Sto) : Kr σ (mix σ u) := fun c j hc => by
  refine ⟨?_, ?_, ?_⟩
  · show nrm (if c < 153 then u.1 c j else σ.1 c j) = _; rw [if_neg hc]; rfl
  · show (if c < 153 then u.2.1 c j else σ.2.1 c j) = _; rw [if_neg hc]; rfl
  · show (if c < 153 then u.2.2 c j else σ.2.2 c j) = _; rw [if_neg hc]; rfl
theorem CQ.kc {σ u ρ : Sto} {N : Nat} (h : CQ σ ρ N) (hS : gN ρ 155 0 ≤ 10) (hR : gN ρ 155 3 ≤ 60) (k : Kc σ u) : CQ u ρ N := by
  have hN := h.n.k
  refine ⟨(k 0 12 (by omega)).2.2.trans h.c, h.n.of hS (fun c j h1 h2 => (k c j (by omega)).1), h.t.of (k 7 0 (by omega)).2.2 (k 7 1 (by omega)).2.1 (fun j => (k 8 j (by omega)).1) (fun j => (k 9 j (by omega)).1) (Or.inl (k 7 2 (by omega)).1), fun x i i0 i1 => ?_, fun t t0 t1 => ?_⟩
  · rw [(k 7 2 (by omega)).1] at x
    exact ((k 10 i (by omega)).2.1).trans (h.m x i i0 i1)
  · rw [(k 42 t (by omega)).1]
    refine ⟨(h.o t t0 t1).1, fun x y => ?_⟩
    exact ((h.o t t0 t1).2 x y).of (fun c j q _ => (k c j (by omega)).1) hR
theorem lk_rq {σ w : Sto} (h1 : ∀ j, gN w 155 j = gN σ 155 j) (h2 : ∀ j, gN w 158 j = gN σ 158 j) (h3 : gL w 153 17 = gL σ 153 17) : Rq (lkN σ) (lkN w) := by
  have e := look_eq h1 h2 h3 (-1) 0 0
  refine ⟨fun j => h1 j, fun j => h2 j, fun j _ _ => ⟨?_, ?_, ?_⟩, ?_, ?_⟩
  · show nrm (lkL w (-1) 0 j) = nrm (lkL σ (-1) 0 j); rw [e.1]
  · show nrm (lkC w (-1) 0 j) = nrm (lkC σ (-1) 0 j); rw [e.2.1]
  · show lkH w (-1) 0 0 j = lkH σ (-1) 0 0 j; rw [e.2.2.2]
  · show lkO w (-1) 0 = lkO σ (-1) 0; rw [e.2.2.1]
  · exact (look17 w (-1) 0 0).trans (h3.trans (look17 σ (-1) 0 0).symm)
theorem td_rq {σ w : Sto} (h1 : ∀ j, gN w 155 j = gN σ 155 j) : Rq (tdW σ) (tdW w) := lk_rq (σ := tdB σ) (w := tdB w) h1 (fun j => by rw [td158, td158]) (by rw [td17, td17])
theorem TmR.rq {σ ρ τ : Sto} {N T : Nat} (h : TmR σ N T ρ) (r : Rq ρ τ) : TmR σ N T τ := by
  obtain ⟨a, b, c, d, e⟩ := h
  refine ⟨a, b, c.trans r.2.2.2.1.symm, fun i i0 i1 => ?_, e⟩
  rw [r.1] at i1
  have y := r.2.2.1 i i0 i1
  rw [y.1, y.2.1]
  exact d i i0 i1
/-- a kept row, as a world -/
def kRow (σ : Sto) (k : Int) : Sto := (fun c j => if c = 158 then gN σ 159 (60 * k + j) else σ.1 c j, σ.2.1, σ.2.2)
theorem kr155 (σ : Sto) (k j : Int) : gN (kRow σ k) 155 j = gN σ 155 j := rfl
theorem kr158 (σ : Sto) (k j : Int) : gN (kRow σ k) 158 j = gN σ 159 (60 * k + j) := by
  show nrm (gN σ 159 (60 * k + j)) = _
  exact nrm_of (inR_gN _ _ _)
def IA (σ : Sto) (N N' : Nat) : Prop := CQ σ (lkN σ) N ∧ TmR σ N 3 (tdW σ) ∧ gR σ 0 13 = some N' ∧ Nok N' ∧ N ≠ N' ∧ gN σ (N + 5) 0 = 0 ∧ gN σ (N' + 5) 0 = 0
def IB (σ : Sto) : Prop := LW σ ∧ TOK σ ∧ UnOK σ ∧ PlOK σ ∧ TpOK σ ∧ OfE σ
def IC (σ : Sto) : Prop := (0 ≤ gN σ 153 2 ∧ gN σ 153 2 ≤ 900) ∧ gN σ 0 14 = gN σ 153 2 ∧ (∀ j : Int, 0 ≤ j → j < gN σ 153 2 → gN σ 1 j = sgB (gN σ 154 j)) ∧ gN σ 2 0 = gN σ 153 14 ∧ gN σ 2 1 = gN σ 153 15
def ID (σ : Sto) (L : List (Int × Int)) : Prop := PlR σ L ∧ PLd σ (lkN σ) L
def IE (σ : Sto) : Prop := UnR σ ∧ ∀ k : Int, 0 ≤ k → k < gN σ 153 20 → LW (kRow σ k) ∧ ∀ i : Int, gN σ 155 3 ≤ i → i < 64 → bt (gL σ 160 k) i = false
def INV (σ : Sto) : Prop := ∃ (N N' : Nat) (L : List (Int × Int)), IA σ N N' ∧ IB σ ∧ IC σ ∧ ID σ L ∧ IE σ
theorem UnOK.of {σ w : Sto} (h : UnOK σ) (e20 : gN w 153 20 = gN σ 153 20) (e159 : ∀ j, gN w 159 j = gN σ 159 j) : UnOK w := by
  unfold UnOK at h ⊢
  simp only [e20, e159]
  exact h
theorem PlOK.by {σ w : Sto} (h : PlOK σ) (e38 : gN w 153 38 = gN σ 153 38) (e173 : ∀ j, gN w 173 j = gN σ 173 j) (e174 : ∀ j, gN w 174 j = gN σ 174 j) (e3 : gN w 155 3 = gN σ 155 3) : PlOK w := by
  unfold PlOK at h ⊢
  simp only [e38, e173, e174, e3]
  exact h
theorem UnR.of {σ w : Sto} (h : UnR σ) (a0 : gN w 15 0 = gN σ 15 0) (a1 : gN w 15 1 = gN σ 15 1) (e20 : gN w 153 20 = gN σ 153 20) (e17 : ∀ j, gL w 17 j = gL σ 17 j) (e18 : ∀ (c : Nat) (j : Int), 18 ≤ c → c < 38 → gN w c j = gN σ c j) (e159 : ∀ j, gN w 159 j = gN σ 159 j) (e160 : ∀ j, gL w 160 j = gL σ 160 j) (e3 : gN w 155 3 = gN σ 155 3) : UnR w := by
  refine ⟨by rw [a0, e20]; exact h.1, by rw [a1]; exact h.2.1, fun k k0 k1 => ?_⟩
  rw [e20] at k1
  rw [a1, e20, e17, e160]
  refine ⟨(h.2.2 k k0 k1).1, fun i i0 i1 => ?_⟩
  rw [e3] at i1
  have g := rg_rng (tp := gN σ 15 1) (sz := gN σ 153 20) (k := k)
  rw [e18 _ _ (by omega) (by omega), e159]
  exact (h.2.2 k k0 k1).2 i i0 i1
theorem LW.kr {σ w : Sto} {k : Int} (h : LW (kRow σ k)) (e155 : ∀ q, gN w 155 q = gN σ 155 q) (e159 : ∀ i : Int, 0 ≤ i → i < 60 → gN w 159 (60 * k + i) = gN σ 159 (60 * k + i)) : LW (kRow w k) :=
  h.of (fun q => e155 q) (fun i i0 i1 => by rw [kr158, kr158]; exact e159 i i0 i1)
theorem IE.of {σ w : Sto} (h : IE σ) (a0 : gN w 15 0 = gN σ 15 0) (a1 : gN w 15 1 = gN σ 15 1) (e20 : gN w 153 20 = gN σ 153 20) (e17 : ∀ j, gL w 17 j = gL σ 17 j) (e18 : ∀ (c : Nat) (j : Int), 18 ≤ c → c < 38 → gN w c j = gN σ c j) (e159 : ∀ j, gN w 159 j = gN σ 159 j) (e160 : ∀ j, gL w 160 j = gL σ 160 j) (e155 : ∀ j, gN w 155 j = gN σ 155 j) : IE w := by
  refine ⟨h.1.of a0 a1 e20 e17 e18 e159 e160 (e155 3), fun k k0 k1 => ?_⟩
  rw [e20] at k1
  refine ⟨(h.2 k k0 k1).1.kr e155 (fun i _ _ => e159 _), fun i i0 i1 => ?_⟩
  rw [e155] at i0
  rw [e160]
  exact (h.2 k k0 k1).2 i i0 i1
/-- a query keeps all but what it may use -/
abbrev pB (c : Nat) (j : Int) : Prop := pCq c j ∨ pQ c j ∨ pPl c j ∨ c = 173 ∨ c = 174 ∨ (c = 153 ∧ j = 38)
abbrev pB0 (c : Nat) (j : Int) : Prop := pCq c j ∨ pQ c j
theorem pB.of0 {σ w : Sto} (h : Fg pB0 σ w) : Fg pB σ w := h.mono (fun c j q => by unfold pB0 at q; unfold pB; rcases q with q | q; exact Or.inl q; exact Or.inr (Or.inl q))
theorem IA.q {σ w : Sto} {N N' : Nat} (h : IA σ N N') (hL : LW σ) (hF : Fg pB σ w) (hQ : CQ w (lkN σ) N) : IA w N N' := by
  obtain ⟨h1, h2, h3, h4, h5, h6, h7⟩ := h
  have hN := h1.n.k
  have e155 : ∀ j, gN w 155 j = gN σ 155 j := fun j => hF.n (by unfold pB pCq pQ pPl; omega)
  have e158 : ∀ j, gN w 158 j = gN σ 158 j := fun j => hF.n (by unfold pB pCq pQ pPl; omega)
  have e17 : gL w 153 17 = gL σ 153 17 := hF.l (by unfold pB pCq pQ pPl; omega)
  have R := hL.1.1
  refine ⟨hQ.rq R.1 (lk_rq e155 e158 e17), ?_, (hF.r (by unfold pB pCq pQ pPl; omega)).trans h3, h4, h5, (hF.n (by unfold pB pCq pQ pPl; omega)).trans h6, (hF.n (by unfold pB pCq pQ pPl; omega)).trans h7⟩
  exact (h2.of (hF.r (by unfold pB pCq pQ pPl; omega)) (hF.l (by unfold pB pCq pQ pPl; omega)) (fun j => hF.n (by unfold pB pCq pQ pPl; omega)) (fun j => hF.n (by unfold pB pCq pQ pPl; omega)) (Or.inl (hF.n (by unfold pB pCq pQ pPl; omega)))).rq (td_rq e155)
theorem IB.q {σ w : Sto} (h : IB σ) (hF : Fg pB σ w) (hT : TOK w) (hPl : PlOK w) : IB w := by
  obtain ⟨h1, h2, h3, h4, h5, h6⟩ := h
  refine ⟨h1.of (fun j => hF.n (by unfold pB pCq pQ pPl; omega)) (fun i _ _ => hF.n (by unfold pB pCq pQ pPl; omega)), hT, h3.of (hF.n (by unfold pB pCq pQ pPl; omega)) (fun j => hF.n (by unfold pB pCq pQ pPl; omega)), hPl, fun j => ?_, fun i i0 i1 => ?_⟩
  · rw [hF.n (c := 154) (by unfold pB pCq pQ pPl; omega)]; exact h5 j
  · rw [hF.n (c := 155) (by unfold pB pCq pQ pPl; omega)] at i0
    rw [hF.l (c := 153) (j := 17) (by unfold pB pCq pQ pPl; omega)]
    exact h6 i i0 i1
theorem IC.q {σ w : Sto} (h : IC σ) (hF : Fg pB σ w) : IC w := by
  obtain ⟨h1, h2, h3, h4, h5⟩ := h
  have e2 : gN w 153 2 = gN σ 153 2 := hF.n (by unfold pB pCq pQ pPl; omega)
  refine ⟨by rw [e2]; exact h1, by rw [e2, hF.n (c := 0) (by unfold pB pCq pQ pPl; omega)]; exact h2, fun j j0 j1 => ?_, ?_, ?_⟩
  · rw [e2] at j1
    rw [hF.n (c := 1) (by unfold pB pCq pQ pPl; omega), hF.n (c := 154) (by unfold pB pCq pQ pPl; omega)]
    exact h3 j j0 j1
  · rw [hF.n (c := 2) (by unfold pB pCq pQ pPl; omega), hF.n (c := 153) (by unfold pB pCq pQ pPl; omega)]; exact h4
  · rw [hF.n (c := 2) (by unfold pB pCq pQ pPl; omega), hF.n (c := 153) (by unfold pB pCq pQ pPl; omega)]; exact h5
theorem ID.q {σ w : Sto} {L : List (Int × Int)} (h : ID σ L) (hF : Fg pB0 σ w) : ID w L := by
  obtain ⟨h1, h2, h3, h4⟩ := h
  refine ⟨h1.of (hF.n (by unfold pB0 pCq pQ; omega)) (fun l => ⟨hF.n (by unfold pB0 pCq pQ; omega), hF.n (by unfold pB0 pCq pQ; omega)⟩), h2.of (fun c j q0 q1 => hF.n (by unfold pB0 pCq pQ; omega)), fun q hq => ?_, h4⟩
  have z : gN w 155 3 = gN σ 155 3 := hF.n (by unfold pB0 pCq pQ; omega)
  show lgOK (gN w 155 3) q
  rw [z]
  exact h3 q hq
theorem PlOK.id {w : Sto} {L : List (Int × Int)} (h : ID w L) : PlOK w := by
  obtain ⟨h1, h2, h3, h4⟩ := h
  refine ⟨by have z := h1.1; omega, fun l l0 l1 => ?_⟩
  rw [h1.1] at l1
  have a := h1.2 l l0 l1
  have b := h3 _ (h2.at l0 l1).2.2
  have b' : lgOK (gN w 155 3) (lg L l) := b
  unfold lgOK at b'
  rw [a.1, a.2]
  exact b'
theorem IE.q {σ w : Sto} (h : IE σ) (hF : Fg pB σ w) : IE w :=
  h.of (hF.n (by unfold pB pCq pQ pPl; omega)) (hF.n (by unfold pB pCq pQ pPl; omega)) (hF.n (by unfold pB pCq pQ pPl; omega)) (fun j => hF.l (by unfold pB pCq pQ pPl; omega)) (fun c j q0 q1 => hF.n (by unfold pB pCq pQ pPl; omega)) (fun j => hF.n (by unfold pB pCq pQ pPl; omega)) (fun j => hF.l (by unfold pB pCq pQ pPl; omega)) (fun j => hF.n (by unfold pB pCq pQ pPl; omega))
/-- one call of both: the class's, then the reference's: the same answer, and INV again -/
def Two (M M' : Mth) (as : List Av) (σ : Sto) : Prop := ∃ Q1 : Option Av → Sto → Prop, MetA M (ar 0 :: as) σ Q1 ∧ ∀ x u, Q1 (some (ai x)) u → ∃ Q2 : Option Av → Sto → Prop, MetA M' (ar 153 :: as) u Q2 ∧ ∀ y w, Q2 (some (ai y)) w → y = x ∧ INV w
theorem INV.pp {σ w : Sto} {N N' : Nat} {L : List (Int × Int)} (hA : IA σ N N') (hB : IB σ) (hC : IC σ) (hE : IE σ) (hF : Fg pB σ w) (hQ : CQ w (lkN σ) N) (hT : TOK w) (hD : ID w L) : INV w := ⟨N, N', L, hA.q hB.1 hF hQ, hB.q hF hT (PlOK.id hD), hC.q hF, hD, hE.q hF⟩
theorem INV.qq {σ w : Sto} {N N' : Nat} {L : List (Int × Int)} (hA : IA σ N N') (hB : IB σ) (hC : IC σ) (hD : ID σ L) (hE : IE σ) (hF : Fg pB0 σ w) (hQ : CQ w (lkN σ) N) (hT : TOK w) : INV w := INV.pp hA hB hC hE (pB.of0 hF) hQ hT (hD.q hF)
/-- the frame of a query of both -/
theorem INV.two {σ u w : Sto} {N N' : Nat} {L : List (Int × Int)} (hA : IA σ N N') (hB : IB σ) (hC : IC σ) (hD : ID σ L) (hE : IE σ) (hQ : CQ u (lkN σ) N) (hF : Fg pCq σ u) (hG : Fr pQ (mix σ u) w) (hT : TOK w) : INV w := by
  have R := hB.1.1.1
  have S := hB.1.1.2.1
  have kc : Kc u w := fun c j hc => by
    have a := Kc.mix σ u c j hc
    have hn : ¬ pQ c j := by unfold pQ; omega
    exact ⟨(hG.1 c j hn).trans a.1, (hG.2.1 c j hn).trans a.2.1, (hG.2.2 c j).trans a.2.2⟩
  have hH0 : Fg pB0 σ w := fun c j q => by
    by_cases hc : c < 153
    · have a := kc c j hc
      have b := hF c j (fun z => q (Or.inl z))
      exact ⟨a.1.trans b.1, a.2.1.trans b.2.1, a.2.2.trans b.2.2⟩
    · have a := Kr.mix σ u c j hc
      have hn : ¬ pQ c j := fun z => q (Or.inr z)
      exact ⟨(hG.1 c j hn).trans a.1, (hG.2.1 c j hn).trans a.2.1, (hG.2.2 c j).trans a.2.2⟩
  have hQw : CQ w (lkN σ) N := hQ.kc S.2 R.2 kc
  exact INV.qq hA hB hC hD hE hH0 hQw hT
theorem two_q {M M' : Mth} {as : List Av} {σ : Sto} {N N' : Nat} {L : List (Int × Int)} (hA : IA σ N N') (hB : IB σ) (hC : IC σ) (hD : ID σ L) (hE : IE σ) {v : Int} (hc : MetA M (ar 0 :: as) σ (cqQ σ (lkN σ) N v)) (hr : ∀ u, MetA M' (ar 153 :: as) (mix σ u) (qQ (mix σ u) v)) : Two M M' as σ := by
  refine ⟨_, hc, fun x u hu => ⟨_, MetA.mix (fun c j q => ?_) (hr u), fun y w hw => ?_⟩⟩
  · have z := hu.2.2 c j (by unfold pCq; omega)
    exact z
  · have a := hu.1
    have b := hw.1
    injection a with a
    injection b with b
    injection a with a
    injection b with b
    exact ⟨b.trans a.symm, INV.two hA hB hC hD hE hu.2.1 hu.2.2 hw.2.1 hw.2.2⟩
