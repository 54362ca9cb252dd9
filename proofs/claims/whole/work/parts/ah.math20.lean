/-! The world as told; where a trip ends. -/
/-- a store with nothing late and nothing cancelled -/
def tdB (σ : Sto) : Sto := (fun c j => if c = 158 then 0 else σ.1 c j, fun c j => if c = 153 ∧ j = 17 then 0 else σ.2.1 c j, σ.2.2)
def tdW (σ : Sto) : Sto := lkN (tdB σ)
theorem td155 (σ : Sto) (j : Int) : gN (tdB σ) 155 j = gN σ 155 j := rfl
theorem td158 (σ : Sto) (j : Int) : gN (tdB σ) 158 j = 0 := by
  show nrm 0 = 0
  exact nrm_of (x := 0) (inR_of (by omega) (by omega))
theorem td17 (σ : Sto) : gL (tdB σ) 153 17 = 0 := by
  unfold gL tdB
  simp
theorem td_W {σ : Sto} (h : WOK σ) : WOK (tdB σ) := by
  obtain ⟨a, b, c, d, e, f, g⟩ := h
  exact ⟨a, b, c, d, e, f, fun i i0 i1 => by rw [td158]; omega⟩
theorem tdW_V {σ : Sto} (h : LW σ) : WV (tdW σ) := look_WV (td_W h.1) (WX.of (td155 σ) h.2.1) h.2.2.1 (by omega) (by omega)
/-- the world that a plan is held against as told -/
theorem PlW.told {σ : Sto} (h : LW σ) : PlW σ (tdW σ) 1 := ⟨fun _ => rfl, fun i h0 h1 => by
  have R := h.1.1
  have a := lkN_t (td_W h.1) (i := i) h0 h1
  rw [td155, td155, td158] at a
  rw [if_neg (by omega)]
  refine ⟨a.1, a.2, ?_⟩
  unfold tdW
  rw [cnc_ofB]
  unfold ofB
  rw [td17]
  constructor
  · intro x
    rw [bt_one h0 (by omega), bt_0] at x
    exact absurd x (by decide)
  · rintro ⟨x, _⟩
    omega⟩
theorem te_eq {σ : Sto} (h : LW σ) {trip : Int} (ht : trp σ trip) : ∀ (k d : Nat) (i : Int), f1F (lkN σ) trip ≤ i → i + k + 1 = f1F (lkN σ) (trip + 1) → i + d = gN σ 155 3 → teF σ d i = f1F (lkN σ) (trip + 1)
  | k, 0, i, h0, h1, h2 => by
    have f := f1_lt h.V (trip := trip) ht
    have e : gN (lkN σ) 155 3 = gN σ 155 3 := rfl
    omega
  | 0, d + 1, i, h0, h1, h2 => by
    have nx : ¬ nxt σ i := fun x => by have := (tr_nx h ht h0 (by omega)).mp x; omega
    unfold teF
    rw [if_neg nx]
    omega
  | k + 1, d + 1, i, h0, h1, h2 => by
    have nx : nxt σ i := (tr_nx h ht h0 (by omega)).mpr (by omega)
    unfold teF
    rw [if_pos nx]
    exact te_eq h ht k d (i + 1) (by omega) (by omega) (by omega)
/-- the told times are in order, and not below 0 -/
theorem tdW_O {σ : Sto} (h : LW σ) : OrdT (tdW σ) := by
  have w := td_W h.1
  refine ⟨fun i h0 h1 => ?_, fun i h0 n => ?_⟩
  · have a := lkN_t w (i := i) h0 h1
    have b := (h.2.1.1 i h0 h1).2.2.2
    unfold tdW
    rw [a.1, a.2, td155, td155]
    omega
  · have n1 : i + 1 < gN σ 155 3 := n.1
    have a := lkN_t w (i := i) h0 (show i < gN σ 155 3 by omega)
    have c := lkN_t w (i := i + 1) (by omega) n1
    have b := h.2.1.2.2.2.1 i h0 n
    unfold tdW
    rw [a.2, c.1, td155, td155, td158, td158]
    omega
theorem q_undo {σ : Sto} {sz : Int} (h : sz = gN σ 153 20) : (if sz = 0 then -1 else sz - 1) = undoF σ := by
  unfold undoF
  rw [h]
