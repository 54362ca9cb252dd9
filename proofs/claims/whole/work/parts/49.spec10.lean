/-! Board, slack, the plan of the reference. -/
abbrev rid (σ : Sto) (i : Int) : Prop := 0 ≤ i ∧ i < gN σ 155 3
abbrev ofB (σ : Sto) (i : Int) : Prop := shrL (gL σ 153 17) i &&& 1 = 1
def tmF (σ : Sto) (stop m co a : Int) : Int := if ofB σ a ∨ (if co = 0 then gN σ 155 (115 + 5 * a + 1) else gN σ 155 (115 + 5 * a + 2)) ≠ stop ∨ (if co = 0 then LV σ a else CM σ a) < m then 1000000 else if co = 0 then LV σ a else CM σ a
def bdB (σ : Sto) (stop m co a b n : Int) : Int := n + if tmF σ stop m co b < tmF σ stop m co a ∨ (tmF σ stop m co b = tmF σ stop m co a ∧ b < a) then 1 else 0
def bdA (σ : Sto) (stop m co a : Int) : Int := itr (bdB σ stop m co a) (gN σ 155 3).toNat 0 0
def boardF (σ : Sto) (stop m co i : Int) : Int := if ¬ stp σ stop ∨ ¬ mnt m ∨ i < 0 then -1 else fs2 (fun a => decide (tmF σ stop m co a < 1000000 ∧ bdA σ stop m co a = i)) (-2) (gN σ 155 3).toNat 0
def slackQ (σ : Sto) (e on : Int) : Int := if ¬ rid σ e ∨ ¬ rid σ on ∨ ofB σ e ∨ ofB σ on ∨ 1000000 ≤ btw σ e on then -1000 else LV σ on - CM σ e - btw σ e on
/-- the plan's rides are rides, those of one leg in a row -/
def PlOK (σ : Sto) : Prop := (0 ≤ gN σ 153 38 ∧ gN σ 153 38 ≤ 6) ∧ ∀ l : Int, 0 ≤ l → l < gN σ 153 38 → 0 ≤ gN σ 173 l ∧ gN σ 173 l ≤ gN σ 174 l ∧ gN σ 174 l < gN σ 155 3
def lvA (σ : Sto) (l aT : Int) : Int := gN σ 155 (115 + 5 * gN σ 173 l + 3) + if aT = 0 then gN σ 158 (gN σ 173 l) else 0
def rdW (σ : Sto) (l s : Int) : Int := if l = 0 then gN σ 155 (15 + 10 * s + gN σ 155 (115 + 5 * gN σ 173 0 + 1)) else btw σ (gN σ 174 (l - 1)) (gN σ 173 l)
def rdy (σ : Sto) (l s m aT : Int) : Int := if 1000000 ≤ rdW σ l s then 1000000 else rdW σ l s + if l = 0 then m else gN σ 155 (115 + 5 * gN σ 174 (l - 1) + 4) + if aT = 0 then gN σ 158 (gN σ 174 (l - 1)) else 0
def brkF (σ : Sto) (s t m aT : Int) : Nat → Int → Int × Int
  | 0, _ => (if 1000000 ≤ gN σ 155 (15 + 10 * gN σ 155 (115 + 5 * gN σ 174 (gN σ 153 38 - 1) + 2) + t) then 3 else 0, gN σ 153 38)
  | n + 1, l => if aT = 0 ∧ anyZ (fun i => decide (ofB σ i)) (gN σ 174 l - gN σ 173 l + 1).toNat (gN σ 173 l) = true then (1, l) else if lvA σ l aT < rdy σ l s m aT then (2, l) else brkF σ s t m aT n (l + 1)
def brk (σ : Sto) (s t m aT : Int) : Int × Int := brkF σ s t m aT (gN σ 153 38).toNat 0
abbrev fit (σ : Sto) (s t m : Int) : Prop := stp σ s ∧ stp σ t ∧ mnt m
def checkedF (σ : Sto) (s t m aT what : Int) : Int := if ¬ fit σ s t m ∨ what < 0 ∨ 2 < what then -1 else if gN σ 153 38 = 0 then -3 else if what = 0 then (brk σ s t m aT).1 else if what = 1 then (if (brk σ s t m aT).1 = 0 then -2 else (brk σ s t m aT).2) else if (brk σ s t m aT).1 = 0 then gN σ 155 (115 + 5 * gN σ 174 (gN σ 153 38 - 1) + 4) + (if aT = 0 then gN σ 158 (gN σ 174 (gN σ 153 38 - 1)) else 0) + gN σ 155 (15 + 10 * gN σ 155 (115 + 5 * gN σ 174 (gN σ 153 38 - 1) + 2) + t) else -2
def causeL (σ : Sto) (b : Int) : Nat → Int → Int
  | 0, _ => b
  | n + 1, l => if gN σ 158 (gN σ 174 l) = 0 then causeL σ b n (l - 1) else l
def causeF (σ : Sto) (s t m : Int) : Int := if ¬ fit σ s t m then -1 else if gN σ 153 38 = 0 ∨ (brk σ s t m 0).1 ≠ 2 then -2 else if lvA σ (brk σ s t m 0).2 1 < rdy σ (brk σ s t m 0).2 s m 1 then -3 else causeL σ (brk σ s t m 0).2 (brk σ s t m 0).2.toNat ((brk σ s t m 0).2 - 1)
def tooLateF (σ : Sto) (s t m : Int) : Int := if ¬ fit σ s t m then -1 else if gN σ 153 38 = 0 ∨ (brk σ s t m 0).1 ≠ 2 then -2 else if 1000000 ≤ rdy σ (brk σ s t m 0).2 s m 0 then -2 else rdy σ (brk σ s t m 0).2 s m 0 - lvA σ (brk σ s t m 0).2 0
def spF (σ : Sto) (s m l least : Int) : Int := if lvA σ l 0 - rdy σ l s m 0 < least then lvA σ l 0 - rdy σ l s m 0 else least
def spareF (σ : Sto) (s t m : Int) : Int := if ¬ fit σ s t m then -1 else if gN σ 153 38 = 0 ∨ (brk σ s t m 0).1 ≠ 0 then -2 else itr (spF σ s m) (gN σ 153 38).toNat 0 1000000
def planF (σ : Sto) (on e : Int) : Int := if ¬ rid σ on ∨ ¬ rid σ e then -1 else if gN σ 155 (115 + 5 * on + 0) ≠ gN σ 155 (115 + 5 * e + 0) ∨ e < on then -2 else if gN σ 153 38 = 6 then -3 else gN σ 153 38 + 1
def planAsF (σ : Sto) (s t i : Int) : Int := if ¬ two σ s t ∨ i < 0 then -1 else if (pfK σ s t).length ≤ i then -2 else (cd (pfL σ s t) (kx σ s t i)).2.2 + 1
theorem Q173 {σ u : Sto} (h : Fr pQ σ u) (j : Int) : gN u 173 j = gN σ 173 j := h.1 173 j (by unfold pQ; omega)
theorem Q174 {σ u : Sto} (h : Fr pQ σ u) (j : Int) : gN u 174 j = gN σ 174 j := h.1 174 j (by unfold pQ; omega)
theorem Q38 {σ u : Sto} (h : Fr pQ σ u) : gN u 153 38 = gN σ 153 38 := h.1 153 38 (by unfold pQ; omega)
theorem lvA_eq {σ u : Sto} (h : Fr pQ σ u) (l aT : Int) : lvA u l aT = lvA σ l aT := by unfold lvA; simp only [Q155 h, Q158 h, Q173 h]
theorem rdy_eq {σ u : Sto} (h : Fr pQ σ u) (l s m aT : Int) : rdy u l s m aT = rdy σ l s m aT := by
  have e3 : ∀ j, gN u 173 j = gN σ 173 j := fun j => h.1 173 j (by unfold pQ; omega)
  have e4 : ∀ j, gN u 174 j = gN σ 174 j := fun j => h.1 174 j (by unfold pQ; omega)
  unfold rdy rdW
  simp only [Q155 h, Q158 h, e3, e4, btw_eq (Q155 h)]
theorem brkF_eq {σ u : Sto} (h : Fr pQ σ u) (s t m aT : Int) : ∀ (n : Nat) (l : Int), brkF u s t m aT n l = brkF σ s t m aT n l
  | 0, _ => by
    unfold brkF
    simp only [Q155 h, Q174 h, Q38 h]
  | n + 1, l => by
    unfold brkF
    rw [lvA_eq h, rdy_eq h, brkF_eq h s t m aT n (l + 1), Q174 h, Q173 h, show (fun i => decide (ofB u i)) = fun i => decide (ofB σ i) from by funext i; unfold ofB; rw [Q17 h]]
theorem brk_eq {σ u : Sto} (h : Fr pQ σ u) (s t m aT : Int) : brk u s t m aT = brk σ s t m aT := by
  unfold brk
  rw [brkF_eq h, h.1 153 38 (by unfold pQ; omega)]
theorem PlOK.of {σ u : Sto} (h : Fr pQ σ u) (hp : PlOK σ) : PlOK u := by
  unfold PlOK
  rw [h.1 153 38 (by unfold pQ; omega), Q155 h]
  refine ⟨hp.1, fun l a b => ?_⟩
  rw [h.1 173 l (by unfold pQ; omega), h.1 174 l (by unfold pQ; omega)]
  exact hp.2 l a b
theorem brkF_rng {σ : Sto} (hp : PlOK σ) (s t m aT : Int) : ∀ (n : Nat) (l : Int), 0 ≤ l → l + n = gN σ 153 38 → (0 ≤ (brkF σ s t m aT n l).1 ∧ (brkF σ s t m aT n l).1 ≤ 3) ∧ (0 ≤ (brkF σ s t m aT n l).2 ∧ (brkF σ s t m aT n l).2 ≤ gN σ 153 38) ∧ ((brkF σ s t m aT n l).1 = 2 → (brkF σ s t m aT n l).2 < gN σ 153 38)
  | 0, l, h0, h1 => by
    unfold brkF
    dsimp only
    split <;> omega
  | n + 1, l, h0, h1 => by
    have ih := brkF_rng hp s t m aT n (l + 1) (by omega) (by omega)
    unfold brkF
    split
    · dsimp only; omega
    · split
      · dsimp only; omega
      · exact ih
