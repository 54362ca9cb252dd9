/-! The class's times: who can be on what. -/
def lnkF (ρ : Sto) (i k : Int) (c : Int64) : Int64 := if shrL (gL ρ 153 23) k &&& 1 = 0 ∧ 0 ≤ gN ρ 161 k - gN ρ 162 i - btw ρ i k then c ||| shlL 1 k else c &&& (shlL 1 k ^^^ (-1))
abbrev pLn (T c : Nat) (j : Int) : Prop := c = T + 3 ∨ (c = T ∧ j = 2)
abbrev pLi (T : Nat) (i : Int) (c : Nat) (j : Int) : Prop := c = T + 3 ∧ j = i
def LnP (σ u : Sto) (T : Nat) (ρ : Sto) : Prop := Fg (pLn T) σ u ∧ LkR u T ρ ∧ gN u T 2 = 1
theorem clr_no {c : Int64} {k : Int} (h0 : 0 ≤ k) (h1 : k < 64) (h : bt c k = false) : c &&& (shlL 1 k ^^^ (-1)) = c := by
  apply bt_ext
  intro i i0 i1
  rw [bt_and, bt_not i0 i1, bt_shl h0 h1 i0 i1]
  by_cases e : i = k
  · rw [e, h]; simp
  · simp [e]
theorem lnk_eq {ρ : Sto} {i : Int} : ∀ (n : Nat) (k : Int) (c : Int64), 0 ≤ k → k + n ≤ 60 → (∀ j : Int, k ≤ j → j < 64 → bt c j = false) → itr (lnkF ρ i) n k c = itr (lkHf ρ (fun k => gN ρ 161 k) (fun k => gN ρ 162 k) (gL ρ 153 23) i) n k c := by
  intro n
  induction n with
  | zero => intro k c _ _ _; rfl
  | succ n ih =>
    intro k c h0 h1 h
    rw [itr_s, itr_s]
    have e : lnkF ρ i k c = lkHf ρ (fun k => gN ρ 161 k) (fun k => gN ρ 162 k) (gL ρ 153 23) i k c := by
      unfold lnkF lkHf
      rw [clr_no h0 (by omega) (h k (Int.le_refl _) (by omega))]
      by_cases z : shrL (gL ρ 153 23) k &&& 1 = 0 ∧ btw ρ i k ≤ gN ρ 161 k - gN ρ 162 i
      · rw [if_pos ⟨z.1, by omega⟩, if_pos z]
      · rw [if_neg (fun y => z ⟨y.1, by omega⟩), if_neg z]
    rw [e]
    refine ih (k + 1) _ (by omega) (by omega) (fun j j0 j1 => ?_)
    rw [← e]
    unfold lnkF
    rw [clr_no h0 (by omega) (h k (Int.le_refl _) (by omega))]
    split
    · rw [bt_or, bt_shl h0 (by omega) (by omega) j1, h j (by omega) j1]
      simp
      omega
    · exact h j (by omega) j1
theorem lnk_all {ρ : Sto} (hW : WV ρ) {i : Int} (h0 : 0 ≤ i) (h1 : i < gN ρ 155 3) : itr (lnkF ρ i) (gN ρ 155 3).toNat 0 0 = gL ρ 163 i := by
  have hR := hW.R
  rw [lnk_eq _ _ _ (by omega) (by omega) (fun j _ _ => bt_0 j)]
  exact (hW.2.2.2.2 i h0 h1).symm
theorem NetR.ln {σ u ρ : Sto} {N T : Nat} (h : NetR σ N ρ) (hS : gN ρ 155 0 ≤ 10) (hT : Tok T) (hF : Fg (pLn T) σ u) : NetR u N ρ := by
  have := h.k
  exact h.of hS (fun c j q0 q1 => hF.n (by unfold pLn; omega))
theorem TmR.ln {σ u ρ : Sto} {N T : Nat} (h : TmR σ N T ρ) (hF : Fg (pLn T) σ u) (hb : gN u T 2 = 0 ∨ gN u T 2 = 1) : TmR u N T ρ :=
  h.of (hF.r (by unfold pLn; omega)) (hF.l (by unfold pLn; omega)) (fun j => hF.n (by unfold pLn; omega)) (fun j => hF.n (by unfold pLn; omega)) (Or.inr hb)
/-- staying on -/
def wnF (ρ : Sto) (barred : Int64) (i : Int) (bits : Int64) : Int64 := if shrL barred (i + 1) &&& 1 = 0 ∧ shrL bits i &&& 1 ≠ 0 ∧ nxt ρ i then bits ||| shlL 1 (i + 1) else bits
def wnoF (ρ : Sto) (barred bits : Int64) : Int64 := itr (wnF ρ barred) (gN ρ 155 3 - 1).toNat 0 bits
def ri0 (ρ : Sto) (s m : Int) (barred : Int64) (i : Int) (bits : Int64) : Int64 := if shrL barred i &&& 1 = 0 ∧ m ≤ gN ρ 161 i - gN ρ 155 (15 + 10 * s + gN ρ 155 (115 + 5 * i + 1)) then bits ||| shlL 1 i else bits
def ri1 (ρ : Sto) (barred bits : Int64) (i : Int) (more : Int64) : Int64 := if shrL bits i &&& 1 ≠ 0 then more ||| (gL ρ 163 i &&& (barred ^^^ (-1))) else more
def riS (ρ : Sto) (barred bits : Int64) : Int64 := wnoF ρ barred (itr (ri1 ρ barred bits) (gN ρ 155 3).toNat 0 bits)
def rid0 (ρ : Sto) (s m : Int) (barred : Int64) : Int64 := wnoF ρ barred (itr (ri0 ρ s m barred) (gN ρ 155 3).toNat 0 0)
def riddenF (ρ : Sto) (s m k : Int) (wo : Int64) : Int64 := itr (fun _ b => riS ρ (gL ρ 153 23 ||| wo) b) k.toNat 0 (rid0 ρ s m (gL ρ 153 23 ||| wo))
theorem itr_fix {α : Type} {f : α → α} {a : α} (h : f a = a) : ∀ (n : Nat) (k : Int), itr (fun _ b => f b) n k a = a
  | 0, _ => rfl
  | n + 1, k => by rw [itr_s]; show itr (fun _ b => f b) n (k + 1) (f a) = a; rw [h]; exact itr_fix h n (k + 1)
def soF (ρ : Sto) (set : Int64) (t i best : Int) : Int := if shrL set i &&& 1 ≠ 0 then (if gN ρ 162 i + gN ρ 155 (15 + 10 * gN ρ 155 (115 + 5 * i + 2) + t) < best then gN ρ 162 i + gN ρ 155 (15 + 10 * gN ρ 155 (115 + 5 * i + 2) + t) else best) else best
def soonF (ρ : Sto) (set : Int64) (s t m : Int) : Int := itr (soF ρ set t) (gN ρ 155 3).toNat 0 (if m + gN ρ 155 (15 + 10 * s + t) < 1000000 then m + gN ρ 155 (15 + 10 * s + t) else 1000000)
theorem so_rng {ρ : Sto} (hW : WV ρ) {set : Int64} {t : Int} (h0 : 0 ≤ t) (h1 : t < gN ρ 155 0) : ∀ (n : Nat) (i best : Int), 0 ≤ i → i + n ≤ gN ρ 155 3 → -1000 ≤ best → best ≤ 1000000 → -1000 ≤ itr (soF ρ set t) n i best ∧ itr (soF ρ set t) n i best ≤ 1000000
  | 0, _, _, _, _, h2, h3 => ⟨h2, h3⟩
  | n + 1, i, best, h4, h5, h2, h3 => by
    have b := hW.ride i h4 (by omega)
    have b2 := hW.walk _ t b.2.2.1.1 b.2.2.1.2 h0 h1
    have b3 := hW.tm i h4 (by omega)
    refine so_rng hW h0 h1 n (i + 1) _ (by omega) (by omega) ?_ ?_ <;> unfold soF <;> split <;> (try split) <;> omega
theorem soon_rng {ρ : Sto} (hW : WV ρ) {set : Int64} {s t m : Int} (hs0 : 0 ≤ s) (hs1 : s < gN ρ 155 0) (h0 : 0 ≤ t) (h1 : t < gN ρ 155 0) (hm : 0 ≤ m) : -1000 ≤ soonF ρ set s t m ∧ soonF ρ set s t m ≤ 1000000 := by
  have hR := hW.R
  have b := hW.walk s t hs0 hs1 h0 h1
  exact so_rng hW h0 h1 _ 0 _ (by omega) (by omega) (by split <;> omega) (by split <;> omega)
