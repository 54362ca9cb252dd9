/-! What a call leaves as it was; what is looked at. -/
def Fr (p : Nat → Int → Prop) (σ u : Sto) : Prop := (∀ c j, ¬ p c j → gN u c j = gN σ c j) ∧ (∀ c j, ¬ p c j → gL u c j = gL σ c j) ∧ ∀ c j, gR u c j = gR σ c j
theorem Fr.rfl {p : Nat → Int → Prop} {σ : Sto} : Fr p σ σ := ⟨fun _ _ _ => by rfl, fun _ _ _ => by rfl, fun _ _ => by rfl⟩
theorem Fr.trans {p : Nat → Int → Prop} {σ u v : Sto} (h : Fr p σ u) (k : Fr p u v) : Fr p σ v := ⟨fun c j q => (k.1 c j q).trans (h.1 c j q), fun c j q => (k.2.1 c j q).trans (h.2.1 c j q), fun c j => (k.2.2 c j).trans (h.2.2 c j)⟩
theorem Fr.mono {p q : Nat → Int → Prop} {σ u : Sto} (h : Fr p σ u) (hp : ∀ c j, p c j → q c j) : Fr q σ u := ⟨fun c j z => h.1 c j (fun y => z (hp c j y)), fun c j z => h.2.1 c j (fun y => z (hp c j y)), h.2.2⟩
theorem Fr.sN {p : Nat → Int → Prop} {σ u : Sto} {c : Nat} {j v : Int} (h : Fr p σ u) (hp : p c j) : Fr p σ (sN u c j v) :=
  ⟨fun d i q => by rw [gN_sN, if_neg (show ¬ (d = c ∧ i = j) from fun z => q (by rw [z.1, z.2]; exact hp))]; exact h.1 d i q, fun d i q => by rw [gL_sN]; exact h.2.1 d i q, fun d i => by rw [gR_sN]; exact h.2.2 d i⟩
theorem Fr.sL {p : Nat → Int → Prop} {σ u : Sto} {c : Nat} {j : Int} {v : Int64} (h : Fr p σ u) (hp : p c j) : Fr p σ (sL u c j v) :=
  ⟨fun d i q => by rw [gN_sL]; exact h.1 d i q, fun d i q => by rw [gL_sL, if_neg (show ¬ (d = c ∧ i = j) from fun z => q (by rw [z.1, z.2]; exact hp))]; exact h.2.1 d i q, fun d i => by rw [gR_sL]; exact h.2.2 d i⟩
theorem WOK.of {σ u : Sto} (h : WOK σ) (h1 : ∀ j, gN u 155 j = gN σ 155 j) (h2 : ∀ j, gN u 158 j = gN σ 158 j) : WOK u := by
  unfold WOK
  simp only [h1, h2]
  exact h
theorem arrivesF_rng {σ : Sto} (hW : WOK σ) (hT : TOK σ) {set : Int64} {t : Int} (h0 : 0 ≤ t) (h1 : t < 10) : -1000 ≤ arrivesF σ set t ∧ arrivesF σ set t ≤ 1000000 :=
  arrives_rng hW hT h0 h1 _ 0 1000000 (by omega) (by have := hW.1; omega) (by omega) (by omega)
theorem lfF_rng {σ : Sto} (hW : WOK σ) (hT : TOK σ) {s i : Int} (h0 : 0 ≤ s) (h1 : s < 10) (h2 : 0 ≤ i) (h3 : i < 60) : -1001000 ≤ lfF σ s i ∧ lfF σ s i ≤ 4000 := by
  have b := hW.2.2.2.1 i h2 h3
  have b2 := hW.2.2.2.2.1 s _ h0 h1 b.2.1.1 b.2.1.2
  have b3 := hT i h2 h3
  unfold lfF
  split
  · omega
  · split <;> omega
def btw (σ : Sto) (i k : Int) : Int := if gN σ 155 (115 + 5 * i + 2) = gN σ 155 (115 + 5 * k + 1) then gN σ 155 (5 + gN σ 155 (115 + 5 * i + 2)) else gN σ 155 (15 + 10 * gN σ 155 (115 + 5 * i + 2) + gN σ 155 (115 + 5 * k + 1))
theorem btw_rng {σ : Sto} (hW : WOK σ) {i k : Int} (h0 : 0 ≤ i) (h1 : i < 60) (h2 : 0 ≤ k) (h3 : k < 60) : 0 ≤ btw σ i k ∧ btw σ i k ≤ 1000000 := by
  have b := hW.2.2.2.1 i h0 h1
  have b1 := hW.2.2.2.1 k h2 h3
  have b2 := hW.2.2.2.2.1 _ _ b.2.2.1.1 b.2.2.1.2 b1.2.1.1 b1.2.1.2
  have b3 := hW.2.2.2.2.2.1 _ b.2.2.1.1 b.2.2.1.2
  unfold btw
  split <;> omega
def lkL (σ : Sto) (trip later i : Int) : Int := gN σ 155 (115 + 5 * i + 3) + (gN σ 158 i + if gN σ 155 (115 + 5 * i + 0) = trip then later else 0)
def lkC (σ : Sto) (trip later i : Int) : Int := gN σ 155 (115 + 5 * i + 4) + (gN σ 158 i + if gN σ 155 (115 + 5 * i + 0) = trip then later else 0)
def lkOf (σ : Sto) (trip gone i : Int) (o : Int64) : Int64 := if gone ≠ 0 ∧ gN σ 155 (115 + 5 * i + 0) = trip then o ||| shlL 1 i else o
def lkHf (σ : Sto) (lv cm : Int → Int) (out : Int64) (i k : Int) (c : Int64) : Int64 := if shrL out k &&& 1 = 0 ∧ btw σ i k ≤ lv k - cm i then c ||| shlL 1 k else c
def lkO (σ : Sto) (trip gone : Int) : Int64 := itr (lkOf σ trip gone) (gN σ 155 3).toNat 0 (gL σ 153 17)
def lkH (σ : Sto) (trip later gone i : Int) : Int64 := itr (lkHf σ (lkL σ trip later) (lkC σ trip later) (lkO σ trip gone) i) (gN σ 155 3).toNat 0 0
abbrev pLk (c : Nat) (j : Int) : Prop := c = 161 ∨ c = 162 ∨ c = 163 ∨ (c = 153 ∧ j = 23)
def Lkd (σ u : Sto) (trip later gone : Int) : Prop := Fr pLk σ u ∧ TOK u ∧ (∀ i : Int, 0 ≤ i → i < gN σ 155 3 → gN u 161 i = lkL σ trip later i ∧ gN u 162 i = lkC σ trip later i ∧ gL u 163 i = lkH σ trip later gone i) ∧ gL u 153 23 = lkO σ trip gone
theorem lkL_rng {σ : Sto} (hW : WOK σ) {trip later i : Int} (h0 : 0 ≤ i) (h1 : i < 60) (h2 : -60 ≤ later) (h3 : later ≤ 240) : -120 ≤ lkL σ trip later i ∧ lkL σ trip later i ≤ 1920 ∧ -120 ≤ lkC σ trip later i ∧ lkC σ trip later i ≤ 1920 := by
  have b := hW.2.2.2.1 i h0 h1
  have b1 := hW.2.2.2.2.2.2 i h0 h1
  unfold lkL lkC
  split <;> omega
/-- n turns more on the right -/
theorem itr_end {α : Type} {f : Int → α → α} : ∀ (n : Nat) (k : Int) (a : α), itr f (n + 1) k a = f (k + n) (itr f n k a)
  | 0, k, a => by simp [itr]
  | n + 1, k, a => by
    rw [itr_s, itr_end n (k + 1) (f k a), itr_s]
    congr 1
    omega
theorem itr_to {α : Type} {f : Int → α → α} {i : Int} (h : 0 ≤ i) (a : α) : itr f (i + 1).toNat 0 a = f i (itr f i.toNat 0 a) := by
  rw [show (i + 1).toNat = i.toNat + 1 by omega, itr_end]
  congr 1
  omega
