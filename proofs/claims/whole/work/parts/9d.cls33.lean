/-! Walks that hang together: the class's and the reference's. -/
def mnY (w : Int → Int) (y a b : Int) : Int := if w (15 + 10 * a + y) + w (15 + 10 * y + b) < w (15 + 10 * a + b) then w (15 + 10 * a + y) + w (15 + 10 * y + b) else w (15 + 10 * a + b)
/-- a stage: cells of the first m stops -/
def clG (m : Nat) (y : Int) (w : Int → Int) : Int → Int := itr (fun a w => itr (clB y a) m 0 w) m 0 w
theorem clO_G (y : Int) (w : Int → Int) : clO y w = clG 10 y w := rfl
theorem cjA_G (m : Nat) (y : Int) (w : Int → Int) : cjA m y w = clG m y w := rfl
/-- what is done of a stage: rows below a, of row a the cells below b -/
def StI (w w' : Int → Int) (y m a b : Int) : Prop := (∀ x z : Int, 0 ≤ x → x < 10 → 0 ≤ z → z < 10 → w' (15 + 10 * x + z) = if (x < a ∧ z < m) ∨ (x = a ∧ z < b) then mnY w y x z else w (15 + 10 * x + z)) ∧ ∀ j : Int, j < 15 ∨ 115 ≤ j → w' j = w j
theorem mnY_col {w : Int → Int} {y a : Int} (h0 : w (15 + 10 * y + y) = 0) : mnY w y a y = w (15 + 10 * a + y) := by
  unfold mnY
  rw [h0, if_neg (by omega)]
theorem mnY_row {w : Int → Int} {y b : Int} (h0 : w (15 + 10 * y + y) = 0) : mnY w y y b = w (15 + 10 * y + b) := by
  unfold mnY
  rw [h0, if_neg (by omega)]
theorem StI.b {w w' : Int → Int} {y m a b : Int} (hy0 : 0 ≤ y) (hy1 : y < 10) (hz : w (15 + 10 * y + y) = 0) (ha0 : 0 ≤ a) (ha1 : a < m) (hb0 : 0 ≤ b) (hb1 : b < m) (hm : m ≤ 10) (h : StI w w' y m a b) : StI w (clB y a b w') y m a (b + 1) := by
  have e1 : w' (15 + 10 * a + y) = w (15 + 10 * a + y) := by
    rw [h.1 a y ha0 (by omega) hy0 hy1]
    split
    · exact mnY_col hz
    · rfl
  have e2 : w' (15 + 10 * y + b) = w (15 + 10 * y + b) := by
    rw [h.1 y b hy0 hy1 hb0 (by omega)]
    split
    · exact mnY_row hz
    · rfl
  have e3 : w' (15 + 10 * a + b) = w (15 + 10 * a + b) := by
    rw [h.1 a b ha0 (by omega) hb0 (by omega), if_neg (by omega)]
  refine ⟨fun x z x0 x1 z0 z1 => ?_, fun j hj => ?_⟩
  · unfold clB
    by_cases e : x = a ∧ z = b
    · rw [e.1, e.2, e1, e2, e3, if_pos (show (a < a ∧ b < m) ∨ (a = a ∧ b < b + 1) from Or.inr ⟨rfl, by omega⟩)]
      unfold mnY
      by_cases c : w (15 + 10 * a + y) + w (15 + 10 * y + b) < w (15 + 10 * a + b)
      · rw [if_pos ⟨rfl, c⟩, if_pos c]
      · rw [if_neg (fun q => c q.2), if_neg c]
    · rw [if_neg (by omega), h.1 x z x0 x1 z0 z1]
      by_cases c : (x < a ∧ z < m) ∨ (x = a ∧ z < b)
      · rw [if_pos c, if_pos (by omega)]
      · rw [if_neg c, if_neg (by omega)]
  · unfold clB
    rw [if_neg (by omega)]
    exact h.2 j hj
theorem StI.bs {w : Int → Int} {y m a : Int} (hy0 : 0 ≤ y) (hy1 : y < 10) (hz : w (15 + 10 * y + y) = 0) (ha0 : 0 ≤ a) (ha1 : a < m) (hm : m ≤ 10) : ∀ (n : Nat) (b : Int) (w' : Int → Int), 0 ≤ b → b + n ≤ m → StI w w' y m a b → StI w (itr (clB y a) n b w') y m a (b + n)
  | 0, b, w', _, _, h => by rw [show b + ((0 : Nat) : Int) = b by omega]; exact h
  | n + 1, b, w', h0, h1, h => by
    rw [itr_s, show b + ((n + 1 : Nat) : Int) = b + 1 + n by omega]
    exact StI.bs hy0 hy1 hz ha0 ha1 hm n (b + 1) _ (by omega) (by omega) (h.b hy0 hy1 hz ha0 ha1 h0 (by omega) hm)
theorem StI.as {w : Int → Int} {y : Int} {m : Nat} (hy0 : 0 ≤ y) (hy1 : y < 10) (hz : w (15 + 10 * y + y) = 0) (hm : (m : Int) ≤ 10) : ∀ (n : Nat) (a : Int) (w' : Int → Int), 0 ≤ a → a + n ≤ m → StI w w' y m a 0 → StI w (itr (fun a w => itr (clB y a) m 0 w) n a w') y m (a + n) 0
  | 0, a, w', _, _, h => by rw [show a + ((0 : Nat) : Int) = a by omega]; exact h
  | n + 1, a, w', h0, h1, h => by
    rw [itr_s, show a + ((n + 1 : Nat) : Int) = a + 1 + n by omega]
    have z := h.bs hy0 hy1 hz h0 (by omega) hm m 0 w' (by omega) (by omega)
    refine StI.as hy0 hy1 hz hm n (a + 1) _ (by omega) (by omega) ⟨fun x c x0 x1 c0 c1 => ?_, z.2⟩
    rw [z.1 x c x0 x1 c0 c1]
    by_cases e : (x < a ∧ c < (m : Int)) ∨ (x = a ∧ c < 0 + (m : Int))
    · rw [if_pos e, if_pos (by omega)]
    · rw [if_neg e, if_neg (by omega)]
theorem clG_at {w : Int → Int} {y : Int} {m : Nat} (hy0 : 0 ≤ y) (hy1 : y < 10) (hz : w (15 + 10 * y + y) = 0) (hm : (m : Int) ≤ 10) : (∀ x z : Int, 0 ≤ x → x < 10 → 0 ≤ z → z < 10 → clG m y w (15 + 10 * x + z) = if x < m ∧ z < m then mnY w y x z else w (15 + 10 * x + z)) ∧ ∀ j : Int, j < 15 ∨ 115 ≤ j → clG m y w j = w j := by
  have z := StI.as hy0 hy1 hz hm m 0 w (by omega) (by omega) ⟨fun x z x0 x1 z0 z1 => by rw [if_neg (by omega)], fun j _ => rfl⟩
  refine ⟨fun x c x0 x1 c0 c1 => ?_, z.2⟩
  have y1 := z.1 x c x0 x1 c0 c1
  unfold clG
  rw [y1]
  by_cases e : x < (m : Int) ∧ c < (m : Int)
  · rw [if_pos e, if_pos (by omega)]
  · rw [if_neg e, if_neg (by omega)]
/-- walks among the first S stops, each at most B or none -/
def Wp (w : Int → Int) (S B : Int) : Prop := ∀ a b : Int, 0 ≤ a → a < 10 → 0 ≤ b → b < 10 → (a = b → w (15 + 10 * a + b) = 0) ∧ (a ≠ b → w (15 + 10 * a + b) = 1000000 ∨ (0 ≤ w (15 + 10 * a + b) ∧ w (15 + 10 * a + b) ≤ B ∧ a < S ∧ b < S))
theorem Wp.rng {w : Int → Int} {S B : Int} (h : Wp w S B) (hB : B ≤ 1000000) {a b : Int} (a0 : 0 ≤ a) (a1 : a < 10) (b0 : 0 ≤ b) (b1 : b < 10) : 0 ≤ w (15 + 10 * a + b) ∧ w (15 + 10 * a + b) ≤ 1000000 := by
  have z := h a b a0 a1 b0 b1
  by_cases e : a = b
  · have := z.1 e; omega
  · have := z.2 e; omega
theorem Wp.st {w : Int → Int} {S B y : Int} (h : Wp w S B) (hB0 : 0 ≤ B) (hB : B ≤ 500000) (hy0 : 0 ≤ y) (hy1 : y < 10) : Wp (clG 10 y w) S (2 * B) := by
  intro a b a0 a1 b0 b1
  have hz := (h y y hy0 hy1 hy0 hy1).1 rfl
  rw [(clG_at hy0 hy1 hz (by decide : ((10 : Nat) : Int) ≤ 10)).1 a b a0 a1 b0 b1, if_pos ⟨by omega, by omega⟩]
  have hab := h a b a0 a1 b0 b1
  have hay := h a y a0 a1 hy0 hy1
  have hyb := h y b hy0 hy1 b0 b1
  have ray := h.rng (by omega) a0 a1 hy0 hy1
  have ryb := h.rng (by omega) hy0 hy1 b0 b1
  unfold mnY
  refine ⟨fun e => ?_, fun e => ?_⟩
  · have := hab.1 e
    rw [if_neg (by omega)]
    exact this
  · have z := hab.2 e
    split
    · right
      by_cases e1 : a = y
      · have := hay.1 e1
        have := hyb.2 (by omega)
        omega
      · by_cases e2 : y = b
        · have := hyb.1 e2
          have := hay.2 e1
          omega
        · have := hay.2 e1
          have := hyb.2 e2
          omega
    · rcases z with z | z
      · exact Or.inl z
      · exact Or.inr ⟨z.1, by omega, z.2.2⟩
/-- stages: the class's, of the first S stops alone, and the reference's -/
theorem cl_same {w u : Int → Int} {S : Nat} {B y : Int} (hS : (S : Int) ≤ 10) (h : Wp w S B) (hB0 : 0 ≤ B) (hB : B ≤ 500000) (hy0 : 0 ≤ y) (hy1 : y < 10) (hu : ∀ a b : Int, 0 ≤ a → a < 10 → 0 ≤ b → b < 10 → u (15 + 10 * a + b) = w (15 + 10 * a + b)) : (y < S → ∀ a b : Int, 0 ≤ a → a < 10 → 0 ≤ b → b < 10 → clG S y u (15 + 10 * a + b) = clG 10 y w (15 + 10 * a + b)) ∧ ((S : Int) ≤ y → ∀ a b : Int, 0 ≤ a → a < 10 → 0 ≤ b → b < 10 → clG 10 y w (15 + 10 * a + b) = w (15 + 10 * a + b)) := by
  have hz := (h y y hy0 hy1 hy0 hy1).1 rfl
  have hzu : u (15 + 10 * y + y) = 0 := by rw [hu y y hy0 hy1 hy0 hy1]; exact hz
  have fw := (clG_at hy0 hy1 hz (by decide : ((10 : Nat) : Int) ≤ 10)).1
  have fu := (clG_at hy0 hy1 hzu hS).1
  refine ⟨fun hys a b a0 a1 b0 b1 => ?_, fun hys a b a0 a1 b0 b1 => ?_⟩
  · rw [fw a b a0 a1 b0 b1, fu a b a0 a1 b0 b1, if_pos (show a < ((10 : Nat) : Int) ∧ b < ((10 : Nat) : Int) from ⟨by omega, by omega⟩)]
    have rab := h.rng (by omega) a0 a1 b0 b1
    have ray := h.rng (by omega) a0 a1 hy0 hy1
    have ryb := h.rng (by omega) hy0 hy1 b0 b1
    by_cases e : a < (S : Int) ∧ b < (S : Int)
    · rw [if_pos e]
      unfold mnY
      rw [hu a y a0 a1 hy0 hy1, hu y b hy0 hy1 b0 b1, hu a b a0 a1 b0 b1]
    · rw [if_neg e, hu a b a0 a1 b0 b1]
      unfold mnY
      by_cases ea : a < (S : Int)
      · have := (h y b hy0 hy1 b0 b1).2 (by omega)
        rw [if_neg (by omega)]
      · have := (h a y a0 a1 hy0 hy1).2 (by omega)
        rw [if_neg (by omega)]
  · rw [fw a b a0 a1 b0 b1, if_pos (show a < ((10 : Nat) : Int) ∧ b < ((10 : Nat) : Int) from ⟨by omega, by omega⟩)]
    have rab := h.rng (by omega) a0 a1 b0 b1
    have ryb := h.rng (by omega) hy0 hy1 b0 b1
    unfold mnY
    by_cases ea : a = y
    · rw [ea, hz, if_neg (by omega)]
    · have := (h a y a0 a1 hy0 hy1).2 ea
      rw [if_neg (by omega)]
theorem two_pow_le {n : Nat} (h : n ≤ 10) : (2 : Int) ^ n ≤ 1024 := by
  have : ∀ k : Fin 11, (2 : Int) ^ (k : Nat) ≤ 1024 := by decide
  exact this ⟨n, by omega⟩
theorem two_pow_pos (n : Nat) : (1 : Int) ≤ 2 ^ n := by
  induction n with
  | zero => decide
  | succ n ih => rw [Int.pow_succ]; omega
theorem close_st {S : Nat} (hS : (S : Int) ≤ 10) : ∀ (n : Nat) (y : Nat) (w u : Int → Int), y + n = 10 → Wp w S (240 * 2 ^ y) → (∀ a b : Int, 0 ≤ a → a < 10 → 0 ≤ b → b < 10 → u (15 + 10 * a + b) = w (15 + 10 * a + b)) → Wp (itr clO n (y : Int) w) S 245760 ∧ (∀ a b : Int, 0 ≤ a → a < 10 → 0 ≤ b → b < 10 → itr (cjA S) (S - y) (y : Int) u (15 + 10 * a + b) = itr clO n (y : Int) w (15 + 10 * a + b)) ∧ ∀ j : Int, j < 15 ∨ 115 ≤ j → itr clO n (y : Int) w j = w j
  | 0, y, w, u, hy, hw, hu => by
    have e : y = 10 := by omega
    subst e
    refine ⟨hw, fun a b a0 a1 b0 b1 => ?_, fun j _ => rfl⟩
    rw [show S - 10 = 0 by omega]
    exact hu a b a0 a1 b0 b1
  | n + 1, y, w, u, hy, hw, hu => by
    have p1 := two_pow_le (n := y) (by omega)
    have p0 := two_pow_pos y
    have c := cl_same (y := (y : Int)) hS hw (by omega) (by omega) (by omega) (by omega) hu
    have hz := (hw (y : Int) y (by omega) (by omega) (by omega) (by omega)).1 rfl
    have g := (clG_at (w := w) (y := (y : Int)) (by omega) (by omega) hz (by decide : ((10 : Nat) : Int) ≤ 10)).2
    have hw2 : Wp (clG 10 (y : Int) w) S (240 * 2 ^ (y + 1)) := by
      have z := hw.st (y := (y : Int)) (by omega) (by omega) (by omega) (by omega)
      rw [Int.pow_succ]
      rw [show (240 : Int) * ((2 : Int) ^ y * 2) = 2 * (240 * (2 : Int) ^ y) by omega]
      exact z
    rw [itr_s, clO_G]
    by_cases e : y < S
    · have ih := close_st hS n (y + 1) (clG 10 (y : Int) w) (clG S (y : Int) u) (by omega) hw2 (c.1 (by omega))
      rw [show ((y + 1 : Nat) : Int) = (y : Int) + 1 by omega] at ih
      refine ⟨ih.1, fun a b a0 a1 b0 b1 => ?_, fun j hj => (ih.2.2 j hj).trans (g j hj)⟩
      rw [show S - y = (S - (y + 1)) + 1 by omega, itr_s, cjA_G]
      exact ih.2.1 a b a0 a1 b0 b1
    · have ih := close_st hS n (y + 1) (clG 10 (y : Int) w) u (by omega) hw2 (fun a b a0 a1 b0 b1 => by rw [c.2 (by omega) a b a0 a1 b0 b1]; exact hu a b a0 a1 b0 b1)
      rw [show ((y + 1 : Nat) : Int) = (y : Int) + 1 by omega] at ih
      refine ⟨ih.1, fun a b a0 a1 b0 b1 => ?_, fun j hj => (ih.2.2 j hj).trans (g j hj)⟩
      rw [show S - y = 0 by omega]
      rw [show S - (y + 1) = 0 by omega] at ih
      exact ih.2.1 a b a0 a1 b0 b1
theorem close_all {S : Nat} {w : Int → Int} (hS : (S : Int) ≤ 10) (h : Wp w S 240) : Wp (closeF w) S 245760 ∧ (∀ a b : Int, 0 ≤ a → a < 10 → 0 ≤ b → b < 10 → cjF S w (15 + 10 * a + b) = closeF w (15 + 10 * a + b)) ∧ ∀ j : Int, j < 15 ∨ 115 ≤ j → closeF w j = w j := by
  have z := close_st hS 10 0 w w (by omega) (by rw [show (240 : Int) * 2 ^ 0 = 240 by decide]; exact h) (fun _ _ _ _ _ _ => rfl)
  exact z

