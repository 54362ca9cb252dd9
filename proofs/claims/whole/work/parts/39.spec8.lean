/-! How a ride unfolds, leg by leg. -/
theorem fs2_spec {p : Int → Bool} {e : Int} : ∀ (n : Nat) (k x : Int), k ≤ x → x < k + n → p x = true → k ≤ fs2 p e n k ∧ fs2 p e n k ≤ x ∧ p (fs2 p e n k) = true
  | 0, k, x, h0, h1, _ => by omega
  | n + 1, k, x, h0, h1, h => by
    unfold fs2
    by_cases hk : p k = true
    · rw [if_pos hk]
      exact ⟨Int.le_refl _, h0, hk⟩
    · rw [if_neg hk]
      have hx : k ≠ x := fun q => hk (q ▸ h)
      have := fs2_spec (e := e) n (k + 1) x (by omega) (by omega) h
      exact ⟨by omega, this.2.1, this.2.2⟩
theorem anyZ_ex {p : Int → Bool} : ∀ (n : Nat) (k : Int), anyZ p n k = true → ∃ x, k ≤ x ∧ x < k + n ∧ p x = true
  | 0, _, h => by cases h
  | n + 1, k, h => by
    unfold anyZ at h
    rcases Bool.or_eq_true_iff.mp h with h | h
    · exact ⟨k, Int.le_refl _, by omega, h⟩
    · obtain ⟨x, h0, h1, h2⟩ := anyZ_ex n (k + 1) h
      exact ⟨x, by omega, by omega, h2⟩
theorem meF_ex {σ : Sto} {e : Int → Bool} : ∀ (n : Nat) (k : Int), meF σ e n k = true → ∃ x, k ≤ x ∧ x < k + n ∧ e x = true
  | 0, _, h => by cases h
  | n + 1, k, h => by
    unfold meF at h
    rcases Bool.or_eq_true_iff.mp h with h | h
    · exact ⟨k, Int.le_refl _, by omega, h⟩
    · obtain ⟨x, h0, h1, h2⟩ := meF_ex n (k + 1) (Bool.and_eq_true_iff.mp h).2
      exact ⟨x, by omega, by omega, h2⟩
/-- where one gets off who is on ride `on` with n changes more -/
def offF (σ : Sto) (t arr : Int) (n : Nat) (on : Int) : Int := fs2 (enF σ t arr n) (-1) (gN σ 155 3 - on).toNat on
/-- which ride one is on then -/
def onF (σ : Sto) (t arr : Int) (n : Nat) (e : Int) : Int := fs2 (fun k => lkB σ e k && mtB σ t arr n k) (-1) (gN σ 155 3).toNat 0
def legsF (σ : Sto) (t arr : Int) : Nat → Int → List (Int × Int)
  | 0, on => [(on, offF σ t arr 0 on)]
  | n + 1, on => (on, offF σ t arr (n + 1) on) :: legsF σ t arr n (onF σ t arr n (offF σ t arr (n + 1) on))
theorem offF_ok {σ : Sto} {t arr : Int} {n : Nat} {on : Int} (h1 : on < gN σ 155 3) (h : mtB σ t arr n on = true) : on ≤ offF σ t arr n on ∧ offF σ t arr n on < gN σ 155 3 ∧ enF σ t arr n (offF σ t arr n on) = true := by
  obtain ⟨x, a, b, c⟩ := meF_ex _ _ h
  have := fs2_spec (e := -1) (gN σ 155 3 - on).toNat on x a b c
  exact ⟨this.1, by unfold offF; omega, this.2.2⟩
theorem onF_ok {σ : Sto} {t arr : Int} {n : Nat} {e : Int} (h : enF σ t arr (n + 1) e = true) : 0 ≤ onF σ t arr n e ∧ onF σ t arr n e < gN σ 155 3 ∧ lkB σ e (onF σ t arr n e) = true ∧ mtB σ t arr n (onF σ t arr n e) = true := by
  obtain ⟨x, a, b, c⟩ := anyZ_ex _ _ h
  have := fs2_spec (p := fun k => lkB σ e k && mtB σ t arr n k) (e := -1) (gN σ 155 3).toNat 0 x a b c
  have h2 := Bool.and_eq_true_iff.mp this.2.2
  exact ⟨this.1, by unfold onF; omega, h2.1, h2.2⟩
def RoIs (v : Sto) (P : List (Int × Int)) : Prop := ∀ (l : Nat) (q : Int × Int), P[l]? = some q → gN v 170 l = q.1 ∧ gN v 171 l = q.2
abbrev pUn (c : Nat) (_ : Int) : Prop := c = 168 ∨ c = 169 ∨ c = 170 ∨ c = 171
abbrev pRo (c : Nat) (_ : Int) : Prop := c = 170 ∨ c = 171
theorem pUn_Rd {σ τ : Sto} (h : Fr pUn σ τ) : Rd σ τ := h.Rd (fun c j q => by unfold pUn at q; omega)
theorem pUn_Cd {σ τ : Sto} {L : List Cd} (h : Fr pUn σ τ) (hC : CdIs σ L) : CdIs τ L := hC.of (h.1 153 28 (by unfold pUn; omega)) (fun j => h.1 164 j (by unfold pUn; omega)) (fun j => h.1 165 j (by unfold pUn; omega)) (fun j => h.1 166 j (by unfold pUn; omega))
theorem pUn_Kp {σ τ : Sto} {K : List Int} (h : Fr pUn σ τ) (hK : KpIs σ K) : KpIs τ K := ⟨(h.1 153 30 (by unfold pUn; omega)).trans hK.1, fun k x hk => (h.1 167 k (by unfold pUn; omega)).trans (hK.2 k x hk)⟩
/-- what laysMeets laid stands -/
def MeA (σ τ : Sto) (t arr : Int) : Prop := ∀ (n : Nat) (k : Int), 0 ≤ k → k < gN σ 155 3 → n < 5 → gN τ 169 (60 * n + k) = b2i (enF σ t arr n k) ∧ gN τ 168 (60 * n + k) = b2i (mtB σ t arr n k)
theorem RoIs.push {v : Sto} {P : List (Int × Int)} {x y : Int} (h : RoIs v P) (hx : inR x) (hy : inR y) : RoIs (sN (sN v 170 P.length x) 171 P.length y) (P ++ [(x, y)]) := by
  intro l q hl
  rcases Nat.lt_or_ge l P.length with z | z
  · rw [List.getElem?_append_left z] at hl
    have := h l q hl
    simp only [gN_sN]
    rw [if_neg (by omega), if_neg (by omega), if_neg (by omega), if_neg (by omega)]
    exact this
  · rw [List.getElem?_append_right z] at hl
    have hl0 : l - P.length = 0 := by
      rcases Nat.eq_zero_or_pos (l - P.length) with e | e
      · exact e
      · rw [List.getElem?_eq_none (by simp; omega)] at hl
        cases hl
    rw [hl0] at hl
    cases hl
    have e : l = P.length := by omega
    subst e
    simp [gN_sN, nrm_of hx, nrm_of hy]
theorem MeA.put {σ τ : Sto} {t arr j v : Int} {c : Nat} (h : MeA σ τ t arr) (hc : c = 170 ∨ c = 171) : MeA σ (sN τ c j v) t arr := fun n k q0 q1 q2 => by
  rw [gN_sN, if_neg (by omega), gN_sN, if_neg (by omega)]
  exact h n k q0 q1 q2
theorem fs2_no {p : Int → Bool} {e : Int} {n : Nat} {k : Int} (h : p k = false) : fs2 p e (n + 1) k = fs2 p e n (k + 1) := by
  show (if p k = true then k else fs2 p e n (k + 1)) = _
  rw [if_neg (by rw [h]; decide)]
theorem fs2_yes {p : Int → Bool} {e : Int} {n : Nat} {k : Int} (h : p k = true) : fs2 p e (n + 1) k = k := if_pos h
theorem lt_of_no {p : Int → Bool} {k x : Int} (h : p k = false) (hx : p x = true) (hk : k ≤ x) : k + 1 ≤ x := by
  rcases Int.lt_or_le k x with q | q
  · omega
  · exact absurd (show p k = true from (show x = k by omega) ▸ hx) (by rw [h]; decide)
