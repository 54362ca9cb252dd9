/-! Stores that the readers can't tell apart; candidates; the profile. -/
def Rd (σ τ : Sto) : Prop := (∀ j, gN τ 155 j = gN σ 155 j) ∧ (∀ j, gN τ 158 j = gN σ 158 j) ∧ (∀ j, gN τ 161 j = gN σ 161 j) ∧ (∀ j, gN τ 162 j = gN σ 162 j) ∧ (∀ j, gL τ 163 j = gL σ 163 j) ∧ gL τ 153 23 = gL σ 153 23 ∧ gL τ 153 17 = gL σ 153 17
theorem Rd.rfl {σ : Sto} : Rd σ σ := ⟨fun _ => by rfl, fun _ => by rfl, fun _ => by rfl, fun _ => by rfl, fun _ => by rfl, by rfl, by rfl⟩
theorem Rd.trans {σ τ υ : Sto} (h : Rd σ τ) (k : Rd τ υ) : Rd σ υ := ⟨fun j => (k.1 j).trans (h.1 j), fun j => (k.2.1 j).trans (h.2.1 j), fun j => (k.2.2.1 j).trans (h.2.2.1 j), fun j => (k.2.2.2.1 j).trans (h.2.2.2.1 j), fun j => (k.2.2.2.2.1 j).trans (h.2.2.2.2.1 j), k.2.2.2.2.2.1.trans h.2.2.2.2.2.1, k.2.2.2.2.2.2.trans h.2.2.2.2.2.2⟩
theorem Rd.W {σ τ : Sto} (h : Rd σ τ) (hW : WOK σ) : WOK τ := hW.of h.1 h.2.1
theorem Rd.T {σ τ : Sto} (h : Rd σ τ) (hT : TOK σ) : TOK τ := fun i h0 h1 => by rw [h.2.2.1, h.2.2.2.1]; exact hT i h0 h1
theorem Rd.lf {σ τ : Sto} (h : Rd σ τ) (s i : Int) : lfF τ s i = lfF σ s i := by unfold lfF; simp only [h.1, h.2.2.1, h.2.2.2.2.2.1]
theorem Rd.stays {σ τ : Sto} (h : Rd σ τ) (x : Int64) : staysF τ x = staysF σ x := by
  have e : stF τ = stF σ := by funext i a; unfold stF; simp only [h.1, h.2.2.2.2.2.1]
  unfold staysF; rw [e, h.1]
theorem Rd.changed {σ τ : Sto} (h : Rd σ τ) (x : Int64) : changedF τ x = changedF σ x := by
  have e : chF τ x = chF σ x := by funext i a; unfold chF; simp only [h.2.2.2.2.1]
  unfold changedF; rw [h.stays, e, h.1]
theorem Rd.arrives {σ τ : Sto} (h : Rd σ τ) (x : Int64) (t : Int) : arrivesF τ x t = arrivesF σ x t := by
  have e : arF τ x t = arF σ x t := by funext i a; unfold arF; simp only [h.1, h.2.2.2.1]
  unfold arrivesF; rw [e, h.1]
theorem Rd.btw {σ τ : Sto} (h : Rd σ τ) (i k : Int) : btw τ i k = btw σ i k := btw_eq h.1 i k
theorem Rd.earliest {σ τ : Sto} (h : Rd σ τ) (s t m k : Int) : earliestF τ s t m k = earliestF σ s t m k := by
  have e : e1F τ t = e1F σ t := by funext i q; unfold e1F; simp only [h.arrives, h.changed]
  have e2 : e0F τ s m = e0F σ s m := by funext i q; unfold e0F; simp only [h.lf]
  unfold earliestF; rw [e, e2, h.1, h.1, h.stays]
theorem Fr.Rd {p : Nat → Int → Prop} {σ τ : Sto} (h : Fr p σ τ) (h1 : ∀ c j, p c j → c ≠ 155 ∧ c ≠ 158 ∧ c ≠ 161 ∧ c ≠ 162 ∧ c ≠ 163 ∧ (c = 153 → j ≠ 23 ∧ j ≠ 17)) : Rd σ τ :=
  ⟨fun j => h.1 155 j (fun q => (h1 _ _ q).1 (by rfl)), fun j => h.1 158 j (fun q => (h1 _ _ q).2.1 (by rfl)), fun j => h.1 161 j (fun q => (h1 _ _ q).2.2.1 (by rfl)), fun j => h.1 162 j (fun q => (h1 _ _ q).2.2.2.1 (by rfl)), fun j => h.2.1 163 j (fun q => (h1 _ _ q).2.2.2.2.1 (by rfl)), h.2.1 153 23 (fun q => ((h1 _ _ q).2.2.2.2.2 (by rfl)).1 (by rfl)), h.2.1 153 17 (fun q => ((h1 _ _ q).2.2.2.2.2 (by rfl)).2 (by rfl))⟩
abbrev Cd : Type := Int × Int × Int
/-- the candidates that begin with ride i, one for each number of changes -/
def cdF (σ : Sto) (t dep n : Int) (q : List Cd × Int64) : List Cd × Int64 := (if arrivesF σ q.2 t < 1000000 then q.1 ++ [(dep, arrivesF σ q.2 t, n)] else q.1, changedF σ q.2)
def caF (σ : Sto) (s t i : Int) (L : List Cd) : List Cd := if lfF σ s i < 0 then L else (itr (cdF σ t (lfF σ s i)) 5 0 (L, staysF σ (shlL 1 i))).1
def candL (σ : Sto) (s t : Int) : List Cd := itr (caF σ s t) (gN σ 155 3).toNat 0 []
/-- the arrays hold these candidates -/
def CdIs (u : Sto) (L : List Cd) : Prop := gN u 153 28 = L.length ∧ ∀ (k : Nat) (q : Cd), L[k]? = some q → gN u 164 k = q.1 ∧ gN u 165 k = q.2.1 ∧ gN u 166 k = q.2.2
abbrev pCa (c : Nat) (j : Int) : Prop := c = 164 ∨ c = 165 ∨ c = 166 ∨ (c = 153 ∧ j = 28)
theorem pCa_Rd {σ τ : Sto} (h : Fr pCa σ τ) : Rd σ τ := h.Rd (fun c j q => by unfold pCa at q; omega)
theorem CdIs.push {u : Sto} {L : List Cd} {d a n : Int} (h : CdIs u L) (hl : (L.length : Int) < 300) (hd : inR d) (ha : inR a) (hn : inR n) : CdIs (sN (sN (sN (sN u 164 (gN u 153 28) d) 165 (gN u 153 28) a) 166 (gN u 153 28) n) 153 28 (gN u 153 28 + 1)) (L ++ [(d, a, n)]) := by
  refine ⟨?_, fun k q hk => ?_⟩
  · rw [gN_sN, if_pos ⟨rfl, rfl⟩, h.1, nrm_of (inR_of (by omega) (by omega))]
    simp
  · have hL := h.1
    rcases Nat.lt_or_ge k L.length with z | z
    · rw [List.getElem?_append_left z] at hk
      have := h.2 k q hk
      simp only [gN_sN, hL]
      rw [if_neg (by omega), if_neg (by omega), if_neg (by omega), if_neg (by omega), if_neg (by omega), if_neg (by omega), if_neg (by omega), if_neg (by omega), if_neg (by omega), if_neg (by omega), if_neg (by omega), if_neg (by omega)]
      exact this
    · rw [List.getElem?_append_right z] at hk
      have hk0 : k - L.length = 0 := by
        rcases Nat.eq_zero_or_pos (k - L.length) with e | e
        · exact e
        · rw [List.getElem?_eq_none (by simp; omega)] at hk
          cases hk
      rw [hk0] at hk
      cases hk
      have hk1 : (k : Int) = (L.length : Int) := by omega
      simp [gN_sN, hL, hk1, nrm_of hd, nrm_of ha, nrm_of hn]
theorem cd_len {σ : Sto} {t dep : Int} : ∀ (n : Nat) (i : Int) (q : List Cd × Int64), ((itr (cdF σ t dep) n i q).1.length : Int) ≤ q.1.length + n
  | 0, _, _ => by simp [itr]
  | n + 1, i, q => by
    have := cd_len (σ := σ) (t := t) (dep := dep) n (i + 1) (cdF σ t dep i q)
    rw [itr_s]
    have e : ((cdF σ t dep i q).1.length : Int) ≤ q.1.length + 1 := by
      unfold cdF
      split
      · simp
      · simp; omega
    omega
