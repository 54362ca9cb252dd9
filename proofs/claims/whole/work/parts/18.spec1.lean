/-! Rows for answers that are yes or no; what the reference's readers answer, in the store's own words. -/
section AMB
variable {M : Mth} {Q : Option Av → Sto → Prop} {pc : Nat} {ls : List (Nat × Av)} {rest : List Av} {σ : Sto}
theorem a_ifb_eq {P : Prop} {hP : Decidable P} {off : Int} {tgt : Nat} (hd : decode M.2.1 pc = .ok (.ifCond .eq off, 3)) (ht : (pc : Int) + off = (tgt : Int)) (kt : ¬ P → RunA M Q tgt ls rest σ) (kf : P → RunA M Q (pc + 3) ls rest σ) : RunA M Q pc ls (ai (if P then 1 else 0) :: rest) σ := by
  by_cases h : P
  · rw [if_pos h]
    exact a_if_eq hd ht (by unfold inR; omega) (fun q => absurd q (by decide)) (fun _ => kf h)
  · rw [if_neg h]
    exact a_if_eq hd ht inR0 (fun _ => kt h) (fun q => absurd rfl q)
theorem a_ifb_ne {P : Prop} {hP : Decidable P} {off : Int} {tgt : Nat} (hd : decode M.2.1 pc = .ok (.ifCond .ne off, 3)) (ht : (pc : Int) + off = (tgt : Int)) (kt : P → RunA M Q tgt ls rest σ) (kf : ¬ P → RunA M Q (pc + 3) ls rest σ) : RunA M Q pc ls (ai (if P then 1 else 0) :: rest) σ := by
  by_cases h : P
  · rw [if_pos h]
    exact a_if_ne hd ht (by unfold inR; omega) (fun _ => kt h) (fun q => absurd q (by decide))
  · rw [if_neg h]
    exact a_if_ne hd ht inR0 (fun q => absurd rfl q) (fun _ => kf h)
/-- a number or -1, held against -1 -/
theorem a_ifn_eq {P : Prop} {hP : Decidable P} {x : Int} {off : Int} {tgt : Nat} (hd : decode M.2.1 pc = .ok (.if_icmp .eq off, 3)) (ht : (pc : Int) + off = (tgt : Int)) (hx : P → 0 ≤ x ∧ x < 2147483648) (kt : ¬ P → RunA M Q tgt ls rest σ) (kf : P → RunA M Q (pc + 3) ls rest σ) : RunA M Q pc ls (ai (-1) :: ai (if P then x else -1) :: rest) σ := by
  by_cases h : P
  · rw [if_pos h]
    have := hx h
    exact a_icmp_eq hd ht (by unfold inR; omega) (by unfold inR; omega) (fun q => absurd q (by omega)) (fun _ => kf h)
  · rw [if_neg h]
    exact a_icmp_eq hd ht (by unfold inR; omega) (by unfold inR; omega) (fun _ => kt h) (fun q => absurd rfl q)
theorem a_ifn_ne {P : Prop} {hP : Decidable P} {x : Int} {off : Int} {tgt : Nat} (hd : decode M.2.1 pc = .ok (.if_icmp .ne off, 3)) (ht : (pc : Int) + off = (tgt : Int)) (hx : P → 0 ≤ x ∧ x < 2147483648) (kt : P → RunA M Q tgt ls rest σ) (kf : ¬ P → RunA M Q (pc + 3) ls rest σ) : RunA M Q pc ls (ai (-1) :: ai (if P then x else -1) :: rest) σ := by
  by_cases h : P
  · rw [if_pos h]
    have := hx h
    exact a_icmp_ne hd ht (by unfold inR; omega) (by unfold inR; omega) (fun _ => kt h) (fun q => absurd q (by omega))
  · rw [if_neg h]
    exact a_icmp_ne hd ht (by unfold inR; omega) (by unfold inR; omega) (fun q => absurd rfl q) (fun _ => kf h)
end AMB
/-- what the told world holds, and the delays -/
def WOK (σ : Sto) : Prop := (0 ≤ gN σ 155 3 ∧ gN σ 155 3 ≤ 60) ∧ (0 ≤ gN σ 155 0 ∧ gN σ 155 0 ≤ 10) ∧ (0 ≤ gN σ 155 2 ∧ gN σ 155 2 ≤ 20) ∧
  (∀ i : Int, 0 ≤ i → i < 60 → (0 ≤ gN σ 155 (115 + 5 * i + 0) ∧ gN σ 155 (115 + 5 * i + 0) < 20) ∧ (0 ≤ gN σ 155 (115 + 5 * i + 1) ∧ gN σ 155 (115 + 5 * i + 1) < 10) ∧ (0 ≤ gN σ 155 (115 + 5 * i + 2) ∧ gN σ 155 (115 + 5 * i + 2) < 10) ∧ (0 ≤ gN σ 155 (115 + 5 * i + 3) ∧ gN σ 155 (115 + 5 * i + 3) < 1440) ∧ (0 ≤ gN σ 155 (115 + 5 * i + 4) ∧ gN σ 155 (115 + 5 * i + 4) < 1440)) ∧
  (∀ a b : Int, 0 ≤ a → a < 10 → 0 ≤ b → b < 10 → 0 ≤ gN σ 155 (15 + 10 * a + b) ∧ gN σ 155 (15 + 10 * a + b) ≤ 1000000) ∧ (∀ a : Int, 0 ≤ a → a < 10 → 0 ≤ gN σ 155 (5 + a) ∧ gN σ 155 (5 + a) ≤ 60) ∧
  (∀ i : Int, 0 ≤ i → i < 60 → -60 ≤ gN σ 158 i ∧ gN σ 158 i ≤ 240)
/-- the times that are looked at -/
def TOK (σ : Sto) : Prop := ∀ i : Int, 0 ≤ i → i < 60 → (-1000 ≤ gN σ 161 i ∧ gN σ 161 i ≤ 4000) ∧ (-1000 ≤ gN σ 162 i ∧ gN σ 162 i ≤ 4000)
/-- all one can be on by staying on: a turn -/
def stF (σ : Sto) (i : Int) (all : Int64) : Int64 := if shrL all i &&& 1 = 1 ∧ (i + 1 < gN σ 155 3 ∧ gN σ 155 (115 + 5 * (i + 1) + 0) = gN σ 155 (115 + 5 * i + 0)) ∧ shrL (gL σ 153 23) (i + 1) &&& 1 = 0 then all ||| shlL 1 (i + 1) else all ||| 0
def staysF (σ : Sto) (set : Int64) : Int64 := itr (stF σ) (gN σ 155 3 - 1).toNat 0 set
def chF (σ : Sto) (set : Int64) (i : Int) (all : Int64) : Int64 := if shrL set i &&& 1 = 1 then all ||| gL σ 163 i else all ||| 0
def changedF (σ : Sto) (set : Int64) : Int64 := staysF σ (itr (chF σ set) (gN σ 155 3).toNat 0 0)
def lfF (σ : Sto) (s i : Int) : Int := if 1000000 ≤ gN σ 155 (15 + 10 * s + gN σ 155 (115 + 5 * i + 1)) then -1 else if shrL (gL σ 153 23) i &&& 1 = 1 then -1 else gN σ 161 i - gN σ 155 (15 + 10 * s + gN σ 155 (115 + 5 * i + 1))
def arF (σ : Sto) (set : Int64) (t i least : Int) : Int := if shrL set i &&& 1 = 1 ∧ gN σ 155 (15 + 10 * gN σ 155 (115 + 5 * i + 2) + t) < 1000000 ∧ gN σ 162 i + gN σ 155 (15 + 10 * gN σ 155 (115 + 5 * i + 2) + t) < least then gN σ 162 i + gN σ 155 (15 + 10 * gN σ 155 (115 + 5 * i + 2) + t) else least
def arrivesF (σ : Sto) (set : Int64) (t : Int) : Int := itr (arF σ set t) (gN σ 155 3).toNat 0 1000000
def e0F (σ : Sto) (s m i : Int) (set : Int64) : Int64 := if m ≤ lfF σ s i ∧ 0 ≤ lfF σ s i then set ||| shlL 1 i else set ||| 0
def e1F (σ : Sto) (t : Int) (_ : Int) (q : Int × Int64) : Int × Int64 := (if arrivesF σ q.2 t < q.1 then arrivesF σ q.2 t else q.1, changedF σ q.2)
def earliestF (σ : Sto) (s t m k : Int) : Int := (itr (e1F σ t) (k + 1).toNat 0 (if 1000000 ≤ gN σ 155 (15 + 10 * s + t) then 1000000 else m + gN σ 155 (15 + 10 * s + t), staysF σ (itr (e0F σ s m) (gN σ 155 3).toNat 0 0))).1
theorem arrives_rng {σ : Sto} (hW : WOK σ) (hT : TOK σ) {set : Int64} {t : Int} (h0 : 0 ≤ t) (h1 : t < 10) : ∀ (n : Nat) (i least : Int), 0 ≤ i → i + n ≤ 60 → -1000 ≤ least → least ≤ 1000000 → -1000 ≤ itr (arF σ set t) n i least ∧ itr (arF σ set t) n i least ≤ 1000000
  | 0, _, _, _, _, h2, h3 => ⟨h2, h3⟩
  | n + 1, i, least, h4, h5, h2, h3 => by
    have b := hW.2.2.2.1 i (by omega) (by omega)
    have b2 := hW.2.2.2.2.1 _ t b.2.2.1.1 b.2.2.1.2 h0 h1
    have b3 := hT i (by omega) (by omega)
    refine arrives_rng hW hT h0 h1 n (i + 1) _ (by omega) (by omega) ?_ ?_ <;> unfold arF <;> split <;> omega
