/-! Without a fault nothing was wrong. -/
theorem wr_f {k : Int} {q : RS} : (wrongF k q).f = q.f := by unfold wrongF; split <;> rfl
theorem wr_nm {k : Int} {q : RS} : (wrongF k q).nm = q.nm := by unfold wrongF; split <;> rfl
theorem wr_tk {k : Int} {q : RS} : (wrongF k q).tk = q.tk := by unfold wrongF; split <;> rfl
theorem wr0 {k : Int} {q : RS} (hk : k ≠ 0) : (wrongF k q).fa ≠ 0 := by
  unfold wrongF
  split
  · exact hk
  · assumption
theorem ck0 {p : Prop} [Decidable p] {k : Int} {q : RS} (hk : k ≠ 0) (h : (if p then wrongF k q else q).fa = 0) : ¬ p ∧ (if p then wrongF k q else q) = q ∧ q.fa = 0 := by
  by_cases z : p
  · rw [if_pos z] at h; exact absurd h (wr0 hk)
  · rw [if_neg z] at h ⊢; exact ⟨z, rfl, h⟩
theorem ckf {p : Prop} [Decidable p] {k : Int} {q : RS} : (if p then wrongF k q else q).f = q.f := by split <;> first | exact wr_f | rfl
theorem ckn {p : Prop} [Decidable p] {k : Int} {q : RS} : (if p then wrongF k q else q).nm = q.nm := by split <;> first | exact wr_nm | rfl
theorem gn_fa {σ : Sto} {q : RS} : (gnF σ q).fa = q.fa := by unfold gnF; split <;> rfl
theorem gn_f {σ : Sto} {q : RS} : (gnF σ q).f = q.f := by unfold gnF; split <;> rfl
theorem gn_nm {σ : Sto} {q : RS} : (gnF σ q).nm = q.nm := by unfold gnF; split <;> rfl
theorem gn0 {σ : Sto} {q : RS} (h : q.fa = 0) : gnF σ q = tkS σ q := by unfold gnF; rw [if_pos h]
theorem nh_f {lo hi : Int} {q : RS} : (nhF lo hi q).f = q.f := by unfold nhF nh2 nh1; rw [ckf, ckf]
theorem nh_nm {lo hi : Int} {q : RS} : (nhF lo hi q).nm = q.nm := by unfold nhF nh2 nh1; rw [ckn, ckn]
theorem nh0 {lo hi : Int} {q : RS} (h : (nhF lo hi q).fa = 0) : nhF lo hi q = q ∧ q.fa = 0 ∧ q.so = 1 ∧ lo ≤ q.va ∧ q.va ≤ hi := by
  have a := ck0 (by decide) (show (if (nh1 q).fa = 0 ∧ ((nh1 q).va < lo ∨ hi < (nh1 q).va) then wrongF 2 (nh1 q) else nh1 q).fa = 0 from h)
  have b := ck0 (by decide) (show (if q.fa = 0 ∧ q.so ≠ 1 then wrongF 1 q else q).fa = 0 from a.2.2)
  have e1 : nh1 q = q := b.2.1
  have e2 : nhF lo hi q = nh1 q := a.2.1
  have a1 := a.1
  rw [e1] at a1 e2
  exact ⟨e2, b.2.2, by have := b.1; omega, by omega, by omega⟩
theorem nhV_rng {lo hi : Int} {q : RS} (h : lo ≤ hi) : lo ≤ nhV lo hi q ∧ nhV lo hi q ≤ hi := by
  unfold nhV
  split
  · rename_i z
    have a := nh0 z
    rw [a.1]
    exact a.2.2.2
  · omega
theorem nhV0 {lo hi : Int} {q : RS} (h : (nhF lo hi q).fa = 0) : nhV lo hi q = q.va := by
  unfold nhV
  rw [if_pos h, (nh0 h).1]
theorem sn1_f {q : RS} : (sn1 q).f = q.f := ckf
theorem sn1_nm {q : RS} : (sn1 q).nm = q.nm := ckn
theorem sn3_f {b k : Int} {q : RS} : (sn3 b k q).f = q.f := ckf
theorem sn3_nm {b k : Int} {q : RS} : (sn3 b k q).nm = q.nm := ckn
theorem stp_f {σ : Sto} {b : Int} {q : RS} : (stpF σ b q).f = q.f := by unfold stpF; rw [gn_f, sn3_f, sn1_f]
theorem stp_nm {σ : Sto} {b : Int} {q : RS} : (stpF σ b q).nm = q.nm := by unfold stpF; rw [gn_nm, sn3_nm, sn1_nm]
theorem stp0 {σ : Sto} {b : Int} {q : RS} (h : (stpF σ b q).fa = 0) : q.fa = 0 ∧ stpF σ b q = tkS σ q ∧ othF q ∧ nmdF q ≠ -1 ∧ stV q = nmdF q ∧ stV q ≠ b := by
  have h1 : (sn3 b (stV q) (sn1 q)).fa = 0 := by rw [← gn_fa (σ := σ)]; exact h
  have a := ck0 (by decide) (show (if (sn1 q).fa = 0 ∧ stV q = b then wrongF 3 (sn1 q) else sn1 q).fa = 0 from h1)
  have c := ck0 (by decide) (show (if q.fa = 0 ∧ (¬ othF q ∨ nmdF q = -1) then wrongF 1 q else q).fa = 0 from a.2.2)
  have e1 : sn1 q = q := c.2.1
  have e3 : sn3 b (stV q) (sn1 q) = sn1 q := a.2.1
  have c1 := c.1
  refine ⟨c.2.2, ?_, ?_, ?_, ?_, ?_⟩
  · unfold stpF; rw [e3, e1]; exact gn0 c.2.2
  · apply Classical.byContradiction; intro z; exact c1 ⟨c.2.2, Or.inl z⟩
  · intro z; exact c1 ⟨c.2.2, Or.inr z⟩
  · unfold stV; rw [e1, if_pos c.2.2]
  · intro z; exact a.1 ⟨a.2.2, z⟩
theorem stV_rng {σ : Sto} {q : RS} (hO : ROK σ q) : -1 ≤ stV q ∧ stV q < 10 := by
  have a := nmd_rng (st1_ok hO)
  unfold stV
  split <;> omega
theorem stV_lt {σ : Sto} {q : RS} {b : Int} (hO : ROK σ q) (h : (stpF σ b q).fa = 0) : 0 ≤ stV q ∧ stV q < q.f 0 := by
  have a := stp0 h
  have c := nmd_rng hO
  omega
