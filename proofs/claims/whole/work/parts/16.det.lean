/-! Contracts that name the answer and the store behind the call; rows that use them. -/
def MetI (M : Mth) (as : List Av) (σ : Sto) (v : Int) (σ' : Sto) : Prop := MetA M as σ (fun r u => r = some (ai v) ∧ u = σ')
def MetL (M : Mth) (as : List Av) (σ : Sto) (v : Int64) (σ' : Sto) : Prop := MetA M as σ (fun r u => r = some (al v) ∧ u = σ')
def MetV (M : Mth) (as : List Av) (σ : Sto) (σ' : Sto) : Prop := MetA M as σ (fun r u => r = none ∧ u = σ')
abbrev qI (v : Int) (σ' : Sto) : Option Av → Sto → Prop := fun r u => r = some (ai v) ∧ u = σ'
abbrev qL (v : Int64) (σ' : Sto) : Option Av → Sto → Prop := fun r u => r = some (al v) ∧ u = σ'
abbrev qV (σ' : Sto) : Option Av → Sto → Prop := fun r u => r = none ∧ u = σ'
section AMD
variable {M : Mth} {Q : Option Av → Sto → Prop} {pc : Nat} {ls : List (Nat × Av)} {rest : List Av} {σ : Sto}
theorem inR_of {x : Int} (h1 : -2147483648 ≤ x) (h2 : x < 2147483648) : inR x := ⟨h1, h2⟩
theorem inR32 (x : Int32) : inR x.toInt := ⟨Int32.le_toInt x, Int32.toInt_lt x⟩
theorem a_topI {x y : Int} (h : x = y) (k : RunA M Q pc ls (ai y :: rest) σ) : RunA M Q pc ls (ai x :: rest) σ := h ▸ k
theorem a_topL {x y : Int64} (h : x = y) (k : RunA M Q pc ls (al y :: rest) σ) : RunA M Q pc ls (al x :: rest) σ := h ▸ k
theorem a_ls {ls' : List (Nat × Av)} {st : List Av} (h : ls = ls') (k : RunA M Q pc ls' st σ) : RunA M Q pc ls st σ := h ▸ k
theorem a_sto {σ' : Sto} {st : List Av} (h : σ = σ') (k : RunA M Q pc ls st σ') : RunA M Q pc ls st σ := h ▸ k
/-- fewer locals, in any order -/
theorem a_keep {ls' : List (Nat × Av)} {st : List Av} (h : ∀ q ∈ ls', q ∈ ls) (k : RunA M Q pc ls' st σ) : RunA M Q pc ls st σ := by
  intro l p e s m args below meth c D ad cy A H locs hG hP hD hS lsC hl
  refine k l p e s m args below meth c D ad cy A H locs hG hP hD hS lsC ⟨hl.1, hl.2.1, fun q hq => ?_⟩
  obtain ⟨r, hr, rfl⟩ := List.mem_map.mp hq
  exact hl.2.2 _ (List.mem_map.mpr ⟨r, h r hr, rfl⟩)
theorem a_ild {c n : Nat} {x : Int} (hk : kd c = 11) (hn : ln c = n) (h0 : 0 ≤ x) (h1 : x < n) (hd : decode M.2.1 pc = .ok (.iaload, 1)) (k : RunA M Q (pc + 1) ls (ai (gN σ c x) :: rest) σ) : RunA M Q pc ls (ai x :: ar c :: rest) σ := a_iald hk h0 (by rw [hn]; exact h1) hd k
theorem a_bld {c n : Nat} {x : Int} (hk : kd c = 10) (hn : ln c = n) (h0 : 0 ≤ x) (h1 : x < n) (hd : decode M.2.1 pc = .ok (.baload, 1)) (k : RunA M Q (pc + 1) ls (ai (gN σ c x) :: rest) σ) : RunA M Q pc ls (ai x :: ar c :: rest) σ := a_bald hk h0 (by rw [hn]; exact h1) hd k
theorem a_zld {c n : Nat} {x : Int} (hk : kd c = 13) (hn : ln c = n) (h0 : 0 ≤ x) (h1 : x < n) (hd : decode M.2.1 pc = .ok (.baload, 1)) (k : RunA M Q (pc + 1) ls (ai (gN σ c x) :: rest) σ) : RunA M Q pc ls (ai x :: ar c :: rest) σ := a_zald hk h0 (by rw [hn]; exact h1) hd k
theorem a_lld {c n : Nat} {x : Int} (hk : kd c = 12) (hn : ln c = n) (h0 : 0 ≤ x) (h1 : x < n) (hd : decode M.2.1 pc = .ok (.laload, 1)) (k : RunA M Q (pc + 1) ls (al (gL σ c x) :: rest) σ) : RunA M Q pc ls (ai x :: ar c :: rest) σ := a_lald hk h0 (by rw [hn]; exact h1) hd k
theorem a_ist {c n : Nat} {x v : Int} (hk : kd c = 11) (hn : ln c = n) (h0 : 0 ≤ x) (h1 : x < n) (hd : decode M.2.1 pc = .ok (.iastore, 1)) (k : RunA M Q (pc + 1) ls rest (sN σ c x v)) : RunA M Q pc ls (ai v :: ai x :: ar c :: rest) σ := a_iast hk h0 (by rw [hn]; exact h1) hd k
theorem a_zst {c n : Nat} {x v : Int} (hk : kd c = 13) (hn : ln c = n) (h0 : 0 ≤ x) (h1 : x < n) (hv : v = 0 ∨ v = 1) (hd : decode M.2.1 pc = .ok (.bastore, 1)) (k : RunA M Q (pc + 1) ls rest (sN σ c x v)) : RunA M Q pc ls (ai v :: ai x :: ar c :: rest) σ := a_zast hk h0 (by rw [hn]; exact h1) hv hd k
theorem a_lst {c n : Nat} {x : Int} {v : Int64} (hk : kd c = 12) (hn : ln c = n) (h0 : 0 ≤ x) (h1 : x < n) (hd : decode M.2.1 pc = .ok (.lastore, 1)) (k : RunA M Q (pc + 1) ls rest (sL σ c x v)) : RunA M Q pc ls (al v :: ai x :: ar c :: rest) σ := a_last hk h0 (by rw [hn]; exact h1) hd k
theorem a_ald {c d n : Nat} {x : Int} (hk : kd c = 14) (hn : ln c = n) (h0 : 0 ≤ x) (h1 : x < n) (hr : rfs c x = some d) (hd : decode M.2.1 pc = .ok (.aaload, 1)) (k : RunA M Q (pc + 1) ls (ar d :: rest) σ) : RunA M Q pc ls (ai x :: ar c :: rest) σ := a_aald hk h0 (by rw [hn]; exact h1) hr hd k
theorem a_cI {M' : Mth} {as st : List Av} {c n idx ci : Nat} {v : Int} {σ' : Sto} (hM : MetI M' (ar c :: as) σ v σ') (hV : MV M' n) (hlk : Cond.methodLink M.1.cls idx M'.1 ∈ Gw) (hk : kd c = ci) (hc : ci < 10) (hcl : Cn ci = M'.1.cls) (hret : rkO M'.2.2.2.1 = 1) (hst : st = as.reverse ++ ar c :: rest) (hn : as.length = n) (h1 : M'.2.2.2.2.1 + 1 ≤ M.2.2.2.2.1) (h2 : 8 + (M'.2.2.1 + 11) + M'.2.2.2.2.2 ≤ M.2.2.2.2.2) (hw : wdA rest ≤ 8) (hd : decode M.2.1 pc = .ok (.invokevirtual idx, 3))
    (k : RunA M Q (pc + 3) ls (ai v :: rest) σ') : RunA M Q pc ls st σ :=
  a_callI hM hV hlk hk hc hcl hret hst hn h1 h2 hw hd (fun x u h => by obtain ⟨h3, rfl⟩ := h; cases h3; exact k)
theorem a_cL {M' : Mth} {as st : List Av} {c n idx ci : Nat} {v : Int64} {σ' : Sto} (hM : MetL M' (ar c :: as) σ v σ') (hV : MV M' n) (hlk : Cond.methodLink M.1.cls idx M'.1 ∈ Gw) (hk : kd c = ci) (hc : ci < 10) (hcl : Cn ci = M'.1.cls) (hret : rkO M'.2.2.2.1 = 2) (hst : st = as.reverse ++ ar c :: rest) (hn : as.length = n) (h1 : M'.2.2.2.2.1 + 1 ≤ M.2.2.2.2.1) (h2 : 8 + (M'.2.2.1 + 11) + M'.2.2.2.2.2 ≤ M.2.2.2.2.2) (hw : wdA rest ≤ 8) (hd : decode M.2.1 pc = .ok (.invokevirtual idx, 3))
    (k : RunA M Q (pc + 3) ls (al v :: rest) σ') : RunA M Q pc ls st σ :=
  a_callL hM hV hlk hk hc hcl hret hst hn h1 h2 hw hd (fun x u h => by obtain ⟨h3, rfl⟩ := h; cases h3; exact k)
theorem a_cV {M' : Mth} {as st : List Av} {c n idx ci : Nat} {σ' : Sto} (hM : MetV M' (ar c :: as) σ σ') (hV : MV M' n) (hlk : Cond.methodLink M.1.cls idx M'.1 ∈ Gw) (hk : kd c = ci) (hc : ci < 10) (hcl : Cn ci = M'.1.cls) (hret : rkO M'.2.2.2.1 = 0) (hst : st = as.reverse ++ ar c :: rest) (hn : as.length = n) (h1 : M'.2.2.2.2.1 + 1 ≤ M.2.2.2.2.1) (h2 : 8 + (M'.2.2.1 + 11) + M'.2.2.2.2.2 ≤ M.2.2.2.2.2) (hw : wdA rest ≤ 8) (hd : decode M.2.1 pc = .ok (.invokevirtual idx, 3))
    (k : RunA M Q (pc + 3) ls rest σ') : RunA M Q pc ls st σ :=
  a_callV hM hV hlk hk hc hcl hret hst hn h1 h2 hw hd (fun u h => by obtain ⟨h3, rfl⟩ := h; exact k)
theorem a_sI {M' : Mth} {as st : List Av} {n idx : Nat} {v : Int} {σ' : Sto} (hM : MetI M' as σ v σ') (hV : MS M' n) (hlk : Cond.methodLink M.1.cls idx M'.1 ∈ Gw ∨ (M.1.cls, idx, M'.1) ∈ NWt) (hret : rkO M'.2.2.2.1 = 1) (hst : st = as.reverse ++ rest) (hn : as.length = n) (h1 : M'.2.2.2.2.1 + 1 ≤ M.2.2.2.2.1) (h2 : 8 + (M'.2.2.1 + 11) + M'.2.2.2.2.2 ≤ M.2.2.2.2.2) (hw : wdA rest ≤ 8) (hd : decode M.2.1 pc = .ok (.invokestatic idx, 3))
    (k : RunA M Q (pc + 3) ls (ai v :: rest) σ') : RunA M Q pc ls st σ :=
  a_callSI hM hV hlk hret hst hn h1 h2 hw hd (fun x u h => by obtain ⟨h3, rfl⟩ := h; cases h3; exact k)
theorem a_sL {M' : Mth} {as st : List Av} {n idx : Nat} {v : Int64} {σ' : Sto} (hM : MetL M' as σ v σ') (hV : MS M' n) (hlk : Cond.methodLink M.1.cls idx M'.1 ∈ Gw ∨ (M.1.cls, idx, M'.1) ∈ NWt) (hret : rkO M'.2.2.2.1 = 2) (hst : st = as.reverse ++ rest) (hn : as.length = n) (h1 : M'.2.2.2.2.1 + 1 ≤ M.2.2.2.2.1) (h2 : 8 + (M'.2.2.1 + 11) + M'.2.2.2.2.2 ≤ M.2.2.2.2.2) (hw : wdA rest ≤ 8) (hd : decode M.2.1 pc = .ok (.invokestatic idx, 3))
    (k : RunA M Q (pc + 3) ls (al v :: rest) σ') : RunA M Q pc ls st σ :=
  a_callSL hM hV hlk hret hst hn h1 h2 hw hd (fun x u h => by obtain ⟨h3, rfl⟩ := h; cases h3; exact k)
end AMD
