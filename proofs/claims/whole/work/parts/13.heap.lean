/-! Rows of the abstract machine: fields, arrays, calls, returns, a method's entry. -/
def FL (own : String) (idx ci j : Nat) : Prop := ci < 10 ∧ j < nsl ci ∧ Cond.fieldLink own idx (Cn ci) (Tn ci j).2.1 (Tn ci j).2.2.1 ∈ Gw
theorem cellE_obj {ad : Nat → Nat} {cy : Nat → ClassId} {σ : Sto} {c ci : Nat} (hk : kd c = ci) (hc : ci < 10) : cellE ad cy σ c = .inr (ci, (List.range (nsl ci)).map fun j => slV ad (Tyn ci j) (σ.1 c j) (σ.2.1 c j) (rfv (σ.2.2 c) c j)) := by
  subst hk
  unfold cellE cellF
  rw [if_pos hc]
theorem cellE_int {ad : Nat → Nat} {cy : Nat → ClassId} {σ : Sto} {c t : Nat} (hk : kd c = t) (h : t = 10 ∨ t = 11 ∨ t = 13) : cellE ad cy σ c = .inl (cy t, ln c, .inl fun j => Int32.ofInt (σ.1 c j)) := by
  unfold cellE cellF
  rw [hk, if_neg (by omega), if_neg (by omega), if_neg (by omega)]
theorem cellE_long {ad : Nat → Nat} {cy : Nat → ClassId} {σ : Sto} {c : Nat} (hk : kd c = 12) : cellE ad cy σ c = .inl (cy 12, ln c, .inr (.inl fun j => σ.2.1 c j)) := by
  unfold cellE cellF
  rw [hk, if_neg (by omega), if_pos rfl]
theorem cellE_rows {ad : Nat → Nat} {cy : Nat → ClassId} {σ : Sto} {c : Nat} (hk : kd c = 14) : cellE ad cy σ c = .inl (cy 14, ln c, .inr (.inr (.inr (.inr fun j => (rfv (σ.2.2 c) c j).map ad)))) := by
  unfold cellE cellF
  rw [hk, if_neg (by omega), if_neg (by omega), if_pos rfl]
theorem cellE_other {ad : Nat → Nat} {cy : Nat → ClassId} {σ σ' : Sto} {d : Nat} (h1 : σ'.1 d = σ.1 d) (h2 : σ'.2.1 d = σ.2.1 d) (h3 : σ'.2.2 d = σ.2.2 d) : cellE ad cy σ' d = cellE ad cy σ d := by
  unfold cellE
  rw [h1, h2, h3]
theorem up2_row {α : Type} {f : Nat → Int → α} {c d : Nat} {j : Int} {v : α} (h : d ≠ c) : up2 f c j v d = f d := funext fun i => up2_nc h
theorem cellE_sN {ad : Nat → Nat} {cy : Nat → ClassId} {σ : Sto} {c d : Nat} {j v : Int} (h : d ≠ c) : cellE ad cy (sN σ c j v) d = cellE ad cy σ d := cellE_other (up2_row h) rfl rfl
theorem cellE_sL {ad : Nat → Nat} {cy : Nat → ClassId} {σ : Sto} {c d : Nat} {j : Int} {v : Int64} (h : d ≠ c) : cellE ad cy (sL σ c j v) d = cellE ad cy σ d := cellE_other rfl (up2_row h) rfl
theorem cellE_sR {ad : Nat → Nat} {cy : Nat → ClassId} {σ : Sto} {c d : Nat} {j : Int} {v : Option Nat} (h : d ≠ c) : cellE ad cy (sR σ c j v) d = cellE ad cy σ d := cellE_other rfl rfl (up2_row h)
theorem obj_at {ad : Nat → Nat} {cy : Nat → ClassId} {σ : Sto} {c ci : Nat} (hk : kd c = ci) (hc : ci < 10) : (wld ad cy σ)[c]? = some (ad c, .inr (ci, (List.range (nsl ci)).map fun j => slV ad (Tyn ci j) (σ.1 c j) (σ.2.1 c j) (rfv (σ.2.2 c) c j))) := by
  rw [wld_get (kd_lt (by omega)), cellE_obj hk hc]
theorem slot_at {ad : Nat → Nat} {σ : Sto} {c ci j : Nat} (hj : j < nsl ci) : ((List.range (nsl ci)).map fun j : Nat => slV ad (Tyn ci j) (σ.1 c j) (σ.2.1 c j) (rfv (σ.2.2 c) c j))[j]? = some (slV ad (Tyn ci j) (σ.1 c j) (σ.2.1 c j) (rfv (σ.2.2 c) c j)) := by
  rw [List.getElem?_map, List.getElem?_range hj]
  rfl
section AMH
variable {M : Mth} {Q : Option Av → Sto → Prop} {pc : Nat} {ls : List (Nat × Av)} {rest : List Av} {σ : Sto}
theorem a_get {c ci j idx : Nat} {v : Av} (hf : FL M.1.cls idx ci j) (hk : kd c = ci) (hv : ∀ ad : Nat → Nat, slV ad (Tyn ci j) (σ.1 c j) (σ.2.1 c j) (rfv (σ.2.2 c) c j) = cv ad v) (hd : decode M.2.1 pc = .ok (.getfield idx, 3)) (k : RunA M Q (pc + 3) ls (v :: rest) σ) : RunA M Q pc ls (ar c :: rest) σ := by
  intro l p e s m args below meth co D ad cy A H locs hG hP hD hS lsC hl
  obtain ⟨h1, h2, h3⟩ := hf
  refine va_get (C := Cn ci) (T := Tn ci) (N := nsl ci) (ci := ci) hG.1 hG.2.1 hG.2.2.2.2.2.1 (fun w hw => List.mem_cons_of_mem _ (uws_in ci h1 w hw)) hG.2.2.2.2.1 hG.2.2.2.2.2.2.2.1 hP c (obj_at hk h1) (cl_at ci h1) j h2 (hG.2.2.2.2.2.1 _ (List.mem_cons_of_mem _ h3)) (fun x hx => by rw [own_in ci h1 j h2] at hx; exact hx) (v := cv ad v) ?_ hd (k l p e s m args below meth co D ad cy A H locs hG hP hD hS lsC hl)
  rw [slot_at h2, hv ad]
theorem a_getI {c ci j idx : Nat} {J : Int} (hf : FL M.1.cls idx ci j) (hk : kd c = ci) (ht : Tyn ci j = .int) (hJ : (j : Int) = J) (hd : decode M.2.1 pc = .ok (.getfield idx, 3)) (k : RunA M Q (pc + 3) ls (ai (gN σ c J) :: rest) σ) : RunA M Q pc ls (ar c :: rest) σ := by
  subst hJ
  exact a_get hf hk (fun ad => by rw [ht]; exact congrArg Value.int (ofInt_nrm _).symm) hd k
theorem a_getZ {c ci j idx : Nat} {J : Int} (hf : FL M.1.cls idx ci j) (hk : kd c = ci) (ht : Tyn ci j = .boolean) (hJ : (j : Int) = J) (hd : decode M.2.1 pc = .ok (.getfield idx, 3)) (k : RunA M Q (pc + 3) ls (ai (gN σ c J) :: rest) σ) : RunA M Q pc ls (ar c :: rest) σ := by
  subst hJ
  exact a_get hf hk (fun ad => by rw [ht]; exact congrArg Value.int (ofInt_nrm _).symm) hd k
theorem a_getL {c ci j idx : Nat} {J : Int} (hf : FL M.1.cls idx ci j) (hk : kd c = ci) (ht : Tyn ci j = .long) (hJ : (j : Int) = J) (hd : decode M.2.1 pc = .ok (.getfield idx, 3)) (k : RunA M Q (pc + 3) ls (al (gL σ c J) :: rest) σ) : RunA M Q pc ls (ar c :: rest) σ := by
  subst hJ
  exact a_get hf hk (fun ad => by rw [ht]; rfl) hd k
/-- a field that holds a reference: its type is neither of the numbers' -/
def isRf (ty : FieldType) : Bool := match ty with
  | .long => false
  | .int => false
  | .boolean => false
  | _ => true
theorem slV_ref {ad : Nat → Nat} {ty : FieldType} {x : Int} {y : Int64} {r : Option Nat} (h : isRf ty = true) : slV ad ty x y r = va_rf (r.map ad) := by
  cases ty <;> first | rfl | cases h
theorem a_getF {c ci j idx d : Nat} (hf : FL M.1.cls idx ci j) (hk : kd c = ci) (ht : isRf (Tyn ci j) = true) (hr : rfs c j = some d) (hd : decode M.2.1 pc = .ok (.getfield idx, 3)) (k : RunA M Q (pc + 3) ls (ar d :: rest) σ) : RunA M Q pc ls (ar c :: rest) σ :=
  a_get hf hk (fun ad => by rw [slV_ref ht]; unfold rfv; rw [hr]; rfl) hd k
theorem a_getR {c ci j idx d : Nat} {J : Int} (hf : FL M.1.cls idx ci j) (hk : kd c = ci) (ht : isRf (Tyn ci j) = true) (hn : rfs c j = none) (hJ : (j : Int) = J) (hr : gR σ c J = some d) (hd : decode M.2.1 pc = .ok (.getfield idx, 3)) (k : RunA M Q (pc + 3) ls (ar d :: rest) σ) : RunA M Q pc ls (ar c :: rest) σ := by
  subst hJ
  exact a_get hf hk (fun ad => by unfold gR at hr; rw [slV_ref ht]; unfold rfv; rw [hn, hr]; rfl) hd k
theorem a_put {c ci j idx : Nat} {v : Av} {σ' : Sto} (hf : FL M.1.cls idx ci j) (hk : kd c = ci) (hfin : (Tn ci j).2.2.2 = false) (hn : ∀ ad : Nat → Nat, narrow (Tyn ci j) (cv ad v) = cv ad v) (hfit : ∀ ad : Nat → Nat, fits (Tyn ci j) (cv ad v) = true)
    (ho : ∀ (ad : Nat → Nat) (cy : Nat → ClassId) (d : Nat), d ≠ c → cellE ad cy σ' d = cellE ad cy σ d) (hs : ∀ ad : Nat → Nat, slV ad (Tyn ci j) (σ'.1 c j) (σ'.2.1 c j) (rfv (σ'.2.2 c) c j) = cv ad v) (hs2 : ∀ (ad : Nat → Nat) (i : Nat), i ≠ j → slV ad (Tyn ci i) (σ'.1 c i) (σ'.2.1 c i) (rfv (σ'.2.2 c) c i) = slV ad (Tyn ci i) (σ.1 c i) (σ.2.1 c i) (rfv (σ.2.2 c) c i))
    (hd : decode M.2.1 pc = .ok (.putfield idx, 3)) (k : RunA M Q (pc + 3) ls rest σ') : RunA M Q pc ls (v :: ar c :: rest) σ := by
  intro l p e s m args below meth co D ad cy A H locs hG hP hD hS lsC hl
  obtain ⟨h1, h2, h3⟩ := hf
  have hw : (wld ad cy σ).set c (ad c, .inr (ci, ((List.range (nsl ci)).map fun j : Nat => slV ad (Tyn ci j) (σ.1 c j) (σ.2.1 c j) (rfv (σ.2.2 c) c j)).set j (cv ad v))) = wld ad cy σ' := by
    refine wld_set (kd_lt (by omega)) ?_ (ho ad cy)
    rw [cellE_obj hk h1, rng_set (hs ad) (hs2 ad)]
  refine va_put (C := Cn ci) (T := Tn ci) (N := nsl ci) (ci := ci) hG.1 hG.2.1 hG.2.2.2.2.2.1 (fun w hw => List.mem_cons_of_mem _ (uws_in ci h1 w hw)) (Tyn ci) (tyn_ok ci h1) (nmn_ok ci h1) hG.2.2.2.2.1 hG.2.2.2.2.2.2.2.1 hP hD hS c (obj_at hk h1) (cl_at ci h1) j h2 (hG.2.2.2.2.2.1 _ (List.mem_cons_of_mem _ h3)) (fun x hx => by rw [own_in ci h1 j h2] at hx; exact hx) hfin (tyn_ok ci h1 j h2) (hn ad) (hfit ad) (by rw [List.length_map, List.length_range]; exact h2) hd (fun H1 locs1 hP1 hD1 hS1 => ?_)
  rw [hw] at hP1 hD1
  exact k l p e s m args below meth co D ad cy A H1 locs1 hG hP1 hD1 hS1 lsC hl
theorem a_putI {c ci j idx : Nat} {J : Int} {x : Int} (hf : FL M.1.cls idx ci j) (hk : kd c = ci) (ht : Tyn ci j = .int) (hfin : (Tn ci j).2.2.2 = false) (hJ : (j : Int) = J) (hd : decode M.2.1 pc = .ok (.putfield idx, 3)) (k : RunA M Q (pc + 3) ls rest (sN σ c J x)) : RunA M Q pc ls (ai x :: ar c :: rest) σ := by
  subst hJ
  exact a_put (σ' := sN σ c j x) hf hk hfin (fun ad => by rw [ht]; rfl) (fun ad => by rw [ht]; rfl) (fun ad cy d h => cellE_sN h) (fun ad => by rw [ht]; show Value.int (Int32.ofInt (up2 σ.1 c j x c j)) = _; rw [up2_same]; rfl) (fun ad i h => by show slV ad _ (up2 σ.1 c j x c i) _ _ = _; rw [up2_nj (by omega)]; rfl) hd k
theorem a_putZ {c ci j idx : Nat} {J : Int} {x : Int} (hf : FL M.1.cls idx ci j) (hk : kd c = ci) (ht : Tyn ci j = .boolean) (hfin : (Tn ci j).2.2.2 = false) (hx : x = 0 ∨ x = 1) (hJ : (j : Int) = J) (hd : decode M.2.1 pc = .ok (.putfield idx, 3)) (k : RunA M Q (pc + 3) ls rest (sN σ c J x)) : RunA M Q pc ls (ai x :: ar c :: rest) σ := by
  subst hJ
  exact a_put (σ' := sN σ c j x) hf hk hfin (fun ad => by rw [ht]; rcases hx with h | h <;> subst h <;> rfl) (fun ad => by rw [ht]; rcases hx with h | h <;> subst h <;> rfl) (fun ad cy d h => cellE_sN h) (fun ad => by rw [ht]; show Value.int (Int32.ofInt (up2 σ.1 c j x c j)) = _; rw [up2_same]; rfl) (fun ad i h => by show slV ad _ (up2 σ.1 c j x c i) _ _ = _; rw [up2_nj (by omega)]; rfl) hd k
theorem a_putL {c ci j idx : Nat} {J : Int} {x : Int64} (hf : FL M.1.cls idx ci j) (hk : kd c = ci) (ht : Tyn ci j = .long) (hfin : (Tn ci j).2.2.2 = false) (hJ : (j : Int) = J) (hd : decode M.2.1 pc = .ok (.putfield idx, 3)) (k : RunA M Q (pc + 3) ls rest (sL σ c J x)) : RunA M Q pc ls (al x :: ar c :: rest) σ := by
  subst hJ
  exact a_put (σ' := sL σ c j x) hf hk hfin (fun ad => by rw [ht]; rfl) (fun ad => by rw [ht]; rfl) (fun ad cy d h => cellE_sL h) (fun ad => by rw [ht]; show Value.long (up2 σ.2.1 c j x c j) = _; rw [up2_same]; rfl) (fun ad i h => by show slV ad _ _ (up2 σ.2.1 c j x c i) _ = _; rw [up2_nj (by omega)]; rfl) hd k
theorem a_putR {c ci j idx d : Nat} {J : Int} (hf : FL M.1.cls idx ci j) (hk : kd c = ci) (ht : isRf (Tyn ci j) = true) (hn0 : rfs c j = none) (hfin : (Tn ci j).2.2.2 = false) (hn : ∀ a : Nat, narrow (Tyn ci j) (.ref a) = .ref a) (hfit : ∀ a : Nat, fits (Tyn ci j) (.ref a) = true) (hJ : (j : Int) = J) (hd : decode M.2.1 pc = .ok (.putfield idx, 3)) (k : RunA M Q (pc + 3) ls rest (sR σ c J (some d))) : RunA M Q pc ls (ar d :: ar c :: rest) σ := by
  subst hJ
  exact a_put (σ' := sR σ c j (some d)) hf hk hfin (fun ad => hn _) (fun ad => hfit _) (fun ad cy d h => cellE_sR h) (fun ad => by rw [slV_ref ht]; unfold rfv; rw [hn0]; show va_rf (Option.map ad (up2 σ.2.2 c j (some d) c j)) = _; rw [up2_same]; rfl) (fun ad i h => by show slV ad _ _ _ (rfv (up2 σ.2.2 c j (some d) c) c i) = _; unfold rfv; rw [up2_nj (by omega)]; rfl) hd k
-- arrays
theorem in_of {x : Int} {n : Nat} (h0 : 0 ≤ x) (h : x < n) (hn : (n : Int) < 2147483648) : vp_in (Int32.ofInt x) n := vp_in_iff.mpr (by rw [toInt_of_inR (by unfold inR; omega)]; exact ⟨h0, h⟩)
theorem clamp_of_in {x : Int} (h0 : 0 ≤ x) (h : x < 2147483648) : ((Int32.ofInt x).toNatClampNeg : Int) = x := by
  have e : (Int32.ofInt x).toNatClampNeg = (Int32.ofInt x).toInt.toNat := rfl
  rw [e, toInt_of_inR (by unfold inR; omega)]
  omega
theorem ln_lt (c : Nat) : (ln c : Int) < 2147483648 := by
  have h : ∀ x ∈ lnL, x < 2147483648 := by decide +kernel
  unfold ln
  rw [List.getD_eq_getElem?_getD]
  cases hq : lnL[c]? with
  | none => decide
  | some v =>
    have := h v (List.mem_of_getElem? hq)
    show (v : Int) < _
    omega
theorem arr_at {ad : Nat → Nat} {cy : Nat → ClassId} {c t : Nat} (hk : kd c = t) (h : t = 10 ∨ t = 11 ∨ t = 13) : (wld ad cy σ)[c]? = some (ad c, .inl (cy t, ln c, .inl fun j => Int32.ofInt (σ.1 c j))) := by
  rw [wld_get (kd_lt (by omega)), cellE_int hk h]
theorem a_iald {c : Nat} {x : Int} (hk : kd c = 11) (h0 : 0 ≤ x) (h1 : x < ln c) (hd : decode M.2.1 pc = .ok (.iaload, 1)) (k : RunA M Q (pc + 1) ls (ai (gN σ c x) :: rest) σ) : RunA M Q pc ls (ai x :: ar c :: rest) σ := by
  intro l p e s m args below meth co D ad cy A H locs hG hP hD hS lsC hl
  have hn := ln_lt c
  refine va_iald hG.1 hG.2.1 hG.2.2.2.2.2.2.2.1 hP c 1 (arr_at hk (by omega)) rfl (in_of h0 h1 hn) hd ?_
  rw [clamp_of_in h0 (by omega), ← ofInt_nrm]
  exact k l p e s m args below meth co D ad cy A H locs hG hP hD hS lsC hl
theorem a_bald {c : Nat} {x : Int} (hk : kd c = 10) (h0 : 0 ≤ x) (h1 : x < ln c) (hd : decode M.2.1 pc = .ok (.baload, 1)) (k : RunA M Q (pc + 1) ls (ai (gN σ c x) :: rest) σ) : RunA M Q pc ls (ai x :: ar c :: rest) σ := by
  intro l p e s m args below meth co D ad cy A H locs hG hP hD hS lsC hl
  have hn := ln_lt c
  refine va_bald hG.1 hG.2.1 hG.2.2.2.2.2.2.2.1 hP c 0 (arr_at hk (by omega)) rfl (in_of h0 h1 hn) hd ?_
  rw [clamp_of_in h0 (by omega), ← ofInt_nrm]
  exact k l p e s m args below meth co D ad cy A H locs hG hP hD hS lsC hl
theorem a_zald {c : Nat} {x : Int} (hk : kd c = 13) (h0 : 0 ≤ x) (h1 : x < ln c) (hd : decode M.2.1 pc = .ok (.baload, 1)) (k : RunA M Q (pc + 1) ls (ai (gN σ c x) :: rest) σ) : RunA M Q pc ls (ai x :: ar c :: rest) σ := by
  intro l p e s m args below meth co D ad cy A H locs hG hP hD hS lsC hl
  have hn := ln_lt c
  refine va_zald hG.1 hG.2.1 hG.2.2.2.2.2.2.2.1 hP c 3 (arr_at hk (by omega)) rfl (in_of h0 h1 hn) hd ?_
  rw [clamp_of_in h0 (by omega), ← ofInt_nrm]
  exact k l p e s m args below meth co D ad cy A H locs hG hP hD hS lsC hl
theorem a_lald {c : Nat} {x : Int} (hk : kd c = 12) (h0 : 0 ≤ x) (h1 : x < ln c) (hd : decode M.2.1 pc = .ok (.laload, 1)) (k : RunA M Q (pc + 1) ls (al (gL σ c x) :: rest) σ) : RunA M Q pc ls (ai x :: ar c :: rest) σ := by
  intro l p e s m args below meth co D ad cy A H locs hG hP hD hS lsC hl
  have hn := ln_lt c
  refine va_lald hG.1 hG.2.1 hG.2.2.2.2.2.2.2.1 hP c 2 (by rw [wld_get (kd_lt (by omega)), cellE_long hk]) rfl (in_of h0 h1 hn) hd ?_
  rw [clamp_of_in h0 (by omega)]
  exact k l p e s m args below meth co D ad cy A H locs hG hP hD hS lsC hl
theorem set_arr {ad : Nat → Nat} {cy : Nat → ClassId} {c t : Nat} {x v : Int} (hk : kd c = t) (h : t = 10 ∨ t = 11 ∨ t = 13) (h0 : 0 ≤ x) (h1 : x < 2147483648) : (wld ad cy σ).set c (ad c, .inl (cy t, ln c, .inl (upd (fun j => Int32.ofInt (σ.1 c j)) (Int32.ofInt x).toNatClampNeg (Int32.ofInt v)))) = wld ad cy (sN σ c x v) := by
  refine wld_set (kd_lt (by omega)) ?_ (fun d h => cellE_sN h)
  rw [cellE_int hk h]
  congr 4
  funext j
  have e := clamp_of_in h0 h1
  show Int32.ofInt (up2 σ.1 c x v c j) = upd _ _ _ j
  unfold upd
  by_cases hj : (j : Int) = x
  · rw [if_pos (by omega), hj, up2_same]
  · rw [if_neg (by omega), up2_nj hj]
theorem a_iast {c : Nat} {x v : Int} (hk : kd c = 11) (h0 : 0 ≤ x) (h1 : x < ln c) (hd : decode M.2.1 pc = .ok (.iastore, 1)) (k : RunA M Q (pc + 1) ls rest (sN σ c x v)) : RunA M Q pc ls (ai v :: ai x :: ar c :: rest) σ := by
  intro l p e s m args below meth co D ad cy A H locs hG hP hD hS lsC hl
  have hn := ln_lt c
  refine va_iast hG.1 hG.2.1 hG.2.2.2.2.2.2.2.1 hP hD hS c 1 (arr_at hk (by omega)) rfl (in_of h0 h1 hn) hd (fun H1 locs1 hP1 hD1 hS1 => ?_)
  rw [set_arr hk (by omega) h0 (by omega)] at hP1 hD1
  exact k l p e s m args below meth co D ad cy A H1 locs1 hG hP1 hD1 hS1 lsC hl
theorem a_zast {c : Nat} {x v : Int} (hk : kd c = 13) (h0 : 0 ≤ x) (h1 : x < ln c) (hv : v = 0 ∨ v = 1) (hd : decode M.2.1 pc = .ok (.bastore, 1)) (k : RunA M Q (pc + 1) ls rest (sN σ c x v)) : RunA M Q pc ls (ai v :: ai x :: ar c :: rest) σ := by
  intro l p e s m args below meth co D ad cy A H locs hG hP hD hS lsC hl
  have hn := ln_lt c
  have hz : vp_nar .boolean (Int32.ofInt v) = Int32.ofInt v := by rcases hv with h | h <;> subst h <;> rfl
  refine va_zast hG.1 hG.2.1 hG.2.2.2.2.2.2.2.1 hP hD hS c 3 (arr_at hk (by omega)) rfl (in_of h0 h1 hn) hd (fun H1 locs1 hP1 hD1 hS1 => ?_)
  rw [hz, set_arr hk (by omega) h0 (by omega)] at hP1 hD1
  exact k l p e s m args below meth co D ad cy A H1 locs1 hG hP1 hD1 hS1 lsC hl
theorem a_bast {c : Nat} {x v : Int} (hk : kd c = 10) (h0 : 0 ≤ x) (h1 : x < ln c) (hv : vp_nar .byte (Int32.ofInt v) = Int32.ofInt v) (hd : decode M.2.1 pc = .ok (.bastore, 1)) (k : RunA M Q (pc + 1) ls rest (sN σ c x v)) : RunA M Q pc ls (ai v :: ai x :: ar c :: rest) σ := by
  intro l p e s m args below meth co D ad cy A H locs hG hP hD hS lsC hl
  have hn := ln_lt c
  refine va_bast hG.1 hG.2.1 hG.2.2.2.2.2.2.2.1 hP hD hS c 0 (arr_at hk (by omega)) rfl (in_of h0 h1 hn) hd (fun H1 locs1 hP1 hD1 hS1 => ?_)
  rw [hv, set_arr hk (by omega) h0 (by omega)] at hP1 hD1
  exact k l p e s m args below meth co D ad cy A H1 locs1 hG hP1 hD1 hS1 lsC hl
theorem a_last {c : Nat} {x : Int} {v : Int64} (hk : kd c = 12) (h0 : 0 ≤ x) (h1 : x < ln c) (hd : decode M.2.1 pc = .ok (.lastore, 1)) (k : RunA M Q (pc + 1) ls rest (sL σ c x v)) : RunA M Q pc ls (al v :: ai x :: ar c :: rest) σ := by
  intro l p e s m args below meth co D ad cy A H locs hG hP hD hS lsC hl
  have hn := ln_lt c
  refine va_last hG.1 hG.2.1 hG.2.2.2.2.2.2.2.1 hP hD hS c 2 (by rw [wld_get (kd_lt (by omega)), cellE_long hk]) rfl (in_of h0 h1 hn) hd (fun H1 locs1 hP1 hD1 hS1 => ?_)
  have hcl := clamp_of_in h0 (by omega : x < 2147483648)
  have hw : (wld ad cy σ).set c (ad c, .inl (cy 12, ln c, .inr (.inl (vp_updL (fun j => σ.2.1 c j) (Int32.ofInt x).toNatClampNeg v)))) = wld ad cy (sL σ c x v) := by
    refine wld_set (kd_lt (by omega)) ?_ (fun d h => cellE_sL h)
    rw [cellE_long hk]
    congr 5
    funext j
    show up2 σ.2.1 c x v c j = vp_updL _ _ _ j
    unfold vp_updL
    by_cases hj : (j : Int) = x
    · rw [if_pos (by omega), hj, up2_same]
    · rw [if_neg (by omega), up2_nj hj]
  rw [hw] at hP1 hD1
  exact k l p e s m args below meth co D ad cy A H1 locs1 hG hP1 hD1 hS1 lsC hl
theorem a_alen {c t : Nat} {n : Int} (hk : kd c = t) (ht : t = 10 ∨ t = 11 ∨ t = 13) (hn : (ln c : Int) = n) (hd : decode M.2.1 pc = .ok (.arraylength, 1)) (k : RunA M Q (pc + 1) ls (ai n :: rest) σ) : RunA M Q pc ls (ar c :: rest) σ := by
  intro l p e s m args below meth co D ad cy A H locs hG hP hD hS lsC hl
  refine va_alen hG.1 hG.2.1 hG.2.2.2.2.2.2.2.1 hP c (t - 10) (arr_at hk ht) (ty := if t = 10 then .byte else if t = 11 then .int else .boolean) (by rcases ht with h | h | h <;> subst h <;> rfl) (v := Int32.ofInt n) (by rw [← hn]; rfl) hd ?_
  exact k l p e s m args below meth co D ad cy A H locs hG hP hD hS lsC hl
end AMH
