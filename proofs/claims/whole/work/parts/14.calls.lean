/-! Rows of the abstract machine: rows of rows, calls, returns, a method's entry. -/
section AMC
variable {M : Mth} {Q : Option Av → Sto → Prop} {pc : Nat} {ls : List (Nat × Av)} {rest : List Av} {σ : Sto}
theorem a_aald {c d : Nat} {x : Int} (hk : kd c = 14) (h0 : 0 ≤ x) (h1 : x < ln c) (hr : rfs c x = some d) (hd : decode M.2.1 pc = .ok (.aaload, 1)) (k : RunA M Q (pc + 1) ls (ar d :: rest) σ) : RunA M Q pc ls (ai x :: ar c :: rest) σ := by
  intro l p e s m args below meth co D ad cy A H locs hG hP hD hS lsC hl
  have hn := ln_lt c
  have hin := in_of h0 h1 hn
  have ha : (wld ad cy σ)[c]? = some (ad c, .inl (cy 14, ln c, .inr (.inr (.inr (.inr fun j => (rfv (σ.2.2 c) c j).map ad))))) := by rw [wld_get (kd_lt (by omega)), cellE_rows hk]
  have hlt : (Int32.ofInt x).toNatClampNeg < ln c := Nat.not_le.mp fun q => hin (Or.inr q)
  have ht : (tysL cy)[4]? = some (cy 14, .array .int) := rfl
  have hv : va_rf ((rfv (σ.2.2 c) c ((Int32.ofInt x).toNatClampNeg : Nat)).map ad) = .ref (ad d) := by
    rw [clamp_of_in h0 (by omega)]
    unfold rfv
    rw [hr]
    rfl
  exact W.aald (v := .ref (ad d)) (ty := .array .int) hG.1 hG.2.1 (hP c _ ha) ((hG.2.2.2.2.2.2.2.1.2 4 _ ht).1 (ln c) (fun j => va_rf ((rfv (σ.2.2 c) c j).map ad))) rfl (fun q => by cases q) (by show ¬ (_ ∨ (arrV _ _ _).slots.size ≤ _); rw [arrV_size]; exact hin) (by show (arrV _ _ _).slots[_]? = _; rw [arrV_read _ _ hlt, hv]) rfl rfl hd (k l p e s m args below meth co D ad cy A H locs hG hP hD hS lsC hl)
-- returns
theorem a_iret {x : Int} (hr : M.2.2.2.1 = some .int) (hq : Q (some (ai x)) σ) (hd : decode M.2.1 pc = .ok (.ireturn, 1)) : RunA M Q pc ls [ai x] σ := by
  intro l p e s m args below meth co D ad cy A H locs hG hP hD hS lsC hl
  have hR := hG.2.2.1
  rw [hr] at hR ⊢
  refine W.iret (v := Int32.ofInt x) hG.1 hG.2.1 hR (fun t ht hW => ?_) hS.2.2 hd hG.2.2.2.2.2.2.1
  exact ⟨⟨_, σ, rfl, ⟨x, rfl, hq⟩, by rw [ht]; exact hP, va_K.moved hW.alike hG.2.2.2.2.2.2.2.1, hD⟩, hS.F ht⟩
theorem a_zret {x : Int} (hr : M.2.2.2.1 = some .boolean) (hx : x = 0 ∨ x = 1) (hq : Q (some (ai x)) σ) (hd : decode M.2.1 pc = .ok (.ireturn, 1)) : RunA M Q pc ls [ai x] σ := by
  intro l p e s m args below meth co D ad cy A H locs hG hP hD hS lsC hl
  have hR := hG.2.2.1
  rw [hr] at hR ⊢
  refine W.zret (v := Int32.ofInt x) hG.1 hG.2.1 hR (by rcases hx with h | h <;> subst h <;> rfl) (fun t ht hW => ?_) hS.2.2 hd hG.2.2.2.2.2.2.1
  exact ⟨⟨_, σ, rfl, ⟨x, rfl, hq⟩, by rw [ht]; exact hP, va_K.moved hW.alike hG.2.2.2.2.2.2.2.1, hD⟩, hS.F ht⟩
theorem a_lret {x : Int64} (hr : M.2.2.2.1 = some .long) (hq : Q (some (al x)) σ) (hd : decode M.2.1 pc = .ok (.lreturn, 1)) : RunA M Q pc ls [al x] σ := by
  intro l p e s m args below meth co D ad cy A H locs hG hP hD hS lsC hl
  have hR := hG.2.2.1
  rw [hr] at hR ⊢
  refine W.lret (v := x) hG.1 hG.2.1 hR (fun t ht hW => ?_) hS.2.2 hd hG.2.2.2.2.2.2.1
  exact ⟨⟨_, σ, rfl, hq, by rw [ht]; exact hP, va_K.moved hW.alike hG.2.2.2.2.2.2.2.1, hD⟩, hS.F ht⟩
theorem a_vret (hr : M.2.2.2.1 = none) (hq : Q none σ) (hd : decode M.2.1 pc = .ok (.return_, 1)) : RunA M Q pc ls [] σ := by
  intro l p e s m args below meth co D ad cy A H locs hG hP hD hS lsC hl
  have hR := hG.2.2.1
  rw [hr] at hR ⊢
  refine W.vret hG.1 hG.2.1 hR (fun t ht hW => ?_) hS.2.2 hd hG.2.2.2.2.2.2.1
  exact ⟨⟨σ, rfl, hq, by rw [ht]; exact hP, va_K.moved hW.alike hG.2.2.2.2.2.2.2.1, hD⟩, hS.F ht⟩
-- a method's entry
def argL : Nat → List Av → List (Nat × Av)
  | _, [] => []
  | i, v :: vs => (i, v) :: argL (if isLg v = true then i + 2 else i + 1) vs
theorem argL_cv (ad : Nat → Nat) : ∀ (as : List Av) (i : Nat), lv_args i (as.map (cv ad)) = cvl ad (argL i as)
  | [], _ => rfl
  | v :: vs, i => by
    have h := cv_cat ad v
    show (i, cv ad v) :: lv_args (if (cv ad v).category = 2 then i + 2 else i + 1) (vs.map (cv ad)) = _
    have e : (if (cv ad v).category = 2 then i + 2 else i + 1) = if isLg v = true then i + 2 else i + 1 := by
      rw [← h]
      simp only [beq_iff_eq]
    rw [e, argL_cv ad vs]
    rfl
def wdA (as : List Av) : Nat := (as.map fun v => if isLg v = true then 2 else 1).sum
theorem wdA_len (ad : Nat → Nat) : ∀ as : List Av, (lg_sl (as.map (cv ad))).length = wdA as
  | [] => rfl
  | v :: vs => by
    have h := cv_cat ad v
    have ih := wdA_len ad vs
    show (lg_sl (cv ad v :: vs.map (cv ad))).length = (if isLg v = true then 2 else 1) + wdA vs
    rw [← ih, ← h]
    unfold lg_sl
    rw [List.flatMap_cons, List.length_append]
    simp only [beq_iff_eq]
    split <;> rfl
theorem a_entry {as : List Av} (hy : plainName M.1.cls = true) (hw : wdA as ≤ M.2.2.1) (k : RunA M Q 0 (argL 0 as) [] σ) : MetA M as σ Q := by
  intro l D ad cy sz
  refine Met.ofW (cc := M.2.1) (maxL := M.2.2.1) (ret := M.2.2.2.1) hy rfl ?_
  intro p e s m args below meth c s₁ B hml hv
  obtain ⟨rfl, hsz, hP, hK, hD0, hNW, hSK⟩ := hv
  subst hsz
  have hD := hD0.self (sz := s.heap.size)
  have hl := lv_entry (as.map (cv ad)) (n := M.2.2.1) (by rw [wdA_len]; exact hw)
  rw [lg_entry_eq]
  rw [argL_cv] at hl
  exact k l p e s m _ below meth c D ad cy _ s.heap [] ⟨B.exec, B.bytes, B.returns, hml, findClass_of_methodNamed B.named, atoms_spec (ws := WS M) B.pre, B.notSynchronized, hK, fun q h => Or.inr h, hNW, hSK⟩ hP hD va_S.rf _ hl
-- calls
theorem Gw_good {w : Cond} (h : w ∈ Gw) : goodWord w = true := (List.mem_filter.mp h).2
theorem good_cons {w0 : Cond} {ws : List Cond} (h : ∀ w ∈ ws, w ∈ Gw) : GoodIn (w0 :: Gw) ws := fun w hw => ⟨List.mem_cons_of_mem _ (h w hw), good_of_word (Gw_good (h w hw))⟩
/-- what the tables say of a method that is called by its own name -/
def MI (M' : Mth) (n : Nat) : Prop := Cond.code M'.1 M'.2.1 M'.2.2.1 M'.2.2.2.1 ∈ Gw ∧ Cond.initialized M'.1.cls ∈ Gw ∧ M'.1.cls ≠ "java/lang/invoke/MethodHandle" ∧ M'.1.cls ≠ "java/lang/invoke/VarHandle" ∧ (parseMethodDescriptor M'.1.desc).map (fun d => d.parameters.length) = some n
def MV (M' : Mth) (n : Nat) : Prop := MI M' n ∧ Cond.instanceMethod M'.1 ∈ Gw ∧ Cond.selects M'.1.cls M'.1 M'.1 ∈ Gw
def MS (M' : Mth) (n : Nat) : Prop := MI M' n ∧ Cond.static M'.1 ∈ Gw
theorem WS_in {M' : Mth} {n : Nat} (h : MI M' n) : ∀ w ∈ WS M', w ∈ Gw := fun w hw => (List.mem_cons.mp hw).elim (fun e => by rw [e]; exact h.1) id
theorem cat_sum (ad : Nat → Nat) (as : List Av) : ((as.map (cv ad)).map fun v => v.category).sum = wdA as := by
  unfold wdA
  rw [List.map_map]
  congr 1
  apply List.map_congr_left
  intro v _
  rcases v with x | x | x
  · rfl
  · rfl
  · cases x <;> rfl
theorem pre_blind {D : va_G} {ad : Nat → Nat} {cy : Nat → ClassId} {sz : Nat} {av : List Value} : FrameBlind (va_Pc av (fun U => U.heap.size = sz ∧ va_P D vwCl (wld ad cy σ) U.heap ∧ va_K D vwCl (tysL cy) U ∧ va_D (fun _ => True) (wld ad cy σ) ∧ NWs U ∧ SK ad (va_A (wld ad cy σ) sz) U)) := by
  intro a U g mk q
  obtain ⟨q0, q1, qP, qK, qD, qN, qS⟩ := q
  exact ⟨q0, q1, qP, va_K.moved (u := U) (U := U.calling g mk a) (Vm.Alike.refl U.vm) qK, qD, NWs.same (s := U) (U := U.calling g mk a) rfl qN, qS.blind g mk a⟩
theorem free_of {ad : Nat → Nat} {cy : Nat → ClassId} {A : Nat → Prop} {s : State} {H : Heap} {locs : List Loc} (hD : va_D A (wld ad cy σ)) (hS : va_S A s.heap H locs) (hA : ∀ q : Nat, s.heap.size ≤ q → A q) : ∀ q, va_A (wld ad cy σ) H.size q → A q := by
  rintro q (⟨k, e, h⟩ | h)
  · exact hD.2 k _ h
  · exact hA q (Nat.le_trans hS.1 h)
/-- behind a call: the world that came back -/
theorem back_w {p : Program} {l : Launch} {e : Env} {s : State} {m : MethodId} {args : Array Value} {below : List Frame} {meth : Method} {c : Code} {D : va_G} {ad : Nat → Nat} {cy : Nat → ClassId} {A : Nat → Prop} {H : Heap} {locs : List Loc} {lsC : Array Slot} {rk : Nat} {Q' : Option Av → Sto → Prop} {st0 rs : List Value} {a : Array Value}
    (hG : Stg M p s m args meth c D ad cy A) (hD : va_D A (wld ad cy σ)) (hS : va_S A s.heap H locs) (hl : lv_has lsC M.2.2.1 (cvl ad ls)) (hrs : rs = rest.map (cv ad))
    (hr : va_Run p l e (rmM M) s m args below meth c H locs 0 0 0 0 (F0 m pc lsC st0) rs (QcA D ad cy (va_A (wld ad cy σ) H.size) rk Q' a) (va_A (wld ad cy σ) H.size))
    (k0 : rk = 0 → ∀ u, Q' none u → RunA M Q (pc + 3) ls rest u) (k2 : rk = 2 → ∀ x u, Q' (some (al x)) u → RunA M Q (pc + 3) ls (al x :: rest) u) (k1 : rk ≠ 0 → rk ≠ 2 → ∀ x u, Q' (some (ai x)) u → RunA M Q (pc + 3) ls (ai x :: rest) u) :
    W p l e (rmM M) s m args below meth c H locs 0 0 (MQ below (QcA D ad cy A (rkO M.2.2.2.1) Q) args s 0 0 A) (F0 m pc lsC st0) := by
  subst hrs
  have hF := free_of hD hS hG.2.2.2.2.2.2.2.2.1
  have hK := hG.2.2.2.2.2.2.2.1
  unfold QcA at hr
  by_cases h0 : rk = 0
  · rw [if_pos h0] at hr
    refine va_callv hr hS (fun q _ h => hF q h) hF (fun u t H1 locs1 ht hvm hw hB hz1 hk1 hS1 => ?_)
    obtain ⟨hP1, hK1, hD1⟩ := hB
    rw [ht] at hP1
    exact k0 h0 u hw l p e s m args below meth c D ad cy A H1 locs1 hG hP1 ⟨hD1.1, fun k q h => hF _ (hD1.2 k q h)⟩ hS1 lsC hl
  · rw [if_neg h0] at hr
    by_cases h2 : rk = 2
    · rw [if_pos h2] at hr
      refine va_calll hr hS (fun q _ h => hF q h) hF (fun r u t H1 locs1 ht hvm hw hB hz1 hk1 hS1 => ?_)
      obtain ⟨hP1, hK1, hD1⟩ := hB
      rw [ht] at hP1
      exact k2 h2 r u hw l p e s m args below meth c D ad cy A H1 locs1 hG hP1 ⟨hD1.1, fun k q h => hF _ (hD1.2 k q h)⟩ hS1 lsC hl
    · rw [if_neg h2] at hr
      refine va_calli hr hS (fun q _ h => hF q h) hF (fun r u t H1 locs1 ht hvm hw hB hz1 hk1 hS1 => ?_)
      obtain ⟨x, rfl, hw⟩ := hw
      obtain ⟨hP1, hK1, hD1⟩ := hB
      rw [ht] at hP1
      exact k1 h0 h2 x u hw l p e s m args below meth c D ad cy A H1 locs1 hG hP1 ⟨hD1.1, fun k q h => hF _ (hD1.2 k q h)⟩ hS1 lsC hl
theorem roomOK {M' : Mth} (h1 : M'.2.2.2.2.1 + 1 ≤ M.2.2.2.2.1) (h2 : 8 + (M'.2.2.1 + 11) + M'.2.2.2.2.2 ≤ M.2.2.2.2.2) : (rmM M').frames + 1 ≤ (rmM M).frames ∧ 8 + (M'.2.2.1 + 11) + (rmM M').locals ≤ (rmM M).locals := ⟨h1, h2⟩
theorem a_callG {M' : Mth} {as st : List Av} {c n idx ci : Nat} {Q' : Option Av → Sto → Prop} (hM : MetA M' (ar c :: as) σ Q') (hV : MV M' n) (hlk : Cond.methodLink M.1.cls idx M'.1 ∈ Gw) (hk : kd c = ci) (hc : ci < 10) (hcl : Cn ci = M'.1.cls) (hst : st = as.reverse ++ ar c :: rest) (hn : as.length = n) (h1 : M'.2.2.2.2.1 + 1 ≤ M.2.2.2.2.1) (h2 : 8 + (M'.2.2.1 + 11) + M'.2.2.2.2.2 ≤ M.2.2.2.2.2) (hw : wdA rest ≤ 8) (hd : decode M.2.1 pc = .ok (.invokevirtual idx, 3))
    (k0 : rkO M'.2.2.2.1 = 0 → ∀ u, Q' none u → RunA M Q (pc + 3) ls rest u) (k2 : rkO M'.2.2.2.1 = 2 → ∀ x u, Q' (some (al x)) u → RunA M Q (pc + 3) ls (al x :: rest) u) (k1 : rkO M'.2.2.2.1 ≠ 0 → rkO M'.2.2.2.1 ≠ 2 → ∀ x u, Q' (some (ai x)) u → RunA M Q (pc + 3) ls (ai x :: rest) u) : RunA M Q pc ls st σ := by
  subst hst
  intro l p e s m args below meth co D ad cy A H locs hG hP hD hS lsC hl
  obtain ⟨hx, hb, hr, hml, hown, hts, hlocks, hK, hA, hNW, hSK⟩ := id hG
  obtain ⟨hI, hV1, hV2⟩ := hV
  have hgood : GoodIn (WS M) (wsV M.1.cls idx M'.1.cls M'.1 (WS M')) := by
    refine good_cons fun w hw => ?_
    rcases List.mem_append.mp hw with h | h
    · simp only [List.mem_cons, List.mem_nil_iff, or_false] at h
      rcases h with h | h | h | h <;> rw [h]
      · exact hlk
      · exact hV1
      · exact hV2
      · exact hI.2.1
    · exact WS_in hI w h
  refine back_w (rs := rest.map (cv ad)) hG hD hS hl rfl (va_runV (C := M'.1.cls) (As := as.map (cv ad)) (b := ad c) ⟨hx, hb, hml, hown, hts⟩ (hM l D ad cy H.size) (cwV n hts hgood rfl rfl rfl ⟨rfl, hI.2.2.1, hI.2.2.2.1, hI.2.2.2.2⟩ (roomOK h1 h2)) ⟨pre_blind, ?_, fun U hU hW => ⟨rfl, by rw [hU], by rw [hU]; exact hP, va_K.moved hW.alike hK, ⟨hD.1, fun _ _ _ => trivial⟩, NWs.warm hW hNW, hSK.call hW (fun a q0 q1 => by rw [hU]; exact hS.2.1 a q0 q1) (free_of hD hS hA)⟩⟩ rfl (by rw [List.length_map]; exact hn) hl.1 ?_ (lv_room (by rw [cat_sum]; exact hw)) hd ⟨Nat.le_refl _, Nat.le_refl _⟩) k0 k2 k1
  · have h := va_recv hK hP (cl_at ci hc) (obj_at hk hc)
    rw [hcl] at h
    exact h
  · show (as.reverse ++ ar c :: rest).map (cv ad) = (as.map (cv ad)).reverse ++ .ref (ad c) :: rest.map (cv ad)
    rw [List.map_append, List.map_reverse]
    rfl
theorem a_callI {M' : Mth} {as st : List Av} {c n idx ci : Nat} {Q' : Option Av → Sto → Prop} (hM : MetA M' (ar c :: as) σ Q') (hV : MV M' n) (hlk : Cond.methodLink M.1.cls idx M'.1 ∈ Gw) (hk : kd c = ci) (hc : ci < 10) (hcl : Cn ci = M'.1.cls) (hret : rkO M'.2.2.2.1 = 1) (hst : st = as.reverse ++ ar c :: rest) (hn : as.length = n) (h1 : M'.2.2.2.2.1 + 1 ≤ M.2.2.2.2.1) (h2 : 8 + (M'.2.2.1 + 11) + M'.2.2.2.2.2 ≤ M.2.2.2.2.2) (hw : wdA rest ≤ 8) (hd : decode M.2.1 pc = .ok (.invokevirtual idx, 3))
    (k : ∀ x u, Q' (some (ai x)) u → RunA M Q (pc + 3) ls (ai x :: rest) u) : RunA M Q pc ls st σ :=
  a_callG hM hV hlk hk hc hcl hst hn h1 h2 hw hd (fun h => by rw [hret] at h; cases h) (fun h => by rw [hret] at h; cases h) (fun _ _ => k)
theorem a_callL {M' : Mth} {as st : List Av} {c n idx ci : Nat} {Q' : Option Av → Sto → Prop} (hM : MetA M' (ar c :: as) σ Q') (hV : MV M' n) (hlk : Cond.methodLink M.1.cls idx M'.1 ∈ Gw) (hk : kd c = ci) (hc : ci < 10) (hcl : Cn ci = M'.1.cls) (hret : rkO M'.2.2.2.1 = 2) (hst : st = as.reverse ++ ar c :: rest) (hn : as.length = n) (h1 : M'.2.2.2.2.1 + 1 ≤ M.2.2.2.2.1) (h2 : 8 + (M'.2.2.1 + 11) + M'.2.2.2.2.2 ≤ M.2.2.2.2.2) (hw : wdA rest ≤ 8) (hd : decode M.2.1 pc = .ok (.invokevirtual idx, 3))
    (k : ∀ x u, Q' (some (al x)) u → RunA M Q (pc + 3) ls (al x :: rest) u) : RunA M Q pc ls st σ :=
  a_callG hM hV hlk hk hc hcl hst hn h1 h2 hw hd (fun h => by rw [hret] at h; cases h) (fun _ => k) (fun _ h => absurd hret h)
theorem a_callV {M' : Mth} {as st : List Av} {c n idx ci : Nat} {Q' : Option Av → Sto → Prop} (hM : MetA M' (ar c :: as) σ Q') (hV : MV M' n) (hlk : Cond.methodLink M.1.cls idx M'.1 ∈ Gw) (hk : kd c = ci) (hc : ci < 10) (hcl : Cn ci = M'.1.cls) (hret : rkO M'.2.2.2.1 = 0) (hst : st = as.reverse ++ ar c :: rest) (hn : as.length = n) (h1 : M'.2.2.2.2.1 + 1 ≤ M.2.2.2.2.1) (h2 : 8 + (M'.2.2.1 + 11) + M'.2.2.2.2.2 ≤ M.2.2.2.2.2) (hw : wdA rest ≤ 8) (hd : decode M.2.1 pc = .ok (.invokevirtual idx, 3))
    (k : ∀ u, Q' none u → RunA M Q (pc + 3) ls rest u) : RunA M Q pc ls st σ :=
  a_callG hM hV hlk hk hc hcl hst hn h1 h2 hw hd (fun _ => k) (fun h => by rw [hret] at h; cases h) (fun h _ => absurd hret h)
theorem a_callSG {M' : Mth} {as st : List Av} {n idx : Nat} {Q' : Option Av → Sto → Prop} (hM : MetA M' as σ Q') (hV : MS M' n) (hlk : Cond.methodLink M.1.cls idx M'.1 ∈ Gw ∨ (M.1.cls, idx, M'.1) ∈ NWt) (hst : st = as.reverse ++ rest) (hn : as.length = n) (h1 : M'.2.2.2.2.1 + 1 ≤ M.2.2.2.2.1) (h2 : 8 + (M'.2.2.1 + 11) + M'.2.2.2.2.2 ≤ M.2.2.2.2.2) (hw : wdA rest ≤ 8) (hd : decode M.2.1 pc = .ok (.invokestatic idx, 3))
    (k0 : rkO M'.2.2.2.1 = 0 → ∀ u, Q' none u → RunA M Q (pc + 3) ls rest u) (k2 : rkO M'.2.2.2.1 = 2 → ∀ x u, Q' (some (al x)) u → RunA M Q (pc + 3) ls (al x :: rest) u) (k1 : rkO M'.2.2.2.1 ≠ 0 → rkO M'.2.2.2.1 ≠ 2 → ∀ x u, Q' (some (ai x)) u → RunA M Q (pc + 3) ls (ai x :: rest) u) : RunA M Q pc ls st σ := by
  subst hst
  intro l p e s m args below meth co D ad cy A H locs hG hP hD hS lsC hl
  obtain ⟨hx, hb, hr, hml, hown, hts, hlocks, hK, hA, hNW, hSK⟩ := id hG
  obtain ⟨hI, hV1⟩ := hV
  have hgood : GoodIn (WS M) (WS M') := good_cons (WS_in hI)
  have hg9 : ∀ w ∈ Gw, w.before args s = true := fun w hw => hts w (List.mem_cons_of_mem _ hw)
  have hsk : (as.reverse ++ rest).map (cv ad) = (as.map (cv ad)).reverse ++ rest.map (cv ad) := by rw [List.map_append, List.map_reverse]
  have hps : PreS s H (va_Pc (as.map (cv ad)) (fun U => U.heap.size = H.size ∧ va_P D vwCl (wld ad cy σ) U.heap ∧ va_K D vwCl (tysL cy) U ∧ va_D (fun _ => True) (wld ad cy σ) ∧ NWs U ∧ SK ad (va_A (wld ad cy σ) H.size) U)) (as.map (cv ad)) := ⟨pre_blind, fun U hU hW => ⟨rfl, by rw [hU], by rw [hU]; exact hP, va_K.moved hW.alike hK, ⟨hD.1, fun _ _ _ => trivial⟩, NWs.warm hW hNW, hSK.call hW (fun a q0 q1 => by rw [hU]; exact hS.2.1 a q0 q1) (free_of hD hS hA)⟩⟩
  rcases hlk with hlk | hlk
  · exact back_w (rs := rest.map (cv ad)) hG hD hS hl rfl (va_runS (As := as.map (cv ad)) ⟨hx, hb, hml, hown, hts⟩ (hM l D ad cy H.size) ⟨callB_of n hts hgood rfl rfl rfl (hg9 _ hI.2.1) (hg9 _ hlk) ⟨hI.2.2.1, hI.2.2.2.1, hI.2.2.2.2⟩ (roomOK h1 h2), hg9 _ hV1⟩ hps rfl (by rw [List.length_map]; exact hn) hl.1 hsk (lv_room (by rw [cat_sum]; exact hw)) hd ⟨Nat.le_refl _, Nat.le_refl _⟩) k0 k2 k1
  · exact back_w (rs := rest.map (cv ad)) hG hD hS hl rfl (va_runSN (host := "DayProfiles") (As := as.map (cv ad)) ⟨hx, hb, hml, hown, hts⟩ (hM l D ad cy H.size) ⟨va_cnB n hts hgood rfl rfl rfl (hNW _ hlk) (hg9 _ hI.2.1) ⟨hI.2.2.1, hI.2.2.2.1, hI.2.2.2.2⟩ (roomOK h1 h2), hg9 _ hV1, trivial⟩ hps rfl (by rw [List.length_map]; exact hn) hl.1 hsk (lv_room (by rw [cat_sum]; exact hw)) hd ⟨Nat.le_refl _, Nat.le_refl _⟩) k0 k2 k1
theorem a_callSI {M' : Mth} {as st : List Av} {n idx : Nat} {Q' : Option Av → Sto → Prop} (hM : MetA M' as σ Q') (hV : MS M' n) (hlk : Cond.methodLink M.1.cls idx M'.1 ∈ Gw ∨ (M.1.cls, idx, M'.1) ∈ NWt) (hret : rkO M'.2.2.2.1 = 1) (hst : st = as.reverse ++ rest) (hn : as.length = n) (h1 : M'.2.2.2.2.1 + 1 ≤ M.2.2.2.2.1) (h2 : 8 + (M'.2.2.1 + 11) + M'.2.2.2.2.2 ≤ M.2.2.2.2.2) (hw : wdA rest ≤ 8) (hd : decode M.2.1 pc = .ok (.invokestatic idx, 3))
    (k : ∀ x u, Q' (some (ai x)) u → RunA M Q (pc + 3) ls (ai x :: rest) u) : RunA M Q pc ls st σ :=
  a_callSG hM hV hlk hst hn h1 h2 hw hd (fun h => by rw [hret] at h; cases h) (fun h => by rw [hret] at h; cases h) (fun _ _ => k)
theorem a_callSL {M' : Mth} {as st : List Av} {n idx : Nat} {Q' : Option Av → Sto → Prop} (hM : MetA M' as σ Q') (hV : MS M' n) (hlk : Cond.methodLink M.1.cls idx M'.1 ∈ Gw ∨ (M.1.cls, idx, M'.1) ∈ NWt) (hret : rkO M'.2.2.2.1 = 2) (hst : st = as.reverse ++ rest) (hn : as.length = n) (h1 : M'.2.2.2.2.1 + 1 ≤ M.2.2.2.2.1) (h2 : 8 + (M'.2.2.1 + 11) + M'.2.2.2.2.2 ≤ M.2.2.2.2.2) (hw : wdA rest ≤ 8) (hd : decode M.2.1 pc = .ok (.invokestatic idx, 3))
    (k : ∀ x u, Q' (some (al x)) u → RunA M Q (pc + 3) ls (al x :: rest) u) : RunA M Q pc ls st σ :=
  a_callSG hM hV hlk hst hn h1 h2 hw hd (fun h => by rw [hret] at h; cases h) (fun _ => k) (fun _ h => absurd hret h)
end AMC
