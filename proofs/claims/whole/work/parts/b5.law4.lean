/-! The case of ride; the law's loop. -/
theorem lL_40 : Cond.methodLink RL 40 yX9_ride ∈ Gw := by decide +kernel
theorem lL_41 : Cond.methodLink RL 41 yX9_thrown ∈ Gw := by decide +kernel
section LOOP
variable {p : Program} {l : Launch} {e : Env} {s : State} {m : MethodId} {below : List Frame} {meth : Method} {c : Code} {b L : Nat} {xs : Nat → Int32} {D : va_G} {ad : Nat → Nat} {cy : Nat → ClassId} {j kc ks : Nat} {σ : Sto}
theorem w_argL {H : Heap} {locs : List Loc} {lsC : Array Slot} {pc : Nat} {st : List Value} (k : Nat) (hC : LX p l s m meth c b L xs D ad cy) (hj : 6 * j + 6 ≤ L) (hk : k ≤ 5) (hS : va_S (LA s) s.heap H locs) (h0 : lsC[0]? = some (.val (.ref b))) (h4 : lsC[4]? = some (.val (.int (Int32.ofInt (6 * (j : Int)))))) (d0 : decode code pc = .ok (.aload_n 0, 1)) (d1 : decode code (pc + 1) = .ok (.iload 4, 2)) (d3 : decode code (pc + 3) = .ok (.iconst (k : Int), 1)) (d4 : decode code (pc + 4) = .ok (.iadd, 1)) (d5 : decode code (pc + 5) = .ok (.iaload, 1))
    (kk : W p l e room_1 s m #[Value.ref b] below meth c H locs kc ks (lw_Z below #[Value.ref b] s) (F0 m (pc + 6) lsC (.int (Int32.ofInt (agI xs j k)) :: st))) : W p l e room_1 s m #[Value.ref b] below meth c H locs kc ks (lw_Z below #[Value.ref b] s) (F0 m pc lsC st) := by
  refine lv_aload_n hC.1.1 hC.1.2.1 d0 rfl h0 ?_
  refine lv_iload hC.1.1 hC.1.2.1 d1 h4 ?_
  refine lv_iconst (v := Int32.ofInt (k : Int)) hC.1.1 hC.1.2.1 d3 rfl ?_
  refine lv_iadd hC.1.1 hC.1.2.1 d4 ?_
  rw [← Int32.ofInt_add]
  exact l_sc hC (by omega) H locs lsC hS d5 kk
theorem w_callL {H : Heap} {locs : List Loc} {lsC : Array Slot} {pc : Nat} {st : List Value} {M' : Mth} {as : List Av} {k n idx ci : Nat} {Q' : Option Av → Sto → Prop} (hC : LX p l s m meth c b L xs D ad cy) (hM : MetA M' (ar k :: as) σ Q') (hV : MV M' n) (hlk : Cond.methodLink RL idx M'.1 ∈ Gw) (hk : kd k = ci) (hc : ci < 10) (hcl : Cn ci = M'.1.cls) (hret : rkO M'.2.2.2.1 = 1) {st0 : List Value} (hst : st0 = (as.map (cv ad)).reverse ++ .ref (ad k) :: st) (hn : as.length = n) (h1 : M'.2.2.2.2.1 + 1 ≤ 14) (h2 : 8 + (M'.2.2.1 + 11) + M'.2.2.2.2.2 ≤ 524) (hw : (st.map fun v => v.category).sum ≤ 8) (hkc : kc ≤ 601024) (hks : ks ≤ 7293034) (hd : decode code pc = .ok (.invokevirtual idx, 3))
    (hP : va_P D vwCl (wld ad cy σ) H) (hD : va_D (LA s) (wld ad cy σ)) (hS : va_S (LA s) s.heap H locs) (hls : lsC.size = 7)
    (kk : ∀ x u, Q' (some (ai x)) u → ∀ (H1 : Heap) (locs1 : List Loc), va_P D vwCl (wld ad cy u) H1 → va_D (LA s) (wld ad cy u) → va_S (LA s) s.heap H1 locs1 → W p l e room_1 s m #[Value.ref b] below meth c H1 locs1 kc ks (lw_Z below #[Value.ref b] s) (F0 m (pc + 3) lsC (.int (Int32.ofInt x) :: st))) : W p l e room_1 s m #[Value.ref b] below meth c H locs kc ks (lw_Z below #[Value.ref b] s) (F0 m pc lsC st0) := by
  subst hst
  obtain ⟨⟨hx, hb, hr, hml, hown, hts⟩, ⟨hX, hbl, hlocks, hL⟩, hK, hNW, hSK, hTX, hNC, hfl⟩ := hC
  obtain ⟨hI, hV1, hV2⟩ := hV
  have hA : ∀ q : Nat, s.heap.size ≤ q → LA s q := fun _ h => h
  have hF := free_of hD hS hA
  have hgood : GoodIn lw_tbl (wsV RL idx M'.1.cls M'.1 (WS M')) := by
    refine good_Gw fun w hw => ?_
    rcases List.mem_append.mp hw with h | h
    · simp only [List.mem_cons, List.mem_nil_iff, or_false] at h
      rcases h with h | h | h | h <;> rw [h]
      · exact hlk
      · exact hV1
      · exact hV2
      · exact hI.2.1
    · exact WS_in hI w h
  have hrec := va_recv hK hP (cl_at ci hc) (obj_at hk hc)
  rw [hcl] at hrec
  have hrun := va_runV (R := room_1) (l := l) (e := e) (below := below) (meth := meth) (H := H) (locs := locs) (cells := kc) (slots := ks) (C := M'.1.cls) (As := as.map (cv ad)) (rest := st) (b := ad k) (g := F0 m pc lsC ((as.map (cv ad)).reverse ++ .ref (ad k) :: st)) ⟨hx, hb, hml, hown, hts⟩ (hM l D ad cy H.size) (cwV n hts hgood rfl rfl rfl ⟨rfl, hI.2.2.1, hI.2.2.2.1, hI.2.2.2.2⟩ ⟨h1, h2⟩) ⟨pre_blind, hrec, fun U hU hW => ⟨rfl, by rw [hU], by rw [hU]; exact hP, va_K.moved hW.alike hK, ⟨hD.1, fun _ _ _ => trivial⟩, NWs.warm hW hNW, hSK.call hW (fun a q0 q1 => by rw [hU]; exact hS.2.1 a q0 q1) hF⟩⟩ rfl (by rw [List.length_map]; exact hn) hls rfl (lv_room hw) hd ⟨hkc, hks⟩
  unfold QcA at hrun
  rw [hret, if_neg (by decide), if_neg (by decide)] at hrun
  refine va_calli hrun hS (fun q _ h => hF q h) hF (fun r u t H1 locs1 ht hvm hw hB hz1 hk1 hS1 => ?_)
  obtain ⟨x, rfl, hw⟩ := hw
  obtain ⟨hP1, hK1, hD1⟩ := hB
  rw [ht] at hP1
  exact kk x u hw H1 locs1 hP1 ⟨hD1.1, fun k q h => hF _ (hD1.2 k q h)⟩ hS1
theorem rv_out (σ : Sto) (v : Int64) (i what : Int) : rideV (sL σ 175 0 v) i what = rideV σ i what := rfl
set_option maxRecDepth 20000 in
theorem case_3 (hC : LX p l s m meth c b L xs D ad cy) (hj : 6 * j + 6 ≤ L) (hkc : kc + 1 ≤ 601024) (hks : ks + 6 ≤ 7293034) (hI : INV σ) (kk : ∀ w, INV w → RunL p l e s m below meth c b D ad cy j (kc + 1) (ks + 6) 2479 [] w) : RunL p l e s m below meth c b D ad cy j kc ks 355 [] σ := by
  refine l_x hC dL_law_355 ?_
  refine l_arg 1 hC hj (by omega) dL_law_356 dL_law_357 dL_law_359 dL_law_360 dL_law_361 ?_
  refine l_arg 2 hC hj (by omega) dL_law_362 dL_law_363 dL_law_365 dL_law_366 dL_law_367 ?_
  refine l_o hC dL_law_368 ?_
  obtain ⟨N, N', L0, hA, hB, hCc, hD0, hE⟩ := hI
  have hi := ag_R xs j 1
  have hw := ag_R xs j 2
  obtain ⟨i, ei⟩ : ∃ i, agI xs j 1 = i := ⟨_, rfl⟩
  obtain ⟨what, ew⟩ : ∃ what, agI xs j 2 = what := ⟨_, rfl⟩
  rw [ei] at hi ⊢
  rw [ew] at hw ⊢
  intro H locs hP hD hS lsC hl
  refine w_lride (N := N) (i := i) (what := what) hC hB.1 hA.1 hi hw hkc hks hP hD hS hl.1 dL_law_369 (fun H1 locs1 hP1 hD1 hS1 => ?_)
  have key : ∃ u : Sto, (lrU σ (lkN σ) i what).1 = u ∧ (IA u N N' ∧ IB u ∧ IC u ∧ ID u L0 ∧ IE u) ∧ rideV u i what = rideV σ i what ∧ (lrU σ (lkN σ) i what).2 = (rideV σ i what).2 ∧ ((rideV σ i what).2 = 0 → gL u 175 0 = (Int32.ofInt (rideV σ i what).1).toInt64) := by
    by_cases h1 : 0 ≤ i ∧ i < gN σ 155 3
    · by_cases h2 : 0 ≤ what ∧ what ≤ 8
      · have eU : lrU σ (lkN σ) i what = (sL σ 175 0 (Int32.ofInt (cRide (lkN σ) i what)).toInt64, 0) := by
          have h1' : 0 ≤ i ∧ i < gN (lkN σ) 155 3 := h1
          unfold lrU; rw [if_pos h1', if_pos h2]
        have q := q_ride hB.1 h1.1 h1.2 h2.1 h2.2
        refine ⟨_, by rw [eU], INV.out hA hB hCc hD0 hE _, rv_out _ _ _ _, by rw [eU, q.2], fun _ => ?_⟩
        rw [gL_sL, if_pos ⟨rfl, rfl⟩, q.1]
      · have eU : lrU σ (lkN σ) i what = (σ, 2) := by
          have h1' : 0 ≤ i ∧ i < gN (lkN σ) 155 3 := h1
          unfold lrU; rw [if_pos h1', if_neg h2]
        have q := q_ride2 (σ := σ) (i := i) (what := what) h1 (by omega)
        exact ⟨σ, by rw [eU], ⟨hA, hB, hCc, hD0, hE⟩, rfl, by rw [eU, q], fun z => by omega⟩
    · have eU : lrU σ (lkN σ) i what = (σ, 1) := by
        have h1' : ¬ (0 ≤ i ∧ i < gN (lkN σ) 155 3) := h1
        unfold lrU; rw [if_neg h1']
      have q := q_ride1 (σ := σ) (i := i) (what := what) h1
      exact ⟨σ, by rw [eU], ⟨hA, hB, hCc, hD0, hE⟩, rfl, by rw [eU, q], fun z => by omega⟩
  obtain ⟨u, hu1, hInv, hrv, hk, hout⟩ := key
  rw [hu1] at hP1 hD1
  rw [hk]
  obtain ⟨hAu, hBu, hCu, hDu, hEu⟩ := hInv
  have hx := hC.1.1
  have hb := hC.1.2.1
  have hK := hC.2.2.1
  have krng : (rideV σ i what).2 = 0 ∨ (rideV σ i what).2 = 1 ∨ (rideV σ i what).2 = 2 := by
    unfold rideV
    split
    · exact Or.inr (Or.inl rfl)
    · split
      · exact Or.inl rfl
      · split
        · exact Or.inl rfl
        · split
          · exact Or.inl rfl
          · split
            · exact Or.inl rfl
            · exact Or.inr (Or.inr rfl)
  obtain ⟨v, k, hvk⟩ : ∃ v k, rideV σ i what = (v, k) := ⟨_, _, rfl⟩
  rw [hvk] at krng hout hrv ⊢
  have krng : k = 0 ∨ k = 1 ∨ k = 2 := krng
  have hout : k = 0 → gL u 175 0 = (Int32.ofInt v).toInt64 := hout
  refine lv_istore (lv' := [(5, .int (Int32.ofInt k)), (0, .ref b), (1, .ref (ad 0)), (2, .ref (ad 153)), (3, .ref (ad 175)), (4, .int (Int32.ofInt (6 * (j : Int))))]) hx hb dL_law_372 hl (by decide) rfl (fun ls5 hl5 => ?_)
  refine lv_aload_n hx hb dL_law_374 rfl (lv_at hl5 3 rfl) ?_
  refine w_argL 1 hC hj (by omega) hS1 (lv_at hl5 1 rfl) (lv_at hl5 5 rfl) dL_law_375 dL_law_376 dL_law_378 dL_law_379 dL_law_380 ?_
  refine w_argL 2 hC hj (by omega) hS1 (lv_at hl5 1 rfl) (lv_at hl5 5 rfl) dL_law_381 dL_law_382 dL_law_384 dL_law_385 dL_law_386 ?_
  rw [ei, ew]
  refine w_callL (as := [ai i, ai what]) (st := []) hC (t_ride u i what hi hw hBu.1.1 hBu.2.1) mvX9_ride lL_40 k153 (by decide) rfl rfl rfl rfl (Nat.le_of_ble_eq_true rfl) (Nat.le_of_ble_eq_true rfl) (Nat.le_of_ble_eq_true rfl) hkc hks dL_law_387 hP1 hD1 hS1 hl5.1 (fun x w hq H2 locs2 hP2 hD2 hS2 => ?_)
  obtain ⟨hq1, hq2, hq3, hq4⟩ := hq
  rw [hrv] at hq1 hq4
  have ex : x = v := sai hq1
  subst ex
  have hw0 : gN w 153 0 = k := hq4
  have hIw : INV w := INV.ref hAu hBu hCu hDu hEu hq2 hq3
  refine lv_istore (lv' := [(6, .int (Int32.ofInt x)), (5, .int (Int32.ofInt k)), (0, .ref b), (1, .ref (ad 0)), (2, .ref (ad 153)), (3, .ref (ad 175)), (4, .int (Int32.ofInt (6 * (j : Int))))]) hx hb dL_law_390 hl5 (by decide) rfl (fun ls6 hl6 => ?_)
  refine lv_aload_n hx hb dL_law_392 rfl (lv_at hl6 4 rfl) ?_
  refine w_callL (as := []) (st := []) hC (t_thrown w) mvX9_thrown lL_41 k153 (by decide) rfl rfl rfl rfl (Nat.le_of_ble_eq_true rfl) (Nat.le_of_ble_eq_true rfl) (Nat.le_of_ble_eq_true rfl) hkc hks dL_law_393 hP2 hD2 hS2 hl6.1 (fun y w' hq H3 locs3 hP3 hD3 hS3 => ?_)
  obtain ⟨hy, rfl⟩ := hq
  have ey : y = k := (sai hy).trans hw0
  subst ey
  have last : ∀ (pc : Nat), pc = 420 → W p l e room_1 s m #[Value.ref b] below meth c H3 locs3 (kc + 1) (ks + 6) (lw_Z below #[Value.ref b] s) (F0 m pc ls6 []) := fun pc hp => by
    subst hp
    refine lv_goto (tgt := 2479) hx hb dL_law_420 (by decide) ?_
    exact kk w' hIw H3 locs3 hP3 hD3 hS3 ls6 (lv_sub hl6 [2, 3, 4, 5, 6] rfl)
  refine lv_iload hx hb dL_law_396 (lv_at hl6 1 rfl) ?_
  refine lv_icmp_eq (tgt := 403) hx hb dL_law_398 (by decide) (fun _ => ?_) (fun z => absurd rfl z)
  refine lv_iload hx hb dL_law_403 (lv_at hl6 1 rfl) ?_
  refine lv_if_ne (tgt := 420) hx hb dL_law_405 (by decide) (fun _ => last 420 rfl) (fun z => ?_)
  have y0 : y = 0 := (i_eq (by unfold inR; omega) inR0).mp z
  refine lv_aload_n hx hb dL_law_408 rfl (lv_at hl6 5 rfl) ?_
  refine lv_iconst (v := Int32.ofInt 0) hx hb dL_law_409 rfl ?_
  refine va_lald hx hb hK hP3 175 2 (by rw [wld_get (kd_lt (by rw [k175]; decide)), cellE_long k175]) rfl (in_of (x := 0) (by omega) (by rw [n175]; omega) (by rw [n175]; omega)) dL_law_410 ?_
  have e175 : w'.2.1 175 ((Int32.ofInt 0).toNatClampNeg : Int) = (Int32.ofInt x).toInt64 := by
    have z : gL w' 175 0 = gL u 175 0 := hq2.2.1 175 0 (by unfold pQ; omega)
    have zz : ((Int32.ofInt 0).toNatClampNeg : Int) = 0 := by decide
    rw [zz]
    exact z.trans (hout y0)
  rw [e175]
  refine lv_iload hx hb dL_law_411 (lv_at hl6 0 rfl) ?_
  refine lv_i2l hx hb dL_law_413 rfl ?_
  refine W.lcmp hx hb dL_law_414 ?_
  refine lv_if_eq (tgt := 420) hx hb dL_law_415 (by decide) (fun _ => last 420 rfl) (fun z => absurd (lgc0.mpr rfl) z)
end LOOP
