/-! The law's own ride: it answers 0, 1 or 2, and keeps the class's answer in its row of one long. -/
theorem ride_thr (l : Launch) (hfl : l.flags = flags0) (D : va_G) (ad : Nat → Nat) (cy : Nat → ClassId) (sz : Nat) (σ ρ : Sto) (N : Nat) (hW : WV ρ) (hQ : CQ σ ρ N) (i what : Int) (hi : inR i) (hwhat : inR what) (hr : ¬ ((0 ≤ i ∧ i < gN ρ 155 3) ∧ (0 ≤ what ∧ what ≤ 8))) : MetFree l yX8_ride (headSpec (WS mX8_ride) rmR) (RiP D ad cy σ i what sz) (fun _ _ _ _ _ => True) (fun a st o t => RiQ D ad cy σ ρ i what sz a st o t ∧ ∃ x, o = .threw x) := by
  intro p e ha hc hk s m args below hf happ hP _
  obtain ⟨n, o, h1, h2, h3, hq⟩ := ride_met l hfl D ad cy sz σ ρ N hW hQ i what hi hwhat p e ha hc hk s m args below hf happ hP trivial
  refine ⟨n, o, h1, h2, h3, hq, ?_⟩
  obtain ⟨-, -, -, -, hcase⟩ := hq
  rcases hcase with ⟨h4, h5, -⟩ | ⟨-, a, ce, ho, -⟩ | ⟨-, -, a, ce, ho, -⟩
  · exact absurd ⟨h4, h5⟩ hr
  · exact ⟨a, ho⟩
  · exact ⟨a, ho⟩
theorem RiP_blind {D : va_G} {ad : Nat → Nat} {cy : Nat → ClassId} {σ : Sto} {i what : Int} {sz : Nat} : FrameBlind (RiP D ad cy σ i what sz) := by
  intro a U g mk q
  obtain ⟨q0, q1, qP, qK, qD, qN, qS, qT⟩ := q
  exact ⟨q0, q1, qP, va_K.moved (u := U) (U := U.calling g mk a) (Vm.Alike.refl U.vm) qK, qD, NWs.same (s := U) (U := U.calling g mk a) rfl qN, qS.blind g mk a, qT.blind g mk a⟩
/-- the second exception is none of the first -/
def NCa (U : State) : Prop := ∀ c1 c2, U.vm.findClass Ti = some c1 → U.vm.findClass Tn_ = some c2 → U.vm.assignable c2 c1 = false
theorem NCa.moved {s U : State} (hv : s.vm.Alike U.vm) (h : NCa s) : NCa U := fun c1 c2 h1 h2 => by
  rw [hv.findClass] at h1 h2
  rw [hv.assignable]
  exact h c1 c2 h1 h2
def hnd : List (Nat × Nat × Nat × Nat) := [(0, 10, 13, 13), (0, 10, 17, 15)]
def wsL : List Cond := Cond.codeWith yL_ride cL_ride 5 (some .int) hnd :: Gw
def rmL : Room := { frames := 7, cells := 1, slots := 6, locals := 130 }
def lrU (σ ρ : Sto) (i what : Int) : Sto × Int := if 0 ≤ i ∧ i < gN ρ 155 3 then (if 0 ≤ what ∧ what ≤ 8 then (sL σ 175 0 (Int32.ofInt (cRide ρ i what)).toInt64, 0) else (σ, 2)) else (σ, 1)
def LrP (D : va_G) (ad : Nat → Nat) (cy : Nat → ClassId) (σ : Sto) (i what : Int) (sz : Nat) : Array Value → State → Prop := va_Pc [.ref (ad 0), .int (Int32.ofInt i), .int (Int32.ofInt what), .ref (ad 175)] (fun U => U.heap.size = sz ∧ va_P D vwCl (wld ad cy σ) U.heap ∧ va_K D vwCl (tysL cy) U ∧ va_D (fun _ => True) (wld ad cy σ) ∧ NWs U ∧ SK ad (va_A (wld ad cy σ) sz) U ∧ TX (va_A (wld ad cy σ) sz) U ∧ NCa U)
def LrQ (D : va_G) (ad : Nat → Nat) (cy : Nat → ClassId) (σ ρ : Sto) (i what : Int) (sz : Nat) : Array Value → State → Outcome → State → Prop := va_Qi (fun r u => r = Int32.ofInt (lrU σ ρ i what).2 ∧ u = (lrU σ ρ i what).1) (Bw D ad cy (va_A (wld ad cy σ) sz)) (va_A (wld ad cy σ) sz)
theorem lk_7 : Cond.methodLink RL 7 yX8_ride ∈ Gw ∧ Cond.classLink RL 13 Ti ∈ Gw ∧ Cond.classLink RL 15 Tn_ ∈ Gw := by decide +kernel
set_option maxRecDepth 20000 in
theorem lride_met (l : Launch) (hfl : l.flags = flags0) (D : va_G) (ad : Nat → Nat) (cy : Nat → ClassId) (sz : Nat) (σ ρ : Sto) (N : Nat) (hW : WV ρ) (hQ : CQ σ ρ N) (i what : Int) (hi : inR i) (hwhat : inR what) : MetFree l yL_ride (headSpec wsL rmL) (LrP D ad cy σ i what sz) (fun _ _ _ _ _ => True) (fun a st o t => LrQ D ad cy σ ρ i what sz a st o t ∧ ∃ L, FrameEnd st o t L 1 6 ∧ ∀ q ∈ L, va_A (wld ad cy σ) sz q.base) := by
  refine MetFree.of_bodyS (code := cL_ride) (maxLocals := 5) (ret := some .int) (by decide) ?_ ?_
  · intro args s m h hn
    obtain ⟨m', meth, c, hn', h1, h2, h3, h4, -, h5, h6, -⟩ := Cond.codeWith_spec (atoms_spec (ws := wsL) h _ List.mem_cons_self)
    cases hn.symm.trans hn'
    exact ⟨meth, c, h1, h2, h3, h4, h5, h6⟩
  · intro p e s m args below meth c s₁ B hml hP _
    obtain ⟨rfl, hsz, hPw, hK, hD0, hNW, hSK, hTX, hNC⟩ := hP
    subst hsz
    have hh0 : s₁.heap = s.heap := by rw [B.state]; rfl
    have hx := B.exec
    have hb := B.bytes
    have hr := B.returns
    have hts := atoms_spec (ws := wsL) B.pre
    have hown : s.vm.findClass RL = some m.cls := findClass_of_methodNamed B.named
    have hlocks := B.notSynchronized
    have hX0 := Stand.of_body B
    have hg : ∀ w ∈ Gw, w.before (List.toArray [.ref (ad 0), .int (Int32.ofInt i), .int (Int32.ofInt what), .ref (ad 175)]) s = true := fun w h => hts w (List.mem_cons_of_mem _ h)
    obtain ⟨x1, x2, htab, hy1, hy2⟩ : ∃ x1 x2 : ExceptionTableEntry, c.exceptionTable.toList = [x1, x2] ∧ (x1.startPc, x1.endPc, x1.handlerPc, x1.catchType) = ((0 : Nat), (10 : Nat), (13 : Nat), (13 : Nat)) ∧ (x2.startPc, x2.endPc, x2.handlerPc, x2.catchType) = ((0 : Nat), (10 : Nat), (17 : Nat), (15 : Nat)) := by
      obtain ⟨m', meth', c', hn', h1, h2, -, -, htb, -, -, -⟩ := Cond.codeWith_spec (hts _ List.mem_cons_self)
      cases B.named.symm.trans hn'
      cases B.method.symm.trans h1
      cases hX0.code.symm.trans h2
      match hL : c.exceptionTable.toList, htb with
      | [x1, x2], htb =>
        simp only [hnd, List.map_cons, List.map_nil, List.cons.injEq, and_true] at htb
        exact ⟨x1, x2, rfl, htb.1, htb.2⟩
      | [], htb => simp [hnd] at htb
      | [x1], htb => simp [hnd] at htb
      | x1 :: x2 :: x3 :: t, htb => simp [hnd] at htb
    simp only [Prod.mk.injEq] at hy1 hy2
    have hA : ∀ q : Nat, s.heap.size ≤ q → va_A (wld ad cy σ) s.heap.size q := fun q h => Or.inr h
    have hD := hD0.self (sz := s.heap.size)
    have hgood : GoodIn wsL (wsV RL 7 RX8 yX8_ride (WS mX8_ride)) := by
      refine good_cons fun w hw => ?_
      rcases List.mem_append.mp hw with h | h
      · simp only [List.mem_cons, List.mem_nil_iff, or_false] at h
        rcases h with h | h | h | h <;> rw [h]
        · exact lk_7.1
        · exact mvX8_ride.2.1
        · exact mvX8_ride.2.2
        · exact mvX8_ride.1.2.1
      · exact WS_in mvX8_ride.1 w h
    have cw : CallW rmL s (List.toArray [.ref (ad 0), .int (Int32.ofInt i), .int (Int32.ofInt what), .ref (ad 175)]) RL RX8 7 yX8_ride cX8_ride 3 (some .int) (WS mX8_ride) rmR 1 6 2 := cwV 2 hts hgood rfl rfl rfl ⟨rfl, mvX8_ride.1.2.2.1, mvX8_ride.1.2.2.2.1, mvX8_ride.1.2.2.2.2⟩ ⟨Nat.le_of_ble_eq_true rfl, Nat.le_of_ble_eq_true rfl⟩
    have hpre : PreV s s.heap RX8 (ad 0) (RiP D ad cy σ i what s.heap.size) [.int (Int32.ofInt i), .int (Int32.ofInt what)] := ⟨RiP_blind, va_recv hK hPw (cl_at 8 (by decide)) (obj_at k0 (by decide)), fun U hU hW' => ⟨rfl, by rw [hU], by rw [hU]; exact hPw, va_K.moved hW'.alike hK, hD0, NWs.warm hW' hNW, hSK.call hW' (fun a q0 q1 => by rw [hU]) (fun _ z => z), hTX.call hW' (fun a q0 q1 => by rw [hU]) (fun _ z => z)⟩⟩
    have K : W p l e rmL s m (List.toArray [.ref (ad 0), .int (Int32.ofInt i), .int (Int32.ofInt what), .ref (ad 175)]) below meth c s.heap [] 0 0 (MQ below (LrQ D ad cy σ ρ i what s.heap.size) (List.toArray [.ref (ad 0), .int (Int32.ofInt i), .int (Int32.ofInt what), .ref (ad 175)]) s 1 6 (va_A (wld ad cy σ) s.heap.size)) (entryFrame m (List.toArray [.ref (ad 0), .int (Int32.ofInt i), .int (Int32.ofInt what), .ref (ad 175)]) 5) := by
      have hl := lv_entry ([.ref (ad 0), .int (Int32.ofInt i), .int (Int32.ofInt what), .ref (ad 175)]) (n := 5) (Nat.le_of_ble_eq_true rfl)
      rw [lg_entry_eq]
      generalize (lg_sl ([.ref (ad 0), .int (Int32.ofInt i), .int (Int32.ofInt what), .ref (ad 175)]) ++ List.replicate (5 - (lg_sl ([.ref (ad 0), .int (Int32.ofInt i), .int (Int32.ofInt what), .ref (ad 175)])).length) Slot.unset).toArray = ls at hl ⊢
      have hl : lv_has ls 5 [(0, .ref (ad 0)), (1, .int (Int32.ofInt i)), (2, .int (Int32.ofInt what)), (3, .ref (ad 175))] := hl
      refine lv_aload_n hx hb dL_ride_0 rfl (lv_at hl 3 rfl) ?_
      refine lv_iconst (v := 0) hx hb dL_ride_1 (by decide) ?_
      refine lv_aload_n hx hb dL_ride_2 rfl (lv_at hl 0 rfl) ?_
      refine lv_iload_n hx hb dL_ride_3 rfl (lv_at hl 1 rfl) ?_
      refine lv_iload_n hx hb dL_ride_4 rfl (lv_at hl 2 rfl) ?_
      by_cases hc : (0 ≤ i ∧ i < gN ρ 155 3) ∧ (0 ≤ what ∧ what ≤ 8)
      · have eU : lrU σ ρ i what = (sL σ 175 0 (Int32.ofInt (cRide ρ i what)).toInt64, 0) := by unfold lrU; rw [if_pos hc.1, if_pos hc.2]
        refine va_calli (va_runV (C := RX8) (As := [.int (Int32.ofInt i), .int (Int32.ofInt what)]) (rest := [.int 0, .ref (ad 175)]) (b := ad 0) ⟨hx, hb, hml, hown, hts⟩ (ride_ret l hfl D ad cy s.heap.size σ ρ N hW hQ i what hi hwhat hc.1 hc.2) cw hpre rfl rfl hl.1 rfl (lv_room (Nat.le_of_ble_eq_true rfl)) dL_ride_5 ⟨Nat.le_of_ble_eq_true rfl, Nat.le_of_ble_eq_true rfl⟩) va_S.rf (fun q _ h => h) (fun q h => h) (fun r u t H1 locs1 ht hvm hw hB hz1 hk1 hS1 => ?_)
        obtain ⟨rfl, rfl⟩ := hw
        obtain ⟨hP1, hK1, hD1⟩ := hB
        rw [ht] at hP1
        refine lv_i2l hx hb dL_ride_8 rfl ?_
        refine va_last hx hb hK hP1 hD1 hS1 175 2 (by rw [wld_get (kd_lt (by rw [k175]; decide)), cellE_long k175]) rfl (i := 0) (by rw [n175]; exact in_of (x := 0) (n := 1) (by omega) (by omega) (by omega)) dL_ride_9 (fun H2 locs2 hP2 hD2 hS2 => ?_)
        have hw2 : (wld ad cy u).set 175 (ad 175, .inl (cy 12, ln 175, .inr (.inl (vp_updL (fun j => u.2.1 175 j) (0 : Int32).toNatClampNeg (Int32.ofInt (cRide ρ i what)).toInt64)))) = wld ad cy (sL u 175 0 (Int32.ofInt (cRide ρ i what)).toInt64) := by
          refine wld_set (kd_lt (by rw [k175]; decide)) ?_ (fun d h => cellE_sL h)
          rw [cellE_long k175]
          congr 5
          funext j
          show up2 u.2.1 175 0 _ 175 j = vp_updL _ _ _ j
          unfold vp_updL
          have hz : (0 : Int32).toNatClampNeg = 0 := by decide
          rw [hz]
          by_cases hj : (j : Int) = 0
          · rw [if_pos (by omega), hj, up2_same]
          · rw [if_neg (by omega), up2_nj hj]
        rw [hw2] at hP2 hD2
        refine lv_goto (tgt := 21) hx hb dL_ride_10 (by decide) ?_
        refine lv_iconst (v := 0) hx hb dL_ride_21 (by decide) ?_
        refine W.iret hx hb hr (fun t ht hW => ?_) hS2.2.2 dL_ride_22 hlocks
        refine ⟨⟨_, sL u 175 0 (Int32.ofInt (cRide ρ i what)).toInt64, rfl, ⟨by rw [eU]; rfl, by rw [eU]⟩, by rw [ht]; exact hP2, va_K.moved hW.alike hK, hD2⟩, hS2.F ht⟩
      · refine w_callT (C := RX8) (As := [.int (Int32.ofInt i), .int (Int32.ofInt what)]) (rest := [.int 0, .ref (ad 175)]) (b := ad 0) (free := va_A (wld ad cy σ) s.heap.size) ⟨hx, hb, hml, hown, hts⟩ (ride_thr l hfl D ad cy s.heap.size σ ρ N hW hQ i what hi hwhat hc) cw hpre rfl hl.1 rfl (lv_room (Nat.le_of_ble_eq_true rfl)) dL_ride_5 ⟨Nat.le_of_ble_eq_true rfl, Nat.le_of_ble_eq_true rfl⟩ (fun a st o t hq => ⟨hq.2, hq.1.1, hq.1.2.1⟩) (fun st₀ t T' a L h0 hal hWs hq hT1 hT2 hL X' => ?_)
        obtain ⟨⟨hWt, -, hF, hPt, hcase⟩, -⟩ := hq
        have key : ∃ ce : Cell, T'.heap[a]? = some ce ∧ ce.vm = .none ∧ (((lrU σ ρ i what).2 = 1 ∧ s.vm.findClass Ti = some ce.cls) ∨ ((lrU σ ρ i what).2 = 2 ∧ s.vm.findClass Tn_ = some ce.cls)) ∧ (lrU σ ρ i what).1 = σ := by
          have hv := hWs.alike
          rcases hcase with ⟨h4, h5, -⟩ | ⟨h4, a', ce, ho, h6, h7, h8⟩ | ⟨h4, h5, a', ce, ho, h6, h7, h8⟩
          · exact absurd ⟨h4, h5⟩ hc
          · cases ho
            refine ⟨ce, by rw [hT1]; exact h6, h7, Or.inl ⟨?_, by rw [← hv.findClass]; exact h8⟩, ?_⟩
            · unfold lrU; rw [if_neg h4]
            · unfold lrU; rw [if_neg h4]
          · cases ho
            refine ⟨ce, by rw [hT1]; exact h6, h7, Or.inr ⟨?_, by rw [← hv.findClass]; exact h8⟩, ?_⟩
            · unfold lrU; rw [if_pos h4, if_neg h5]
            · unfold lrU; rw [if_pos h4, if_neg h5]
        obtain ⟨ce, hce, hcv, hcs, hu⟩ := key
        obtain ⟨-, -, -, -, -, -, -, hca, hcb⟩ := hTX
        obtain ⟨ci, ci', hci, hci', hasi⟩ := Cond.castable_spec hca
        obtain ⟨cn, cn', hcn, hcn', hasn⟩ := Cond.castable_spec hcb
        cases hci.symm.trans hci'
        cases hcn.symm.trans hcn'
        have hkc : ∃ k, s.vm.classes[ce.cls]? = some k := by
          rcases hcs with ⟨-, h⟩ | ⟨-, h⟩
          · obtain ⟨k, hk, -⟩ := Vm.findClass_spec h; exact ⟨k, hk⟩
          · obtain ⟨k, hk, -⟩ := Vm.findClass_spec h; exact ⟨k, hk⟩
        have hfit : (∀ c1, s.vm.findClass Ti = some c1 → s.vm.assignable ce.cls c1 = true) ∨ ((∀ c1, s.vm.findClass Ti = some c1 → s.vm.assignable ce.cls c1 = false) ∧ ∀ c2, s.vm.findClass Tn_ = some c2 → s.vm.assignable ce.cls c2 = true) := by
          rcases hcs with ⟨-, h⟩ | ⟨-, h⟩
          · refine Or.inl (fun c1 h1 => ?_)
            cases h.symm.trans h1
            cases h.symm.trans hci
            exact hasi
          · refine Or.inr ⟨fun c1 h1 => hNC c1 ce.cls h1 h, fun c2 h2 => ?_⟩
            cases h.symm.trans h2
            cases h.symm.trans hcn
            exact hasn
        obtain ⟨vm', X2, pc, hpc, hgo⟩ := caught2 X' (g := F0 m 5 ls [.int 0, .ref (ad 175)]) rfl (C1 := Ti) (C2 := Tn_) hown htab (by simp [covers, hy1]) (by simp [covers, hy2]) (by rw [hy1.2.2.2]; decide) (by rw [hy2.2.2.2]; decide) (by rw [hy1.2.2.2]; exact hg _ lk_7.2.1) (by rw [hy2.2.2.2]; exact hg _ lk_7.2.2) hce hcv hkc hfit
        have hP1 : va_P D vwCl (wld ad cy σ) T'.heap := by rw [hT1]; exact hPt
        have hS1 : va_S (va_A (wld ad cy σ) s.heap.size) s.heap T'.heap ([] ++ L) := by
          refine ⟨by rw [hT1, ← h0]; exact hF.1, fun q q0 q1 => ?_, fun q hq => hL q (by simpa using hq)⟩
          rw [hT1, hF.2 q (by rw [h0]; exact q0) q1, h0]
        have fin : ∀ k : Int, (lrU σ ρ i what).2 = k → ∀ (pc' : Nat) (ls' : Array Slot), decode cL_ride pc' = .ok (.ireturn, 1) → W p l e rmL s m (List.toArray [.ref (ad 0), .int (Int32.ofInt i), .int (Int32.ofInt what), .ref (ad 175)]) below meth c T'.heap ([] ++ L) (0 + 1) (0 + 6) (MQ below (LrQ D ad cy σ ρ i what s.heap.size) (List.toArray [.ref (ad 0), .int (Int32.ofInt i), .int (Int32.ofInt what), .ref (ad 175)]) s 1 6 (va_A (wld ad cy σ) s.heap.size)) (F0 m pc' ls' [.int (Int32.ofInt k)]) := by
          intro k hk pc' ls' hd
          refine W.iret hx hb hr (fun t ht hW => ?_) hS1.2.2 hd hlocks
          exact ⟨⟨_, σ, rfl, ⟨by rw [hk], hu.symm⟩, by rw [ht]; exact hP1, va_K.moved hW.alike hK, hD⟩, hS1.F ht⟩
        rcases hcs with ⟨hk, h⟩ | ⟨hk, h⟩
        · have e13 : pc = 13 := by
            rcases hpc with ⟨-, z⟩ | ⟨z, -⟩
            · rw [z, hy1.2.2.1]
            · exfalso
              have y := z ci hci
              cases h.symm.trans hci
              rw [hasi] at y
              cases y
          subst e13
          have w13 : W p l e rmL s m (List.toArray [.ref (ad 0), .int (Int32.ofInt i), .int (Int32.ofInt what), .ref (ad 175)]) below meth c T'.heap ([] ++ L) (0 + 1) (0 + 6) (MQ below (LrQ D ad cy σ ρ i what s.heap.size) (List.toArray [.ref (ad 0), .int (Int32.ofInt i), .int (Int32.ofInt what), .ref (ad 175)]) s 1 6 (va_A (wld ad cy σ) s.heap.size)) (F0 m 13 ls [.ref a]) := by
            refine lv_astore (lv' := [(4, .ref a), (0, .ref (ad 0)), (1, .int (Int32.ofInt i)), (2, .int (Int32.ofInt what)), (3, .ref (ad 175))]) hx hb dL_ride_13 hl (by decide) rfl (fun ls' hl' => ?_)
            refine lv_iconst (v := Int32.ofInt 1) hx hb dL_ride_15 rfl ?_
            exact fin 1 hk 16 ls' dL_ride_16
          obtain ⟨t2, a1, b1⟩ := w13 (T'.setVm vm') rfl X2
          exact ⟨t2, hgo t2 a1, b1⟩
        · have e17 : pc = 17 := by
            rcases hpc with ⟨z, -⟩ | ⟨-, z⟩
            · exfalso
              have y := z ci hci
              rw [hNC ci ce.cls hci h] at y
              cases y
            · rw [z, hy2.2.2.1]
          subst e17
          have w17 : W p l e rmL s m (List.toArray [.ref (ad 0), .int (Int32.ofInt i), .int (Int32.ofInt what), .ref (ad 175)]) below meth c T'.heap ([] ++ L) (0 + 1) (0 + 6) (MQ below (LrQ D ad cy σ ρ i what s.heap.size) (List.toArray [.ref (ad 0), .int (Int32.ofInt i), .int (Int32.ofInt what), .ref (ad 175)]) s 1 6 (va_A (wld ad cy σ) s.heap.size)) (F0 m 17 ls [.ref a]) := by
            refine lv_astore (lv' := [(4, .ref a), (0, .ref (ad 0)), (1, .int (Int32.ofInt i)), (2, .int (Int32.ofInt what)), (3, .ref (ad 175))]) hx hb dL_ride_17 hl (by decide) rfl (fun ls' hl' => ?_)
            refine lv_iconst (v := Int32.ofInt 2) hx hb dL_ride_19 rfl ?_
            exact fin 2 hk 20 ls' dL_ride_20
          obtain ⟨t2, a1, b1⟩ := w17 (T'.setVm vm') rfl X2
          exact ⟨t2, hgo t2 a1, b1⟩
    obtain ⟨t, a1, o, b1, b2, b3⟩ := K s₁ hh0 hX0
    exact ⟨t, o, a1, b1, b2, b3⟩
