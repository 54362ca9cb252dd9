/-! The law's ride, called by the law; the case of ride. -/
theorem lk_35 : Cond.methodLink RL 35 yL_ride ∈ Gw ∧ Cond.static yL_ride ∈ Gw ∧ Cond.codeWith yL_ride cL_ride 5 (some .int) hnd ∈ Gw ∧ Cond.initialized RL ∈ Gw := by decide +kernel
theorem LrP_blind {D : va_G} {ad : Nat → Nat} {cy : Nat → ClassId} {σ : Sto} {i what : Int} {sz : Nat} : FrameBlind (LrP D ad cy σ i what sz) := by
  intro a U g mk q
  obtain ⟨q0, q1, qP, qK, qD, qN, qS, qT, qC⟩ := q
  exact ⟨q0, q1, qP, va_K.moved (u := U) (U := U.calling g mk a) (Vm.Alike.refl U.vm) qK, qD, NWs.same (s := U) (U := U.calling g mk a) rfl qN, qS.blind g mk a, qT.blind g mk a, qC.moved (U := U.calling g mk a) (Vm.Alike.refl U.vm)⟩
section LR
variable {p : Program} {l : Launch} {e : Env} {s : State} {m : MethodId} {below : List Frame} {meth : Method} {c : Code} {b L : Nat} {xs : Nat → Int32} {D : va_G} {ad : Nat → Nat} {cy : Nat → ClassId} {j kc ks pc : Nat} {st : List Value} {σ : Sto} {Q : State → Prop}
theorem w_lride {N : Nat} {i what : Int} {H : Heap} {locs : List Loc} {lsC : Array Slot} (hC : LX p l s m meth c b L xs D ad cy) (hL : LW σ) (hQ : CQ σ (lkN σ) N) (hi : inR i) (hwhat : inR what) (hkc : kc + 1 ≤ 601024) (hks : ks + 6 ≤ 7293034) (hP : va_P D vwCl (wld ad cy σ) H) (hD : va_D (LA s) (wld ad cy σ)) (hS : va_S (LA s) s.heap H locs) (hls : lsC.size = 7) (hd : decode code pc = .ok (.invokestatic 35, 3))
    (kk : ∀ (H1 : Heap) (locs1 : List Loc), va_P D vwCl (wld ad cy (lrU σ (lkN σ) i what).1) H1 → va_D (LA s) (wld ad cy (lrU σ (lkN σ) i what).1) → va_S (LA s) s.heap H1 locs1 → W p l e room_1 s m #[Value.ref b] below meth c H1 locs1 (kc + 1) (ks + 6) Q (F0 m (pc + 3) lsC [.int (Int32.ofInt (lrU σ (lkN σ) i what).2)])) :
    W p l e room_1 s m #[Value.ref b] below meth c H locs kc ks Q (F0 m pc lsC [.ref (ad 175), .int (Int32.ofInt what), .int (Int32.ofInt i), .ref (ad 0)]) := by
  obtain ⟨⟨hx, hb, hr, hml, hown, hts⟩, ⟨hX, hbl, hlocks, hLb⟩, hK, hNW, hSK, hTX, hNC, hfl⟩ := hC
  have hg : ∀ w ∈ Gw, w.before #[Value.ref b] s = true := fun w h => hts w (List.mem_filter.mp h).1
  have hA : ∀ q : Nat, s.heap.size ≤ q → LA s q := fun _ h => h
  have hF := free_of hD hS hA
  have hws : ∀ w ∈ wsL, ∀ (a' : Array Value) (U : State), s.WarmedH U.vm → w.before a' U = true := fun w hw a' U hW => by
    have hw' : w ∈ Gw := by
      rcases List.mem_cons.mp hw with h | h
      · rw [h]; exact lk_35.2.2.1
      · exact h
    exact word_at hW (good_of_word (Gw_good hw')) (hg w hw')
  have hBk : Back l room_1 p e below s #[Value.ref b] yL_ride 3 8 (PreOf room_1 1 6 (LrP D ad cy σ i what H.size)) (PostOf (LrQ D ad cy σ (lkN σ) i what H.size) 1 6 (va_A (wld ad cy σ) H.size)) := by
    refine Back.of_freeWith (handlers := hnd) (S := headSpec wsL rmL) (P := LrP D ad cy σ i what H.size) (K := fun _ _ _ _ _ => True) (Q := fun a st o t => LrQ D ad cy σ (lkN σ) i what H.size a st o t ∧ ∃ L, FrameEnd st o t L 1 6 ∧ ∀ q ∈ L, va_A (wld ad cy σ) H.size q.base) (bytes := cL_ride) (maxL := 5) (ret := some .int)
      (E := fun a st o t L k n => k = 1 ∧ n = 6 ∧ ∀ q ∈ L, va_A (wld ad cy σ) H.size q.base) (lride_met l hfl D ad cy H.size σ (lkN σ) N hL.V hQ i what hi hwhat) (Nat.le_of_ble_eq_true rfl) (Nat.le_of_ble_eq_true rfl) ?_ ?_ (fun _ _ _ _ _ _ _ _ _ => trivial) ?_ ?_
    · intro m meth c A a X hp
      exact ⟨atoms_intro fun w hw => hws w hw _ _ X.warmed, hws _ List.mem_cons_self _ _ X.warmed, word_at X.warmed (good_of_word (Gw_good lk_35.2.2.2)) (hg _ lk_35.2.2.2), hp.1, hp.2.1⟩
    · intro m meth c A a g mk X hp
      exact LrP_blind _ _ _ _ hp.2.2
    · intro a st o t ⟨hq, L, hF, hL⟩
      exact ⟨L, 1, 6, hF, rfl, rfl, hL⟩
    · intro m meth c A a g mk v t L k n X hp hq hF ⟨e1, e2, hL⟩
      subst e1; subst e2
      exact ⟨g, mk, t, L, rfl, rfl, hq.1, rfl, hL, rfl, rfl⟩
  intro T hT X
  obtain ⟨mk, methM, cM, hnamed, hmethM, hcM, -, -, -, -, -, hsigM⟩ := Cond.codeWith_spec (hg _ lk_35.2.2.1)
  have hstatic : methM.isStatic = true := Cond.static_spec hnamed hmethM (hg _ lk_35.2.1)
  obtain ⟨kP, hkP, -⟩ := className_of_methodNamed hnamed
  have hinitP : kP.init = .initialized := Cond.initialized_spec (findClass_of_methodNamed hnamed) hkP (hg _ lk_35.2.2.2)
  have hlen : ([.ref (ad 0), .int (Int32.ofInt i), .int (Int32.ofInt what), .ref (ad 175)] : List Value).length = methM.sig.parameters.length := by
    have z : (parseMethodDescriptor yL_ride.desc).map (fun d => d.parameters.length) = some 4 := by decide +kernel
    rw [hsigM] at z
    exact (Option.some.inj z).symm
  obtain ⟨vm₁, X₁, hstep₁⟩ := X.invokestatic hx hown (hg _ lk_35.1) hnamed hmethM hstatic hkP hinitP (by decide) (g := F0 m pc lsC [.ref (ad 175), .int (Int32.ofInt what), .int (Int32.ofInt i), .ref (ad 0)]) rfl (argsL := [.ref (ad 0), .int (Int32.ofInt i), .int (Int32.ofInt what), .ref (ad 175)]) (rest := []) hlen rfl (by rw [hb]; exact hd)
  have hPre : PreOf room_1 1 6 (LrP D ad cy σ i what H.size) ⟨T.setVm vm₁, locs, kc, ks⟩ (List.toArray [.ref (ad 0), .int (Int32.ofInt i), .int (Int32.ofInt what), .ref (ad 175)]) := by
    have hU : (T.setVm vm₁).heap = H := hT
    have hW := X₁.warmed
    exact ⟨hkc, hks, rfl, by show (T.setVm vm₁).heap.size = _; rw [hU], by show va_P D vwCl _ (T.setVm vm₁).heap; rw [hU]; exact hP, va_K.moved hW.alike hK, ⟨hD.1, fun _ _ _ => trivial⟩, NWs.warm hW hNW, hSK.call hW (fun a q0 q1 => by rw [hU]; exact hS.2.1 a q0 q1) hF, hTX.call hW (fun a q0 q1 => by rw [hU]; exact hS.2.1 a q0 q1) hF, hNC.moved hW.alike⟩
  obtain ⟨v, ⟨U', l2, c2, s2⟩, X', hpost, hsteps⟩ := hBk m meth c ⟨T.setVm vm₁, locs, kc, ks⟩ (F0 m pc lsC []) (.invokestatic 35) mk (List.toArray [.ref (ad 0), .int (Int32.ofInt i), .int (Int32.ofInt what), .ref (ad 175)]) X₁ rfl (by show lsC.size = c.maxLocals; rw [hls, hml]) (by rw [hb]; exact hd) (lv_room (st := []) (Nat.le_of_ble_eq_true rfl)) (X₁.named hnamed) hPre
  obtain ⟨g', mk', t, Lc, e1, e2, hq, h1, hLl, h2, h3⟩ := hpost
  dsimp only [Pt.U, Pt.locs, Pt.cells, Pt.slots] at X' e1 e2 h1 h2 h3 hsteps
  subst h1; subst h2; subst h3
  obtain ⟨⟨r, u, hv, ⟨hr1, hu⟩, hP1, hK1, hD1⟩, hz, hk⟩ := hq
  cases hv
  subst hu
  have h0 : ((T.setVm vm₁).calling g' mk' (List.toArray [.ref (ad 0), .int (Int32.ofInt i), .int (Int32.ofInt what), .ref (ad 175)])).heap = H := hT
  rw [h0] at hz hk
  have hS1 : va_S (LA s) s.heap U'.heap (locs ++ Lc) := by
    refine ⟨Nat.le_trans hS.1 (by rw [e1]; exact hz), fun q q0 q1 => ?_, fun q hq => ?_⟩
    · rw [e1, hk q (Nat.lt_of_lt_of_le q0 hS.1) (fun z => q1 (hF q z))]
      exact hS.2.1 q q0 q1
    · rcases List.mem_append.mp hq with h | h
      · exact hS.2.2 q h
      · exact hF _ (hLl q h)
  obtain ⟨t2, a1, b1⟩ := kk U'.heap (locs ++ Lc) (by rw [e1]; exact hP1) ⟨hD1.1, fun k q h => hF _ (hD1.2 k q h)⟩ hS1 U' rfl X'
  refine ⟨t2, hstep₁ _ fun acts => ?_, b1⟩
  rw [doInvoke_state]
  rw [hr1] at hsteps
  exact hsteps.trans a1
/-- what the law keeps in its row of one long is none of INV's business -/
theorem INV.out {σ : Sto} {N N' : Nat} {L : List (Int × Int)} (hA : IA σ N N') (hB : IB σ) (hC : IC σ) (hD : ID σ L) (hE : IE σ) (v : Int64) : IA (sL σ 175 0 v) N N' ∧ IB (sL σ 175 0 v) ∧ IC (sL σ 175 0 v) ∧ ID (sL σ 175 0 v) L ∧ IE (sL σ 175 0 v) := by
  have gl : ∀ (c : Nat) (i : Int), c ≠ 175 → gL (sL σ 175 0 v) c i = gL σ c i := fun c i h => by rw [gL_sL, if_neg (fun z => h z.1)]
  have kc : Kc σ (sL σ 175 0 v) := fun c i hc => ⟨rfl, gl c i (by omega), rfl⟩
  have e17 : gL (sL σ 175 0 v) 153 17 = gL σ 153 17 := gl 153 17 (by omega)
  obtain ⟨h1, h2, h3, h4, h5, h6, h7⟩ := hA
  have R := hB.1.1.1
  have S := hB.1.1.2.1
  refine ⟨⟨(h1.kc S.2 R.2 kc).rq R.1 (lk_rq (fun _ => rfl) (fun _ => rfl) e17), ?_, h3, h4, h5, h6, h7⟩, ⟨hB.1.of (fun _ => rfl) (fun _ _ _ => rfl), hB.2.1, hB.2.2.1, hB.2.2.2.1, hB.2.2.2.2.1, fun i i0 i1 => ?_⟩, hC, ⟨hD.1, hD.2.1, hD.2.2.1, hD.2.2.2⟩, hE.of rfl rfl rfl (fun q => gl 17 q (by omega)) (fun _ _ _ _ => rfl) (fun _ => rfl) (fun q => gl 160 q (by omega)) (fun _ => rfl)⟩
  · exact (h2.of rfl (gl 3 1 (by omega)) (fun _ => rfl) (fun _ => rfl) (Or.inl rfl)).rq (td_rq (fun _ => rfl))
  · rw [e17]; exact hB.2.2.2.2.2 i i0 i1
end LR
