/-! The class's ride: its contract over the machine. -/
section AX
variable {p : Program} {l : Launch} {e : Env} {R : Room} {s : State} {m : MethodId} {args : Array Value} {below : List Frame} {meth : Method} {c : Code} {Q : State → Prop}
theorem w_throw2 {cc bytes : ByteArray} {own cls tx : String} {ic ix idx kS pc q : Nat} {lsC : Array Slot} (hx : p.tables.exec = Jvm.exec) (hb : c.code = cc) (htr : e.platform.stackTraces = false) (hown : s.vm.findClass own = some m.cls) (hcls : Jvm.Bundle.fit cls = true)
    (b0 : decode bytes 0 = .ok (.aload_n 0, 1)) (b1 : decode bytes 1 = .ok (.aload_n 1, 1)) (b2 : decode bytes 2 = .ok (.invokespecial ix, 3)) (b5 : decode bytes 5 = .ok (.return_, 1))
    (hat : ∀ a ∈ thA own ic cls ix bytes, a.before args s = true) (hcl : (Cond.classLink own idx cls).before args s = true) (hins : (Cond.instantiable cls 6).before args s = true) (hini : (Cond.initialized cls).before args s = true) (hZ : vk_R own kS tx q s)
    (d0 : decode cc pc = .ok (.new idx, 3)) (d3 : decode cc (pc + 3) = .ok (.dup, 1)) (d4 : decode cc (pc + 4) = .ok (.ldc kS, 2)) (d6 : decode cc (pc + 6) = .ok (.invokespecial ic, 3)) (d9 : decode cc (pc + 9) = .ok (.athrow, 1))
    (hsize : lsC.size = c.maxLocals) (hout : c.exceptionTable.isEmpty = true) (hRc : 1 ≤ R.cells) (hRs : 6 ≤ R.slots) (hRf : 5 < R.frames) (hRl : 82 ≤ R.locals) (hlocks : meth.locks = false)
    (fin : ∀ (U : State) (ce : Cell), U.status = .running → Ended U below (.threw s.heap.size) → s.WarmedH U.vm → s.sameButNew ({ U with vm := s.vm } : State) [] 1 6 → U.heap[s.heap.size]? = some ce → ce.vm = .none → s.vm.findClass cls = some ce.cls → Q U) : W p l e R s m args below meth c s.heap [] 0 0 Q (F0 m pc lsC []) := by
  refine W.newc hx hb hown hcl hins hini rfl d0 (by omega) (by omega) (fun cC kC hf hk hord hn => ?_)
  refine lv_dup hx hb d3 rfl ?_
  refine va_ldcS hx hb hown hZ d4 ?_
  intro T hT X
  have h0 : c.exceptionTable.size = 0 := by simpa [Array.isEmpty] using hout
  have h1 : c.exceptionTable.toList = [] := List.eq_nil_of_length_eq_zero (by simpa using h0)
  have hcell : T.heap[s.heap.size]? = some (freshCell cC kC) := by
    rw [hT, Array.getElem?_push_size]
  obtain ⟨U, st, hrun, hend, hWU, hsame, ce, hce, hv, hcc⟩ := thr_made X hx htr hown hcls b0 b1 b2 b5 hat hf hk hcell (Nat.le_refl _) (msg := .ref q) rfl (g := F0 m (pc + 6) lsC [.ref q, .ref s.heap.size, .ref s.heap.size]) rfl hsize rfl rfl rfl (by rw [hb]; exact d6) (by rw [hb]; exact d9) (fun x hx => by rw [h1] at hx; cases hx) hRf hRl hlocks
  exact ⟨U, st, fin U ce hrun hend hWU hsame hce hv (by rw [hcc]; exact hf)⟩
end AX
def rmR : Room := { frames := 6, cells := 1, slots := 6, locals := 100 }
def RiP (D : va_G) (ad : Nat → Nat) (cy : Nat → ClassId) (σ : Sto) (i what : Int) (sz : Nat) : Array Value → State → Prop := va_Pc [.ref (ad 0), .int (Int32.ofInt i), .int (Int32.ofInt what)] (fun U => U.heap.size = sz ∧ va_P D vwCl (wld ad cy σ) U.heap ∧ va_K D vwCl (tysL cy) U ∧ va_D (fun _ => True) (wld ad cy σ) ∧ NWs U ∧ SK ad (va_A (wld ad cy σ) sz) U ∧ TX (va_A (wld ad cy σ) sz) U)
def RiQ (D : va_G) (ad : Nat → Nat) (cy : Nat → ClassId) (σ ρ : Sto) (i what : Int) (sz : Nat) : Array Value → State → Outcome → State → Prop := fun _ st o t => st.WarmedH t.vm ∧ (∃ L, st.sameButNew ({ t with vm := st.vm } : State) L 1 6 ∧ ∀ q ∈ L, va_A (wld ad cy σ) sz q.base) ∧ va_F (va_A (wld ad cy σ) sz) st t ∧ va_P D vwCl (wld ad cy σ) t.heap ∧
  (((0 ≤ i ∧ i < gN ρ 155 3) ∧ (0 ≤ what ∧ what ≤ 8) ∧ o = .returned (some (.int (Int32.ofInt (cRide ρ i what))))) ∨
   (¬ (0 ≤ i ∧ i < gN ρ 155 3) ∧ ∃ (a : Nat) (ce : Cell), o = .threw a ∧ t.heap[a]? = some ce ∧ ce.vm = .none ∧ st.vm.findClass Ti = some ce.cls) ∨
   ((0 ≤ i ∧ i < gN ρ 155 3) ∧ ¬ (0 ≤ what ∧ what ≤ 8) ∧ ∃ (a : Nat) (ce : Cell), o = .threw a ∧ t.heap[a]? = some ce ∧ ce.vm = .none ∧ st.vm.findClass Tn_ = some ce.cls))
theorem pI_blind {D : va_G} {ad : Nat → Nat} {cy : Nat → ClassId} {σ : Sto} {sz : Nat} {av : List Value} : FrameBlind (va_Pc av (fun U => U.heap.size = sz ∧ va_P D vwCl (wld ad cy σ) U.heap ∧ va_K D vwCl (tysL cy) U)) := by
  intro a U g mk q
  obtain ⟨q0, q1, qP, qK⟩ := q
  exact ⟨q0, q1, qP, va_K.moved (u := U) (U := U.calling g mk a) (Vm.Alike.refl U.vm) qK⟩
set_option maxRecDepth 20000 in
theorem ride_met (l : Launch) (hfl : l.flags = flags0) (D : va_G) (ad : Nat → Nat) (cy : Nat → ClassId) (sz : Nat) (σ ρ : Sto) (N : Nat) (hW : WV ρ) (hQ : CQ σ ρ N) (i what : Int) (hi : inR i) (hwhat : inR what) : MetFree l yX8_ride (headSpec (WS mX8_ride) rmR) (RiP D ad cy σ i what sz) (fun _ _ _ _ _ => True) (RiQ D ad cy σ ρ i what sz) := by
  refine MetFree.of_bodyS (code := cX8_ride) (maxLocals := 3) (ret := some .int) (by decide) ?_ ?_
  · intro args s m h hn
    obtain ⟨meth, c, h1, h2, h3, h4, h5, h6, -, -⟩ := Cond.code_spec hn (atoms_spec (ws := WS mX8_ride) h _ List.mem_cons_self)
    exact ⟨meth, c, h1, h2, h3, h4, h5, h6⟩
  · intro p e s m args below meth c s₁ B hml hP _
    obtain ⟨rfl, hsz, hPw, hK, hD0, hNW, hSK, hTX⟩ := hP
    subst hsz
    have hh0 : s₁.heap = s.heap := by rw [B.state]; rfl
    have hx := B.exec
    have hb := B.bytes
    have hr := B.returns
    have hts := atoms_spec (ws := WS mX8_ride) B.pre
    have hown : s.vm.findClass RX8 = some m.cls := findClass_of_methodNamed B.named
    have hlocks := B.notSynchronized
    have hnh := B.noHandlers (hts _ List.mem_cons_self)
    have hX0 := Stand.of_body B
    have htr : e.platform.stackTraces = false := Jvm.ShelfD.Launch.traces_off hfl hX0.admits
    have hg : ∀ w ∈ Gw, w.before (List.toArray [.ref (ad 0), .int (Int32.ofInt i), .int (Int32.ofInt what)]) s = true := fun w h => hts w (List.mem_cons_of_mem _ h)
    have K : W p l e rmR s m (List.toArray [.ref (ad 0), .int (Int32.ofInt i), .int (Int32.ofInt what)]) below meth c s.heap [] 0 0 (fun t => ∃ o, t.status = .running ∧ Ended t below o ∧ RiQ D ad cy σ ρ i what s.heap.size (List.toArray [.ref (ad 0), .int (Int32.ofInt i), .int (Int32.ofInt what)]) s o t) (entryFrame m (List.toArray [.ref (ad 0), .int (Int32.ofInt i), .int (Int32.ofInt what)]) 3) := by
      have hl := lv_entry ([.ref (ad 0), .int (Int32.ofInt i), .int (Int32.ofInt what)]) (n := 3) (Nat.le_of_ble_eq_true rfl)
      rw [lg_entry_eq]
      generalize (lg_sl ([.ref (ad 0), .int (Int32.ofInt i), .int (Int32.ofInt what)]) ++ List.replicate (3 - (lg_sl ([.ref (ad 0), .int (Int32.ofInt i), .int (Int32.ofInt what)])).length) Slot.unset).toArray = ls at hl ⊢
      have hl : lv_has ls 3 [(0, .ref (ad 0)), (1, .int (Int32.ofInt i)), (2, .int (Int32.ofInt what))] := hl
      have hsize : ls.size = c.maxLocals := hl.1.trans hml.symm
      refine lv_aload_n hx hb dX8_ride_0 rfl (lv_at hl 0 rfl) ?_
      refine lv_iload_n hx hb dX8_ride_1 rfl (lv_at hl 1 rfl) ?_
      have hgood : GoodIn (WS mX8_ride) (wsV RX8 118 RX8 yX8_isRide (WS mX8_isRide)) := by
        refine good_cons fun w hw => ?_
        rcases List.mem_append.mp hw with h | h
        · simp only [List.mem_cons, List.mem_nil_iff, or_false] at h
          rcases h with h | h | h | h <;> rw [h]
          · exact lX8_118
          · exact mvX8_isRide.2.1
          · exact mvX8_isRide.2.2
          · exact mvX8_isRide.1.2.1
        · exact WS_in mvX8_isRide.1 w h
      refine W.pureI (r := Int32.ofInt (if 0 ≤ i ∧ i < gN ρ 155 3 then 1 else 0)) (va_runV (C := RX8) (As := [.int (Int32.ofInt i)]) (rest := []) (b := ad 0) ⟨hx, hb, hml, hown, hts⟩ (isRide_pure l D ad cy s.heap.size σ ρ N hW hQ.c hQ.n i hi) (cwV 1 hts hgood rfl rfl rfl ⟨rfl, mvX8_isRide.1.2.2.1, mvX8_isRide.1.2.2.2.1, mvX8_isRide.1.2.2.2.2⟩ ⟨Nat.le_of_ble_eq_true rfl, Nat.le_of_ble_eq_true rfl⟩) ⟨pI_blind, va_recv hK hPw (cl_at 8 (by decide)) (obj_at k0 (by decide)), fun U hU hW' => ⟨rfl, by rw [hU], by rw [hU]; exact hPw, va_K.moved hW'.alike hK⟩⟩ rfl rfl hl.1 rfl (lv_room (Nat.le_of_ble_eq_true rfl)) dX8_ride_2 ⟨Nat.le_of_ble_eq_true rfl, Nat.le_of_ble_eq_true rfl⟩) ?_
      refine lv_if_ne (tgt := 18) hx hb dX8_ride_5 (by decide) (fun c5 => ?_) (fun c5 => ?_)
      · have hrid : 0 ≤ i ∧ i < gN ρ 155 3 := Classical.byContradiction fun z => c5 (by rw [if_neg z]; rfl)
        by_cases hw : 0 ≤ what ∧ what ≤ 8
        · have k := c_rideN σ ρ N hW hQ i what hi hwhat hrid.1 hrid.2 hw.1 hw.2 l p e s m _ below meth c D ad cy (va_A (wld ad cy σ) s.heap.size) s.heap [] ⟨hx, hb, hr, hml, hown, hts, hlocks, hK, fun q h => Or.inr h, hNW, hSK⟩ hPw hD0.self va_S.rf ls hl
          refine W.imp ?_ (W.roomUp (R' := rmR) (Nat.le_of_ble_eq_true rfl) (Nat.le_of_ble_eq_true rfl) (Nat.le_of_ble_eq_true rfl) (Nat.le_of_ble_eq_true rfl) k)
          rintro t ⟨o, h1, h2, h3, L, hF, hL⟩
          obtain ⟨⟨r, u, ho, ⟨x, hxr, hq⟩, hB⟩, hf⟩ := h3
          obtain ⟨hq1, rfl⟩ := hq
          have e1 := sai hq1
          refine ⟨o, h1, h2, hF.2.1, ⟨L, hF.2.2.weaken (fun y hy _ => hy) (by omega) (by omega), hL⟩, hf, hB.1, Or.inl ⟨hrid, hw, by rw [ho, hxr, e1]⟩⟩
        · refine lv_iload_n hx hb dX8_ride_18 rfl (lv_at hl 2 rfl) ?_
          refine lv_tableOut (tgt := 175) hx hb dX8_ride_19 (by rw [toInt_of_inR hwhat]; omega) (by decide) ?_
          obtain ⟨q4, hq4⟩ := hTX.2.2.2.1
          refine w_throw2 (own := RX8) (cls := Tn_) (ic := 160) (ix := 13) (bytes := prog_26_method_4_code) (idx := 156) hx hb htr hown (by decide) nb_0 nb_1 nb_2 nb_5 (fun w hw => (own_n w hw).elim (fun g => hg w g) (fun x => hTX.words _ w x)) (hg _ own_nC.1) (hg _ own_nC.2.1) (hg _ own_nC.2.2) hq4 dX8_ride_175 dX8_ride_178 dX8_ride_179 dX8_ride_181 dX8_ride_184 hsize hnh (Nat.le_of_ble_eq_true rfl) (Nat.le_of_ble_eq_true rfl) (Nat.le_of_ble_eq_true rfl) (Nat.le_of_ble_eq_true rfl) hlocks (fun U ce hrun hend hWU hsame hce hv hcl => ?_)
          exact ⟨.threw s.heap.size, hrun, hend, hWU, ⟨[], hsame, fun q hq => by cases hq⟩, ⟨hsame.2.1, fun q h1 _ => same_old hsame q h1⟩, fun k q h => (hPw k q h).kept (same_old hsame _ (hPw k q h).lt), Or.inr (Or.inr ⟨hrid, hw, _, ce, rfl, hce, hv, hcl⟩)⟩
      · have hrid : ¬ (0 ≤ i ∧ i < gN ρ 155 3) := fun z => by rw [if_pos z] at c5; exact absurd c5 (by decide)
        obtain ⟨q3, hq3⟩ := hTX.2.2.1
        refine w_throw (own := RX8) (cls := Ti) (names := tNs) (ic := 126) (idx := 122) hx hb htr hown (by decide) (by decide) (fun w hw => (own_i w hw).elim (fun g => hg w g) (fun x => hTX.words _ w x)) (hg _ own_iC.1) (hg _ own_iC.2.1) (hg _ own_iC.2.2) hq3 dX8_ride_8 dX8_ride_11 dX8_ride_12 dX8_ride_14 dX8_ride_17 hsize hnh (Nat.le_of_ble_eq_true rfl) (Nat.le_of_ble_eq_true rfl) (Nat.le_of_ble_eq_true rfl) (Nat.le_of_ble_eq_true rfl) hlocks (fun U ce hrun hend hWU hsame hce hv hcl => ?_)
        exact ⟨.threw s.heap.size, hrun, hend, hWU, ⟨[], hsame, fun q hq => by cases hq⟩, ⟨hsame.2.1, fun q h1 _ => same_old hsame q h1⟩, fun k q h => (hPw k q h).kept (same_old hsame _ (hPw k q h).lt), Or.inr (Or.inl ⟨hrid, _, ce, rfl, hce, hv, hcl⟩)⟩
    obtain ⟨t, a1, o, b1, b2, b3⟩ := K s₁ hh0 hX0
    exact ⟨t, o, a1, b1, b2, b3⟩
