/-! Rows over the machine itself: room, ends, a pure call, a throw of one's own. -/
section AV
variable {p : Program} {l : Launch} {e : Env} {R : Room} {s : State} {m : MethodId} {args : Array Value} {below : List Frame} {meth : Method} {c : Code} {H : Heap} {locs : List Loc} {cells slots : Nat} {Q : State → Prop}
theorem room_up {s : State} {pl : Platform} {R R' : Room} (h1 : R.frames ≤ R'.frames) (h2 : R.cells ≤ R'.cells) (h3 : R.slots ≤ R'.slots) (h4 : R.locals ≤ R'.locals) (k : s.hasRoom pl R' = true) : s.hasRoom pl R = true := by
  simp only [State.hasRoom, Bool.and_eq_true, decide_eq_true_eq] at k ⊢
  obtain ⟨⟨⟨⟨k1, k2, k3, k4, k5, k6⟩, k7⟩, k8⟩, k9⟩ := k
  exact ⟨⟨⟨⟨by omega, by omega, by omega, by omega, by omega, k6⟩, by omega⟩, by omega⟩, k9⟩
theorem W.roomUp {R' : Room} {g : JFrame} (h1 : R.frames ≤ R'.frames) (h2 : R.cells ≤ R'.cells) (h3 : R.slots ≤ R'.slots) (h4 : R.locals ≤ R'.locals) (k : W p l e R s m args below meth c H locs cells slots Q g) : W p l e R' s m args below meth c H locs cells slots Q g :=
  fun T hT X => k T hT ⟨X.admits, X.cas, X.clock, X.frames, room_up h1 h2 h3 h4 X.room, X.hears, X.method, X.code, X.here, X.tail, X.warmed, X.limits, X.bytes, X.same⟩
theorem W.imp {Q' : State → Prop} {g : JFrame} (h : ∀ t, Q t → Q' t) (k : W p l e R s m args below meth c H locs cells slots Q g) : W p l e R s m args below meth c H locs cells slots Q' g := fun T hT X => by
  obtain ⟨t, a, b⟩ := k T hT X
  exact ⟨t, a, h t b⟩
theorem W.pureI {pc : Nat} {ls : Array Slot} {st0 rest : List Value} {r : Int32} (hr : va_Run p l e R s m args below meth c H locs cells slots 0 0 (F0 m pc ls st0) rest (fun st o t => o = .returned (some (.int r)) ∧ t.heap = st.heap) (fun _ => False))
    (kk : W p l e R s m args below meth c H locs cells slots Q (F0 m (pc + 3) ls (.int r :: rest))) : W p l e R s m args below meth c H locs cells slots Q (F0 m pc ls st0) := by
  intro T hT X
  obtain ⟨v, st₀, t, T', L, h0, X', hL, e1, e2, ⟨hv, hh⟩, st⟩ := hr T hT X
  cases hv
  have hn : L = [] := List.eq_nil_iff_forall_not_mem.mpr hL
  subst hn
  rw [List.append_nil] at X'
  obtain ⟨t2, a1, b1⟩ := kk T' (by rw [e1, hh, h0]) X'
  exact ⟨t2, st t2 a1, b1⟩
/-- nothing old was written -/
theorem same_old {s U : State} {k n : Nat} (h : s.sameButNew ({ U with vm := s.vm } : State) [] k n) : ∀ q : Nat, q < s.heap.size → U.heap[q]? = s.heap[q]? := by
  intro q hq
  obtain ⟨c', h1, h2, h3, h4⟩ := h.2.2.2.2.2 q s.heap[q] (Array.getElem?_eq_getElem hq)
  have h1 : U.heap[q]? = some c' := h1
  have h5 : c'.slots = (s.heap[q]).slots := Array.ext_getElem? (fun i => h4 i (fun z => by cases z))
  have h6 : c' = s.heap[q] := by rw [h2, h5]
  rw [h1, h6, Array.getElem?_eq_getElem hq]
/-- an exception of one's own, made and thrown: nothing was written before -/
theorem w_throw {cc : ByteArray} {own cls tx : String} {names : List String} {ic idx kS pc q : Nat} {lsC : Array Slot} (hx : p.tables.exec = Jvm.exec) (hb : c.code = cc) (htr : e.platform.stackTraces = false) (hown : s.vm.findClass own = some m.cls) (hcls : Jvm.Bundle.fit cls = true) (hnames : ∀ n ∈ names, Jvm.Bundle.fit n = true)
    (hat : ∀ a ∈ Jvm.Bundle.ownAtoms own ic cls names, a.before args s = true) (hcl : (Cond.classLink own idx cls).before args s = true) (hins : (Cond.instantiable cls 6).before args s = true) (hini : (Cond.initialized cls).before args s = true) (hZ : vk_R own kS tx q s)
    (d0 : decode cc pc = .ok (.new idx, 3)) (d3 : decode cc (pc + 3) = .ok (.dup, 1)) (d4 : decode cc (pc + 4) = .ok (.ldc kS, 2)) (d6 : decode cc (pc + 6) = .ok (.invokespecial ic, 3)) (d9 : decode cc (pc + 9) = .ok (.athrow, 1))
    (hsize : lsC.size = c.maxLocals) (hout : c.exceptionTable.isEmpty = true) (hRc : 1 ≤ R.cells) (hRs : 6 ≤ R.slots) (hRf : names.length + 3 < R.frames) (hRl : 1 + (13 * (names.length + 1) + 42) ≤ R.locals) (hlocks : meth.locks = false)
    (fin : ∀ (U : State) (ce : Cell), U.status = .running → Ended U below (.threw s.heap.size) → s.WarmedH U.vm → s.sameButNew ({ U with vm := s.vm } : State) [] 1 6 → U.heap[s.heap.size]? = some ce → ce.vm = .none → s.vm.findClass cls = some ce.cls → Q U) : W p l e R s m args below meth c s.heap [] 0 0 Q (F0 m pc lsC []) := by
  refine W.newc hx hb hown hcl hins hini rfl d0 (by omega) (by omega) (fun cC kC hf hk hord hn => ?_)
  refine lv_dup hx hb d3 rfl ?_
  refine va_ldcS hx hb hown hZ d4 ?_
  intro T hT X
  have h0 : c.exceptionTable.size = 0 := by simpa [Array.isEmpty] using hout
  have h1 : c.exceptionTable.toList = [] := List.eq_nil_of_length_eq_zero (by simpa using h0)
  have hcell : T.heap[s.heap.size]? = some (freshCell cC kC) := by
    rw [hT, Array.getElem?_push_size]
  obtain ⟨U, st, hrun, hend, hWU, hsame, ce, hce, hoc⟩ := X.ctorThrowS hx htr hown hcls hnames hat (fun x hx => by cases hx) hf hk hcell (Nat.le_refl _) (msg := .ref q) rfl (g := F0 m (pc + 6) lsC [.ref q, .ref s.heap.size, .ref s.heap.size]) rfl hsize rfl rfl (rest := []) rfl (by rw [hb]; exact d6) (by rw [hb]; exact d9) (fun x hx => by rw [h1] at hx; cases hx) hRf hRl hlocks
  exact ⟨U, st, fin U ce hrun hend hWU hsame hce hoc.vm hoc.cls⟩
end AV
/-- isRide writes nothing at all -/
theorem isRide_pure (l : Launch) (D : va_G) (ad : Nat → Nat) (cy : Nat → ClassId) (sz : Nat) (σ ρ : Sto) (N : Nat) (hW : WV ρ) (hC : gR σ 0 12 = some N) (hN : NetR σ N ρ) (x : Int) (hx : inR x) : Met l yX8_isRide (WS mX8_isRide) (rmM mX8_isRide) (va_Pc [.ref (ad 0), .int (Int32.ofInt x)] (fun U => U.heap.size = sz ∧ va_P D vwCl (wld ad cy σ) U.heap ∧ va_K D vwCl (tysL cy) U)) (fun _ st o t => o = .returned (some (.int (Int32.ofInt (if 0 ≤ x ∧ x < gN ρ 155 3 then 1 else 0)))) ∧ t.heap = st.heap) 0 0 (fun _ => False) := by
  refine Met.ofW (cc := cX8_isRide) (maxL := 2) (ret := some .boolean) (by decide) rfl ?_
  intro p e s m args below meth c s₁ B hml hv
  obtain ⟨rfl, hsz, hP, hK⟩ := hv
  have hx' := B.exec
  have hb := B.bytes
  have hr := B.returns
  have hts := atoms_spec (ws := WS mX8_isRide) B.pre
  have hown : s.vm.findClass RX8 = some m.cls := findClass_of_methodNamed B.named
  have hlocks := B.notSynchronized
  have hNk := hN.k
  have hl := lv_entry ([.ref (ad 0), .int (Int32.ofInt x)]) (n := 2) (Nat.le_of_ble_eq_true rfl)
  rw [lg_entry_eq]
  generalize (lg_sl ([.ref (ad 0), .int (Int32.ofInt x)]) ++ List.replicate (2 - (lg_sl ([.ref (ad 0), .int (Int32.ofInt x)])).length) Slot.unset).toArray = ls at hl ⊢
  have hl : lv_has ls 2 [(0, .ref (ad 0)), (1, .int (Int32.ofInt x))] := hl
  have g12 : slV ad (Tyn 8 12) (σ.1 0 (12 : Nat)) (σ.2.1 0 (12 : Nat)) (rfv (σ.2.2 0) 0 (12 : Nat)) = .ref (ad N) := by
    have z : gR σ 0 (12 : Nat) = some N := hC
    unfold gR at z
    rw [slV_ref rfl]
    unfold rfv
    rw [q0_12, z]
    rfl
  have g3 : slV ad (Tyn 2 3) (σ.1 N (3 : Nat)) (σ.2.1 N (3 : Nat)) (rfv (σ.2.2 N) N (3 : Nat)) = .int (Int32.ofInt (gN ρ 155 3)) := by
    have z : gN σ N (3 : Nat) = gN ρ 155 3 := hN.n3
    rw [← z]
    exact congrArg Value.int (ofInt_nrm _).symm
  refine lv_iload_n hx' hb dX8_isRide_0 rfl (lv_at hl 1 rfl) ?_
  refine lv_if_lt (tgt := 19) hx' hb dX8_isRide_1 (by decide) (fun c1 => ?_) (fun c1 => ?_)
  · have c1' : x < 0 := (i_lt hx inR0).mp c1
    refine lv_iconst (v := 0) hx' hb dX8_isRide_19 (by decide) ?_
    exact W.zret hx' hb hr rfl (fun t ht hW => ⟨by rw [if_neg (by omega)]; rfl, ht⟩) (fun q hq => by cases hq) dX8_isRide_20 hlocks
  · have c1' : ¬ x < 0 := fun z => c1 ((i_lt hx inR0).mpr z)
    refine lv_iload_n hx' hb dX8_isRide_4 rfl (lv_at hl 1 rfl) ?_
    refine lv_aload_n hx' hb dX8_isRide_5 rfl (lv_at hl 0 rfl) ?_
    refine va_get (C := Cn 8) (T := Tn 8) (N := nsl 8) (ci := 8) hx' hb hts (fun w hw => List.mem_cons_of_mem _ (uws_in 8 (by decide) w hw)) hown hK hP 0 (obj_at k0 (by decide)) (cl_at 8 (by decide)) 12 (by decide) (hts _ (List.mem_cons_of_mem _ fX8_65.2.2)) (fun x hx => by rw [own_in 8 (by decide) 12 (by decide)] at hx; exact hx) (v := .ref (ad N)) (by rw [slot_at (by decide), g12]) dX8_isRide_6 ?_
    refine va_get (C := Cn 2) (T := Tn 2) (N := nsl 2) (ci := 2) hx' hb hts (fun w hw => List.mem_cons_of_mem _ (uws_in 2 (by decide) w hw)) hown hK hP N (obj_at (kN hNk) (by decide)) (cl_at 2 (by decide)) 3 (by decide) (hts _ (List.mem_cons_of_mem _ fX8_359.2.2)) (fun x hx => by rw [own_in 2 (by decide) 3 (by decide)] at hx; exact hx) (v := .int (Int32.ofInt (gN ρ 155 3))) (by rw [slot_at (by decide), g3]) dX8_isRide_9 ?_
    refine lv_icmp_ge (tgt := 19) hx' hb dX8_isRide_12 (by decide) (fun c2 => ?_) (fun c2 => ?_)
    · have c2' : gN ρ 155 3 ≤ x := (i_le (inR_gN _ _ _) hx).mp c2
      refine lv_iconst (v := 0) hx' hb dX8_isRide_19 (by decide) ?_
      exact W.zret hx' hb hr rfl (fun t ht hW => ⟨by rw [if_neg (by omega)]; rfl, ht⟩) (fun q hq => by cases hq) dX8_isRide_20 hlocks
    · have c2' : ¬ gN ρ 155 3 ≤ x := fun z => c2 ((i_le (inR_gN _ _ _) hx).mpr z)
      refine lv_iconst (v := 1) hx' hb dX8_isRide_15 (by decide) ?_
      refine lv_goto (tgt := 20) hx' hb dX8_isRide_16 (by decide) ?_
      exact W.zret hx' hb hr rfl (fun t ht hW => ⟨by rw [if_pos (by omega)]; rfl, ht⟩) (fun q hq => by cases hq) dX8_isRide_20 hlocks
