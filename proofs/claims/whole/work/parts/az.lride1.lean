/-! A call that throws, in its caller's frame; the class's ride once more: it answers; it throws. -/
section AZ
variable {p : Program} {l : Launch} {e : Env} {R : Room} {s : State} {m : MethodId} {args : Array Value} {below : List Frame} {meth : Method} {c : Code} {H : Heap} {locs : List Loc} {cells slots : Nat} {Q : State → Prop}
theorem w_callT {Ts ws : List Cond} {cc bytes : ByteArray} {nL maxL index n mc ms pc : Nat} {own C : String} {y : MethodName} {ret : Option FieldType} {rm : Room} {Pc : Array Value → State → Prop} {Qc : Array Value → State → Outcome → State → Prop} {free : Addr → Prop} {b : Addr} {As rest st0 : List Value} {ls : Array Slot}
    (S : CallFix p m c cc nL s args Ts own) (hM : MetFree l y (headSpec ws rm) Pc (fun _ _ _ _ _ => True) Qc) (cw : CallW R s args own C index y bytes maxL ret ws rm mc ms n) (hp : PreV s H C b Pc As) (hn : As.length = n) (hsize : ls.size = nL) (hstack : st0 = As.reverse ++ .ref b :: rest) (hWt : 2 * (F0 m pc ls rest).monitorRoom + (rest.map fun v => v.category).sum ≤ 8) (hdg : decode cc pc = .ok (.invokevirtual index, 3)) (hf : cells + mc ≤ R.cells ∧ slots + ms ≤ R.slots)
    (hthr : ∀ a st o t, Qc a st o t → (∃ x, o = .threw x) ∧ st.WarmedH t.vm ∧ ∃ L, st.sameButNew ({ t with vm := st.vm } : State) L mc ms ∧ ∀ q ∈ L, free q.base)
    (kk : ∀ (st₀ t T' : State) (a : Addr) (L : List Loc), st₀.heap = H → st₀.vm.Alike t.vm → s.WarmedH st₀.vm → Qc (Value.ref b :: As).toArray st₀ (.threw a) t → T'.heap = t.heap → T'.vm = t.vm → (∀ q ∈ L, free q.base) → Stand p l e R s m args below meth c T' (locs ++ L) (cells + mc) (slots + ms) → ∃ t2, Steps p.tables e below ((T'.setTop (F0 m pc ls rest)).pushFrame (.throwing a)) t2 ∧ Q t2) :
    W p l e R s m args below meth c H locs cells slots Q (F0 m pc ls st0) := by
  intro T hT X
  obtain ⟨⟨hrc, hrs, hfr, hlo, hws, hcw, hcode, hini, hy, hlen, hlink⟩, hinst, hsel⟩ := cw
  obtain ⟨hexec, hb, hml, hown, -⟩ := S
  obtain ⟨hblind, ⟨cellB, hcB, hoB, hclB⟩, hPc⟩ := hp
  obtain ⟨mk, methM, hnamed, hmethM, hstM, habM⟩ := Cond.instanceMethod_spec hinst
  obtain ⟨methM', cM, hmethM', -, -, -, -, -, -, hsigM⟩ := Cond.code_spec hnamed hcode
  cases hmethM.symm.trans hmethM'
  obtain ⟨c2, r2, m2, q1, q2, q3, q4, kP, hkP, hkPi⟩ := Cond.selects_spec hsel
  cases hclB.symm.trans q1
  cases (State.methodFound?_of_named hnamed hy).symm.trans q2
  cases hnamed.symm.trans q3
  have hselP : selectMethod e.platform s.vm cellB.cls mk = .method mk := by rw [Launch.admits_selectMethod X.admits]; exact q4
  have hlenA : As.length = methM.sig.parameters.length := hn.trans (hlen _ hsigM)
  obtain ⟨vm₁, X₁, hstep₁⟩ := X.invokevirtual hexec hown hlink hnamed hmethM hstM hkP hkPi hy (a := b) (cell := cellB) (by rw [hT]; exact hcB)
    (fun z h => by rw [h] at hoB; cases hoB) hselP hmethM habM hkP hkPi (g := F0 m pc ls st0) rfl (argsL := As) (rest := rest) hlenA hstack (by rw [hb]; exact hdg)
  obtain ⟨U, hU⟩ : ∃ U, U = T.setVm vm₁ := ⟨_, rfl⟩
  rw [← hU] at X₁ hstep₁
  obtain ⟨g, hgd⟩ : ∃ g, g = F0 m pc ls rest := ⟨_, rfl⟩
  have hg : g.method = m := by rw [hgd]
  have hUh : U.heap = H := by rw [hU]; exact hT
  have hn₁ : U.methodNamed? y = some mk := X₁.named hnamed
  have hcodeU : (Cond.code y bytes maxL ret).before (Value.ref b :: As).toArray U = true := hws _ hcw _ _ X₁.warmed
  have hiniU : (Cond.initialized y.cls).before (Value.ref b :: As).toArray U = true := word_at X₁.warmed (Or.inl (by first | rfl | simp [Cond.onTables, Cond.keeps, Cond.steady])) hini
  obtain ⟨methY, cY, hmY, hcY, -, hlY, -, -, -, -⟩ := Cond.code_spec hn₁ hcodeU
  obtain ⟨kY, hkY, -⟩ := className_of_methodNamed hn₁
  have hinitY : kY.init = .initialized := Cond.initialized_spec (findClass_of_methodNamed hn₁) hkY hiniU
  have h : At U g.method c below := by rw [hg]; exact X₁.here
  have hdU : decode c.code g.pc = .ok (.invokevirtual index, 3) := by rw [hb, hgd]; exact hdg
  have hsz : g.locals.size = c.maxLocals := by rw [hgd]; exact hsize.trans hml.symm
  have hst : (g.stack.map fun v => v.category).sum = (rest.map fun v => v.category).sum := by rw [hgd]
  have hmr : 2 * g.monitorRoom + (rest.map fun v => v.category).sum ≤ 8 := by rw [hgd]; exact hWt
  have happ : (headSpec ws rm).appliesLoose y e.platform (U.calling g mk (Value.ref b :: As).toArray) = true :=
    Spec.appliesLoose_calling (g := g) h hdU hn₁ hkY hinitY
      (X₁.room_calling (g := g) (R' := rm) hsz hmY hcY hfr (by rw [hlY]; omega) (by rw [hrc]; exact hf.1) (by rw [hrs]; exact hf.2)) (atoms_intro fun w hw => hws w hw _ _ X₁.warmed)
  obtain ⟨mid, hmid⟩ := h.above
  have hfrm : (U.setTop g).frames = (.java g :: mid) ++ below := by rw [State.frames_setTop' g h.top, hmid]; rfl
  have hPU : Pc (Value.ref b :: As).toArray (U.calling g mk (Value.ref b :: As).toArray) := hblind _ _ _ _ (hPc U hUh X₁.warmed)
  obtain ⟨o, s₂, hsteps, -, hend, hq⟩ := Steps.callFree hM p X₁.admits X₁.cas X₁.clock (acts := []) hfrm happ hPU trivial
  have hq' : Qc (Value.ref b :: As).toArray (U.calling g mk (Value.ref b :: As).toArray) o s₂ := hq
  rw [State.frames_setTop' g h.top] at hend
  obtain ⟨⟨x, rfl⟩, hW₂, L, hsm, hLf⟩ := hthr _ _ _ _ hq'
  obtain ⟨e2, r2, r3, r4, r5, r6⟩ := id hsm
  have e3 : s₂ = ({ (U.calling g mk (Value.ref b :: As).toArray).setFrames s₂.frames with heap := s₂.heap, slotsUsed := s₂.slotsUsed } : State).setVm s₂.vm := by
    have z : s₂ = ({ s₂ with vm := (U.calling g mk (Value.ref b :: As).toArray).vm } : State).setVm s₂.vm := rfl
    rw [e2] at z
    exact z
  have hf₂ : s₂.frames = .throwing x :: .java g :: U.frames.tail := hend
  have hW' : U.WarmedH s₂.vm := hW₂
  obtain ⟨g₀, hg0⟩ := Option.isSome_iff_exists.mp h.top
  obtain ⟨r, hr⟩ := State.topJava?_eq_some.mp hg0
  obtain ⟨T', hT'⟩ : ∃ T' : State, T' = (({ U with heap := s₂.heap, slotsUsed := s₂.slotsUsed } : State).setVm s₂.vm) := ⟨_, rfl⟩
  have hs₂ : s₂ = (T'.setTop g).pushFrame (.throwing x) := by
    have hr' : T'.frames = .java g₀ :: r := by rw [hT']; exact hr
    refine e3.trans ?_
    rw [hf₂, State.calling_eq h.top, State.setFrames_setFrames, State.pushFrame, State.frames_setTop _ hr', State.setTop_of_frames _ hr', State.setFrames_setFrames, hr, hT']
    rfl
  have hsame : U.sameButNew ({ U with heap := s₂.heap, slotsUsed := s₂.slotsUsed } : State) L mc ms := by
    refine ⟨?_, r2, r3, r4, r5, r6⟩
    obtain ⟨t, ht, -⟩ := State.frames_cons hr
    show ({ U with heap := s₂.heap, slotsUsed := s₂.slotsUsed } : State) = { U.setFrames U.frames with heap := s₂.heap, slotsUsed := s₂.slotsUsed }
    rw [State.setFrames_self ht]
  have X' : Stand p l e R s m args below meth c T' (locs ++ L) (cells + mc) (slots + ms) := by
    rw [hT']
    exact ⟨X₁.admits, X₁.cas, X₁.clock, X₁.frames, X₁.room, X₁.hears, X₁.method, X₁.code, (X₁.here.setHeapUsed s₂.heap s₂.slotsUsed).setVm hW'.alike, X₁.tail, State.WarmedH.trans X₁.warmed hW', X₁.limits, X₁.bytes, X₁.same.trans (hsame.setVm s.vm)⟩
  obtain ⟨t2, a1, b1⟩ := kk (U.calling g mk (Value.ref b :: As).toArray) s₂ T' x L hUh hW'.alike X₁.warmed hq' (by rw [hT']; rfl) (by rw [hT']; rfl) hLf X'
  refine ⟨t2, hstep₁ _ fun acts => ?_, b1⟩
  rw [doInvoke_state]
  have hsteps' := hsteps
  rw [hs₂, hgd] at hsteps'
  exact hsteps'.trans a1
end AZ
theorem ride_ret (l : Launch) (hfl : l.flags = flags0) (D : va_G) (ad : Nat → Nat) (cy : Nat → ClassId) (sz : Nat) (σ ρ : Sto) (N : Nat) (hW : WV ρ) (hQ : CQ σ ρ N) (i what : Int) (hi : inR i) (hwhat : inR what) (hr : 0 ≤ i ∧ i < gN ρ 155 3) (hw : 0 ≤ what ∧ what ≤ 8) : Met l yX8_ride (WS mX8_ride) rmR (RiP D ad cy σ i what sz) (va_Qi (fun r u => r = Int32.ofInt (cRide ρ i what) ∧ u = σ) (Bw D ad cy (va_A (wld ad cy σ) sz)) (va_A (wld ad cy σ) sz)) 1 6 (va_A (wld ad cy σ) sz) := by
  intro p e ha hc hk s m args below hf happ hP _
  obtain ⟨n, o, h1, h2, h3, hq⟩ := ride_met l hfl D ad cy sz σ ρ N hW hQ i what hi hwhat p e ha hc hk s m args below hf happ hP trivial
  refine ⟨n, o, h1, h2, h3, ?_⟩
  obtain ⟨hWt, ⟨L, hL1, hL2⟩, hF, hPw, hcase⟩ := hq
  obtain ⟨-, -, -, hK, hD0, -⟩ := hP
  rcases hcase with ⟨-, -, ho⟩ | ⟨hn, -⟩ | ⟨-, hn, -⟩
  · exact ⟨⟨⟨_, σ, ho, ⟨rfl, rfl⟩, hPw, va_K.moved hWt.alike hK, hD0.self⟩, hF⟩, L, ⟨⟨_, ho⟩, hWt, hL1⟩, hL2⟩
  · exact absurd hr hn
  · exact absurd hw hn
