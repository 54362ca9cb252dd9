/-! Two catch clauses over one range, their classes linked (resolved or not yet): the search, and where it leads. -/
section AY
theorem go_link {Q : Handler → Pre} {E : CtlPost} {e : Env} {d : Bool} {acts : List Action} {s : State} {f : JFrame} {a : Addr} {x : ExceptionTableEntry} {t : List ExceptionTableEntry} {c : ClassId} {cell : Cell} {b : Bool} (hx : covers x f.pc = true) (h0 : x.catchType ≠ 0)
    (hl : s.vm.ClassLinks e.platform f.method.cls x.catchType c) (hcell : s.heap[a]? = some cell) (hobj : ∀ k, cell.vm ≠ .statics k) (hk : ∃ k, s.vm.classes[cell.cls]? = some k) (hc : ∃ k, s.vm.classes[c]? = some k) (hfit : s.vm.assignable cell.cls c = b) :
    wp (findHandler.go f a (x :: t)) Q E e d acts s ↔ if b = true then Q (.found x.handlerPc) d acts (s.setVm (s.vm.noted f.method.cls x.catchType (.cls c))) else wp (findHandler.go f a t) Q E e d acts (s.setVm (s.vm.noted f.method.cls x.catchType (.cls c))) := by
  simp only [covers] at hx
  obtain ⟨ha, ht⟩ := (resolveClass_links e.toSetting hl).op (op := VmOp.resolveClass f.method.cls x.catchType) rfl
  have hal : s.vm.Alike (s.vm.noted f.method.cls x.catchType (.cls c)) := (Vm.Alike.refl s.vm).noted _ _ _
  obtain ⟨k1, hk1⟩ := hk
  obtain ⟨k2, hk2⟩ := hc
  obtain ⟨k1', hk1', -⟩ := hal.2.2 _ _ hk1
  obtain ⟨k2', hk2', -⟩ := hal.2.2 _ _ hk2
  have hfit' : (s.vm.noted f.method.cls x.catchType (.cls c)).assignable cell.cls c = b := by rw [hal.assignable]; exact hfit
  cases b <;> simp [findHandler.go, hx, h0, ha, ht, hcell, hobj, hk1', hk2', hfit', VmOp.dirties, VmOp.acts]
/-- a handler is found, the tables a little warmer: the walk goes on there -/
theorem thr_at {tb : Tables} {e : Env} {s target : State} {g : JFrame} {c : Code} {below : List Frame} {a : Addr} (h : At s g.method c below) {pc : Nat} {vm' : Vm}
    (hfind : ∀ (Q : Handler → Pre) (E : CtlPost) (d : Bool) (acts : List Action), wp (findHandler g a) Q E e d acts ((s.setTop g).pushFrame (.throwing a)) ↔ Q (.found pc) d acts (((s.setTop g).pushFrame (.throwing a)).setVm vm'))
    (hrest : Steps tb e below ((s.setVm vm').setTop { g with pc := pc, stack := [.ref a] }) target) : Steps tb e below ((s.setTop g).pushFrame (.throwing a)) target := by
  obtain ⟨hgo, hw⟩ := h.throwing a
  refine Steps.head hgo hw ?_
  have is : (stepThrowing e ((s.setTop g).pushFrame (.throwing a)) a (.java g :: s.frames.tail)).Is ((((s.setTop g).pushFrame (.throwing a)).setVm vm').setFrames (.java { g with pc := pc, stack := [.ref a] } :: s.frames.tail)) [] := by
    simp only [stepThrowing, searchFrame, vmDo]
    generalize hr : Sem.go _ e false [] ((s.setTop g).pushFrame (.throwing a)) = res
    obtain ⟨as, rfl, ha⟩ := Sem.eq_ok_of hr (a := Handler.found pc) (s' := ((s.setTop g).pushFrame (.throwing a)).setVm vm') (acts' := []) (by simp [hfind _ _ _ _])
    exact ⟨rfl, ha⟩
  rw [stepThread_throwing (frames_entered h.top _), is.1]
  obtain ⟨g₀, hg⟩ := Option.isSome_iff_exists.mp h.top
  obtain ⟨r, hr⟩ := State.topJava?_eq_some.mp hg
  have hr' : (s.setVm vm').frames = .java g₀ :: r := hr
  rw [State.setTop_of_frames _ hr'] at hrest
  have e1 : ∀ (u : State) (F G : List Frame), ((u.setFrames F).setVm vm').setFrames G = (u.setVm vm').setFrames G := fun u F G => by
    have h1 : (u.setFrames F).setVm vm' = (u.setVm vm').setFrames F := rfl
    rw [h1, State.setFrames_setFrames]
  rw [hr, List.tail_cons, State.pushFrame, e1, State.setTop_of_frames _ hr, e1]
  exact hrest
variable {p : Program} {l : Launch} {e : Env} {R : Room} {s : State} {m : MethodId} {args : Array Value} {below : List Frame} {meth : Method} {c : Code} {T : State} {locs : List Loc} {cells slots : Nat}
theorem caught2 (X : Stand p l e R s m args below meth c T locs cells slots) {g : JFrame} (hg : g.method = m) {own C1 C2 : String} (hown : s.vm.findClass own = some m.cls) {x1 x2 : ExceptionTableEntry} (htab : c.exceptionTable.toList = [x1, x2]) (hx1 : covers x1 g.pc = true) (hx2 : covers x2 g.pc = true) (n1 : x1.catchType ≠ 0) (n2 : x2.catchType ≠ 0)
    (hl1 : (Cond.classLink own x1.catchType C1).before args s = true) (hl2 : (Cond.classLink own x2.catchType C2).before args s = true) {a : Addr} {cell : Cell} (hcell : T.heap[a]? = some cell) (hobj : cell.vm = .none) (hk : ∃ k, s.vm.classes[cell.cls]? = some k)
    (hfit : (∀ c1, s.vm.findClass C1 = some c1 → s.vm.assignable cell.cls c1 = true) ∨ ((∀ c1, s.vm.findClass C1 = some c1 → s.vm.assignable cell.cls c1 = false) ∧ ∀ c2, s.vm.findClass C2 = some c2 → s.vm.assignable cell.cls c2 = true)) :
    ∃ vm', Stand p l e R s m args below meth c (T.setVm vm') locs cells slots ∧ ∃ pc, (((∀ c1, s.vm.findClass C1 = some c1 → s.vm.assignable cell.cls c1 = true) ∧ pc = x1.handlerPc) ∨ ((∀ c1, s.vm.findClass C1 = some c1 → s.vm.assignable cell.cls c1 = false) ∧ pc = x2.handlerPc)) ∧
      ∀ target, Steps p.tables e below ((T.setVm vm').setTop { g with pc := pc, stack := [.ref a] }) target → Steps p.tables e below ((T.setTop g).pushFrame (.throwing a)) target := by
  have hpl : e.platform.magicAccessors = ({} : Platform).magicAccessors := by rw [X.admits.platform]
  obtain ⟨c1, hc1, hcl1⟩ := Cond.classLink_spec hown hl1 e.platform hpl
  obtain ⟨c2, hc2, hcl2⟩ := Cond.classLink_spec hown hl2 e.platform hpl
  obtain ⟨dk1, _, _, kt1, hd1, _, _, _, _, hkt1, _, hopen1⟩ := hcl1.here
  obtain ⟨dk2, _, _, kt2, hd2, _, _, _, _, hkt2, _, hopen2⟩ := hcl2.here
  have hW1 : s.WarmedH (T.vm.noted m.cls x1.catchType (.cls c1)) := X.warmed.noted hd1 hopen1 (State.rightAt_cls hcl1)
  have X1 := X.noted hW1
  have hal := X.warmed.alike
  have hal1 := hW1.alike
  obtain ⟨k0, hk0⟩ := hk
  obtain ⟨k0', hk0', -⟩ := hal.2.2 _ _ hk0
  obtain ⟨k0'', hk0'', -⟩ := hal1.2.2 _ _ hk0
  obtain ⟨kt1', hkt1', -⟩ := hal.2.2 _ _ hkt1
  obtain ⟨kt2', hkt2', -⟩ := hal1.2.2 _ _ hkt2
  have hno : ∀ k, cell.vm ≠ .statics k := fun k z => by rw [hobj] at z; cases z
  subst hg
  rcases hfit with hf | ⟨hf, hf2⟩
  · have hf1 : T.vm.assignable cell.cls c1 = true := by rw [hal.assignable]; exact hf c1 hc1
    refine ⟨_, X1, x1.handlerPc, Or.inl ⟨hf, rfl⟩, fun target hrest => thr_at X.here (fun Q E d acts => ?_) hrest⟩
    rw [Jvm.W.findHandler_eq (s := (T.setTop g).pushFrame (.throwing a)) (meth := meth) (code := c) X.method' X.code, htab]
    have z := go_link (Q := Q) (E := E) (e := e) (d := d) (acts := acts) (s := (T.setTop g).pushFrame (.throwing a)) (f := g) (a := a) (x := x1) (t := [x2]) (c := c1) (cell := cell) (b := true) hx1 n1 (X.warmed.classLinks hcl1) hcell hno ⟨_, hk0'⟩ ⟨_, hkt1'⟩ hf1
    rw [if_pos rfl] at z
    exact z
  · have hf1 : T.vm.assignable cell.cls c1 = false := by rw [hal.assignable]; exact hf c1 hc1
    have hf3 : (T.vm.noted g.method.cls x1.catchType (.cls c1)).assignable cell.cls c2 = true := by rw [hal1.assignable]; exact hf2 c2 hc2
    have hW2 : s.WarmedH ((T.vm.noted g.method.cls x1.catchType (.cls c1)).noted g.method.cls x2.catchType (.cls c2)) := hW1.noted hd2 hopen2 (State.rightAt_cls hcl2)
    refine ⟨_, X.noted hW2, x2.handlerPc, Or.inr ⟨hf, rfl⟩, fun target hrest => thr_at X.here (fun Q E d acts => ?_) hrest⟩
    rw [Jvm.W.findHandler_eq (s := (T.setTop g).pushFrame (.throwing a)) (meth := meth) (code := c) X.method' X.code, htab]
    have z := go_link (Q := Q) (E := E) (e := e) (d := d) (acts := acts) (s := (T.setTop g).pushFrame (.throwing a)) (f := g) (a := a) (x := x1) (t := [x2]) (c := c1) (cell := cell) (b := false) hx1 n1 (X.warmed.classLinks hcl1) hcell hno ⟨_, hk0'⟩ ⟨_, hkt1'⟩ hf1
    rw [if_neg (by decide)] at z
    have y := go_link (Q := Q) (E := E) (e := e) (d := d) (acts := acts) (s := ((T.setTop g).pushFrame (.throwing a)).setVm (T.vm.noted g.method.cls x1.catchType (.cls c1))) (f := g) (a := a) (x := x2) (t := []) (c := c2) (cell := cell) (b := true) hx2 n2 (hW1.classLinks hcl2) hcell hno ⟨_, hk0''⟩ ⟨_, hkt2'⟩ hf3
    rw [if_pos rfl] at y
    exact z.trans y
end AY
