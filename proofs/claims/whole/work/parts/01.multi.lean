/-! new int[n][m]: a proof of its own, over the machine's 'make' and the library without Shelf42. What the instruction leaves is told by a property (om_J), not by a closed form. -/
section MUL
variable {p : Program} {l : Launch} {e : Env} {R : Room} {s : State} {m : MethodId} {args : Array Value} {below : List Frame} {meth : Method} {c : Code} {H : Heap} {locs : List Loc} {cells slots : Nat} {Q : State → Prop}

/-- One instruction that ends well, its end known by a property alone. -/
theorem om_once {T : State} {f : JFrame} {i : Instr} {len : Nat} {P : State → Prop} (X : At T f.method c below) (hdg : decode c.code f.pc = .ok (i, len))
    (hw : wpRun (p.tables.exec i) (fun _ s₁ _ => P s₁) (fun _ _ _ => False) e (T.setTop f))
    (kk : ∀ s₁ : State, P s₁ → ∃ t, (∀ acts, Steps p.tables e below (afterInstr e len (.ok () s₁ acts)).1 t) ∧ Q t) : ∃ t, Steps p.tables e below (T.setTop f) t ∧ Q t := by
  have h := (wpRun_iff_run _ _ _ _ _).mp hw
  cases hr : (p.tables.exec i).run e (T.setTop f) with
  | ctl x s1 a1 => rw [hr] at h; cases x <;> exact h.elim
  | ok u s1 a1 =>
    rw [hr] at h
    obtain ⟨t, h1, h2⟩ := kk s1 h
    refine ⟨t, Steps.instr X ?_, h2⟩
    rw [hdg]
    refine (wpRun_iff_run _ _ _ _ _).mpr ?_
    rw [hr]
    exact h1

/-- What the word 'arrayOver' says of an array type. -/
theorem om_over {t : FieldType} (h : (Cond.arrayOver (.array t)).before args s = true) :
    ∃ (cI cA : ClassId) (k : Class), s.vm.findClass (FieldType.array t).toString = some cI ∧ s.vm.findClass ("[" ++ (FieldType.array t).toString) = some cA ∧ s.vm.classes[cA]? = some k ∧ k.kind = .array cI (.array t) := by
  simp only [Cond.before, Cond.holds, Cond.value, beq_iff_eq, Option.bind_eq_some_iff, Option.map_eq_some_iff] at h
  obtain ⟨cI, hI, cA, hi, k, hk, hb⟩ := h
  obtain ⟨hlt, hp, -⟩ := Array.findIdx?_eq_some_iff_getElem.mp hi
  have e1 : s.vm.classes[cA] = k := (Array.getElem?_eq_some_iff.mp hk).2
  rw [e1] at hp
  generalize hq : k.kind = q at hp hb
  cases q <;> first
    | (simp at hb; done)
    | (simp at hb hp; exact ⟨cI, cA, k, hI, hb.2, hk, by rw [hq, hp, hb.1]⟩)

/-- The loop's state: i rows stand, the array of rows holds them, all that was there is as it was. -/
def om_J (p : Program) (l : Launch) (e : Env) (R : Room) (s : State) (m : MethodId) (args : Array Value) (below : List Frame) (meth : Method) (c : Code) (locs : List Loc) (cells slots : Nat)
    (H : Heap) (vm : Vm) (cA cI : ClassId) (N K : Nat) (f : JFrame) (i : Nat) (t : State) : Prop :=
  ∃ U : State, t = U.setTop f ∧ Stand p l e R s m args below meth c U locs (cells + 1 + i) (slots + N + i * K) ∧ U.vm = vm ∧ U.heap.size = H.size + 1 + i ∧
    U.heap[H.size]? = some (arrV cA N (fun j => va_rf (if j < i then some (H.size + 1 + j) else none))) ∧
    (∀ j : Nat, j < i → U.heap[H.size + 1 + j]? = some (arrV cI K (fun _ => .int 0))) ∧ (∀ q : Nat, q < H.size → U.heap[q]? = H[q]?)

theorem om_J0 {T : State} {vm : Vm} {cA cI : ClassId} {N K : Nat} {f : JFrame} (hT : T.heap = H) (hv : T.vm = vm) (X : Stand p l e R s m args below meth c T locs cells slots) :
    om_J p l e R s m args below meth c locs cells slots H vm cA cI N K f 0 ((T.setTop f).pushCell { cls := cA, slots := Array.replicate N .null, vm := .none }) := by
  subst hT
  have h := X.pushed ({ cls := cA, slots := Array.replicate N .null, vm := .none } : Cell)
  have e1 : ({ cls := cA, slots := Array.replicate N .null, vm := .none } : Cell).slots.size = N := Array.size_replicate
  rw [e1] at h
  refine ⟨T.pushCell { cls := cA, slots := Array.replicate N .null, vm := .none }, rfl, ?_, hv, ?_, ?_, fun j hj => absurd hj (Nat.not_lt_zero j), fun q hq => State.heap_pushCell_of_lt _ _ hq⟩
  · rw [Nat.zero_mul]
    exact h
  · show (T.heap.push _).size = _
    rw [Array.size_push]
  · rw [State.heap_pushCell_size, arrV_new]
    refine congrArg some (congrArg (arrV cA N) (funext fun j => ?_))
    rw [if_neg (Nat.not_lt_zero j)]
    rfl

theorem om_Js {vm : Vm} {cA cI : ClassId} {N K : Nat} {f : JFrame} {i : Nat} {t : State} (hH : s.heap.size ≤ H.size) (hJ : om_J p l e R s m args below meth c locs cells slots H vm cA cI N K f i t) :
    om_J p l e R s m args below meth c locs cells slots H vm cA cI N K f (i + 1)
      ((t.pushCell { cls := cI, slots := Array.replicate K (.int 0), vm := .none }).setCell H.size ((arrV cA N (fun j => va_rf (if j < i then some (H.size + 1 + j) else none))).setSlot i (.ref (H.size + 1 + i)))) := by
  obtain ⟨U, rfl, X, hv, hz, ho, hin, hold⟩ := hJ
  have hlt : H.size < U.heap.size := by omega
  rw [arrV_new]
  have hc : (U.pushCell (arrV cI K (fun _ => .int 0))).heap[H.size]? = some (arrV cA N (fun j => va_rf (if j < i then some (H.size + 1 + j) else none))) := by
    rw [State.heap_pushCell_of_lt (h := hlt)]
    exact ho
  have X3 := ((X.pushed (arrV cI K (fun _ => .int 0))).stored hc i (.ref (H.size + 1 + i))).dropFresh (fun x hx => by cases List.mem_singleton.mp hx; exact hH)
  have e1 : (arrV cI K (fun _ => .int 0)).slots.size = K := Array.size_ofFn
  have e2 : slots + N + (i + 1) * K = slots + N + i * K + K := by rw [Nat.succ_mul]; omega
  rw [e1] at X3
  refine ⟨(U.pushCell (arrV cI K (fun _ => .int 0))).setCell H.size ((arrV cA N (fun j => va_rf (if j < i then some (H.size + 1 + j) else none))).setSlot i (.ref (H.size + 1 + i))), rfl, by rw [e2]; exact X3, hv, ?_, ?_, fun j hj => ?_, fun q hq => ?_⟩
  · show ((U.heap.push _).setIfInBounds _ _).size = _
    rw [Array.size_setIfInBounds, Array.size_push]
    omega
  · rw [State.heap_setCell_self hc, arrV_store]
    refine congrArg some (congrArg (arrV cA N) (funext fun j => ?_))
    unfold updV
    by_cases hj : j = i
    · subst hj
      rw [if_pos rfl, if_pos (by omega)]
      rfl
    · rw [if_neg hj]
      show va_rf (if j < i then some (H.size + 1 + j) else none) = va_rf (if j < i + 1 then some (H.size + 1 + j) else none)
      by_cases h2 : j < i
      · rw [if_pos h2, if_pos (by omega)]
      · rw [if_neg h2, if_neg (by omega)]
  · rw [State.heap_setCell_other (show H.size ≠ H.size + 1 + j by omega)]
    by_cases h2 : j < i
    · rw [State.heap_pushCell_of_lt (h := show H.size + 1 + j < U.heap.size by omega)]
      exact hin j h2
    · rw [show H.size + 1 + j = U.heap.size by omega, State.heap_pushCell_size]
  · rw [State.heap_setCell_other (show H.size ≠ q by omega), State.heap_pushCell_of_lt (h := show q < U.heap.size by omega)]
    exact hold q hq

/-- A row. -/
theorem om_row {E : CtlPost} {d : Bool} {acts : List Action} {t : State} {cI cc : ClassId} {kI : Class} {k : Int32} {K : Nat} {P : Addr → Pre} (hk : ¬ k < 0) (hK : k.toNatClampNeg = K) (h1 : t.vm.classes[cI]? = some kI) (h2 : kI.kind = .array cc .int)
    (hl : ¬ K > e.platform.arrayLengthLimit) (hh : ¬ K * 4 > e.platform.maxHeapBytes) (hc : t.heap.size < e.platform.maxCells) (hs : t.slotsUsed + K ≤ e.platform.maxSlots)
    (kk : ∀ acts', P t.heap.size d acts' (t.pushCell { cls := cI, slots := Array.replicate K (.int 0), vm := .none })) : wp (Op.multianewarray.make cI [k]) P E e d acts t := by
  subst hK
  rw [Op.multianewarray.make]
  simp only [wp_bind', if_neg hk, wp_pure', Jvm.W.theClass, h1, h2, Option.some.injEq, exists_eq_left']
  exact Jvm.W.newArray_of h1 h2 hl hh hc hs rfl kk

/-- The array of rows, and its rows. -/
theorem om_rows {E : CtlPost} {d : Bool} {acts : List Action} {T : State} {f : JFrame} {vm : Vm} {cA cI cc : ClassId} {kA kI : Class} {n k : Int32} {N K : Nat} {P : Addr → Pre} (hT : T.heap = H) (hv : T.vm = vm) (X : Stand p l e R s m args below meth c T locs cells slots)
    (hA : vm.classes[cA]? = some kA) (hAk : kA.kind = .array cI (.array .int)) (hI : vm.classes[cI]? = some kI) (hIk : kI.kind = .array cc .int)
    (hn : ¬ n < 0) (hk : ¬ k < 0) (hN : n.toNatClampNeg = N) (hK : k.toNatClampNeg = K) (hb1 : N * 4 ≤ 536870912) (hb2 : K * 4 ≤ 536870912) (hcells : cells + (1 + N) ≤ R.cells) (hslots : slots + (N + N * K) ≤ R.slots)
    (kk : ∀ d' acts' t, om_J p l e R s m args below meth c locs cells slots H vm cA cI N K f N t → P H.size d' acts' t) : wp (Op.multianewarray.make cA [n, k]) P E e d acts (T.setTop f) := by
  have hlim : e.platform.arrayLengthLimit = 2147483645 := Launch.admits_arrayLengthLimit X.admits
  have hmax : e.platform.maxHeapBytes = 536870912 := Launch.admits_maxHeapBytes X.admits
  have hH : s.heap.size ≤ H.size := hT ▸ X.heapGrown
  obtain ⟨r1, r2⟩ := X.roomAbove hcells hslots
  rw [hT] at r1
  have hfind : ([k].find? (· < 0)) = none := by simp [hk]
  rw [Op.multianewarray.make]
  simp only [wp_bind', if_neg hn, wp_pure', Jvm.W.theClass, State.vm_setTop, hv, hA, hAk, Option.some.injEq, exists_eq_left']
  refine Jvm.W.newArray_of (k := kA) (comp := cI) (type := .array .int) (by rw [State.vm_setTop, hv]; exact hA) hAk (by rw [hN, hlim]; omega) (by rw [hN, hmax]; show ¬ N * 4 > _; omega) (by rw [State.heap_setTop, hT]; omega) (by rw [hN]; show T.slotsUsed + N ≤ _; omega) rfl (fun acts1 => ?_)
  rw [hN]
  have j0 := om_J0 (cA := cA) (cI := cI) (N := N) (K := K) (f := f) hT hv X
  have ez : (T.setTop f).heap.size = H.size := by rw [State.heap_setTop, hT]
  rw [ez]
  generalize (T.setTop f).pushCell { cls := cA, slots := Array.replicate N .null, vm := .none } = t0 at j0
  simp only [hfind, ite_self, wp_bind', wp_pure']
  rw [Std.Legacy.Range.forIn_eq_forIn_range']
  refine wp_forIn_inv (fun todo t => ∃ i, i ≤ N ∧ todo = List.range' i (N - i) ∧ om_J p l e R s m args below meth c locs cells slots H vm cA cI N K f i t) _ _ ⟨0, Nat.zero_le _, ?_, j0⟩ ?_ ?_
  · simp [Std.Legacy.Range.size]
  · rintro x todo t d1 acts2 P2 ⟨i, hi, hl, hJ⟩ hnext
    obtain ⟨w, hw⟩ : ∃ w, N - i = w + 1 := by
      cases hq : N - i with
      | zero => rw [hq] at hl; cases hl
      | succ w => exact ⟨w, rfl⟩
    rw [hw, List.range'_succ] at hl
    obtain ⟨hx, hrest⟩ := List.cons.inj hl
    subst hx
    have hiN : x < N := by omega
    have hJ1 := om_Js hH hJ
    obtain ⟨U, hU, XU, hvU, hzU, hoU, -, -⟩ := hJ
    have ht1 : t.heap = U.heap := by rw [hU, State.heap_setTop]
    have ht2 : t.vm = vm := by rw [hU, State.vm_setTop, hvU]
    have ht3 : t.slotsUsed = U.slotsUsed := by rw [hU]; rfl
    have hmul : x * K + K ≤ N * K := by
      have hz := Nat.mul_le_mul_right K (show x + 1 ≤ N from hiN)
      rw [Nat.succ_mul] at hz
      exact hz
    obtain ⟨q1, q2⟩ := XU.roomAbove (a := 1) (b := K) (by omega) (by omega)
    have et : t.heap.size = H.size + 1 + x := by rw [ht1, hzU]
    simp only [wp_bind']
    refine om_row hk hK (by rw [ht2]; exact hI) hIk (by rw [hlim]; omega) (by rw [hmax]; omega) (by rw [ht1]; omega) (by rw [ht3]; exact q2) (fun acts3 => ?_)
    rw [et]
    rw [wp_bind', Jvm.W.writeLoc]
    simp only [wp_pure']
    refine ⟨_, ?_, ?_, ?_, ?_, hnext _ _ _ ⟨x + 1, hiN, ?_, hJ1⟩⟩
    · rw [State.heap_pushCell_of_lt (h := show H.size < t.heap.size by rw [et]; omega), ht1]
      exact hoU
    · intro h
      cases h
    · show x < (Array.ofFn _).size
      rw [Array.size_ofFn]
      exact hiN
    · have hcl : t.vm.classes[cA]? = some kA := by rw [ht2]; exact hA
      show State.fitsSlot _ cA .none x _ = true
      simp [State.fitsSlot, State.slotType?, hcl, hAk]
      rfl
    · rw [hrest]
      congr 1
      omega
  · rintro t d1 acts2 ⟨i, hi, hl, hJ⟩
    have e0 : i = N := by
      cases hq : N - i with
      | zero => omega
      | succ w => rw [hq, List.range'_succ] at hl; cases hl
    subst e0
    exact kk _ _ _ hJ

theorem wm_mna {cc : ByteArray} {pc idx N K : Nat} {n k : Int32} {ls : Array Slot} {st : List Value} {own : String} (hexec : p.tables.exec = Jvm.exec) (hb : c.code = cc) (hown : s.vm.findClass own = some m.cls) (hclink : (Cond.classLink own idx ("[" ++ (FieldType.array .int).toString)).before args s = true) (hover : (Cond.arrayOver (.array .int)).before args s = true) (harr : (Cond.arrayClass .int).before args s = true) (hn : ¬ n < 0) (hk : ¬ k < 0) (hN : n.toNatClampNeg = N) (hK : k.toNatClampNeg = K) (hb1 : N * 4 ≤ 536870912) (hb2 : K * 4 ≤ 536870912) (hcells : cells + (1 + N) ≤ R.cells) (hslots : slots + (N + N * K) ≤ R.slots) (hdg : decode cc pc = .ok (.multianewarray idx 2, 4))
    (kk : ∀ (H1 : Heap) (cA cI : ClassId), s.vm.findClass ("[" ++ (FieldType.array .int).toString) = some cA → s.vm.findClass (FieldType.array .int).toString = some cI → H1.size = H.size + 1 + N → H1[H.size]? = some (arrV cA N (fun j => va_rf (if j < N then some (H.size + 1 + j) else none))) → (∀ j : Nat, j < N → H1[H.size + 1 + j]? = some (arrV cI K (fun _ => .int 0))) → (∀ q : Nat, q < H.size → H1[q]? = H[q]?) →
      W p l e R s m args below meth c H1 locs (cells + 1 + N) (slots + N + N * K) Q (F0 m (pc + 4) ls (.ref H.size :: st))) : W p l e R s m args below meth c H locs cells slots Q (F0 m pc ls (.int k :: .int n :: st)) := by
  intro T hT X
  subst hb
  have hpl : e.platform.magicAccessors = ({} : Platform).magicAccessors := by rw [X.admits.platform]
  obtain ⟨cI, cA, kA, fI, fA, hA, hAk⟩ := om_over hover
  obtain ⟨cI2, kI, cc, fI2, hI, hIk⟩ := Cond.arrayClass_spec harr
  have e1 : cI2 = cI := Option.some.inj (fI2.symm.trans fI)
  subst e1
  obtain ⟨cA2, fA2, hlinks⟩ := Cond.classLink_spec hown hclink e.platform hpl
  have e2 : cA2 = cA := Option.some.inj (fA2.symm.trans fA)
  subst e2
  obtain ⟨hgive, hwarm, -⟩ := State.classEntry (e := e) X.warmed hlinks
  have hmm : (T.setTop (F0 m pc ls (.int k :: .int n :: st))).method? = some m := State.method?_setTop _ X.here.top
  generalize T.vm.noted m.cls idx (.cls cA2) = vm at hgive hwarm
  obtain ⟨kA1, hA1, eA⟩ := hwarm.alike.2.2 _ _ hA
  obtain ⟨kI1, hI1, eI⟩ := hwarm.alike.2.2 _ _ hI
  have hAk1 : kA1.kind = .array cI2 (.array .int) := by rw [eA]; exact hAk
  have hIk1 : kI1.kind = .array cc .int := by rw [eI]; exact hIk
  have X1 := X.noted hwarm
  refine om_once (P := om_J p l e R s m args below meth c locs cells slots H vm cA2 cI2 N K (F0 m pc ls (.ref H.size :: st)) N) X.here hdg ?_ ?_
  · rw [hexec]
    show wp (Op.multianewarray.sem idx 2) _ _ e false [] _
    unfold Op.multianewarray.sem
    simp only [wp_bind', Jvm.W.resolveClassAt_links hmm hgive]
    rw [Jvm.W.popN, if_neg (by decide)]
    refine ⟨F0 m pc ls (.int k :: .int n :: st), State.topJava?_setTop' (s := T.setVm vm) _ X.here.top, [.int n, .int k], st, rfl, rfl, ?_⟩
    simp only [List.mapM_cons, List.mapM_nil, wp_bind', wp_pure']
    have es : ((T.setTop (F0 m pc ls (.int k :: .int n :: st))).setVm vm).setTop (F0 m pc ls st) = (T.setVm vm).setTop (F0 m pc ls st) := by
      show ((T.setVm vm).setTop (F0 m pc ls (.int k :: .int n :: st))).setTop _ = _
      rw [State.setTop_setTop]
    refine Eq.mpr (congrArg (fun x => wp _ _ _ _ _ _ x) es) ?_
    refine om_rows (H := H) (f := F0 m pc ls st) hT rfl X1 hA1 hAk1 hI1 hIk1 hn hk hN hK hb1 hb2 hcells hslots (fun d1 acts1 t hJ => ?_)
    obtain ⟨U, rfl, XU, hJ⟩ := hJ
    simp only [wp_bind', Jvm.W.mark, Jvm.W.pushRef]
    refine ⟨F0 m pc ls st, State.topJava?_setTop' _ XU.here.top, U, ?_, XU, hJ⟩
    rw [State.setTop_setTop]
  · rintro s1 ⟨U, rfl, XU, hv, hz, ho, hin, hold⟩
    obtain ⟨t, h1, h2⟩ := kk U.heap cA2 cI2 fA2 fI2 hz ho hin hold U rfl XU
    refine ⟨t, fun acts => ?_, h2⟩
    rw [afterInstr_ok]
    exact h1
end MUL
