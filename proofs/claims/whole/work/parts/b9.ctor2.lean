/-! Constructors: new int[n][m], calls of constructors, their contracts. -/
def rwQ (a N : Nat) : Nat → Option Nat := fun i => if i < N then some (a + 1 + i) else none
def eI (cy : Nat → ClassId) (N : Nat) : va_E := .inl (cy 11, N, .inl fun _ => 0)
def eL (cy : Nat → ClassId) (N : Nat) : va_E := .inl (cy 12, N, .inr (.inl fun _ => 0))
def eB (cy : Nat → ClassId) (N : Nat) : va_E := .inl (cy 10, N, .inl fun _ => 0)
def eZ (cy : Nat → ClassId) (N : Nat) : va_E := .inl (cy 13, N, .inl fun _ => 0)
def eR (cy : Nat → ClassId) (a N : Nat) : va_E := .inl (cy 14, N, .inr (.inr (.inr (.inr (rwQ a N)))))
def eG (cy : Nat → ClassId) (a N K : Nat) : List va_E := eR cy a N :: List.replicate N (eI cy K)
def WSI (y : MethodName) (b : ByteArray) (nL : Nat) : List Cond := Cond.code y b nL none :: Gw
def rmI (f mc ms lc : Nat) : Room := { frames := f, cells := mc, slots := ms, locals := lc }
def CtP (D : va_G) (cy : Nat → ClassId) (n : Nat) (As : List Value) (ci : Nat) : Array Value → State → Prop := va_Pc (.ref n :: As) (fun U => Lay D n [.inr (ci, zer ci)] U.heap ∧ va_K D vwCl (tysL cy) U ∧ AOI U)
def CtQ (D : va_G) (n : Nat) (es1 : List va_E) : Array Value → State → Outcome → State → Prop := va_Qv (fun _ : Unit => True) (fun _ t => Lay D n es1 t.heap) (fun q => n ≤ q)
theorem CtP_blind {D : va_G} {cy : Nat → ClassId} {n ci : Nat} {As : List Value} : FrameBlind (CtP D cy n As ci) := fun a U g mk q => by
  obtain ⟨q0, q1, q2, q3⟩ := q
  exact ⟨q0, q1, va_K.moved (u := U) (U := U.calling g mk a) (Vm.Alike.refl U.vm) q2, AOI.moved (u := U) (U := U.calling g mk a) (Vm.Alike.refl U.vm) q3⟩
section CTQ
variable {p : Program} {l : Launch} {e : Env} {R : Room} {s : State} {m : MethodId} {args : Array Value} {below : List Frame} {meth : Method} {c : Code} {H : Heap} {locs : List Loc} {cells slots : Nat} {Q : State → Prop}
variable {cc : ByteArray} {nL : Nat} {own : String} {Ts : List Cond} {pc : Nat} {ls : Array Slot} {st : List Value} {D : va_G} {cy : Nat → ClassId} {h : Nat} {es : List va_E}
theorem ct_met {y : MethodName} {bytes : ByteArray} {maxL ci mc ms n : Nat} {rm : Room} {As : List Value} {es1 : List va_E} (hy : plainName y.cls = true) (hy1 : y.name = "<init>") (hA : (lg_sl (.ref n :: As)).length ≤ maxL)
    (body : ∀ (p : Program) (e : Env) (s : State) (m : MethodId) (below : List Frame) (meth : Method) (c : Code) (ls : Array Slot), CtX p s m (.ref n :: As).toArray c bytes maxL y.cls (WSI y bytes maxL) D cy n → meth.sig.returnType = none → meth.locks = false → meth.name = "<init>" → Lay D n [.inr (ci, zer ci)] s.heap → lv_has ls maxL (lv_args 0 (.ref n :: As)) →
      W p l e rm s m (.ref n :: As).toArray below meth c s.heap [] 0 0 (MQ below (CtQ D n es1) (.ref n :: As).toArray s mc ms (fun q => n ≤ q)) (F0 m 0 ls [])) : Met l y (WSI y bytes maxL) rm (CtP D cy n As ci) (CtQ D n es1) mc ms (fun q => n ≤ q) := by
  refine Met.ofW (cc := bytes) (maxL := maxL) (ret := none) hy rfl ?_
  intro p e s m args below meth c s₁ B hml hv
  obtain ⟨rfl, hL, hK, hAO⟩ := hv
  have hl := lv_entry (.ref n :: As) (n := maxL) hA
  rw [lg_entry_eq]
  refine body p e s m below meth c _ ⟨⟨B.exec, B.bytes, hml, findClass_of_methodNamed B.named, atoms_spec (ws := WSI y bytes maxL) B.pre⟩, fun w hw => List.mem_cons_of_mem _ hw, hK, hAO, ?_⟩ B.returns B.notSynchronized ((name_of_methodNamed B.named B.method).1.trans hy1) hL hl
  rw [hL.1]
  exact Nat.le_add_right _ _
theorem ct_ret {n : Nat} (hC : CtX p s m args c cc nL own Ts D cy n) (hr : meth.sig.returnType = none) (hlocks : meth.locks = false) (hL : Lay D n es H) (hS : va_S (fun q => n ≤ q) s.heap H locs) (hdg : decode cc pc = .ok (.return_, 1)) : W p l e R s m args below meth c H locs cells slots (MQ below (CtQ D n es) args s cells slots (fun q => n ≤ q)) (F0 m pc ls []) :=
  W.vret hC.1.1 hC.1.2.1 hr (fun t ht hW => ⟨⟨(), rfl, trivial, by show Lay D n es t.heap; rw [ht]; exact hL⟩, hS.F ht⟩) hS.2.2 hdg hlocks
theorem rc_back {n mc ms : Nat} {st0 : List Value} {x : va_E} {es1 : List va_E} {a : Array Value} (hL : Lay D h (es ++ [x]) H) (hS : va_S (fun q => h ≤ q) s.heap H locs) (hn : h + es.length = n) (hr : va_Run p l e R s m args below meth c H locs cells slots mc ms (F0 m pc ls st0) st (CtQ D n es1 a) (fun q => n ≤ q))
    (kk : ∀ (H1 : Heap) (locs1 : List Loc), Lay D h (es ++ es1) H1 → va_S (fun q => h ≤ q) s.heap H1 locs1 → W p l e R s m args below meth c H1 locs1 (cells + mc) (slots + ms) Q (F0 m (pc + 3) ls st)) : W p l e R s m args below meth c H locs cells slots Q (F0 m pc ls st0) := by
  refine va_callv hr hS (fun q _ z => by omega) (fun q z => by omega) (fun u t H1 locs1 ht hvm hw hB hz1 hk1 hS1 => ?_)
  rw [ht] at hB
  have hz : H.size = n + 1 := by rw [hL.1, List.length_append, ← hn]; rfl
  refine kk H1 locs1 (Lay.app hL.left (by rw [hn]; exact hB) (fun q hq => hk1 q (by omega) (by omega))) hS1
theorem rc_pre {n ci : Nat} {As : List Value} (hC : CtX p s m args c cc nL own Ts D cy h) (hL : Lay D h (es ++ [.inr (ci, zer ci)]) H) (hn : h + es.length = n) : PreS s H (CtP D cy n As ci) (.ref n :: As) :=
  ⟨CtP_blind, fun U hU hW => ⟨rfl, by rw [hU, ← hn]; exact hL.right, va_K.moved hW.alike hC.2.2.1, AOI.moved hW.alike hC.2.2.2.1⟩⟩
theorem WSI_good {y : MethodName} {b : ByteArray} {k : Nat} (hG : ∀ w ∈ Gw, w ∈ Ts) (hc : Cond.code y b k none ∈ Gw) : GoodIn Ts (WSI y b k) := fun w hw => by
  have h9 : w ∈ Gw := (List.mem_cons.mp hw).elim (fun q => by rw [q]; exact hc) id
  exact ⟨hG w h9, good_of_word (Gw_good h9)⟩
/-- a constructor of a nest mate -/
theorem rc_callN {n mc ms ci maxL na idx : Nat} {y : MethodName} {bytes : ByteArray} {rm : Room} {As st0 : List Value} {es1 : List va_E} (hC : CtX p s m args c cc nL own Ts D cy h) (hL : Lay D h (es ++ [.inr (ci, zer ci)]) H) (hS : va_S (fun q => h ≤ q) s.heap H locs) (hM : Met l y (WSI y bytes maxL) rm (CtP D cy n As ci) (CtQ D n es1) mc ms (fun q => n ≤ q)) (hn : h + es.length = n)
    (hNw : va_Nw (.methodLinkNest own idx y "DayProfiles") s) (hin : Cond.instanceMethod y ∈ Gw) (hcode : Cond.code y bytes maxL none ∈ Gw) (hini : Cond.initialized y.cls ∈ Gw) (hy1 : y.name = "<init>") (hd : y.cls ≠ "java/lang/invoke/MethodHandle" ∧ y.cls ≠ "java/lang/invoke/VarHandle" ∧ (parseMethodDescriptor y.desc).map (fun d => d.parameters.length) = some na) (hR : rm.frames + 1 ≤ R.frames ∧ 8 + (maxL + 11) + rm.locals ≤ R.locals) (hrc : rm.cells = mc) (hrs : rm.slots = ms) (hAl : As.length = na) (hls : ls.size = nL) (hst : st0 = As.reverse ++ .ref n :: st) (hw : (st.map fun v => v.category).sum ≤ 8) (hdg : decode cc pc = .ok (.invokespecial idx, 3)) (hf : cells + mc ≤ R.cells ∧ slots + ms ≤ R.slots)
    (kk : ∀ (H1 : Heap) (locs1 : List Loc), Lay D h (es ++ es1) H1 → va_S (fun q => h ≤ q) s.heap H1 locs1 → W p l e R s m args below meth c H1 locs1 (cells + mc) (slots + ms) Q (F0 m (pc + 3) ls st)) : W p l e R s m args below meth c H locs cells slots Q (F0 m pc ls st0) := by
  have hg : ∀ w ∈ Gw, w.before args s = true := fun w hw => hC.1.2.2.2.2 w (hC.2.1 w hw)
  exact rc_back hL hS hn (va_runIN (host := "DayProfiles") (As := As) (rest := st) (b := n) hC.1 hM ⟨va_cnB na hC.1.2.2.2.2 (WSI_good hC.2.1 hcode) rfl hrc hrs hNw (hg _ hini) hd hR, hy1, hg _ hin⟩ (rc_pre hC hL hn) rfl hAl hls hst (lv_room hw) hdg hf) kk
theorem rc_callP {n mc ms ci maxL na idx : Nat} {y : MethodName} {bytes : ByteArray} {rm : Room} {As st0 : List Value} {es1 : List va_E} (hC : CtX p s m args c cc nL own Ts D cy h) (hL : Lay D h (es ++ [.inr (ci, zer ci)]) H) (hS : va_S (fun q => h ≤ q) s.heap H locs) (hM : Met l y (WSI y bytes maxL) rm (CtP D cy n As ci) (CtQ D n es1) mc ms (fun q => n ≤ q)) (hn : h + es.length = n)
    (hlk : Cond.methodLink own idx y ∈ Gw) (hin : Cond.instanceMethod y ∈ Gw) (hcode : Cond.code y bytes maxL none ∈ Gw) (hini : Cond.initialized y.cls ∈ Gw) (hy1 : y.name = "<init>") (hd : y.cls ≠ "java/lang/invoke/MethodHandle" ∧ y.cls ≠ "java/lang/invoke/VarHandle" ∧ (parseMethodDescriptor y.desc).map (fun d => d.parameters.length) = some na) (hR : rm.frames + 1 ≤ R.frames ∧ 8 + (maxL + 11) + rm.locals ≤ R.locals) (hrc : rm.cells = mc) (hrs : rm.slots = ms) (hAl : As.length = na) (hls : ls.size = nL) (hst : st0 = As.reverse ++ .ref n :: st) (hw : (st.map fun v => v.category).sum ≤ 8) (hdg : decode cc pc = .ok (.invokespecial idx, 3)) (hf : cells + mc ≤ R.cells ∧ slots + ms ≤ R.slots)
    (kk : ∀ (H1 : Heap) (locs1 : List Loc), Lay D h (es ++ es1) H1 → va_S (fun q => h ≤ q) s.heap H1 locs1 → W p l e R s m args below meth c H1 locs1 (cells + mc) (slots + ms) Q (F0 m (pc + 3) ls st)) : W p l e R s m args below meth c H locs cells slots Q (F0 m pc ls st0) := by
  have hg : ∀ w ∈ Gw, w.before args s = true := fun w hw => hC.1.2.2.2.2 w (hC.2.1 w hw)
  exact rc_back hL hS hn (va_runI (As := As) (rest := st) (b := n) hC.1 hM (cwI na hC.1.2.2.2.2 (WSI_good hC.2.1 hcode) rfl hrc hrs (hg _ hini) (hg _ hlk) (hg _ hin) hy1 hd hR) (rc_pre hC hL hn) rfl hAl hls hst (lv_room hw) hdg hf) kk
end CTQ
