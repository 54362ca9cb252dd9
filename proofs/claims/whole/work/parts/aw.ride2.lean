/-! The class's ride over the machine: it answers, or throws one of two exceptions of its own. -/
def Tw : String := "java/lang/Throwable"
def Ti : String := "java/lang/IndexOutOfBoundsException"
def Tn_ : String := "java/util/NoSuchElementException"
/-- a static of Throwable, outside the world, that holds a reference or null -/
def ZS (n d : String) (A : Nat → Prop) (U : State) : Prop := ∃ (cf : ClassId) (kf : Class) (fi : Nat) (f : Field) (a : Nat) (cell : Cell) (r : Option Nat), U.vm.findClass Tw = some cf ∧ U.fieldFound? Tw n d = some (cf, kf, fi, f) ∧ f.isStatic = true ∧ kf.statics = some a ∧ U.heap[a]? = some cell ∧ cell.vm.isStatics = true ∧ cell.cls = cf ∧ f.slot < cell.slots.size ∧ kf.staticTypes[f.slot]? = some f.type ∧ cell.slots[f.slot]? = some (va_rf r) ∧ ¬ A a
theorem ZS.call {n d : String} {A B : Nat → Prop} {s U : State} (h : ZS n d A s) (hv : s.vm.Alike U.vm) (hq : ∀ a : Nat, a < s.heap.size → ¬ A a → U.heap[a]? = s.heap[a]?) (hAB : ∀ q, B q → A q) : ZS n d B U := by
  obtain ⟨cf, kf, fi, f, a, cell, r, h0, h1, h2, h3, h4, h5, h6, h7, h8, h9, h10⟩ := h
  obtain ⟨k', hi', he⟩ := State.fieldFound?_setVm hv h1
  exact ⟨cf, k', fi, f, a, cell, r, by rw [hv.findClass]; exact h0, hi', h2, by rw [he]; exact h3, by rw [hq a (Array.getElem?_eq_some_iff.mp h4).1 h10]; exact h4, h5, h6, h7, by rw [he]; exact h8, h9, fun z => h10 (hAB a z)⟩
theorem ZS.lays {n d : String} {A : Nat → Prop} {U : State} (h : ZS n d A U) (args : Array Value) : (Cond.laysStatic Tw n d).before args U = true := by
  obtain ⟨cf, kf, fi, f, a, cell, r, h0, h1, h2, h3, h4, h5, h6, h7, h8, h9, h10⟩ := h
  exact Cond.laysStatic_of h0 h1 h2 h3 h4 h5 h6 h7 h8
theorem ZS.ref {n d : String} {A : Nat → Prop} {U : State} (h : ZS n d A U) (args : Array Value) : (Cond.isRef (.static Tw n d)).before args U = true := by
  obtain ⟨cf, kf, fi, f, a, cell, r, h0, h1, h2, h3, h4, h5, h6, h7, h8, h9, h10⟩ := h
  cases r <;> simp [Cond.before, Cond.holds, Cond.value, Term.eval, State.fieldNamed?, h1, h2, h3, h4, h5, h9, va_rf]
def iS (X : String) : MethodName := ⟨X, "<init>", "(Ljava/lang/String;)V"⟩
/-- words of the tables that are not kept by form: each kept by a law of its own -/
def DWs (U : State) : Prop := va_Nw (.declares (iS "java/lang/RuntimeException")) U ∧ va_Nw (.declares (iS "java/lang/Exception")) U ∧ va_Nw (.declares (iS Tw)) U ∧ va_Nw (.castable Ti Ti) U ∧ va_Nw (.castable Tn_ Tn_) U
theorem nw_decl {x : MethodName} {s U : State} (hv : s.vm.Alike U.vm) (h : va_Nw (.declares x) s) : va_Nw (.declares x) U := va_tabs rfl (rfl : (s.setVm U.vm).vm = U.vm) (by rw [Cond.declares_setVm hv]; exact h)
theorem nw_cast {a b : String} {s U : State} (hv : s.vm.Alike U.vm) (h : va_Nw (.castable a b) s) : va_Nw (.castable a b) U := va_tabs rfl (rfl : (s.setVm U.vm).vm = U.vm) (by rw [Cond.castable_setVm hv]; exact h)
theorem DWs.moved {s U : State} (hv : s.vm.Alike U.vm) (h : DWs s) : DWs U := ⟨nw_decl hv h.1, nw_decl hv h.2.1, nw_decl hv h.2.2.1, nw_cast hv h.2.2.2.1, nw_cast hv h.2.2.2.2⟩
/-- what a throw rests on beside the tables -/
def TX (A : Nat → Prop) (U : State) : Prop := ZS "UNASSIGNED_STACK" "[Ljava/lang/StackTraceElement;" A U ∧ ZS "SUPPRESSED_SENTINEL" "Ljava/util/List;" A U ∧ (∃ q, vk_R RX8 124 "no such ride" q U) ∧ (∃ q, vk_R RX8 158 "no such what" q U) ∧ DWs U
theorem TX.call {A B : Nat → Prop} {s U : State} (h : TX A s) (hW : s.WarmedH U.vm) (hq : ∀ a : Nat, a < s.heap.size → ¬ A a → U.heap[a]? = s.heap[a]?) (hAB : ∀ q, B q → A q) : TX B U := by
  obtain ⟨h1, h2, ⟨q3, h3⟩, ⟨q4, h4⟩, h5⟩ := h
  exact ⟨h1.call hW.alike hq hAB, h2.call hW.alike hq hAB, ⟨q3, h3.warm hW⟩, ⟨q4, h4.warm hW⟩, h5.moved hW.alike⟩
theorem TX.blind {A : Nat → Prop} {U : State} (g : JFrame) (mk : MethodId) (a : Array Value) (h : TX A U) : TX A (U.calling g mk a) := by
  obtain ⟨h1, h2, ⟨q3, h3⟩, ⟨q4, h4⟩, h5⟩ := h
  exact ⟨h1.call (U := U.calling g mk a) (Vm.Alike.refl U.vm) (fun _ _ _ => rfl) (fun _ z => z), h2.call (U := U.calling g mk a) (Vm.Alike.refl U.vm) (fun _ _ _ => rfl) (fun _ z => z), ⟨q3, h3.same (u := U) rfl⟩, ⟨q4, h4.same (u := U) rfl⟩, h5.moved (U := U.calling g mk a) (Vm.Alike.refl U.vm)⟩
def tNs : List String := ["java/lang/RuntimeException", "java/lang/Exception"]
/-- those of a throw's words that the tables don't keep by form -/
def xW : List Cond := [.laysStatic Tw "UNASSIGNED_STACK" "[Ljava/lang/StackTraceElement;", .laysStatic Tw "SUPPRESSED_SENTINEL" "Ljava/util/List;", .isRef (.static Tw "UNASSIGNED_STACK" "[Ljava/lang/StackTraceElement;"), .isRef (.static Tw "SUPPRESSED_SENTINEL" "Ljava/util/List;"), .declares (iS "java/lang/RuntimeException"), .declares (iS "java/lang/Exception"), .declares (iS Tw), .castable Ti Ti, .castable Tn_ Tn_]
theorem TX.words {A : Nat → Prop} {U : State} (h : TX A U) (args : Array Value) : ∀ w ∈ xW, w.before args U = true := by
  obtain ⟨h1, h2, -, -, h5, h6, h7, h8, h9⟩ := h
  intro w hw
  simp only [xW, List.mem_cons, List.not_mem_nil, or_false] at hw
  rcases hw with rfl | rfl | rfl | rfl | rfl | rfl | rfl | rfl | rfl
  · exact h1.lays args
  · exact h2.lays args
  · exact h1.ref args
  · exact h2.ref args
  · exact va_Nw.use rfl h5
  · exact va_Nw.use rfl h6
  · exact va_Nw.use rfl h7
  · exact va_Nw.use rfl h8
  · exact va_Nw.use rfl h9
theorem own_i : ∀ w ∈ Jvm.Bundle.ownAtoms RX8 126 Ti tNs, w ∈ Gw ∨ w ∈ xW := by decide +kernel
theorem own_n : ∀ w ∈ thA RX8 160 Tn_ 13 prog_26_method_4_code, w ∈ Gw ∨ w ∈ xW := by decide +kernel
theorem own_iC : Cond.classLink RX8 122 Ti ∈ Gw ∧ Cond.instantiable Ti 6 ∈ Gw ∧ Cond.initialized Ti ∈ Gw := by decide +kernel
theorem own_nC : Cond.classLink RX8 156 Tn_ ∈ Gw ∧ Cond.instantiable Tn_ 6 ∈ Gw ∧ Cond.initialized Tn_ ∈ Gw := by decide +kernel
theorem nb_0 : decode prog_26_method_4_code 0 = .ok (.aload_n 0, 1) := by decide +kernel
theorem nb_1 : decode prog_26_method_4_code 1 = .ok (.aload_n 1, 1) := by decide +kernel
theorem nb_2 : decode prog_26_method_4_code 2 = .ok (.invokespecial 13, 3) := by decide +kernel
theorem nb_5 : decode prog_26_method_4_code 5 = .ok (.return_, 1) := by decide +kernel
