/-! THE ABSTRACT MACHINE: values are Ints, Int64s and numbers of cells; a store gives what each cell holds; RunA says that from a place of a method, with such locals, stack and store, it comes to its end with Q. -/
abbrev Av : Type := Int ⊕ (Int64 ⊕ Option Nat)
abbrev ai (x : Int) : Av := Sum.inl x
abbrev al (x : Int64) : Av := Sum.inr (Sum.inl x)
abbrev ar (k : Nat) : Av := Sum.inr (Sum.inr (some k))
def cv (ad : Nat → Nat) : Av → Value
  | Sum.inl x => .int (Int32.ofInt x)
  | Sum.inr (Sum.inl x) => .long x
  | Sum.inr (Sum.inr none) => .null
  | Sum.inr (Sum.inr (some k)) => .ref (ad k)
abbrev Sto : Type := (Nat → Int → Int) × (Nat → Int → Int64) × (Nat → Int → Option Nat)
/-- a number is read as an int of the machine: always in range -/
def nrm (x : Int) : Int := (Int32.ofInt x).toInt
def gN (σ : Sto) (c : Nat) (j : Int) : Int := nrm (σ.1 c j)
def gL (σ : Sto) (c : Nat) (j : Int) : Int64 := σ.2.1 c j
def gR (σ : Sto) (c : Nat) (j : Int) : Option Nat := σ.2.2 c j
def up2 {α : Type} (f : Nat → Int → α) (c : Nat) (j : Int) (v : α) : Nat → Int → α := fun c' j' => if c' = c then (if j' = j then v else f c' j') else f c' j'
def sN (σ : Sto) (c : Nat) (j : Int) (v : Int) : Sto := (up2 σ.1 c j v, σ.2.1, σ.2.2)
def sL (σ : Sto) (c : Nat) (j : Int) (v : Int64) : Sto := (σ.1, up2 σ.2.1 c j v, σ.2.2)
def sR (σ : Sto) (c : Nat) (j : Int) (v : Option Nat) : Sto := (σ.1, σ.2.1, up2 σ.2.2 c j v)
def rfv (r : Int → Option Nat) (c : Nat) (j : Int) : Option Nat := match rfs c j with
  | some k => some k
  | none => r j
theorem up2_same {α : Type} {f : Nat → Int → α} {c : Nat} {j : Int} {v : α} : up2 f c j v c j = v := by simp [up2]
theorem up2_nc {α : Type} {f : Nat → Int → α} {c d : Nat} {j i : Int} {v : α} (h : d ≠ c) : up2 f c j v d i = f d i := by simp [up2, h]
theorem up2_nj {α : Type} {f : Nat → Int → α} {c d : Nat} {j i : Int} {v : α} (h : i ≠ j) : up2 f c j v d i = f d i := by simp [up2, h]
theorem gN_sN {σ : Sto} {c d : Nat} {j i : Int} {v : Int} : gN (sN σ c j v) d i = if d = c ∧ i = j then nrm v else gN σ d i := by
  by_cases h : d = c <;> by_cases h2 : i = j <;> simp [gN, sN, up2, h, h2]
theorem gL_sL {σ : Sto} {c d : Nat} {j i : Int} {v : Int64} : gL (sL σ c j v) d i = if d = c ∧ i = j then v else gL σ d i := by
  by_cases h : d = c <;> by_cases h2 : i = j <;> simp [gL, sL, up2, h, h2]
theorem gR_sR {σ : Sto} {c d : Nat} {j i : Int} {v : Option Nat} : gR (sR σ c j v) d i = if d = c ∧ i = j then v else gR σ d i := by
  by_cases h : d = c <;> by_cases h2 : i = j <;> simp [gR, sR, up2, h, h2]
theorem gN_sL {σ : Sto} {c d : Nat} {j i : Int} {v : Int64} : gN (sL σ c j v) d i = gN σ d i := rfl
theorem gN_sR {σ : Sto} {c d : Nat} {j i : Int} {v : Option Nat} : gN (sR σ c j v) d i = gN σ d i := rfl
theorem gL_sN {σ : Sto} {c d : Nat} {j i : Int} {v : Int} : gL (sN σ c j v) d i = gL σ d i := rfl
theorem gL_sR {σ : Sto} {c d : Nat} {j i : Int} {v : Option Nat} : gL (sR σ c j v) d i = gL σ d i := rfl
theorem gR_sN {σ : Sto} {c d : Nat} {j i : Int} {v : Int} : gR (sN σ c j v) d i = gR σ d i := rfl
theorem gR_sL {σ : Sto} {c d : Nat} {j i : Int} {v : Int64} : gR (sL σ c j v) d i = gR σ d i := rfl
/-- a slot of an object -/
def slV (ad : Nat → Nat) (ty : FieldType) (x : Int) (y : Int64) (r : Option Nat) : Value := match ty with
  | .long => .long y
  | .int => .int (Int32.ofInt x)
  | .boolean => .int (Int32.ofInt x)
  | _ => va_rf (r.map ad)
def cellF (ad : Nat → Nat) (cy : Nat → ClassId) (c : Nat) (n : Int → Int) (l : Int → Int64) (r : Int → Option Nat) : va_E :=
  if kd c < 10 then .inr (kd c, (List.range (nsl (kd c))).map fun j => slV ad (Tyn (kd c) j) (n j) (l j) (rfv r c j))
  else if kd c = 12 then .inl (cy 12, ln c, .inr (.inl fun j => l j))
  else if kd c = 14 then .inl (cy 14, ln c, .inr (.inr (.inr (.inr fun j => (rfv r c j).map ad))))
  else .inl (cy (kd c), ln c, .inl fun j => Int32.ofInt (n j))
def cellE (ad : Nat → Nat) (cy : Nat → ClassId) (σ : Sto) (c : Nat) : va_E := cellF ad cy c (σ.1 c) (σ.2.1 c) (σ.2.2 c)
def wld (ad : Nat → Nat) (cy : Nat → ClassId) (σ : Sto) : va_W := (List.range NC).map fun c => (ad c, cellE ad cy σ c)
def tysL (cy : Nat → ClassId) : List (ClassId × FieldType) := [(cy 10, .byte), (cy 11, .int), (cy 12, .long), (cy 13, .boolean), (cy 14, .array .int)]
theorem wld_get {ad : Nat → Nat} {cy : Nat → ClassId} {σ : Sto} {c : Nat} (h : c < NC) : (wld ad cy σ)[c]? = some (ad c, cellE ad cy σ c) := by
  unfold wld
  rw [List.getElem?_map, List.getElem?_range h]
  rfl
theorem wld_len {ad : Nat → Nat} {cy : Nat → ClassId} {σ : Sto} : (wld ad cy σ).length = NC := by
  unfold wld
  rw [List.length_map, List.length_range]
theorem kd_lt {c : Nat} (h : kd c < 15) : c < NC := by
  rcases Nat.lt_or_ge c NC with q | q
  · exact q
  · exfalso
    unfold kd at h
    rw [List.getD_eq_getElem?_getD, List.getElem?_eq_none (by exact q)] at h
    exact absurd h (by decide)
theorem wld_set {ad : Nat → Nat} {cy : Nat → ClassId} {σ σ' : Sto} {c : Nat} {e : va_E} (hc : c < NC) (he : cellE ad cy σ' c = e) (h : ∀ d, d ≠ c → cellE ad cy σ' d = cellE ad cy σ d) : (wld ad cy σ).set c (ad c, e) = wld ad cy σ' := by
  apply List.ext_getElem?
  intro k
  rw [List.getElem?_set]
  by_cases hk : c = k
  · subst hk
    rw [if_pos rfl, if_pos (by rw [wld_len]; exact hc), wld_get hc, he]
  · rw [if_neg hk]
    rcases Nat.lt_or_ge k NC with q | q
    · rw [wld_get q, wld_get q, h k (fun z => hk z.symm)]
    · rw [List.getElem?_eq_none (by rw [wld_len]; exact q), List.getElem?_eq_none (by rw [wld_len]; exact q)]
theorem rng_set {α : Type} {N k : Nat} {f f' : Nat → α} {v : α} (hv : f' k = v) (h : ∀ i, i ≠ k → f' i = f i) : ((List.range N).map f).set k v = (List.range N).map f' := by
  apply List.ext_getElem?
  intro i
  rw [List.getElem?_set]
  by_cases hk : k = i
  · subst hk
    rw [if_pos rfl, List.getElem?_map, List.length_map, List.length_range]
    by_cases q : k < N
    · rw [if_pos q, List.getElem?_range q]
      exact congrArg some hv.symm
    · rw [if_neg q, List.getElem?_eq_none (by rw [List.length_range]; omega)]
      rfl
  · rw [if_neg hk, List.getElem?_map, List.getElem?_map]
    rcases Nat.lt_or_ge i N with q | q
    · rw [List.getElem?_range q]
      exact congrArg some (h i (fun z => hk z.symm)).symm
    · rw [List.getElem?_eq_none (by rw [List.length_range]; exact q)]
      rfl
/-- a method: its name, bytes, places of locals, what it returns, the frames and words of locals that it may use -/
abbrev Mth : Type := MethodName × ByteArray × Nat × Option FieldType × Nat × Nat
def WS (M : Mth) : List Cond := Cond.code M.1 M.2.1 M.2.2.1 M.2.2.2.1 :: Gw
def rmM (M : Mth) : Room := { frames := M.2.2.2.2.1, cells := 0, slots := 0, locals := M.2.2.2.2.2 }
def Bw (D : va_G) (ad : Nat → Nat) (cy : Nat → ClassId) (A : Nat → Prop) (u : Sto) (t : State) : Prop := va_P D vwCl (wld ad cy u) t.heap ∧ va_K D vwCl (tysL cy) t ∧ va_D A (wld ad cy u)
def rkO (r : Option FieldType) : Nat := match r with
  | none => 0
  | some .long => 2
  | _ => 1
def QcA (D : va_G) (ad : Nat → Nat) (cy : Nat → ClassId) (A : Nat → Prop) (rk : Nat) (Q : Option Av → Sto → Prop) : Array Value → State → Outcome → State → Prop :=
  if rk = 0 then va_Qv (fun u => Q none u) (Bw D ad cy A) A
  else if rk = 2 then va_Ql (fun r u => Q (some (al r)) u) (Bw D ad cy A) A
  else va_Qi (fun r u => ∃ x : Int, r = Int32.ofInt x ∧ Q (some (ai x)) u) (Bw D ad cy A) A
/-- links to a nest mate's own methods -/
def NWt : List (String × Nat × MethodName) := [(RX2, 64, yX8_bitsOf), (RX5, 142, yX8_within)]
def NWs (U : State) : Prop := ∀ q ∈ NWt, va_Nw (.methodLinkNest q.1 q.2.1 q.2.2 "DayProfiles") U
theorem NWs.warm {s U : State} (hW : s.WarmedH U.vm) (h : NWs s) : NWs U := fun q hq => va_Nw.warmM hW (h q hq)
theorem NWs.same {s U : State} (hv : s.vm = U.vm) (h : NWs s) : NWs U := fun q hq => va_Nw.same rfl hv (h q hq)
/-- the reference's text of words, an object of old: cell 176 -/
def wdB : List Int32 := [115, 116, 111, 112, 32, 119, 97, 108, 107, 32, 116, 114, 105, 112, 32]
def SK (ad : Nat → Nat) (A : Nat → Prop) (U : State) : Prop := vk_S 1 [15] [wdB] (fun _ => ad 176) (fun _ => ad 177) A U U.heap ∧ vk_R RX9 124 "stop walk trip " (ad 176) U ∧ va_Z "java/lang/String" "COMPACT_STRINGS" "Z" (.int 1) A U U.heap ∧ ∃ r : Option Nat, va_Z "jdk/internal/util/Preconditions" "SIOOBE_FORMATTER" "Ljava/util/function/BiFunction;" (va_rf (r.map ad)) A U U.heap
theorem SK.blind {ad : Nat → Nat} {A : Nat → Prop} {U : State} (g : JFrame) (mk : MethodId) (a : Array Value) (h : SK ad A U) : SK ad A (U.calling g mk a) := by
  obtain ⟨h1, h2, h3, r, h4⟩ := h
  exact ⟨h1.moved (u := U) (U := U.calling g mk a) (Vm.Alike.refl U.vm), h2.same (u := U) rfl, h3.moved (u := U) (U := U.calling g mk a) (Vm.Alike.refl U.vm), r, h4.moved (u := U) (U := U.calling g mk a) (Vm.Alike.refl U.vm)⟩
theorem SK.call {ad : Nat → Nat} {A B : Nat → Prop} {s U : State} (h : SK ad A s) (hW : s.WarmedH U.vm) (hq : ∀ a : Nat, a < s.heap.size → ¬ A a → U.heap[a]? = s.heap[a]?) (hAB : ∀ q, B q → A q) : SK ad B U := by
  obtain ⟨h1, h2, h3, r, h4⟩ := h
  exact ⟨((h1.kept hq).moved hW.alike).narrow hAB, h2.warm hW, ((h3.kept hq).moved hW.alike).narrow hAB, r, ((h4.kept hq).moved hW.alike).narrow hAB⟩
def cvl (ad : Nat → Nat) (ls : List (Nat × Av)) : List (Nat × Value) := ls.map fun q => (q.1, cv ad q.2)
/-- what holds of the machine while the method runs -/
def Stg (M : Mth) (p : Program) (s : State) (m : MethodId) (args : Array Value) (meth : Method) (c : Code) (D : va_G) (ad : Nat → Nat) (cy : Nat → ClassId) (A : Nat → Prop) : Prop :=
  p.tables.exec = Jvm.exec ∧ c.code = M.2.1 ∧ meth.sig.returnType = M.2.2.2.1 ∧ c.maxLocals = M.2.2.1 ∧ s.vm.findClass M.1.cls = some m.cls ∧ (∀ w ∈ WS M, w.before args s = true) ∧ meth.locks = false ∧ va_K D vwCl (tysL cy) s ∧ (∀ q : Nat, s.heap.size ≤ q → A q) ∧ NWs s ∧ SK ad A s
def RunA (M : Mth) (Q : Option Av → Sto → Prop) (pc : Nat) (ls : List (Nat × Av)) (st : List Av) (σ : Sto) : Prop :=
  ∀ (l : Launch) (p : Program) (e : Env) (s : State) (m : MethodId) (args : Array Value) (below : List Frame) (meth : Method) (c : Code) (D : va_G) (ad : Nat → Nat) (cy : Nat → ClassId) (A : Nat → Prop) (H : Heap) (locs : List Loc), Stg M p s m args meth c D ad cy A → va_P D vwCl (wld ad cy σ) H → va_D A (wld ad cy σ) → va_S A s.heap H locs → ∀ lsC : Array Slot, lv_has lsC M.2.2.1 (cvl ad ls) →
    W p l e (rmM M) s m args below meth c H locs 0 0 (MQ below (QcA D ad cy A (rkO M.2.2.2.1) Q) args s 0 0 A) (F0 m pc lsC (st.map (cv ad)))
def MetA (M : Mth) (as : List Av) (σ : Sto) (Q : Option Av → Sto → Prop) : Prop :=
  ∀ (l : Launch) (D : va_G) (ad : Nat → Nat) (cy : Nat → ClassId) (sz : Nat), Met l M.1 (WS M) (rmM M) (va_Pc (as.map (cv ad)) (fun U => U.heap.size = sz ∧ va_P D vwCl (wld ad cy σ) U.heap ∧ va_K D vwCl (tysL cy) U ∧ va_D (fun _ => True) (wld ad cy σ) ∧ NWs U ∧ SK ad (va_A (wld ad cy σ) sz) U)) (QcA D ad cy (va_A (wld ad cy σ) sz) (rkO M.2.2.2.1) Q) 0 0 (va_A (wld ad cy σ) sz)
def lkA : List (Nat × Av) → Nat → Option Av
  | [], _ => none
  | q :: ls, i => if q.1 = i then some q.2 else lkA ls i
def isLg : Av → Bool
  | Sum.inr (Sum.inl _) => true
  | _ => false
def stI (i : Nat) (v : Av) (ls : List (Nat × Av)) : List (Nat × Av) := (i, v) :: ls.filter (fun q => !(q.1 == i) && !(q.1 + 1 == i && isLg q.2))
def stL (i : Nat) (v : Av) (ls : List (Nat × Av)) : List (Nat × Av) := (i, v) :: ls.filter (fun q => !(q.1 == i) && (!(q.1 == i + 1) && !(q.1 + 1 == i && isLg q.2)))
theorem cv_cat (ad : Nat → Nat) (v : Av) : ((cv ad v).category == 2) = isLg v := by
  rcases v with x | x | x
  · rfl
  · rfl
  · cases x <;> rfl
theorem cvl_stI (ad : Nat → Nat) (i : Nat) (v : Av) (ls : List (Nat × Av)) : (i, cv ad v) :: (cvl ad ls).filter (fun q => !(q.1 == i) && !(q.1 + 1 == i && q.2.category == 2)) = cvl ad (stI i v ls) := by
  unfold cvl stI
  rw [List.map_cons, List.filter_map]
  congr 2
  apply List.filter_congr
  intro q _
  simp only [Function.comp, cv_cat]
theorem cvl_stL (ad : Nat → Nat) (i : Nat) (v : Av) (ls : List (Nat × Av)) : (i, cv ad v) :: (cvl ad ls).filter (fun q => !(q.1 == i) && (!(q.1 == i + 1) && !(q.1 + 1 == i && q.2.category == 2))) = cvl ad (stL i v ls) := by
  unfold cvl stL
  rw [List.map_cons, List.filter_map]
  congr 2
  apply List.filter_congr
  intro q _
  simp only [Function.comp, cv_cat]
theorem lk_mem {ls : List (Nat × Av)} {i : Nat} {v : Av} (h : lkA ls i = some v) : (i, v) ∈ ls := by
  induction ls with
  | nil => cases h
  | cons q t ih =>
    unfold lkA at h
    by_cases hq : q.1 = i
    · rw [if_pos hq] at h
      cases h
      rw [← hq]
      exact List.mem_cons_self
    · rw [if_neg hq] at h
      exact List.mem_cons_of_mem _ (ih h)
theorem lk_at {ad : Nat → Nat} {ls : List (Nat × Av)} {i n : Nat} {v : Av} {lsC : Array Slot} (hl : lv_has lsC n (cvl ad ls)) (h : lkA ls i = some v) : lsC[i]? = some (.val (cv ad v)) :=
  hl.2.2 (i, cv ad v) (List.mem_map.mpr ⟨(i, v), lk_mem h, rfl⟩)
def inR (x : Int) : Prop := -2147483648 ≤ x ∧ x < 2147483648
theorem ofInt_nrm (x : Int) : Int32.ofInt (nrm x) = Int32.ofInt x := Int32.ofInt_toInt _
theorem inR_nrm (x : Int) : inR (nrm x) := ⟨Int32.le_toInt _, Int32.toInt_lt _⟩
theorem inR_gN (σ : Sto) (c : Nat) (j : Int) : inR (gN σ c j) := inR_nrm _
theorem toInt_of_inR {x : Int} (h : inR x) : (Int32.ofInt x).toInt = x := by
  rw [Int32.toInt_ofInt]
  unfold inR at h; simp only [Int32.size]; rw [Int.bmod_def]; split <;> omega
theorem nrm_of {x : Int} (h : inR x) : nrm x = x := toInt_of_inR h
