/-! THE CLAIM OUT OF ONE WALK OF THE LAW'S BODY. Your part is whole_start (and what it stands on); all else here is the same for every law, but numbers. -/
def R_law : String := "DayProfilesLaw"
def lw_P (b : Addr) (xs : List Int32) (args : Array Value) (s : State) : Prop := args = #[.ref b] ∧ s.IntsAt b xs ∧ xs.length ≤ 3072 ∧ (Jvm.Cond.and given_1 narrow_1).before args s = true
def lw_Q (_ : Array Value) (s : State) (o : Outcome) (t : State) : Prop := o = .returned (some (.int 1)) ∧ Framed s o t [] 601024 7293034
def lw_Z (below : List Frame) (a : Array Value) (s : State) : State → Prop := fun t => ∃ o, t.status = .running ∧ Ended t below o ∧ lw_Q a s o t
/-- the law's own end, with 1 on the stack, nothing written that was there before, its room as the claim has it -/
theorem lw_ret {p : Program} {l : Launch} {e : Env} {s : State} {m : MethodId} {below : List Frame} {meth : Method} {c : Code} {b : Nat} (hx : p.tables.exec = Jvm.exec) (hb : c.code = code) (hr : meth.sig.returnType = ret) (hlocks : meth.locks = false) {pc : Nat} {H : Heap} {ls : Array Slot} (hdg : decode code pc = .ok (.ireturn, 1)) : W p l e room_1 s m #[Value.ref b] below meth c H [] 601024 7293034 (lw_Z below #[Value.ref b] s) (F0 m pc ls [.int 1]) := by
  intro T hT X
  obtain ⟨fs, hret, hrun, hended, hW, hframe⟩ := X.leave (v := some (.int 1)) (hlocks := hlocks) (fun h => by rw [hr] at h; cases h)
  have hmeth' : T.vm.method? m = some meth := X.method'
  refine ⟨T.setFrames fs, ?_, .returned (some (.int 1)), hrun, hended, rfl, ⟨_, rfl⟩, hW, hframe⟩
  jvm_step X.here [X.here.top, hx, hb, hdg, hmeth', hr, ret, narrow_b1]
  (try refine ⟨rfl, ?_⟩); (try refine ⟨rfl, ?_⟩)
  first | (intro acts; rw [hret _ acts rfl rfl rfl]) | rw [hret _ _ rfl rfl rfl]
  exact Steps.refl _
/-- what holds at the law's entry: the machine, the code, the tables' words (any of lw_tbl by 'hts w (by decide +kernel)'), the script of L ints xs at the cell b, what the Statement gives of the start (any of its parts by flat_of_before) -/
def lw_At (p : Program) (s : State) (m : MethodId) (meth : Method) (c : Code) (b L : Nat) (xs : Nat → Int32) : Prop :=
  p.tables.exec = Jvm.exec ∧ c.code = code ∧ meth.sig.returnType = ret ∧ c.maxLocals = 7 ∧ s.vm.findClass R_law = some m.cls ∧ (∀ w ∈ lw_tbl, w.before #[Value.ref b] s = true) ∧ va_X b L xs s s.heap ∧ b < s.heap.size ∧ meth.locks = false ∧ (Jvm.Cond.and given_1 narrow_1).before #[Value.ref b] s = true

/-! The law's rows over INV: arguments, calls, comparisons. -/
def agI (xs : Nat → Int32) (j k : Nat) : Int := (xs (6 * j + k)).toInt
theorem ag_R (xs : Nat → Int32) (j k : Nat) : inR (agI xs j k) := ⟨Int32.le_toInt _, Int32.toInt_lt _⟩
def LA (s : State) : Nat → Prop := fun q => s.heap.size ≤ q
def LX (p : Program) (l : Launch) (s : State) (m : MethodId) (meth : Method) (c : Code) (b L : Nat) (xs : Nat → Int32) (D : va_G) (ad : Nat → Nat) (cy : Nat → ClassId) : Prop :=
  (p.tables.exec = Jvm.exec ∧ c.code = code ∧ meth.sig.returnType = ret ∧ c.maxLocals = 7 ∧ s.vm.findClass RL = some m.cls ∧ ∀ w ∈ lw_tbl, w.before #[Value.ref b] s = true) ∧ (va_X b L xs s s.heap ∧ b < s.heap.size ∧ meth.locks = false ∧ L ≤ 3072) ∧ va_K D vwCl (tysL cy) s ∧ NWs s ∧ SK ad (LA s) s ∧ TX (LA s) s ∧ NCa s ∧ l.flags = flags0
def LcV (ad : Nat → Nat) (b j : Nat) : List (Nat × Value) := [(0, .ref b), (1, .ref (ad 0)), (2, .ref (ad 153)), (3, .ref (ad 175)), (4, .int (Int32.ofInt (6 * (j : Int))))]
def RunL (p : Program) (l : Launch) (e : Env) (s : State) (m : MethodId) (below : List Frame) (meth : Method) (c : Code) (b : Nat) (D : va_G) (ad : Nat → Nat) (cy : Nat → ClassId) (j kc ks pc : Nat) (st : List Value) (σ : Sto) : Prop :=
  ∀ (H : Heap) (locs : List Loc), va_P D vwCl (wld ad cy σ) H → va_D (LA s) (wld ad cy σ) → va_S (LA s) s.heap H locs → ∀ lsC : Array Slot, lv_has lsC 7 (LcV ad b j) → W p l e room_1 s m #[Value.ref b] below meth c H locs kc ks (lw_Z below #[Value.ref b] s) (F0 m pc lsC st)
theorem good_Gw {ws : List Cond} (h : ∀ w ∈ ws, w ∈ Gw) : GoodIn lw_tbl ws := fun w hw => ⟨(List.mem_filter.mp (h w hw)).1, good_of_word (Gw_good (h w hw))⟩
section LAW
variable {p : Program} {l : Launch} {e : Env} {s : State} {m : MethodId} {below : List Frame} {meth : Method} {c : Code} {b L : Nat} {xs : Nat → Int32} {D : va_G} {ad : Nat → Nat} {cy : Nat → ClassId} {j kc ks pc : Nat} {st : List Value} {σ : Sto}
theorem l_x (hC : LX p l s m meth c b L xs D ad cy) (d : decode code pc = .ok (.aload_n 1, 1)) (k : RunL p l e s m below meth c b D ad cy j kc ks (pc + 1) (.ref (ad 0) :: st) σ) : RunL p l e s m below meth c b D ad cy j kc ks pc st σ :=
  fun H locs hP hD hS lsC hl => lv_aload_n hC.1.1 hC.1.2.1 d rfl (lv_at hl 1 rfl) (k H locs hP hD hS lsC hl)
theorem l_m (hC : LX p l s m meth c b L xs D ad cy) (d : decode code pc = .ok (.aload_n 2, 1)) (k : RunL p l e s m below meth c b D ad cy j kc ks (pc + 1) (.ref (ad 153) :: st) σ) : RunL p l e s m below meth c b D ad cy j kc ks pc st σ :=
  fun H locs hP hD hS lsC hl => lv_aload_n hC.1.1 hC.1.2.1 d rfl (lv_at hl 2 rfl) (k H locs hP hD hS lsC hl)
theorem l_o (hC : LX p l s m meth c b L xs D ad cy) (d : decode code pc = .ok (.aload_n 3, 1)) (k : RunL p l e s m below meth c b D ad cy j kc ks (pc + 1) (.ref (ad 175) :: st) σ) : RunL p l e s m below meth c b D ad cy j kc ks pc st σ :=
  fun H locs hP hD hS lsC hl => lv_aload_n hC.1.1 hC.1.2.1 d rfl (lv_at hl 3 rfl) (k H locs hP hD hS lsC hl)
theorem l_sc (hC : LX p l s m meth c b L xs D ad cy) {k : Nat} (hk : 6 * j + k < L) : ∀ (H : Heap) (locs : List Loc) (lsC : Array Slot), va_S (LA s) s.heap H locs → decode code pc = .ok (.iaload, 1) → W p l e room_1 s m #[Value.ref b] below meth c H locs kc ks (lw_Z below #[Value.ref b] s) (F0 m (pc + 1) lsC (.int (Int32.ofInt (agI xs j k)) :: st)) → W p l e room_1 s m #[Value.ref b] below meth c H locs kc ks (lw_Z below #[Value.ref b] s) (F0 m pc lsC (.int (Int32.ofInt (6 * (j : Int) + (k : Int))) :: .ref b :: st)) := by
  intro H locs lsC hS d kk
  have hL := hC.2.1.2.2.2
  have hcl := clamp_of_in (x := 6 * (j : Int) + (k : Int)) (by omega) (by omega)
  have hn : (Int32.ofInt (6 * (j : Int) + (k : Int))).toNatClampNeg = 6 * j + k := by omega
  refine va_sld hC.1.1 hC.1.2.1 hC.2.1.1 hC.2.1.2.1 (Nat.not_le.mpr hC.2.1.2.1) hS (in_of (by omega) (by omega) (by omega)) d ?_
  rw [hn]
  have e : xs (6 * j + k) = Int32.ofInt (agI xs j k) := (Int32.ofInt_toInt _).symm
  rw [e]
  exact kk
theorem l_arg (k : Nat) (hC : LX p l s m meth c b L xs D ad cy) (hj : 6 * j + 6 ≤ L) (hk : k ≤ 5) (d0 : decode code pc = .ok (.aload_n 0, 1)) (d1 : decode code (pc + 1) = .ok (.iload 4, 2)) (d3 : decode code (pc + 3) = .ok (.iconst (k : Int), 1)) (d4 : decode code (pc + 4) = .ok (.iadd, 1)) (d5 : decode code (pc + 5) = .ok (.iaload, 1))
    (kk : RunL p l e s m below meth c b D ad cy j kc ks (pc + 6) (.int (Int32.ofInt (agI xs j k)) :: st) σ) : RunL p l e s m below meth c b D ad cy j kc ks pc st σ := by
  intro H locs hP hD hS lsC hl
  refine lv_aload_n hC.1.1 hC.1.2.1 d0 rfl (lv_at hl 0 rfl) ?_
  refine lv_iload hC.1.1 hC.1.2.1 d1 (lv_at hl 4 rfl) ?_
  refine lv_iconst (v := Int32.ofInt (k : Int)) hC.1.1 hC.1.2.1 d3 rfl ?_
  refine lv_iadd hC.1.1 hC.1.2.1 d4 ?_
  rw [← Int32.ofInt_add]
  exact l_sc hC (by omega) H locs lsC hS d5 (kk H locs hP hD hS lsC hl)
theorem l_bool {x : Int} (hC : LX p l s m meth c b L xs D ad cy) (hx : inR x) (d0 : decode code pc = .ok (.ifCond .eq 7, 3)) (d3 : decode code (pc + 3) = .ok (.iconst 1, 1)) (d4 : decode code (pc + 4) = .ok (.goto 4, 3)) (d7 : decode code (pc + 7) = .ok (.iconst 0, 1))
    (kk : RunL p l e s m below meth c b D ad cy j kc ks (pc + 8) (.int (Int32.ofInt (if x = 0 then 0 else 1)) :: st) σ) : RunL p l e s m below meth c b D ad cy j kc ks pc (.int (Int32.ofInt x) :: st) σ := by
  intro H locs hP hD hS lsC hl
  refine lv_if_eq (tgt := pc + 7) hC.1.1 hC.1.2.1 d0 (by omega) (fun q => ?_) (fun q => ?_)
  · have z : x = 0 := (i_eq hx inR0).mp q
    refine lv_iconst (v := Int32.ofInt 0) hC.1.1 hC.1.2.1 d7 rfl ?_
    rw [if_pos z] at kk
    exact kk H locs hP hD hS lsC hl
  · have z : ¬ x = 0 := fun z => q ((i_eq hx inR0).mpr z)
    refine lv_iconst (v := Int32.ofInt 1) hC.1.1 hC.1.2.1 d3 rfl ?_
    refine lv_goto (tgt := pc + 8) hC.1.1 hC.1.2.1 d4 (by omega) ?_
    rw [if_neg z] at kk
    exact kk H locs hP hD hS lsC hl
theorem l_call {M' : Mth} {as : List Av} {k n idx ci : Nat} {Q' : Option Av → Sto → Prop} (hC : LX p l s m meth c b L xs D ad cy) (hM : MetA M' (ar k :: as) σ Q') (hV : MV M' n) (hlk : Cond.methodLink RL idx M'.1 ∈ Gw) (hk : kd k = ci) (hc : ci < 10) (hcl : Cn ci = M'.1.cls) (hret : rkO M'.2.2.2.1 = 1) {st0 : List Value} (hst : st0 = (as.map (cv ad)).reverse ++ .ref (ad k) :: st) (hn : as.length = n) (h1 : M'.2.2.2.2.1 + 1 ≤ 14) (h2 : 8 + (M'.2.2.1 + 11) + M'.2.2.2.2.2 ≤ 524) (hw : (st.map fun v => v.category).sum ≤ 8) (hkc : kc ≤ 601024) (hks : ks ≤ 7293034) (hd : decode code pc = .ok (.invokevirtual idx, 3))
    (kk : ∀ x u, Q' (some (ai x)) u → RunL p l e s m below meth c b D ad cy j kc ks (pc + 3) (.int (Int32.ofInt x) :: st) u) : RunL p l e s m below meth c b D ad cy j kc ks pc st0 σ := by
  subst hst
  intro H locs hP hD hS lsC hl
  obtain ⟨⟨hx, hb, hr, hml, hown, hts⟩, ⟨hX, hbl, hlocks, hL⟩, hK, hNW, hSK, hTX, hNC, hfl⟩ := hC
  obtain ⟨hI, hV1, hV2⟩ := hV
  have hA : ∀ q : Nat, s.heap.size ≤ q → LA s q := fun _ h => h
  have hF := free_of hD hS hA
  have hgood : GoodIn lw_tbl (wsV RL idx M'.1.cls M'.1 (WS M')) := by
    refine good_Gw fun w hw => ?_
    rcases List.mem_append.mp hw with h | h
    · simp only [List.mem_cons, List.mem_nil_iff, or_false] at h
      rcases h with h | h | h | h <;> rw [h]
      · exact hlk
      · exact hV1
      · exact hV2
      · exact hI.2.1
    · exact WS_in hI w h
  have hrec := va_recv hK hP (cl_at ci hc) (obj_at hk hc)
  rw [hcl] at hrec
  have hrun := va_runV (R := room_1) (l := l) (e := e) (below := below) (meth := meth) (H := H) (locs := locs) (cells := kc) (slots := ks) (C := M'.1.cls) (As := as.map (cv ad)) (rest := st) (b := ad k) (g := F0 m pc lsC ((as.map (cv ad)).reverse ++ .ref (ad k) :: st)) ⟨hx, hb, hml, hown, hts⟩ (hM l D ad cy H.size) (cwV n hts hgood rfl rfl rfl ⟨rfl, hI.2.2.1, hI.2.2.2.1, hI.2.2.2.2⟩ ⟨h1, h2⟩) ⟨pre_blind, hrec, fun U hU hW => ⟨rfl, by rw [hU], by rw [hU]; exact hP, va_K.moved hW.alike hK, ⟨hD.1, fun _ _ _ => trivial⟩, NWs.warm hW hNW, hSK.call hW (fun a q0 q1 => by rw [hU]; exact hS.2.1 a q0 q1) hF⟩⟩ rfl (by rw [List.length_map]; exact hn) hl.1 rfl (lv_room hw) hd ⟨hkc, hks⟩
  unfold QcA at hrun
  rw [hret, if_neg (by decide), if_neg (by decide)] at hrun
  refine va_calli hrun hS (fun q _ h => hF q h) hF (fun r u t H1 locs1 ht hvm hw hB hz1 hk1 hS1 => ?_)
  obtain ⟨x, rfl, hw⟩ := hw
  obtain ⟨hP1, hK1, hD1⟩ := hB
  rw [ht] at hP1
  exact kk x u hw H1 locs1 hP1 ⟨hD1.1, fun k q h => hF _ (hD1.2 k q h)⟩ hS1 lsC hl
theorem l_eq {x y : Int} {off : Int} (hC : LX p l s m meth c b L xs D ad cy) (d : decode code pc = .ok (.if_icmp .eq off, 3)) (ht : (pc : Int) + off = 2479) (hxy : y = x) (kk : RunL p l e s m below meth c b D ad cy j kc ks 2479 [] σ) : RunL p l e s m below meth c b D ad cy j kc ks pc [.int (Int32.ofInt y), .int (Int32.ofInt x)] σ := by
  subst hxy
  intro H locs hP hD hS lsC hl
  exact lv_icmp_eq (tgt := 2479) hC.1.1 hC.1.2.1 d ht (fun _ => kk H locs hP hD hS lsC hl) (fun z => absurd rfl z)
/-- a call of both, once their arguments are pushed: the class's first -/
theorem l_two {M M' : Mth} {as : List Av} {n idx : Nat} (hC : LX p l s m meth c b L xs D ad cy) (hT : Two M M' as σ) (hV : MV M n) (hlk : Cond.methodLink RL idx M.1 ∈ Gw) (hcl : Cn 8 = M.1.cls) (hret : rkO M.2.2.2.1 = 1) {st0 : List Value} (hst : st0 = (as.map (cv ad)).reverse ++ [.ref (ad 0)]) (hn : as.length = n) (h1 : M.2.2.2.2.1 + 1 ≤ 14) (h2 : 8 + (M.2.2.1 + 11) + M.2.2.2.2.2 ≤ 524) (hkc : kc ≤ 601024) (hks : ks ≤ 7293034) (hd : decode code pc = .ok (.invokevirtual idx, 3))
    (kk : ∀ x u, (∃ Q2 : Option Av → Sto → Prop, MetA M' (ar 153 :: as) u Q2 ∧ ∀ y w, Q2 (some (ai y)) w → y = x ∧ INV w) → RunL p l e s m below meth c b D ad cy j kc ks (pc + 3) [.int (Int32.ofInt x)] u) : RunL p l e s m below meth c b D ad cy j kc ks pc st0 σ := by
  obtain ⟨Q1, hM, h⟩ := hT
  exact l_call hC hM hV hlk k0 (by decide) hcl hret hst hn h1 h2 (Nat.le_of_ble_eq_true rfl) hkc hks hd (fun x u hu => kk x u (h x u hu))
theorem l_two' {M' : Mth} {as : List Av} {n idx : Nat} {x : Int} {off : Int} (hC : LX p l s m meth c b L xs D ad cy) (hT : ∃ Q2 : Option Av → Sto → Prop, MetA M' (ar 153 :: as) σ Q2 ∧ ∀ y w, Q2 (some (ai y)) w → y = x ∧ INV w) (hV : MV M' n) (hlk : Cond.methodLink RL idx M'.1 ∈ Gw) (hcl : Cn 9 = M'.1.cls) (hret : rkO M'.2.2.2.1 = 1) {st0 : List Value} (hst : st0 = (as.map (cv ad)).reverse ++ [.ref (ad 153), .int (Int32.ofInt x)]) (hn : as.length = n) (h1 : M'.2.2.2.2.1 + 1 ≤ 14) (h2 : 8 + (M'.2.2.1 + 11) + M'.2.2.2.2.2 ≤ 524) (hkc : kc ≤ 601024) (hks : ks ≤ 7293034) (hd : decode code pc = .ok (.invokevirtual idx, 3)) (de : decode code (pc + 3) = .ok (.if_icmp .eq off, 3)) (ht : ((pc + 3 : Nat) : Int) + off = 2479)
    (kk : ∀ w, INV w → RunL p l e s m below meth c b D ad cy j kc ks 2479 [] w) : RunL p l e s m below meth c b D ad cy j kc ks pc st0 σ := by
  obtain ⟨Q2, hM, h⟩ := hT
  exact l_call hC hM hV hlk k153 (by decide) hcl hret hst hn h1 h2 (Nat.le_of_ble_eq_true rfl) hkc hks hd (fun y w hw => l_eq hC de ht (h y w hw).1 (kk w (h y w hw).2))
end LAW
