/-! Constructors. What stands from an address on, cell by cell, in the order in which the cells were made. -/
def AOI (U : State) : Prop := (Cond.arrayOver (.array .int)).before #[] U = true
theorem AOI.moved {u U : State} (hvm : u.vm.Alike U.vm) (hq : AOI u) : AOI U := by
  have h' : ((u.vm.findClass (FieldType.array .int).toString).bind fun comp => (u.vm.classes.findIdx? fun (x : Class) => match x.kind with | .array component _ => component == comp | _ => false).bind fun c => (u.vm.classes[c]?).map fun (k : Class) => match k.kind with | .array _ ty => decide (ty = FieldType.array .int) && decide (u.vm.findClass ("[" ++ (FieldType.array .int).toString) = some c) | _ => false) = some true := by
    unfold AOI Cond.before Cond.holds at hq
    simp only [Cond.value, beq_iff_eq] at hq
    exact hq
  obtain ⟨comp, h1, h2⟩ := Option.bind_eq_some_iff.mp h'
  obtain ⟨c, h3, h4⟩ := Option.bind_eq_some_iff.mp h2
  obtain ⟨k, h5, h6⟩ := Option.map_eq_some_iff.mp h4
  obtain ⟨k', hk', he⟩ := hvm.2.2 _ _ h5
  have hi : (U.vm.classes.findIdx? fun (x : Class) => match x.kind with | .array component _ => component == comp | _ => false) = some c := by
    have b1 := va_idx_bare U.vm comp
    have b2 := va_idx_bare u.vm comp
    first | rw [hvm.bare_eq] at b1 | rw [← hvm.bare_eq] at b1
    exact b1.symm.trans (b2.trans h3)
  have hkind : k'.kind = k.kind := by rw [he]
  have f1 : U.vm.findClass (FieldType.array .int).toString = some comp := by rw [hvm.findClass]; exact h1
  have f2 : U.vm.findClass ("[" ++ (FieldType.array .int).toString) = u.vm.findClass ("[" ++ (FieldType.array .int).toString) := by rw [hvm.findClass]
  unfold AOI Cond.before Cond.holds
  simp only [Cond.value, beq_iff_eq]
  refine Option.bind_eq_some_iff.mpr ⟨comp, f1, Option.bind_eq_some_iff.mpr ⟨c, hi, Option.map_eq_some_iff.mpr ⟨k', hk', ?_⟩⟩⟩
  rw [hkind, f2]
  exact h6
def Lay (D : va_G) (h : Nat) (es : List va_E) (H : Heap) : Prop := H.size = h + es.length ∧ ∀ (k : Nat) (x : va_E), es[k]? = some x → va_at D vwCl (h + k, x) H
theorem Lay.app {D : va_G} {h : Nat} {es es' : List va_E} {H H1 : Heap} (hL : ∀ (k : Nat) (x : va_E), es[k]? = some x → va_at D vwCl (h + k, x) H) (hL' : Lay D (h + es.length) es' H1) (hq : ∀ q : Nat, q < h + es.length → H1[q]? = H[q]?) : Lay D h (es ++ es') H1 := by
  refine ⟨by rw [hL'.1, List.length_append]; omega, fun k x hx => ?_⟩
  rcases Nat.lt_or_ge k es.length with hk | hk
  · rw [List.getElem?_append_left hk] at hx
    exact (hL k x hx).kept (hq (h + k) (by omega))
  · rw [List.getElem?_append_right hk] at hx
    have h9 := hL'.2 _ x hx
    rw [show h + es.length + (k - es.length) = h + k by omega] at h9
    exact h9
theorem Lay.one {D : va_G} {h : Nat} {x : va_E} {H : Heap} (hz : H.size = h + 1) (hx : va_at D vwCl (h, x) H) : Lay D h [x] H := by
  refine ⟨hz, fun k y hy => ?_⟩
  have h1 : k < 1 := (List.getElem?_eq_some_iff.mp hy).1
  have h0 : k = 0 := by omega
  subst h0
  cases hy
  exact hx
theorem Lay.left {D : va_G} {h : Nat} {es es' : List va_E} {H : Heap} (hL : Lay D h (es ++ es') H) : ∀ (k : Nat) (x : va_E), es[k]? = some x → va_at D vwCl (h + k, x) H := fun k x hx => hL.2 k x (by rw [List.getElem?_append_left (List.getElem?_eq_some_iff.mp hx).1]; exact hx)
theorem Lay.right {D : va_G} {h : Nat} {es es' : List va_E} {H : Heap} (hL : Lay D h (es ++ es') H) : Lay D (h + es.length) es' H := by
  refine ⟨by rw [hL.1, List.length_append]; omega, fun k x hx => ?_⟩
  have h9 := hL.2 (es.length + k) x (by rw [List.getElem?_append_right (Nat.le_add_right _ _), Nat.add_sub_cancel_left]; exact hx)
  rw [← Nat.add_assoc] at h9
  exact h9
theorem Lay.set {D : va_G} {h k : Nat} {es : List va_E} {x : va_E} {H H1 : Heap} (hL : Lay D h es H) (hx : va_at D vwCl (h + k, x) H1) (z : H1.size = H.size) (oq : ∀ q : Nat, q ≠ h + k → H1[q]? = H[q]?) : Lay D h (es.set k x) H1 := by
  refine ⟨by rw [z, hL.1, List.length_set], fun i y hy => ?_⟩
  rw [List.getElem?_set] at hy
  by_cases hi : k = i
  · subst hi
    rw [if_pos rfl] at hy
    split at hy
    · cases hy
      exact hx
    · cases hy
  · rw [if_neg hi] at hy
    exact (hL.2 i y hy).kept (oq (h + i) (by omega))
theorem va_S.more {A : Nat → Prop} {H0 H H1 : Heap} {locs : List Loc} (hS : va_S A H0 H locs) (z : H.size ≤ H1.size) (o1 : ∀ q : Nat, q < H.size → H1[q]? = H[q]?) : va_S A H0 H1 locs := ⟨Nat.le_trans hS.1 z, fun q h1 h2 => (o1 q (Nat.lt_of_lt_of_le h1 hS.1)).trans (hS.2.1 q h1 h2), hS.2.2⟩
/-- the fields of a new object -/
def zer (ci : Nat) : List Value := (List.range (nsl ci)).map fun j => defaultValue (Tyn ci j)
def CtX (p : Program) (s : State) (m : MethodId) (args : Array Value) (c : Code) (cc : ByteArray) (nL : Nat) (own : String) (Ts : List Cond) (D : va_G) (cy : Nat → ClassId) (h : Nat) : Prop :=
  CallFix p m c cc nL s args Ts own ∧ (∀ w ∈ Gw, w ∈ Ts) ∧ va_K D vwCl (tysL cy) s ∧ AOI s ∧ h ≤ s.heap.size
section CTR
variable {p : Program} {l : Launch} {e : Env} {R : Room} {s : State} {m : MethodId} {args : Array Value} {below : List Frame} {meth : Method} {c : Code} {H : Heap} {locs : List Loc} {cells slots : Nat} {Q : State → Prop}
variable {cc : ByteArray} {nL : Nat} {own : String} {Ts : List Cond} {pc : Nat} {ls : Array Slot} {st : List Value} {D : va_G} {cy : Nat → ClassId} {h : Nat} {es : List va_E}
theorem rc_new {ci idx n : Nat} (hC : CtX p s m args c cc nL own Ts D cy h) (hL : Lay D h es H) (hS : va_S (fun q => h ≤ q) s.heap H locs) (hci : ci < 10) (hcl : Cond.classLink own idx (Cn ci) ∈ Gw) (hinst : Cond.instantiable (Cn ci) (nsl ci) ∈ Gw) (hini : Cond.initialized (Cn ci) ∈ Gw) (hn : h + es.length = n) (hcells : cells + 1 ≤ R.cells) (hslots : slots + nsl ci ≤ R.slots) (hdg : decode cc pc = .ok (.new idx, 3))
    (kk : ∀ H1 : Heap, Lay D h (es ++ [.inr (ci, zer ci)]) H1 → va_S (fun q => h ≤ q) s.heap H1 locs → W p l e R s m args below meth c H1 locs (cells + 1) (slots + nsl ci) Q (F0 m (pc + 3) ls (.ref n :: st))) : W p l e R s m args below meth c H locs cells slots Q (F0 m pc ls st) := by
  obtain ⟨⟨hx, hb, hml, hown, hts⟩, hG, hK, hAO, hle⟩ := hC
  have hg : ∀ w ∈ Gw, w.before args s = true := fun w hw => hts w (hG w hw)
  have hKn := hK.1 ci _ (cl_at ci hci)
  refine W.newcK hx hb hown (hg _ hcl) (hg _ hinst) (hg _ hini) rfl hdg hcells hslots hKn.2.1 (hL.1.trans hn) fun H1 kC hkC e1 z1 o1 => ?_
  have hz : H.size = n := hL.1.trans hn
  refine kk H1 (Lay.app hL.2 ?_ (fun q hq => o1 q (by omega))) (hS.more (by omega) (fun q hq => o1 q (by omega)))
  rw [hn]
  refine Lay.one z1 ⟨_, cl_at ci hci, (u_born (Tyn ci) hg (uws_in ci hci) hKn hkC e1 (tyn_ok ci hci)).to (fun j hj => ?_)⟩
  show defaultValue (Tyn ci j) = ((List.range (nsl ci)).map fun j => defaultValue (Tyn ci j)).getD j .null
  have hj : j < nsl ci := hj
  rw [List.getD_eq_getElem?_getD, List.getElem?_map, List.getElem?_range hj]
  rfl
theorem rc_newa {atype : ArrayType} {t ti N n : Nat} {a0 : vp_A} {x : Int32} (hC : CtX p s m args c cc nL own Ts D cy h) (hL : Lay D h es H) (hS : va_S (fun q => h ≤ q) s.heap H locs) (harr : Cond.arrayClass (newarray.typeOf atype) ∈ Gw) (hty : (tysL cy)[ti]? = some (cy t, newarray.typeOf atype)) (hra : va_RA s (cy t) (newarray.typeOf atype) → s.vm.findClass ("[" ++ (newarray.typeOf atype).toString) = some (cy t)) (ha : ∀ cA : ClassId, vp_cell cA a0 = arrV cA N (fun _ => defaultValue (newarray.typeOf atype))) (hn0 : ¬ x < 0) (hN : x.toNatClampNeg = N) (hbytes : N * componentBytes (newarray.typeOf atype) ≤ 536870912) (hn : h + es.length = n) (hcells : cells + 1 ≤ R.cells) (hslots : slots + N ≤ R.slots) (hdg : decode cc pc = .ok (.newarray atype, 2))
    (kk : ∀ H1 : Heap, Lay D h (es ++ [.inl (cy t, a0)]) H1 → va_S (fun q => h ≤ q) s.heap H1 locs → W p l e R s m args below meth c H1 locs (cells + 1) (slots + N) Q (F0 m (pc + 2) ls (.ref n :: st))) : W p l e R s m args below meth c H locs cells slots Q (F0 m pc ls (.int x :: st)) := by
  obtain ⟨⟨hx, hb, hml, hown, hts⟩, hG, hK, hAO, hle⟩ := hC
  have hg : ∀ w ∈ Gw, w.before args s = true := fun w hw => hts w (hG w hw)
  have hz : H.size = n := hL.1.trans hn
  refine va_newaK hx hb (hg _ harr) rfl hdg rfl hn0 hN hbytes hcells hslots hz fun H1 cA e1 z1 o1 hAr hNm => ?_
  have ec : cA = cy t := Option.some.inj (hNm.symm.trans (hra (hK.2 ti _ hty).2))
  subst ec
  refine kk H1 (Lay.app hL.2 ?_ (fun q hq => o1 q (by omega))) (hS.more (by omega) (fun q hq => o1 q (by omega)))
  rw [hn]
  refine Lay.one z1 ?_
  show H1[n]? = some (vp_cell (cy t) a0)
  rw [ha]
  exact e1
theorem rc_int {N n : Nat} {x : Int32} (hC : CtX p s m args c cc nL own Ts D cy h) (hL : Lay D h es H) (hS : va_S (fun q => h ≤ q) s.heap H locs) (hn0 : ¬ x < 0) (hN : x.toNatClampNeg = N) (hbytes : N * 4 ≤ 536870912) (hn : h + es.length = n) (hcells : cells + 1 ≤ R.cells) (hslots : slots + N ≤ R.slots) (hdg : decode cc pc = .ok (.newarray .int, 2))
    (kk : ∀ H1 : Heap, Lay D h (es ++ [.inl (cy 11, N, .inl fun _ => 0)]) H1 → va_S (fun q => h ≤ q) s.heap H1 locs → W p l e R s m args below meth c H1 locs (cells + 1) (slots + N) Q (F0 m (pc + 2) ls (.ref n :: st))) : W p l e R s m args below meth c H locs cells slots Q (F0 m pc ls (.int x :: st)) :=
  rc_newa (atype := .int) (ti := 1) (a0 := (N, .inl fun _ => 0)) hC hL hS (inG1 rfl (List.mem_of_getElem? (i := 93) rfl)) rfl id (fun _ => rfl) hn0 hN hbytes hn hcells hslots hdg kk
theorem rc_long {N n : Nat} {x : Int32} (hC : CtX p s m args c cc nL own Ts D cy h) (hL : Lay D h es H) (hS : va_S (fun q => h ≤ q) s.heap H locs) (hn0 : ¬ x < 0) (hN : x.toNatClampNeg = N) (hbytes : N * 8 ≤ 536870912) (hn : h + es.length = n) (hcells : cells + 1 ≤ R.cells) (hslots : slots + N ≤ R.slots) (hdg : decode cc pc = .ok (.newarray .long, 2))
    (kk : ∀ H1 : Heap, Lay D h (es ++ [.inl (cy 12, N, .inr (.inl fun _ => 0))]) H1 → va_S (fun q => h ≤ q) s.heap H1 locs → W p l e R s m args below meth c H1 locs (cells + 1) (slots + N) Q (F0 m (pc + 2) ls (.ref n :: st))) : W p l e R s m args below meth c H locs cells slots Q (F0 m pc ls (.int x :: st)) :=
  rc_newa (atype := .long) (ti := 2) (a0 := (N, .inr (.inl fun _ => 0))) hC hL hS (inG1 rfl (List.mem_of_getElem? (i := 94) rfl)) rfl id (fun _ => rfl) hn0 hN hbytes hn hcells hslots hdg kk
theorem rc_byte {N n : Nat} {x : Int32} (hC : CtX p s m args c cc nL own Ts D cy h) (hL : Lay D h es H) (hS : va_S (fun q => h ≤ q) s.heap H locs) (hn0 : ¬ x < 0) (hN : x.toNatClampNeg = N) (hbytes : N * 1 ≤ 536870912) (hn : h + es.length = n) (hcells : cells + 1 ≤ R.cells) (hslots : slots + N ≤ R.slots) (hdg : decode cc pc = .ok (.newarray .byte, 2))
    (kk : ∀ H1 : Heap, Lay D h (es ++ [.inl (cy 10, N, .inl fun _ => 0)]) H1 → va_S (fun q => h ≤ q) s.heap H1 locs → W p l e R s m args below meth c H1 locs (cells + 1) (slots + N) Q (F0 m (pc + 2) ls (.ref n :: st))) : W p l e R s m args below meth c H locs cells slots Q (F0 m pc ls (.int x :: st)) :=
  rc_newa (atype := .byte) (ti := 0) (a0 := (N, .inl fun _ => 0)) hC hL hS (inG1 rfl (List.mem_of_getElem? (i := 70) rfl)) rfl id (fun _ => rfl) hn0 hN hbytes hn hcells hslots hdg kk
theorem rc_bool {N n : Nat} {x : Int32} (hC : CtX p s m args c cc nL own Ts D cy h) (hL : Lay D h es H) (hS : va_S (fun q => h ≤ q) s.heap H locs) (hn0 : ¬ x < 0) (hN : x.toNatClampNeg = N) (hbytes : N * 1 ≤ 536870912) (hn : h + es.length = n) (hcells : cells + 1 ≤ R.cells) (hslots : slots + N ≤ R.slots) (hdg : decode cc pc = .ok (.newarray .boolean, 2))
    (kk : ∀ H1 : Heap, Lay D h (es ++ [.inl (cy 13, N, .inl fun _ => 0)]) H1 → va_S (fun q => h ≤ q) s.heap H1 locs → W p l e R s m args below meth c H1 locs (cells + 1) (slots + N) Q (F0 m (pc + 2) ls (.ref n :: st))) : W p l e R s m args below meth c H locs cells slots Q (F0 m pc ls (.int x :: st)) :=
  rc_newa (atype := .boolean) (ti := 3) (a0 := (N, .inl fun _ => 0)) hC hL hS (inG1 rfl (List.mem_of_getElem? (i := 119) rfl)) rfl id (fun _ => rfl) hn0 hN hbytes hn hcells hslots hdg kk
theorem rc_put {k j ci idx a : Nat} {fs : List Value} {v : Value} (hC : CtX p s m args c cc nL own Ts D cy h) (hL : Lay D h es H) (hS : va_S (fun q => h ≤ q) s.heap H locs) (hin2 : meth.name = "<init>") (he : es[k]? = some (.inr (ci, fs))) (hf : FL own idx ci j) (ho : own = Cn ci) (hnar : narrow (Tyn ci j) v = v) (hfit : fits (Tyn ci j) v = true) (hl : j < fs.length) (ha : h + k = a) (hdg : decode cc pc = .ok (.putfield idx, 3))
    (kk : ∀ (H1 : Heap) (locs1 : List Loc), Lay D h (es.set k (.inr (ci, fs.set j v))) H1 → va_S (fun q => h ≤ q) s.heap H1 locs1 → W p l e R s m args below meth c H1 locs1 cells slots Q (F0 m (pc + 3) ls st)) : W p l e R s m args below meth c H locs cells slots Q (F0 m pc ls (v :: .ref a :: st)) := by
  obtain ⟨⟨hx, hb, hml, hown, hts⟩, hG, hK, hAO, hle⟩ := hC
  obtain ⟨hci, hj, hlk⟩ := hf
  subst ha
  have hg : ∀ w ∈ Gw, w.before args s = true := fun w hw => hts w (hG w hw)
  have hap := va_apart (own := own) hg (uws_in ci hci) (Tyn ci) (tyn_ok ci hci) (nmn_ok ci hci) hK (cl_at ci hci)
  obtain ⟨r, h1, cell, q1, q2, q3, q4⟩ := hL.2 k _ he
  have hr : r = (Cn ci, Tn ci, nsl ci) := Option.some.inj (h1.symm.trans (cl_at ci hci))
  subst hr
  obtain ⟨hSl, hfc, kC, hkC, hkind⟩ := hK.1 ci _ (cl_at ci hci)
  obtain ⟨cf, kf, fi, f, hi, hsl⟩ := hSl j hj
  have hlay := hg _ (uws_in ci hci _ (u_in_lay hj))
  have hst := (u_facts hfc hkC (u_lays hg (uws_in ci hci) hj) hi).1
  have hlink := hg _ hlk
  have e1 : (Tn ci j).1 = Cn ci := own_in ci hci j hj
  have hi' : s.fieldFound? (Cn ci) (Tn ci j).2.1 (Tn ci j).2.2.1 = some (cf, kf, fi, f) := by rw [← e1]; exact hi
  have fin : ∀ H' : Heap, H'[h + k]? = some (cell.setSlot f.slot v) → H'.size = H.size → (∀ q, q ≠ h + k → H'[q]? = H[q]?) → W p l e R s m args below meth c H' (locs ++ [⟨h + k, f.slot⟩]) cells slots Q (F0 m (pc + 3) ls st) := by
    intro H' g1 g2 g3
    rw [hsl] at g1 ⊢
    exact kk H' _ (hL.set ⟨_, cl_at ci hci, t_OB.to (V := updV (vp_V fs) j v) ⟨_, g1, q2, q3, t_set q4 hap hj v⟩ (fun i _ => vp_updV_set hl v i)⟩ g2 g3) (hS.put g2 g3 (Nat.le_add_right h k))
  by_cases hfin : (Tn ci j).2.2.2 = true
  · unfold u_lay at hlay
    rw [if_pos hfin] at hlay
    have hcf : m.cls = cf := by
      obtain ⟨_, _, c', _, _, _, -, -, hf', -, -, -, hown2, -⟩ := Cond.laysFinal_spec hlay
      have e2 : c' = cf := by have := hi.symm.trans hf'; simp at this; exact this.1.symm
      rw [e1, ← ho] at hown2
      rw [← e2]; exact Option.some.inj (hown.symm.trans hown2)
    have h6 := u_fits hfc hkC hkind (Or.inr hlay) hi (tyn_ok ci hci j hj) hnar hfit
    exact W.putFinK hx hb hown hlink hi' hst hcf hin2 (by rw [q2]; exact h6) q1 q3 (by rw [hsl]; exact k2_hasslot (q4 j hj)) rfl rfl hdg fin
  · unfold u_lay at hlay
    rw [if_neg hfin] at hlay
    have h6 := u_store hfc hkC hkind hlay hi (tyn_ok ci hci j hj) hnar hfit
    exact W.putK hx hb (f := f) ⟨hown, hlink, ⟨_, _, _, hi'⟩, hst⟩ (by rw [q2]; exact h6) q1 q3 (by rw [hsl]; exact k2_hasslot (q4 j hj)) rfl rfl hdg fin
theorem oi_in : Cond.instanceMethod objectInit ∈ Gw ∧ Cond.code objectInit ⟨#[0xb1]⟩ 1 none ∈ Gw := ⟨inG1 rfl (List.mem_of_getElem? (i := 28) rfl), inG1 rfl (List.mem_of_getElem? (i := 29) rfl)⟩
theorem rc_oi {idx a : Nat} (hC : CtX p s m args c cc nL own Ts D cy h) (hlk : Cond.methodLink own idx objectInit ∈ Gw) (hls : ls.size = nL) (hf : 1 ≤ R.frames) (hl : (st.map fun v => v.category).sum + 12 ≤ R.locals) (hdg : decode cc pc = .ok (.invokespecial idx, 3))
    (kk : W p l e R s m args below meth c H locs cells slots Q (F0 m (pc + 3) ls st)) : W p l e R s m args below meth c H locs cells slots Q (F0 m pc ls (.ref a :: st)) := by
  obtain ⟨⟨hx, hb, hml, hown, hts⟩, hG, hK, hAO, hle⟩ := hC
  have hg : ∀ w ∈ Gw, w.before args s = true := fun w hw => hts w (hG w hw)
  refine W.objInit hx hb hown (hg _ hlk) (hg _ oi_in.1) (hg _ oi_in.2) rfl (by rw [hml]; exact hls) rfl hdg hf ?_ kk
  show 2 * 0 + _ + 12 ≤ _
  omega
end CTR
