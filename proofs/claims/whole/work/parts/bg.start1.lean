/-! What holds when the law begins. -/
theorem inst_in : ∀ ci, ci < 10 → Cond.instantiable (Cn ci) (nsl ci) ∈ Gw
  | 0, _ => inG1 rfl (List.mem_of_getElem? (i := 189) rfl)
  | 1, _ => inG1 rfl (List.mem_of_getElem? (i := 168) rfl)
  | 2, _ => inG1 rfl (List.mem_of_getElem? (i := 212) rfl)
  | 3, _ => inG1 rfl (List.mem_of_getElem? (i := 96) rfl)
  | 4, _ => inG1 rfl (List.mem_of_getElem? (i := 121) rfl)
  | 5, _ => inG1 rfl (List.mem_of_getElem? (i := 31) rfl)
  | 6, _ => inG2 rfl (List.mem_of_getElem? (i := 63) rfl)
  | 7, _ => inG1 rfl (List.mem_of_getElem? (i := 72) rfl)
  | 8, _ => inG1 rfl (List.mem_of_getElem? (i := 23) rfl)
  | 9, _ => inG5 rfl (List.mem_of_getElem? (i := 114) rfl)
  | n + 10, h => absurd h (by omega)
theorem aoi_spec {u : State} (hq : AOI u) : ∃ (c : Nat) (k : Class) (cm : ClassId), u.vm.findClass ("[" ++ (FieldType.array .int).toString) = some c ∧ u.vm.classes[c]? = some k ∧ k.kind = .array cm (.array .int) := by
  have h' : ((u.vm.findClass (FieldType.array .int).toString).bind fun comp => (u.vm.classes.findIdx? fun (x : Class) => match x.kind with | .array component _ => component == comp | _ => false).bind fun c => (u.vm.classes[c]?).map fun (k : Class) => match k.kind with | .array _ ty => decide (ty = FieldType.array .int) && decide (u.vm.findClass ("[" ++ (FieldType.array .int).toString) = some c) | _ => false) = some true := by
    unfold AOI Cond.before Cond.holds at hq
    simp only [Cond.value, beq_iff_eq] at hq
    exact hq
  obtain ⟨comp, h1, h2⟩ := Option.bind_eq_some_iff.mp h'
  obtain ⟨c, h3, h4⟩ := Option.bind_eq_some_iff.mp h2
  obtain ⟨k, h5, h6⟩ := Option.map_eq_some_iff.mp h4
  cases hk : k.kind with
  | array cm ty =>
    rw [hk] at h6
    simp only [Bool.and_eq_true, decide_eq_true_eq] at h6
    exact ⟨c, k, cm, h6.2, h5, by rw [hk, h6.1]⟩
  | _ =>
    rw [hk] at h6
    cases h6
theorem k_known {s : State} {args : Array Value} (hg : ∀ w ∈ Gw, w.before args s = true) (hAO : AOI s) : ∃ (D : va_G) (cy : Nat → ClassId), va_K D vwCl (tysL cy) s := by
  have hk : ∀ ci : Nat, ∃ q : ClassId × (Nat → Nat), ci < 10 → u_Kn s (Cn ci) (Tn ci) (nsl ci) q.1 q.2 := fun ci => by
    by_cases hci : ci < 10
    · obtain ⟨a, b, h⟩ := u_known hg (uws_in ci hci) (hg _ (inst_in ci hci))
      exact ⟨(a, b), fun _ => h⟩
    · exact ⟨(0, fun _ => 0), fun h => absurd h hci⟩
  obtain ⟨f, hf⟩ := Classical.axiomOfChoice hk
  obtain ⟨c0, k0_, m0, p0, q0, r0⟩ := Cond.arrayClass_spec (hg (.arrayClass .byte) (inG1 rfl (List.mem_of_getElem? (i := 70) rfl)))
  obtain ⟨c1, k1_, m1, p1, q1, r1⟩ := Cond.arrayClass_spec (hg (.arrayClass .int) (inG1 rfl (List.mem_of_getElem? (i := 93) rfl)))
  obtain ⟨c2, k2_, m2, p2, q2, r2⟩ := Cond.arrayClass_spec (hg (.arrayClass .long) (inG1 rfl (List.mem_of_getElem? (i := 94) rfl)))
  obtain ⟨c3, k3_, m3, p3, q3, r3⟩ := Cond.arrayClass_spec (hg (.arrayClass .boolean) (inG1 rfl (List.mem_of_getElem? (i := 119) rfl)))
  obtain ⟨c4, k4_, m4, p4, q4, r4⟩ := aoi_spec hAO
  refine ⟨(fun i => (f i).1, fun i => (f i).2), fun t => if t = 10 then c0 else if t = 11 then c1 else if t = 12 then c2 else if t = 13 then c3 else c4, fun c q hq => ?_, fun k q hq => ?_⟩
  · have hc : c < 10 := (List.getElem?_eq_some_iff.mp hq).1
    rw [cl_at c hc] at hq
    cases hq
    exact hf c hc
  · have hk5 : k < 5 := (List.getElem?_eq_some_iff.mp hq).1
    rcases (show k = 0 ∨ k = 1 ∨ k = 2 ∨ k = 3 ∨ k = 4 by omega) with z | z | z | z | z <;> subst z <;> rw [← Option.some.inj hq]
    · exact ⟨fun n z => ⟨fun k h => (by cases h), k0_, q0, m0, r0⟩, p0⟩
    · exact ⟨fun n z => ⟨fun k h => (by cases h), k1_, q1, m1, r1⟩, p1⟩
    · exact ⟨fun n z => ⟨fun k h => (by cases h), k2_, q2, m2, r2⟩, p2⟩
    · exact ⟨fun n z => ⟨fun k h => (by cases h), k3_, q3, m3, r3⟩, p3⟩
    · exact ⟨fun n z => ⟨fun k h => (by cases h), k4_, q4, m4, r4⟩, p4⟩
set_option maxRecDepth 20000 in
theorem nw_in : (∀ q ∈ NWt, Cond.methodLinkNest q.1 q.2.1 q.2.2 "DayProfiles" ∈ lw_tbl) ∧ ∀ q ∈ NWl, Cond.methodLinkNest RX8 q.1 q.2 "DayProfiles" ∈ lw_tbl := by decide +kernel
set_option maxRecDepth 20000 in
theorem st_in : Cond.arrayOver (.array .int) ∈ lw_tbl ∧ Cond.stringRef RX9 124 "stop walk trip " ∈ lw_tbl ∧ Cond.stringRef RX8 124 "no such ride" ∈ lw_tbl ∧ Cond.stringRef RX8 158 "no such what" ∈ lw_tbl ∧ Cond.laysStatic "java/lang/String" "COMPACT_STRINGS" "Z" ∈ lw_tbl ∧ Cond.initialized "java/lang/String" ∈ lw_tbl ∧ Cond.laysStatic "jdk/internal/util/Preconditions" "SIOOBE_FORMATTER" "Ljava/util/function/BiFunction;" ∈ lw_tbl ∧ Cond.initialized "jdk/internal/util/Preconditions" ∈ lw_tbl ∧ Cond.laysStatic Tw "UNASSIGNED_STACK" "[Ljava/lang/StackTraceElement;" ∈ lw_tbl ∧ Cond.laysStatic Tw "SUPPRESSED_SENTINEL" "Ljava/util/List;" ∈ lw_tbl := by decide +kernel
set_option maxRecDepth 20000 in
theorem dw_in : Cond.declares (iS "java/lang/RuntimeException") ∈ lw_tbl ∧ Cond.declares (iS "java/lang/Exception") ∈ lw_tbl ∧ Cond.declares (iS Tw) ∈ lw_tbl ∧ Cond.castable Ti Ti ∈ lw_tbl ∧ Cond.castable Tn_ Tn_ ∈ lw_tbl := by decide +kernel
abbrev flN : List Cond := flatC (Jvm.Cond.and given_1 narrow_1)
abbrev tm9 : Term := .string RX9 124
set_option maxRecDepth 20000 in
theorem fl_in : Cond.exactly tm9 "java/lang/String" ∈ flN ∧ Cond.eq (.field tm9 "java/lang/String" "coder" "B") (.int 0) ∈ flN ∧ Cond.arrayOf (.field tm9 "java/lang/String" "value" "[B") .byte ∈ flN ∧ Cond.eq (.length (.field tm9 "java/lang/String" "value" "[B")) (.int (Int32.ofNat 15)) ∈ flN := by decide +kernel
set_option maxRecDepth 20000 in
theorem fe_in : ∀ j : Nat, j < 15 → Cond.eq (.elem (.field tm9 "java/lang/String" "value" "[B") (.int (Int32.ofNat j))) (.int (wdB.getD j 0)) ∈ flN := by decide +kernel
set_option maxRecDepth 20000 in
theorem fs_in : Cond.exactly (.string RX8 124) "java/lang/String" ∈ flN ∧ Cond.exactly (.string RX8 158) "java/lang/String" ∈ flN ∧ Cond.eq (.static "java/lang/String" "COMPACT_STRINGS" "Z") (.int 1) ∈ flN ∧ Cond.isRef (.static "jdk/internal/util/Preconditions" "SIOOBE_FORMATTER" "Ljava/util/function/BiFunction;") ∈ flN ∧ Cond.isRef (.static Tw "UNASSIGNED_STACK" "[Ljava/lang/StackTraceElement;") ∈ flN ∧ Cond.isRef (.static Tw "SUPPRESSED_SENTINEL" "Ljava/util/List;") ∈ flN ∧ Cond.not (.castable Tn_ Ti) ∈ flN := by decide +kernel
section STA
variable {s : State} {args : Array Value}
theorem zs_of {n d : String} {A : Nat → Prop} (hl : (Cond.laysStatic Tw n d).before args s = true) (h : (Cond.isRef (.static Tw n d)).before args s = true) (hA : ∀ a : Nat, a < s.heap.size → ¬ A a) : ZS n d A s := by
  obtain ⟨c, k, i, f, a, cell, hc, hi, hst, ha, hcell, hs, hcls, hlt, hty⟩ := Cond.laysStatic_spec hl
  cases hv : (Term.static Tw n d).eval args s none [] s with
  | none => simp [Cond.before, Cond.holds, Cond.value, hv] at h
  | some w =>
    obtain ⟨hst', a', cell', ha', hcell', -, hslot⟩ := Term.static_spec hi hv
    cases ha.symm.trans ha'
    cases hcell.symm.trans hcell'
    have key : ∃ r : Option Nat, w = va_rf r := by
      simp only [Cond.before, Cond.holds, Cond.value, hv] at h
      cases w with
      | null => exact ⟨none, rfl⟩
      | ref t => exact ⟨some t, rfl⟩
      | _ => simp at h
    obtain ⟨r, hr⟩ := key
    exact ⟨c, k, i, f, a, cell, r, hc, hi, hst, ha, hcell, hs, hcls, hlt, hty, by rw [← hr]; exact hslot, hA a (Array.getElem?_eq_some_iff.mp hcell).1⟩
theorem nca_of (h : (Cond.not (.castable Tn_ Ti)).before args s = true) : NCa s := fun c1 c2 h1 h2 => by
  unfold Cond.before Cond.holds at h
  simp only [Cond.value, h1, h2] at h
  simpa using h
/-- what the law's world stands on -/
theorem start_of {b : Nat} (hts : ∀ w ∈ lw_tbl, w.before #[Value.ref b] s = true) (hgv : (Jvm.Cond.and given_1 narrow_1).before #[Value.ref b] s = true) : ∃ (D : va_G) (cy : Nat → ClassId) (a1 a2 a3 : Nat), va_K D vwCl (tysL cy) s ∧ AOI s ∧ NWs s ∧ NWc s ∧ SK (adI s.heap.size a1 a2 a3) (LA s) s ∧ TX (LA s) s ∧ NCa s := by
  have hs := flat_of_before _ hgv
  have hg : ∀ w ∈ Gw, w.before #[Value.ref b] s = true := fun w hw => hts w (List.mem_filter.mp hw).1
  have hAO : AOI s := hts _ st_in.1
  have hA : ∀ a : Nat, a < s.heap.size → ¬ LA s a := fun a h q => absurd q (Nat.not_le.mpr h)
  obtain ⟨D, cy, hK⟩ := k_known hg hAO
  obtain ⟨aK, aV, hS, hE⟩ := vk_Sof (args := #[Value.ref b]) (s := s) (N := 1) (tm := fun _ => tm9) (len := [15]) (byt := [wdB]) (A := LA s) (fun i hi => by rw [show i = 0 by omega]; decide) (fun i _ => hs _ fl_in.1) (fun i _ => hs _ fl_in.2.1) (fun i _ => hs _ fl_in.2.2.1) (fun i hi => by rw [show i = 0 by omega]; exact hs _ fl_in.2.2.2) (fun i hi j hj => by
    have hi0 : i = 0 := by omega
    subst hi0
    exact hs _ (fe_in j hj)) (fun i j hi hj hne => absurd (show i = j by omega) hne) hA
  have hZ := va_Zqof (hts _ st_in.2.2.2.2.2.2.1) (hts _ st_in.2.2.2.2.2.2.2.1) (hs _ fs_in.2.2.2.1) hA
  have hZ3 : ∃ a3 : Nat, ∃ r : Option Nat, ∀ a1 a2 : Nat, va_Z "jdk/internal/util/Preconditions" "SIOOBE_FORMATTER" "Ljava/util/function/BiFunction;" (va_rf (r.map (adI s.heap.size a1 a2 a3))) (LA s) s s.heap := by
    rcases hZ with z | ⟨t, z⟩
    · exact ⟨0, none, fun _ _ => z⟩
    · exact ⟨t, some 178, fun _ _ => z⟩
  obtain ⟨a3, r, hZ3⟩ := hZ3
  obtain ⟨x1, -, -, -, y1, -⟩ := Cond.exactly_spec (args := #[Value.ref b]) (first := s) (o := none) (s := s) (idx := []) (t := .string RX8 124) (cls := "java/lang/String") (hs _ fs_in.1)
  obtain ⟨x2, -, -, -, y2, -⟩ := Cond.exactly_spec (args := #[Value.ref b]) (first := s) (o := none) (s := s) (idx := []) (t := .string RX8 158) (cls := "java/lang/String") (hs _ fs_in.2.1)
  refine ⟨D, cy, aK 0, aV 0, a3, hK, hAO, fun q hq => va_Nw.of rfl (hts _ (nw_in.1 q hq)), fun q hq => va_Nw.of rfl (hts _ (nw_in.2 q hq)), ⟨⟨fun i hi => ?_, fun i j hi hj _ => by omega⟩, vk_R.of (hts _ st_in.2.1) (hE 0 (by decide)), va_Zof (hts _ st_in.2.2.2.2.1) (hts _ st_in.2.2.2.2.2.1) (va_eqt (hs _ fs_in.2.2.1)) hA, r, hZ3 _ _⟩, ⟨zs_of (hts _ st_in.2.2.2.2.2.2.2.2.1) (hs _ fs_in.2.2.2.2.1) hA, zs_of (hts _ st_in.2.2.2.2.2.2.2.2.2) (hs _ fs_in.2.2.2.2.2.1) hA, ⟨x1, vk_R.of (hts _ st_in.2.2.1) y1⟩, ⟨x2, vk_R.of (hts _ st_in.2.2.2.1) y2⟩, va_Nw.of rfl (hts _ dw_in.1), va_Nw.of rfl (hts _ dw_in.2.1), va_Nw.of rfl (hts _ dw_in.2.2.1), va_Nw.of rfl (hts _ dw_in.2.2.2.1), va_Nw.of rfl (hts _ dw_in.2.2.2.2)⟩, nca_of (hs _ fs_in.2.2.2.2.2.2)⟩
  have hi0 : i = 0 := by omega
  subst hi0
  exact hS.1 0 (by decide)
end STA
