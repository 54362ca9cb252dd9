/-! DayProfilesModel(). -/
theorem W.size {p : Program} {l : Launch} {e : Env} {R : Room} {s : State} {m : MethodId} {args : Array Value} {below : List Frame} {meth : Method} {c : Code} {H : Heap} {locs : List Loc} {cells slots : Nat} {Q : State → Prop} {g : JFrame} (kk : H.size ≤ s.heap.size + cells → W p l e R s m args below meth c H locs cells slots Q g) : W p l e R s m args below meth c H locs cells slots Q g := fun T hT X => kk (by rw [← hT]; exact X.same.2.2.1) T hT X
theorem va_S.wide {A B : Nat → Prop} {H0 H : Heap} {locs : List Loc} (hS : va_S A H0 H locs) (hAB : ∀ q, A q → B q) : va_S B H0 H locs := ⟨hS.1, fun q h1 h2 => hS.2.1 q h1 (fun z => h2 (hAB q z)), fun q hq => hAB _ (hS.2.2 q hq)⟩
theorem fr_B : WlkB frF := fun j h0 h1 => by
  unfold frF
  split
  · split <;> omega
  · omega
theorem bgn_of {u1 u2 : Sto} (h1 : Fr (fun c _ => c = 156) sg0 u1) (h2 : BePost u1 u2 frF) : Bgn u2 ∧ ∀ j : Int, gL u2 175 j = 0 := by
  obtain ⟨hF, h155, h158, h17, h20, h38⟩ := h2
  have eN : ∀ (c : Nat) (j : Int), ¬ pBe c j → c ≠ 156 → gN u2 c j = gN sg0 c j := fun c j q1 q2 => (hF.1 c j q1).trans (h1.1 c j q2)
  have eL_ : ∀ (c : Nat) (j : Int), ¬ pBe c j → c ≠ 156 → gL u2 c j = gL sg0 c j := fun c j q1 q2 => (hF.2.1 c j q1).trans (h1.2.1 c j q2)
  have eR_ : ∀ (c : Nat) (j : Int), gR u2 c j = gR sg0 c j := fun c j => (hF.2.2 c j).trans (h1.2.2 c j)
  have z0 : nrm 0 = 0 := by decide +kernel
  have z1 : nrm (-1) = -1 := by decide +kernel
  have eo : ∀ (c : Nat) (j : Int), c ≠ 2 → c ≠ 153 → gN sg0 c j = 0 := fun c j q1 q2 => by
    show nrm (if c = 2 then _ else if c = 153 then _ else 0) = 0
    rw [if_neg q1, if_neg q2]
    exact z0
  have e153 : ∀ j : Int, gN sg0 153 j = if j = 15 then -1 else 0 := fun j => by
    show nrm (if (153 : Nat) = 2 then _ else if (153 : Nat) = 153 then (if j = 15 then -1 else 0) else 0) = _
    rw [if_neg (by decide), if_pos rfl]
    split
    · exact z1
    · exact z0
  have e2 : ∀ j : Int, gN sg0 2 j = if j = 1 then -1 else 0 := fun j => by
    show nrm (if (2 : Nat) = 2 then (if j = 1 then -1 else 0) else _) = _
    rw [if_pos rfl]
    split
    · exact z1
    · exact z0
  refine ⟨⟨h155, h158, h17, ⟨h20, h38, ?_, ?_, ?_⟩, fun c j hc => ?_, fun c j hc => ?_, ⟨?_, ?_, ?_, ?_⟩, fun j => ⟨?_, ?_, ?_⟩⟩, fun j => eL_ 175 j (by simp [pBe]) (by decide)⟩
  · rw [eN 153 2 (by simp [pBe]) (by decide), e153]; rfl
  · rw [eN 153 14 (by simp [pBe]) (by decide), e153]; rfl
  · rw [eN 153 15 (by simp [pBe]) (by decide), e153]; rfl
  · rw [eN c j (by intro q; rcases q with q | q | q <;> omega) (by omega)]
    by_cases q : c = 2
    · subst q
      rw [e2]
      by_cases q2 : j = 1
      · rw [if_pos q2, if_pos ⟨rfl, q2⟩]
      · rw [if_neg q2, if_neg (fun z => q2 z.2)]
    · rw [eo c j q (by omega), if_neg (fun z => q z.1)]
  · exact eL_ c j (by intro q; rcases q with q | q | q <;> omega) (by omega)
  · exact eR_ 0 12
  · exact eR_ 0 13
  · exact eR_ 3 0
  · exact eR_ 7 0
  · exact (eN 154 j (by simp [pBe]) (by decide)).trans (eo 154 j (by decide) (by decide))
  · exact (eN 161 j (by simp [pBe]) (by decide)).trans (eo 161 j (by decide) (by decide))
  · exact (eN 162 j (by simp [pBe]) (by decide)).trans (eo 162 j (by decide) (by decide))
section CT9
variable {p : Program} {l : Launch} {e : Env} {R : Room} {s : State} {m : MethodId} {args : Array Value} {below : List Frame} {meth : Method} {c : Code} {H : Heap} {locs : List Loc} {cells slots : Nat} {Q : State → Prop}
variable {cc : ByteArray} {nL : Nat} {Ts : List Cond} {pc : Nat} {ls : Array Slot} {D : va_G} {cy : Nat → ClassId} {h n0 : Nat}
theorem rz_call {M' : Mth} {idx : Nat} {σ : Sto} {Q' : Option Av → Sto → Prop} {ad : Nat → Nat} {a9 : Nat} (ha9 : ad 153 = a9) (hC : CtX p s m args c cc nL RX9 Ts D cy n0) (hNW : NWs s) (hSK : SK ad (fun q => h ≤ q) s) (hA : h ≤ s.heap.size) (hM : zMetA M' [ar 153] σ Q') (hV : MV M' 0) (hlk : Cond.methodLink RX9 idx M'.1 ∈ Gw) (hcl : Cn 9 = M'.1.cls) (hret : rkO M'.2.2.2.1 = 0) (h1 : M'.2.2.2.2.1 + 1 ≤ R.frames) (h2 : 8 + (M'.2.2.1 + 11) + M'.2.2.2.2.2 ≤ R.locals) (hc : cells ≤ R.cells) (hs : slots ≤ R.slots) (hls : ls.size = nL) (hd : decode cc pc = .ok (.invokevirtual idx, 3)) (hP : va_P D vwCl (zwld ad cy σ) H) (hD : va_D (fun q => h ≤ q) (zwld ad cy σ)) (hS : va_S (fun q => h ≤ q) s.heap H locs)
    (kk : ∀ u : Sto, Q' none u → ∀ (H1 : Heap) (locs1 : List Loc), va_P D vwCl (zwld ad cy u) H1 → va_D (fun q => h ≤ q) (zwld ad cy u) → va_S (fun q => h ≤ q) s.heap H1 locs1 → H.size ≤ H1.size → W p l e R s m args below meth c H1 locs1 cells slots Q (F0 m (pc + 3) ls [])) : W p l e R s m args below meth c H locs cells slots Q (F0 m pc ls [.ref a9]) := by
  subst ha9
  obtain ⟨⟨hx, hb, hml, hown, hts⟩, hG, hK, hAO, hle⟩ := hC
  obtain ⟨hI, hV1, hV2⟩ := hV
  have hA' : ∀ q : Nat, s.heap.size ≤ q → h ≤ q := fun q z => Nat.le_trans hA z
  have hF := zfree_of hD hS hA'
  have hgood : GoodIn Ts (wsV RX9 idx M'.1.cls M'.1 (WS M')) := fun w hw => by
    have h9 : w ∈ Gw := by
      rcases List.mem_append.mp hw with z | z
      · simp only [List.mem_cons, List.mem_nil_iff, or_false] at z
        rcases z with z | z | z | z <;> rw [z]
        · exact hlk
        · exact hV1
        · exact hV2
        · exact hI.2.1
      · exact WS_in hI w z
    exact ⟨hG w h9, good_of_word (Gw_good h9)⟩
  have hrec := va_recv hK hP (cl_at 9 (by decide)) (zobj_at zk153 (by decide))
  rw [hcl] at hrec
  have hrun := va_runV (R := R) (l := l) (e := e) (below := below) (meth := meth) (H := H) (locs := locs) (cells := cells) (slots := slots) (C := M'.1.cls) (As := []) (rest := []) (b := ad 153) (g := F0 m pc ls [.ref (ad 153)]) ⟨hx, hb, hml, hown, hts⟩ (hM l D ad cy H.size) (cwV 0 hts hgood rfl rfl rfl ⟨rfl, hI.2.2.1, hI.2.2.2.1, hI.2.2.2.2⟩ ⟨h1, h2⟩) ⟨zpre_blind, hrec, fun U hU hW => ⟨rfl, by rw [hU], by rw [hU]; exact hP, va_K.moved hW.alike hK, ⟨hD.1, fun _ _ _ => trivial⟩, NWs.warm hW hNW, hSK.call hW (fun a q0 q1 => by rw [hU]; exact hS.2.1 a q0 q1) hF⟩⟩ rfl rfl hls rfl (lv_room (Nat.le_of_ble_eq_true rfl)) hd ⟨hc, hs⟩
  unfold zQcA at hrun
  rw [hret, if_pos rfl] at hrun
  refine va_callv hrun hS (fun q _ z => hF q z) hF (fun u t H1 locs1 ht hvm hw hB hz1 hk1 hS1 => ?_)
  obtain ⟨hP1, hK1, hD1⟩ := hB
  rw [ht] at hP1
  exact kk u hw H1 locs1 hP1 ⟨hD1.1, fun k q z => hF _ (hD1.2 k q z)⟩ hS1 hz1
end CT9
def Ct9P (D : va_G) (cy : Nat → ClassId) (h a1 a2 a3 : Nat) : Array Value → State → Prop := va_Pc [.ref (h + 153)] (fun U => Lay D (h + 153) [.inr (9, zer 9)] U.heap ∧ (∀ (k : Nat) (x : va_E), (eX8 cy h)[k]? = some x → va_at D vwCl (h + k, x) U.heap) ∧ va_K D vwCl (tysL cy) U ∧ AOI U ∧ NWs U ∧ SK (adI h a1 a2 a3) (fun q => h ≤ q) U)
def Ct9Q (D : va_G) (cy : Nat → ClassId) (h a1 a2 a3 : Nat) : Array Value → State → Outcome → State → Prop := va_Qv (fun u : Sto => Bgn u ∧ ∀ j : Int, gL u 175 j = 0) (fun u t => t.heap.size = h + 175 ∧ va_P D vwCl (zwld (adI h a1 a2 a3) cy u) t.heap) (fun q => h ≤ q)
theorem Ct9P_blind {D : va_G} {cy : Nat → ClassId} {h a1 a2 a3 : Nat} : FrameBlind (Ct9P D cy h a1 a2 a3) := fun a U g mk q => by
  obtain ⟨q0, q1, q2, q3, q4, q5, q6⟩ := q
  exact ⟨q0, q1, q2, va_K.moved (u := U) (U := U.calling g mk a) (Vm.Alike.refl U.vm) q3, AOI.moved (u := U) (U := U.calling g mk a) (Vm.Alike.refl U.vm) q4, NWs.same (s := U) (U := U.calling g mk a) rfl q5, q6.blind g mk a⟩
set_option maxRecDepth 40000 in
set_option maxHeartbeats 4000000 in
theorem ctX9 (l : Launch) (D : va_G) (cy : Nat → ClassId) (h a1 a2 a3 : Nat) : Met l yX9_init (WSI yX9_init cX9_init 1) (rmI 2 21 5032 80) (Ct9P D cy h a1 a2 a3) (Ct9Q D cy h a1 a2 a3) 21 5032 (fun q => h ≤ q) := by
  refine Met.ofW (cc := cX9_init) (maxL := 1) (ret := none) (by decide) rfl ?_
  intro p e s m args below meth c s₁ B hml hv
  obtain ⟨rfl, hL, h8, hK, hAO, hNW, hSK⟩ := hv
  have hl := lv_entry ([.ref (h + 153)]) (n := 1) (Nat.le_of_ble_eq_true rfl)
  rw [lg_entry_eq]
  generalize (lg_sl ([.ref (h + 153)]) ++ List.replicate (1 - (lg_sl ([.ref (h + 153)])).length) Slot.unset).toArray = ls at hl ⊢
  have hl : lv_has ls 1 [(0, .ref (h + 153))] := hl
  have hr := B.returns
  have hlocks := B.notSynchronized
  have hin2 : meth.name = "<init>" := (name_of_methodNamed B.named B.method).1
  generalize hn : h + 153 = n at hL hl ⊢
  have hC : CtX p s m (List.toArray [.ref n]) c cX9_init 1 RX9 (WSI yX9_init cX9_init 1) D cy n := ⟨⟨B.exec, B.bytes, hml, findClass_of_methodNamed B.named, by rw [← hn]; exact atoms_spec (ws := WSI yX9_init cX9_init 1) B.pre⟩, fun w hw => List.mem_cons_of_mem _ hw, hK, hAO, by rw [hL.1]; exact Nat.le_add_right _ _⟩
  have hsz0 : s.heap.size = n + 1 := hL.1
  have hS : va_S (fun q => n ≤ q) s.heap s.heap [] := va_S.rf
  show W p l e (rmI 2 21 5032 80) s m (List.toArray [.ref n]) below meth c s.heap [] 0 0 _ (F0 m 0 ls [])
  refine lv_aload_n hC.1.1 hC.1.2.1 dX9_init_0 rfl (lv_at hl 0 rfl) ?_
  refine rc_oi hC (inG5 rfl (List.mem_of_getElem? (i := 121) rfl)) hl.1 (Nat.le_of_ble_eq_true rfl) (Nat.le_of_ble_eq_true rfl) dX9_init_1 ?_
  refine lv_aload_n hC.1.1 hC.1.2.1 dX9_init_4 rfl (lv_at hl 0 rfl) ?_
  refine lv_sipush (v := 900) hC.1.1 hC.1.2.1 dX9_init_5 (by decide +kernel) ?_
  refine rc_int (N := 900) (n := (n + 1)) hC hL hS (by decide +kernel) (by decide +kernel) (by decide +kernel) rfl (Nat.le_of_ble_eq_true rfl) (Nat.le_of_ble_eq_true rfl) dX9_init_8 (fun H hL hS => ?_)
  have hL : Lay D n (.inr (9, zer 9) :: ([] ++ [eI cy 900])) H := hL
  refine rc_put (k := 0) (ci := 9) (fs := zer 9) (v := .ref (n + 1)) hC hL hS hin2 rfl fX9_7 rfl rfl rfl (Nat.le_of_ble_eq_true rfl) rfl dX9_init_10 (fun H locs hL hS => ?_)
  have hL : Lay D n (.inr (9, (zer 9).set 1 (.ref (n + 1))) :: ([] ++ [eI cy 900])) H := hL
  refine lv_aload_n hC.1.1 hC.1.2.1 dX9_init_13 rfl (lv_at hl 0 rfl) ?_
  refine lv_sipush (v := 415) hC.1.1 hC.1.2.1 dX9_init_14 (by decide +kernel) ?_
  refine rc_int (N := 415) (n := (n + 2)) hC hL hS (by decide +kernel) (by decide +kernel) (by decide +kernel) rfl (Nat.le_of_ble_eq_true rfl) (Nat.le_of_ble_eq_true rfl) dX9_init_17 (fun H hL hS => ?_)
  have hL : Lay D n (.inr (9, (zer 9).set 1 (.ref (n + 1))) :: (([] ++ [eI cy 900]) ++ [eI cy 415])) H := hL
  refine rc_put (k := 0) (ci := 9) (fs := (zer 9).set 1 (.ref (n + 1))) (v := .ref (n + 2)) hC hL hS hin2 rfl fX9_13 rfl rfl rfl (Nat.le_of_ble_eq_true rfl) rfl dX9_init_19 (fun H locs hL hS => ?_)
  have hL : Lay D n (.inr (9, ((zer 9).set 1 (.ref (n + 1))).set 3 (.ref (n + 2))) :: (([] ++ [eI cy 900]) ++ [eI cy 415])) H := hL
  refine lv_aload_n hC.1.1 hC.1.2.1 dX9_init_22 rfl (lv_at hl 0 rfl) ?_
  refine lv_sipush (v := 415) hC.1.1 hC.1.2.1 dX9_init_23 (by decide +kernel) ?_
  refine rc_int (N := 415) (n := (n + 3)) hC hL hS (by decide +kernel) (by decide +kernel) (by decide +kernel) rfl (Nat.le_of_ble_eq_true rfl) (Nat.le_of_ble_eq_true rfl) dX9_init_26 (fun H hL hS => ?_)
  have hL : Lay D n (.inr (9, ((zer 9).set 1 (.ref (n + 1))).set 3 (.ref (n + 2))) :: ((([] ++ [eI cy 900]) ++ [eI cy 415]) ++ [eI cy 415])) H := hL
  refine rc_put (k := 0) (ci := 9) (fs := ((zer 9).set 1 (.ref (n + 1))).set 3 (.ref (n + 2))) (v := .ref (n + 3)) hC hL hS hin2 rfl fX9_16 rfl rfl rfl (Nat.le_of_ble_eq_true rfl) rfl dX9_init_28 (fun H locs hL hS => ?_)
  have hL : Lay D n (.inr (9, (((zer 9).set 1 (.ref (n + 1))).set 3 (.ref (n + 2))).set 4 (.ref (n + 3))) :: ((([] ++ [eI cy 900]) ++ [eI cy 415]) ++ [eI cy 415])) H := hL
  refine lv_aload_n hC.1.1 hC.1.2.1 dX9_init_31 rfl (lv_at hl 0 rfl) ?_
  refine lv_bipush (v := 10) hC.1.1 hC.1.2.1 dX9_init_32 (by decide +kernel) ?_
  refine rc_int (N := 10) (n := (n + 4)) hC hL hS (by decide +kernel) (by decide +kernel) (by decide +kernel) rfl (Nat.le_of_ble_eq_true rfl) (Nat.le_of_ble_eq_true rfl) dX9_init_34 (fun H hL hS => ?_)
  have hL : Lay D n (.inr (9, (((zer 9).set 1 (.ref (n + 1))).set 3 (.ref (n + 2))).set 4 (.ref (n + 3))) :: (((([] ++ [eI cy 900]) ++ [eI cy 415]) ++ [eI cy 415]) ++ [eI cy 10])) H := hL
  refine rc_put (k := 0) (ci := 9) (fs := (((zer 9).set 1 (.ref (n + 1))).set 3 (.ref (n + 2))).set 4 (.ref (n + 3))) (v := .ref (n + 4)) hC hL hS hin2 rfl fX9_19 rfl rfl rfl (Nat.le_of_ble_eq_true rfl) rfl dX9_init_36 (fun H locs hL hS => ?_)
  have hL : Lay D n (.inr (9, ((((zer 9).set 1 (.ref (n + 1))).set 3 (.ref (n + 2))).set 4 (.ref (n + 3))).set 5 (.ref (n + 4))) :: (((([] ++ [eI cy 900]) ++ [eI cy 415]) ++ [eI cy 415]) ++ [eI cy 10])) H := hL
  refine lv_aload_n hC.1.1 hC.1.2.1 dX9_init_39 rfl (lv_at hl 0 rfl) ?_
  refine lv_iconst (v := (-1)) hC.1.1 hC.1.2.1 dX9_init_40 (by decide +kernel) ?_
  refine rc_put (k := 0) (ci := 9) (fs := ((((zer 9).set 1 (.ref (n + 1))).set 3 (.ref (n + 2))).set 4 (.ref (n + 3))).set 5 (.ref (n + 4))) (v := .int (-1)) hC hL hS hin2 rfl fX9_22 rfl rfl rfl (Nat.le_of_ble_eq_true rfl) rfl dX9_init_41 (fun H locs hL hS => ?_)
  have hL : Lay D n (.inr (9, (((((zer 9).set 1 (.ref (n + 1))).set 3 (.ref (n + 2))).set 4 (.ref (n + 3))).set 5 (.ref (n + 4))).set 15 (.int (-1))) :: (((([] ++ [eI cy 900]) ++ [eI cy 415]) ++ [eI cy 415]) ++ [eI cy 10])) H := hL
  refine lv_aload_n hC.1.1 hC.1.2.1 dX9_init_44 rfl (lv_at hl 0 rfl) ?_
  refine lv_bipush (v := 60) hC.1.1 hC.1.2.1 dX9_init_45 (by decide +kernel) ?_
  refine rc_int (N := 60) (n := (n + 5)) hC hL hS (by decide +kernel) (by decide +kernel) (by decide +kernel) rfl (Nat.le_of_ble_eq_true rfl) (Nat.le_of_ble_eq_true rfl) dX9_init_47 (fun H hL hS => ?_)
  have hL : Lay D n (.inr (9, (((((zer 9).set 1 (.ref (n + 1))).set 3 (.ref (n + 2))).set 4 (.ref (n + 3))).set 5 (.ref (n + 4))).set 15 (.int (-1))) :: ((((([] ++ [eI cy 900]) ++ [eI cy 415]) ++ [eI cy 415]) ++ [eI cy 10]) ++ [eI cy 60])) H := hL
  refine rc_put (k := 0) (ci := 9) (fs := (((((zer 9).set 1 (.ref (n + 1))).set 3 (.ref (n + 2))).set 4 (.ref (n + 3))).set 5 (.ref (n + 4))).set 15 (.int (-1))) (v := .ref (n + 5)) hC hL hS hin2 rfl fX9_26 rfl rfl rfl (Nat.le_of_ble_eq_true rfl) rfl dX9_init_49 (fun H locs hL hS => ?_)
  have hL : Lay D n (.inr (9, ((((((zer 9).set 1 (.ref (n + 1))).set 3 (.ref (n + 2))).set 4 (.ref (n + 3))).set 5 (.ref (n + 4))).set 15 (.int (-1))).set 16 (.ref (n + 5))) :: ((((([] ++ [eI cy 900]) ++ [eI cy 415]) ++ [eI cy 415]) ++ [eI cy 10]) ++ [eI cy 60])) H := hL
  refine lv_aload_n hC.1.1 hC.1.2.1 dX9_init_52 rfl (lv_at hl 0 rfl) ?_
  refine lv_sipush (v := 1200) hC.1.1 hC.1.2.1 dX9_init_53 (by decide +kernel) ?_
  refine rc_int (N := 1200) (n := (n + 6)) hC hL hS (by decide +kernel) (by decide +kernel) (by decide +kernel) rfl (Nat.le_of_ble_eq_true rfl) (Nat.le_of_ble_eq_true rfl) dX9_init_56 (fun H hL hS => ?_)
  have hL : Lay D n (.inr (9, ((((((zer 9).set 1 (.ref (n + 1))).set 3 (.ref (n + 2))).set 4 (.ref (n + 3))).set 5 (.ref (n + 4))).set 15 (.int (-1))).set 16 (.ref (n + 5))) :: (((((([] ++ [eI cy 900]) ++ [eI cy 415]) ++ [eI cy 415]) ++ [eI cy 10]) ++ [eI cy 60]) ++ [eI cy 1200])) H := hL
  refine rc_put (k := 0) (ci := 9) (fs := ((((((zer 9).set 1 (.ref (n + 1))).set 3 (.ref (n + 2))).set 4 (.ref (n + 3))).set 5 (.ref (n + 4))).set 15 (.int (-1))).set 16 (.ref (n + 5))) (v := .ref (n + 6)) hC hL hS hin2 rfl fX9_29 rfl rfl rfl (Nat.le_of_ble_eq_true rfl) rfl dX9_init_58 (fun H locs hL hS => ?_)
  have hL : Lay D n (.inr (9, (((((((zer 9).set 1 (.ref (n + 1))).set 3 (.ref (n + 2))).set 4 (.ref (n + 3))).set 5 (.ref (n + 4))).set 15 (.int (-1))).set 16 (.ref (n + 5))).set 18 (.ref (n + 6))) :: (((((([] ++ [eI cy 900]) ++ [eI cy 415]) ++ [eI cy 415]) ++ [eI cy 10]) ++ [eI cy 60]) ++ [eI cy 1200])) H := hL
  refine lv_aload_n hC.1.1 hC.1.2.1 dX9_init_61 rfl (lv_at hl 0 rfl) ?_
  refine lv_bipush (v := 20) hC.1.1 hC.1.2.1 dX9_init_62 (by decide +kernel) ?_
  refine rc_long (N := 20) (n := (n + 7)) hC hL hS (by decide +kernel) (by decide +kernel) (by decide +kernel) rfl (Nat.le_of_ble_eq_true rfl) (Nat.le_of_ble_eq_true rfl) dX9_init_64 (fun H hL hS => ?_)
  have hL : Lay D n (.inr (9, (((((((zer 9).set 1 (.ref (n + 1))).set 3 (.ref (n + 2))).set 4 (.ref (n + 3))).set 5 (.ref (n + 4))).set 15 (.int (-1))).set 16 (.ref (n + 5))).set 18 (.ref (n + 6))) :: ((((((([] ++ [eI cy 900]) ++ [eI cy 415]) ++ [eI cy 415]) ++ [eI cy 10]) ++ [eI cy 60]) ++ [eI cy 1200]) ++ [eL cy 20])) H := hL
  refine rc_put (k := 0) (ci := 9) (fs := (((((((zer 9).set 1 (.ref (n + 1))).set 3 (.ref (n + 2))).set 4 (.ref (n + 3))).set 5 (.ref (n + 4))).set 15 (.int (-1))).set 16 (.ref (n + 5))).set 18 (.ref (n + 6))) (v := .ref (n + 7)) hC hL hS hin2 rfl fX9_32 rfl rfl rfl (Nat.le_of_ble_eq_true rfl) rfl dX9_init_66 (fun H locs hL hS => ?_)
  have hL : Lay D n (.inr (9, ((((((((zer 9).set 1 (.ref (n + 1))).set 3 (.ref (n + 2))).set 4 (.ref (n + 3))).set 5 (.ref (n + 4))).set 15 (.int (-1))).set 16 (.ref (n + 5))).set 18 (.ref (n + 6))).set 19 (.ref (n + 7))) :: ((((((([] ++ [eI cy 900]) ++ [eI cy 415]) ++ [eI cy 415]) ++ [eI cy 10]) ++ [eI cy 60]) ++ [eI cy 1200]) ++ [eL cy 20])) H := hL
  refine lv_aload_n hC.1.1 hC.1.2.1 dX9_init_69 rfl (lv_at hl 0 rfl) ?_
  refine lv_bipush (v := 60) hC.1.1 hC.1.2.1 dX9_init_70 (by decide +kernel) ?_
  refine rc_int (N := 60) (n := (n + 8)) hC hL hS (by decide +kernel) (by decide +kernel) (by decide +kernel) rfl (Nat.le_of_ble_eq_true rfl) (Nat.le_of_ble_eq_true rfl) dX9_init_72 (fun H hL hS => ?_)
  have hL : Lay D n (.inr (9, ((((((((zer 9).set 1 (.ref (n + 1))).set 3 (.ref (n + 2))).set 4 (.ref (n + 3))).set 5 (.ref (n + 4))).set 15 (.int (-1))).set 16 (.ref (n + 5))).set 18 (.ref (n + 6))).set 19 (.ref (n + 7))) :: (((((((([] ++ [eI cy 900]) ++ [eI cy 415]) ++ [eI cy 415]) ++ [eI cy 10]) ++ [eI cy 60]) ++ [eI cy 1200]) ++ [eL cy 20]) ++ [eI cy 60])) H := hL
  refine rc_put (k := 0) (ci := 9) (fs := ((((((((zer 9).set 1 (.ref (n + 1))).set 3 (.ref (n + 2))).set 4 (.ref (n + 3))).set 5 (.ref (n + 4))).set 15 (.int (-1))).set 16 (.ref (n + 5))).set 18 (.ref (n + 6))).set 19 (.ref (n + 7))) (v := .ref (n + 8)) hC hL hS hin2 rfl fX9_36 rfl rfl rfl (Nat.le_of_ble_eq_true rfl) rfl dX9_init_74 (fun H locs hL hS => ?_)
  have hL : Lay D n (.inr (9, (((((((((zer 9).set 1 (.ref (n + 1))).set 3 (.ref (n + 2))).set 4 (.ref (n + 3))).set 5 (.ref (n + 4))).set 15 (.int (-1))).set 16 (.ref (n + 5))).set 18 (.ref (n + 6))).set 19 (.ref (n + 7))).set 21 (.ref (n + 8))) :: (((((((([] ++ [eI cy 900]) ++ [eI cy 415]) ++ [eI cy 415]) ++ [eI cy 10]) ++ [eI cy 60]) ++ [eI cy 1200]) ++ [eL cy 20]) ++ [eI cy 60])) H := hL
  refine lv_aload_n hC.1.1 hC.1.2.1 dX9_init_77 rfl (lv_at hl 0 rfl) ?_
  refine lv_bipush (v := 60) hC.1.1 hC.1.2.1 dX9_init_78 (by decide +kernel) ?_
  refine rc_int (N := 60) (n := (n + 9)) hC hL hS (by decide +kernel) (by decide +kernel) (by decide +kernel) rfl (Nat.le_of_ble_eq_true rfl) (Nat.le_of_ble_eq_true rfl) dX9_init_80 (fun H hL hS => ?_)
  have hL : Lay D n (.inr (9, (((((((((zer 9).set 1 (.ref (n + 1))).set 3 (.ref (n + 2))).set 4 (.ref (n + 3))).set 5 (.ref (n + 4))).set 15 (.int (-1))).set 16 (.ref (n + 5))).set 18 (.ref (n + 6))).set 19 (.ref (n + 7))).set 21 (.ref (n + 8))) :: ((((((((([] ++ [eI cy 900]) ++ [eI cy 415]) ++ [eI cy 415]) ++ [eI cy 10]) ++ [eI cy 60]) ++ [eI cy 1200]) ++ [eL cy 20]) ++ [eI cy 60]) ++ [eI cy 60])) H := hL
  refine rc_put (k := 0) (ci := 9) (fs := (((((((((zer 9).set 1 (.ref (n + 1))).set 3 (.ref (n + 2))).set 4 (.ref (n + 3))).set 5 (.ref (n + 4))).set 15 (.int (-1))).set 16 (.ref (n + 5))).set 18 (.ref (n + 6))).set 19 (.ref (n + 7))).set 21 (.ref (n + 8))) (v := .ref (n + 9)) hC hL hS hin2 rfl fX9_39 rfl rfl rfl (Nat.le_of_ble_eq_true rfl) rfl dX9_init_82 (fun H locs hL hS => ?_)
  have hL : Lay D n (.inr (9, ((((((((((zer 9).set 1 (.ref (n + 1))).set 3 (.ref (n + 2))).set 4 (.ref (n + 3))).set 5 (.ref (n + 4))).set 15 (.int (-1))).set 16 (.ref (n + 5))).set 18 (.ref (n + 6))).set 19 (.ref (n + 7))).set 21 (.ref (n + 8))).set 22 (.ref (n + 9))) :: ((((((((([] ++ [eI cy 900]) ++ [eI cy 415]) ++ [eI cy 415]) ++ [eI cy 10]) ++ [eI cy 60]) ++ [eI cy 1200]) ++ [eL cy 20]) ++ [eI cy 60]) ++ [eI cy 60])) H := hL
  refine lv_aload_n hC.1.1 hC.1.2.1 dX9_init_85 rfl (lv_at hl 0 rfl) ?_
  refine lv_bipush (v := 60) hC.1.1 hC.1.2.1 dX9_init_86 (by decide +kernel) ?_
  refine rc_long (N := 60) (n := (n + 10)) hC hL hS (by decide +kernel) (by decide +kernel) (by decide +kernel) rfl (Nat.le_of_ble_eq_true rfl) (Nat.le_of_ble_eq_true rfl) dX9_init_88 (fun H hL hS => ?_)
  have hL : Lay D n (.inr (9, ((((((((((zer 9).set 1 (.ref (n + 1))).set 3 (.ref (n + 2))).set 4 (.ref (n + 3))).set 5 (.ref (n + 4))).set 15 (.int (-1))).set 16 (.ref (n + 5))).set 18 (.ref (n + 6))).set 19 (.ref (n + 7))).set 21 (.ref (n + 8))).set 22 (.ref (n + 9))) :: (((((((((([] ++ [eI cy 900]) ++ [eI cy 415]) ++ [eI cy 415]) ++ [eI cy 10]) ++ [eI cy 60]) ++ [eI cy 1200]) ++ [eL cy 20]) ++ [eI cy 60]) ++ [eI cy 60]) ++ [eL cy 60])) H := hL
  refine rc_put (k := 0) (ci := 9) (fs := ((((((((((zer 9).set 1 (.ref (n + 1))).set 3 (.ref (n + 2))).set 4 (.ref (n + 3))).set 5 (.ref (n + 4))).set 15 (.int (-1))).set 16 (.ref (n + 5))).set 18 (.ref (n + 6))).set 19 (.ref (n + 7))).set 21 (.ref (n + 8))).set 22 (.ref (n + 9))) (v := .ref (n + 10)) hC hL hS hin2 rfl fX9_42 rfl rfl rfl (Nat.le_of_ble_eq_true rfl) rfl dX9_init_90 (fun H locs hL hS => ?_)
  have hL : Lay D n (.inr (9, (((((((((((zer 9).set 1 (.ref (n + 1))).set 3 (.ref (n + 2))).set 4 (.ref (n + 3))).set 5 (.ref (n + 4))).set 15 (.int (-1))).set 16 (.ref (n + 5))).set 18 (.ref (n + 6))).set 19 (.ref (n + 7))).set 21 (.ref (n + 8))).set 22 (.ref (n + 9))).set 24 (.ref (n + 10))) :: (((((((((([] ++ [eI cy 900]) ++ [eI cy 415]) ++ [eI cy 415]) ++ [eI cy 10]) ++ [eI cy 60]) ++ [eI cy 1200]) ++ [eL cy 20]) ++ [eI cy 60]) ++ [eI cy 60]) ++ [eL cy 60])) H := hL
  refine lv_aload_n hC.1.1 hC.1.2.1 dX9_init_93 rfl (lv_at hl 0 rfl) ?_
  refine lv_sipush (v := 300) hC.1.1 hC.1.2.1 dX9_init_94 (by decide +kernel) ?_
  refine rc_int (N := 300) (n := (n + 11)) hC hL hS (by decide +kernel) (by decide +kernel) (by decide +kernel) rfl (Nat.le_of_ble_eq_true rfl) (Nat.le_of_ble_eq_true rfl) dX9_init_97 (fun H hL hS => ?_)
  have hL : Lay D n (.inr (9, (((((((((((zer 9).set 1 (.ref (n + 1))).set 3 (.ref (n + 2))).set 4 (.ref (n + 3))).set 5 (.ref (n + 4))).set 15 (.int (-1))).set 16 (.ref (n + 5))).set 18 (.ref (n + 6))).set 19 (.ref (n + 7))).set 21 (.ref (n + 8))).set 22 (.ref (n + 9))).set 24 (.ref (n + 10))) :: ((((((((((([] ++ [eI cy 900]) ++ [eI cy 415]) ++ [eI cy 415]) ++ [eI cy 10]) ++ [eI cy 60]) ++ [eI cy 1200]) ++ [eL cy 20]) ++ [eI cy 60]) ++ [eI cy 60]) ++ [eL cy 60]) ++ [eI cy 300])) H := hL
  refine rc_put (k := 0) (ci := 9) (fs := (((((((((((zer 9).set 1 (.ref (n + 1))).set 3 (.ref (n + 2))).set 4 (.ref (n + 3))).set 5 (.ref (n + 4))).set 15 (.int (-1))).set 16 (.ref (n + 5))).set 18 (.ref (n + 6))).set 19 (.ref (n + 7))).set 21 (.ref (n + 8))).set 22 (.ref (n + 9))).set 24 (.ref (n + 10))) (v := .ref (n + 11)) hC hL hS hin2 rfl fX9_45 rfl rfl rfl (Nat.le_of_ble_eq_true rfl) rfl dX9_init_99 (fun H locs hL hS => ?_)
  have hL : Lay D n (.inr (9, ((((((((((((zer 9).set 1 (.ref (n + 1))).set 3 (.ref (n + 2))).set 4 (.ref (n + 3))).set 5 (.ref (n + 4))).set 15 (.int (-1))).set 16 (.ref (n + 5))).set 18 (.ref (n + 6))).set 19 (.ref (n + 7))).set 21 (.ref (n + 8))).set 22 (.ref (n + 9))).set 24 (.ref (n + 10))).set 25 (.ref (n + 11))) :: ((((((((((([] ++ [eI cy 900]) ++ [eI cy 415]) ++ [eI cy 415]) ++ [eI cy 10]) ++ [eI cy 60]) ++ [eI cy 1200]) ++ [eL cy 20]) ++ [eI cy 60]) ++ [eI cy 60]) ++ [eL cy 60]) ++ [eI cy 300])) H := hL
  refine lv_aload_n hC.1.1 hC.1.2.1 dX9_init_102 rfl (lv_at hl 0 rfl) ?_
  refine lv_sipush (v := 300) hC.1.1 hC.1.2.1 dX9_init_103 (by decide +kernel) ?_
  refine rc_int (N := 300) (n := (n + 12)) hC hL hS (by decide +kernel) (by decide +kernel) (by decide +kernel) rfl (Nat.le_of_ble_eq_true rfl) (Nat.le_of_ble_eq_true rfl) dX9_init_106 (fun H hL hS => ?_)
  have hL : Lay D n (.inr (9, ((((((((((((zer 9).set 1 (.ref (n + 1))).set 3 (.ref (n + 2))).set 4 (.ref (n + 3))).set 5 (.ref (n + 4))).set 15 (.int (-1))).set 16 (.ref (n + 5))).set 18 (.ref (n + 6))).set 19 (.ref (n + 7))).set 21 (.ref (n + 8))).set 22 (.ref (n + 9))).set 24 (.ref (n + 10))).set 25 (.ref (n + 11))) :: (((((((((((([] ++ [eI cy 900]) ++ [eI cy 415]) ++ [eI cy 415]) ++ [eI cy 10]) ++ [eI cy 60]) ++ [eI cy 1200]) ++ [eL cy 20]) ++ [eI cy 60]) ++ [eI cy 60]) ++ [eL cy 60]) ++ [eI cy 300]) ++ [eI cy 300])) H := hL
  refine rc_put (k := 0) (ci := 9) (fs := ((((((((((((zer 9).set 1 (.ref (n + 1))).set 3 (.ref (n + 2))).set 4 (.ref (n + 3))).set 5 (.ref (n + 4))).set 15 (.int (-1))).set 16 (.ref (n + 5))).set 18 (.ref (n + 6))).set 19 (.ref (n + 7))).set 21 (.ref (n + 8))).set 22 (.ref (n + 9))).set 24 (.ref (n + 10))).set 25 (.ref (n + 11))) (v := .ref (n + 12)) hC hL hS hin2 rfl fX9_48 rfl rfl rfl (Nat.le_of_ble_eq_true rfl) rfl dX9_init_108 (fun H locs hL hS => ?_)
  have hL : Lay D n (.inr (9, (((((((((((((zer 9).set 1 (.ref (n + 1))).set 3 (.ref (n + 2))).set 4 (.ref (n + 3))).set 5 (.ref (n + 4))).set 15 (.int (-1))).set 16 (.ref (n + 5))).set 18 (.ref (n + 6))).set 19 (.ref (n + 7))).set 21 (.ref (n + 8))).set 22 (.ref (n + 9))).set 24 (.ref (n + 10))).set 25 (.ref (n + 11))).set 26 (.ref (n + 12))) :: (((((((((((([] ++ [eI cy 900]) ++ [eI cy 415]) ++ [eI cy 415]) ++ [eI cy 10]) ++ [eI cy 60]) ++ [eI cy 1200]) ++ [eL cy 20]) ++ [eI cy 60]) ++ [eI cy 60]) ++ [eL cy 60]) ++ [eI cy 300]) ++ [eI cy 300])) H := hL
  refine lv_aload_n hC.1.1 hC.1.2.1 dX9_init_111 rfl (lv_at hl 0 rfl) ?_
  refine lv_sipush (v := 300) hC.1.1 hC.1.2.1 dX9_init_112 (by decide +kernel) ?_
  refine rc_int (N := 300) (n := (n + 13)) hC hL hS (by decide +kernel) (by decide +kernel) (by decide +kernel) rfl (Nat.le_of_ble_eq_true rfl) (Nat.le_of_ble_eq_true rfl) dX9_init_115 (fun H hL hS => ?_)
  have hL : Lay D n (.inr (9, (((((((((((((zer 9).set 1 (.ref (n + 1))).set 3 (.ref (n + 2))).set 4 (.ref (n + 3))).set 5 (.ref (n + 4))).set 15 (.int (-1))).set 16 (.ref (n + 5))).set 18 (.ref (n + 6))).set 19 (.ref (n + 7))).set 21 (.ref (n + 8))).set 22 (.ref (n + 9))).set 24 (.ref (n + 10))).set 25 (.ref (n + 11))).set 26 (.ref (n + 12))) :: ((((((((((((([] ++ [eI cy 900]) ++ [eI cy 415]) ++ [eI cy 415]) ++ [eI cy 10]) ++ [eI cy 60]) ++ [eI cy 1200]) ++ [eL cy 20]) ++ [eI cy 60]) ++ [eI cy 60]) ++ [eL cy 60]) ++ [eI cy 300]) ++ [eI cy 300]) ++ [eI cy 300])) H := hL
  refine rc_put (k := 0) (ci := 9) (fs := (((((((((((((zer 9).set 1 (.ref (n + 1))).set 3 (.ref (n + 2))).set 4 (.ref (n + 3))).set 5 (.ref (n + 4))).set 15 (.int (-1))).set 16 (.ref (n + 5))).set 18 (.ref (n + 6))).set 19 (.ref (n + 7))).set 21 (.ref (n + 8))).set 22 (.ref (n + 9))).set 24 (.ref (n + 10))).set 25 (.ref (n + 11))).set 26 (.ref (n + 12))) (v := .ref (n + 13)) hC hL hS hin2 rfl fX9_51 rfl rfl rfl (Nat.le_of_ble_eq_true rfl) rfl dX9_init_117 (fun H locs hL hS => ?_)
  have hL : Lay D n (.inr (9, ((((((((((((((zer 9).set 1 (.ref (n + 1))).set 3 (.ref (n + 2))).set 4 (.ref (n + 3))).set 5 (.ref (n + 4))).set 15 (.int (-1))).set 16 (.ref (n + 5))).set 18 (.ref (n + 6))).set 19 (.ref (n + 7))).set 21 (.ref (n + 8))).set 22 (.ref (n + 9))).set 24 (.ref (n + 10))).set 25 (.ref (n + 11))).set 26 (.ref (n + 12))).set 27 (.ref (n + 13))) :: ((((((((((((([] ++ [eI cy 900]) ++ [eI cy 415]) ++ [eI cy 415]) ++ [eI cy 10]) ++ [eI cy 60]) ++ [eI cy 1200]) ++ [eL cy 20]) ++ [eI cy 60]) ++ [eI cy 60]) ++ [eL cy 60]) ++ [eI cy 300]) ++ [eI cy 300]) ++ [eI cy 300])) H := hL
  refine lv_aload_n hC.1.1 hC.1.2.1 dX9_init_120 rfl (lv_at hl 0 rfl) ?_
  refine lv_sipush (v := 300) hC.1.1 hC.1.2.1 dX9_init_121 (by decide +kernel) ?_
  refine rc_int (N := 300) (n := (n + 14)) hC hL hS (by decide +kernel) (by decide +kernel) (by decide +kernel) rfl (Nat.le_of_ble_eq_true rfl) (Nat.le_of_ble_eq_true rfl) dX9_init_124 (fun H hL hS => ?_)
  have hL : Lay D n (.inr (9, ((((((((((((((zer 9).set 1 (.ref (n + 1))).set 3 (.ref (n + 2))).set 4 (.ref (n + 3))).set 5 (.ref (n + 4))).set 15 (.int (-1))).set 16 (.ref (n + 5))).set 18 (.ref (n + 6))).set 19 (.ref (n + 7))).set 21 (.ref (n + 8))).set 22 (.ref (n + 9))).set 24 (.ref (n + 10))).set 25 (.ref (n + 11))).set 26 (.ref (n + 12))).set 27 (.ref (n + 13))) :: (((((((((((((([] ++ [eI cy 900]) ++ [eI cy 415]) ++ [eI cy 415]) ++ [eI cy 10]) ++ [eI cy 60]) ++ [eI cy 1200]) ++ [eL cy 20]) ++ [eI cy 60]) ++ [eI cy 60]) ++ [eL cy 60]) ++ [eI cy 300]) ++ [eI cy 300]) ++ [eI cy 300]) ++ [eI cy 300])) H := hL
  refine rc_put (k := 0) (ci := 9) (fs := ((((((((((((((zer 9).set 1 (.ref (n + 1))).set 3 (.ref (n + 2))).set 4 (.ref (n + 3))).set 5 (.ref (n + 4))).set 15 (.int (-1))).set 16 (.ref (n + 5))).set 18 (.ref (n + 6))).set 19 (.ref (n + 7))).set 21 (.ref (n + 8))).set 22 (.ref (n + 9))).set 24 (.ref (n + 10))).set 25 (.ref (n + 11))).set 26 (.ref (n + 12))).set 27 (.ref (n + 13))) (v := .ref (n + 14)) hC hL hS hin2 rfl fX9_54 rfl rfl rfl (Nat.le_of_ble_eq_true rfl) rfl dX9_init_126 (fun H locs hL hS => ?_)
  have hL : Lay D n (.inr (9, (((((((((((((((zer 9).set 1 (.ref (n + 1))).set 3 (.ref (n + 2))).set 4 (.ref (n + 3))).set 5 (.ref (n + 4))).set 15 (.int (-1))).set 16 (.ref (n + 5))).set 18 (.ref (n + 6))).set 19 (.ref (n + 7))).set 21 (.ref (n + 8))).set 22 (.ref (n + 9))).set 24 (.ref (n + 10))).set 25 (.ref (n + 11))).set 26 (.ref (n + 12))).set 27 (.ref (n + 13))).set 29 (.ref (n + 14))) :: (((((((((((((([] ++ [eI cy 900]) ++ [eI cy 415]) ++ [eI cy 415]) ++ [eI cy 10]) ++ [eI cy 60]) ++ [eI cy 1200]) ++ [eL cy 20]) ++ [eI cy 60]) ++ [eI cy 60]) ++ [eL cy 60]) ++ [eI cy 300]) ++ [eI cy 300]) ++ [eI cy 300]) ++ [eI cy 300])) H := hL
  refine lv_aload_n hC.1.1 hC.1.2.1 dX9_init_129 rfl (lv_at hl 0 rfl) ?_
  refine lv_sipush (v := 300) hC.1.1 hC.1.2.1 dX9_init_130 (by decide +kernel) ?_
  refine rc_bool (N := 300) (n := (n + 15)) hC hL hS (by decide +kernel) (by decide +kernel) (by decide +kernel) rfl (Nat.le_of_ble_eq_true rfl) (Nat.le_of_ble_eq_true rfl) dX9_init_133 (fun H hL hS => ?_)
  have hL : Lay D n (.inr (9, (((((((((((((((zer 9).set 1 (.ref (n + 1))).set 3 (.ref (n + 2))).set 4 (.ref (n + 3))).set 5 (.ref (n + 4))).set 15 (.int (-1))).set 16 (.ref (n + 5))).set 18 (.ref (n + 6))).set 19 (.ref (n + 7))).set 21 (.ref (n + 8))).set 22 (.ref (n + 9))).set 24 (.ref (n + 10))).set 25 (.ref (n + 11))).set 26 (.ref (n + 12))).set 27 (.ref (n + 13))).set 29 (.ref (n + 14))) :: ((((((((((((((([] ++ [eI cy 900]) ++ [eI cy 415]) ++ [eI cy 415]) ++ [eI cy 10]) ++ [eI cy 60]) ++ [eI cy 1200]) ++ [eL cy 20]) ++ [eI cy 60]) ++ [eI cy 60]) ++ [eL cy 60]) ++ [eI cy 300]) ++ [eI cy 300]) ++ [eI cy 300]) ++ [eI cy 300]) ++ [eZ cy 300])) H := hL
  refine rc_put (k := 0) (ci := 9) (fs := (((((((((((((((zer 9).set 1 (.ref (n + 1))).set 3 (.ref (n + 2))).set 4 (.ref (n + 3))).set 5 (.ref (n + 4))).set 15 (.int (-1))).set 16 (.ref (n + 5))).set 18 (.ref (n + 6))).set 19 (.ref (n + 7))).set 21 (.ref (n + 8))).set 22 (.ref (n + 9))).set 24 (.ref (n + 10))).set 25 (.ref (n + 11))).set 26 (.ref (n + 12))).set 27 (.ref (n + 13))).set 29 (.ref (n + 14))) (v := .ref (n + 15)) hC hL hS hin2 rfl fX9_57 rfl rfl rfl (Nat.le_of_ble_eq_true rfl) rfl dX9_init_135 (fun H locs hL hS => ?_)
  have hL : Lay D n (.inr (9, ((((((((((((((((zer 9).set 1 (.ref (n + 1))).set 3 (.ref (n + 2))).set 4 (.ref (n + 3))).set 5 (.ref (n + 4))).set 15 (.int (-1))).set 16 (.ref (n + 5))).set 18 (.ref (n + 6))).set 19 (.ref (n + 7))).set 21 (.ref (n + 8))).set 22 (.ref (n + 9))).set 24 (.ref (n + 10))).set 25 (.ref (n + 11))).set 26 (.ref (n + 12))).set 27 (.ref (n + 13))).set 29 (.ref (n + 14))).set 31 (.ref (n + 15))) :: ((((((((((((((([] ++ [eI cy 900]) ++ [eI cy 415]) ++ [eI cy 415]) ++ [eI cy 10]) ++ [eI cy 60]) ++ [eI cy 1200]) ++ [eL cy 20]) ++ [eI cy 60]) ++ [eI cy 60]) ++ [eL cy 60]) ++ [eI cy 300]) ++ [eI cy 300]) ++ [eI cy 300]) ++ [eI cy 300]) ++ [eZ cy 300])) H := hL
  refine lv_aload_n hC.1.1 hC.1.2.1 dX9_init_138 rfl (lv_at hl 0 rfl) ?_
  refine lv_sipush (v := 300) hC.1.1 hC.1.2.1 dX9_init_139 (by decide +kernel) ?_
  refine rc_bool (N := 300) (n := (n + 16)) hC hL hS (by decide +kernel) (by decide +kernel) (by decide +kernel) rfl (Nat.le_of_ble_eq_true rfl) (Nat.le_of_ble_eq_true rfl) dX9_init_142 (fun H hL hS => ?_)
  have hL : Lay D n (.inr (9, ((((((((((((((((zer 9).set 1 (.ref (n + 1))).set 3 (.ref (n + 2))).set 4 (.ref (n + 3))).set 5 (.ref (n + 4))).set 15 (.int (-1))).set 16 (.ref (n + 5))).set 18 (.ref (n + 6))).set 19 (.ref (n + 7))).set 21 (.ref (n + 8))).set 22 (.ref (n + 9))).set 24 (.ref (n + 10))).set 25 (.ref (n + 11))).set 26 (.ref (n + 12))).set 27 (.ref (n + 13))).set 29 (.ref (n + 14))).set 31 (.ref (n + 15))) :: (((((((((((((((([] ++ [eI cy 900]) ++ [eI cy 415]) ++ [eI cy 415]) ++ [eI cy 10]) ++ [eI cy 60]) ++ [eI cy 1200]) ++ [eL cy 20]) ++ [eI cy 60]) ++ [eI cy 60]) ++ [eL cy 60]) ++ [eI cy 300]) ++ [eI cy 300]) ++ [eI cy 300]) ++ [eI cy 300]) ++ [eZ cy 300]) ++ [eZ cy 300])) H := hL
  refine rc_put (k := 0) (ci := 9) (fs := ((((((((((((((((zer 9).set 1 (.ref (n + 1))).set 3 (.ref (n + 2))).set 4 (.ref (n + 3))).set 5 (.ref (n + 4))).set 15 (.int (-1))).set 16 (.ref (n + 5))).set 18 (.ref (n + 6))).set 19 (.ref (n + 7))).set 21 (.ref (n + 8))).set 22 (.ref (n + 9))).set 24 (.ref (n + 10))).set 25 (.ref (n + 11))).set 26 (.ref (n + 12))).set 27 (.ref (n + 13))).set 29 (.ref (n + 14))).set 31 (.ref (n + 15))) (v := .ref (n + 16)) hC hL hS hin2 rfl fX9_61 rfl rfl rfl (Nat.le_of_ble_eq_true rfl) rfl dX9_init_144 (fun H locs hL hS => ?_)
  have hL : Lay D n (.inr (9, (((((((((((((((((zer 9).set 1 (.ref (n + 1))).set 3 (.ref (n + 2))).set 4 (.ref (n + 3))).set 5 (.ref (n + 4))).set 15 (.int (-1))).set 16 (.ref (n + 5))).set 18 (.ref (n + 6))).set 19 (.ref (n + 7))).set 21 (.ref (n + 8))).set 22 (.ref (n + 9))).set 24 (.ref (n + 10))).set 25 (.ref (n + 11))).set 26 (.ref (n + 12))).set 27 (.ref (n + 13))).set 29 (.ref (n + 14))).set 31 (.ref (n + 15))).set 32 (.ref (n + 16))) :: (((((((((((((((([] ++ [eI cy 900]) ++ [eI cy 415]) ++ [eI cy 415]) ++ [eI cy 10]) ++ [eI cy 60]) ++ [eI cy 1200]) ++ [eL cy 20]) ++ [eI cy 60]) ++ [eI cy 60]) ++ [eL cy 60]) ++ [eI cy 300]) ++ [eI cy 300]) ++ [eI cy 300]) ++ [eI cy 300]) ++ [eZ cy 300]) ++ [eZ cy 300])) H := hL
  refine lv_aload_n hC.1.1 hC.1.2.1 dX9_init_147 rfl (lv_at hl 0 rfl) ?_
  refine lv_iconst (v := 5) hC.1.1 hC.1.2.1 dX9_init_148 (by decide +kernel) ?_
  refine rc_int (N := 5) (n := (n + 17)) hC hL hS (by decide +kernel) (by decide +kernel) (by decide +kernel) rfl (Nat.le_of_ble_eq_true rfl) (Nat.le_of_ble_eq_true rfl) dX9_init_149 (fun H hL hS => ?_)
  have hL : Lay D n (.inr (9, (((((((((((((((((zer 9).set 1 (.ref (n + 1))).set 3 (.ref (n + 2))).set 4 (.ref (n + 3))).set 5 (.ref (n + 4))).set 15 (.int (-1))).set 16 (.ref (n + 5))).set 18 (.ref (n + 6))).set 19 (.ref (n + 7))).set 21 (.ref (n + 8))).set 22 (.ref (n + 9))).set 24 (.ref (n + 10))).set 25 (.ref (n + 11))).set 26 (.ref (n + 12))).set 27 (.ref (n + 13))).set 29 (.ref (n + 14))).set 31 (.ref (n + 15))).set 32 (.ref (n + 16))) :: ((((((((((((((((([] ++ [eI cy 900]) ++ [eI cy 415]) ++ [eI cy 415]) ++ [eI cy 10]) ++ [eI cy 60]) ++ [eI cy 1200]) ++ [eL cy 20]) ++ [eI cy 60]) ++ [eI cy 60]) ++ [eL cy 60]) ++ [eI cy 300]) ++ [eI cy 300]) ++ [eI cy 300]) ++ [eI cy 300]) ++ [eZ cy 300]) ++ [eZ cy 300]) ++ [eI cy 5])) H := hL
  refine rc_put (k := 0) (ci := 9) (fs := (((((((((((((((((zer 9).set 1 (.ref (n + 1))).set 3 (.ref (n + 2))).set 4 (.ref (n + 3))).set 5 (.ref (n + 4))).set 15 (.int (-1))).set 16 (.ref (n + 5))).set 18 (.ref (n + 6))).set 19 (.ref (n + 7))).set 21 (.ref (n + 8))).set 22 (.ref (n + 9))).set 24 (.ref (n + 10))).set 25 (.ref (n + 11))).set 26 (.ref (n + 12))).set 27 (.ref (n + 13))).set 29 (.ref (n + 14))).set 31 (.ref (n + 15))).set 32 (.ref (n + 16))) (v := .ref (n + 17)) hC hL hS hin2 rfl fX9_64 rfl rfl rfl (Nat.le_of_ble_eq_true rfl) rfl dX9_init_151 (fun H locs hL hS => ?_)
  have hL : Lay D n (.inr (9, ((((((((((((((((((zer 9).set 1 (.ref (n + 1))).set 3 (.ref (n + 2))).set 4 (.ref (n + 3))).set 5 (.ref (n + 4))).set 15 (.int (-1))).set 16 (.ref (n + 5))).set 18 (.ref (n + 6))).set 19 (.ref (n + 7))).set 21 (.ref (n + 8))).set 22 (.ref (n + 9))).set 24 (.ref (n + 10))).set 25 (.ref (n + 11))).set 26 (.ref (n + 12))).set 27 (.ref (n + 13))).set 29 (.ref (n + 14))).set 31 (.ref (n + 15))).set 32 (.ref (n + 16))).set 33 (.ref (n + 17))) :: ((((((((((((((((([] ++ [eI cy 900]) ++ [eI cy 415]) ++ [eI cy 415]) ++ [eI cy 10]) ++ [eI cy 60]) ++ [eI cy 1200]) ++ [eL cy 20]) ++ [eI cy 60]) ++ [eI cy 60]) ++ [eL cy 60]) ++ [eI cy 300]) ++ [eI cy 300]) ++ [eI cy 300]) ++ [eI cy 300]) ++ [eZ cy 300]) ++ [eZ cy 300]) ++ [eI cy 5])) H := hL
  refine lv_aload_n hC.1.1 hC.1.2.1 dX9_init_154 rfl (lv_at hl 0 rfl) ?_
  refine lv_iconst (v := 5) hC.1.1 hC.1.2.1 dX9_init_155 (by decide +kernel) ?_
  refine rc_int (N := 5) (n := (n + 18)) hC hL hS (by decide +kernel) (by decide +kernel) (by decide +kernel) rfl (Nat.le_of_ble_eq_true rfl) (Nat.le_of_ble_eq_true rfl) dX9_init_156 (fun H hL hS => ?_)
  have hL : Lay D n (.inr (9, ((((((((((((((((((zer 9).set 1 (.ref (n + 1))).set 3 (.ref (n + 2))).set 4 (.ref (n + 3))).set 5 (.ref (n + 4))).set 15 (.int (-1))).set 16 (.ref (n + 5))).set 18 (.ref (n + 6))).set 19 (.ref (n + 7))).set 21 (.ref (n + 8))).set 22 (.ref (n + 9))).set 24 (.ref (n + 10))).set 25 (.ref (n + 11))).set 26 (.ref (n + 12))).set 27 (.ref (n + 13))).set 29 (.ref (n + 14))).set 31 (.ref (n + 15))).set 32 (.ref (n + 16))).set 33 (.ref (n + 17))) :: (((((((((((((((((([] ++ [eI cy 900]) ++ [eI cy 415]) ++ [eI cy 415]) ++ [eI cy 10]) ++ [eI cy 60]) ++ [eI cy 1200]) ++ [eL cy 20]) ++ [eI cy 60]) ++ [eI cy 60]) ++ [eL cy 60]) ++ [eI cy 300]) ++ [eI cy 300]) ++ [eI cy 300]) ++ [eI cy 300]) ++ [eZ cy 300]) ++ [eZ cy 300]) ++ [eI cy 5]) ++ [eI cy 5])) H := hL
  refine rc_put (k := 0) (ci := 9) (fs := ((((((((((((((((((zer 9).set 1 (.ref (n + 1))).set 3 (.ref (n + 2))).set 4 (.ref (n + 3))).set 5 (.ref (n + 4))).set 15 (.int (-1))).set 16 (.ref (n + 5))).set 18 (.ref (n + 6))).set 19 (.ref (n + 7))).set 21 (.ref (n + 8))).set 22 (.ref (n + 9))).set 24 (.ref (n + 10))).set 25 (.ref (n + 11))).set 26 (.ref (n + 12))).set 27 (.ref (n + 13))).set 29 (.ref (n + 14))).set 31 (.ref (n + 15))).set 32 (.ref (n + 16))).set 33 (.ref (n + 17))) (v := .ref (n + 18)) hC hL hS hin2 rfl fX9_67 rfl rfl rfl (Nat.le_of_ble_eq_true rfl) rfl dX9_init_158 (fun H locs hL hS => ?_)
  have hL : Lay D n (.inr (9, (((((((((((((((((((zer 9).set 1 (.ref (n + 1))).set 3 (.ref (n + 2))).set 4 (.ref (n + 3))).set 5 (.ref (n + 4))).set 15 (.int (-1))).set 16 (.ref (n + 5))).set 18 (.ref (n + 6))).set 19 (.ref (n + 7))).set 21 (.ref (n + 8))).set 22 (.ref (n + 9))).set 24 (.ref (n + 10))).set 25 (.ref (n + 11))).set 26 (.ref (n + 12))).set 27 (.ref (n + 13))).set 29 (.ref (n + 14))).set 31 (.ref (n + 15))).set 32 (.ref (n + 16))).set 33 (.ref (n + 17))).set 34 (.ref (n + 18))) :: (((((((((((((((((([] ++ [eI cy 900]) ++ [eI cy 415]) ++ [eI cy 415]) ++ [eI cy 10]) ++ [eI cy 60]) ++ [eI cy 1200]) ++ [eL cy 20]) ++ [eI cy 60]) ++ [eI cy 60]) ++ [eL cy 60]) ++ [eI cy 300]) ++ [eI cy 300]) ++ [eI cy 300]) ++ [eI cy 300]) ++ [eZ cy 300]) ++ [eZ cy 300]) ++ [eI cy 5]) ++ [eI cy 5])) H := hL
  refine lv_aload_n hC.1.1 hC.1.2.1 dX9_init_161 rfl (lv_at hl 0 rfl) ?_
  refine lv_bipush (v := 10) hC.1.1 hC.1.2.1 dX9_init_162 (by decide +kernel) ?_
  refine rc_int (N := 10) (n := (n + 19)) hC hL hS (by decide +kernel) (by decide +kernel) (by decide +kernel) rfl (Nat.le_of_ble_eq_true rfl) (Nat.le_of_ble_eq_true rfl) dX9_init_164 (fun H hL hS => ?_)
  have hL : Lay D n (.inr (9, (((((((((((((((((((zer 9).set 1 (.ref (n + 1))).set 3 (.ref (n + 2))).set 4 (.ref (n + 3))).set 5 (.ref (n + 4))).set 15 (.int (-1))).set 16 (.ref (n + 5))).set 18 (.ref (n + 6))).set 19 (.ref (n + 7))).set 21 (.ref (n + 8))).set 22 (.ref (n + 9))).set 24 (.ref (n + 10))).set 25 (.ref (n + 11))).set 26 (.ref (n + 12))).set 27 (.ref (n + 13))).set 29 (.ref (n + 14))).set 31 (.ref (n + 15))).set 32 (.ref (n + 16))).set 33 (.ref (n + 17))).set 34 (.ref (n + 18))) :: ((((((((((((((((((([] ++ [eI cy 900]) ++ [eI cy 415]) ++ [eI cy 415]) ++ [eI cy 10]) ++ [eI cy 60]) ++ [eI cy 1200]) ++ [eL cy 20]) ++ [eI cy 60]) ++ [eI cy 60]) ++ [eL cy 60]) ++ [eI cy 300]) ++ [eI cy 300]) ++ [eI cy 300]) ++ [eI cy 300]) ++ [eZ cy 300]) ++ [eZ cy 300]) ++ [eI cy 5]) ++ [eI cy 5]) ++ [eI cy 10])) H := hL
  refine rc_put (k := 0) (ci := 9) (fs := (((((((((((((((((((zer 9).set 1 (.ref (n + 1))).set 3 (.ref (n + 2))).set 4 (.ref (n + 3))).set 5 (.ref (n + 4))).set 15 (.int (-1))).set 16 (.ref (n + 5))).set 18 (.ref (n + 6))).set 19 (.ref (n + 7))).set 21 (.ref (n + 8))).set 22 (.ref (n + 9))).set 24 (.ref (n + 10))).set 25 (.ref (n + 11))).set 26 (.ref (n + 12))).set 27 (.ref (n + 13))).set 29 (.ref (n + 14))).set 31 (.ref (n + 15))).set 32 (.ref (n + 16))).set 33 (.ref (n + 17))).set 34 (.ref (n + 18))) (v := .ref (n + 19)) hC hL hS hin2 rfl fX9_70 rfl rfl rfl (Nat.le_of_ble_eq_true rfl) rfl dX9_init_166 (fun H locs hL hS => ?_)
  have hL : Lay D n (.inr (9, ((((((((((((((((((((zer 9).set 1 (.ref (n + 1))).set 3 (.ref (n + 2))).set 4 (.ref (n + 3))).set 5 (.ref (n + 4))).set 15 (.int (-1))).set 16 (.ref (n + 5))).set 18 (.ref (n + 6))).set 19 (.ref (n + 7))).set 21 (.ref (n + 8))).set 22 (.ref (n + 9))).set 24 (.ref (n + 10))).set 25 (.ref (n + 11))).set 26 (.ref (n + 12))).set 27 (.ref (n + 13))).set 29 (.ref (n + 14))).set 31 (.ref (n + 15))).set 32 (.ref (n + 16))).set 33 (.ref (n + 17))).set 34 (.ref (n + 18))).set 35 (.ref (n + 19))) :: ((((((((((((((((((([] ++ [eI cy 900]) ++ [eI cy 415]) ++ [eI cy 415]) ++ [eI cy 10]) ++ [eI cy 60]) ++ [eI cy 1200]) ++ [eL cy 20]) ++ [eI cy 60]) ++ [eI cy 60]) ++ [eL cy 60]) ++ [eI cy 300]) ++ [eI cy 300]) ++ [eI cy 300]) ++ [eI cy 300]) ++ [eZ cy 300]) ++ [eZ cy 300]) ++ [eI cy 5]) ++ [eI cy 5]) ++ [eI cy 10])) H := hL
  refine lv_aload_n hC.1.1 hC.1.2.1 dX9_init_169 rfl (lv_at hl 0 rfl) ?_
  refine lv_bipush (v := 6) hC.1.1 hC.1.2.1 dX9_init_170 (by decide +kernel) ?_
  refine rc_int (N := 6) (n := (n + 20)) hC hL hS (by decide +kernel) (by decide +kernel) (by decide +kernel) rfl (Nat.le_of_ble_eq_true rfl) (Nat.le_of_ble_eq_true rfl) dX9_init_172 (fun H hL hS => ?_)
  have hL : Lay D n (.inr (9, ((((((((((((((((((((zer 9).set 1 (.ref (n + 1))).set 3 (.ref (n + 2))).set 4 (.ref (n + 3))).set 5 (.ref (n + 4))).set 15 (.int (-1))).set 16 (.ref (n + 5))).set 18 (.ref (n + 6))).set 19 (.ref (n + 7))).set 21 (.ref (n + 8))).set 22 (.ref (n + 9))).set 24 (.ref (n + 10))).set 25 (.ref (n + 11))).set 26 (.ref (n + 12))).set 27 (.ref (n + 13))).set 29 (.ref (n + 14))).set 31 (.ref (n + 15))).set 32 (.ref (n + 16))).set 33 (.ref (n + 17))).set 34 (.ref (n + 18))).set 35 (.ref (n + 19))) :: (((((((((((((((((((([] ++ [eI cy 900]) ++ [eI cy 415]) ++ [eI cy 415]) ++ [eI cy 10]) ++ [eI cy 60]) ++ [eI cy 1200]) ++ [eL cy 20]) ++ [eI cy 60]) ++ [eI cy 60]) ++ [eL cy 60]) ++ [eI cy 300]) ++ [eI cy 300]) ++ [eI cy 300]) ++ [eI cy 300]) ++ [eZ cy 300]) ++ [eZ cy 300]) ++ [eI cy 5]) ++ [eI cy 5]) ++ [eI cy 10]) ++ [eI cy 6])) H := hL
  refine rc_put (k := 0) (ci := 9) (fs := ((((((((((((((((((((zer 9).set 1 (.ref (n + 1))).set 3 (.ref (n + 2))).set 4 (.ref (n + 3))).set 5 (.ref (n + 4))).set 15 (.int (-1))).set 16 (.ref (n + 5))).set 18 (.ref (n + 6))).set 19 (.ref (n + 7))).set 21 (.ref (n + 8))).set 22 (.ref (n + 9))).set 24 (.ref (n + 10))).set 25 (.ref (n + 11))).set 26 (.ref (n + 12))).set 27 (.ref (n + 13))).set 29 (.ref (n + 14))).set 31 (.ref (n + 15))).set 32 (.ref (n + 16))).set 33 (.ref (n + 17))).set 34 (.ref (n + 18))).set 35 (.ref (n + 19))) (v := .ref (n + 20)) hC hL hS hin2 rfl fX9_73 rfl rfl rfl (Nat.le_of_ble_eq_true rfl) rfl dX9_init_174 (fun H locs hL hS => ?_)
  have hL : Lay D n (.inr (9, (((((((((((((((((((((zer 9).set 1 (.ref (n + 1))).set 3 (.ref (n + 2))).set 4 (.ref (n + 3))).set 5 (.ref (n + 4))).set 15 (.int (-1))).set 16 (.ref (n + 5))).set 18 (.ref (n + 6))).set 19 (.ref (n + 7))).set 21 (.ref (n + 8))).set 22 (.ref (n + 9))).set 24 (.ref (n + 10))).set 25 (.ref (n + 11))).set 26 (.ref (n + 12))).set 27 (.ref (n + 13))).set 29 (.ref (n + 14))).set 31 (.ref (n + 15))).set 32 (.ref (n + 16))).set 33 (.ref (n + 17))).set 34 (.ref (n + 18))).set 35 (.ref (n + 19))).set 36 (.ref (n + 20))) :: (((((((((((((((((((([] ++ [eI cy 900]) ++ [eI cy 415]) ++ [eI cy 415]) ++ [eI cy 10]) ++ [eI cy 60]) ++ [eI cy 1200]) ++ [eL cy 20]) ++ [eI cy 60]) ++ [eI cy 60]) ++ [eL cy 60]) ++ [eI cy 300]) ++ [eI cy 300]) ++ [eI cy 300]) ++ [eI cy 300]) ++ [eZ cy 300]) ++ [eZ cy 300]) ++ [eI cy 5]) ++ [eI cy 5]) ++ [eI cy 10]) ++ [eI cy 6])) H := hL
  refine lv_aload_n hC.1.1 hC.1.2.1 dX9_init_177 rfl (lv_at hl 0 rfl) ?_
  refine lv_bipush (v := 6) hC.1.1 hC.1.2.1 dX9_init_178 (by decide +kernel) ?_
  refine rc_int (N := 6) (n := (n + 21)) hC hL hS (by decide +kernel) (by decide +kernel) (by decide +kernel) rfl (Nat.le_of_ble_eq_true rfl) (Nat.le_of_ble_eq_true rfl) dX9_init_180 (fun H hL hS => ?_)
  have hL : Lay D n (.inr (9, (((((((((((((((((((((zer 9).set 1 (.ref (n + 1))).set 3 (.ref (n + 2))).set 4 (.ref (n + 3))).set 5 (.ref (n + 4))).set 15 (.int (-1))).set 16 (.ref (n + 5))).set 18 (.ref (n + 6))).set 19 (.ref (n + 7))).set 21 (.ref (n + 8))).set 22 (.ref (n + 9))).set 24 (.ref (n + 10))).set 25 (.ref (n + 11))).set 26 (.ref (n + 12))).set 27 (.ref (n + 13))).set 29 (.ref (n + 14))).set 31 (.ref (n + 15))).set 32 (.ref (n + 16))).set 33 (.ref (n + 17))).set 34 (.ref (n + 18))).set 35 (.ref (n + 19))).set 36 (.ref (n + 20))) :: ((((((((((((((((((((([] ++ [eI cy 900]) ++ [eI cy 415]) ++ [eI cy 415]) ++ [eI cy 10]) ++ [eI cy 60]) ++ [eI cy 1200]) ++ [eL cy 20]) ++ [eI cy 60]) ++ [eI cy 60]) ++ [eL cy 60]) ++ [eI cy 300]) ++ [eI cy 300]) ++ [eI cy 300]) ++ [eI cy 300]) ++ [eZ cy 300]) ++ [eZ cy 300]) ++ [eI cy 5]) ++ [eI cy 5]) ++ [eI cy 10]) ++ [eI cy 6]) ++ [eI cy 6])) H := hL
  refine rc_put (k := 0) (ci := 9) (fs := (((((((((((((((((((((zer 9).set 1 (.ref (n + 1))).set 3 (.ref (n + 2))).set 4 (.ref (n + 3))).set 5 (.ref (n + 4))).set 15 (.int (-1))).set 16 (.ref (n + 5))).set 18 (.ref (n + 6))).set 19 (.ref (n + 7))).set 21 (.ref (n + 8))).set 22 (.ref (n + 9))).set 24 (.ref (n + 10))).set 25 (.ref (n + 11))).set 26 (.ref (n + 12))).set 27 (.ref (n + 13))).set 29 (.ref (n + 14))).set 31 (.ref (n + 15))).set 32 (.ref (n + 16))).set 33 (.ref (n + 17))).set 34 (.ref (n + 18))).set 35 (.ref (n + 19))).set 36 (.ref (n + 20))) (v := .ref (n + 21)) hC hL hS hin2 rfl fX9_76 rfl rfl rfl (Nat.le_of_ble_eq_true rfl) rfl dX9_init_182 (fun H locs hL hS => ?_)
  have hL : Lay D n (.inr (9, ((((((((((((((((((((((zer 9).set 1 (.ref (n + 1))).set 3 (.ref (n + 2))).set 4 (.ref (n + 3))).set 5 (.ref (n + 4))).set 15 (.int (-1))).set 16 (.ref (n + 5))).set 18 (.ref (n + 6))).set 19 (.ref (n + 7))).set 21 (.ref (n + 8))).set 22 (.ref (n + 9))).set 24 (.ref (n + 10))).set 25 (.ref (n + 11))).set 26 (.ref (n + 12))).set 27 (.ref (n + 13))).set 29 (.ref (n + 14))).set 31 (.ref (n + 15))).set 32 (.ref (n + 16))).set 33 (.ref (n + 17))).set 34 (.ref (n + 18))).set 35 (.ref (n + 19))).set 36 (.ref (n + 20))).set 37 (.ref (n + 21))) :: ((((((((((((((((((((([] ++ [eI cy 900]) ++ [eI cy 415]) ++ [eI cy 415]) ++ [eI cy 10]) ++ [eI cy 60]) ++ [eI cy 1200]) ++ [eL cy 20]) ++ [eI cy 60]) ++ [eI cy 60]) ++ [eL cy 60]) ++ [eI cy 300]) ++ [eI cy 300]) ++ [eI cy 300]) ++ [eI cy 300]) ++ [eZ cy 300]) ++ [eZ cy 300]) ++ [eI cy 5]) ++ [eI cy 5]) ++ [eI cy 10]) ++ [eI cy 6]) ++ [eI cy 6])) H := hL
  have hL : Lay D n (eX9 cy n) H := hL
  refine W.wd (k := 21) (n := 5032) (Nat.le_of_ble_eq_true rfl) (Nat.le_of_ble_eq_true rfl) ?_
  refine lv_aload_n hC.1.1 hC.1.2.1 dX9_init_185 rfl (lv_at hl 0 rfl) ?_
  have hP : va_P D vwCl (zwld (adI h a1 a2 a3) cy sg0) H := by
    refine asm_P (fun k x hx => ?_) (fun k x hx => ?_)
    · have hk := (List.getElem?_eq_some_iff.mp hx).1
      rw [e8_len] at hk
      have g := h8 k x hx
      exact g.kept (hS.2.1 (h + k) g.lt (by show ¬ n ≤ h + k; omega))
    · rw [hn]
      rw [hn] at hx
      exact hL.2 k x hx
  have hz : H.size = h + 175 := by
    have q := hL.1
    rw [← hn, e9_len] at q
    omega
  have hS2 : va_S (fun q => h ≤ q) s.heap H locs := hS.wide (fun q z => by omega)
  have e153 : adI h a1 a2 a3 153 = n := (ad_id (h := h) (a1 := a1) (a2 := a2) (a3 := a3) (k := 0) (by decide)).trans hn
  refine rz_call (ad := adI h a1 a2 a3) (h := h) e153 hC hNW hSK (by omega) (zt_freshText sg0) mvX9_freshText lX9_79 rfl rfl (Nat.le_of_ble_eq_true rfl) (Nat.le_of_ble_eq_true rfl) (Nat.le_refl _) (Nat.le_refl _) hl.1 dX9_init_186 hP asm_Dz hS2 (fun u1 hu1 H1 locs1 hP1 hD1 hS1 hz1 => ?_)
  obtain ⟨-, hF1, hR1⟩ := hu1
  refine lv_aload_n hC.1.1 hC.1.2.1 dX9_init_189 rfl (lv_at hl 0 rfl) ?_
  refine rz_call (ad := adI h a1 a2 a3) (h := h) e153 hC hNW hSK (by omega) (zt_becomes u1 frF hR1 fr_B) mvX9_becomes lX9_82 rfl rfl (Nat.le_of_ble_eq_true rfl) (Nat.le_of_ble_eq_true rfl) (Nat.le_refl _) (Nat.le_refl _) hl.1 dX9_init_190 hP1 hD1 hS1 (fun u2 hu2 H2 locs2 hP2 hD2 hS2 hz2 => ?_)
  obtain ⟨-, hBe⟩ := hu2
  refine W.size (fun hle => ?_)
  exact W.vret hC.1.1 hC.1.2.1 hr (fun t ht hW => ⟨⟨u2, rfl, bgn_of hF1 hBe, by rw [ht]; omega, by rw [ht]; exact hP2⟩, hS2.F ht⟩) hS2.2.2 dX9_init_193 hlocks
