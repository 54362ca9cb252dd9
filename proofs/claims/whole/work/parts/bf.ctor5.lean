/-! DayProfilesModel(). -/
theorem W.size {p : Program} {l : Launch} {e : Env} {R : Room} {s : State} {m : MethodId} {args : Array Value} {below : List Frame} {meth : Method} {c : Code} {H : Heap} {locs : List Loc} {cells slots : Nat} {Q : State → Prop} {g : JFrame} (kk : H.size ≤ s.heap.size + cells → W p l e R s m args below meth c H locs cells slots Q g) : W p l e R s m args below meth c H locs cells slots Q g := fun T hT X => kk (by rw [← hT]; exact X.same.2.2.1) T hT X
theorem va_S.wide {A B : Nat → Prop} {H0 H : Heap} {locs : List Loc} (hS : va_S A H0 H locs) (hAB : ∀ q, A q → B q) : va_S B H0 H locs := ⟨hS.1, fun q h1 h2 => hS.2.1 q h1 (fun z => h2 (hAB q z)), fun q hq => hAB _ (hS.2.2 q hq)⟩
theorem fr_B : WlkB frF := fun j h0 h1 => by
  unfold frF
  split
  · split <;> omega
  · omega
theorem bgn_of {u1 u2 : Sto} (h1 : Fr (fun c _ => c = 156) sg0 u1) (h2 : BePost u1 u2 frF) : Bgn u2 ∧ ∀ j : Int, gL u2 175 j = 0 := by
  obtain ⟨hF, h155, h158, h17, h20, h38⟩ := h2
  have eN : ∀ (c : Nat) (j : Int), ¬ pBe c j → c ≠ 156 → gN u2 c j = gN sg0 c j := fun c j q1 q2 => (hF.1 c j q1).trans (h1.1 c j q2)
  have eL_ : ∀ (c : Nat) (j : Int), ¬ pBe c j → c ≠ 156 → gL u2 c j = gL sg0 c j := fun c j q1 q2 => (hF.2.1 c j q1).trans (h1.2.1 c j q2)
  have eR_ : ∀ (c : Nat) (j : Int), gR u2 c j = gR sg0 c j := fun c j => (hF.2.2 c j).trans (h1.2.2 c j)
  have z0 : nrm 0 = 0 := by decide +kernel
  have z1 : nrm (-1) = -1 := by decide +kernel
  have eo : ∀ (c : Nat) (j : Int), c ≠ 2 → c ≠ 153 → gN sg0 c j = 0 := fun c j q1 q2 => by
    show nrm (if c = 2 then _ else if c = 153 then _ else 0) = 0
    rw [if_neg q1, if_neg q2]
    exact z0
  have e153 : ∀ j : Int, gN sg0 153 j = if j = 15 then -1 else 0 := fun j => by
    show nrm (if (153 : Nat) = 2 then (if j = 1 then -1 else 0) else if (153 : Nat) = 153 then (if j = 15 then -1 else 0) else 0) = if j = 15 then -1 else 0
    rw [if_neg (show ¬ (153 : Nat) = 2 by decide), if_pos (show (153 : Nat) = 153 from rfl)]
    split
    · exact z1
    · exact z0
  have e2 : ∀ j : Int, gN sg0 2 j = if j = 1 then -1 else 0 := fun j => by
    show nrm (if (2 : Nat) = 2 then (if j = 1 then -1 else 0) else if (2 : Nat) = 153 then (if j = 15 then -1 else 0) else 0) = if j = 1 then -1 else 0
    rw [if_pos (show (2 : Nat) = 2 from rfl)]
    split
    · exact z1
    · exact z0
  refine ⟨⟨h155, h158, h17, ⟨h20, h38, ?_, ?_, ?_⟩, fun c j hc => ?_, fun c j hc => ?_, ⟨?_, ?_, ?_, ?_⟩, fun j => ⟨?_, ?_, ?_⟩⟩, fun j => eL_ 175 j (by simp [pBe]) (by decide)⟩
  · rw [eN 153 2 (by simp [pBe]) (by decide), e153]; rfl
  · rw [eN 153 14 (by simp [pBe]) (by decide), e153]; rfl
  · rw [eN 153 15 (by simp [pBe]) (by decide), e153]; rfl
  · rw [eN c j (by intro q; rcases q with q | q | q <;> omega) (by omega)]
    by_cases q : c = 2
    · subst q
      rw [e2]
      by_cases q2 : j = 1
      · rw [if_pos q2, if_pos ⟨rfl, q2⟩]
      · rw [if_neg q2, if_neg (fun z => q2 z.2)]
    · rw [eo c j q (by omega), if_neg (fun z => q z.1)]
  · exact eL_ c j (by intro q; rcases q with q | q | q <;> omega) (by omega)
  · exact eR_ 0 12
  · exact eR_ 0 13
  · exact eR_ 3 0
  · exact eR_ 7 0
  · exact (eN 154 j (by simp [pBe]) (by decide)).trans (eo 154 j (by decide) (by decide))
  · exact (eN 161 j (by simp [pBe]) (by decide)).trans (eo 161 j (by decide) (by decide))
  · exact (eN 162 j (by simp [pBe]) (by decide)).trans (eo 162 j (by decide) (by decide))
section CT9
variable {p : Program} {l : Launch} {e : Env} {R : Room} {s : State} {m : MethodId} {args : Array Value} {below : List Frame} {meth : Method} {c : Code} {H : Heap} {locs : List Loc} {cells slots : Nat} {Q : State → Prop}
variable {cc : ByteArray} {nL : Nat} {Ts : List Cond} {pc : Nat} {ls : Array Slot} {D : va_G} {cy : Nat → ClassId} {h n0 : Nat}
theorem rz_call {M' : Mth} {idx : Nat} {σ : Sto} {Q' : Option Av → Sto → Prop} {ad : Nat → Nat} {a9 : Nat} (ha9 : ad 153 = a9) (hC : CtX p s m args c cc nL RX9 Ts D cy n0) (hNW : NWs s) (hSK : SK ad (fun q => h ≤ q) s) (hA : h ≤ s.heap.size) (hM : zMetA M' [ar 153] σ Q') (hV : MV M' 0) (hlk : Cond.methodLink RX9 idx M'.1 ∈ Gw) (hcl : Cn 9 = M'.1.cls) (hret : rkO M'.2.2.2.1 = 0) (h1 : M'.2.2.2.2.1 + 1 ≤ R.frames) (h2 : 8 + (M'.2.2.1 + 11) + M'.2.2.2.2.2 ≤ R.locals) (hc : cells ≤ R.cells) (hs : slots ≤ R.slots) (hls : ls.size = nL) (hd : decode cc pc = .ok (.invokevirtual idx, 3)) (hP : va_P D vwCl (zwld ad cy σ) H) (hD : va_D (fun q => h ≤ q) (zwld ad cy σ)) (hS : va_S (fun q => h ≤ q) s.heap H locs)
    (kk : ∀ u : Sto, Q' none u → ∀ (H1 : Heap) (locs1 : List Loc), va_P D vwCl (zwld ad cy u) H1 → va_D (fun q => h ≤ q) (zwld ad cy u) → va_S (fun q => h ≤ q) s.heap H1 locs1 → H.size ≤ H1.size → W p l e R s m args below meth c H1 locs1 cells slots Q (F0 m (pc + 3) ls [])) : W p l e R s m args below meth c H locs cells slots Q (F0 m pc ls [.ref a9]) := by
  subst ha9
  obtain ⟨⟨hx, hb, hml, hown, hts⟩, hG, hK, hAO, hle⟩ := hC
  obtain ⟨hI, hV1, hV2⟩ := hV
  have hA' : ∀ q : Nat, s.heap.size ≤ q → h ≤ q := fun q z => Nat.le_trans hA z
  have hF := zfree_of hD hS hA'
  have hgood : GoodIn Ts (wsV RX9 idx M'.1.cls M'.1 (WS M')) := fun w hw => by
    have h9 : w ∈ Gw := by
      rcases List.mem_append.mp hw with z | z
      · simp only [List.mem_cons, List.mem_nil_iff, or_false] at z
        rcases z with z | z | z | z <;> rw [z]
        · exact hlk
        · exact hV1
        · exact hV2
        · exact hI.2.1
      · exact WS_in hI w z
    exact ⟨hG w h9, good_of_word (Gw_good h9)⟩
  have hrec := va_recv hK hP (cl_at 9 (by decide)) (zobj_at zk153 (by decide))
  rw [hcl] at hrec
  have hrun := va_runV (R := R) (l := l) (e := e) (below := below) (meth := meth) (H := H) (locs := locs) (cells := cells) (slots := slots) (C := M'.1.cls) (As := []) (rest := []) (b := ad 153) (g := F0 m pc ls [.ref (ad 153)]) ⟨hx, hb, hml, hown, hts⟩ (hM l D ad cy H.size) (cwV 0 hts hgood rfl rfl rfl ⟨rfl, hI.2.2.1, hI.2.2.2.1, hI.2.2.2.2⟩ ⟨h1, h2⟩) ⟨zpre_blind, hrec, fun U hU hW => ⟨rfl, by rw [hU], by rw [hU]; exact hP, va_K.moved hW.alike hK, ⟨hD.1, fun _ _ _ => trivial⟩, NWs.warm hW hNW, hSK.call hW (fun a q0 q1 => by rw [hU]; exact hS.2.1 a q0 q1) hF⟩⟩ rfl rfl hls rfl (lv_room (Nat.le_of_ble_eq_true rfl)) hd ⟨hc, hs⟩
  unfold zQcA at hrun
  rw [hret, if_pos rfl] at hrun
  refine va_callv hrun hS (fun q _ z => hF q z) hF (fun u t H1 locs1 ht hvm hw hB hz1 hk1 hS1 => ?_)
  obtain ⟨hP1, hK1, hD1⟩ := hB
  rw [ht] at hP1
  exact kk u hw H1 locs1 hP1 ⟨hD1.1, fun k q z => hF _ (hD1.2 k q z)⟩ hS1 hz1
end CT9
def Ct9P (D : va_G) (cy : Nat → ClassId) (h a1 a2 a3 : Nat) : Array Value → State → Prop := va_Pc [.ref (h + 153)] (fun U => Lay D (h + 153) [.inr (9, zer 9)] U.heap ∧ (∀ (k : Nat) (x : va_E), (eX8 cy h)[k]? = some x → va_at D vwCl (h + k, x) U.heap) ∧ va_K D vwCl (tysL cy) U ∧ AOI U ∧ NWs U ∧ SK (adI h a1 a2 a3) (fun q => h ≤ q) U)
def Ct9Q (D : va_G) (cy : Nat → ClassId) (h a1 a2 a3 : Nat) : Array Value → State → Outcome → State → Prop := va_Qv (fun u : Sto => Bgn u ∧ ∀ j : Int, gL u 175 j = 0) (fun u t => t.heap.size = h + 175 ∧ va_P D vwCl (zwld (adI h a1 a2 a3) cy u) t.heap) (fun q => h ≤ q)
theorem Ct9P_blind {D : va_G} {cy : Nat → ClassId} {h a1 a2 a3 : Nat} : FrameBlind (Ct9P D cy h a1 a2 a3) := fun a U g mk q => by
  obtain ⟨q0, q1, q2, q3, q4, q5, q6⟩ := q
  exact ⟨q0, q1, q2, va_K.moved (u := U) (U := U.calling g mk a) (Vm.Alike.refl U.vm) q3, AOI.moved (u := U) (U := U.calling g mk a) (Vm.Alike.refl U.vm) q4, NWs.same (s := U) (U := U.calling g mk a) rfl q5, q6.blind g mk a⟩
section CT9E
variable {p : Program} {l : Launch} {e : Env} {s : State} {m : MethodId} {below : List Frame} {meth : Method} {c : Code} {H : Heap} {locs : List Loc}
variable {ls : Array Slot} {D : va_G} {cy : Nat → ClassId} {h n a1 a2 a3 : Nat}
set_option maxRecDepth 40000 in
set_option maxHeartbeats 8000000 in
theorem ct9_end (hn : h + 153 = n) (hC : CtX p s m (List.toArray [.ref n]) c cX9_init 1 RX9 (WSI yX9_init cX9_init 1) D cy n) (hr : meth.sig.returnType = none) (hlocks : meth.locks = false) (h8 : ∀ (k : Nat) (x : va_E), (eX8 cy h)[k]? = some x → va_at D vwCl (h + k, x) s.heap) (hNW : NWs s) (hSK : SK (adI h a1 a2 a3) (fun q => h ≤ q) s) (hsz0 : s.heap.size = n + 1) (hl : lv_has ls 1 [(0, .ref n)]) (hL : Lay D n (eX9 cy n) H) (hS : va_S (fun q => n ≤ q) s.heap H locs) : W p l e (rmI 2 21 5032 80) s m (List.toArray [.ref n]) below meth c H locs 21 5032 (MQ below (Ct9Q D cy h a1 a2 a3) (List.toArray [.ref n]) s 21 5032 (fun q => h ≤ q)) (F0 m 185 ls []) := by
  refine lv_aload_n hC.1.1 hC.1.2.1 dX9_init_185 rfl (lv_at hl 0 rfl) ?_
  have hP : va_P D vwCl (zwld (adI h a1 a2 a3) cy sg0) H := by
    refine asm_P (fun k x hx => ?_) (fun k x hx => ?_)
    · have hk := (List.getElem?_eq_some_iff.mp hx).1
      rw [e8_len] at hk
      have g := h8 k x hx
      exact g.kept (hS.2.1 (h + k) g.lt (by show ¬ n ≤ h + k; omega))
    · rw [hn]
      rw [hn] at hx
      exact hL.2 k x hx
  have hz : H.size = h + 175 := by
    have q := hL.1
    rw [← hn, e9_len] at q
    omega
  have hS2 : va_S (fun q => h ≤ q) s.heap H locs := hS.wide (fun q z => by omega)
  have e153 : adI h a1 a2 a3 153 = n := (ad_id (h := h) (a1 := a1) (a2 := a2) (a3 := a3) (k := 0) (by decide)).trans hn
  refine rz_call (ad := adI h a1 a2 a3) (h := h) e153 hC hNW hSK (by omega) (zt_freshText sg0) mvX9_freshText lX9_79 rfl rfl (Nat.le_of_ble_eq_true rfl) (Nat.le_of_ble_eq_true rfl) (Nat.le_refl _) (Nat.le_refl _) hl.1 dX9_init_186 hP asm_Dz hS2 (fun u1 hu1 H1 locs1 hP1 hD1 hS1 hz1 => ?_)
  obtain ⟨-, hF1, hR1⟩ := hu1
  refine lv_aload_n hC.1.1 hC.1.2.1 dX9_init_189 rfl (lv_at hl 0 rfl) ?_
  refine rz_call (ad := adI h a1 a2 a3) (h := h) e153 hC hNW hSK (by omega) (zt_becomes u1 frF hR1 fr_B) mvX9_becomes lX9_82 rfl rfl (Nat.le_of_ble_eq_true rfl) (Nat.le_of_ble_eq_true rfl) (Nat.le_refl _) (Nat.le_refl _) hl.1 dX9_init_190 hP1 hD1 hS1 (fun u2 hu2 H2 locs2 hP2 hD2 hS2 hz2 => ?_)
  obtain ⟨-, hBe⟩ := hu2
  refine W.size (fun hle => ?_)
  exact W.vret hC.1.1 hC.1.2.1 hr (fun t ht hW => ⟨⟨u2, rfl, bgn_of hF1 hBe, by rw [ht]; omega, by rw [ht]; exact hP2⟩, hS2.F ht⟩) hS2.2.2 dX9_init_193 hlocks
end CT9E
