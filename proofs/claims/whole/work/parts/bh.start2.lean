/-! From the law's entry to its loop. -/
set_option maxRecDepth 40000 in
set_option maxHeartbeats 4000000 in
theorem whole_start {p : Program} {e : Env} {s : State} {m : MethodId} {below : List Frame} {meth : Method} {c : Code} (l : Launch) (hflags : l.flags = flags0) {b L : Nat} {xs : Nat → Int32} (hL : L ≤ 3072) (C0 : lw_At p s m meth c b L xs) : W p l e room_1 s m #[Value.ref b] below meth c s.heap [] 0 0 (lw_Z below #[Value.ref b] s) (entryFrame m ([Value.ref b] : List Value).toArray 7) := by
  obtain ⟨hx, hb, hr, hml, hown, hts, hX, hbl, hlocks, hgv⟩ := C0
  obtain ⟨D, cy, a1, a2, a3, hK, hAO, hNW, hNc, hSK, hTX, hNC⟩ := start_of hts hgv
  have hLX : LX p l s m meth c b L xs D (adI s.heap.size a1 a2 a3) cy := ⟨⟨hx, hb, hr, hml, hown, hts⟩, ⟨hX, hbl, hlocks, hL⟩, hK, hNW, hSK, hTX, hNC, hflags⟩
  have hg : ∀ w ∈ Gw, w.before #[Value.ref b] s = true := fun w hw => hts w (List.mem_filter.mp hw).1
  have hC : CtX p s m #[Value.ref b] c code 7 RL lw_tbl D cy s.heap.size := ⟨⟨hx, hb, hml, hown, hts⟩, fun w hw => (List.mem_filter.mp hw).1, hK, hAO, Nat.le_refl _⟩
  have hL0 : Lay D s.heap.size [] s.heap := ⟨rfl, fun k x hx => by cases hx⟩
  have hS : va_S (fun q => s.heap.size ≤ q) s.heap s.heap [] := va_S.rf
  have hl := lv_entry ([.ref b]) (n := 7) (Nat.le_of_ble_eq_true rfl)
  rw [lg_entry_eq]
  generalize (lg_sl ([.ref b]) ++ List.replicate (7 - (lg_sl ([.ref b])).length) Slot.unset).toArray = ls at hl ⊢
  have hl : lv_has ls 7 [(0, .ref b)] := hl
  show W p l e room_1 s m #[Value.ref b] below meth c s.heap [] 0 0 (lw_Z below #[Value.ref b] s) (F0 m 0 ls [])
  generalize hh : s.heap.size = h at hLX hC hL0 hS hSK
  refine rc_new (ci := 8) (n := h) hC hL0 hS (by decide) (inG1 rfl (List.mem_of_getElem? (i := 22) rfl)) (inst_in 8 (by decide)) (inG1 rfl (List.mem_of_getElem? (i := 1) rfl)) rfl (Nat.le_of_ble_eq_true rfl) (Nat.le_of_ble_eq_true rfl) dL_law_0 (fun H hL1 hS => ?_)
  refine lv_dup hx hb dL_law_3 rfl ?_
  refine rc_back (es := []) (x := .inr (8, zer 8)) (n := h) hL1 hS rfl (va_runI (As := []) (rest := [.ref h]) (b := h) hC.1 (ctX8 l D cy h) (cwI 0 hts (WSI_good hC.2.1 (inG1 rfl (List.mem_of_getElem? (i := 26) rfl))) rfl rfl rfl (hg _ (inG1 rfl (List.mem_of_getElem? (i := 1) rfl))) (hg _ (inG1 rfl (List.mem_of_getElem? (i := 24) rfl))) (hg _ (inG1 rfl (List.mem_of_getElem? (i := 25) rfl))) rfl ⟨by decide, by decide, by decide +kernel⟩ ⟨Nat.le_of_ble_eq_true rfl, Nat.le_of_ble_eq_true rfl⟩) ⟨Ct8P_blind, fun U hU hW => ⟨rfl, by rw [hU]; exact hL1, va_K.moved hW.alike hK, AOI.moved hW.alike hAO, NWc.warm hW hNc⟩⟩ rfl rfl hl.1 rfl (lv_room (Nat.le_of_ble_eq_true rfl)) dL_law_4 ⟨Nat.le_of_ble_eq_true rfl, Nat.le_of_ble_eq_true rfl⟩) (fun H locs hL2 hS => ?_)
  have hL2 : Lay D h (eX8 cy h) H := hL2
  refine lv_astore_n hx hb dL_law_7 rfl hl (by decide) rfl (fun ls hl => ?_)
  have hl : lv_has ls 7 [(1, .ref h), (0, .ref b)] := hl
  have hn8 : h + (eX8 cy h).length = h + 153 := by rw [e8_len]
  refine rc_new (ci := 9) (n := h + 153) hC hL2 hS (by decide) (inG5 rfl (List.mem_of_getElem? (i := 113) rfl)) (inst_in 9 (by decide)) (inG1 rfl (List.mem_of_getElem? (i := 10) rfl)) hn8 (Nat.le_of_ble_eq_true rfl) (Nat.le_of_ble_eq_true rfl) dL_law_8 (fun H hL3 hS => ?_)
  refine lv_dup hx hb dL_law_11 rfl ?_
  have hLr : Lay D (h + 153) [.inr (9, zer 9)] H := by
    have q := hL3.right
    rw [e8_len] at q
    exact q
  refine va_callv (va_runI (As := []) (rest := [.ref (h + 153)]) (b := h + 153) hC.1 (ctX9 l D cy h a1 a2 a3) (cwI 0 hts (WSI_good hC.2.1 (inG5 rfl (List.mem_of_getElem? (i := 117) rfl))) rfl rfl rfl (hg _ (inG1 rfl (List.mem_of_getElem? (i := 10) rfl))) (hg _ (inG5 rfl (List.mem_of_getElem? (i := 115) rfl))) (hg _ (inG5 rfl (List.mem_of_getElem? (i := 116) rfl))) rfl ⟨by decide, by decide, by decide +kernel⟩ ⟨Nat.le_of_ble_eq_true rfl, Nat.le_of_ble_eq_true rfl⟩) ⟨Ct9P_blind, fun U hU hW => ⟨rfl, by rw [hU]; exact hLr, by rw [hU]; exact hL3.left, va_K.moved hW.alike hK, AOI.moved hW.alike hAO, NWs.warm hW hNW, hSK.call hW (fun a q0 q1 => by rw [hU]; exact hS.2.1 a q0 (fun z => q1 (Nat.le_trans (Nat.le_of_eq hh) z))) (fun q z => Nat.le_trans (Nat.le_of_eq hh) z)⟩⟩ rfl rfl hl.1 rfl (lv_room (Nat.le_of_ble_eq_true rfl)) dL_law_12 ⟨Nat.le_of_ble_eq_true rfl, Nat.le_of_ble_eq_true rfl⟩) hS (fun q _ z => z) (fun q z => z) (fun u t H1 locs1 ht hvm hw hB hz1 hk1 hS => ?_)
  obtain ⟨hBg, h175⟩ := hw
  obtain ⟨hsz, hP⟩ := hB
  rw [ht] at hsz hP
  refine lv_astore_n hx hb dL_law_15 rfl hl (by decide) rfl (fun ls hl => ?_)
  have hl : lv_has ls 7 [(2, .ref (h + 153)), (1, .ref h), (0, .ref b)] := hl
  refine lv_iconst (v := 1) hx hb dL_law_16 (by decide) ?_
  refine va_newaK (atype := .long) (N := 1) hx hb (hg _ (inG1 rfl (List.mem_of_getElem? (i := 94) rfl))) rfl dL_law_17 rfl (by decide) (by decide) (by decide) (Nat.le_of_ble_eq_true rfl) (Nat.le_of_ble_eq_true rfl) hsz (fun H2 cA e1 z1 o1 hAr hNm => ?_)
  have ec : cA = cy 12 := Option.some.inj (hNm.symm.trans (hK.2 2 _ rfl).2)
  subst ec
  have hP2 : va_P D vwCl (wld (adI h a1 a2 a3) cy u) H2 := by
    refine wld_of (hP.kept (fun k q hq => o1 q.1 (by rw [← hsz]; exact (hP k q hq).lt))) ?_
    rw [cellE_long k175, n175]
    have e9 : (fun j : Nat => u.2.1 175 (j : Int)) = fun _ => 0 := funext fun j => h175 j
    rw [e9]
    exact e1
  have hS2 : va_S (fun q => h ≤ q) s.heap H2 locs1 := hS.more (by omega) (fun q hq => o1 q (by omega))
  refine lv_astore_n hx hb dL_law_19 rfl hl (by decide) rfl (fun ls hl => ?_)
  have hl : lv_has ls 7 [(3, .ref (h + 175)), (2, .ref (h + 153)), (1, .ref h), (0, .ref b)] := hl
  refine lv_iconst (v := Int32.ofInt (6 * ((0 : Nat) : Int))) hx hb dL_law_20 (by decide) ?_
  refine lv_istore hx hb dL_law_21 hl (by decide) rfl (fun ls hl => ?_)
  have hl : lv_has ls 7 [(4, .int (Int32.ofInt (6 * ((0 : Nat) : Int)))), (3, .ref (h + 175)), (2, .ref (h + 153)), (1, .ref h), (0, .ref b)] := hl
  refine W.wd (k := 176) (n := 19386) (Nat.le_of_ble_eq_true rfl) (Nat.le_of_ble_eq_true rfl) ?_
  refine law_loop hLX 513 0 176 19386 u (by omega) (by decide) (Nat.le_of_ble_eq_true rfl) (Nat.le_of_ble_eq_true rfl) hBg.inv H2 locs1 hP2 ?_ ?_ ls (lv_sub hl [4, 3, 2, 1, 0] rfl)
  · have q := asm_Dw (h := h) (a1 := a1) (a2 := a2) (a3 := a3) (cy := cy) (σ := u)
    exact q.weaken (fun _ _ _ z => Nat.le_trans (Nat.le_of_eq hh) z)
  · exact hS2.wide (fun q z => Nat.le_trans (Nat.le_of_eq hh) z)
