/-! The law's loop. -/
section LOOP2
variable {p : Program} {l : Launch} {e : Env} {s : State} {m : MethodId} {below : List Frame} {meth : Method} {c : Code} {b L : Nat} {xs : Nat → Int32} {D : va_G} {ad : Nat → Nat} {cy : Nat → ClassId}
theorem W.wd {R : Room} {args : Array Value} {H : Heap} {locs : List Loc} {cells slots : Nat} {Q : State → Prop} {g : JFrame} {k n : Nat} (h1 : cells ≤ k) (h2 : slots ≤ n) (kk : W p l e R s m args below meth c H locs k n Q g) : W p l e R s m args below meth c H locs cells slots Q g := W.widen h1 h2 kk
set_option maxRecDepth 20000 in
theorem law_body {j kc ks : Nat} {σ : Sto} (hC : LX p l s m meth c b L xs D ad cy) (hj : 6 * j + 6 ≤ L) (hkc : kc + 1 ≤ 601024) (hks : ks + 6 ≤ 7293034) (hI : INV σ) (kk : ∀ w, INV w → RunL p l e s m below meth c b D ad cy j (kc + 1) (ks + 6) 2479 [] w) : RunL p l e s m below meth c b D ad cy j kc ks 33 [] σ := by
  intro H locs hP hD hS lsC hl
  have hx := hC.1.1
  have hb := hC.1.2.1
  have kw : ∀ w, INV w → RunL p l e s m below meth c b D ad cy j kc ks 2479 [] w := fun w hw H locs hP hD hS lsC hl => W.wd (k := kc + 1) (n := ks + 6) (by omega) (by omega) (kk w hw H locs hP hD hS lsC hl)
  refine lv_aload_n hx hb dL_law_33 rfl (lv_at hl 0 rfl) ?_
  refine lv_iload hx hb dL_law_34 (lv_at hl 4 rfl) ?_
  have e0 : (6 * (j : Int)) = 6 * (j : Int) + ((0 : Nat) : Int) := by omega
  rw [e0]
  refine l_sc hC (k := 0) (by omega) H locs lsC hS dL_law_36 ?_
  refine lv_bipush (v := Int32.ofInt 63) hx hb dL_law_37 (by decide) ?_
  refine lv_iand hx hb dL_law_39 ?_
  generalize (Int32.ofInt (agI xs j 0) &&& Int32.ofInt 63) = x
  by_cases hr : 0 ≤ x.toInt ∧ x.toInt ≤ 43
  · have hcs : x.toInt = 0 ∨ x.toInt = 1 ∨ x.toInt = 2 ∨ x.toInt = 3 ∨ x.toInt = 4 ∨ x.toInt = 5 ∨ x.toInt = 6 ∨ x.toInt = 7 ∨ x.toInt = 8 ∨ x.toInt = 9 ∨ x.toInt = 10 ∨ x.toInt = 11 ∨ x.toInt = 12 ∨ x.toInt = 13 ∨ x.toInt = 14 ∨ x.toInt = 15 ∨ x.toInt = 16 ∨ x.toInt = 17 ∨ x.toInt = 18 ∨ x.toInt = 19 ∨ x.toInt = 20 ∨ x.toInt = 21 ∨ x.toInt = 22 ∨ x.toInt = 23 ∨ x.toInt = 24 ∨ x.toInt = 25 ∨ x.toInt = 26 ∨ x.toInt = 27 ∨ x.toInt = 28 ∨ x.toInt = 29 ∨ x.toInt = 30 ∨ x.toInt = 31 ∨ x.toInt = 32 ∨ x.toInt = 33 ∨ x.toInt = 34 ∨ x.toInt = 35 ∨ x.toInt = 36 ∨ x.toInt = 37 ∨ x.toInt = 38 ∨ x.toInt = 39 ∨ x.toInt = 40 ∨ x.toInt = 41 ∨ x.toInt = 42 ∨ x.toInt = 43 := by omega
    rcases hcs with hk | hk | hk | hk | hk | hk | hk | hk | hk | hk | hk | hk | hk | hk | hk | hk | hk | hk | hk | hk | hk | hk | hk | hk | hk | hk | hk | hk | hk | hk | hk | hk | hk | hk | hk | hk | hk | hk | hk | hk | hk | hk | hk | hk
    · refine lv_tableIn (tgt := 232) hx hb dL_law_40 (by omega) (by omega) (off := 192) (by rw [hk]; rfl) (by decide) ?_
      exact case_0 hC hj (by omega) (by omega) hI kw H locs hP hD hS lsC hl
    · refine lv_tableIn (tgt := 305) hx hb dL_law_40 (by omega) (by omega) (off := 265) (by rw [hk]; rfl) (by decide) ?_
      exact case_1 hC hj (by omega) (by omega) hI kw H locs hP hD hS lsC hl
    · refine lv_tableIn (tgt := 330) hx hb dL_law_40 (by omega) (by omega) (off := 290) (by rw [hk]; rfl) (by decide) ?_
      exact case_2 hC hj (by omega) (by omega) hI kw H locs hP hD hS lsC hl
    · refine lv_tableIn (tgt := 355) hx hb dL_law_40 (by omega) (by omega) (off := 315) (by rw [hk]; rfl) (by decide) ?_
      exact case_3 hC hj hkc hks hI kk H locs hP hD hS lsC hl
    · refine lv_tableIn (tgt := 423) hx hb dL_law_40 (by omega) (by omega) (off := 383) (by rw [hk]; rfl) (by decide) ?_
      exact case_4 hC hj (by omega) (by omega) hI kw H locs hP hD hS lsC hl
    · refine lv_tableIn (tgt := 460) hx hb dL_law_40 (by omega) (by omega) (off := 420) (by rw [hk]; rfl) (by decide) ?_
      exact case_5 hC hj (by omega) (by omega) hI kw H locs hP hD hS lsC hl
    · refine lv_tableIn (tgt := 485) hx hb dL_law_40 (by omega) (by omega) (off := 445) (by rw [hk]; rfl) (by decide) ?_
      exact case_6 hC hj (by omega) (by omega) hI kw H locs hP hD hS lsC hl
    · refine lv_tableIn (tgt := 534) hx hb dL_law_40 (by omega) (by omega) (off := 494) (by rw [hk]; rfl) (by decide) ?_
      exact case_7 hC hj (by omega) (by omega) hI kw H locs hP hD hS lsC hl
    · refine lv_tableIn (tgt := 611) hx hb dL_law_40 (by omega) (by omega) (off := 571) (by rw [hk]; rfl) (by decide) ?_
      exact case_8 hC hj (by omega) (by omega) hI kw H locs hP hD hS lsC hl
    · refine lv_tableIn (tgt := 624) hx hb dL_law_40 (by omega) (by omega) (off := 584) (by rw [hk]; rfl) (by decide) ?_
      exact case_9 hC hj (by omega) (by omega) hI kw H locs hP hD hS lsC hl
    · refine lv_tableIn (tgt := 661) hx hb dL_law_40 (by omega) (by omega) (off := 621) (by rw [hk]; rfl) (by decide) ?_
      exact case_10 hC hj (by omega) (by omega) hI kw H locs hP hD hS lsC hl
    · refine lv_tableIn (tgt := 722) hx hb dL_law_40 (by omega) (by omega) (off := 682) (by rw [hk]; rfl) (by decide) ?_
      exact case_11 hC hj (by omega) (by omega) hI kw H locs hP hD hS lsC hl
    · refine lv_tableIn (tgt := 795) hx hb dL_law_40 (by omega) (by omega) (off := 755) (by rw [hk]; rfl) (by decide) ?_
      exact case_12 hC hj (by omega) (by omega) hI kw H locs hP hD hS lsC hl
    · refine lv_tableIn (tgt := 856) hx hb dL_law_40 (by omega) (by omega) (off := 816) (by rw [hk]; rfl) (by decide) ?_
      exact case_13 hC hj (by omega) (by omega) hI kw H locs hP hD hS lsC hl
    · refine lv_tableIn (tgt := 905) hx hb dL_law_40 (by omega) (by omega) (off := 865) (by rw [hk]; rfl) (by decide) ?_
      exact case_14 hC hj (by omega) (by omega) hI kw H locs hP hD hS lsC hl
    · refine lv_tableIn (tgt := 954) hx hb dL_law_40 (by omega) (by omega) (off := 914) (by rw [hk]; rfl) (by decide) ?_
      exact case_15 hC hj (by omega) (by omega) hI kw H locs hP hD hS lsC hl
    · refine lv_tableIn (tgt := 1015) hx hb dL_law_40 (by omega) (by omega) (off := 975) (by rw [hk]; rfl) (by decide) ?_
      exact case_16 hC hj (by omega) (by omega) hI kw H locs hP hD hS lsC hl
    · refine lv_tableIn (tgt := 1076) hx hb dL_law_40 (by omega) (by omega) (off := 1036) (by rw [hk]; rfl) (by decide) ?_
      exact case_17 hC hj (by omega) (by omega) hI kw H locs hP hD hS lsC hl
    · refine lv_tableIn (tgt := 1137) hx hb dL_law_40 (by omega) (by omega) (off := 1097) (by rw [hk]; rfl) (by decide) ?_
      exact case_18 hC hj (by omega) (by omega) hI kw H locs hP hD hS lsC hl
    · refine lv_tableIn (tgt := 1198) hx hb dL_law_40 (by omega) (by omega) (off := 1158) (by rw [hk]; rfl) (by decide) ?_
      exact case_19 hC hj (by omega) (by omega) hI kw H locs hP hD hS lsC hl
    · refine lv_tableIn (tgt := 1271) hx hb dL_law_40 (by omega) (by omega) (off := 1231) (by rw [hk]; rfl) (by decide) ?_
      exact case_20 hC hj (by omega) (by omega) hI kw H locs hP hD hS lsC hl
    · refine lv_tableIn (tgt := 1308) hx hb dL_law_40 (by omega) (by omega) (off := 1268) (by rw [hk]; rfl) (by decide) ?_
      exact case_21 hC hj (by omega) (by omega) hI kw H locs hP hD hS lsC hl
    · refine lv_tableIn (tgt := 1357) hx hb dL_law_40 (by omega) (by omega) (off := 1317) (by rw [hk]; rfl) (by decide) ?_
      exact case_22 hC hj (by omega) (by omega) hI kw H locs hP hD hS lsC hl
    · refine lv_tableIn (tgt := 1430) hx hb dL_law_40 (by omega) (by omega) (off := 1390) (by rw [hk]; rfl) (by decide) ?_
      exact case_23 hC hj (by omega) (by omega) hI kw H locs hP hD hS lsC hl
    · refine lv_tableIn (tgt := 1491) hx hb dL_law_40 (by omega) (by omega) (off := 1451) (by rw [hk]; rfl) (by decide) ?_
      exact case_24 hC hj (by omega) (by omega) hI kw H locs hP hD hS lsC hl
    · refine lv_tableIn (tgt := 1516) hx hb dL_law_40 (by omega) (by omega) (off := 1476) (by rw [hk]; rfl) (by decide) ?_
      exact case_25 hC hj (by omega) (by omega) hI kw H locs hP hD hS lsC hl
    · refine lv_tableIn (tgt := 1553) hx hb dL_law_40 (by omega) (by omega) (off := 1513) (by rw [hk]; rfl) (by decide) ?_
      exact case_26 hC hj (by omega) (by omega) hI kw H locs hP hD hS lsC hl
    · refine lv_tableIn (tgt := 1614) hx hb dL_law_40 (by omega) (by omega) (off := 1574) (by rw [hk]; rfl) (by decide) ?_
      exact case_27 hC hj (by omega) (by omega) hI kw H locs hP hD hS lsC hl
    · refine lv_tableIn (tgt := 1675) hx hb dL_law_40 (by omega) (by omega) (off := 1635) (by rw [hk]; rfl) (by decide) ?_
      exact case_28 hC hj (by omega) (by omega) hI kw H locs hP hD hS lsC hl
    · refine lv_tableIn (tgt := 1736) hx hb dL_law_40 (by omega) (by omega) (off := 1696) (by rw [hk]; rfl) (by decide) ?_
      exact case_29 hC hj (by omega) (by omega) hI kw H locs hP hD hS lsC hl
    · refine lv_tableIn (tgt := 1813) hx hb dL_law_40 (by omega) (by omega) (off := 1773) (by rw [hk]; rfl) (by decide) ?_
      exact case_30 hC hj (by omega) (by omega) hI kw H locs hP hD hS lsC hl
    · refine lv_tableIn (tgt := 1850) hx hb dL_law_40 (by omega) (by omega) (off := 1810) (by rw [hk]; rfl) (by decide) ?_
      exact case_31 hC hj (by omega) (by omega) hI kw H locs hP hD hS lsC hl
    · refine lv_tableIn (tgt := 1911) hx hb dL_law_40 (by omega) (by omega) (off := 1871) (by rw [hk]; rfl) (by decide) ?_
      exact case_32 hC hj (by omega) (by omega) hI kw H locs hP hD hS lsC hl
    · refine lv_tableIn (tgt := 1960) hx hb dL_law_40 (by omega) (by omega) (off := 1920) (by rw [hk]; rfl) (by decide) ?_
      exact case_33 hC hj (by omega) (by omega) hI kw H locs hP hD hS lsC hl
    · refine lv_tableIn (tgt := 2009) hx hb dL_law_40 (by omega) (by omega) (off := 1969) (by rw [hk]; rfl) (by decide) ?_
      exact case_34 hC hj (by omega) (by omega) hI kw H locs hP hD hS lsC hl
    · refine lv_tableIn (tgt := 2058) hx hb dL_law_40 (by omega) (by omega) (off := 2018) (by rw [hk]; rfl) (by decide) ?_
      exact case_35 hC hj (by omega) (by omega) hI kw H locs hP hD hS lsC hl
    · refine lv_tableIn (tgt := 2119) hx hb dL_law_40 (by omega) (by omega) (off := 2079) (by rw [hk]; rfl) (by decide) ?_
      exact case_36 hC hj (by omega) (by omega) hI kw H locs hP hD hS lsC hl
    · refine lv_tableIn (tgt := 2156) hx hb dL_law_40 (by omega) (by omega) (off := 2116) (by rw [hk]; rfl) (by decide) ?_
      exact case_37 hC hj (by omega) (by omega) hI kw H locs hP hD hS lsC hl
    · refine lv_tableIn (tgt := 2169) hx hb dL_law_40 (by omega) (by omega) (off := 2129) (by rw [hk]; rfl) (by decide) ?_
      exact case_38 hC hj (by omega) (by omega) hI kw H locs hP hD hS lsC hl
    · refine lv_tableIn (tgt := 2218) hx hb dL_law_40 (by omega) (by omega) (off := 2178) (by rw [hk]; rfl) (by decide) ?_
      exact case_39 hC hj (by omega) (by omega) hI kw H locs hP hD hS lsC hl
    · refine lv_tableIn (tgt := 2307) hx hb dL_law_40 (by omega) (by omega) (off := 2267) (by rw [hk]; rfl) (by decide) ?_
      exact case_40 hC hj (by omega) (by omega) hI kw H locs hP hD hS lsC hl
    · refine lv_tableIn (tgt := 2356) hx hb dL_law_40 (by omega) (by omega) (off := 2316) (by rw [hk]; rfl) (by decide) ?_
      exact case_41 hC hj (by omega) (by omega) hI kw H locs hP hD hS lsC hl
    · refine lv_tableIn (tgt := 2405) hx hb dL_law_40 (by omega) (by omega) (off := 2365) (by rw [hk]; rfl) (by decide) ?_
      exact case_42 hC hj (by omega) (by omega) hI kw H locs hP hD hS lsC hl
    · refine lv_tableIn (tgt := 2454) hx hb dL_law_40 (by omega) (by omega) (off := 2414) (by rw [hk]; rfl) (by decide) ?_
      exact case_43 hC hj (by omega) (by omega) hI kw H locs hP hD hS lsC hl
  · refine lv_tableOut (tgt := 2479) hx hb dL_law_40 (by omega) (by decide) ?_
    exact kw σ hI H locs hP hD hS lsC hl
theorem law_top {j kc ks : Nat} {σ : Sto} (hC : LX p l s m meth c b L xs D ad cy) (hj : j ≤ 512) (hkc : kc ≤ 601024) (hks : ks ≤ 7293034) (kk : 6 * j + 6 ≤ L → RunL p l e s m below meth c b D ad cy j kc ks 33 [] σ) : RunL p l e s m below meth c b D ad cy j kc ks 23 [] σ := by
  intro H locs hP hD hS lsC hl
  have hx := hC.1.1
  have hb := hC.1.2.1
  have hL := hC.2.1.2.2.2
  refine lv_iload hx hb dL_law_23 (lv_at hl 4 rfl) ?_
  refine lv_aload_n hx hb dL_law_25 rfl (lv_at hl 0 rfl) ?_
  refine va_slen hx hb hC.2.1.1 hC.2.1.2.1 (Nat.not_le.mpr hC.2.1.2.1) hS dL_law_26 ?_
  refine lv_bipush (v := Int32.ofInt 6) hx hb dL_law_27 (by decide) ?_
  refine lv_isub hx hb dL_law_29 ?_
  rw [← Int32.ofInt_eq_ofNat, ← Int32.ofInt_sub]
  refine lv_icmp_gt (tgt := 2485) hx hb dL_law_30 (by decide) (fun z => ?_) (fun z => ?_)
  · refine lv_iconst (v := 1) hx hb dL_law_2485 (by decide) ?_
    refine va_forget (fun q hq => hS.2.2 q hq) ?_
    refine W.wd (k := 601024) (n := 7293034) hkc hks ?_
    exact lw_ret hx hb hC.1.2.2.1 hC.2.1.2.2.1 dL_law_2486
  · have y : ¬ ((L : Int) - 6 < 6 * (j : Int)) := fun y => z ((i_lt (by unfold inR; omega) (by unfold inR; omega)).mpr y)
    exact kk (by omega) H locs hP hD hS lsC hl
set_option maxRecDepth 20000 in
theorem law_loop (hC : LX p l s m meth c b L xs D ad cy) : ∀ (n j kc ks : Nat) (σ : Sto), L ≤ 6 * j + 6 * n → j ≤ 512 → kc + n ≤ 601024 → ks + 6 * n ≤ 7293034 → INV σ → RunL p l e s m below meth c b D ad cy j kc ks 23 [] σ := by
  intro n
  induction n with
  | zero =>
    intro j kc ks σ h1 h2 h3 h4 hI H locs hP hD hS lsC hl
    exact law_top hC h2 (by omega) (by omega) (fun z => absurd z (by omega)) H locs hP hD hS lsC hl
  | succ n ih =>
    intro j kc ks σ h1 h2 h3 h4 hI H locs hP hD hS lsC hl
    refine law_top hC h2 (by omega) (by omega) (fun hj => ?_) H locs hP hD hS lsC hl
    have hL := hC.2.1.2.2.2
    refine law_body hC hj (by omega) (by omega) hI (fun w hw H locs hP hD hS lsC hl => ?_)
    have e6 : Int32.ofInt (6 * (j : Int)) + Int32.ofInt 6 = Int32.ofInt (6 * ((j + 1 : Nat) : Int)) := by
      rw [← Int32.ofInt_add]
      exact congrArg Int32.ofInt (by omega)
    refine lv_iinc (k := 4) (lv' := [(4, .int (Int32.ofInt (6 * ((j + 1 : Nat) : Int)))), (0, .ref b), (1, .ref (ad 0)), (2, .ref (ad 153)), (3, .ref (ad 175))]) hC.1.1 hC.1.2.1 dL_law_2479 hl rfl e6 (by decide) rfl (fun ls' hl' => ?_)
    refine lv_goto (tgt := 23) hC.1.1 hC.1.2.1 dL_law_2482 (by decide) ?_
    exact ih (j + 1) (kc + 1) (ks + 6) w (by omega) (by omega) (by omega) (by omega) hw H locs hP hD hS ls' (lv_sub hl' [1, 2, 3, 4, 0] rfl)
end LOOP2
