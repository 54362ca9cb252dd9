abbrev mJ0_isLatin1_aae02 : Mth := (yJ0_isLatin1_aae02, cJ0_isLatin1_aae02, 1, (some .boolean), 0, 0)
theorem mvJ0_isLatin1_aae02 : MV mJ0_isLatin1_aae02 0 := ⟨⟨(inG6 rfl (List.mem_of_getElem? (i := 48) rfl)), (inG1 rfl (List.mem_of_getElem? (i := 12) (by decide +kernel))), by decide +kernel, by decide +kernel, by decide +kernel⟩, (inG6 rfl (List.mem_of_getElem? (i := 46) (by decide +kernel))), (inG6 rfl (List.mem_of_getElem? (i := 47) (by decide +kernel)))⟩
abbrev mJ3_checkIndex_8e157 : Mth := (yJ3_checkIndex_8e157, cJ3_checkIndex_8e157, 3, (some .int), 0, 0)
theorem mvJ3_checkIndex_8e157 : MS mJ3_checkIndex_8e157 3 := ⟨⟨(inG6 rfl (List.mem_of_getElem? (i := 61) rfl)), (inG1 rfl (List.mem_of_getElem? (i := 14) (by decide +kernel))), by decide +kernel, by decide +kernel, by decide +kernel⟩, (inG6 rfl (List.mem_of_getElem? (i := 60) (by decide +kernel)))⟩
abbrev mJ0_checkIndex_df160 : Mth := (yJ0_checkIndex_df160, cJ0_checkIndex_df160, 2, none, 1, 22)
theorem mvJ0_checkIndex_df160 : MS mJ0_checkIndex_df160 2 := ⟨⟨(inG6 rfl (List.mem_of_getElem? (i := 56) rfl)), (inG1 rfl (List.mem_of_getElem? (i := 12) (by decide +kernel))), by decide +kernel, by decide +kernel, by decide +kernel⟩, (inG6 rfl (List.mem_of_getElem? (i := 55) (by decide +kernel)))⟩
abbrev mJ1_charAt_3b067 : Mth := (yJ1_charAt_3b067, cJ1_charAt_3b067, 2, (some .char), 2, 43)
theorem mvJ1_charAt_3b067 : MS mJ1_charAt_3b067 2 := ⟨⟨(inG6 rfl (List.mem_of_getElem? (i := 53) rfl)), (inG1 rfl (List.mem_of_getElem? (i := 13) (by decide +kernel))), by decide +kernel, by decide +kernel, by decide +kernel⟩, (inG6 rfl (List.mem_of_getElem? (i := 52) (by decide +kernel)))⟩
abbrev mJ0_charAt_5068e : Mth := (yJ0_charAt_5068e, cJ0_charAt_5068e, 2, (some .char), 3, 64)
theorem mvJ0_charAt_5068e : MV mJ0_charAt_5068e 1 := ⟨⟨(inG6 rfl (List.mem_of_getElem? (i := 44) rfl)), (inG1 rfl (List.mem_of_getElem? (i := 12) (by decide +kernel))), by decide +kernel, by decide +kernel, by decide +kernel⟩, (inG6 rfl (List.mem_of_getElem? (i := 42) (by decide +kernel))), (inG6 rfl (List.mem_of_getElem? (i := 43) (by decide +kernel)))⟩
abbrev mJ13_bitCount_95d88 : Mth := (yJ13_bitCount_95d88, cJ13_bitCount_95d88, 2, (some .int), 0, 0)
theorem mvJ13_bitCount_95d88 : MS mJ13_bitCount_95d88 1 := ⟨⟨(inG6 rfl (List.mem_of_getElem? (i := 208) rfl)), (inG1 rfl (List.mem_of_getElem? (i := 21) (by decide +kernel))), by decide +kernel, by decide +kernel, by decide +kernel⟩, (inG6 rfl (List.mem_of_getElem? (i := 207) (by decide +kernel)))⟩
theorem lJ0_492 : Cond.methodLink RJ0 492 yJ0_isLatin1_aae02 ∈ Gw := (inG6 rfl (List.mem_of_getElem? (i := 45) (by decide +kernel)))
theorem lJ0_495 : Cond.methodLink RJ0 495 yJ1_charAt_3b067 ∈ Gw ∨ (RJ0, 495, yJ1_charAt_3b067) ∈ NWt := Or.inl (inG6 rfl (List.mem_of_getElem? (i := 51) (by decide +kernel)))
theorem lJ1_9 : Cond.methodLink RJ1 9 yJ0_checkIndex_df160 ∈ Gw ∨ (RJ1, 9, yJ0_checkIndex_df160) ∈ NWt := Or.inl (inG6 rfl (List.mem_of_getElem? (i := 54) (by decide +kernel)))
theorem lJ0_1059 : Cond.methodLink RJ0 1059 yJ3_checkIndex_8e157 ∈ Gw ∨ (RJ0, 1059, yJ3_checkIndex_8e157) ∈ NWt := Or.inl (inG6 rfl (List.mem_of_getElem? (i := 59) (by decide +kernel)))
theorem lX9_237 : Cond.methodLink RX9 237 yJ13_bitCount_95d88 ∈ Gw ∨ (RX9, 237, yJ13_bitCount_95d88) ∈ NWt := Or.inl (inG6 rfl (List.mem_of_getElem? (i := 206) (by decide +kernel)))
theorem lX9_126 : Cond.methodLink RX9 126 yJ0_charAt_5068e ∈ Gw := (inG6 rfl (List.mem_of_getElem? (i := 41) (by decide +kernel)))
theorem cJ13_314 : Cond.constantLong RJ13 314 (6148914691236517205) ∈ Gw := (inG6 rfl (List.mem_of_getElem? (i := 209) (by decide +kernel)))
theorem cJ13_316 : Cond.constantLong RJ13 316 (3689348814741910323) ∈ Gw := (inG6 rfl (List.mem_of_getElem? (i := 210) (by decide +kernel)))
theorem cJ13_318 : Cond.constantLong RJ13 318 (1085102592571150095) ∈ Gw := (inG6 rfl (List.mem_of_getElem? (i := 211) (by decide +kernel)))
theorem fJ0_9 : Cond.fieldLink RJ0 9 "java/lang/String" "value" "[B" ∈ Gw := (inG8 rfl (List.mem_of_getElem? (i := 18) (by decide +kernel)))
theorem fJ0_15 : Cond.fieldLink RJ0 15 "java/lang/String" "coder" "B" ∈ Gw := (inG8 rfl (List.mem_of_getElem? (i := 17) (by decide +kernel)))
theorem fJ0_38 : Cond.fieldLink RJ0 38 "java/lang/String" "COMPACT_STRINGS" "Z" ∈ Gw := (inG6 rfl (List.mem_of_getElem? (i := 49) (by decide +kernel)))
theorem fJ0_1053 : Cond.fieldLink RJ0 1053 "jdk/internal/util/Preconditions" "SIOOBE_FORMATTER" "Ljava/util/function/BiFunction;" ∈ Gw := (inG6 rfl (List.mem_of_getElem? (i := 57) (by decide +kernel)))
section AMS
variable {M : Mth} {Q : Option Av → Sto → Prop} {pc : Nat} {ls : List (Nat × Av)} {rest : List Av} {σ : Sto}
theorem a_lsub {x y : Int64} (hd : decode M.2.1 pc = .ok (.lsub, 1)) (k : RunA M Q (pc + 1) ls (al (x - y) :: rest) σ) : RunA M Q pc ls (al y :: al x :: rest) σ := by
  intro l p e s m args below meth c D ad cy A H locs hG hP hD hS lsC hl
  exact lv_lsub hG.1 hG.2.1 hd (k l p e s m args below meth c D ad cy A H locs hG hP hD hS lsC hl)
theorem a_i2c {x z : Int} (hd : decode M.2.1 pc = .ok (.i2c, 1)) (hz : ((Int32.ofInt x).toUInt32 % 65536).toInt32 = Int32.ofInt z) (k : RunA M Q (pc + 1) ls (ai z :: rest) σ) : RunA M Q pc ls (ai x :: rest) σ := by
  intro l p e s m args below meth c D ad cy A H locs hG hP hD hS lsC hl
  exact lv_i2c hG.1 hG.2.1 hd hz (k l p e s m args below meth c D ad cy A H locs hG hP hD hS lsC hl)
theorem a_cret {x : Int} (hr : M.2.2.2.1 = some .char) (hx : narrow .char (.int (Int32.ofInt x)) = .int (Int32.ofInt x)) (hq : Q (some (ai x)) σ) (hd : decode M.2.1 pc = .ok (.ireturn, 1)) : RunA M Q pc ls [ai x] σ := by
  intro l p e s m args below meth co D ad cy A H locs hG hP hD hS lsC hl
  have hR := hG.2.2.1
  rw [hr] at hR ⊢
  refine W.zret (v := Int32.ofInt x) hG.1 hG.2.1 hR hx (fun t ht hW => ?_) hS.2.2 hd hG.2.2.2.2.2.2.1
  exact ⟨⟨_, σ, rfl, ⟨x, rfl, hq⟩, by rw [ht]; exact hP, va_K.moved hW.alike hG.2.2.2.2.2.2.2.1, hD⟩, hS.F ht⟩
theorem a_ldcS (hc : M.1.cls = RX9) (hd : decode M.2.1 pc = .ok (.ldc 124, 2)) (k : RunA M Q (pc + 2) ls (ar 176 :: rest) σ) : RunA M Q pc ls rest σ := by
  intro l p e s m args below meth c D ad cy A H locs hG hP hD hS lsC hl
  exact va_ldcS hG.1 hG.2.1 (hc ▸ hG.2.2.2.2.1) hG.2.2.2.2.2.2.2.2.2.2.2.1 hd (k l p e s m args below meth c D ad cy A H locs hG hP hD hS lsC hl)
theorem a_strCoder (hc : M.1.cls = RJ0) (hd : decode M.2.1 pc = .ok (.getfield 15, 3)) (k : RunA M Q (pc + 3) ls (ai 0 :: rest) σ) : RunA M Q pc ls (ar 176 :: rest) σ := by
  intro l p e s m args below meth c D ad cy A H locs hG hP hD hS lsC hl
  exact vk_getf hG.1 hG.2.1 (hG.2.2.2.2.2.2.2.2.2.2.1.1 0 (by omega)).2.1 hS (hc ▸ hG.2.2.2.2.1) (hG.2.2.2.2.2.1 _ (List.mem_cons_of_mem _ fJ0_15)) (fun _ h => h) hd (k l p e s m args below meth c D ad cy A H locs hG hP hD hS lsC hl)
theorem a_strValue (hc : M.1.cls = RJ0) (hd : decode M.2.1 pc = .ok (.getfield 9, 3)) (k : RunA M Q (pc + 3) ls (ar 177 :: rest) σ) : RunA M Q pc ls (ar 176 :: rest) σ := by
  intro l p e s m args below meth c D ad cy A H locs hG hP hD hS lsC hl
  exact vk_getf hG.1 hG.2.1 (hG.2.2.2.2.2.2.2.2.2.2.1.1 0 (by omega)).2.2.1 hS (hc ▸ hG.2.2.2.2.1) (hG.2.2.2.2.2.1 _ (List.mem_cons_of_mem _ fJ0_9)) (fun _ h => h) hd (k l p e s m args below meth c D ad cy A H locs hG hP hD hS lsC hl)
theorem a_strCompact (hc : M.1.cls = RJ0) (hd : decode M.2.1 pc = .ok (.getstatic 38, 3)) (k : RunA M Q (pc + 3) ls (ai 1 :: rest) σ) : RunA M Q pc ls rest σ := by
  intro l p e s m args below meth c D ad cy A H locs hG hP hD hS lsC hl
  exact va_gets hG.1 hG.2.1 hG.2.2.2.2.2.2.2.2.2.2.2.2.1 hS (hc ▸ hG.2.2.2.2.1) (hG.2.2.2.2.2.1 _ (List.mem_cons_of_mem _ fJ0_38)) (fun _ h => h) hd (k l p e s m args below meth c D ad cy A H locs hG hP hD hS lsC hl)
theorem a_strFmt (hc : M.1.cls = RJ0) (hd : decode M.2.1 pc = .ok (.getstatic 1053, 3)) (k : ∀ r : Option Nat, RunA M Q (pc + 3) ls (Sum.inr (Sum.inr r) :: rest) σ) : RunA M Q pc ls rest σ := by
  intro l p e s m args below meth c D ad cy A H locs hG hP hD hS lsC hl
  obtain ⟨r, hZ⟩ := hG.2.2.2.2.2.2.2.2.2.2.2.2.2
  refine va_gets hG.1 hG.2.1 hZ hS (hc ▸ hG.2.2.2.2.1) (hG.2.2.2.2.2.1 _ (List.mem_cons_of_mem _ fJ0_1053)) (fun _ h => h) hd ?_
  have := k r l p e s m args below meth c D ad cy A H locs hG hP hD hS lsC hl
  cases r <;> exact this
theorem a_strLen (hd : decode M.2.1 pc = .ok (.arraylength, 1)) (k : RunA M Q (pc + 1) ls (ai 15 :: rest) σ) : RunA M Q pc ls (ar 177 :: rest) σ := by
  intro l p e s m args below meth c D ad cy A H locs hG hP hD hS lsC hl
  exact va_tlen hG.1 hG.2.1 (hG.2.2.2.2.2.2.2.2.2.2.1.1 0 (by omega)).2.2.2 hS (v := Int32.ofInt 15) rfl hd (k l p e s m args below meth c D ad cy A H locs hG hP hD hS lsC hl)
def wdC (k : Int) : Int := ((wdB.getD k.toNat 0)).toInt
theorem a_strLd {x : Int} (h0 : 0 ≤ x) (h1 : x < 15) (hd : decode M.2.1 pc = .ok (.baload, 1)) (k : RunA M Q (pc + 1) ls (ai (wdC x) :: rest) σ) : RunA M Q pc ls (ai x :: ar 177 :: rest) σ := by
  intro l p e s m args below meth c D ad cy A H locs hG hP hD hS lsC hl
  refine va_tb hG.1 hG.2.1 (hG.2.2.2.2.2.2.2.2.2.2.1.1 0 (by omega)).2.2.2 hS (i := Int32.ofInt x) (in_of h0 h1 (by decide)) (v := .int (Int32.ofInt (wdC x))) ?_ hd (k l p e s m args below meth c D ad cy A H locs hG hP hD hS lsC hl)
  have e := clamp_of_in h0 (by omega : x < 2147483648)
  show Value.int (wdB.getD (Int32.ofInt x).toNatClampNeg 0) = _
  rw [show (Int32.ofInt x).toNatClampNeg = x.toNat by omega]
  unfold wdC
  rw [Int32.ofInt_toInt]
theorem a_callStr {M' : Mth} {as st : List Av} {n idx : Nat} {Q' : Option Av → Sto → Prop} (hM : MetA M' (ar 176 :: as) σ Q') (hV : MV M' n) (hlk : Cond.methodLink M.1.cls idx M'.1 ∈ Gw) (hcl : M'.1.cls = "java/lang/String") (hret : rkO M'.2.2.2.1 = 1) (hst : st = as.reverse ++ ar 176 :: rest) (hn : as.length = n) (h1 : M'.2.2.2.2.1 + 1 ≤ M.2.2.2.2.1) (h2 : 8 + (M'.2.2.1 + 11) + M'.2.2.2.2.2 ≤ M.2.2.2.2.2) (hw : wdA rest ≤ 8) (hd : decode M.2.1 pc = .ok (.invokevirtual idx, 3))
    (k : ∀ x u, Q' (some (ai x)) u → RunA M Q (pc + 3) ls (ai x :: rest) u) : RunA M Q pc ls st σ := by
  subst hst
  intro l p e s m args below meth co D ad cy A H locs hG hP hD hS lsC hl
  obtain ⟨hx, hb, hr, hml, hown, hts, hlocks, hK, hA, hNW, hSK⟩ := id hG
  obtain ⟨hI, hV1, hV2⟩ := hV
  have hgood : GoodIn (WS M) (wsV M.1.cls idx M'.1.cls M'.1 (WS M')) := by
    refine good_cons fun w hw => ?_
    rcases List.mem_append.mp hw with h | h
    · simp only [List.mem_cons, List.mem_nil_iff, or_false] at h
      rcases h with h | h | h | h <;> rw [h]
      · exact hlk
      · exact hV1
      · exact hV2
      · exact hI.2.1
    · exact WS_in hI w h
  refine back_w (rs := rest.map (cv ad)) hG hD hS hl rfl (va_runV (C := M'.1.cls) (As := as.map (cv ad)) (b := ad 176) ⟨hx, hb, hml, hown, hts⟩ (hM l D ad cy H.size) (cwV n hts hgood rfl rfl rfl ⟨rfl, hI.2.2.1, hI.2.2.2.1, hI.2.2.2.2⟩ (roomOK h1 h2)) ⟨pre_blind, ?_, fun U hU hW => ⟨rfl, by rw [hU], by rw [hU]; exact hP, va_K.moved hW.alike hK, ⟨hD.1, fun _ _ _ => trivial⟩, NWs.warm hW hNW, hSK.call hW (fun a q0 q1 => by rw [hU]; exact hS.2.1 a q0 q1) (free_of hD hS hA)⟩⟩ rfl (by rw [List.length_map]; exact hn) hl.1 ?_ (lv_room (by rw [cat_sum]; exact hw)) hd ⟨Nat.le_refl _, Nat.le_refl _⟩) (fun h => by rw [hret] at h; cases h) (fun h => by rw [hret] at h; cases h) (fun _ _ => k)
  · have h := vk_recv hSK.1 (by omega : 0 < 1) hS
    rw [hcl]
    exact h
  · show (as.reverse ++ ar 176 :: rest).map (cv ad) = (as.map (cv ad)).reverse ++ .ref (ad 176) :: rest.map (cv ad)
    rw [List.map_append, List.map_reverse]
    rfl
end AMS

set_option maxRecDepth 20000 in
theorem t_isLatin1 (σ : Sto) : MetI mJ0_isLatin1_aae02 [ar 176] σ 1 σ := by
  refine a_entry (by decide) (Nat.le_of_ble_eq_true rfl) ?_
  refine a_strCompact rfl dJ0_isLatin1_aae02_0 ?_
  refine a_if_eq (tgt := 17) dJ0_isLatin1_aae02_3 (by decide) (inR_of (by omega) (by omega)) (fun c => absurd c (by decide)) (fun _ => ?_)
  refine a_aload_n dJ0_isLatin1_aae02_6 rfl rfl ?_
  refine a_strCoder rfl dJ0_isLatin1_aae02_7 ?_
  refine a_if_ne (tgt := 17) dJ0_isLatin1_aae02_10 (by decide) (inR_of (by omega) (by omega)) (fun c => absurd rfl c) (fun _ => ?_)
  refine a_iconst dJ0_isLatin1_aae02_13 ?_
  refine a_goto (tgt := 18) dJ0_isLatin1_aae02_14 (by decide) ?_
  exact a_zret rfl (Or.inr rfl) ⟨rfl, rfl⟩ dJ0_isLatin1_aae02_18

set_option maxRecDepth 20000 in
theorem t_checkIndex3 (σ : Sto) (x n : Int) (r : Option Nat) (h0 : 0 ≤ x) (h1 : x < n) (hn : n < 2147483648) : MetI mJ3_checkIndex_8e157 [ai x, ai n, Sum.inr (Sum.inr r)] σ x σ := by
  refine a_entry (by decide) (Nat.le_of_ble_eq_true rfl) ?_
  refine a_iload_n dJ3_checkIndex_8e157_0 rfl rfl ?_
  refine a_if_lt (tgt := 9) dJ3_checkIndex_8e157_1 (by decide) (inR_of (by omega) (by omega)) (fun c => absurd c (by omega)) (fun _ => ?_)
  refine a_iload_n dJ3_checkIndex_8e157_4 rfl rfl ?_
  refine a_iload_n dJ3_checkIndex_8e157_5 rfl rfl ?_
  refine a_icmp_lt (tgt := 16) dJ3_checkIndex_8e157_6 (by decide) (inR_of (by omega) (by omega)) (inR_of (by omega) (by omega)) (fun _ => ?_) (fun c => absurd h1 c)
  refine a_iload_n dJ3_checkIndex_8e157_16 rfl rfl ?_
  exact a_iret rfl ⟨rfl, rfl⟩ dJ3_checkIndex_8e157_17

set_option maxRecDepth 20000 in
theorem t_checkIndex0 (σ : Sto) (x n : Int) (h0 : 0 ≤ x) (h1 : x < n) (hn : n < 2147483648) : MetV mJ0_checkIndex_df160 [ai x, ai n] σ σ := by
  refine a_entry (by decide) (Nat.le_of_ble_eq_true rfl) ?_
  refine a_iload_n dJ0_checkIndex_df160_0 rfl rfl ?_
  refine a_iload_n dJ0_checkIndex_df160_1 rfl rfl ?_
  refine a_strFmt rfl dJ0_checkIndex_df160_2 (fun r => ?_)
  refine a_sI (as := [ai x, ai n, Sum.inr (Sum.inr r)]) (rest := []) (t_checkIndex3 σ x n r h0 h1 hn) mvJ3_checkIndex_8e157 lJ0_1059 rfl rfl rfl (Nat.le_of_ble_eq_true rfl) (Nat.le_of_ble_eq_true rfl) (Nat.le_of_ble_eq_true rfl) dJ0_checkIndex_df160_5 ?_
  refine a_pop dJ0_checkIndex_df160_8 rfl ?_
  exact a_vret rfl ⟨rfl, rfl⟩ dJ0_checkIndex_df160_9

theorem a_sV {M : Mth} {Q : Option Av → Sto → Prop} {pc : Nat} {ls : List (Nat × Av)} {rest : List Av} {σ : Sto} {M' : Mth} {as st : List Av} {n idx : Nat} {σ' : Sto} (hM : MetV M' as σ σ') (hV : MS M' n) (hlk : Cond.methodLink M.1.cls idx M'.1 ∈ Gw ∨ (M.1.cls, idx, M'.1) ∈ NWt) (hret : rkO M'.2.2.2.1 = 0) (hst : st = as.reverse ++ rest) (hn : as.length = n) (h1 : M'.2.2.2.2.1 + 1 ≤ M.2.2.2.2.1) (h2 : 8 + (M'.2.2.1 + 11) + M'.2.2.2.2.2 ≤ M.2.2.2.2.2) (hw : wdA rest ≤ 8) (hd : decode M.2.1 pc = .ok (.invokestatic idx, 3))
    (k : RunA M Q (pc + 3) ls rest σ') : RunA M Q pc ls st σ :=
  a_callSG hM hV hlk hst hn h1 h2 hw hd (fun _ u h => by obtain ⟨-, rfl⟩ := h; exact k) (fun h => by rw [hret] at h; cases h) (fun h _ => absurd hret h)
theorem wd_ok : ∀ k : Fin 15, ((Int32.ofInt (wdC k) &&& 255).toUInt32 % 65536).toInt32 = Int32.ofInt (wdC k) ∧ narrow .char (.int (Int32.ofInt (wdC k))) = .int (Int32.ofInt (wdC k)) := by decide +kernel
theorem wd_and : ∀ k : Fin 15, Int32.ofInt (wdC k) &&& Int32.ofInt 255 = Int32.ofInt (wdC k) := by decide +kernel
theorem wd_c : ∀ k : Fin 15, ((Int32.ofInt (wdC k)).toUInt32 % 65536).toInt32 = Int32.ofInt (wdC k) := by decide +kernel
theorem wd_and' {k : Int} (h0 : 0 ≤ k) (h1 : k < 15) : Int32.ofInt (wdC k) &&& Int32.ofInt 255 = Int32.ofInt (wdC k) := by
  have := wd_and ⟨k.toNat, by omega⟩
  rw [show ((⟨k.toNat, by omega⟩ : Fin 15) : Int) = k from by show ((k.toNat : Nat) : Int) = k; omega] at this
  exact this
theorem wd_c' {k : Int} (h0 : 0 ≤ k) (h1 : k < 15) : ((Int32.ofInt (wdC k)).toUInt32 % 65536).toInt32 = Int32.ofInt (wdC k) := by
  have := wd_c ⟨k.toNat, by omega⟩
  rw [show ((⟨k.toNat, by omega⟩ : Fin 15) : Int) = k from by show ((k.toNat : Nat) : Int) = k; omega] at this
  exact this
theorem wd_n' {k : Int} (h0 : 0 ≤ k) (h1 : k < 15) : narrow .char (.int (Int32.ofInt (wdC k))) = .int (Int32.ofInt (wdC k)) := by
  have := (wd_ok ⟨k.toNat, by omega⟩).2
  rw [show ((⟨k.toNat, by omega⟩ : Fin 15) : Int) = k from by show ((k.toNat : Nat) : Int) = k; omega] at this
  exact this

set_option maxRecDepth 20000 in
theorem t_charAt1 (σ : Sto) (x : Int) (h0 : 0 ≤ x) (h1 : x < 15) : MetI mJ1_charAt_3b067 [ar 177, ai x] σ (wdC x) σ := by
  refine a_entry (by decide) (Nat.le_of_ble_eq_true rfl) ?_
  refine a_iload_n dJ1_charAt_3b067_0 rfl rfl ?_
  refine a_aload_n dJ1_charAt_3b067_1 rfl rfl ?_
  refine a_strLen dJ1_charAt_3b067_2 ?_
  refine a_sV (as := [ai x, ai 15]) (rest := []) (t_checkIndex0 σ x 15 h0 h1 (by omega)) mvJ0_checkIndex_df160 lJ1_9 rfl rfl rfl (Nat.le_of_ble_eq_true rfl) (Nat.le_of_ble_eq_true rfl) (Nat.le_of_ble_eq_true rfl) dJ1_charAt_3b067_3 ?_
  refine a_aload_n dJ1_charAt_3b067_6 rfl rfl ?_
  refine a_iload_n dJ1_charAt_3b067_7 rfl rfl ?_
  refine a_strLd h0 h1 dJ1_charAt_3b067_8 ?_
  refine a_sipush (x := 255) dJ1_charAt_3b067_9 (by decide) ?_
  refine a_iand (z := wdC x) dJ1_charAt_3b067_12 (wd_and' h0 h1) ?_
  refine a_i2c (z := wdC x) dJ1_charAt_3b067_13 (wd_c' h0 h1) ?_
  exact a_cret rfl (wd_n' h0 h1) ⟨rfl, rfl⟩ dJ1_charAt_3b067_14

set_option maxRecDepth 20000 in
theorem t_charAt (σ : Sto) (x : Int) (h0 : 0 ≤ x) (h1 : x < 15) : MetI mJ0_charAt_5068e [ar 176, ai x] σ (wdC x) σ := by
  refine a_entry (by decide) (Nat.le_of_ble_eq_true rfl) ?_
  refine a_aload_n dJ0_charAt_5068e_0 rfl rfl ?_
  refine a_callStr (as := []) (rest := []) (t_isLatin1 σ) mvJ0_isLatin1_aae02 lJ0_492 rfl rfl rfl rfl (Nat.le_of_ble_eq_true rfl) (Nat.le_of_ble_eq_true rfl) (Nat.le_of_ble_eq_true rfl) dJ0_charAt_5068e_1 (fun y u hu => ?_)
  obtain ⟨hy, rfl⟩ := hu
  cases hy
  refine a_if_eq (tgt := 16) dJ0_charAt_5068e_4 (by decide) (inR_of (by omega) (by omega)) (fun c => absurd c (by decide)) (fun _ => ?_)
  refine a_aload_n dJ0_charAt_5068e_7 rfl rfl ?_
  refine a_strValue rfl dJ0_charAt_5068e_8 ?_
  refine a_iload_n dJ0_charAt_5068e_11 rfl rfl ?_
  refine a_sI (as := [ar 177, ai x]) (rest := []) (t_charAt1 u x h0 h1) mvJ1_charAt_3b067 lJ0_495 rfl rfl rfl (Nat.le_of_ble_eq_true rfl) (Nat.le_of_ble_eq_true rfl) (Nat.le_of_ble_eq_true rfl) dJ0_charAt_5068e_12 ?_
  exact a_cret rfl (wd_n' h0 h1) ⟨rfl, rfl⟩ dJ0_charAt_5068e_15

theorem w_max : Cond.static Lib.Math.max.name ∈ Gw ∧ Cond.code Lib.Math.max.name Lib.Math.max.code 2 (some .int) ∈ Gw ∧ Cond.initialized "java/lang/Math" ∈ Gw := ⟨(inG4 rfl (List.mem_of_getElem? (i := 29) (by decide +kernel))), (inG4 rfl (List.mem_of_getElem? (i := 30) rfl)), (inG1 rfl (List.mem_of_getElem? (i := 11) (by decide +kernel)))⟩
theorem a_mmax {M : Mth} {Q : Option Av → Sto → Prop} {pc : Nat} {ls : List (Nat × Av)} {rest : List Av} {σ : Sto} {x y : Int} {idx : Nat} (hlk : Cond.methodLink M.1.cls idx Lib.Math.max.name ∈ Gw) (hx : inR x) (hy : inR y) (h1 : 1 ≤ M.2.2.2.2.1) (h2 : 21 ≤ M.2.2.2.2.2) (hw : wdA rest ≤ 8) (hd : decode M.2.1 pc = .ok (.invokestatic idx, 3)) (k : RunA M Q (pc + 3) ls (ai (if x < y then y else x) :: rest) σ) : RunA M Q pc ls (ai y :: ai x :: rest) σ := by
  intro l p e s m args below meth c D ad cy A H locs hG hP hD hS lsC hl
  have hg9 : ∀ w ∈ Gw, w.before args s = true := fun w hw => hG.2.2.2.2.2.1 w (List.mem_cons_of_mem _ hw)
  refine va_mmax hG.1 hG.2.1 (by rw [hG.2.2.2.1]; exact hl.1.symm) hG.2.2.2.2.1 (hg9 _ hlk) (hg9 _ w_max.1) (hg9 _ w_max.2.2) (hg9 _ w_max.2.1) h1 (by rw [cat_sum]; show _ ≤ M.2.2.2.2.2; omega) (Nat.le_refl _) (Nat.le_refl _) hd ?_
  have h := k l p e s m args below meth c D ad cy A H locs hG hP hD hS lsC hl
  have e2 : (if Int32.ofInt x < Int32.ofInt y then Int32.ofInt y else Int32.ofInt x) = Int32.ofInt (if x < y then y else x) := by
    by_cases q : x < y
    · rw [if_pos q, if_pos ((i_lt hx hy).mpr q)]
    · rw [if_neg q, if_neg (fun z => q ((i_lt hx hy).mp z))]
  rw [e2]
  exact h

theorem w_min : Cond.static Lib.Math.min.name ∈ Gw ∧ Cond.code Lib.Math.min.name Lib.Math.min.code 2 (some .int) ∈ Gw ∧ Cond.initialized "java/lang/Math" ∈ Gw := ⟨(inG2 rfl (List.mem_of_getElem? (i := 166) (by decide +kernel))), (inG2 rfl (List.mem_of_getElem? (i := 167) rfl)), (inG1 rfl (List.mem_of_getElem? (i := 11) (by decide +kernel)))⟩
theorem a_mmin {M : Mth} {Q : Option Av → Sto → Prop} {pc : Nat} {ls : List (Nat × Av)} {rest : List Av} {σ : Sto} {x y : Int} {idx : Nat} (hlk : Cond.methodLink M.1.cls idx Lib.Math.min.name ∈ Gw) (hx : inR x) (hy : inR y) (h1 : 1 ≤ M.2.2.2.2.1) (h2 : 21 ≤ M.2.2.2.2.2) (hw : wdA rest ≤ 8) (hd : decode M.2.1 pc = .ok (.invokestatic idx, 3)) (k : RunA M Q (pc + 3) ls (ai (if y < x then y else x) :: rest) σ) : RunA M Q pc ls (ai y :: ai x :: rest) σ := by
  intro l p e s m args below meth c D ad cy A H locs hG hP hD hS lsC hl
  have hg9 : ∀ w ∈ Gw, w.before args s = true := fun w hw => hG.2.2.2.2.2.1 w (List.mem_cons_of_mem _ hw)
  refine va_mmin hG.1 hG.2.1 (by rw [hG.2.2.2.1]; exact hl.1.symm) hG.2.2.2.2.1 (hg9 _ hlk) (hg9 _ w_min.1) (hg9 _ w_min.2.2) (hg9 _ w_min.2.1) h1 (by rw [cat_sum]; show _ ≤ M.2.2.2.2.2; omega) (Nat.le_refl _) (Nat.le_refl _) hd ?_
  have h := k l p e s m args below meth c D ad cy A H locs hG hP hD hS lsC hl
  have e2 : (if Int32.ofInt y < Int32.ofInt x then Int32.ofInt y else Int32.ofInt x) = Int32.ofInt (if y < x then y else x) := by
    by_cases q : y < x
    · rw [if_pos q, if_pos ((i_lt hy hx).mpr q)]
    · rw [if_neg q, if_neg (fun z => q ((i_lt hy hx).mp z))]
  rw [e2]
  exact h

theorem lm8_203 : Cond.methodLink RX8 203 Lib.Math.min.name ∈ Gw := (inG3 rfl (List.mem_of_getElem? (i := 109) (by decide +kernel)))
theorem lm8_283 : Cond.methodLink RX8 283 Lib.Math.max.name ∈ Gw := (inG4 rfl (List.mem_of_getElem? (i := 28) (by decide +kernel)))
theorem lm0_35 : Cond.methodLink RX0 35 Lib.Math.min.name ∈ Gw := (inG4 rfl (List.mem_of_getElem? (i := 228) (by decide +kernel)))
theorem lm0_45 : Cond.methodLink RX0 45 Lib.Math.max.name ∈ Gw := (inG4 rfl (List.mem_of_getElem? (i := 229) (by decide +kernel)))
theorem lm1_54 : Cond.methodLink RX1 54 Lib.Math.min.name ∈ Gw := (inG4 rfl (List.mem_of_getElem? (i := 7) (by decide +kernel)))
theorem lm2_58 : Cond.methodLink RX2 58 Lib.Math.min.name ∈ Gw := (inG3 rfl (List.mem_of_getElem? (i := 0) (by decide +kernel)))
theorem lm4_102 : Cond.methodLink RX4 102 Lib.Math.min.name ∈ Gw := (inG3 rfl (List.mem_of_getElem? (i := 197) (by decide +kernel)))
theorem lm5_19 : Cond.methodLink RX5 19 Lib.Math.min.name ∈ Gw := (inG2 rfl (List.mem_of_getElem? (i := 165) (by decide +kernel)))
theorem lm6_98 : Cond.methodLink RX6 98 Lib.Math.min.name ∈ Gw := (inG4 rfl (List.mem_of_getElem? (i := 88) (by decide +kernel)))
theorem lm7_44 : Cond.methodLink RX7 44 Lib.Math.min.name ∈ Gw := (inG3 rfl (List.mem_of_getElem? (i := 99) (by decide +kernel)))
/-- bitCount, as the machine does it -/
def bc1 (x : Int64) : Int64 := x - (ushrL x 1 &&& 6148914691236517205)
def bc2 (x : Int64) : Int64 := (x &&& 3689348814741910323) + (ushrL x 2 &&& 3689348814741910323)
def bc3 (x : Int64) : Int64 := (x + ushrL x 4) &&& 1085102592571150095
def bcS (i : Int) (x : Int64) : Int64 := x + ushrL x i
def bcF (x : Int64) : Int := (bcS 32 (bcS 16 (bcS 8 (bc3 (bc2 (bc1 x)))))).toInt32.toInt
def bitC (x : Int64) : Int := (Int32.ofInt (bcF x) &&& Int32.ofInt 127).toInt

set_option maxRecDepth 20000 in
theorem t_bitCount (σ : Sto) (x : Int64) : MetI mJ13_bitCount_95d88 [al x] σ (bitC x) σ := by
  refine a_entry (by decide) (Nat.le_of_ble_eq_true rfl) ?_
  refine a_lload_n dJ13_bitCount_95d88_0 rfl rfl ?_
  refine a_lload_n dJ13_bitCount_95d88_1 rfl rfl ?_
  refine a_iconst dJ13_bitCount_95d88_2 ?_
  refine a_lushr dJ13_bitCount_95d88_3 ?_
  refine a_ldc2 cJ13_314 dJ13_bitCount_95d88_4 ?_
  refine a_land dJ13_bitCount_95d88_7 ?_
  refine a_lsub dJ13_bitCount_95d88_8 ?_
  refine a_lstore_n (ls' := [(0, al (bc1 x))]) dJ13_bitCount_95d88_9 rfl (Nat.le_of_ble_eq_true rfl) rfl ?_
  refine a_lload_n dJ13_bitCount_95d88_10 rfl rfl ?_
  refine a_ldc2 cJ13_316 dJ13_bitCount_95d88_11 ?_
  refine a_land dJ13_bitCount_95d88_14 ?_
  refine a_lload_n dJ13_bitCount_95d88_15 rfl rfl ?_
  refine a_iconst dJ13_bitCount_95d88_16 ?_
  refine a_lushr dJ13_bitCount_95d88_17 ?_
  refine a_ldc2 cJ13_316 dJ13_bitCount_95d88_18 ?_
  refine a_land dJ13_bitCount_95d88_21 ?_
  refine a_ladd dJ13_bitCount_95d88_22 ?_
  refine a_lstore_n (ls' := [(0, al (bc2 (bc1 x)))]) dJ13_bitCount_95d88_23 rfl (Nat.le_of_ble_eq_true rfl) rfl ?_
  refine a_lload_n dJ13_bitCount_95d88_24 rfl rfl ?_
  refine a_lload_n dJ13_bitCount_95d88_25 rfl rfl ?_
  refine a_iconst dJ13_bitCount_95d88_26 ?_
  refine a_lushr dJ13_bitCount_95d88_27 ?_
  refine a_ladd dJ13_bitCount_95d88_28 ?_
  refine a_ldc2 cJ13_318 dJ13_bitCount_95d88_29 ?_
  refine a_land dJ13_bitCount_95d88_32 ?_
  refine a_lstore_n (ls' := [(0, al (bc3 (bc2 (bc1 x))))]) dJ13_bitCount_95d88_33 rfl (Nat.le_of_ble_eq_true rfl) rfl ?_
  refine a_lload_n dJ13_bitCount_95d88_34 rfl rfl ?_
  refine a_lload_n dJ13_bitCount_95d88_35 rfl rfl ?_
  refine a_bipush (x := 8) dJ13_bitCount_95d88_36 (by decide) ?_
  refine a_lushr dJ13_bitCount_95d88_38 ?_
  refine a_ladd dJ13_bitCount_95d88_39 ?_
  refine a_lstore_n (ls' := [(0, al (bcS 8 (bc3 (bc2 (bc1 x)))))]) dJ13_bitCount_95d88_40 rfl (Nat.le_of_ble_eq_true rfl) rfl ?_
  refine a_lload_n dJ13_bitCount_95d88_41 rfl rfl ?_
  refine a_lload_n dJ13_bitCount_95d88_42 rfl rfl ?_
  refine a_bipush (x := 16) dJ13_bitCount_95d88_43 (by decide) ?_
  refine a_lushr dJ13_bitCount_95d88_45 ?_
  refine a_ladd dJ13_bitCount_95d88_46 ?_
  refine a_lstore_n (ls' := [(0, al (bcS 16 (bcS 8 (bc3 (bc2 (bc1 x))))))]) dJ13_bitCount_95d88_47 rfl (Nat.le_of_ble_eq_true rfl) rfl ?_
  refine a_lload_n dJ13_bitCount_95d88_48 rfl rfl ?_
  refine a_lload_n dJ13_bitCount_95d88_49 rfl rfl ?_
  refine a_bipush (x := 32) dJ13_bitCount_95d88_50 (by decide) ?_
  refine a_lushr dJ13_bitCount_95d88_52 ?_
  refine a_ladd dJ13_bitCount_95d88_53 ?_
  refine a_lstore_n (ls' := [(0, al (bcS 32 (bcS 16 (bcS 8 (bc3 (bc2 (bc1 x)))))))]) dJ13_bitCount_95d88_54 rfl (Nat.le_of_ble_eq_true rfl) rfl ?_
  refine a_lload_n dJ13_bitCount_95d88_55 rfl rfl ?_
  refine a_l2i (z := bcF x) dJ13_bitCount_95d88_56 (Int32.ofInt_toInt _).symm ?_
  refine a_bipush (x := 127) dJ13_bitCount_95d88_57 (by decide) ?_
  refine a_iand (z := bitC x) dJ13_bitCount_95d88_59 (Int32.ofInt_toInt _).symm ?_
  exact a_iret rfl ⟨rfl, rfl⟩ dJ13_bitCount_95d88_60

