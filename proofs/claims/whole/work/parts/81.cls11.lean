set_option maxRecDepth 20000 in
theorem c_lgClear (σ : Sto) (G : Nat) (hGk : Gok G) : MetV mX1_clear [ar G] σ (sN σ G 0 0) := by
  refine a_entry (by decide) (Nat.le_of_ble_eq_true rfl) ?_
  refine a_ls (ls' := [(0, ar G)]) rfl ?_
  refine a_aload_n dX1_clear_0 rfl rfl ?_
  refine a_iconst dX1_clear_1 ?_
  refine a_putI (J := 0) fX1_18 (kG hGk) rfl rfl rfl dX1_clear_2 ?_
  exact a_vret rfl ⟨rfl, rfl⟩ dX1_clear_5

theorem LgR.nil (σ : Sto) (G : Nat) : LgR (sN σ G 0 0) G [] := ⟨by rw [gN_sN, if_pos ⟨rfl, rfl⟩]; rfl, fun l q h => by simp at h⟩

set_option maxRecDepth 20000 in
theorem c_lgAdd (σ : Sto) (G : Nat) (hGk : Gok G) (P : List (Int × Int)) (x y : Int) (hP : LgR σ G P) (hl : (P.length : Int) < 6) (hx : inR x) (hy : inR y) : MetA mX1_add [ar G, ai x, ai y] σ (fun r u => r = none ∧ Fg (fun c _ => G ≤ c ∧ c ≤ G + 2) σ u ∧ LgR u G (P ++ [(x, y)])) := by
  have h1 := hP.1
  refine a_entry (by decide) (Nat.le_of_ble_eq_true rfl) ?_
  refine a_ls (ls' := [(0, ar G), (1, ai x), (2, ai y)]) rfl ?_
  refine a_aload_n dX1_add_0 rfl rfl ?_
  refine a_getI (J := 0) fX1_18 (kG hGk) rfl rfl dX1_add_1 ?_
  refine a_bipush (x := 6) dX1_add_4 (by decide) ?_
  refine a_icmp_ge (tgt := 39) dX1_add_6 (by decide) (inR_gN _ _ _) (inR_of (by omega) (by omega)) (fun c6 => ?_) (fun c6 => ?_)
  · exfalso; omega
  · refine a_aload_n dX1_add_9 rfl rfl ?_
    refine a_getF (d := (G + 1)) fX1_9 (kG hGk) rfl (rG_1 hGk) dX1_add_10 ?_
    refine a_aload_n dX1_add_13 rfl rfl ?_
    refine a_getI (J := 0) fX1_18 (kG hGk) rfl rfl dX1_add_14 ?_
    refine a_iload_n dX1_add_17 rfl rfl ?_
    refine a_ist (kG_1 hGk) (nG_1 hGk) (by omega) (by omega) dX1_add_18 ?_
    refine a_aload_n dX1_add_19 rfl rfl ?_
    refine a_getF (d := (G + 2)) fX1_15 (kG hGk) rfl (rG_2 hGk) dX1_add_20 ?_
    refine a_aload_n dX1_add_23 rfl rfl ?_
    refine a_getI (J := 0) fX1_18 (kG hGk) rfl rfl dX1_add_24 ?_
    refine a_topI (y := gN σ G 0) (by rw [gN_sN, if_neg (by omega)]) ?_
    refine a_iload_n dX1_add_27 rfl rfl ?_
    refine a_ist (kG_2 hGk) (nG_2 hGk) (by omega) (by omega) dX1_add_28 ?_
    refine a_aload_n dX1_add_29 rfl rfl ?_
    refine a_dup dX1_add_30 rfl ?_
    refine a_getI (J := 0) fX1_18 (kG hGk) rfl rfl dX1_add_31 ?_
    refine a_topI (y := gN σ G 0) (by rw [gN_sN, if_neg (by omega), gN_sN, if_neg (by omega)]) ?_
    refine a_iconst dX1_add_34 ?_
    refine a_iadd dX1_add_35 ?_
    refine a_putI (J := 0) fX1_18 (kG hGk) rfl rfl rfl dX1_add_36 ?_
    exact a_vret rfl ⟨rfl, ((Fg.rfl.sN (by omega)).sN (by omega)).sN (by omega), hP.push hl hx hy⟩ dX1_add_39

set_option maxRecDepth 20000 in
theorem c_ins_l (σ ρ : Sto) (s r m : Int) (K : List Int) (hO : OrR σ ρ s K) (hK : ∀ x ∈ K, 0 ≤ x ∧ x < r) (hr0 : 0 ≤ r) (hr1 : r < 60) (hl : (K.length : Int) ≤ r) (hm : m = dpF ρ s r) (hmi : inR m) (Q : Option Av → Sto → Prop) (hx : ∀ (k : Nat) (τ : Sto), Fg (fun c _ => c = 78) σ τ → OGap τ K k → posK (fun y => decide (m < dpF ρ s y)) K K.length = k → RunA mX4_insert Q 46 [(3, ai (k : Int)), (0, ar 73), (1, ai r), (2, ai m)] [] τ) : ∀ (n : Nat) (τ : Sto), n ≤ K.length → Fg (fun c _ => c = 78) σ τ → OGap τ K n → posK (fun y => decide (m < dpF ρ s y)) K n = posK (fun y => decide (m < dpF ρ s y)) K K.length → RunA mX4_insert Q 5 [(3, ai (n : Int)), (0, ar 73), (1, ai r), (2, ai m)] [] τ := by
  intro n
  induction n with
  | zero =>
    intro τ hn hF hG hP
    refine a_iload_n dX4_insert_5 rfl rfl ?_
    refine a_if_le (tgt := 46) dX4_insert_6 (by decide) (inR_of (by omega) (by omega)) (fun c6 => ?_) (fun c6 => ?_)
    · exact hx 0 τ hF hG hP.symm
    · exfalso; omega
  | succ n ih =>
    intro τ hn hF hG hP
    refine a_keep (ls' := [(3, ai ((n : Int) + 1)), (0, ar 73), (1, ai r), (2, ai m)]) (by simp) ?_
    refine a_iload_n dX4_insert_5 rfl rfl ?_
    refine a_if_le (tgt := 46) dX4_insert_6 (by decide) (inR_of (by omega) (by omega)) (fun c6 => ?_) (fun c6 => ?_)
    · exfalso; omega
    · have eK2 : K[n]? = some (K.getD n 0) := by rw [List.getD_eq_getElem?_getD, List.getElem?_eq_getElem (by omega)]; rfl
      have eK : gN τ 78 (n : Int) = K.getD n 0 := by have := hG n _ eK2; rw [if_pos (by omega)] at this; exact this
      have bK := hK (K.getD n 0) (List.mem_of_getElem? eK2)
      have eL : gN τ 79 (K.getD n 0) = dpF ρ s (K.getD n 0) := by rw [hF.n (by omega)]; exact (hO.2 n _ eK2).2
      have eR : inR (dpF ρ s (K.getD n 0)) := eL ▸ inR_gN _ _ _
      have eK3 : inR (K.getD n 0) := eK ▸ inR_gN _ _ _
      refine a_aload_n dX4_insert_9 rfl rfl ?_
      refine a_getF (d := 79) fX4_27 k73 rfl r73_9 dX4_insert_10 ?_
      refine a_aload_n dX4_insert_13 rfl rfl ?_
      refine a_getF (d := 78) fX4_24 k73 rfl r73_8 dX4_insert_14 ?_
      refine a_iload_n dX4_insert_17 rfl rfl ?_
      refine a_iconst dX4_insert_18 ?_
      refine a_isub dX4_insert_19 ?_
      refine a_ild k78 n78 (by omega) (by omega) dX4_insert_20 ?_
      refine a_topI (y := K.getD n 0) (by rw [← eK]; congr 1; omega) ?_
      refine a_ild k79 n79 (by omega) (by omega) dX4_insert_21 ?_
      refine a_topI (y := dpF ρ s (K.getD n 0)) eL ?_
      refine a_iload_n dX4_insert_22 rfl rfl ?_
      refine a_icmp_le (tgt := 46) dX4_insert_23 (by decide) eR hmi (fun c23 => ?_) (fun c23 => ?_)
      · refine a_keep (ls' := [(3, ai ((n + 1 : Nat) : Int)), (0, ar 73), (1, ai r), (2, ai m)]) (by simp) ?_
        exact hx (n + 1) τ hF hG (by rw [← hP]; show (if (fun y => decide (m < dpF ρ s y)) (K.getD n 0) = true then _ else _) = _; rw [if_neg (by simpa using c23)])
      · refine a_aload_n dX4_insert_26 rfl rfl ?_
        refine a_getF (d := 78) fX4_24 k73 rfl r73_8 dX4_insert_27 ?_
        refine a_iload_n dX4_insert_30 rfl rfl ?_
        refine a_aload_n dX4_insert_31 rfl rfl ?_
        refine a_getF (d := 78) fX4_24 k73 rfl r73_8 dX4_insert_32 ?_
        refine a_iload_n dX4_insert_35 rfl rfl ?_
        refine a_iconst dX4_insert_36 ?_
        refine a_isub dX4_insert_37 ?_
        refine a_ild k78 n78 (by omega) (by omega) dX4_insert_38 ?_
        refine a_topI (y := K.getD n 0) (by rw [← eK]; congr 1; omega) ?_
        refine a_ist k78 n78 (by omega) (by omega) dX4_insert_39 ?_
        refine a_iinc (y := ((n : Int) + 1) + (-1)) (ls' := [(3, ai (((n : Int) + 1) + (-1))), (0, ar 73), (1, ai r), (2, ai m)]) dX4_insert_40 rfl rfl (Nat.le_of_ble_eq_true rfl) rfl ?_
        refine a_goto (tgt := 5) dX4_insert_43 (by decide) ?_
        have ep : posK (fun y => decide (m < dpF ρ s y)) K (n + 1) = posK (fun y => decide (m < dpF ρ s y)) K n := by show (if (fun y => decide (m < dpF ρ s y)) (K.getD n 0) = true then _ else _) = _; rw [if_pos (by simpa using c23)]
        refine a_keep (ls' := [(3, ai (n : Int)), (0, ar 73), (1, ai r), (2, ai m)]) (by simp; omega) ?_
        exact ih _ (by omega) (hF.sN rfl) (hG.step eK2 eK3) (by rw [← ep]; exact hP)

set_option maxRecDepth 20000 in
theorem c_insert (σ ρ : Sto) (s r m : Int) (K : List Int) (hO : OrR σ ρ s K) (hK : ∀ x ∈ K, 0 ≤ x ∧ x < r) (hr0 : 0 ≤ r) (hr1 : r < 60) (hl : (K.length : Int) ≤ r) (hm : m = dpF ρ s r) (hmi : inR m) : MetA mX4_insert [ar 73, ai r, ai m] σ (fun a u => a = none ∧ Fg pAr σ u ∧ OrR u ρ s (insK (fun y => decide (dpF ρ s r < dpF ρ s y)) r K)) := by
  refine a_entry (by decide) (Nat.le_of_ble_eq_true rfl) ?_
  refine a_ls (ls' := [(0, ar 73), (1, ai r), (2, ai m)]) rfl ?_
  refine a_aload_n dX4_insert_0 rfl rfl ?_
  refine a_getI (J := 7) fX4_43 k73 rfl rfl dX4_insert_1 ?_
  refine a_istore_n (ls' := [(3, ai (gN σ 73 7)), (0, ar 73), (1, ai r), (2, ai m)]) dX4_insert_4 rfl (Nat.le_of_ble_eq_true rfl) rfl ?_
  have h7 := hO.1
  refine a_keep (ls' := [(3, ai (K.length : Int)), (0, ar 73), (1, ai r), (2, ai m)]) (by rw [h7]; simp) ?_
  refine c_ins_l σ ρ s r m K hO hK hr0 hr1 hl hm hmi _ (fun k υ hFu hGu hPu => ?_) K.length σ (Nat.le_refl _) Fg.rfl (fun j x hj => by rw [if_pos (by have := (List.getElem?_eq_some_iff.mp hj).1; exact this)]; exact (hO.2 j x hj).1) rfl
  have hkl : k ≤ K.length := hPu ▸ posK_le K.length
  refine a_aload_n dX4_insert_46 rfl rfl ?_
  refine a_getF (d := 78) fX4_24 k73 rfl r73_8 dX4_insert_47 ?_
  refine a_iload_n dX4_insert_50 rfl rfl ?_
  refine a_iload_n dX4_insert_51 rfl rfl ?_
  refine a_ist k78 n78 (by omega) (by omega) dX4_insert_52 ?_
  refine a_aload_n dX4_insert_53 rfl rfl ?_
  refine a_getF (d := 79) fX4_27 k73 rfl r73_9 dX4_insert_54 ?_
  refine a_iload_n dX4_insert_57 rfl rfl ?_
  refine a_iload_n dX4_insert_58 rfl rfl ?_
  refine a_ist k79 n79 (by omega) (by omega) dX4_insert_59 ?_
  refine a_aload_n dX4_insert_60 rfl rfl ?_
  refine a_dup dX4_insert_61 rfl ?_
  refine a_getI (J := 7) fX4_43 k73 rfl rfl dX4_insert_62 ?_
  refine a_topI (y := (K.length : Int)) (by rw [gN_sN, if_neg (by omega), gN_sN, if_neg (by omega), hFu.n (by omega)]; exact hO.1) ?_
  refine a_iconst dX4_insert_65 ?_
  refine a_iadd dX4_insert_66 ?_
  refine a_putI (J := 7) fX4_43 k73 rfl rfl rfl dX4_insert_67 ?_
  exact a_vret rfl ⟨rfl, (((hFu.mono (fun c j q => by unfold pAr; omega)).sN (by unfold pAr; omega)).sN (by unfold pAr; omega)).sN (by unfold pAr; omega), by rw [← hm]; unfold insK; rw [hPu]; exact OrR.fill hGu hkl (fun j x hj => ⟨by rw [hFu.n (by omega)]; exact (hO.2 j x hj).2, by have := hK x (List.mem_of_getElem? hj); omega⟩) (inR_of (by omega) (by omega)) hm hmi rfl (by omega)⟩ dX4_insert_70

set_option maxRecDepth 20000 in
theorem c_arr_l (σ ρ : Sto) (N : Nat) (hW : WV ρ) (hN : NetR σ N ρ) (hT7 : TmR σ N 7 ρ) (s : Int) (hs0 : 0 ≤ s) (hs1 : s < gN ρ 155 0) : ∀ (n : Nat) (r : Int) (τ : Sto) (K : List Int), 0 ≤ r → r ≤ gN ρ 155 3 → n = (gN ρ 155 3 - r).toNat → Fg pAr σ τ → OrR τ ρ s K → (∀ x ∈ K, 0 ≤ x ∧ x < r) → (K.length : Int) ≤ r → ordL ρ s = itr (oiF ρ s) n r K → RunA mX4_arrange (fun a u => a = none ∧ Fg pAr σ u ∧ OrR u ρ s (ordL ρ s)) 7 [(3, ai r), (0, ar 73), (1, ar 7), (2, ai s)] [] τ := by
  have hNk := hN.k
  have hR := hW.R
  have hS := hW.S
  have hTr := hW.T
  intro n
  induction n with
  | zero =>
    intro r τ K h0 h5 hn hF hO hK hl hE
    have hNτ : NetR τ N ρ := hN.of hS.2 (fun d j q0 q1 => hF.n (by unfold pAr; omega))
    have hT7τ : TmR τ N 7 ρ := hT7.of (hF.r (by unfold pAr; omega)) (hF.l (by unfold pAr; omega)) (fun j => hF.n (by unfold pAr; omega)) (fun j => hF.n (by unfold pAr; omega)) (Or.inl (hF.n (by unfold pAr; omega)))
    refine a_iload_n dX4_arrange_7 rfl rfl ?_
    refine a_aload_n dX4_arrange_8 rfl rfl ?_
    refine a_getR (d := N) (J := 0) fX4_46 k7 rfl (rT_0 (by decide)) rfl hT7τ.net dX4_arrange_9 ?_
    refine a_getI (J := 3) fX4_52 (kN hNk) rfl rfl dX4_arrange_12 ?_
    refine a_topI (y := gN ρ 155 3) hNτ.n3 ?_
    refine a_icmp_ge (tgt := 72) dX4_arrange_15 (by decide) (inR_of (by omega) (by omega)) (inR_gN _ _ _) (fun c15 => ?_) (fun c15 => ?_)
    · exact a_vret rfl ⟨rfl, hF, by rw [hE]; exact hO⟩ dX4_arrange_72
    · exfalso; omega
  | succ n ih =>
    intro r τ K h0 h5 hn hF hO hK hl hE
    have hNτ : NetR τ N ρ := hN.of hS.2 (fun d j q0 q1 => hF.n (by unfold pAr; omega))
    have hT7τ : TmR τ N 7 ρ := hT7.of (hF.r (by unfold pAr; omega)) (hF.l (by unfold pAr; omega)) (fun j => hF.n (by unfold pAr; omega)) (fun j => hF.n (by unfold pAr; omega)) (Or.inl (hF.n (by unfold pAr; omega)))
    refine a_iload_n dX4_arrange_7 rfl rfl ?_
    refine a_aload_n dX4_arrange_8 rfl rfl ?_
    refine a_getR (d := N) (J := 0) fX4_46 k7 rfl (rT_0 (by decide)) rfl hT7τ.net dX4_arrange_9 ?_
    refine a_getI (J := 3) fX4_52 (kN hNk) rfl rfl dX4_arrange_12 ?_
    refine a_topI (y := gN ρ 155 3) hNτ.n3 ?_
    refine a_icmp_ge (tgt := 72) dX4_arrange_15 (by decide) (inR_of (by omega) (by omega)) (inR_gN _ _ _) (fun c15 => ?_) (fun c15 => ?_)
    · exfalso; omega
    · refine a_aload_n dX4_arrange_18 rfl rfl ?_
      refine a_getF (d := 8) fX4_57 k7 rfl r7_3 dX4_arrange_19 ?_
      refine a_iload_n dX4_arrange_22 rfl rfl ?_
      refine a_ild k8 n8 (by omega) (by omega) dX4_arrange_23 ?_
      refine a_topI (y := gN ρ 161 r) (hT7τ.lv (by omega) (by omega)) ?_
      have hb28 := hW.tm r (by omega) (by omega)
      refine a_aload_n dX4_arrange_24 rfl rfl ?_
      refine a_getR (d := N) (J := 0) fX4_46 k7 rfl (rT_0 (by decide)) rfl hT7τ.net dX4_arrange_25 ?_
      refine a_getF (d := (N + 3)) fX4_60 (kN hNk) rfl (rN_6 hNk) dX4_arrange_28 ?_
      refine a_iload_n dX4_arrange_31 rfl rfl ?_
      refine a_ald (d := (N + 11 + s.toNat)) (kN_3 hNk) (nN_3 hNk) (by omega) (by omega) (rowN_w hNk (by omega) (by omega)) dX4_arrange_32 ?_
      refine a_aload_n dX4_arrange_33 rfl rfl ?_
      refine a_getR (d := N) (J := 0) fX4_46 k7 rfl (rT_0 (by decide)) rfl hT7τ.net dX4_arrange_34 ?_
      refine a_getF (d := (N + 7)) fX4_64 (kN hNk) rfl (rN_10 hNk) dX4_arrange_37 ?_
      refine a_iload_n dX4_arrange_40 rfl rfl ?_
      refine a_ild (kN_7 hNk) (nN_7 hNk) (by omega) (by omega) dX4_arrange_41 ?_
      refine a_topI (y := gN ρ 155 (115 + 5 * r + 1)) (hNτ.r1 (by omega) (by omega)) ?_
      have hb29 := hW.ride r (by omega) (by omega)
      refine a_ild (kNw hNk (by omega) (by omega)) (nNw hNk (by omega) (by omega)) (by omega) (by omega) dX4_arrange_42 ?_
      refine a_topI (y := gN ρ 155 (15 + 10 * s + (gN ρ 155 (115 + 5 * r + 1)))) (hNτ.wk (by omega) (by omega) (by omega) (by omega)) ?_
      have hb30 := hW.walk s (gN ρ 155 (115 + 5 * r + 1)) (by omega) (by omega) (by omega) (by omega)
      refine a_isub dX4_arrange_43 ?_
      have hdp := dp_rng hW hs0 hs1 (r := r) (by omega) (by omega)
      refine a_topI (y := dpF ρ s r) rfl ?_
      refine a_istore (ls' := [(4, ai (dpF ρ s r)), (3, ai r), (0, ar 73), (1, ar 7), (2, ai s)]) dX4_arrange_44 (Nat.le_of_ble_eq_true rfl) rfl ?_
      refine a_iload dX4_arrange_46 rfl ?_
      refine a_if_lt (tgt := 66) dX4_arrange_48 (by decide) (inR_of (by omega) (by omega)) (fun c48 => ?_) (fun c48 => ?_)
      · refine a_iinc (y := r + 1) (ls' := [(3, ai (r + 1)), (4, ai (dpF ρ s r)), (0, ar 73), (1, ar 7), (2, ai s)]) dX4_arrange_66 rfl rfl (Nat.le_of_ble_eq_true rfl) rfl ?_
        refine a_goto (tgt := 7) dX4_arrange_69 (by decide) ?_
        have e : oiF ρ s r K = K := if_neg (fun z => absurd z.1 (by omega))
        exact a_keep (by simp) (ih (r + 1) τ K (by omega) (by omega) (by omega) hF hO (fun x hx => by have := hK x hx; omega) (by omega) (by rw [hE, itr_s, e]))
      · refine a_aload_n dX4_arrange_51 rfl rfl ?_
        refine a_iload_n dX4_arrange_52 rfl rfl ?_
        refine a_cI (c := 7) (as := [ai r]) (rest := []) (c_isCancelled τ ρ N 7 hW hNτ hT7τ r (by omega) (by omega)) mvX6_isCancelled lX4_67 k7 (by decide) rfl rfl rfl rfl (Nat.le_of_ble_eq_true rfl) (Nat.le_of_ble_eq_true rfl) (Nat.le_of_ble_eq_true rfl) dX4_arrange_53 ?_
        refine a_ifb_ne (tgt := 66) dX4_arrange_56 (by decide) (fun c56 => ?_) (fun c56 => ?_)
        · refine a_iinc (y := r + 1) (ls' := [(3, ai (r + 1)), (4, ai (dpF ρ s r)), (0, ar 73), (1, ar 7), (2, ai s)]) dX4_arrange_66 rfl rfl (Nat.le_of_ble_eq_true rfl) rfl ?_
          refine a_goto (tgt := 7) dX4_arrange_69 (by decide) ?_
          have e : oiF ρ s r K = K := if_neg (fun z => z.2 c56)
          exact a_keep (by simp) (ih (r + 1) τ K (by omega) (by omega) (by omega) hF hO (fun x hx => by have := hK x hx; omega) (by omega) (by rw [hE, itr_s, e]))
        · refine a_aload_n dX4_arrange_59 rfl rfl ?_
          refine a_iload_n dX4_arrange_60 rfl rfl ?_
          refine a_iload dX4_arrange_61 rfl ?_
          refine a_callV (c := 73) (as := [ai r, ai (dpF ρ s r)]) (rest := []) (c_insert τ ρ s r (dpF ρ s r) K hO hK h0 (by omega) hl rfl (inR_of (by omega) (by omega))) mvX4_insert lX4_71 k73 (by decide) rfl rfl rfl rfl (Nat.le_of_ble_eq_true rfl) (Nat.le_of_ble_eq_true rfl) (Nat.le_of_ble_eq_true rfl) dX4_arrange_63 (fun υ hu => ?_)
          obtain ⟨-, hu1, hu2⟩ := hu
          refine a_iinc (y := r + 1) (ls' := [(3, ai (r + 1)), (4, ai (dpF ρ s r)), (0, ar 73), (1, ar 7), (2, ai s)]) dX4_arrange_66 rfl rfl (Nat.le_of_ble_eq_true rfl) rfl ?_
          refine a_goto (tgt := 7) dX4_arrange_69 (by decide) ?_
          have e : oiF ρ s r K = insK (fun y => decide (dpF ρ s r < dpF ρ s y)) r K := if_pos ⟨by omega, c56⟩
          exact a_keep (by simp) (ih (r + 1) υ _ (by omega) (by omega) (by omega) (hF.trans hu1) hu2 (fun x hx => by rcases insK_mem hx with q | q; omega; have := hK x q; omega) (by rw [insK_len]; omega) (by rw [hE, itr_s, e]))

set_option maxRecDepth 20000 in
theorem c_arrange (σ ρ : Sto) (N : Nat) (hW : WV ρ) (hN : NetR σ N ρ) (hT7 : TmR σ N 7 ρ) (s : Int) (hs0 : 0 ≤ s) (hs1 : s < gN ρ 155 0) : MetA mX4_arrange [ar 73, ar 7, ai s] σ (fun a u => a = none ∧ Fg pAr σ u ∧ OrR u ρ s (ordL ρ s)) := by
  have hNk := hN.k
  have hR := hW.R
  have hS := hW.S
  have hTr := hW.T
  refine a_entry (by decide) (Nat.le_of_ble_eq_true rfl) ?_
  refine a_ls (ls' := [(0, ar 73), (1, ar 7), (2, ai s)]) rfl ?_
  refine a_aload_n dX4_arrange_0 rfl rfl ?_
  refine a_iconst dX4_arrange_1 ?_
  refine a_putI (J := 7) fX4_43 k73 rfl rfl rfl dX4_arrange_2 ?_
  refine a_iconst dX4_arrange_5 ?_
  refine a_istore_n (ls' := [(3, ai 0), (0, ar 73), (1, ar 7), (2, ai s)]) dX4_arrange_6 rfl (Nat.le_of_ble_eq_true rfl) rfl ?_
  exact a_keep (by simp) ((c_arr_l (sN σ 73 7 0) ρ N hW (hN.of hS.2 (fun d j q0 q1 => by rw [gN_sN, if_neg (by omega)])) (hT7.of gR_sN gL_sN (fun j => by rw [gN_sN, if_neg (by omega)]) (fun j => by rw [gN_sN, if_neg (by omega)]) (Or.inl (by rw [gN_sN, if_neg (by omega)]))) s hs0 hs1 (gN ρ 155 3).toNat 0 _ [] (by omega) (by omega) (by omega) Fg.rfl ⟨by rw [gN_sN, if_pos ⟨rfl, rfl⟩]; rfl, fun k x h => by simp at h⟩ (by simp) (by simp) rfl).mono (fun a u hu => ⟨hu.1, (Fg.rfl.sN (by unfold pAr; omega)).trans hu.2.1, hu.2.2⟩))

set_option maxRecDepth 20000 in
theorem c_ga_l (σ ρ : Sto) (hW : WV ρ) (t r most : Int) (ht0 : 0 ≤ t) (ht1 : t < gN ρ 155 0) (h0 : 0 ≤ r) (h1 : r < gN ρ 155 3) (hm0 : 0 ≤ most) (hm1 : most ≤ 4) (hOt : OtR σ ρ t 5) : ∀ (n : Nat) (c : Int) (τ : Sto), 0 ≤ c → c ≤ most + 1 → n = (most + 1 - c).toNat → Fg (fun c _ => c = 81 ∨ c = 82) σ τ → (∀ j : Int, 0 ≤ j → j < c → gN τ 81 j = (if AR ρ t j r ≤ gN σ 81 j then AR ρ t j r else gN σ 81 j) ∧ gN τ 82 j = if AR ρ t j r ≤ gN σ 81 j then r else gN σ 82 j) → (∀ j : Int, c ≤ j → gN τ 81 j = gN σ 81 j ∧ gN τ 82 j = gN σ 82 j) → RunA mX4_gather (fun a u => a = none ∧ Fg (fun c _ => c = 81 ∨ c = 82) σ u ∧ ∀ c : Int, 0 ≤ c → c ≤ most → gN u 81 c = (if AR ρ t c r ≤ gN σ 81 c then AR ρ t c r else gN σ 81 c) ∧ gN u 82 c = if AR ρ t c r ≤ gN σ 81 c then r else gN σ 82 c) 3 [(4, ai c), (0, ar 73), (1, ai r), (2, ar (43 + t.toNat)), (3, ai most)] [] τ := by
  have hR := hW.R
  have hS := hW.S
  intro n
  induction n with
  | zero =>
    intro c τ hc0 hc1 hn hF hZ hY
    refine a_iload dX4_gather_3 rfl ?_
    refine a_iload_n dX4_gather_5 rfl rfl ?_
    refine a_icmp_gt (tgt := 55) dX4_gather_6 (by decide) (inR_of (by omega) (by omega)) (inR_of (by omega) (by omega)) (fun c6 => ?_) (fun c6 => ?_)
    · exact a_vret rfl ⟨rfl, hF, fun j j0 j1 => hZ j j0 (by omega)⟩ dX4_gather_55
    · exfalso; omega
  | succ n ih =>
    intro c τ hc0 hc1 hn hF hZ hY
    refine a_iload dX4_gather_3 rfl ?_
    refine a_iload_n dX4_gather_5 rfl rfl ?_
    refine a_icmp_gt (tgt := 55) dX4_gather_6 (by decide) (inR_of (by omega) (by omega)) (inR_of (by omega) (by omega)) (fun c6 => ?_) (fun c6 => ?_)
    · exfalso; omega
    · refine a_aload_n dX4_gather_9 rfl rfl ?_
      refine a_iload dX4_gather_10 rfl ?_
      refine a_bipush (x := 60) dX4_gather_12 (by decide) ?_
      refine a_imul dX4_gather_14 ?_
      refine a_iload_n dX4_gather_15 rfl rfl ?_
      refine a_iadd dX4_gather_16 ?_
      refine a_ild (kR43 (by omega) (by omega)) (nR43 (by omega) (by omega)) (by omega) (by omega) dX4_gather_17 ?_
      refine a_topI (y := AR ρ t c r) (by rw [hF.n (by omega)]; exact hOt.at (by omega) (by omega) h0 h1) ?_
      have hb31 := AR_rng hW ht0 ht1 c h0 h1
      refine a_istore (ls' := [(5, ai (AR ρ t c r)), (4, ai c), (0, ar 73), (1, ai r), (2, ar (43 + t.toNat)), (3, ai most)]) dX4_gather_18 (Nat.le_of_ble_eq_true rfl) rfl ?_
      refine a_iload dX4_gather_20 rfl ?_
      refine a_aload_n dX4_gather_22 rfl rfl ?_
      refine a_getF (d := 81) fX4_33 k73 rfl r73_11 dX4_gather_23 ?_
      refine a_iload dX4_gather_26 rfl ?_
      refine a_ild k81 n81 (by omega) (by omega) dX4_gather_28 ?_
      refine a_topI (y := gN σ 81 c) (hY c (by omega)).1 ?_
      refine a_icmp_gt (tgt := 49) dX4_gather_29 (by decide) (inR_of (by omega) (by omega)) (inR_gN _ _ _) (fun c29 => ?_) (fun c29 => ?_)
      · refine a_iinc (y := c + 1) (ls' := [(4, ai (c + 1)), (5, ai (AR ρ t c r)), (0, ar 73), (1, ai r), (2, ar (43 + t.toNat)), (3, ai most)]) dX4_gather_49 rfl rfl (Nat.le_of_ble_eq_true rfl) rfl ?_
        refine a_goto (tgt := 3) dX4_gather_52 (by decide) ?_
        refine a_keep (by simp) (ih (c + 1) τ (by omega) (by omega) (by omega) hF (fun j j0 j1 => ?_) (fun j j0 => hY j (by omega)))
        by_cases e : j = c
        · rw [e, if_neg (by omega), if_neg (by omega)]; exact hY c (by omega)
        · exact hZ j j0 (by omega)
      · refine a_aload_n dX4_gather_32 rfl rfl ?_
        refine a_getF (d := 81) fX4_33 k73 rfl r73_11 dX4_gather_33 ?_
        refine a_iload dX4_gather_36 rfl ?_
        refine a_iload dX4_gather_38 rfl ?_
        refine a_ist k81 n81 (by omega) (by omega) dX4_gather_40 ?_
        refine a_aload_n dX4_gather_41 rfl rfl ?_
        refine a_getF (d := 82) fX4_36 k73 rfl r73_12 dX4_gather_42 ?_
        refine a_iload dX4_gather_45 rfl ?_
        refine a_iload_n dX4_gather_47 rfl rfl ?_
        refine a_ist k82 n82 (by omega) (by omega) dX4_gather_48 ?_
        refine a_iinc (y := c + 1) (ls' := [(4, ai (c + 1)), (5, ai (AR ρ t c r)), (0, ar 73), (1, ai r), (2, ar (43 + t.toNat)), (3, ai most)]) dX4_gather_49 rfl rfl (Nat.le_of_ble_eq_true rfl) rfl ?_
        refine a_goto (tgt := 3) dX4_gather_52 (by decide) ?_
        refine a_keep (by simp) (ih (c + 1) (sN (sN τ 81 c (AR ρ t c r)) 82 c r) (by omega) (by omega) (by omega) ((hF.sN (by omega)).sN (by omega)) (fun j j0 j1 => ?_) (fun j j0 => by rw [gN_sN, if_neg (by omega), gN_sN, if_neg (by omega), gN_sN, if_neg (by omega), gN_sN, if_neg (by omega)]; exact hY j (by omega)))
        by_cases e : j = c
        · rw [e, if_pos (by omega), if_pos (by omega)]; refine ⟨?_, ?_⟩
          · rw [gN_sN, if_neg (by omega), gN_sN, if_pos ⟨rfl, rfl⟩, nrm_of (inR_of (by omega) (by omega))]
          · rw [gN_sN, if_pos ⟨rfl, rfl⟩, nrm_of (inR_of (by omega) (by omega))]
        · have z := hZ j j0 (by omega)
          refine ⟨?_, ?_⟩
          · rw [gN_sN, if_neg (by omega), gN_sN, if_neg (by omega)]; exact z.1
          · rw [gN_sN, if_neg (by omega), gN_sN, if_neg (by omega)]; exact z.2

set_option maxRecDepth 20000 in
theorem c_gather (σ ρ : Sto) (hW : WV ρ) (t r most : Int) (ht0 : 0 ≤ t) (ht1 : t < gN ρ 155 0) (h0 : 0 ≤ r) (h1 : r < gN ρ 155 3) (hm0 : 0 ≤ most) (hm1 : most ≤ 4) (hOt : OtR σ ρ t 5) : MetA mX4_gather [ar 73, ai r, ar (43 + t.toNat), ai most] σ (fun a u => a = none ∧ Fg (fun c _ => c = 81 ∨ c = 82) σ u ∧ ∀ c : Int, 0 ≤ c → c ≤ most → gN u 81 c = (if AR ρ t c r ≤ gN σ 81 c then AR ρ t c r else gN σ 81 c) ∧ gN u 82 c = if AR ρ t c r ≤ gN σ 81 c then r else gN σ 82 c) := by
  have hR := hW.R
  have hS := hW.S
  refine a_entry (by decide) (Nat.le_of_ble_eq_true rfl) ?_
  refine a_ls (ls' := [(0, ar 73), (1, ai r), (2, ar (43 + t.toNat)), (3, ai most)]) rfl ?_
  refine a_iconst dX4_gather_0 ?_
  refine a_istore (ls' := [(4, ai 0), (0, ar 73), (1, ai r), (2, ar (43 + t.toNat)), (3, ai most)]) dX4_gather_1 (Nat.le_of_ble_eq_true rfl) rfl ?_
  exact a_keep (by simp) (c_ga_l σ ρ hW t r most ht0 ht1 h0 h1 hm0 hm1 hOt (most + 1).toNat 0 σ (by omega) (by omega) (by omega) Fg.rfl (fun j a b => by omega) (fun j a => ⟨rfl, rfl⟩))

set_option maxRecDepth 20000 in
theorem c_pu_l (σ : Sto) (mi wk most : Int) (q : Mks) (hM : MsR σ most q) (hm0 : 0 ≤ most) (hm1 : most ≤ 4) (hi0 : 0 ≤ mi) (hi1 : mi ≤ 4000) (hw0 : 0 ≤ wk) (hw1 : wk ≤ 1000000) (hlen : (q.2.2.2.length : Int) + 5 ≤ 300) : ∀ (n : Nat) (c : Int) (bf : Int) (τ : Sto) (L : List Rw), 0 ≤ c → c ≤ most + 1 → n = (most + 1 - c).toNat → -1000 ≤ bf → bf ≤ 1000000 → Fg (fun c j => (c = 73 ∧ j = 2) ∨ (74 ≤ c ∧ c ≤ 77) ∨ c = 80 ∨ c = 81) σ τ → (∀ j : Int, 0 ≤ j → j < c → gN τ 81 j = 1000000 ∧ gN τ 80 j = if q.1 j < q.2.2.1 j then q.1 j else q.2.2.1 j) → (∀ j : Int, c ≤ j → gN τ 81 j = gN σ 81 j ∧ gN τ 80 j = gN σ 80 j) → RwR τ L → (L.length : Int) ≤ q.2.2.2.length + c → itr (prF q.1 q.2.2.1 q.2.1 mi wk) (most + 1).toNat 0 (1000000, q.2.2.2) = itr (prF q.1 q.2.2.1 q.2.1 mi wk) n c (bf, L) → RunA mX4_putRows (fun a u => a = none ∧ Fg (fun c j => (c = 73 ∧ j = 2) ∨ (74 ≤ c ∧ c ≤ 77) ∨ c = 80 ∨ c = 81) σ u ∧ MsR u most (puS most mi wk q) ∧ ((puS most mi wk q).2.2.2.length : Int) ≤ q.2.2.2.length + 5) 7 [(5, ai c), (4, ai bf), (0, ar 73), (1, ai mi), (2, ai wk), (3, ai most)] [] τ := by
  intro n
  induction n with
  | zero =>
    intro c bf τ L hc0 hc1 hn hb0 hb1 hF hZ hY hL hl hE
    refine a_iload dX4_putRows_7 rfl ?_
    refine a_iload_n dX4_putRows_9 rfl rfl ?_
    refine a_icmp_gt (tgt := 150) dX4_putRows_10 (by decide) (inR_of (by omega) (by omega)) (inR_of (by omega) (by omega)) (fun c10 => ?_) (fun c10 => ?_)
    · have hc : c = most + 1 := by omega
      have hfin : (bf, L) = itr (prF q.1 q.2.2.1 q.2.1 mi wk) (most + 1).toNat 0 (1000000, q.2.2.2) := by rw [hE]; rfl
      have hrow : (puS most mi wk q).2.2.2 = L := by unfold puS; dsimp only; rw [← hfin]
      exact a_vret rfl ⟨rfl, hF, ⟨fun j j0 j1 => by have z := hZ j j0 (by omega); have hq := hM.1 j j0 j1; exact ⟨⟨z.1, z.2, fun y => absurd y (by show ¬ (1000000 : Int) < 1000000; omega)⟩, ⟨by show (-1000 : Int) ≤ 1000000; omega, by show (1000000 : Int) ≤ 1000000; omega⟩, by show -1000 ≤ (if q.1 j < q.2.2.1 j then q.1 j else q.2.2.1 j) ∧ (if q.1 j < q.2.2.1 j then q.1 j else q.2.2.1 j) ≤ 1000000; split <;> omega⟩, by rw [hrow]; exact hL⟩, by rw [hrow]; omega⟩ dX4_putRows_150
    · exfalso; omega
  | succ n ih =>
    intro c bf τ L hc0 hc1 hn hb0 hb1 hF hZ hY hL hl hE
    refine a_iload dX4_putRows_7 rfl ?_
    refine a_iload_n dX4_putRows_9 rfl rfl ?_
    refine a_icmp_gt (tgt := 150) dX4_putRows_10 (by decide) (inR_of (by omega) (by omega)) (inR_of (by omega) (by omega)) (fun c10 => ?_) (fun c10 => ?_)
    · exfalso; omega
    · have hq := hM.1 c (by omega) (by omega)
      have hl2 := hL.1
      have e81 : gN τ 81 c = q.1 c := by rw [(hY c (by omega)).1]; exact hq.1.1
      have e80 : gN τ 80 c = q.2.2.1 c := by rw [(hY c (by omega)).2]; exact hq.1.2.1
      refine a_aload_n dX4_putRows_13 rfl rfl ?_
      refine a_getF (d := 81) fX4_33 k73 rfl r73_11 dX4_putRows_14 ?_
      refine a_iload dX4_putRows_17 rfl ?_
      refine a_ild k81 n81 (by omega) (by omega) dX4_putRows_19 ?_
      refine a_topI (y := q.1 c) e81 ?_
      refine a_istore (ls' := [(6, ai (q.1 c)), (5, ai c), (4, ai bf), (0, ar 73), (1, ai mi), (2, ai wk), (3, ai most)]) dX4_putRows_20 (Nat.le_of_ble_eq_true rfl) rfl ?_
      refine a_iload dX4_putRows_22 rfl ?_
      refine a_iload dX4_putRows_24 rfl ?_
      refine a_icmp_ge (tgt := 107) dX4_putRows_26 (by decide) (inR_of (by omega) (by omega)) (inR_of (by omega) (by omega)) (fun c26 => ?_) (fun c26 => ?_)
      · refine a_iload dX4_putRows_107 rfl ?_
        refine a_iload dX4_putRows_109 rfl ?_
        refine a_mmin lm4_102 (inR_of (by omega) (by omega)) (inR_of (by omega) (by omega)) (Nat.le_of_ble_eq_true rfl) (Nat.le_of_ble_eq_true rfl) (Nat.le_of_ble_eq_true rfl) dX4_putRows_111 ?_
        refine a_istore (ls' := [(4, ai (if q.1 c < bf then q.1 c else bf)), (6, ai (q.1 c)), (5, ai c), (0, ar 73), (1, ai mi), (2, ai wk), (3, ai most)]) dX4_putRows_114 (Nat.le_of_ble_eq_true rfl) rfl ?_
        refine a_aload_n dX4_putRows_116 rfl rfl ?_
        refine a_getF (d := 80) fX4_30 k73 rfl r73_10 dX4_putRows_117 ?_
        refine a_iload dX4_putRows_120 rfl ?_
        refine a_aload_n dX4_putRows_122 rfl rfl ?_
        refine a_getF (d := 80) fX4_30 k73 rfl r73_10 dX4_putRows_123 ?_
        refine a_iload dX4_putRows_126 rfl ?_
        refine a_ild k80 n80 (by omega) (by omega) dX4_putRows_128 ?_
        refine a_topI (y := q.2.2.1 c) (by exact e80) ?_
        refine a_iload dX4_putRows_129 rfl ?_
        refine a_mmin lm4_102 (inR_of (by omega) (by omega)) (inR_of (by omega) (by omega)) (Nat.le_of_ble_eq_true rfl) (Nat.le_of_ble_eq_true rfl) (Nat.le_of_ble_eq_true rfl) dX4_putRows_131 ?_
        refine a_ist k80 n80 (by omega) (by omega) dX4_putRows_134 ?_
        refine a_aload_n dX4_putRows_135 rfl rfl ?_
        refine a_getF (d := 81) fX4_33 k73 rfl r73_11 dX4_putRows_136 ?_
        refine a_iload dX4_putRows_139 rfl ?_
        refine a_ldc (x := 1000000) cX4_87 (by decide) dX4_putRows_141 ?_
        refine a_ist k81 n81 (by omega) (by omega) dX4_putRows_143 ?_
        refine a_iinc (y := c + 1) (ls' := [(5, ai (c + 1)), (4, ai (if q.1 c < bf then q.1 c else bf)), (6, ai (q.1 c)), (0, ar 73), (1, ai mi), (2, ai wk), (3, ai most)]) dX4_putRows_144 rfl rfl (Nat.le_of_ble_eq_true rfl) rfl ?_
        refine a_goto (tgt := 7) dX4_putRows_147 (by decide) ?_
        have e : prF q.1 q.2.2.1 q.2.1 mi wk c (bf, L) = (if q.1 c < bf then q.1 c else bf, L) := by unfold prF; dsimp only; exact Prod.ext rfl (if_neg (by omega))
        refine a_keep (by simp) (ih (c + 1) (if q.1 c < bf then q.1 c else bf) (sN (sN τ 80 c (if q.1 c < q.2.2.1 c then q.1 c else q.2.2.1 c)) 81 c 1000000) L (by omega) (by omega) (by omega) (by split <;> omega) (by split <;> omega) (((hF).sN (by omega)).sN (by omega)) (fun j j0 j1 => ?_) (fun j j0 => ?_) (hL.of (by rw [gN_sN, if_neg (by omega), gN_sN, if_neg (by omega)]) (fun x j _ _ => by rw [gN_sN, if_neg (by omega), gN_sN, if_neg (by omega)])) (by omega) (by rw [hE, itr_s, e]))
        · by_cases e : j = c
          · refine ⟨?_, ?_⟩
            · rw [e, gN_sN, if_pos ⟨rfl, rfl⟩]; rfl
            · rw [e, gN_sN, if_neg (by omega), gN_sN, if_pos ⟨rfl, rfl⟩, nrm_of (inR_of (by split <;> omega) (by split <;> omega))]
          · have z := hZ j j0 (by omega)
            refine ⟨?_, ?_⟩
            · rw [gN_sN, if_neg (by omega)]; rw [gN_sN, if_neg (by omega)]; exact z.1
            · rw [gN_sN, if_neg (by omega)]; rw [gN_sN, if_neg (by omega)]; exact z.2
        · have z := hY j (by omega)
          refine ⟨?_, ?_⟩
          · rw [gN_sN, if_neg (by omega)]; rw [gN_sN, if_neg (by omega)]; exact z.1
          · rw [gN_sN, if_neg (by omega)]; rw [gN_sN, if_neg (by omega)]; exact z.2
      · refine a_iload dX4_putRows_29 rfl ?_
        refine a_aload_n dX4_putRows_31 rfl rfl ?_
        refine a_getF (d := 80) fX4_30 k73 rfl r73_10 dX4_putRows_32 ?_
        refine a_iload dX4_putRows_35 rfl ?_
        refine a_ild k80 n80 (by omega) (by omega) dX4_putRows_37 ?_
        refine a_topI (y := q.2.2.1 c) e80 ?_
        refine a_icmp_ge (tgt := 107) dX4_putRows_38 (by decide) (inR_of (by omega) (by omega)) (inR_of (by omega) (by omega)) (fun c38 => ?_) (fun c38 => ?_)
        · refine a_iload dX4_putRows_107 rfl ?_
          refine a_iload dX4_putRows_109 rfl ?_
          refine a_mmin lm4_102 (inR_of (by omega) (by omega)) (inR_of (by omega) (by omega)) (Nat.le_of_ble_eq_true rfl) (Nat.le_of_ble_eq_true rfl) (Nat.le_of_ble_eq_true rfl) dX4_putRows_111 ?_
          refine a_istore (ls' := [(4, ai (if q.1 c < bf then q.1 c else bf)), (6, ai (q.1 c)), (5, ai c), (0, ar 73), (1, ai mi), (2, ai wk), (3, ai most)]) dX4_putRows_114 (Nat.le_of_ble_eq_true rfl) rfl ?_
          refine a_aload_n dX4_putRows_116 rfl rfl ?_
          refine a_getF (d := 80) fX4_30 k73 rfl r73_10 dX4_putRows_117 ?_
          refine a_iload dX4_putRows_120 rfl ?_
          refine a_aload_n dX4_putRows_122 rfl rfl ?_
          refine a_getF (d := 80) fX4_30 k73 rfl r73_10 dX4_putRows_123 ?_
          refine a_iload dX4_putRows_126 rfl ?_
          refine a_ild k80 n80 (by omega) (by omega) dX4_putRows_128 ?_
          refine a_topI (y := q.2.2.1 c) (by exact e80) ?_
          refine a_iload dX4_putRows_129 rfl ?_
          refine a_mmin lm4_102 (inR_of (by omega) (by omega)) (inR_of (by omega) (by omega)) (Nat.le_of_ble_eq_true rfl) (Nat.le_of_ble_eq_true rfl) (Nat.le_of_ble_eq_true rfl) dX4_putRows_131 ?_
          refine a_ist k80 n80 (by omega) (by omega) dX4_putRows_134 ?_
          refine a_aload_n dX4_putRows_135 rfl rfl ?_
          refine a_getF (d := 81) fX4_33 k73 rfl r73_11 dX4_putRows_136 ?_
          refine a_iload dX4_putRows_139 rfl ?_
          refine a_ldc (x := 1000000) cX4_87 (by decide) dX4_putRows_141 ?_
          refine a_ist k81 n81 (by omega) (by omega) dX4_putRows_143 ?_
          refine a_iinc (y := c + 1) (ls' := [(5, ai (c + 1)), (4, ai (if q.1 c < bf then q.1 c else bf)), (6, ai (q.1 c)), (0, ar 73), (1, ai mi), (2, ai wk), (3, ai most)]) dX4_putRows_144 rfl rfl (Nat.le_of_ble_eq_true rfl) rfl ?_
          refine a_goto (tgt := 7) dX4_putRows_147 (by decide) ?_
          have e : prF q.1 q.2.2.1 q.2.1 mi wk c (bf, L) = (if q.1 c < bf then q.1 c else bf, L) := by unfold prF; dsimp only; exact Prod.ext rfl (if_neg (by omega))
          refine a_keep (by simp) (ih (c + 1) (if q.1 c < bf then q.1 c else bf) (sN (sN τ 80 c (if q.1 c < q.2.2.1 c then q.1 c else q.2.2.1 c)) 81 c 1000000) L (by omega) (by omega) (by omega) (by split <;> omega) (by split <;> omega) (((hF).sN (by omega)).sN (by omega)) (fun j j0 j1 => ?_) (fun j j0 => ?_) (hL.of (by rw [gN_sN, if_neg (by omega), gN_sN, if_neg (by omega)]) (fun x j _ _ => by rw [gN_sN, if_neg (by omega), gN_sN, if_neg (by omega)])) (by omega) (by rw [hE, itr_s, e]))
          · by_cases e : j = c
            · refine ⟨?_, ?_⟩
              · rw [e, gN_sN, if_pos ⟨rfl, rfl⟩]; rfl
              · rw [e, gN_sN, if_neg (by omega), gN_sN, if_pos ⟨rfl, rfl⟩, nrm_of (inR_of (by split <;> omega) (by split <;> omega))]
            · have z := hZ j j0 (by omega)
              refine ⟨?_, ?_⟩
              · rw [gN_sN, if_neg (by omega)]; rw [gN_sN, if_neg (by omega)]; exact z.1
              · rw [gN_sN, if_neg (by omega)]; rw [gN_sN, if_neg (by omega)]; exact z.2
          · have z := hY j (by omega)
            refine ⟨?_, ?_⟩
            · rw [gN_sN, if_neg (by omega)]; rw [gN_sN, if_neg (by omega)]; exact z.1
            · rw [gN_sN, if_neg (by omega)]; rw [gN_sN, if_neg (by omega)]; exact z.2
        · refine a_iload dX4_putRows_41 rfl ?_
          refine a_iload_n dX4_putRows_43 rfl rfl ?_
          refine a_isub dX4_putRows_44 ?_
          refine a_iload_n dX4_putRows_45 rfl rfl ?_
          refine a_icmp_ge (tgt := 107) dX4_putRows_46 (by decide) (inR_of (by omega) (by omega)) (inR_of (by omega) (by omega)) (fun c46 => ?_) (fun c46 => ?_)
          · refine a_iload dX4_putRows_107 rfl ?_
            refine a_iload dX4_putRows_109 rfl ?_
            refine a_mmin lm4_102 (inR_of (by omega) (by omega)) (inR_of (by omega) (by omega)) (Nat.le_of_ble_eq_true rfl) (Nat.le_of_ble_eq_true rfl) (Nat.le_of_ble_eq_true rfl) dX4_putRows_111 ?_
            refine a_istore (ls' := [(4, ai (if q.1 c < bf then q.1 c else bf)), (6, ai (q.1 c)), (5, ai c), (0, ar 73), (1, ai mi), (2, ai wk), (3, ai most)]) dX4_putRows_114 (Nat.le_of_ble_eq_true rfl) rfl ?_
            refine a_aload_n dX4_putRows_116 rfl rfl ?_
            refine a_getF (d := 80) fX4_30 k73 rfl r73_10 dX4_putRows_117 ?_
            refine a_iload dX4_putRows_120 rfl ?_
            refine a_aload_n dX4_putRows_122 rfl rfl ?_
            refine a_getF (d := 80) fX4_30 k73 rfl r73_10 dX4_putRows_123 ?_
            refine a_iload dX4_putRows_126 rfl ?_
            refine a_ild k80 n80 (by omega) (by omega) dX4_putRows_128 ?_
            refine a_topI (y := q.2.2.1 c) (by exact e80) ?_
            refine a_iload dX4_putRows_129 rfl ?_
            refine a_mmin lm4_102 (inR_of (by omega) (by omega)) (inR_of (by omega) (by omega)) (Nat.le_of_ble_eq_true rfl) (Nat.le_of_ble_eq_true rfl) (Nat.le_of_ble_eq_true rfl) dX4_putRows_131 ?_
            refine a_ist k80 n80 (by omega) (by omega) dX4_putRows_134 ?_
            refine a_aload_n dX4_putRows_135 rfl rfl ?_
            refine a_getF (d := 81) fX4_33 k73 rfl r73_11 dX4_putRows_136 ?_
            refine a_iload dX4_putRows_139 rfl ?_
            refine a_ldc (x := 1000000) cX4_87 (by decide) dX4_putRows_141 ?_
            refine a_ist k81 n81 (by omega) (by omega) dX4_putRows_143 ?_
            refine a_iinc (y := c + 1) (ls' := [(5, ai (c + 1)), (4, ai (if q.1 c < bf then q.1 c else bf)), (6, ai (q.1 c)), (0, ar 73), (1, ai mi), (2, ai wk), (3, ai most)]) dX4_putRows_144 rfl rfl (Nat.le_of_ble_eq_true rfl) rfl ?_
            refine a_goto (tgt := 7) dX4_putRows_147 (by decide) ?_
            have e : prF q.1 q.2.2.1 q.2.1 mi wk c (bf, L) = (if q.1 c < bf then q.1 c else bf, L) := by unfold prF; dsimp only; exact Prod.ext rfl (if_neg (by omega))
            refine a_keep (by simp) (ih (c + 1) (if q.1 c < bf then q.1 c else bf) (sN (sN τ 80 c (if q.1 c < q.2.2.1 c then q.1 c else q.2.2.1 c)) 81 c 1000000) L (by omega) (by omega) (by omega) (by split <;> omega) (by split <;> omega) (((hF).sN (by omega)).sN (by omega)) (fun j j0 j1 => ?_) (fun j j0 => ?_) (hL.of (by rw [gN_sN, if_neg (by omega), gN_sN, if_neg (by omega)]) (fun x j _ _ => by rw [gN_sN, if_neg (by omega), gN_sN, if_neg (by omega)])) (by omega) (by rw [hE, itr_s, e]))
            · by_cases e : j = c
              · refine ⟨?_, ?_⟩
                · rw [e, gN_sN, if_pos ⟨rfl, rfl⟩]; rfl
                · rw [e, gN_sN, if_neg (by omega), gN_sN, if_pos ⟨rfl, rfl⟩, nrm_of (inR_of (by split <;> omega) (by split <;> omega))]
              · have z := hZ j j0 (by omega)
                refine ⟨?_, ?_⟩
                · rw [gN_sN, if_neg (by omega)]; rw [gN_sN, if_neg (by omega)]; exact z.1
                · rw [gN_sN, if_neg (by omega)]; rw [gN_sN, if_neg (by omega)]; exact z.2
            · have z := hY j (by omega)
              refine ⟨?_, ?_⟩
              · rw [gN_sN, if_neg (by omega)]; rw [gN_sN, if_neg (by omega)]; exact z.1
              · rw [gN_sN, if_neg (by omega)]; rw [gN_sN, if_neg (by omega)]; exact z.2
          · refine a_aload_n dX4_putRows_49 rfl rfl ?_
            refine a_dup dX4_putRows_50 rfl ?_
            refine a_getI (J := 2) fX4_39 k73 rfl rfl dX4_putRows_51 ?_
            refine a_iconst dX4_putRows_54 ?_
            refine a_isub dX4_putRows_55 ?_
            refine a_putI (J := 2) fX4_39 k73 rfl rfl rfl dX4_putRows_56 ?_
            refine a_aload_n dX4_putRows_59 rfl rfl ?_
            refine a_getF (d := 74) fX4_11 k73 rfl r73_3 dX4_putRows_60 ?_
            refine a_aload_n dX4_putRows_63 rfl rfl ?_
            refine a_getI (J := 2) fX4_39 k73 rfl rfl dX4_putRows_64 ?_
            refine a_topI (y := gN τ 73 2 - 1) (by rw [gN_sN, if_pos ⟨rfl, rfl⟩, nrm_of (inR_of (by omega) (by omega))]) ?_
            refine a_iload_n dX4_putRows_67 rfl rfl ?_
            refine a_ist k74 n74 (by omega) (by omega) dX4_putRows_68 ?_
            refine a_aload_n dX4_putRows_69 rfl rfl ?_
            refine a_getF (d := 75) fX4_15 k73 rfl r73_4 dX4_putRows_70 ?_
            refine a_aload_n dX4_putRows_73 rfl rfl ?_
            refine a_getI (J := 2) fX4_39 k73 rfl rfl dX4_putRows_74 ?_
            refine a_topI (y := gN τ 73 2 - 1) (by rw [gN_sN, if_neg (by omega)]; rw [gN_sN, if_pos ⟨rfl, rfl⟩, nrm_of (inR_of (by omega) (by omega))]) ?_
            refine a_iload dX4_putRows_77 rfl ?_
            refine a_ist k75 n75 (by omega) (by omega) dX4_putRows_79 ?_
            refine a_aload_n dX4_putRows_80 rfl rfl ?_
            refine a_getF (d := 76) fX4_18 k73 rfl r73_5 dX4_putRows_81 ?_
            refine a_aload_n dX4_putRows_84 rfl rfl ?_
            refine a_getI (J := 2) fX4_39 k73 rfl rfl dX4_putRows_85 ?_
            refine a_topI (y := gN τ 73 2 - 1) (by rw [gN_sN, if_neg (by omega)]; rw [gN_sN, if_neg (by omega)]; rw [gN_sN, if_pos ⟨rfl, rfl⟩, nrm_of (inR_of (by omega) (by omega))]) ?_
            refine a_iload dX4_putRows_88 rfl ?_
            refine a_ist k76 n76 (by omega) (by omega) dX4_putRows_90 ?_
            refine a_aload_n dX4_putRows_91 rfl rfl ?_
            refine a_getF (d := 77) fX4_21 k73 rfl r73_6 dX4_putRows_92 ?_
            refine a_aload_n dX4_putRows_95 rfl rfl ?_
            refine a_getI (J := 2) fX4_39 k73 rfl rfl dX4_putRows_96 ?_
            refine a_topI (y := gN τ 73 2 - 1) (by rw [gN_sN, if_neg (by omega)]; rw [gN_sN, if_neg (by omega)]; rw [gN_sN, if_neg (by omega)]; rw [gN_sN, if_pos ⟨rfl, rfl⟩, nrm_of (inR_of (by omega) (by omega))]) ?_
            refine a_aload_n dX4_putRows_99 rfl rfl ?_
            refine a_getF (d := 82) fX4_36 k73 rfl r73_12 dX4_putRows_100 ?_
            refine a_iload dX4_putRows_103 rfl ?_
            refine a_ild k82 n82 (by omega) (by omega) dX4_putRows_105 ?_
            have e82 : gN τ 82 c = q.2.1 c := by rw [hF.n (by omega)]; exact hq.1.2.2 (by omega)
            refine a_topI (y := q.2.1 c) (by rw [gN_sN, if_neg (by omega), gN_sN, if_neg (by omega), gN_sN, if_neg (by omega), gN_sN, if_neg (by omega)]; exact e82) ?_
            refine a_ist k77 n77 (by omega) (by omega) dX4_putRows_106 ?_
            refine a_iload dX4_putRows_107 rfl ?_
            refine a_iload dX4_putRows_109 rfl ?_
            refine a_mmin lm4_102 (inR_of (by omega) (by omega)) (inR_of (by omega) (by omega)) (Nat.le_of_ble_eq_true rfl) (Nat.le_of_ble_eq_true rfl) (Nat.le_of_ble_eq_true rfl) dX4_putRows_111 ?_
            refine a_istore (ls' := [(4, ai (if q.1 c < bf then q.1 c else bf)), (6, ai (q.1 c)), (5, ai c), (0, ar 73), (1, ai mi), (2, ai wk), (3, ai most)]) dX4_putRows_114 (Nat.le_of_ble_eq_true rfl) rfl ?_
            refine a_aload_n dX4_putRows_116 rfl rfl ?_
            refine a_getF (d := 80) fX4_30 k73 rfl r73_10 dX4_putRows_117 ?_
            refine a_iload dX4_putRows_120 rfl ?_
            refine a_aload_n dX4_putRows_122 rfl rfl ?_
            refine a_getF (d := 80) fX4_30 k73 rfl r73_10 dX4_putRows_123 ?_
            refine a_iload dX4_putRows_126 rfl ?_
            refine a_ild k80 n80 (by omega) (by omega) dX4_putRows_128 ?_
            refine a_topI (y := q.2.2.1 c) (by rw [gN_sN, if_neg (by omega)]; rw [gN_sN, if_neg (by omega)]; rw [gN_sN, if_neg (by omega)]; rw [gN_sN, if_neg (by omega)]; rw [gN_sN, if_neg (by omega)]; exact e80) ?_
            refine a_iload dX4_putRows_129 rfl ?_
            refine a_mmin lm4_102 (inR_of (by omega) (by omega)) (inR_of (by omega) (by omega)) (Nat.le_of_ble_eq_true rfl) (Nat.le_of_ble_eq_true rfl) (Nat.le_of_ble_eq_true rfl) dX4_putRows_131 ?_
            refine a_ist k80 n80 (by omega) (by omega) dX4_putRows_134 ?_
            refine a_aload_n dX4_putRows_135 rfl rfl ?_
            refine a_getF (d := 81) fX4_33 k73 rfl r73_11 dX4_putRows_136 ?_
            refine a_iload dX4_putRows_139 rfl ?_
            refine a_ldc (x := 1000000) cX4_87 (by decide) dX4_putRows_141 ?_
            refine a_ist k81 n81 (by omega) (by omega) dX4_putRows_143 ?_
            refine a_iinc (y := c + 1) (ls' := [(5, ai (c + 1)), (4, ai (if q.1 c < bf then q.1 c else bf)), (6, ai (q.1 c)), (0, ar 73), (1, ai mi), (2, ai wk), (3, ai most)]) dX4_putRows_144 rfl rfl (Nat.le_of_ble_eq_true rfl) rfl ?_
            refine a_goto (tgt := 7) dX4_putRows_147 (by decide) ?_
            have e : prF q.1 q.2.2.1 q.2.1 mi wk c (bf, L) = (if q.1 c < bf then q.1 c else bf, ((mi, q.1 c, c, q.2.1 c) :: L)) := by unfold prF; dsimp only; exact Prod.ext rfl (if_pos ⟨by omega, by omega, by omega⟩)
            refine a_keep (by simp) (ih (c + 1) (if q.1 c < bf then q.1 c else bf) (sN (sN (sN (sN (sN (sN (sN τ 73 2 (gN τ 73 2 - 1)) 74 (gN τ 73 2 - 1) mi) 75 (gN τ 73 2 - 1) (q.1 c)) 76 (gN τ 73 2 - 1) c) 77 (gN τ 73 2 - 1) (q.2.1 c)) 80 c (if q.1 c < q.2.2.1 c then q.1 c else q.2.2.1 c)) 81 c 1000000) ((mi, q.1 c, c, q.2.1 c) :: L) (by omega) (by omega) (by omega) (by split <;> omega) (by split <;> omega) ((((((((hF).sN (by omega)).sN (by omega)).sN (by omega)).sN (by omega)).sN (by omega)).sN (by omega)).sN (by omega)) (fun j j0 j1 => ?_) (fun j j0 => ?_) ((hL.put (by omega) (inR_of (by omega) (by omega)) (inR_of (by omega) (by omega)) (inR_of (by omega) (by omega)) (e82 ▸ inR_gN _ _ _)).of (by rw [gN_sN, if_neg (by omega), gN_sN, if_neg (by omega)]) (fun x j _ _ => by rw [gN_sN, if_neg (by omega), gN_sN, if_neg (by omega)])) (by rw [List.length_cons]; omega) (by rw [hE, itr_s, e]))
            · by_cases e : j = c
              · refine ⟨?_, ?_⟩
                · rw [e, gN_sN, if_pos ⟨rfl, rfl⟩]; rfl
                · rw [e, gN_sN, if_neg (by omega), gN_sN, if_pos ⟨rfl, rfl⟩, nrm_of (inR_of (by split <;> omega) (by split <;> omega))]
              · have z := hZ j j0 (by omega)
                refine ⟨?_, ?_⟩
                · rw [gN_sN, if_neg (by omega)]; rw [gN_sN, if_neg (by omega)]; rw [gN_sN, if_neg (by omega)]; rw [gN_sN, if_neg (by omega)]; rw [gN_sN, if_neg (by omega)]; rw [gN_sN, if_neg (by omega)]; rw [gN_sN, if_neg (by omega)]; exact z.1
                · rw [gN_sN, if_neg (by omega)]; rw [gN_sN, if_neg (by omega)]; rw [gN_sN, if_neg (by omega)]; rw [gN_sN, if_neg (by omega)]; rw [gN_sN, if_neg (by omega)]; rw [gN_sN, if_neg (by omega)]; rw [gN_sN, if_neg (by omega)]; exact z.2
            · have z := hY j (by omega)
              refine ⟨?_, ?_⟩
              · rw [gN_sN, if_neg (by omega)]; rw [gN_sN, if_neg (by omega)]; rw [gN_sN, if_neg (by omega)]; rw [gN_sN, if_neg (by omega)]; rw [gN_sN, if_neg (by omega)]; rw [gN_sN, if_neg (by omega)]; rw [gN_sN, if_neg (by omega)]; exact z.1
              · rw [gN_sN, if_neg (by omega)]; rw [gN_sN, if_neg (by omega)]; rw [gN_sN, if_neg (by omega)]; rw [gN_sN, if_neg (by omega)]; rw [gN_sN, if_neg (by omega)]; rw [gN_sN, if_neg (by omega)]; rw [gN_sN, if_neg (by omega)]; exact z.2

set_option maxRecDepth 20000 in
theorem c_putRows (σ : Sto) (mi wk most : Int) (q : Mks) (hM : MsR σ most q) (hm0 : 0 ≤ most) (hm1 : most ≤ 4) (hi0 : 0 ≤ mi) (hi1 : mi ≤ 4000) (hw0 : 0 ≤ wk) (hw1 : wk ≤ 1000000) (hlen : (q.2.2.2.length : Int) + 5 ≤ 300) : MetA mX4_putRows [ar 73, ai mi, ai wk, ai most] σ (fun a u => a = none ∧ Fg (fun c j => (c = 73 ∧ j = 2) ∨ (74 ≤ c ∧ c ≤ 77) ∨ c = 80 ∨ c = 81) σ u ∧ MsR u most (puS most mi wk q) ∧ ((puS most mi wk q).2.2.2.length : Int) ≤ q.2.2.2.length + 5) := by
  refine a_entry (by decide) (Nat.le_of_ble_eq_true rfl) ?_
  refine a_ls (ls' := [(0, ar 73), (1, ai mi), (2, ai wk), (3, ai most)]) rfl ?_
  refine a_ldc (x := 1000000) cX4_87 (by decide) dX4_putRows_0 ?_
  refine a_istore (ls' := [(4, ai 1000000), (0, ar 73), (1, ai mi), (2, ai wk), (3, ai most)]) dX4_putRows_2 (Nat.le_of_ble_eq_true rfl) rfl ?_
  refine a_iconst dX4_putRows_4 ?_
  refine a_istore (ls' := [(5, ai 0), (4, ai 1000000), (0, ar 73), (1, ai mi), (2, ai wk), (3, ai most)]) dX4_putRows_5 (Nat.le_of_ble_eq_true rfl) rfl ?_
  exact a_keep (by simp) (c_pu_l σ mi wk most q hM hm0 hm1 hi0 hi1 hw0 hw1 hlen (most + 1).toNat 0 1000000 σ q.2.2.2 (by omega) (by omega) (by omega) (by omega) (by omega) Fg.rfl (fun j a b => by omega) (fun j a => ⟨rfl, rfl⟩) hM.2 (by omega) rfl)

