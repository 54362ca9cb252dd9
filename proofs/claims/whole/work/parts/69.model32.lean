set_option maxRecDepth 20000 in
theorem t_tx_l (σ : Sto) (hT : TpOK σ) (hs0 : 0 ≤ gN σ 153 6) (hs1 : gN σ 153 6 ≤ 900) (Q : Option Av → Sto → Prop) (n : Int) (Z : RS) (hx : ∀ υ : Sto, RD σ υ Z → ROK σ Z → RunA mX9_text Q 65 [(0, ar 153), (1, ai n)] [] υ) : ∀ (d : Nat) (q : RS) (τ : Sto), RD σ τ q → ROK σ q → Z = linesF σ d q → (q.fa = 0 → Adv q ∧ gN σ 153 6 + 1 - q.pl ≤ d) → RunA mX9_text Q 43 [(0, ar 153), (1, ai n)] [] τ := by
  intro d
  induction d with
  | zero =>
    intro q τ hD hO hZ hA
    refine a_aload_n dX9_text_43 rfl rfl ?_
    refine a_getI (J := 12) fX9_132 k153 rfl rfl dX9_text_44 ?_
    refine a_topI (y := q.fa) hD.fa ?_
    refine a_if_ne (tgt := 65) dX9_text_47 (by decide) hD.ifa (fun c47 => ?_) (fun c47 => ?_)
    · have hZe : Z = q := hZ
      exact a_keep (by simp) (hx _ (by rw [hZe]; exact hD) (by rw [hZe]; exact hO))
    · exfalso; have := hA (by omega); have := hO.a; have := this.2; unfold Adv at *; omega
  | succ d ih =>
    intro q τ hD hO hZ hA
    refine a_aload_n dX9_text_43 rfl rfl ?_
    refine a_getI (J := 12) fX9_132 k153 rfl rfl dX9_text_44 ?_
    refine a_topI (y := q.fa) hD.fa ?_
    refine a_if_ne (tgt := 65) dX9_text_47 (by decide) hD.ifa (fun c47 => ?_) (fun c47 => ?_)
    · have hZe : Z = q := by rw [hZ]; show (if q.fa = 0 ∧ q.so ≠ 3 then _ else q) = q; rw [if_neg (by omega)]
      exact a_keep (by simp) (hx _ (by rw [hZe]; exact hD) (by rw [hZe]; exact hO))
    · refine a_aload_n dX9_text_50 rfl rfl ?_
      refine a_getI (J := 9) fX9_104 k153 rfl rfl dX9_text_51 ?_
      refine a_topI (y := q.so) hD.so ?_
      refine a_iconst dX9_text_54 ?_
      refine a_icmp_eq (tgt := 65) dX9_text_55 (by decide) hD.iso (inR_of (by omega) (by omega)) (fun c55 => ?_) (fun c55 => ?_)
      · have hZe : Z = q := by rw [hZ]; show (if q.fa = 0 ∧ q.so ≠ 3 then _ else q) = q; rw [if_neg (by omega)]
        exact a_keep (by simp) (hx _ (by rw [hZe]; exact hD) (by rw [hZe]; exact hO))
      · refine a_aload_n dX9_text_58 rfl rfl ?_
        refine a_callV (c := 153) (as := []) (rest := []) (t_readLine σ τ q   hD hT hs0 hs1 hO) mvX9_readLine lX9_189 k153 (by decide) rfl rfl rfl rfl (Nat.le_of_ble_eq_true rfl) (Nat.le_of_ble_eq_true rfl) (Nat.le_of_ble_eq_true rfl) dX9_text_59 (fun υ56 hu => ?_)
        obtain ⟨-, hD56⟩ := hu
        refine a_goto (tgt := 43) dX9_text_62 (by decide) ?_
        have hc : q.fa = 0 ∧ q.so ≠ 3 := by omega
        have ha := hA hc.1
        refine a_keep (by simp) (ih (lineF σ q) _ hD56 (lineF_ok hO) (by rw [hZ]; show (if q.fa = 0 ∧ q.so ≠ 3 then _ else q) = _; rw [if_pos hc]) (fun z => ?_))
        have la := line_adv hO ha.1 hc.2 z
        exact ⟨la.1, by omega⟩

set_option maxRecDepth 20000 in
theorem t_text (σ : Sto) (n : Int) (hn : inR n) (hT : TpOK σ) (h20 : 0 ≤ gN σ 153 2) (h21 : gN σ 153 2 ≤ 900) : MetA mX9_text [ar 153, ai n] σ (TxPost σ n) := by
  refine a_entry (by decide) (Nat.le_of_ble_eq_true rfl) ?_
  refine a_ls (ls' := [(0, ar 153), (1, ai n)]) rfl ?_
  refine a_aload_n dX9_text_0 rfl rfl ?_
  refine a_iconst dX9_text_1 ?_
  refine a_putI (J := 0) fX9_85 k153 rfl rfl rfl dX9_text_2 ?_
  refine a_iload_n dX9_text_5 rfl rfl ?_
  refine a_if_lt (tgt := 17) dX9_text_6 (by decide) hn (fun c6 => ?_) (fun c6 => ?_)
  · refine a_bipush (x := (-2)) dX9_text_17 (by decide) ?_
    exact a_iret rfl (by unfold TxPost; rw [if_pos (by omega)]; exact ⟨rfl, rfl⟩) dX9_text_19
  · refine a_iload_n dX9_text_9 rfl rfl ?_
    refine a_aload_n dX9_text_10 rfl rfl ?_
    refine a_getI (J := 2) fX9_88 k153 rfl rfl dX9_text_11 ?_
    refine a_topI (y := gN σ 153 2) (by rw [gN_sN, if_neg (by omega)]) ?_
    refine a_icmp_le (tgt := 20) dX9_text_14 (by decide) hn (inR_gN _ _ _) (fun c14 => ?_) (fun c14 => ?_)
    · refine a_aload_n dX9_text_20 rfl rfl ?_
      refine a_callV (c := 153) (as := []) (rest := []) (t_freshText (sN σ 153 0 0)) mvX9_freshText lX9_79 k153 (by decide) rfl rfl rfl rfl (Nat.le_of_ble_eq_true rfl) (Nat.le_of_ble_eq_true rfl) (Nat.le_of_ble_eq_true rfl) dX9_text_21 (fun u hu => ?_)
      obtain ⟨-, hFu, hru⟩ := hu
      refine a_aload_n dX9_text_24 rfl rfl ?_
      refine a_iload_n dX9_text_25 rfl rfl ?_
      refine a_putI (J := 6) fX9_94 k153 rfl rfl rfl dX9_text_26 ?_
      refine a_aload_n dX9_text_29 rfl rfl ?_
      refine a_iconst dX9_text_30 ?_
      refine a_putI (J := 7) fX9_91 k153 rfl rfl rfl dX9_text_31 ?_
      refine a_aload_n dX9_text_34 rfl rfl ?_
      refine a_iconst dX9_text_35 ?_
      refine a_putI (J := 12) fX9_132 k153 rfl rfl rfl dX9_text_36 ?_
      have e8 : ∀ j : Int, (8 ≤ j ∧ j ≤ 11) ∨ j = 13 → gN (sN (sN (sN u 153 6 n) 153 7 0) 153 12 0) 153 j = gN σ 153 j := fun j hj => by rw [gN_sN, if_neg (by omega), gN_sN, if_neg (by omega), gN_sN, if_neg (by omega), hFu.1 153 j (by omega), gN_sN, if_neg (by omega)]
      have e154 : ∀ j, gN (sN (sN (sN u 153 6 n) 153 7 0) 153 12 0) 154 j = gN σ 154 j := fun j => by rw [gN_sN, if_neg (by omega), gN_sN, if_neg (by omega), gN_sN, if_neg (by omega), hFu.1 154 j (by omega), gN_sN, if_neg (by omega)]
      have e6 : gN (sN (sN (sN u 153 6 n) 153 7 0) 153 12 0) 153 6 = n := by rw [gN_sN, if_neg (by omega), gN_sN, if_neg (by omega), gN_sN, if_pos ⟨rfl, rfl⟩, nrm_of (inR_of (by omega) (by omega))]
      have hFs : Fr pTx σ (sN (sN (sN u 153 6 n) 153 7 0) 153 12 0) := (((((Fr.rfl.sN (by unfold pTx; omega)).trans (hFu.mono (fun c j q => by unfold pTx; omega))).sN (by unfold pTx; omega)).sN (by unfold pTx; omega)).sN (by unfold pTx; omega))
      have eoth : (∀ j, gN (sN (sN (sN u 153 6 n) 153 7 0) 153 12 0) 155 j = gN σ 155 j) ∧ (∀ j, gN (sN (sN (sN u 153 6 n) 153 7 0) 153 12 0) 158 j = gN σ 158 j) ∧ gN (sN (sN (sN u 153 6 n) 153 7 0) 153 12 0) 153 20 = gN σ 153 20 ∧ gN (sN (sN (sN u 153 6 n) 153 7 0) 153 12 0) 153 38 = gN σ 153 38 ∧ gN (sN (sN (sN u 153 6 n) 153 7 0) 153 12 0) 153 0 = 0 := ⟨fun j => by rw [gN_sN, if_neg (by omega), gN_sN, if_neg (by omega), gN_sN, if_neg (by omega), hFu.1 155 j (by omega), gN_sN, if_neg (by omega)], fun j => by rw [gN_sN, if_neg (by omega), gN_sN, if_neg (by omega), gN_sN, if_neg (by omega), hFu.1 158 j (by omega), gN_sN, if_neg (by omega)], by rw [gN_sN, if_neg (by omega), gN_sN, if_neg (by omega), gN_sN, if_neg (by omega), hFu.1 153 20 (by omega), gN_sN, if_neg (by omega)], by rw [gN_sN, if_neg (by omega), gN_sN, if_neg (by omega), gN_sN, if_neg (by omega), hFu.1 153 38 (by omega), gN_sN, if_neg (by omega)], by rw [gN_sN, if_neg (by omega), gN_sN, if_neg (by omega), gN_sN, if_neg (by omega), hFu.1 153 0 (by omega), gN_sN, if_pos ⟨rfl, rfl⟩]; rfl⟩
      have eL : gL (sN (sN (sN u 153 6 n) 153 7 0) 153 12 0) 153 17 = gL σ 153 17 := by rw [gL_sN, gL_sN, gL_sN, hFu.2.1 153 17 (by omega), gL_sN]
      have hD0 : RD (sN (sN (sN u 153 6 n) 153 7 0) 153 12 0) (sN (sN (sN u 153 6 n) 153 7 0) 153 12 0) (mkR (0, gN σ 153 8, gN σ 153 9, gN σ 153 10, gN σ 153 11) 0 (gN σ 153 13) frF (fun j => gN σ 157 j)) := ⟨Fr.rfl, by rw [gN_sN, if_neg (by omega), gN_sN, if_pos ⟨rfl, rfl⟩]; rfl, e8 8 (by omega), e8 9 (by omega), e8 10 (by omega), e8 11 (by omega), by rw [gN_sN, if_pos ⟨rfl, rfl⟩]; rfl, e8 13 (by omega), fun j q0 q1 => by rw [gN_sN, if_neg (by omega), gN_sN, if_neg (by omega), gN_sN, if_neg (by omega)]; exact hru j q0 q1, fun j q0 q1 => by rw [gN_sN, if_neg (by omega), gN_sN, if_neg (by omega), gN_sN, if_neg (by omega), hFu.1 157 j (by omega), gN_sN, if_neg (by omega)]; rfl⟩
      generalize hs1 : sN (sN (sN u 153 6 n) 153 7 0) 153 12 0 = s1 at e8 e154 e6 hFs eoth eL hD0 ⊢
      have hT1 : TpOK s1 := fun j => by rw [e154]; exact hT j
      have hO0 : ROK s1 (mkR (0, gN σ 153 8, gN σ 153 9, gN σ 153 10, gN σ 153 11) 0 (gN σ 153 13) frF (fun j => gN σ 157 j)) := ⟨⟨by show (0 : Int) ≤ 0; omega, by show (0 : Int) ≤ _; omega⟩, by show 0 ≤ frF 0 ∧ frF 0 ≤ 10; decide, by show 0 ≤ frF 1 ∧ frF 1 ≤ 12; decide, by show 0 ≤ frF 2 ∧ frF 2 ≤ 20; decide, by show 0 ≤ frF 3 ∧ frF 3 ≤ 60; decide⟩
      refine a_aload_n dX9_text_39 rfl rfl ?_
      refine a_callV (c := 153) (as := []) (rest := []) (t_token s1 hT1 (by omega) (by omega) (by rw [hD0.at_]; exact hO0.a.1) (by rw [hD0.at_]; exact hO0.a.2)) mvX9_token lX9_138 k153 (by decide) rfl rfl rfl rfl (Nat.le_of_ble_eq_true rfl) (Nat.le_of_ble_eq_true rfl) (Nat.le_of_ble_eq_true rfl) dX9_text_40 (fun v hv => ?_)
      obtain ⟨-, hFv, hkv⟩ := hv
      have hD1 := hD0.tokd hFv hkv
      have hO1 := tkS_ok hO0
      have hE : tkS s1 (mkR (0, gN σ 153 8, gN σ 153 9, gN σ 153 10, gN σ 153 11) 0 (gN σ 153 13) frF (fun j => gN σ 157 j)) = tx0 σ s1 := rfl
      rw [hE] at hD1 hO1
      have hfw := tk_fwd hO0
      rw [hE] at hfw
      have hW1 := lines_W (n + 1).toNat (tx0 σ s1) hO1 fr_W
      refine a_keep (by simp) (t_tx_l s1 hT1 (by omega) (by omega) _ n (txQ σ s1 n) (fun υ hD hO => ?_) (n + 1).toNat (tx0 σ s1) v hD1 hO1 rfl (fun _ => ⟨hfw.2, by have h0 : (0 : Int) ≤ (tx0 σ s1).pl := hfw.1; omega⟩))
      have hN2 : ¬ (n < 0 ∨ gN σ 153 2 < n) := by omega
      refine a_aload_n dX9_text_65 rfl rfl ?_
      refine a_iconst dX9_text_66 ?_
      refine a_putI (J := 2) fX9_88 k153 rfl rfl rfl dX9_text_67 ?_
      refine a_aload_n dX9_text_70 rfl rfl ?_
      refine a_aload_n dX9_text_71 rfl rfl ?_
      refine a_getI (J := 12) fX9_132 k153 rfl rfl dX9_text_72 ?_
      refine a_topI (y := (txQ σ s1 n).fa) (by rw [gN_sN, if_neg (by omega)]; exact hD.fa) ?_
      refine a_putI (J := 14) fX9_192 k153 rfl rfl rfl dX9_text_75 ?_
      refine a_aload_n dX9_text_78 rfl rfl ?_
      refine a_aload_n dX9_text_79 rfl rfl ?_
      refine a_getI (J := 12) fX9_132 k153 rfl rfl dX9_text_80 ?_
      refine a_topI (y := (txQ σ s1 n).fa) (by rw [gN_sN, if_neg (by omega), gN_sN, if_neg (by omega)]; exact hD.fa) ?_
      refine a_if_ne (tgt := 90) dX9_text_83 (by decide) hD.ifa (fun c83 => ?_) (fun c83 => ?_)
      · refine a_aload_n dX9_text_90 rfl rfl ?_
        refine a_getI (J := 13) fX9_135 k153 rfl rfl dX9_text_91 ?_
        refine a_topI (y := (txQ σ s1 n).fp) (by rw [gN_sN, if_neg (by omega), gN_sN, if_neg (by omega)]; exact hD.fp) ?_
        refine a_putI (J := 15) fX9_22 k153 rfl rfl rfl dX9_text_94 ?_
        refine a_aload_n dX9_text_97 rfl rfl ?_
        refine a_getI (J := 12) fX9_132 k153 rfl rfl dX9_text_98 ?_
        refine a_topI (y := (txQ σ s1 n).fa) (by rw [gN_sN, if_neg (by omega), gN_sN, if_neg (by omega), gN_sN, if_neg (by omega)]; exact hD.fa) ?_
        refine a_if_eq (tgt := 106) dX9_text_101 (by decide) hD.ifa (fun c101 => ?_) (fun c101 => ?_)
        · exfalso; omega
        · refine a_iconst dX9_text_104 ?_
          exact a_iret rfl (by unfold TxPost; rw [if_neg hN2]; refine ⟨s1, e154, e6, by rw [if_neg (by assumption)], (((hFs.trans (hD.F.mono (fun c j z => by unfold pRd at z; unfold pTx; omega))).sN (by unfold pTx; omega)).sN (by unfold pTx; omega)).sN (by unfold pTx; omega), ?_, ?_, ?_, ?_, ?_⟩; rw [gN_sN, if_neg (by omega), gN_sN, if_neg (by omega), gN_sN, if_neg (by omega), hD.F.1 153 0 (by unfold pRd; omega)]; exact eoth.2.2.2.2; rw [gN_sN, if_neg (by omega), gN_sN, if_neg (by omega), gN_sN, if_pos ⟨rfl, rfl⟩]; rfl; rw [gN_sN, if_neg (by omega), gN_sN, if_pos ⟨rfl, rfl⟩, nrm_of hD.ifa]; rw [gN_sN, if_pos ⟨rfl, rfl⟩, if_neg (by assumption), nrm_of hD.ifp]; rw [if_neg (by assumption)]; refine ⟨fun j => ?_, fun j => ?_, ?_, ?_, ?_⟩; rw [gN_sN, if_neg (by omega), gN_sN, if_neg (by omega), gN_sN, if_neg (by omega), hD.F.1 155 j (by unfold pRd; omega)]; exact eoth.1 j; rw [gN_sN, if_neg (by omega), gN_sN, if_neg (by omega), gN_sN, if_neg (by omega), hD.F.1 158 j (by unfold pRd; omega)]; exact eoth.2.1 j; rw [gL_sN, gL_sN, gL_sN, hD.F.2.1 153 17 (by unfold pRd; omega)]; exact eL; rw [gN_sN, if_neg (by omega), gN_sN, if_neg (by omega), gN_sN, if_neg (by omega), hD.F.1 153 20 (by unfold pRd; omega)]; exact eoth.2.2.1; rw [gN_sN, if_neg (by omega), gN_sN, if_neg (by omega), gN_sN, if_neg (by omega), hD.F.1 153 38 (by unfold pRd; omega)]; exact eoth.2.2.2.1) dX9_text_105
      · refine a_iconst dX9_text_86 ?_
        refine a_goto (tgt := 94) dX9_text_87 (by decide) ?_
        refine a_putI (J := 15) fX9_22 k153 rfl rfl rfl dX9_text_94 ?_
        refine a_aload_n dX9_text_97 rfl rfl ?_
        refine a_getI (J := 12) fX9_132 k153 rfl rfl dX9_text_98 ?_
        refine a_topI (y := (txQ σ s1 n).fa) (by rw [gN_sN, if_neg (by omega), gN_sN, if_neg (by omega), gN_sN, if_neg (by omega)]; exact hD.fa) ?_
        refine a_if_eq (tgt := 106) dX9_text_101 (by decide) hD.ifa (fun c101 => ?_) (fun c101 => ?_)
        · refine a_aload_n dX9_text_106 rfl rfl ?_
          refine a_callV (c := 153) (as := []) (rest := []) (t_becomes (sN (sN (sN υ 153 2 0) 153 14 ((txQ σ s1 n).fa)) 153 15 (-1)) (txQ σ s1 n).f (fun j q0 q1 => by rw [gN_sN, if_neg (by omega), gN_sN, if_neg (by omega), gN_sN, if_neg (by omega)]; exact hD.f j q0 q1) hW1.2) mvX9_becomes lX9_82 k153 (by decide) rfl rfl rfl rfl (Nat.le_of_ble_eq_true rfl) (Nat.le_of_ble_eq_true rfl) (Nat.le_of_ble_eq_true rfl) dX9_text_107 (fun y hy => ?_)
          obtain ⟨-, hy1, hy2, hy3, hy4, hy5, hy6⟩ := hy
          refine a_aload_n dX9_text_110 rfl rfl ?_
          refine a_getF (d := 155) fX9_13 k153 rfl r153_3 dX9_text_111 ?_
          refine a_iconst dX9_text_114 ?_
          refine a_ild k155 n155 (by omega) (by omega) dX9_text_115 ?_
          refine a_topI (y := closeF (txQ σ s1 n).f 4) (hy2 4 (by omega) (by omega)) ?_
          exact a_iret rfl (by unfold TxPost; rw [if_neg hN2]; refine ⟨s1, e154, e6, by rw [if_pos (by assumption)], ((((hFs.trans (hD.F.mono (fun c j z => by unfold pRd at z; unfold pTx; omega))).sN (by unfold pTx; omega)).sN (by unfold pTx; omega)).sN (by unfold pTx; omega)).trans (hy1.mono (fun c j z => by unfold pBe at z; unfold pTx; omega)), ?_, ?_, ?_, ?_, by rw [if_pos (by assumption)]; exact ⟨hy2, hy3, hy4, hy5, hy6⟩⟩; rw [hy1.1 153 0 (by unfold pBe; omega), gN_sN, if_neg (by omega), gN_sN, if_neg (by omega), gN_sN, if_neg (by omega), hD.F.1 153 0 (by unfold pRd; omega)]; exact eoth.2.2.2.2; rw [hy1.1 153 2 (by unfold pBe; omega), gN_sN, if_neg (by omega), gN_sN, if_neg (by omega), gN_sN, if_pos ⟨rfl, rfl⟩]; rfl; rw [hy1.1 153 14 (by unfold pBe; omega), gN_sN, if_neg (by omega), gN_sN, if_pos ⟨rfl, rfl⟩, nrm_of hD.ifa]; rw [hy1.1 153 15 (by unfold pBe; omega), gN_sN, if_pos ⟨rfl, rfl⟩, if_pos (by assumption)]; rfl) dX9_text_116
        · exfalso; omega
    · refine a_bipush (x := (-2)) dX9_text_17 (by decide) ?_
      exact a_iret rfl (by unfold TxPost; rw [if_pos (by omega)]; exact ⟨rfl, rfl⟩) dX9_text_19

