set_option maxRecDepth 20000 in
theorem c_linkOne (σ ρ : Sto) (N T : Nat) (hW : WV ρ) (hN : NetR σ N ρ) (hT : TmR σ N T ρ) (i k : Int) (h0 : 0 ≤ i) (h1 : i < gN ρ 155 3) (h2 : 0 ≤ k) (h3 : k < gN ρ 155 3) : MetV mX6_linkOne [ar T, ai i, ai k] σ (sL σ (T + 3) i (lnkF ρ i k (gL σ (T + 3) i))) := by
  have hNk := hN.k
  have hR := hW.R
  have hS := hW.S
  have hTr := hW.T
  have hTk := hT.k
  refine a_entry (by decide) (Nat.le_of_ble_eq_true rfl) ?_
  refine a_ls (ls' := [(0, ar T), (1, ai i), (2, ai k)]) rfl ?_
  refine a_aload_n dX6_linkOne_0 rfl rfl ?_
  refine a_iload_n dX6_linkOne_1 rfl rfl ?_
  refine a_cI (c := T) (as := [ai k]) (rest := []) (c_isCancelled σ ρ N T hW hN hT k (by omega) (by omega)) mvX6_isCancelled lX6_57 (kT hTk) (by decide) rfl rfl rfl rfl (Nat.le_of_ble_eq_true rfl) (Nat.le_of_ble_eq_true rfl) (Nat.le_of_ble_eq_true rfl) dX6_linkOne_2 ?_
  refine a_ifb_ne (tgt := 32) dX6_linkOne_5 (by decide) (fun c5 => ?_) (fun c5 => ?_)
  · refine a_aload_n dX6_linkOne_32 rfl rfl ?_
    refine a_getF (d := (T + 3)) fX6_18 (kT hTk) rfl (rT_5 hTk) dX6_linkOne_33 ?_
    refine a_iload_n dX6_linkOne_36 rfl rfl ?_
    refine a_dup2 dX6_linkOne_37 rfl rfl ?_
    refine a_lld (kT_3 hTk) (nT_3 hTk) (by omega) (by omega) dX6_linkOne_38 ?_
    refine a_lconst (v := 1) dX6_linkOne_39 rfl ?_
    refine a_iload_n dX6_linkOne_40 rfl rfl ?_
    refine a_lshl dX6_linkOne_41 ?_
    refine a_ldc2 cX6_81 dX6_linkOne_42 ?_
    refine a_lxor dX6_linkOne_45 ?_
    refine a_land dX6_linkOne_46 ?_
    refine a_lst (kT_3 hTk) (nT_3 hTk) (by omega) (by omega) dX6_linkOne_47 ?_
    exact a_vret rfl ⟨rfl, by unfold lnkF; rw [if_neg (by grind)]⟩ dX6_linkOne_48
  · refine a_aload_n dX6_linkOne_8 rfl rfl ?_
    refine a_iload_n dX6_linkOne_9 rfl rfl ?_
    refine a_iload_n dX6_linkOne_10 rfl rfl ?_
    refine a_cI (c := T) (as := [ai i, ai k]) (rest := []) (c_slackOf σ ρ N T hW hN hT i k (by omega) (by omega) (by omega) (by omega)) mvX6_slackOf lX6_77 (kT hTk) (by decide) rfl rfl rfl rfl (Nat.le_of_ble_eq_true rfl) (Nat.le_of_ble_eq_true rfl) (Nat.le_of_ble_eq_true rfl) dX6_linkOne_11 ?_
    have hbt := btw_rng hW.1 (i := i) (k := k) h0 (by omega) h2 (by omega)
    have hti := hW.tm i h0 h1
    have htk := hW.tm k h2 h3
    refine a_if_lt (tgt := 32) dX6_linkOne_14 (by decide) (inR_of (by omega) (by omega)) (fun c14 => ?_) (fun c14 => ?_)
    · refine a_aload_n dX6_linkOne_32 rfl rfl ?_
      refine a_getF (d := (T + 3)) fX6_18 (kT hTk) rfl (rT_5 hTk) dX6_linkOne_33 ?_
      refine a_iload_n dX6_linkOne_36 rfl rfl ?_
      refine a_dup2 dX6_linkOne_37 rfl rfl ?_
      refine a_lld (kT_3 hTk) (nT_3 hTk) (by omega) (by omega) dX6_linkOne_38 ?_
      refine a_lconst (v := 1) dX6_linkOne_39 rfl ?_
      refine a_iload_n dX6_linkOne_40 rfl rfl ?_
      refine a_lshl dX6_linkOne_41 ?_
      refine a_ldc2 cX6_81 dX6_linkOne_42 ?_
      refine a_lxor dX6_linkOne_45 ?_
      refine a_land dX6_linkOne_46 ?_
      refine a_lst (kT_3 hTk) (nT_3 hTk) (by omega) (by omega) dX6_linkOne_47 ?_
      exact a_vret rfl ⟨rfl, by unfold lnkF; rw [if_neg (by grind)]⟩ dX6_linkOne_48
    · refine a_aload_n dX6_linkOne_17 rfl rfl ?_
      refine a_getF (d := (T + 3)) fX6_18 (kT hTk) rfl (rT_5 hTk) dX6_linkOne_18 ?_
      refine a_iload_n dX6_linkOne_21 rfl rfl ?_
      refine a_dup2 dX6_linkOne_22 rfl rfl ?_
      refine a_lld (kT_3 hTk) (nT_3 hTk) (by omega) (by omega) dX6_linkOne_23 ?_
      refine a_lconst (v := 1) dX6_linkOne_24 rfl ?_
      refine a_iload_n dX6_linkOne_25 rfl rfl ?_
      refine a_lshl dX6_linkOne_26 ?_
      refine a_lor dX6_linkOne_27 ?_
      refine a_lst (kT_3 hTk) (nT_3 hTk) (by omega) (by omega) dX6_linkOne_28 ?_
      refine a_goto (tgt := 48) dX6_linkOne_29 (by decide) ?_
      exact a_vret rfl ⟨rfl, by unfold lnkF; rw [if_pos ⟨by grind, by omega⟩]⟩ dX6_linkOne_48

set_option maxRecDepth 20000 in
theorem c_lk_i (σ ρ : Sto) (N T : Nat) (hW : WV ρ) (hN : NetR σ N ρ) (hT : TmR σ N T ρ) (Q : Option Av → Sto → Prop) (i : Int) (hi0 : 0 ≤ i) (hi1 : i < gN ρ 155 3) (V : Int64) (hx : ∀ υ : Sto, Fg (pLi T i) σ υ → gL υ (T + 3) i = V → RunA mX6_link Q 53 [(1, ai i), (0, ar T)] [] υ) : ∀ (n : Nat) (k : Int) (τ : Sto), 0 ≤ k → k ≤ gN ρ 155 3 → n = (gN ρ 155 3 - k).toNat → Fg (pLi T i) σ τ → V = itr (lnkF ρ i) n k (gL τ (T + 3) i) → RunA mX6_link Q 30 [(2, ai k), (1, ai i), (0, ar T)] [] τ := by
  have hNk := hN.k
  have hR := hW.R
  have hS := hW.S
  have hTr := hW.T
  have hTk := hT.k
  intro n
  induction n with
  | zero =>
    intro k τ h0 h5 hn hF hE
    have hNτ : NetR τ N ρ := hN.of hS.2 (fun c j q0 q1 => hF.n (by unfold pLi; omega))
    have hTτ : TmR τ N T ρ := hT.of (hF.r (by unfold pLi; omega)) (hF.l (by unfold pLi; omega)) (fun j => hF.n (by unfold pLi; omega)) (fun j => hF.n (by unfold pLi; omega)) (Or.inl (hF.n (by unfold pLi; omega)))
    refine a_iload_n dX6_link_30 rfl rfl ?_
    refine a_aload_n dX6_link_31 rfl rfl ?_
    refine a_getR (d := N) (J := 0) fX6_22 (kT hTk) rfl (rT_0 hTk) rfl hTτ.net dX6_link_32 ?_
    refine a_getI (J := 3) fX6_34 (kN hNk) rfl rfl dX6_link_35 ?_
    refine a_topI (y := gN ρ 155 3) hNτ.n3 ?_
    refine a_icmp_ge (tgt := 53) dX6_link_38 (by decide) (inR_of (by omega) (by omega)) (inR_gN _ _ _) (fun c38 => ?_) (fun c38 => ?_)
    · exact a_keep (by simp) (hx τ hF (by rw [hE]; rfl))
    · exfalso; omega
  | succ n ih =>
    intro k τ h0 h5 hn hF hE
    have hNτ : NetR τ N ρ := hN.of hS.2 (fun c j q0 q1 => hF.n (by unfold pLi; omega))
    have hTτ : TmR τ N T ρ := hT.of (hF.r (by unfold pLi; omega)) (hF.l (by unfold pLi; omega)) (fun j => hF.n (by unfold pLi; omega)) (fun j => hF.n (by unfold pLi; omega)) (Or.inl (hF.n (by unfold pLi; omega)))
    refine a_iload_n dX6_link_30 rfl rfl ?_
    refine a_aload_n dX6_link_31 rfl rfl ?_
    refine a_getR (d := N) (J := 0) fX6_22 (kT hTk) rfl (rT_0 hTk) rfl hTτ.net dX6_link_32 ?_
    refine a_getI (J := 3) fX6_34 (kN hNk) rfl rfl dX6_link_35 ?_
    refine a_topI (y := gN ρ 155 3) hNτ.n3 ?_
    refine a_icmp_ge (tgt := 53) dX6_link_38 (by decide) (inR_of (by omega) (by omega)) (inR_gN _ _ _) (fun c38 => ?_) (fun c38 => ?_)
    · exfalso; omega
    · refine a_aload_n dX6_link_41 rfl rfl ?_
      refine a_iload_n dX6_link_42 rfl rfl ?_
      refine a_iload_n dX6_link_43 rfl rfl ?_
      refine a_cV (c := T) (as := [ai i, ai k]) (rest := []) (c_linkOne τ ρ N T hW hNτ hTτ i k (by omega) (by omega) (by omega) (by omega)) mvX6_linkOne lX6_74 (kT hTk) (by decide) rfl rfl rfl rfl (Nat.le_of_ble_eq_true rfl) (Nat.le_of_ble_eq_true rfl) (Nat.le_of_ble_eq_true rfl) dX6_link_44 ?_
      refine a_iinc (y := k + 1) (ls' := [(2, ai (k + 1)), (1, ai i), (0, ar T)]) dX6_link_47 rfl rfl (Nat.le_of_ble_eq_true rfl) rfl ?_
      refine a_goto (tgt := 30) dX6_link_50 (by decide) ?_
      exact a_keep (by simp) (ih (k + 1) (sL τ (T + 3) i (lnkF ρ i k (gL τ (T + 3) i))) (by omega) (by omega) (by omega) (hF.sL ⟨rfl, rfl⟩) (by rw [hE, itr_s, gL_sL, if_pos ⟨rfl, rfl⟩]))

set_option maxRecDepth 20000 in
theorem c_lk_o (σ ρ : Sto) (N T : Nat) (hW : WV ρ) (hN : NetR σ N ρ) (hT : TmR σ N T ρ) : ∀ (n : Nat) (i : Int) (τ : Sto), 0 ≤ i → i ≤ gN ρ 155 3 → n = (gN ρ 155 3 - i).toNat → Fg (pLn T) σ τ → gN τ T 2 = 0 → (∀ j : Int, 0 ≤ j → j < i → gL τ (T + 3) j = gL ρ 163 j) → RunA mX6_link (fun r u => r = none ∧ LnP σ u T ρ) 10 [(1, ai i), (0, ar T)] [] τ := by
  have hNk := hN.k
  have hR := hW.R
  have hS := hW.S
  have hTr := hW.T
  have hTk := hT.k
  intro n
  induction n with
  | zero =>
    intro i τ h0 h5 hn hF h2 hZ
    have hNτ : NetR τ N ρ := hN.ln hS.2 hTk hF
    have hTτ : TmR τ N T ρ := hT.ln hF (Or.inl h2)
    refine a_iload_n dX6_link_10 rfl rfl ?_
    refine a_aload_n dX6_link_11 rfl rfl ?_
    refine a_getR (d := N) (J := 0) fX6_22 (kT hTk) rfl (rT_0 hTk) rfl hTτ.net dX6_link_12 ?_
    refine a_getI (J := 3) fX6_34 (kN hNk) rfl rfl dX6_link_15 ?_
    refine a_topI (y := gN ρ 155 3) hNτ.n3 ?_
    refine a_icmp_ge (tgt := 59) dX6_link_18 (by decide) (inR_of (by omega) (by omega)) (inR_gN _ _ _) (fun c18 => ?_) (fun c18 => ?_)
    · refine a_aload_n dX6_link_59 rfl rfl ?_
      refine a_iconst dX6_link_60 ?_
      refine a_putZ (J := 2) fX6_30 (kT hTk) rfl rfl (by omega) rfl dX6_link_61 ?_
      exact a_vret rfl ⟨rfl, hF.sN (Or.inr ⟨rfl, rfl⟩), fun j j0 j1 => by rw [gL_sN]; exact hZ j j0 (by omega), by rw [gN_sN, if_pos ⟨rfl, rfl⟩]; rfl⟩ dX6_link_64
    · exfalso; omega
  | succ n ih =>
    intro i τ h0 h5 hn hF h2 hZ
    have hNτ : NetR τ N ρ := hN.ln hS.2 hTk hF
    have hTτ : TmR τ N T ρ := hT.ln hF (Or.inl h2)
    refine a_iload_n dX6_link_10 rfl rfl ?_
    refine a_aload_n dX6_link_11 rfl rfl ?_
    refine a_getR (d := N) (J := 0) fX6_22 (kT hTk) rfl (rT_0 hTk) rfl hTτ.net dX6_link_12 ?_
    refine a_getI (J := 3) fX6_34 (kN hNk) rfl rfl dX6_link_15 ?_
    refine a_topI (y := gN ρ 155 3) hNτ.n3 ?_
    refine a_icmp_ge (tgt := 59) dX6_link_18 (by decide) (inR_of (by omega) (by omega)) (inR_gN _ _ _) (fun c18 => ?_) (fun c18 => ?_)
    · exfalso; omega
    · refine a_aload_n dX6_link_21 rfl rfl ?_
      refine a_getF (d := (T + 3)) fX6_18 (kT hTk) rfl (rT_5 hTk) dX6_link_22 ?_
      refine a_iload_n dX6_link_25 rfl rfl ?_
      refine a_lconst (v := 0) dX6_link_26 rfl ?_
      refine a_lst (kT_3 hTk) (nT_3 hTk) (by omega) (by omega) dX6_link_27 ?_
      refine a_iconst dX6_link_28 ?_
      refine a_istore_n (ls' := [(2, ai 0), (1, ai i), (0, ar T)]) dX6_link_29 rfl (Nat.le_of_ble_eq_true rfl) rfl ?_
      have hF1 : Fg (pLn T) σ (sL τ (T + 3) i 0) := hF.sL (Or.inl rfl)
      have hN1 : NetR (sL τ (T + 3) i 0) N ρ := hN.ln hS.2 hTk hF1
      have hT1 : TmR (sL τ (T + 3) i 0) N T ρ := hT.ln hF1 (Or.inl (by rw [gN_sL]; exact h2))
      refine a_keep (ls' := [(2, ai 0), (1, ai i), (0, ar T)]) (by simp) ?_
      refine c_lk_i (sL τ (T + 3) i 0) ρ N T hW hN1 hT1 _ i (by omega) (by omega) (gL ρ 163 i) (fun υ q1 q2 => ?_) (gN ρ 155 3).toNat 0 (sL τ (T + 3) i 0) (by omega) (by omega) (by omega) Fg.rfl ?_
      · refine a_iinc (y := i + 1) (ls' := [(1, ai (i + 1)), (0, ar T)]) dX6_link_53 rfl rfl (Nat.le_of_ble_eq_true rfl) rfl ?_
        refine a_goto (tgt := 10) dX6_link_56 (by decide) ?_
        refine ih (i + 1) υ (by omega) (by omega) (by omega) (hF1.trans (q1.mono (fun c j q => Or.inl q.1))) (by rw [q1.n (by unfold pLi; omega), gN_sL]; exact h2) (fun j j0 j1 => ?_)
        by_cases e : j = i
        · rw [e]; exact q2
        · rw [q1.l (by unfold pLi; omega), gL_sL, if_neg (by omega)]; exact hZ j j0 (by omega)
      · rw [gL_sL, if_pos ⟨rfl, rfl⟩]; exact (lnk_all hW (by omega) (by omega)).symm

set_option maxRecDepth 20000 in
theorem c_link (σ ρ : Sto) (N T : Nat) (hW : WV ρ) (hN : NetR σ N ρ) (hT : TmR σ N T ρ) (hM : gN σ T 2 = 1 → LkR σ T ρ) : MetA mX6_link [ar T] σ (fun r u => r = none ∧ LnP σ u T ρ) := by
  have hNk := hN.k
  have hR := hW.R
  have hS := hW.S
  have hTr := hW.T
  have hTk := hT.k
  have hb2 := hT.2.2.2.2
  refine a_entry (by decide) (Nat.le_of_ble_eq_true rfl) ?_
  refine a_ls (ls' := [(0, ar T)]) rfl ?_
  refine a_aload_n dX6_link_0 rfl rfl ?_
  refine a_getZ (J := 2) fX6_30 (kT hTk) rfl rfl dX6_link_1 ?_
  refine a_if_eq (tgt := 8) dX6_link_4 (by decide) (inR_gN _ _ _) (fun c4 => ?_) (fun c4 => ?_)
  · refine a_iconst dX6_link_8 ?_
    refine a_istore_n (ls' := [(1, ai 0), (0, ar T)]) dX6_link_9 rfl (Nat.le_of_ble_eq_true rfl) rfl ?_
    exact a_keep (by simp) (c_lk_o σ ρ N T hW hN hT (gN ρ 155 3).toNat 0 σ (by omega) (by omega) (by omega) Fg.rfl (by omega) (fun j j0 j1 => by omega))
  · exact a_vret rfl ⟨rfl, Fg.rfl, hM (by omega), by omega⟩ dX6_link_7

set_option maxRecDepth 20000 in
theorem c_wno_l (σ ρ : Sto) (N T : Nat) (hW : WV ρ) (hN : NetR σ N ρ) (hT : TmR σ N T ρ) (r0 barred V : Int64) : ∀ (n : Nat) (i : Int) (bits : Int64), 0 ≤ i → i ≤ 60 → n = (gN ρ 155 3 - 1 - i).toNat → V = itr (wnF ρ barred) n i bits → RunA mX6_withNextOnes (qL V σ) 6 [(7, ai i), (5, al bits), (0, ar T), (1, al r0), (3, al barred)] [] σ := by
  have hNk := hN.k
  have hR := hW.R
  have hS := hW.S
  have hTr := hW.T
  have hTk := hT.k
  intro n
  induction n with
  | zero =>
    intro i bits h0 h5 hn hE
    refine a_iload dX6_withNextOnes_6 rfl ?_
    refine a_iconst dX6_withNextOnes_8 ?_
    refine a_iadd dX6_withNextOnes_9 ?_
    refine a_aload_n dX6_withNextOnes_10 rfl rfl ?_
    refine a_getR (d := N) (J := 0) fX6_22 (kT hTk) rfl (rT_0 hTk) rfl hT.net dX6_withNextOnes_11 ?_
    refine a_getI (J := 3) fX6_34 (kN hNk) rfl rfl dX6_withNextOnes_14 ?_
    refine a_topI (y := gN ρ 155 3) hN.n3 ?_
    refine a_icmp_ge (tgt := 86) dX6_withNextOnes_17 (by decide) (inR_of (by omega) (by omega)) (inR_gN _ _ _) (fun c17 => ?_) (fun c17 => ?_)
    · refine a_lload dX6_withNextOnes_86 rfl ?_
      exact a_lret rfl ⟨by rw [hE]; rfl, rfl⟩ dX6_withNextOnes_88
    · exfalso; omega
  | succ n ih =>
    intro i bits h0 h5 hn hE
    refine a_iload dX6_withNextOnes_6 rfl ?_
    refine a_iconst dX6_withNextOnes_8 ?_
    refine a_iadd dX6_withNextOnes_9 ?_
    refine a_aload_n dX6_withNextOnes_10 rfl rfl ?_
    refine a_getR (d := N) (J := 0) fX6_22 (kT hTk) rfl (rT_0 hTk) rfl hT.net dX6_withNextOnes_11 ?_
    refine a_getI (J := 3) fX6_34 (kN hNk) rfl rfl dX6_withNextOnes_14 ?_
    refine a_topI (y := gN ρ 155 3) hN.n3 ?_
    refine a_icmp_ge (tgt := 86) dX6_withNextOnes_17 (by decide) (inR_of (by omega) (by omega)) (inR_gN _ _ _) (fun c17 => ?_) (fun c17 => ?_)
    · exfalso; omega
    · refine a_lload_n dX6_withNextOnes_20 rfl rfl ?_
      refine a_iload dX6_withNextOnes_21 rfl ?_
      refine a_iconst dX6_withNextOnes_23 ?_
      refine a_iadd dX6_withNextOnes_24 ?_
      refine a_lshr dX6_withNextOnes_25 ?_
      refine a_lconst (v := 1) dX6_withNextOnes_26 rfl ?_
      refine a_land dX6_withNextOnes_27 ?_
      refine a_lconst (v := 0) dX6_withNextOnes_28 rfl ?_
      refine a_lcmp_ne (tgt := 37) dX6_withNextOnes_29 dX6_withNextOnes_30 (by decide) (fun c29 => ?_) (fun c29 => ?_)
      · refine a_iconst dX6_withNextOnes_37 ?_
        refine a_istore (ls' := [(8, ai 0), (7, ai i), (5, al bits), (0, ar T), (1, al r0), (3, al barred)]) dX6_withNextOnes_38 (Nat.le_of_ble_eq_true rfl) rfl ?_
        refine a_iload dX6_withNextOnes_40 rfl ?_
        refine a_if_eq (tgt := 80) dX6_withNextOnes_42 (by decide) (inR_of (by omega) (by omega)) (fun c42 => ?_) (fun c42 => ?_)
        · refine a_iinc (y := i + 1) (ls' := [(7, ai (i + 1)), (8, ai 0), (5, al bits), (0, ar T), (1, al r0), (3, al barred)]) dX6_withNextOnes_80 rfl rfl (Nat.le_of_ble_eq_true rfl) rfl ?_
          refine a_goto (tgt := 6) dX6_withNextOnes_83 (by decide) ?_
          have e : wnF ρ barred i bits = bits := by unfold wnF; grind
          exact a_keep (by simp) (ih (i + 1) (bits) (by omega) (by omega) (by omega) (by rw [hE, itr_s, e]))
        · exact absurd c42 (by decide)
      · refine a_iconst dX6_withNextOnes_33 ?_
        refine a_goto (tgt := 38) dX6_withNextOnes_34 (by decide) ?_
        refine a_istore (ls' := [(8, ai 1), (7, ai i), (5, al bits), (0, ar T), (1, al r0), (3, al barred)]) dX6_withNextOnes_38 (Nat.le_of_ble_eq_true rfl) rfl ?_
        refine a_iload dX6_withNextOnes_40 rfl ?_
        refine a_if_eq (tgt := 80) dX6_withNextOnes_42 (by decide) (inR_of (by omega) (by omega)) (fun c42 => ?_) (fun c42 => ?_)
        · exact absurd c42 (by decide)
        · refine a_lload dX6_withNextOnes_45 rfl ?_
          refine a_iload dX6_withNextOnes_47 rfl ?_
          refine a_lshr dX6_withNextOnes_49 ?_
          refine a_lconst (v := 1) dX6_withNextOnes_50 rfl ?_
          refine a_land dX6_withNextOnes_51 ?_
          refine a_lconst (v := 0) dX6_withNextOnes_52 rfl ?_
          refine a_lcmp_eq (tgt := 80) dX6_withNextOnes_53 dX6_withNextOnes_54 (by decide) (fun c53 => ?_) (fun c53 => ?_)
          · refine a_iinc (y := i + 1) (ls' := [(7, ai (i + 1)), (8, ai 1), (5, al bits), (0, ar T), (1, al r0), (3, al barred)]) dX6_withNextOnes_80 rfl rfl (Nat.le_of_ble_eq_true rfl) rfl ?_
            refine a_goto (tgt := 6) dX6_withNextOnes_83 (by decide) ?_
            have e : wnF ρ barred i bits = bits := by unfold wnF; grind
            exact a_keep (by simp) (ih (i + 1) (bits) (by omega) (by omega) (by omega) (by rw [hE, itr_s, e]))
          · refine a_aload_n dX6_withNextOnes_57 rfl rfl ?_
            refine a_getR (d := N) (J := 0) fX6_22 (kT hTk) rfl (rT_0 hTk) rfl hT.net dX6_withNextOnes_58 ?_
            refine a_iload dX6_withNextOnes_61 rfl ?_
            refine a_cI (c := N) (as := [ai i]) (rest := []) (c_goesOn σ ρ N hW hN i (by omega) (by omega)) mvX2_goesOn lX6_53 (kN hNk) (by decide) rfl rfl rfl rfl (Nat.le_of_ble_eq_true rfl) (Nat.le_of_ble_eq_true rfl) (Nat.le_of_ble_eq_true rfl) dX6_withNextOnes_63 ?_
            refine a_ifb_eq (tgt := 80) dX6_withNextOnes_66 (by decide) (fun c66 => ?_) (fun c66 => ?_)
            · refine a_iinc (y := i + 1) (ls' := [(7, ai (i + 1)), (8, ai 1), (5, al bits), (0, ar T), (1, al r0), (3, al barred)]) dX6_withNextOnes_80 rfl rfl (Nat.le_of_ble_eq_true rfl) rfl ?_
              refine a_goto (tgt := 6) dX6_withNextOnes_83 (by decide) ?_
              have e : wnF ρ barred i bits = bits := by unfold wnF; grind
              exact a_keep (by simp) (ih (i + 1) (bits) (by omega) (by omega) (by omega) (by rw [hE, itr_s, e]))
            · refine a_lload dX6_withNextOnes_69 rfl ?_
              refine a_lconst (v := 1) dX6_withNextOnes_71 rfl ?_
              refine a_iload dX6_withNextOnes_72 rfl ?_
              refine a_iconst dX6_withNextOnes_74 ?_
              refine a_iadd dX6_withNextOnes_75 ?_
              refine a_lshl dX6_withNextOnes_76 ?_
              refine a_lor dX6_withNextOnes_77 ?_
              refine a_lstore (ls' := [(5, al (bits ||| (shlL 1 (i + 1)))), (8, ai 1), (7, ai i), (0, ar T), (1, al r0), (3, al barred)]) dX6_withNextOnes_78 (Nat.le_of_ble_eq_true rfl) rfl ?_
              refine a_iinc (y := i + 1) (ls' := [(7, ai (i + 1)), (5, al (bits ||| (shlL 1 (i + 1)))), (8, ai 1), (0, ar T), (1, al r0), (3, al barred)]) dX6_withNextOnes_80 rfl rfl (Nat.le_of_ble_eq_true rfl) rfl ?_
              refine a_goto (tgt := 6) dX6_withNextOnes_83 (by decide) ?_
              have e : wnF ρ barred i bits = bits ||| (shlL 1 (i + 1)) := by unfold wnF; grind
              exact a_keep (by simp) (ih (i + 1) (bits ||| (shlL 1 (i + 1))) (by omega) (by omega) (by omega) (by rw [hE, itr_s, e]))

set_option maxRecDepth 20000 in
theorem c_withNextOnes (σ ρ : Sto) (N T : Nat) (hW : WV ρ) (hN : NetR σ N ρ) (hT : TmR σ N T ρ) (r0 barred : Int64) : MetL mX6_withNextOnes [ar T, al r0, al barred] σ (wnoF ρ barred r0) σ := by
  have hNk := hN.k
  have hR := hW.R
  have hS := hW.S
  have hTr := hW.T
  have hTk := hT.k
  refine a_entry (by decide) (Nat.le_of_ble_eq_true rfl) ?_
  refine a_ls (ls' := [(0, ar T), (1, al r0), (3, al barred)]) rfl ?_
  refine a_lload_n dX6_withNextOnes_0 rfl rfl ?_
  refine a_lstore (ls' := [(5, al r0), (0, ar T), (1, al r0), (3, al barred)]) dX6_withNextOnes_1 (Nat.le_of_ble_eq_true rfl) rfl ?_
  refine a_iconst dX6_withNextOnes_3 ?_
  refine a_istore (ls' := [(7, ai 0), (5, al r0), (0, ar T), (1, al r0), (3, al barred)]) dX6_withNextOnes_4 (Nat.le_of_ble_eq_true rfl) rfl ?_
  exact a_keep (by simp) (c_wno_l σ ρ N T hW hN hT r0 barred _ (gN ρ 155 3 - 1).toNat 0 r0 (by omega) (by omega) (by omega) rfl)

set_option maxRecDepth 20000 in
theorem c_rid_i (σ ρ : Sto) (N T : Nat) (hW : WV ρ) (hN : NetR σ N ρ) (hT : TmR σ N T ρ) (hL : LkR σ T ρ) (Q : Option Av → Sto → Prop) (s m k : Int) (wo : Int64) (hs0 : 0 ≤ s) (hs1 : s < gN ρ 155 0) (hm0 : 0 ≤ m) (hm1 : m ≤ 1000000) (hk0 : 0 ≤ k) (hk1 : k ≤ 4) (hQ : Q (some (al (riddenF ρ s m k wo))) σ) (c : Int) (bits V : Int64) (hx : RunA mX6_ridden Q 165 [(11, al V), (10, ai c), (8, al bits), (0, ar T), (1, ai s), (2, ai m), (3, ai k), (4, al wo), (6, al (gL ρ 153 23 ||| wo))] [] σ) : ∀ (n : Nat) (i : Int) (more : Int64), 0 ≤ i → i ≤ gN ρ 155 3 → n = (gN ρ 155 3 - i).toNat → V = itr (ri1 ρ (gL ρ 153 23 ||| wo) bits) n i more → RunA mX6_ridden Q 116 [(13, ai i), (11, al more), (10, ai c), (8, al bits), (0, ar T), (1, ai s), (2, ai m), (3, ai k), (4, al wo), (6, al (gL ρ 153 23 ||| wo))] [] σ := by
  have hNk := hN.k
  have hR := hW.R
  have hS := hW.S
  have hTr := hW.T
  have hTk := hT.k
  intro n
  induction n with
  | zero =>
    intro i more h0 h5 hn hE
    refine a_iload dX6_ridden_116 rfl ?_
    refine a_aload_n dX6_ridden_118 rfl rfl ?_
    refine a_getR (d := N) (J := 0) fX6_22 (kT hTk) rfl (rT_0 hTk) rfl hT.net dX6_ridden_119 ?_
    refine a_getI (J := 3) fX6_34 (kN hNk) rfl rfl dX6_ridden_122 ?_
    refine a_topI (y := gN ρ 155 3) hN.n3 ?_
    refine a_icmp_ge (tgt := 165) dX6_ridden_125 (by decide) (inR_of (by omega) (by omega)) (inR_gN _ _ _) (fun c125 => ?_) (fun c125 => ?_)
    · exact a_keep (by simp [hE, itr]) hx
    · exfalso; omega
  | succ n ih =>
    intro i more h0 h5 hn hE
    refine a_iload dX6_ridden_116 rfl ?_
    refine a_aload_n dX6_ridden_118 rfl rfl ?_
    refine a_getR (d := N) (J := 0) fX6_22 (kT hTk) rfl (rT_0 hTk) rfl hT.net dX6_ridden_119 ?_
    refine a_getI (J := 3) fX6_34 (kN hNk) rfl rfl dX6_ridden_122 ?_
    refine a_topI (y := gN ρ 155 3) hN.n3 ?_
    refine a_icmp_ge (tgt := 165) dX6_ridden_125 (by decide) (inR_of (by omega) (by omega)) (inR_gN _ _ _) (fun c125 => ?_) (fun c125 => ?_)
    · exfalso; omega
    · refine a_lload dX6_ridden_128 rfl ?_
      refine a_iload dX6_ridden_130 rfl ?_
      refine a_lshr dX6_ridden_132 ?_
      refine a_lconst (v := 1) dX6_ridden_133 rfl ?_
      refine a_land dX6_ridden_134 ?_
      refine a_lconst (v := 0) dX6_ridden_135 rfl ?_
      refine a_lcmp_eq (tgt := 159) dX6_ridden_136 dX6_ridden_137 (by decide) (fun c136 => ?_) (fun c136 => ?_)
      · refine a_iinc (y := i + 1) (ls' := [(13, ai (i + 1)), (11, al more), (10, ai c), (8, al bits), (0, ar T), (1, ai s), (2, ai m), (3, ai k), (4, al wo), (6, al (gL ρ 153 23 ||| wo))]) dX6_ridden_159 rfl rfl (Nat.le_of_ble_eq_true rfl) rfl ?_
        refine a_goto (tgt := 116) dX6_ridden_162 (by decide) ?_
        have e : ri1 ρ (gL ρ 153 23 ||| wo) bits i more = more := by unfold ri1; grind
        exact a_keep (by simp) (ih (i + 1) (more) (by omega) (by omega) (by omega) (by rw [hE, itr_s, e]))
      · refine a_lload dX6_ridden_140 rfl ?_
        refine a_aload_n dX6_ridden_142 rfl rfl ?_
        refine a_getF (d := (T + 3)) fX6_18 (kT hTk) rfl (rT_5 hTk) dX6_ridden_143 ?_
        refine a_iload dX6_ridden_146 rfl ?_
        refine a_lld (kT_3 hTk) (nT_3 hTk) (by omega) (by omega) dX6_ridden_148 ?_
        refine a_topL (y := gL ρ 163 i) (hL i (by omega) (by omega)) ?_
        refine a_lload dX6_ridden_149 rfl ?_
        refine a_ldc2 cX6_81 dX6_ridden_151 ?_
        refine a_lxor dX6_ridden_154 ?_
        refine a_land dX6_ridden_155 ?_
        refine a_lor dX6_ridden_156 ?_
        refine a_lstore (ls' := [(11, al (more ||| ((gL ρ 163 i) &&& ((gL ρ 153 23 ||| wo) ^^^ (-1))))), (13, ai i), (10, ai c), (8, al bits), (0, ar T), (1, ai s), (2, ai m), (3, ai k), (4, al wo), (6, al (gL ρ 153 23 ||| wo))]) dX6_ridden_157 (Nat.le_of_ble_eq_true rfl) rfl ?_
        refine a_iinc (y := i + 1) (ls' := [(13, ai (i + 1)), (11, al (more ||| ((gL ρ 163 i) &&& ((gL ρ 153 23 ||| wo) ^^^ (-1))))), (10, ai c), (8, al bits), (0, ar T), (1, ai s), (2, ai m), (3, ai k), (4, al wo), (6, al (gL ρ 153 23 ||| wo))]) dX6_ridden_159 rfl rfl (Nat.le_of_ble_eq_true rfl) rfl ?_
        refine a_goto (tgt := 116) dX6_ridden_162 (by decide) ?_
        have e : ri1 ρ (gL ρ 153 23 ||| wo) bits i more = more ||| ((gL ρ 163 i) &&& ((gL ρ 153 23 ||| wo) ^^^ (-1))) := by unfold ri1; grind
        exact a_keep (by simp) (ih (i + 1) (more ||| ((gL ρ 163 i) &&& ((gL ρ 153 23 ||| wo) ^^^ (-1)))) (by omega) (by omega) (by omega) (by rw [hE, itr_s, e]))

set_option maxRecDepth 20000 in
theorem c_rid_c (σ ρ : Sto) (N T : Nat) (hW : WV ρ) (hN : NetR σ N ρ) (hT : TmR σ N T ρ) (hL : LkR σ T ρ) (Q : Option Av → Sto → Prop) (s m k : Int) (wo : Int64) (hs0 : 0 ≤ s) (hs1 : s < gN ρ 155 0) (hm0 : 0 ≤ m) (hm1 : m ≤ 1000000) (hk0 : 0 ≤ k) (hk1 : k ≤ 4) (hQ : Q (some (al (riddenF ρ s m k wo))) σ) : ∀ (n : Nat) (c : Int) (bits : Int64), 0 ≤ c → c ≤ k → n = (k - c).toNat → riddenF ρ s m k wo = itr (fun _ b => riS ρ (gL ρ 153 23 ||| wo) b) n c bits → RunA mX6_ridden Q 103 [(10, ai c), (8, al bits), (0, ar T), (1, ai s), (2, ai m), (3, ai k), (4, al wo), (6, al (gL ρ 153 23 ||| wo))] [] σ := by
  have hNk := hN.k
  have hR := hW.R
  have hS := hW.S
  have hTr := hW.T
  have hTk := hT.k
  intro n
  induction n with
  | zero =>
    intro c bits h0 h5 hn hE
    refine a_iload dX6_ridden_103 rfl ?_
    refine a_iload_n dX6_ridden_105 rfl rfl ?_
    refine a_icmp_ge (tgt := 196) dX6_ridden_106 (by decide) (inR_of (by omega) (by omega)) (inR_of (by omega) (by omega)) (fun c106 => ?_) (fun c106 => ?_)
    · refine a_lload dX6_ridden_196 rfl ?_
      exact a_lret rfl (by rw [show bits = riddenF ρ s m k wo from by rw [hE]; rfl]; exact hQ) dX6_ridden_198
    · exfalso; omega
  | succ n ih =>
    intro c bits h0 h5 hn hE
    refine a_iload dX6_ridden_103 rfl ?_
    refine a_iload_n dX6_ridden_105 rfl rfl ?_
    refine a_icmp_ge (tgt := 196) dX6_ridden_106 (by decide) (inR_of (by omega) (by omega)) (inR_of (by omega) (by omega)) (fun c106 => ?_) (fun c106 => ?_)
    · exfalso; omega
    · refine a_lload dX6_ridden_109 rfl ?_
      refine a_lstore (ls' := [(11, al bits), (10, ai c), (8, al bits), (0, ar T), (1, ai s), (2, ai m), (3, ai k), (4, al wo), (6, al (gL ρ 153 23 ||| wo))]) dX6_ridden_111 (Nat.le_of_ble_eq_true rfl) rfl ?_
      refine a_iconst dX6_ridden_113 ?_
      refine a_istore (ls' := [(13, ai 0), (11, al bits), (10, ai c), (8, al bits), (0, ar T), (1, ai s), (2, ai m), (3, ai k), (4, al wo), (6, al (gL ρ 153 23 ||| wo))]) dX6_ridden_114 (Nat.le_of_ble_eq_true rfl) rfl ?_
      refine a_keep (ls' := [(13, ai 0), (11, al bits), (10, ai c), (8, al bits), (0, ar T), (1, ai s), (2, ai m), (3, ai k), (4, al wo), (6, al (gL ρ 153 23 ||| wo))]) (by simp) ?_
      refine c_rid_i σ ρ N T hW hN hT hL Q s m k wo hs0 hs1 hm0 hm1 hk0 hk1 hQ c bits (itr (ri1 ρ (gL ρ 153 23 ||| wo) bits) (gN ρ 155 3).toNat 0 bits) ?_ (gN ρ 155 3).toNat 0 bits (by omega) (by omega) (by omega) rfl
      refine a_aload_n dX6_ridden_165 rfl rfl ?_
      refine a_lload dX6_ridden_166 rfl ?_
      refine a_lload dX6_ridden_168 rfl ?_
      refine a_cL (c := T) (as := [al (itr (ri1 ρ (gL ρ 153 23 ||| wo) bits) (gN ρ 155 3).toNat 0 bits), al (gL ρ 153 23 ||| wo)]) (rest := []) (c_withNextOnes σ ρ N T hW hN hT (itr (ri1 ρ (gL ρ 153 23 ||| wo) bits) (gN ρ 155 3).toNat 0 bits) (gL ρ 153 23 ||| wo)) mvX6_withNextOnes lX6_103 (kT hTk) (by decide) rfl rfl rfl rfl (Nat.le_of_ble_eq_true rfl) (Nat.le_of_ble_eq_true rfl) (Nat.le_of_ble_eq_true rfl) dX6_ridden_170 ?_
      refine a_lstore (ls' := [(11, al (wnoF ρ (gL ρ 153 23 ||| wo) (itr (ri1 ρ (gL ρ 153 23 ||| wo) bits) (gN ρ 155 3).toNat 0 bits))), (10, ai c), (8, al bits), (0, ar T), (1, ai s), (2, ai m), (3, ai k), (4, al wo), (6, al (gL ρ 153 23 ||| wo))]) dX6_ridden_173 (Nat.le_of_ble_eq_true rfl) rfl ?_
      refine a_lload dX6_ridden_175 rfl ?_
      refine a_lload dX6_ridden_177 rfl ?_
      refine a_lcmp_ne (tgt := 186) dX6_ridden_179 dX6_ridden_180 (by decide) (fun c179 => ?_) (fun c179 => ?_)
      · refine a_lload dX6_ridden_186 rfl ?_
        refine a_lstore (ls' := [(8, al (wnoF ρ (gL ρ 153 23 ||| wo) (itr (ri1 ρ (gL ρ 153 23 ||| wo) bits) (gN ρ 155 3).toNat 0 bits))), (11, al (wnoF ρ (gL ρ 153 23 ||| wo) (itr (ri1 ρ (gL ρ 153 23 ||| wo) bits) (gN ρ 155 3).toNat 0 bits))), (10, ai c), (0, ar T), (1, ai s), (2, ai m), (3, ai k), (4, al wo), (6, al (gL ρ 153 23 ||| wo))]) dX6_ridden_188 (Nat.le_of_ble_eq_true rfl) rfl ?_
        refine a_iinc (y := c + 1) (ls' := [(10, ai (c + 1)), (8, al (wnoF ρ (gL ρ 153 23 ||| wo) (itr (ri1 ρ (gL ρ 153 23 ||| wo) bits) (gN ρ 155 3).toNat 0 bits))), (11, al (wnoF ρ (gL ρ 153 23 ||| wo) (itr (ri1 ρ (gL ρ 153 23 ||| wo) bits) (gN ρ 155 3).toNat 0 bits))), (0, ar T), (1, ai s), (2, ai m), (3, ai k), (4, al wo), (6, al (gL ρ 153 23 ||| wo))]) dX6_ridden_190 rfl rfl (Nat.le_of_ble_eq_true rfl) rfl ?_
        refine a_goto (tgt := 103) dX6_ridden_193 (by decide) ?_
        exact a_keep (by simp; rfl) (ih (c + 1) (riS ρ (gL ρ 153 23 ||| wo) bits) (by omega) (by omega) (by omega) (by rw [hE, itr_s]))
      · refine a_goto (tgt := 196) dX6_ridden_183 (by decide) ?_
        have hfx : riS ρ (gL ρ 153 23 ||| wo) bits = bits := c179
        rw [itr_fix (f := riS ρ (gL ρ 153 23 ||| wo)) hfx] at hE
        refine a_keep (ls' := [(8, al bits)]) (by simp) ?_
        refine a_lload dX6_ridden_196 rfl ?_
        exact a_lret rfl (by rw [← hE]; exact hQ) dX6_ridden_198

set_option maxRecDepth 20000 in
theorem c_rid_0 (σ ρ : Sto) (N T : Nat) (hW : WV ρ) (hN : NetR σ N ρ) (hT : TmR σ N T ρ) (hL : LkR σ T ρ) (Q : Option Av → Sto → Prop) (s m k : Int) (wo : Int64) (hs0 : 0 ≤ s) (hs1 : s < gN ρ 155 0) (hm0 : 0 ≤ m) (hm1 : m ≤ 1000000) (hk0 : 0 ≤ k) (hk1 : k ≤ 4) (hQ : Q (some (al (riddenF ρ s m k wo))) σ) : ∀ (n : Nat) (i : Int) (bits : Int64), 0 ≤ i → i ≤ gN ρ 155 3 → n = (gN ρ 155 3 - i).toNat → itr (ri0 ρ s m (gL ρ 153 23 ||| wo)) (gN ρ 155 3).toNat 0 0 = itr (ri0 ρ s m (gL ρ 153 23 ||| wo)) n i bits → RunA mX6_ridden Q 19 [(10, ai i), (8, al bits), (0, ar T), (1, ai s), (2, ai m), (3, ai k), (4, al wo), (6, al (gL ρ 153 23 ||| wo))] [] σ := by
  have hNk := hN.k
  have hR := hW.R
  have hS := hW.S
  have hTr := hW.T
  have hTk := hT.k
  intro n
  induction n with
  | zero =>
    intro i bits h0 h5 hn hE
    refine a_iload dX6_ridden_19 rfl ?_
    refine a_aload_n dX6_ridden_21 rfl rfl ?_
    refine a_getR (d := N) (J := 0) fX6_22 (kT hTk) rfl (rT_0 hTk) rfl hT.net dX6_ridden_22 ?_
    refine a_getI (J := 3) fX6_34 (kN hNk) rfl rfl dX6_ridden_25 ?_
    refine a_topI (y := gN ρ 155 3) hN.n3 ?_
    refine a_icmp_ge (tgt := 90) dX6_ridden_28 (by decide) (inR_of (by omega) (by omega)) (inR_gN _ _ _) (fun c28 => ?_) (fun c28 => ?_)
    · refine a_aload_n dX6_ridden_90 rfl rfl ?_
      refine a_lload dX6_ridden_91 rfl ?_
      refine a_lload dX6_ridden_93 rfl ?_
      refine a_cL (c := T) (as := [al bits, al (gL ρ 153 23 ||| wo)]) (rest := []) (c_withNextOnes σ ρ N T hW hN hT bits (gL ρ 153 23 ||| wo)) mvX6_withNextOnes lX6_103 (kT hTk) (by decide) rfl rfl rfl rfl (Nat.le_of_ble_eq_true rfl) (Nat.le_of_ble_eq_true rfl) (Nat.le_of_ble_eq_true rfl) dX6_ridden_95 ?_
      refine a_lstore (ls' := [(8, al (wnoF ρ (gL ρ 153 23 ||| wo) bits)), (10, ai i), (0, ar T), (1, ai s), (2, ai m), (3, ai k), (4, al wo), (6, al (gL ρ 153 23 ||| wo))]) dX6_ridden_98 (Nat.le_of_ble_eq_true rfl) rfl ?_
      refine a_iconst dX6_ridden_100 ?_
      refine a_istore (ls' := [(10, ai 0), (8, al (wnoF ρ (gL ρ 153 23 ||| wo) bits)), (0, ar T), (1, ai s), (2, ai m), (3, ai k), (4, al wo), (6, al (gL ρ 153 23 ||| wo))]) dX6_ridden_101 (Nat.le_of_ble_eq_true rfl) rfl ?_
      exact a_keep (by simp) (c_rid_c σ ρ N T hW hN hT hL Q s m k wo hs0 hs1 hm0 hm1 hk0 hk1 hQ k.toNat 0 (wnoF ρ (gL ρ 153 23 ||| wo) bits) (by omega) (by omega) (by omega) (by unfold riddenF rid0; rw [hE]; rfl))
    · exfalso; omega
  | succ n ih =>
    intro i bits h0 h5 hn hE
    refine a_iload dX6_ridden_19 rfl ?_
    refine a_aload_n dX6_ridden_21 rfl rfl ?_
    refine a_getR (d := N) (J := 0) fX6_22 (kT hTk) rfl (rT_0 hTk) rfl hT.net dX6_ridden_22 ?_
    refine a_getI (J := 3) fX6_34 (kN hNk) rfl rfl dX6_ridden_25 ?_
    refine a_topI (y := gN ρ 155 3) hN.n3 ?_
    refine a_icmp_ge (tgt := 90) dX6_ridden_28 (by decide) (inR_of (by omega) (by omega)) (inR_gN _ _ _) (fun c28 => ?_) (fun c28 => ?_)
    · exfalso; omega
    · refine a_lload dX6_ridden_31 rfl ?_
      refine a_iload dX6_ridden_33 rfl ?_
      refine a_lshr dX6_ridden_35 ?_
      refine a_lconst (v := 1) dX6_ridden_36 rfl ?_
      refine a_land dX6_ridden_37 ?_
      refine a_lconst (v := 0) dX6_ridden_38 rfl ?_
      refine a_lcmp_ne (tgt := 84) dX6_ridden_39 dX6_ridden_40 (by decide) (fun c39 => ?_) (fun c39 => ?_)
      · refine a_iinc (y := i + 1) (ls' := [(10, ai (i + 1)), (8, al bits), (0, ar T), (1, ai s), (2, ai m), (3, ai k), (4, al wo), (6, al (gL ρ 153 23 ||| wo))]) dX6_ridden_84 rfl rfl (Nat.le_of_ble_eq_true rfl) rfl ?_
        refine a_goto (tgt := 19) dX6_ridden_87 (by decide) ?_
        have e : ri0 ρ s m (gL ρ 153 23 ||| wo) i bits = bits := by unfold ri0; grind
        exact a_keep (by simp) (ih (i + 1) (bits) (by omega) (by omega) (by omega) (by rw [hE, itr_s, e]))
      · refine a_aload_n dX6_ridden_43 rfl rfl ?_
        refine a_getF (d := (T + 1)) fX6_9 (kT hTk) rfl (rT_3 hTk) dX6_ridden_44 ?_
        refine a_iload dX6_ridden_47 rfl ?_
        refine a_ild (kT_1 hTk) (nT_1 hTk) (by omega) (by omega) dX6_ridden_49 ?_
        refine a_topI (y := gN ρ 161 i) (hT.lv (by omega) (by omega)) ?_
        have hb10 := hW.tm i (by omega) (by omega)
        refine a_aload_n dX6_ridden_50 rfl rfl ?_
        refine a_getR (d := N) (J := 0) fX6_22 (kT hTk) rfl (rT_0 hTk) rfl hT.net dX6_ridden_51 ?_
        refine a_getF (d := (N + 3)) fX6_95 (kN hNk) rfl (rN_6 hNk) dX6_ridden_54 ?_
        refine a_iload_n dX6_ridden_57 rfl rfl ?_
        refine a_ald (d := (N + 11 + s.toNat)) (kN_3 hNk) (nN_3 hNk) (by omega) (by omega) (rowN_w hNk (by omega) (by omega)) dX6_ridden_58 ?_
        refine a_aload_n dX6_ridden_59 rfl rfl ?_
        refine a_getR (d := N) (J := 0) fX6_22 (kT hTk) rfl (rT_0 hTk) rfl hT.net dX6_ridden_60 ?_
        refine a_getF (d := (N + 7)) fX6_71 (kN hNk) rfl (rN_10 hNk) dX6_ridden_63 ?_
        refine a_iload dX6_ridden_66 rfl ?_
        refine a_ild (kN_7 hNk) (nN_7 hNk) (by omega) (by omega) dX6_ridden_68 ?_
        refine a_topI (y := gN ρ 155 (115 + 5 * i + 1)) (hN.r1 (by omega) (by omega)) ?_
        have hb11 := hW.ride i (by omega) (by omega)
        refine a_ild (kNw hNk (by omega) (by omega)) (nNw hNk (by omega) (by omega)) (by omega) (by omega) dX6_ridden_69 ?_
        refine a_topI (y := gN ρ 155 (15 + 10 * s + (gN ρ 155 (115 + 5 * i + 1)))) (hN.wk (by omega) (by omega) (by omega) (by omega)) ?_
        have hb12 := hW.walk s (gN ρ 155 (115 + 5 * i + 1)) (by omega) (by omega) (by omega) (by omega)
        refine a_isub dX6_ridden_70 ?_
        refine a_iload_n dX6_ridden_71 rfl rfl ?_
        refine a_icmp_lt (tgt := 84) dX6_ridden_72 (by decide) (inR_of (by omega) (by omega)) (inR_of (by omega) (by omega)) (fun c72 => ?_) (fun c72 => ?_)
        · refine a_iinc (y := i + 1) (ls' := [(10, ai (i + 1)), (8, al bits), (0, ar T), (1, ai s), (2, ai m), (3, ai k), (4, al wo), (6, al (gL ρ 153 23 ||| wo))]) dX6_ridden_84 rfl rfl (Nat.le_of_ble_eq_true rfl) rfl ?_
          refine a_goto (tgt := 19) dX6_ridden_87 (by decide) ?_
          have e : ri0 ρ s m (gL ρ 153 23 ||| wo) i bits = bits := by unfold ri0; grind
          exact a_keep (by simp) (ih (i + 1) (bits) (by omega) (by omega) (by omega) (by rw [hE, itr_s, e]))
        · refine a_lload dX6_ridden_75 rfl ?_
          refine a_lconst (v := 1) dX6_ridden_77 rfl ?_
          refine a_iload dX6_ridden_78 rfl ?_
          refine a_lshl dX6_ridden_80 ?_
          refine a_lor dX6_ridden_81 ?_
          refine a_lstore (ls' := [(8, al (bits ||| (shlL 1 i))), (10, ai i), (0, ar T), (1, ai s), (2, ai m), (3, ai k), (4, al wo), (6, al (gL ρ 153 23 ||| wo))]) dX6_ridden_82 (Nat.le_of_ble_eq_true rfl) rfl ?_
          refine a_iinc (y := i + 1) (ls' := [(10, ai (i + 1)), (8, al (bits ||| (shlL 1 i))), (0, ar T), (1, ai s), (2, ai m), (3, ai k), (4, al wo), (6, al (gL ρ 153 23 ||| wo))]) dX6_ridden_84 rfl rfl (Nat.le_of_ble_eq_true rfl) rfl ?_
          refine a_goto (tgt := 19) dX6_ridden_87 (by decide) ?_
          have e : ri0 ρ s m (gL ρ 153 23 ||| wo) i bits = bits ||| (shlL 1 i) := by unfold ri0; grind
          exact a_keep (by simp) (ih (i + 1) (bits ||| (shlL 1 i)) (by omega) (by omega) (by omega) (by rw [hE, itr_s, e]))

set_option maxRecDepth 20000 in
theorem c_ridden (σ ρ : Sto) (N T : Nat) (hW : WV ρ) (hN : NetR σ N ρ) (hT : TmR σ N T ρ) (hM : gN σ T 2 = 1 → LkR σ T ρ) (s m k : Int) (wo : Int64) (hs0 : 0 ≤ s) (hs1 : s < gN ρ 155 0) (hm0 : 0 ≤ m) (hm1 : m ≤ 1000000) (hk0 : 0 ≤ k) (hk1 : k ≤ 4) : MetA mX6_ridden [ar T, ai s, ai m, ai k, al wo] σ (fun r u => r = some (al (riddenF ρ s m k wo)) ∧ LnP σ u T ρ) := by
  have hNk := hN.k
  have hR := hW.R
  have hS := hW.S
  have hTr := hW.T
  have hTk := hT.k
  refine a_entry (by decide) (Nat.le_of_ble_eq_true rfl) ?_
  refine a_ls (ls' := [(0, ar T), (1, ai s), (2, ai m), (3, ai k), (4, al wo)]) rfl ?_
  refine a_aload_n dX6_ridden_0 rfl rfl ?_
  refine a_callV (c := T) (as := []) (rest := []) (c_link σ ρ N T hW hN hT hM) mvX6_link lX6_44 (kT hTk) (by decide) rfl rfl rfl rfl (Nat.le_of_ble_eq_true rfl) (Nat.le_of_ble_eq_true rfl) (Nat.le_of_ble_eq_true rfl) dX6_ridden_1 (fun u57 hu => ?_)
  obtain ⟨-, hPu57⟩ := hu
  have hNu57 : NetR u57 N ρ := hN.ln hS.2 hT.k hPu57.1
  have hTu57 : TmR u57 N T ρ := hT.ln hPu57.1 (Or.inr hPu57.2.2)
  have hLu57 : LkR u57 T ρ := hPu57.2.1
  refine a_aload_n dX6_ridden_4 rfl rfl ?_
  refine a_getL (J := 1) fX6_26 (kT hTk) rfl rfl dX6_ridden_5 ?_
  refine a_topL (y := gL ρ 153 23) hTu57.off ?_
  refine a_lload dX6_ridden_8 rfl ?_
  refine a_lor dX6_ridden_10 ?_
  refine a_lstore (ls' := [(6, al ((gL ρ 153 23) ||| wo)), (0, ar T), (1, ai s), (2, ai m), (3, ai k), (4, al wo)]) dX6_ridden_11 (Nat.le_of_ble_eq_true rfl) rfl ?_
  refine a_lconst (v := 0) dX6_ridden_13 rfl ?_
  refine a_lstore (ls' := [(8, al 0), (6, al ((gL ρ 153 23) ||| wo)), (0, ar T), (1, ai s), (2, ai m), (3, ai k), (4, al wo)]) dX6_ridden_14 (Nat.le_of_ble_eq_true rfl) rfl ?_
  refine a_iconst dX6_ridden_16 ?_
  refine a_istore (ls' := [(10, ai 0), (8, al 0), (6, al ((gL ρ 153 23) ||| wo)), (0, ar T), (1, ai s), (2, ai m), (3, ai k), (4, al wo)]) dX6_ridden_17 (Nat.le_of_ble_eq_true rfl) rfl ?_
  exact a_keep (by simp) (c_rid_0 u57 ρ N T hW hNu57 hTu57 hLu57 _ s m k wo hs0 hs1 hm0 hm1 hk0 hk1 ⟨rfl, hPu57⟩ (gN ρ 155 3).toNat 0 0 (by omega) (by omega) (by omega) rfl)

set_option maxRecDepth 20000 in
theorem c_soo_l (σ ρ : Sto) (N T : Nat) (hW : WV ρ) (hN : NetR σ N ρ) (hT : TmR σ N T ρ) (set : Int64) (s t m : Int) (hs0 : 0 ≤ s) (hs1 : s < gN ρ 155 0) (ht0 : 0 ≤ t) (ht1 : t < gN ρ 155 0) (hm0 : 0 ≤ m) (hm1 : m ≤ 1000000) (V : Int) : ∀ (n : Nat) (i : Int) (best : Int), 0 ≤ i → i ≤ gN ρ 155 3 → n = (gN ρ 155 3 - i).toNat → -1000 ≤ best → best ≤ 1000000 → V = itr (soF ρ set t) n i best → RunA mX6_soonestOf (qI V σ) 25 [(7, ai i), (6, ai best), (0, ar T), (1, al set), (3, ai s), (4, ai t), (5, ai m)] [] σ := by
  have hNk := hN.k
  have hR := hW.R
  have hS := hW.S
  have hTr := hW.T
  have hTk := hT.k
  intro n
  induction n with
  | zero =>
    intro i best h0 h5 hn hb0 hb1 hE
    refine a_iload dX6_soonestOf_25 rfl ?_
    refine a_aload_n dX6_soonestOf_27 rfl rfl ?_
    refine a_getR (d := N) (J := 0) fX6_22 (kT hTk) rfl (rT_0 hTk) rfl hT.net dX6_soonestOf_28 ?_
    refine a_getI (J := 3) fX6_34 (kN hNk) rfl rfl dX6_soonestOf_31 ?_
    refine a_topI (y := gN ρ 155 3) hN.n3 ?_
    refine a_icmp_ge (tgt := 90) dX6_soonestOf_34 (by decide) (inR_of (by omega) (by omega)) (inR_gN _ _ _) (fun c34 => ?_) (fun c34 => ?_)
    · refine a_iload dX6_soonestOf_90 rfl ?_
      exact a_iret rfl ⟨by rw [hE]; rfl, rfl⟩ dX6_soonestOf_92
    · exfalso; omega
  | succ n ih =>
    intro i best h0 h5 hn hb0 hb1 hE
    refine a_iload dX6_soonestOf_25 rfl ?_
    refine a_aload_n dX6_soonestOf_27 rfl rfl ?_
    refine a_getR (d := N) (J := 0) fX6_22 (kT hTk) rfl (rT_0 hTk) rfl hT.net dX6_soonestOf_28 ?_
    refine a_getI (J := 3) fX6_34 (kN hNk) rfl rfl dX6_soonestOf_31 ?_
    refine a_topI (y := gN ρ 155 3) hN.n3 ?_
    refine a_icmp_ge (tgt := 90) dX6_soonestOf_34 (by decide) (inR_of (by omega) (by omega)) (inR_gN _ _ _) (fun c34 => ?_) (fun c34 => ?_)
    · exfalso; omega
    · refine a_lload_n dX6_soonestOf_37 rfl rfl ?_
      refine a_iload dX6_soonestOf_38 rfl ?_
      refine a_lshr dX6_soonestOf_40 ?_
      refine a_lconst (v := 1) dX6_soonestOf_41 rfl ?_
      refine a_land dX6_soonestOf_42 ?_
      refine a_lconst (v := 0) dX6_soonestOf_43 rfl ?_
      refine a_lcmp_eq (tgt := 84) dX6_soonestOf_44 dX6_soonestOf_45 (by decide) (fun c44 => ?_) (fun c44 => ?_)
      · refine a_iinc (y := i + 1) (ls' := [(7, ai (i + 1)), (6, ai best), (0, ar T), (1, al set), (3, ai s), (4, ai t), (5, ai m)]) dX6_soonestOf_84 rfl rfl (Nat.le_of_ble_eq_true rfl) rfl ?_
        refine a_goto (tgt := 25) dX6_soonestOf_87 (by decide) ?_
        have e : soF ρ set t i best = best := by unfold soF; grind
        have hrg := so_rng hW (set := set) ht0 ht1 1 i best (by omega) (by omega) (by omega) (by omega)
        rw [itr_s] at hrg
        rw [show itr (soF ρ set t) 0 (i + 1) (soF ρ set t i best) = soF ρ set t i best from rfl, e] at hrg
        exact a_keep (by simp) (ih (i + 1) (best) (by omega) (by omega) (by omega) (by omega) (by omega) (by rw [hE, itr_s, e]))
      · refine a_iload dX6_soonestOf_48 rfl ?_
        refine a_aload_n dX6_soonestOf_50 rfl rfl ?_
        refine a_getF (d := (T + 2)) fX6_15 (kT hTk) rfl (rT_4 hTk) dX6_soonestOf_51 ?_
        refine a_iload dX6_soonestOf_54 rfl ?_
        refine a_ild (kT_2 hTk) (nT_2 hTk) (by omega) (by omega) dX6_soonestOf_56 ?_
        refine a_topI (y := gN ρ 162 i) (hT.cm (by omega) (by omega)) ?_
        have hb13 := hW.tm i (by omega) (by omega)
        refine a_aload_n dX6_soonestOf_57 rfl rfl ?_
        refine a_getR (d := N) (J := 0) fX6_22 (kT hTk) rfl (rT_0 hTk) rfl hT.net dX6_soonestOf_58 ?_
        refine a_getF (d := (N + 3)) fX6_95 (kN hNk) rfl (rN_6 hNk) dX6_soonestOf_61 ?_
        refine a_aload_n dX6_soonestOf_64 rfl rfl ?_
        refine a_getR (d := N) (J := 0) fX6_22 (kT hTk) rfl (rT_0 hTk) rfl hT.net dX6_soonestOf_65 ?_
        refine a_getF (d := (N + 8)) fX6_68 (kN hNk) rfl (rN_11 hNk) dX6_soonestOf_68 ?_
        refine a_iload dX6_soonestOf_71 rfl ?_
        refine a_ild (kN_8 hNk) (nN_8 hNk) (by omega) (by omega) dX6_soonestOf_73 ?_
        refine a_topI (y := gN ρ 155 (115 + 5 * i + 2)) (hN.r2 (by omega) (by omega)) ?_
        have hb14 := hW.ride i (by omega) (by omega)
        refine a_ald (d := (N + 11 + (gN ρ 155 (115 + 5 * i + 2)).toNat)) (kN_3 hNk) (nN_3 hNk) (by omega) (by omega) (rowN_w hNk (by omega) (by omega)) dX6_soonestOf_74 ?_
        refine a_iload dX6_soonestOf_75 rfl ?_
        refine a_ild (kNw hNk (by omega) (by omega)) (nNw hNk (by omega) (by omega)) (by omega) (by omega) dX6_soonestOf_77 ?_
        refine a_topI (y := gN ρ 155 (15 + 10 * (gN ρ 155 (115 + 5 * i + 2)) + t)) (hN.wk (by omega) (by omega) (by omega) (by omega)) ?_
        have hb15 := hW.walk (gN ρ 155 (115 + 5 * i + 2)) t (by omega) (by omega) (by omega) (by omega)
        refine a_iadd dX6_soonestOf_78 ?_
        refine a_mmin lm6_98 (inR_of (by omega) (by omega)) (inR_of (by omega) (by omega)) (Nat.le_of_ble_eq_true rfl) (Nat.le_of_ble_eq_true rfl) (by decide) dX6_soonestOf_79 ?_
        refine a_istore (ls' := [(6, ai (if gN ρ 162 i + (gN ρ 155 (15 + 10 * (gN ρ 155 (115 + 5 * i + 2)) + t)) < best then gN ρ 162 i + (gN ρ 155 (15 + 10 * (gN ρ 155 (115 + 5 * i + 2)) + t)) else best)), (7, ai i), (0, ar T), (1, al set), (3, ai s), (4, ai t), (5, ai m)]) dX6_soonestOf_82 (Nat.le_of_ble_eq_true rfl) rfl ?_
        refine a_iinc (y := i + 1) (ls' := [(7, ai (i + 1)), (6, ai (if gN ρ 162 i + (gN ρ 155 (15 + 10 * (gN ρ 155 (115 + 5 * i + 2)) + t)) < best then gN ρ 162 i + (gN ρ 155 (15 + 10 * (gN ρ 155 (115 + 5 * i + 2)) + t)) else best)), (0, ar T), (1, al set), (3, ai s), (4, ai t), (5, ai m)]) dX6_soonestOf_84 rfl rfl (Nat.le_of_ble_eq_true rfl) rfl ?_
        refine a_goto (tgt := 25) dX6_soonestOf_87 (by decide) ?_
        have e : soF ρ set t i best = if gN ρ 162 i + (gN ρ 155 (15 + 10 * (gN ρ 155 (115 + 5 * i + 2)) + t)) < best then gN ρ 162 i + (gN ρ 155 (15 + 10 * (gN ρ 155 (115 + 5 * i + 2)) + t)) else best := by unfold soF; grind
        have hrg := so_rng hW (set := set) ht0 ht1 1 i best (by omega) (by omega) (by omega) (by omega)
        rw [itr_s] at hrg
        rw [show itr (soF ρ set t) 0 (i + 1) (soF ρ set t i best) = soF ρ set t i best from rfl, e] at hrg
        exact a_keep (by simp) (ih (i + 1) (if gN ρ 162 i + (gN ρ 155 (15 + 10 * (gN ρ 155 (115 + 5 * i + 2)) + t)) < best then gN ρ 162 i + (gN ρ 155 (15 + 10 * (gN ρ 155 (115 + 5 * i + 2)) + t)) else best) (by omega) (by omega) (by omega) (by omega) (by omega) (by rw [hE, itr_s, e]))

set_option maxRecDepth 20000 in
theorem c_soonestOf (σ ρ : Sto) (N T : Nat) (hW : WV ρ) (hN : NetR σ N ρ) (hT : TmR σ N T ρ) (set : Int64) (s t m : Int) (hs0 : 0 ≤ s) (hs1 : s < gN ρ 155 0) (ht0 : 0 ≤ t) (ht1 : t < gN ρ 155 0) (hm0 : 0 ≤ m) (hm1 : m ≤ 1000000) : MetI mX6_soonestOf [ar T, al set, ai s, ai t, ai m] σ (soonF ρ set s t m) σ := by
  have hNk := hN.k
  have hR := hW.R
  have hS := hW.S
  have hTr := hW.T
  have hTk := hT.k
  refine a_entry (by decide) (Nat.le_of_ble_eq_true rfl) ?_
  refine a_ls (ls' := [(0, ar T), (1, al set), (3, ai s), (4, ai t), (5, ai m)]) rfl ?_
  refine a_ldc (x := 1000000) cX6_94 (by decide) dX6_soonestOf_0 ?_
  refine a_iload dX6_soonestOf_2 rfl ?_
  refine a_aload_n dX6_soonestOf_4 rfl rfl ?_
  refine a_getR (d := N) (J := 0) fX6_22 (kT hTk) rfl (rT_0 hTk) rfl hT.net dX6_soonestOf_5 ?_
  refine a_getF (d := (N + 3)) fX6_95 (kN hNk) rfl (rN_6 hNk) dX6_soonestOf_8 ?_
  refine a_iload_n dX6_soonestOf_11 rfl rfl ?_
  refine a_ald (d := (N + 11 + s.toNat)) (kN_3 hNk) (nN_3 hNk) (by omega) (by omega) (rowN_w hNk (by omega) (by omega)) dX6_soonestOf_12 ?_
  refine a_iload dX6_soonestOf_13 rfl ?_
  refine a_ild (kNw hNk (by omega) (by omega)) (nNw hNk (by omega) (by omega)) (by omega) (by omega) dX6_soonestOf_15 ?_
  refine a_topI (y := gN ρ 155 (15 + 10 * s + t)) (hN.wk (by omega) (by omega) (by omega) (by omega)) ?_
  have hb16 := hW.walk s t (by omega) (by omega) (by omega) (by omega)
  refine a_iadd dX6_soonestOf_16 ?_
  refine a_mmin lm6_98 (inR_of (by omega) (by omega)) (inR_of (by omega) (by omega)) (Nat.le_of_ble_eq_true rfl) (Nat.le_of_ble_eq_true rfl) (by decide) dX6_soonestOf_17 ?_
  refine a_istore (ls' := [(6, ai (if m + (gN ρ 155 (15 + 10 * s + t)) < 1000000 then m + (gN ρ 155 (15 + 10 * s + t)) else 1000000)), (0, ar T), (1, al set), (3, ai s), (4, ai t), (5, ai m)]) dX6_soonestOf_20 (Nat.le_of_ble_eq_true rfl) rfl ?_
  refine a_iconst dX6_soonestOf_22 ?_
  refine a_istore (ls' := [(7, ai 0), (6, ai (if m + (gN ρ 155 (15 + 10 * s + t)) < 1000000 then m + (gN ρ 155 (15 + 10 * s + t)) else 1000000)), (0, ar T), (1, al set), (3, ai s), (4, ai t), (5, ai m)]) dX6_soonestOf_23 (Nat.le_of_ble_eq_true rfl) rfl ?_
  exact a_keep (by simp) (c_soo_l σ ρ N T hW hN hT set s t m hs0 hs1 ht0 ht1 hm0 hm1 _ (gN ρ 155 3).toNat 0 _ (by omega) (by omega) (by omega) (by split <;> omega) (by split <;> omega) rfl)

set_option maxRecDepth 20000 in
theorem c_soonest (σ ρ : Sto) (N T : Nat) (hW : WV ρ) (hN : NetR σ N ρ) (hT : TmR σ N T ρ) (hM : gN σ T 2 = 1 → LkR σ T ρ) (s t m k : Int) (wo : Int64) (hs0 : 0 ≤ s) (hs1 : s < gN ρ 155 0) (ht0 : 0 ≤ t) (ht1 : t < gN ρ 155 0) (hm0 : 0 ≤ m) (hm1 : m ≤ 1000000) (hk0 : 0 ≤ k) (hk1 : k ≤ 4) : MetA mX6_soonest [ar T, ai s, ai t, ai m, ai k, al wo] σ (fun r u => r = some (ai (soonF ρ (riddenF ρ s m k wo) s t m)) ∧ LnP σ u T ρ) := by
  have hNk := hN.k
  have hR := hW.R
  have hS := hW.S
  have hTr := hW.T
  have hTk := hT.k
  refine a_entry (by decide) (Nat.le_of_ble_eq_true rfl) ?_
  refine a_ls (ls' := [(0, ar T), (1, ai s), (2, ai t), (3, ai m), (4, ai k), (5, al wo)]) rfl ?_
  refine a_aload_n dX6_soonest_0 rfl rfl ?_
  refine a_aload_n dX6_soonest_1 rfl rfl ?_
  refine a_iload_n dX6_soonest_2 rfl rfl ?_
  refine a_iload_n dX6_soonest_3 rfl rfl ?_
  refine a_iload dX6_soonest_4 rfl ?_
  refine a_lload dX6_soonest_6 rfl ?_
  refine a_callL (c := T) (as := [ai s, ai m, ai k, al wo]) (rest := [ar T]) (c_ridden σ ρ N T hW hN hT hM s m k wo (by omega) (by omega) (by omega) (by omega) (by omega) (by omega)) mvX6_ridden lX6_86 (kT hTk) (by decide) rfl rfl rfl rfl (Nat.le_of_ble_eq_true rfl) (Nat.le_of_ble_eq_true rfl) (Nat.le_of_ble_eq_true rfl) dX6_soonest_8 (fun x u58 hu => ?_)
  obtain ⟨hx, hPu58⟩ := hu
  cases hx
  have hNu58 : NetR u58 N ρ := hN.ln hS.2 hT.k hPu58.1
  have hTu58 : TmR u58 N T ρ := hT.ln hPu58.1 (Or.inr hPu58.2.2)
  have hMu58 : gN u58 T 2 = 1 → LkR u58 T ρ := fun _ => hPu58.2.1
  refine a_iload_n dX6_soonest_11 rfl rfl ?_
  refine a_iload_n dX6_soonest_12 rfl rfl ?_
  refine a_iload_n dX6_soonest_13 rfl rfl ?_
  refine a_cI (c := T) (as := [al (riddenF ρ s m k wo), ai s, ai t, ai m]) (rest := []) (c_soonestOf u58 ρ N T hW hNu58 hTu58 (riddenF ρ s m k wo) s t m (by omega) (by omega) (by omega) (by omega) (by omega) (by omega)) mvX6_soonestOf lX6_90 (kT hTk) (by decide) rfl rfl rfl rfl (Nat.le_of_ble_eq_true rfl) (Nat.le_of_ble_eq_true rfl) (Nat.le_of_ble_eq_true rfl) dX6_soonest_14 ?_
  exact a_iret rfl ⟨rfl, hPu58⟩ dX6_soonest_17

