def bitsF (a b : Int) : Int64 := itr (fun i x => x ||| shlL 1 i) (b - a).toNat a 0

set_option maxRecDepth 20000 in
theorem c_bits_l (σ : Sto) (a b : Int) (V : Int64) (hb0 : 0 ≤ b) (hb1 : b ≤ 60) (ha1 : a ≤ 60) : ∀ (n : Nat) (i : Int) (x : Int64), 0 ≤ i → i ≤ 60 → n = (b - i).toNat → V = itr (fun i x => x ||| shlL 1 i) n i x → RunA mX8_bitsOf (qL V σ) 5 [(4, ai i), (2, al x), (0, ai a), (1, ai b)] [] σ := by
  intro n
  induction n with
  | zero =>
    intro i x h0 h5 hn hE
    refine a_iload dX8_bitsOf_5 rfl ?_
    refine a_iload_n dX8_bitsOf_7 rfl rfl ?_
    refine a_icmp_ge (tgt := 24) dX8_bitsOf_8 (by decide) (inR_of (by omega) (by omega)) (inR_of (by omega) (by omega)) (fun c8 => ?_) (fun c8 => ?_)
    · refine a_lload_n dX8_bitsOf_24 rfl rfl ?_
      exact a_lret rfl ⟨by rw [hE]; rfl, rfl⟩ dX8_bitsOf_25
    · exfalso; omega
  | succ n ih =>
    intro i x h0 h5 hn hE
    refine a_iload dX8_bitsOf_5 rfl ?_
    refine a_iload_n dX8_bitsOf_7 rfl rfl ?_
    refine a_icmp_ge (tgt := 24) dX8_bitsOf_8 (by decide) (inR_of (by omega) (by omega)) (inR_of (by omega) (by omega)) (fun c8 => ?_) (fun c8 => ?_)
    · exfalso; omega
    · refine a_lload_n dX8_bitsOf_11 rfl rfl ?_
      refine a_lconst (v := 1) dX8_bitsOf_12 rfl ?_
      refine a_iload dX8_bitsOf_13 rfl ?_
      refine a_lshl dX8_bitsOf_15 ?_
      refine a_lor dX8_bitsOf_16 ?_
      refine a_lstore_n (ls' := [(2, al (x ||| (shlL 1 i))), (4, ai i), (0, ai a), (1, ai b)]) dX8_bitsOf_17 rfl (Nat.le_of_ble_eq_true rfl) rfl ?_
      refine a_iinc (y := i + 1) (ls' := [(4, ai (i + 1)), (2, al (x ||| (shlL 1 i))), (0, ai a), (1, ai b)]) dX8_bitsOf_18 rfl rfl (Nat.le_of_ble_eq_true rfl) rfl ?_
      refine a_goto (tgt := 5) dX8_bitsOf_21 (by decide) ?_
      exact a_keep (by simp) (ih (i + 1) (x ||| shlL 1 i) (by omega) (by omega) (by omega) (by rw [hE, itr_s]))

set_option maxRecDepth 20000 in
theorem c_bitsOf (σ : Sto) (a b : Int) (ha0 : 0 ≤ a) (ha1 : a ≤ 60) (hb0 : 0 ≤ b) (hb1 : b ≤ 60) : MetL mX8_bitsOf [ai a, ai b] σ (bitsF a b) σ := by
  refine a_entry (by decide) (Nat.le_of_ble_eq_true rfl) ?_
  refine a_ls (ls' := [(0, ai a), (1, ai b)]) rfl ?_
  refine a_lconst (v := 0) dX8_bitsOf_0 rfl ?_
  refine a_lstore_n (ls' := [(2, al 0), (0, ai a), (1, ai b)]) dX8_bitsOf_1 rfl (Nat.le_of_ble_eq_true rfl) rfl ?_
  refine a_iload_n dX8_bitsOf_2 rfl rfl ?_
  refine a_istore (ls' := [(4, ai a), (2, al 0), (0, ai a), (1, ai b)]) dX8_bitsOf_3 (Nat.le_of_ble_eq_true rfl) rfl ?_
  exact a_keep (by simp) (c_bits_l σ a b _ hb0 hb1 ha1 (b - a).toNat a 0 ha0 ha1 rfl rfl)

set_option maxRecDepth 20000 in
theorem c_ridesOf (σ ρ : Sto) (N : Nat) (hW : WV ρ) (hN : NetR σ N ρ) (trip : Int) (ht : trp ρ trip) : MetL mX2_ridesOf [ar N, ai trip] σ (bitsF (f1F ρ trip) (f1F ρ (trip + 1))) σ := by
  have hNk := hN.k
  have hR := hW.R
  have hS := hW.S
  have hTr := hW.T
  have ht1 := ht.1
  have ht2 := ht.2
  refine a_entry (by decide) (Nat.le_of_ble_eq_true rfl) ?_
  refine a_ls (ls' := [(0, ar N), (1, ai trip)]) rfl ?_
  refine a_aload_n dX2_ridesOf_0 rfl rfl ?_
  refine a_getF (d := (N + 5)) fX2_26 (kN hNk) rfl (rN_8 hNk) dX2_ridesOf_1 ?_
  refine a_iload_n dX2_ridesOf_4 rfl rfl ?_
  refine a_ild (kN_5 hNk) (nN_5 hNk) (by omega) (by omega) dX2_ridesOf_5 ?_
  refine a_topI (y := f1F ρ trip) (hN.f1 (by omega) (by omega)) ?_
  have hb17 := hW.f1 trip (by omega)
  refine a_aload_n dX2_ridesOf_6 rfl rfl ?_
  refine a_getF (d := (N + 5)) fX2_26 (kN hNk) rfl (rN_8 hNk) dX2_ridesOf_7 ?_
  refine a_iload_n dX2_ridesOf_10 rfl rfl ?_
  refine a_iconst dX2_ridesOf_11 ?_
  refine a_iadd dX2_ridesOf_12 ?_
  refine a_ild (kN_5 hNk) (nN_5 hNk) (by omega) (by omega) dX2_ridesOf_13 ?_
  refine a_topI (y := f1F ρ (trip + 1)) (hN.f1 (by omega) (by omega)) ?_
  have hb18 := hW.f1 (trip + 1) (by omega)
  refine a_sL (as := [ai (f1F ρ trip), ai (f1F ρ (trip + 1))]) (rest := []) (c_bitsOf σ (f1F ρ trip) (f1F ρ (trip + 1)) (by omega) (by omega) (by omega) (by omega)) mvX8_bitsOf lX2_64 rfl rfl rfl (Nat.le_of_ble_eq_true rfl) (Nat.le_of_ble_eq_true rfl) (Nat.le_of_ble_eq_true rfl) dX2_ridesOf_14 ?_
  exact a_lret rfl ⟨rfl, rfl⟩ dX2_ridesOf_17

set_option maxRecDepth 20000 in
theorem c_cp_l (σ ρ : Sto) (N : Nat) (hW : WV ρ) (hN : NetR σ N ρ) (hT7 : TmR σ N 7 ρ) (hL7 : LkR σ 7 ρ) (Q : Option Av → Sto → Prop) (hQ : ∀ υ : Sto, Fg p11 σ υ → TmR υ N 11 ρ → LkR υ 11 ρ → gN υ 11 2 = 1 → Q none υ) : ∀ (n : Nat) (i : Int) (τ : Sto), 0 ≤ i → i ≤ gN ρ 155 3 → n = (gN ρ 155 3 - i).toNat → Fg p11 σ τ → gR τ 11 0 = some N → gL τ 11 1 = gL ρ 153 23 → gN τ 11 2 = 1 → (∀ j : Int, 0 ≤ j → j < i → gN τ 12 j = gN ρ 161 j ∧ gN τ 13 j = gN ρ 162 j ∧ gL τ 14 j = gL ρ 163 j) → RunA mX6_copy Q 27 [(2, ai i), (0, ar 11), (1, ar 7)] [] τ := by
  have hNk := hN.k
  have hR := hW.R
  have hS := hW.S
  have hTr := hW.T
  intro n
  induction n with
  | zero =>
    intro i τ h0 h5 hn hF hr ho hl hZ
    have hNτ : NetR τ N ρ := hN.of hS.2 (fun c j q0 q1 => hF.n (by unfold p11; omega))
    have hT7τ : TmR τ N 7 ρ := hT7.of (hF.r (by unfold p11; omega)) (hF.l (by unfold p11; omega)) (fun j => hF.n (by unfold p11; omega)) (fun j => hF.n (by unfold p11; omega)) (Or.inl (hF.n (by unfold p11; omega)))
    have hL7τ : LkR τ 7 ρ := fun j j0 j1 => by rw [hF.l (by unfold p11; omega)]; exact hL7 j j0 j1
    refine a_iload_n dX6_copy_27 rfl rfl ?_
    refine a_aload_n dX6_copy_28 rfl rfl ?_
    refine a_getR (d := N) (J := 0) fX6_22 k11 rfl (rT_0 (by decide)) rfl hr dX6_copy_29 ?_
    refine a_getI (J := 3) fX6_34 (kN hNk) rfl rfl dX6_copy_32 ?_
    refine a_topI (y := gN ρ 155 3) hNτ.n3 ?_
    refine a_icmp_ge (tgt := 80) dX6_copy_35 (by decide) (inR_of (by omega) (by omega)) (inR_gN _ _ _) (fun c35 => ?_) (fun c35 => ?_)
    · exact a_vret rfl (hQ τ hF ⟨by decide, hr, ho, fun j j0 j1 => ⟨(hZ j j0 (by omega)).1, (hZ j j0 (by omega)).2.1⟩, Or.inr hl⟩ (fun j j0 j1 => (hZ j j0 (by omega)).2.2) hl) dX6_copy_80
    · exfalso; omega
  | succ n ih =>
    intro i τ h0 h5 hn hF hr ho hl hZ
    have hNτ : NetR τ N ρ := hN.of hS.2 (fun c j q0 q1 => hF.n (by unfold p11; omega))
    have hT7τ : TmR τ N 7 ρ := hT7.of (hF.r (by unfold p11; omega)) (hF.l (by unfold p11; omega)) (fun j => hF.n (by unfold p11; omega)) (fun j => hF.n (by unfold p11; omega)) (Or.inl (hF.n (by unfold p11; omega)))
    have hL7τ : LkR τ 7 ρ := fun j j0 j1 => by rw [hF.l (by unfold p11; omega)]; exact hL7 j j0 j1
    refine a_iload_n dX6_copy_27 rfl rfl ?_
    refine a_aload_n dX6_copy_28 rfl rfl ?_
    refine a_getR (d := N) (J := 0) fX6_22 k11 rfl (rT_0 (by decide)) rfl hr dX6_copy_29 ?_
    refine a_getI (J := 3) fX6_34 (kN hNk) rfl rfl dX6_copy_32 ?_
    refine a_topI (y := gN ρ 155 3) hNτ.n3 ?_
    refine a_icmp_ge (tgt := 80) dX6_copy_35 (by decide) (inR_of (by omega) (by omega)) (inR_gN _ _ _) (fun c35 => ?_) (fun c35 => ?_)
    · exfalso; omega
    · refine a_aload_n dX6_copy_38 rfl rfl ?_
      refine a_getF (d := 12) fX6_9 k11 rfl r11_3 dX6_copy_39 ?_
      refine a_iload_n dX6_copy_42 rfl rfl ?_
      refine a_aload_n dX6_copy_43 rfl rfl ?_
      refine a_getF (d := 8) fX6_9 k7 rfl r7_3 dX6_copy_44 ?_
      refine a_iload_n dX6_copy_47 rfl rfl ?_
      refine a_ild k8 n8 (by omega) (by omega) dX6_copy_48 ?_
      refine a_topI (y := gN ρ 161 i) (hT7τ.lv (by omega) (by omega)) ?_
      have hb19 := hW.tm i (by omega) (by omega)
      refine a_ist k12 n12 (by omega) (by omega) dX6_copy_49 ?_
      refine a_aload_n dX6_copy_50 rfl rfl ?_
      refine a_getF (d := 13) fX6_15 k11 rfl r11_4 dX6_copy_51 ?_
      refine a_iload_n dX6_copy_54 rfl rfl ?_
      refine a_aload_n dX6_copy_55 rfl rfl ?_
      refine a_getF (d := 9) fX6_15 k7 rfl r7_4 dX6_copy_56 ?_
      refine a_iload_n dX6_copy_59 rfl rfl ?_
      refine a_ild k9 n9 (by omega) (by omega) dX6_copy_60 ?_
      refine a_topI (y := gN ρ 162 i) (by rw [gN_sN, if_neg (by omega)]; exact (hT7τ.cm (by omega) (by omega))) ?_
      refine a_ist k13 n13 (by omega) (by omega) dX6_copy_61 ?_
      refine a_aload_n dX6_copy_62 rfl rfl ?_
      refine a_getF (d := 14) fX6_18 k11 rfl r11_5 dX6_copy_63 ?_
      refine a_iload_n dX6_copy_66 rfl rfl ?_
      refine a_aload_n dX6_copy_67 rfl rfl ?_
      refine a_getF (d := 10) fX6_18 k7 rfl r7_5 dX6_copy_68 ?_
      refine a_iload_n dX6_copy_71 rfl rfl ?_
      refine a_lld k10 n10 (by omega) (by omega) dX6_copy_72 ?_
      refine a_topL (y := gL ρ 163 i) (by rw [gL_sN, gL_sN]; exact (hL7τ i (by omega) (by omega))) ?_
      refine a_lst k14 n14 (by omega) (by omega) dX6_copy_73 ?_
      refine a_iinc (y := i + 1) (ls' := [(2, ai (i + 1)), (0, ar 11), (1, ar 7)]) dX6_copy_74 rfl rfl (Nat.le_of_ble_eq_true rfl) rfl ?_
      refine a_goto (tgt := 27) dX6_copy_77 (by decide) ?_
      refine a_keep (by simp) (ih (i + 1) (sL (sN (sN τ 12 i (gN ρ 161 i)) 13 i (gN ρ 162 i)) 14 i (gL ρ 163 i)) (by omega) (by omega) (by omega) (((hF.sN (by unfold p11; omega)).sN (by unfold p11; omega)).sL (by unfold p11; omega)) (by rw [gR_sL, gR_sN, gR_sN]; exact hr) (by rw [gL_sL, if_neg (by omega), gL_sN, gL_sN]; exact ho) (by rw [gN_sL, gN_sN, if_neg (by omega), gN_sN, if_neg (by omega)]; exact hl) (fun j j0 j1 => ?_))
      have r1 := inR_gN ρ 161 i
      have r2 := inR_gN ρ 162 i
      by_cases e : j = i
      · rw [e, gN_sL, gN_sN, if_neg (by omega), gN_sN, if_pos ⟨rfl, rfl⟩, nrm_of r1, gN_sL, gN_sN, if_pos ⟨rfl, rfl⟩, nrm_of r2, gL_sL, if_pos ⟨rfl, rfl⟩]; exact ⟨rfl, rfl, rfl⟩
      · rw [gN_sL, gN_sN, if_neg (by omega), gN_sN, if_neg (by omega), gN_sL, gN_sN, if_neg (by omega), gN_sN, if_neg (by omega), gL_sL, if_neg (by omega), gL_sN, gL_sN]; exact hZ j j0 (by omega)

def CpP (σ u : Sto) (N : Nat) (ρ : Sto) : Prop := Fg (fun c j => p11 c j ∨ pLn 7 c j) σ u ∧ (LkR u 7 ρ ∧ gN u 7 2 = 1) ∧ TmR u N 11 ρ ∧ LkR u 11 ρ ∧ gN u 11 2 = 1

set_option maxRecDepth 20000 in
theorem c_copy (σ ρ : Sto) (N : Nat) (hW : WV ρ) (hN : NetR σ N ρ) (hT7 : TmR σ N 7 ρ) (hM7 : gN σ 7 2 = 1 → LkR σ 7 ρ) : MetA mX6_copy [ar 11, ar 7] σ (fun r u => r = none ∧ CpP σ u N ρ) := by
  have hNk := hN.k
  have hR := hW.R
  have hS := hW.S
  have hTr := hW.T
  refine a_entry (by decide) (Nat.le_of_ble_eq_true rfl) ?_
  refine a_ls (ls' := [(0, ar 11), (1, ar 7)]) rfl ?_
  refine a_aload_n dX6_copy_0 rfl rfl ?_
  refine a_callV (c := 7) (as := []) (rest := []) (c_link σ ρ N 7 hW hN hT7 hM7) mvX6_link lX6_44 k7 (by decide) rfl rfl rfl rfl (Nat.le_of_ble_eq_true rfl) (Nat.le_of_ble_eq_true rfl) (Nat.le_of_ble_eq_true rfl) dX6_copy_1 (fun u59 hu => ?_)
  obtain ⟨-, hPu59⟩ := hu
  have hNu59 : NetR u59 N ρ := hN.ln hS.2 hT7.k hPu59.1
  have hT7u59 : TmR u59 N 7 ρ := hT7.ln hPu59.1 (Or.inr hPu59.2.2)
  have hLu59 : LkR u59 7 ρ := hPu59.2.1
  refine a_aload_n dX6_copy_4 rfl rfl ?_
  refine a_aload_n dX6_copy_5 rfl rfl ?_
  refine a_getR (d := N) (J := 0) fX6_22 k7 rfl (rT_0 (by decide)) rfl hT7u59.net dX6_copy_6 ?_
  refine a_putR (J := 0) fX6_22 k11 rfl (by decide +kernel) rfl (fun _ => rfl) (fun _ => rfl) rfl dX6_copy_9 ?_
  refine a_aload_n dX6_copy_12 rfl rfl ?_
  refine a_aload_n dX6_copy_13 rfl rfl ?_
  refine a_getL (J := 1) fX6_26 k7 rfl rfl dX6_copy_14 ?_
  refine a_topL (y := gL ρ 153 23) (by rw [gL_sR]; exact hT7u59.off) ?_
  refine a_putL (J := 1) fX6_26 k11 rfl rfl rfl dX6_copy_17 ?_
  refine a_aload_n dX6_copy_20 rfl rfl ?_
  refine a_iconst dX6_copy_21 ?_
  refine a_putZ (J := 2) fX6_30 k11 rfl rfl (by omega) rfl dX6_copy_22 ?_
  refine a_iconst dX6_copy_25 ?_
  refine a_istore_n (ls' := [(2, ai 0), (0, ar 11), (1, ar 7)]) dX6_copy_26 rfl (Nat.le_of_ble_eq_true rfl) rfl ?_
  refine a_keep (by simp) (c_cp_l u59 ρ N hW hNu59 hT7u59 hLu59 _ (fun υ a1 a2 a3 a4 => ⟨rfl, (hPu59.1.mono (fun c j q => Or.inr q)).trans (a1.mono (fun c j q => Or.inl q)), ⟨fun j j0 j1 => by rw [a1.l (by unfold p11; omega)]; exact hPu59.2.1 j j0 j1, by rw [a1.n (by unfold p11; omega)]; exact hPu59.2.2⟩, a2, a3, a4⟩) (gN ρ 155 3).toNat 0 (sN (sL (sR u59 11 0 (some N)) 11 1 (gL ρ 153 23)) 11 2 1) (by omega) (by omega) (by omega) (((Fg.rfl.sR (by unfold p11; omega)).sL (by unfold p11; omega)).sN (by unfold p11; omega)) (by rw [gR_sN, gR_sL, gR_sR0, if_pos ⟨rfl, rfl⟩]) (by rw [gL_sN, gL_sL, if_pos ⟨rfl, rfl⟩]) (by rw [gN_sN, if_pos ⟨rfl, rfl⟩]; rfl) (fun j j0 j1 => by omega))

set_option maxRecDepth 20000 in
theorem c_sh_a (σ ρ ρ' : Sto) (N : Nat) (hW : WV ρ) (hW' : WV ρ') (trip d : Int) (ht : trp ρ trip) (hSh : Shd ρ ρ' trip d) (hd0 : -1000 ≤ d) (hd1 : d ≤ 1000) (hT : TmR σ N 11 ρ) (Q : Option Av → Sto → Prop) (hx : ∀ υ : Sto, Fg (fun c _ => c = 12 ∨ c = 13) σ υ → TmR υ N 11 ρ' → RunA mX6_shift Q 61 [(0, ar 11), (1, ai trip), (2, ai d), (3, ai (f1F ρ trip)), (4, ai (f1F ρ (trip + 1)))] [] υ) : ∀ (n : Nat) (i : Int) (τ : Sto), f1F ρ trip ≤ i → i ≤ f1F ρ (trip + 1) → n = (f1F ρ (trip + 1) - i).toNat → Fg (fun c _ => c = 12 ∨ c = 13) σ τ → (∀ j : Int, 0 ≤ j → j < gN ρ 155 3 → gN τ 12 j = (if f1F ρ trip ≤ j ∧ j < i then gN ρ 161 j + d else gN ρ 161 j) ∧ gN τ 13 j = (if f1F ρ trip ≤ j ∧ j < i then gN ρ 162 j + d else gN ρ 162 j)) → RunA mX6_shift Q 26 [(5, ai i), (0, ar 11), (1, ai trip), (2, ai d), (3, ai (f1F ρ trip)), (4, ai (f1F ρ (trip + 1)))] [] τ := by
  have hR := hW.R
  have hS := hW.S
  have hTr := hW.T
  have ht1 := ht.1
  have ht2 := ht.2
  have hf := f1_lt hW ht
  have e155 := hSh.1
  intro n
  induction n with
  | zero =>
    intro i τ h0 h5 hn hF hZ
    refine a_iload dX6_shift_26 rfl ?_
    refine a_iload dX6_shift_28 rfl ?_
    refine a_icmp_ge (tgt := 61) dX6_shift_30 (by decide) (inR_of (by omega) (by omega)) (inR_of (by omega) (by omega)) (fun c30 => ?_) (fun c30 => ?_)
    · refine a_keep (by simp) (hx τ hF ⟨by decide, by rw [hF.r (by omega)]; exact hT.net, by rw [hF.l (by omega), hSh.2.1]; exact hT.off, fun j j0 j1 => ?_, by rw [hF.n (by omega)]; exact hT.2.2.2.2⟩)
      rw [e155] at j1
      have hz := hZ j j0 j1
      have hs := hSh.2.2 j j0 j1
      have hi := f1_iff hW ht j0 j1
      show gN τ 12 j = _ ∧ gN τ 13 j = _
      rw [hz.1, hz.2, hs.1, hs.2]
      by_cases e : gN ρ 155 (115 + 5 * j + 0) = trip
      · have hi2 := hi.mp e; have z : f1F ρ trip ≤ j ∧ j < i := (by omega); simp only [if_pos z, if_pos e, and_self]
      · have z : ¬ (f1F ρ trip ≤ j ∧ j < i) := fun q => e (hi.mpr (by omega)); simp only [if_neg z, if_neg e]; omega
    · exfalso; omega
  | succ n ih =>
    intro i τ h0 h5 hn hF hZ
    refine a_iload dX6_shift_26 rfl ?_
    refine a_iload dX6_shift_28 rfl ?_
    refine a_icmp_ge (tgt := 61) dX6_shift_30 (by decide) (inR_of (by omega) (by omega)) (inR_of (by omega) (by omega)) (fun c30 => ?_) (fun c30 => ?_)
    · exfalso; omega
    · refine a_aload_n dX6_shift_33 rfl rfl ?_
      refine a_getF (d := 12) fX6_9 k11 rfl r11_3 dX6_shift_34 ?_
      refine a_iload dX6_shift_37 rfl ?_
      refine a_dup2 dX6_shift_39 rfl rfl ?_
      refine a_ild k12 n12 (by omega) (by omega) dX6_shift_40 ?_
      have htm := hW.tm i (by omega) (by omega)
      refine a_topI (y := gN ρ 161 i) (by rw [(hZ i (by omega) (by omega)).1, if_neg (by omega)]) ?_
      refine a_iload_n dX6_shift_41 rfl rfl ?_
      refine a_iadd dX6_shift_42 ?_
      refine a_ist k12 n12 (by omega) (by omega) dX6_shift_43 ?_
      refine a_aload_n dX6_shift_44 rfl rfl ?_
      refine a_getF (d := 13) fX6_15 k11 rfl r11_4 dX6_shift_45 ?_
      refine a_iload dX6_shift_48 rfl ?_
      refine a_dup2 dX6_shift_50 rfl rfl ?_
      refine a_ild k13 n13 (by omega) (by omega) dX6_shift_51 ?_
      refine a_topI (y := gN ρ 162 i) (by rw [gN_sN, if_neg (by omega), (hZ i (by omega) (by omega)).2, if_neg (by omega)]) ?_
      refine a_iload_n dX6_shift_52 rfl rfl ?_
      refine a_iadd dX6_shift_53 ?_
      refine a_ist k13 n13 (by omega) (by omega) dX6_shift_54 ?_
      refine a_iinc (y := i + 1) (ls' := [(5, ai (i + 1)), (0, ar 11), (1, ai trip), (2, ai d), (3, ai (f1F ρ trip)), (4, ai (f1F ρ (trip + 1)))]) dX6_shift_55 rfl rfl (Nat.le_of_ble_eq_true rfl) rfl ?_
      refine a_goto (tgt := 26) dX6_shift_58 (by decide) ?_
      refine a_keep (by simp) (ih (i + 1) (sN (sN τ 12 i (gN ρ 161 i + d)) 13 i (gN ρ 162 i + d)) (by omega) (by omega) (by omega) ((hF.sN (Or.inl rfl)).sN (Or.inr rfl)) (fun j j0 j1 => ?_))
      have hz := hZ j j0 j1
      by_cases e : j = i
      · refine ⟨?_, ?_⟩
        · rw [e, gN_sN, if_neg (by omega), gN_sN, if_pos ⟨rfl, rfl⟩, nrm_of (inR_of (by omega) (by omega)), if_pos (by omega)]
        · rw [e, gN_sN, if_pos ⟨rfl, rfl⟩, nrm_of (inR_of (by omega) (by omega)), if_pos (by omega)]
      · refine ⟨?_, ?_⟩
        · rw [gN_sN, if_neg (by omega), gN_sN, if_neg (by omega), hz.1]; by_cases z : f1F ρ trip ≤ j ∧ j < i; rw [if_pos z, if_pos (by omega)]; rw [if_neg z, if_neg (by omega)]
        · rw [gN_sN, if_neg (by omega), gN_sN, if_neg (by omega), hz.2]; by_cases z : f1F ρ trip ≤ j ∧ j < i; rw [if_pos z, if_pos (by omega)]; rw [if_neg z, if_neg (by omega)]

abbrev upB (a r o i k : Int) : Prop := (a ≤ i ∧ i < r) ∨ (a ≤ k ∧ k < r) ∨ (i = r ∧ k < o) ∨ (k = r ∧ i < o)
def BtU (τ ρ ρ' : Sto) (a r o : Int) : Prop := ∀ i k : Int, 0 ≤ i → i < gN ρ 155 3 → 0 ≤ k → k < 64 → bt (gL τ 14 i) k = if upB a r o i k then decide (okC ρ' i k) else decide (okC ρ i k)

theorem BtU.step {τ ρ ρ' : Sto} {a r o : Int} (hR : gN ρ 155 3 ≤ 60) (e3 : gN ρ' 155 3 = gN ρ 155 3) (h : BtU τ ρ ρ' a r o) (r0 : 0 ≤ r) (r1 : r < gN ρ 155 3) (o0 : 0 ≤ o) (o1 : o < gN ρ 155 3) : BtU (sL (sL τ 14 r (lnkF ρ' r o (gL τ 14 r))) 14 o (lnkF ρ' o r (gL (sL τ 14 r (lnkF ρ' r o (gL τ 14 r))) 14 o))) ρ ρ' a r (o + 1) := by
  intro i k i0 i1 k0 k1
  have hb := h i k i0 i1 k0 k1
  rw [gL_sL]
  by_cases e : i = o
  · rw [if_pos ⟨rfl, e⟩, lnk_bt (by omega) (by omega) (by omega) k0 k1]
    by_cases ek : k = r
    · rw [if_pos ek, if_pos (show upB a r (o + 1) i k by unfold upB; omega), e, ek]
    · rw [if_neg ek, gL_sL]
      by_cases eo : o = r
      · rw [if_pos ⟨rfl, eo⟩, lnk_bt (by omega) (by omega) (by omega) k0 k1]
        rw [← eo, ← e]
        have hb2 := h i k i0 i1 k0 k1
        by_cases eko : k = i
        · omega
        · rw [if_neg eko]
          rw [show r = i by omega, show o = i by omega] at hb2
          rw [hb2]
          have : upB a i i i k ↔ upB a i (i + 1) i k := by unfold upB; omega
          by_cases q : upB a i i i k
          · rw [if_pos q, if_pos (this.mp q)]
          · rw [if_neg q, if_neg (fun z => q (this.mpr z))]
      · rw [if_neg (by omega), show gL τ 14 o = gL τ 14 i from by rw [e], hb]
        have : upB a r o i k ↔ upB a r (o + 1) i k := by unfold upB; omega
        by_cases q : upB a r o i k
        · rw [if_pos q, if_pos (this.mp q)]
        · rw [if_neg q, if_neg (fun z => q (this.mpr z))]
  · rw [if_neg (by omega), gL_sL]
    by_cases er : i = r
    · rw [if_pos ⟨rfl, er⟩, lnk_bt (by omega) (by omega) (by omega) k0 k1]
      by_cases ek : k = o
      · rw [if_pos ek, if_pos (show upB a r (o + 1) i k by unfold upB; omega), ek, er]
      · rw [if_neg ek, ← er, show gL τ 14 i = gL τ 14 i from rfl, hb]
        have : upB a r o i k ↔ upB a r (o + 1) i k := by unfold upB; omega
        rw [er] at this ⊢
        by_cases q : upB a r o r k
        · rw [if_pos q, if_pos (this.mp q)]
        · rw [if_neg q, if_neg (fun z => q (this.mpr z))]
    · rw [if_neg (by omega), hb]
      have : upB a r o i k ↔ upB a r (o + 1) i k := by unfold upB; omega
      by_cases q : upB a r o i k
      · rw [if_pos q, if_pos (this.mp q)]
      · rw [if_neg q, if_neg (fun z => q (this.mpr z))]

set_option maxRecDepth 20000 in
theorem c_sh_i (σ ρ ρ' : Sto) (N : Nat) (hW : WV ρ) (hW' : WV ρ') (trip d : Int) (ht : trp ρ trip) (hSh : Shd ρ ρ' trip d) (hd0 : -1000 ≤ d) (hd1 : d ≤ 1000) (hN : NetR σ N ρ') (hT : TmR σ N 11 ρ') (Q : Option Av → Sto → Prop) (r : Int) (hr0 : 0 ≤ r) (hr1 : r < gN ρ 155 3) (hx : ∀ υ : Sto, Fg (fun c _ => c = 14) σ υ → BtU υ ρ ρ' (f1F ρ trip) r (gN ρ 155 3) → RunA mX6_shift Q 108 [(5, ai r), (0, ar 11), (1, ai trip), (2, ai d), (3, ai (f1F ρ trip)), (4, ai (f1F ρ (trip + 1)))] [] υ) : ∀ (n : Nat) (o : Int) (τ : Sto), 0 ≤ o → o ≤ gN ρ 155 3 → n = (gN ρ 155 3 - o).toNat → Fg (fun c _ => c = 14) σ τ → BtU τ ρ ρ' (f1F ρ trip) r o → RunA mX6_shift Q 74 [(6, ai o), (5, ai r), (0, ar 11), (1, ai trip), (2, ai d), (3, ai (f1F ρ trip)), (4, ai (f1F ρ (trip + 1)))] [] τ := by
  have hNk := hN.k
  have hR := hW.R
  have hS := hW.S
  have hTr := hW.T
  have ht1 := ht.1
  have ht2 := ht.2
  have hf := f1_lt hW ht
  have e155 := hSh.1
  intro n
  induction n with
  | zero =>
    intro o τ h0 h5 hn hF hB
    have hNτ : NetR (τ) N ρ' := hN.of (by rw [e155]; exact hS.2) (fun c j q0 q1 => (hF).n (by omega))
    have hT11τ : TmR (τ) N 11 ρ' := hT.of ((hF).r (by omega)) ((hF).l (by omega)) (fun j => (hF).n (by omega)) (fun j => (hF).n (by omega)) (Or.inl ((hF).n (by omega)))
    refine a_iload dX6_shift_74 rfl ?_
    refine a_aload_n dX6_shift_76 rfl rfl ?_
    refine a_getR (d := N) (J := 0) fX6_22 k11 rfl (rT_0 (by decide)) rfl hT11τ.net dX6_shift_77 ?_
    refine a_getI (J := 3) fX6_34 (kN hNk) rfl rfl dX6_shift_80 ?_
    refine a_topI (y := gN ρ 155 3) (by rw [hNτ.n3, e155]) ?_
    refine a_icmp_ge (tgt := 108) dX6_shift_83 (by decide) (inR_of (by omega) (by omega)) (inR_gN _ _ _) (fun c83 => ?_) (fun c83 => ?_)
    · exact a_keep (by simp) (hx τ hF (by rw [show gN ρ 155 3 = o by omega]; exact hB))
    · exfalso; omega
  | succ n ih =>
    intro o τ h0 h5 hn hF hB
    have hNτ : NetR (τ) N ρ' := hN.of (by rw [e155]; exact hS.2) (fun c j q0 q1 => (hF).n (by omega))
    have hT11τ : TmR (τ) N 11 ρ' := hT.of ((hF).r (by omega)) ((hF).l (by omega)) (fun j => (hF).n (by omega)) (fun j => (hF).n (by omega)) (Or.inl ((hF).n (by omega)))
    refine a_iload dX6_shift_74 rfl ?_
    refine a_aload_n dX6_shift_76 rfl rfl ?_
    refine a_getR (d := N) (J := 0) fX6_22 k11 rfl (rT_0 (by decide)) rfl hT11τ.net dX6_shift_77 ?_
    refine a_getI (J := 3) fX6_34 (kN hNk) rfl rfl dX6_shift_80 ?_
    refine a_topI (y := gN ρ 155 3) (by rw [hNτ.n3, e155]) ?_
    refine a_icmp_ge (tgt := 108) dX6_shift_83 (by decide) (inR_of (by omega) (by omega)) (inR_gN _ _ _) (fun c83 => ?_) (fun c83 => ?_)
    · exfalso; omega
    · refine a_aload_n dX6_shift_86 rfl rfl ?_
      refine a_iload dX6_shift_87 rfl ?_
      refine a_iload dX6_shift_89 rfl ?_
      refine a_cV (c := 11) (as := [ai r, ai o]) (rest := []) (c_linkOne τ ρ' N 11 hW' hNτ hT11τ r o (by omega) (by rw [e155]; omega) (by omega) (by rw [e155]; omega)) mvX6_linkOne lX6_74 k11 (by decide) rfl rfl rfl rfl (Nat.le_of_ble_eq_true rfl) (Nat.le_of_ble_eq_true rfl) (Nat.le_of_ble_eq_true rfl) dX6_shift_91 ?_
      have hN1 : NetR (sL τ 14 r (lnkF ρ' r o (gL τ 14 r))) N ρ' := hN.of (by rw [e155]; exact hS.2) (fun c j q0 q1 => (hF.sL (c := 14) (j := r) (v := lnkF ρ' r o (gL τ 14 r)) rfl).n (by omega))
      have hT111 : TmR (sL τ 14 r (lnkF ρ' r o (gL τ 14 r))) N 11 ρ' := hT.of ((hF.sL (c := 14) (j := r) (v := lnkF ρ' r o (gL τ 14 r)) rfl).r (by omega)) ((hF.sL (c := 14) (j := r) (v := lnkF ρ' r o (gL τ 14 r)) rfl).l (by omega)) (fun j => (hF.sL (c := 14) (j := r) (v := lnkF ρ' r o (gL τ 14 r)) rfl).n (by omega)) (fun j => (hF.sL (c := 14) (j := r) (v := lnkF ρ' r o (gL τ 14 r)) rfl).n (by omega)) (Or.inl ((hF.sL (c := 14) (j := r) (v := lnkF ρ' r o (gL τ 14 r)) rfl).n (by omega)))
      refine a_aload_n dX6_shift_94 rfl rfl ?_
      refine a_iload dX6_shift_95 rfl ?_
      refine a_iload dX6_shift_97 rfl ?_
      refine a_cV (c := 11) (as := [ai o, ai r]) (rest := []) (c_linkOne (sL τ 14 r (lnkF ρ' r o (gL τ 14 r))) ρ' N 11 hW' hN1 hT111 o r (by omega) (by rw [e155]; omega) (by omega) (by rw [e155]; omega)) mvX6_linkOne lX6_74 k11 (by decide) rfl rfl rfl rfl (Nat.le_of_ble_eq_true rfl) (Nat.le_of_ble_eq_true rfl) (Nat.le_of_ble_eq_true rfl) dX6_shift_99 ?_
      refine a_iinc (y := o + 1) (ls' := [(6, ai (o + 1)), (5, ai r), (0, ar 11), (1, ai trip), (2, ai d), (3, ai (f1F ρ trip)), (4, ai (f1F ρ (trip + 1)))]) dX6_shift_102 rfl rfl (Nat.le_of_ble_eq_true rfl) rfl ?_
      refine a_goto (tgt := 74) dX6_shift_105 (by decide) ?_
      exact a_keep (by simp) (ih (o + 1) (sL (sL τ 14 r (lnkF ρ' r o (gL τ 14 r))) 14 o (lnkF ρ' o r (gL (sL τ 14 r (lnkF ρ' r o (gL τ 14 r))) 14 o))) (by omega) (by omega) (by omega) ((hF.sL rfl).sL rfl) (hB.step hR.2 (e155 3) hr0 hr1 (by omega) (by omega)))

theorem sh_same {ρ ρ' : Sto} (hW : WV ρ) {trip d : Int} (ht : trp ρ trip) (hSh : Shd ρ ρ' trip d) {i k : Int} (i0 : 0 ≤ i) (i1 : i < gN ρ 155 3) (k0 : 0 ≤ k) (h : ¬ (f1F ρ trip ≤ i ∧ i < f1F ρ (trip + 1)) ∧ ¬ (f1F ρ trip ≤ k ∧ k < f1F ρ (trip + 1))) : decide (okC ρ' i k) = decide (okC ρ i k) := by
  apply decide_eq_decide.mpr
  unfold okC
  rw [hSh.1, hSh.2.1, btw_eq hSh.1]
  constructor
  · intro q
    have a := hSh.2.2 i i0 i1
    have b := hSh.2.2 k k0 q.1
    rw [if_neg (fun z => h.1 ((f1_iff hW ht i0 i1).mp z))] at a
    rw [if_neg (fun z => h.2 ((f1_iff hW ht k0 q.1).mp z))] at b
    exact ⟨q.1, q.2.1, by omega⟩
  · intro q
    have a := hSh.2.2 i i0 i1
    have b := hSh.2.2 k k0 q.1
    rw [if_neg (fun z => h.1 ((f1_iff hW ht i0 i1).mp z))] at a
    rw [if_neg (fun z => h.2 ((f1_iff hW ht k0 q.1).mp z))] at b
    exact ⟨q.1, q.2.1, by omega⟩

set_option maxRecDepth 20000 in
theorem c_sh_o (σ ρ ρ' : Sto) (N : Nat) (hW : WV ρ) (hW' : WV ρ') (trip d : Int) (ht : trp ρ trip) (hSh : Shd ρ ρ' trip d) (hd0 : -1000 ≤ d) (hd1 : d ≤ 1000) (hN : NetR σ N ρ') (hT : TmR σ N 11 ρ') (Q : Option Av → Sto → Prop) (hQ : ∀ υ : Sto, Fg (fun c _ => c = 14) σ υ → LkR υ 11 ρ' → Q none υ) : ∀ (n : Nat) (r : Int) (τ : Sto), f1F ρ trip ≤ r → r ≤ f1F ρ (trip + 1) → n = (f1F ρ (trip + 1) - r).toNat → Fg (fun c _ => c = 14) σ τ → BtU τ ρ ρ' (f1F ρ trip) r 0 → RunA mX6_shift Q 64 [(5, ai r), (0, ar 11), (1, ai trip), (2, ai d), (3, ai (f1F ρ trip)), (4, ai (f1F ρ (trip + 1)))] [] τ := by
  have hNk := hN.k
  have hR := hW.R
  have hS := hW.S
  have hTr := hW.T
  have ht1 := ht.1
  have ht2 := ht.2
  have hf := f1_lt hW ht
  have e155 := hSh.1
  intro n
  induction n with
  | zero =>
    intro r τ h0 h5 hn hF hB
    refine a_iload dX6_shift_64 rfl ?_
    refine a_iload dX6_shift_66 rfl ?_
    refine a_icmp_ge (tgt := 114) dX6_shift_68 (by decide) (inR_of (by omega) (by omega)) (inR_of (by omega) (by omega)) (fun c68 => ?_) (fun c68 => ?_)
    · exact a_vret rfl (hQ τ hF (fun i i0 i1 => by rw [e155] at i1; apply bt_ext; intro k k0 k1; rw [chg_bt hW' i0 (by rw [e155]; exact i1) k0 k1]; have hb := hB i k i0 i1 k0 k1; rw [show (11 + 3 : Nat) = 14 from rfl, hb]; split; rfl; rename_i z; exact (sh_same hW ht hSh i0 i1 k0 (by unfold upB at z; omega)).symm)) dX6_shift_114
    · exfalso; omega
  | succ n ih =>
    intro r τ h0 h5 hn hF hB
    refine a_iload dX6_shift_64 rfl ?_
    refine a_iload dX6_shift_66 rfl ?_
    refine a_icmp_ge (tgt := 114) dX6_shift_68 (by decide) (inR_of (by omega) (by omega)) (inR_of (by omega) (by omega)) (fun c68 => ?_) (fun c68 => ?_)
    · exfalso; omega
    · refine a_iconst dX6_shift_71 ?_
      refine a_istore (ls' := [(6, ai 0), (5, ai r), (0, ar 11), (1, ai trip), (2, ai d), (3, ai (f1F ρ trip)), (4, ai (f1F ρ (trip + 1)))]) dX6_shift_72 (Nat.le_of_ble_eq_true rfl) rfl ?_
      refine a_keep (ls' := [(6, ai 0), (5, ai r), (0, ar 11), (1, ai trip), (2, ai d), (3, ai (f1F ρ trip)), (4, ai (f1F ρ (trip + 1)))]) (by simp) ?_
      refine c_sh_i σ ρ ρ' N hW hW' trip d ht hSh hd0 hd1 hN hT Q r (by omega) (by omega) (fun υ a1 a2 => ?_) (gN ρ 155 3).toNat 0 τ (by omega) (by omega) (by omega) hF hB
      refine a_iinc (y := r + 1) (ls' := [(5, ai (r + 1)), (0, ar 11), (1, ai trip), (2, ai d), (3, ai (f1F ρ trip)), (4, ai (f1F ρ (trip + 1)))]) dX6_shift_108 rfl rfl (Nat.le_of_ble_eq_true rfl) rfl ?_
      refine a_goto (tgt := 64) dX6_shift_111 (by decide) ?_
      refine ih (r + 1) υ (by omega) (by omega) (by omega) a1 (fun i k i0 i1 k0 k1 => ?_)
      have hk : ¬ k < gN ρ 155 3 → decide (okC ρ' i k) = decide (okC ρ i k) := fun z => by rw [decide_eq_false (fun q : okC ρ' i k => z (by rw [← e155]; exact q.1)), decide_eq_false (fun q : okC ρ i k => z q.1)]
      rw [a2 i k i0 i1 k0 k1]
      by_cases z : k < gN ρ 155 3
      · have : upB (f1F ρ trip) r (gN ρ 155 3) i k ↔ upB (f1F ρ trip) (r + 1) 0 i k := by unfold upB; omega
        by_cases q : upB (f1F ρ trip) r (gN ρ 155 3) i k
        · rw [if_pos q, if_pos (this.mp q)]
        · rw [if_neg q, if_neg (fun y => q (this.mpr y))]
      · rw [hk z]; split <;> split <;> rfl

def ShP (σ u : Sto) (N : Nat) (ρ' : Sto) : Prop := Fg (fun c _ => 12 ≤ c ∧ c ≤ 14) σ u ∧ TmR u N 11 ρ' ∧ LkR u 11 ρ'

set_option maxRecDepth 20000 in
theorem c_shift (σ ρ ρ' : Sto) (N : Nat) (hW : WV ρ) (hW' : WV ρ') (trip d : Int) (ht : trp ρ trip) (hSh : Shd ρ ρ' trip d) (hd0 : -1000 ≤ d) (hd1 : d ≤ 1000) (hN : NetR σ N ρ) (hT11 : TmR σ N 11 ρ) (hL : LkR σ 11 ρ) : MetA mX6_shift [ar 11, ai trip, ai d] σ (fun r u => r = none ∧ ShP σ u N ρ') := by
  have hNk := hN.k
  have hR := hW.R
  have hS := hW.S
  have hTr := hW.T
  have ht1 := ht.1
  have ht2 := ht.2
  have hf := f1_lt hW ht
  have e155 := hSh.1
  refine a_entry (by decide) (Nat.le_of_ble_eq_true rfl) ?_
  refine a_ls (ls' := [(0, ar 11), (1, ai trip), (2, ai d)]) rfl ?_
  refine a_aload_n dX6_shift_0 rfl rfl ?_
  refine a_getR (d := N) (J := 0) fX6_22 k11 rfl (rT_0 (by decide)) rfl hT11.net dX6_shift_1 ?_
  refine a_getF (d := (N + 5)) fX6_83 (kN hNk) rfl (rN_8 hNk) dX6_shift_4 ?_
  refine a_iload_n dX6_shift_7 rfl rfl ?_
  refine a_ild (kN_5 hNk) (nN_5 hNk) (by omega) (by omega) dX6_shift_8 ?_
  refine a_topI (y := f1F ρ trip) (hN.f1 (by omega) (by omega)) ?_
  have hb20 := hW.f1 trip (by omega)
  refine a_istore_n (ls' := [(3, ai (f1F ρ trip)), (0, ar 11), (1, ai trip), (2, ai d)]) dX6_shift_9 rfl (Nat.le_of_ble_eq_true rfl) rfl ?_
  refine a_aload_n dX6_shift_10 rfl rfl ?_
  refine a_getR (d := N) (J := 0) fX6_22 k11 rfl (rT_0 (by decide)) rfl hT11.net dX6_shift_11 ?_
  refine a_getF (d := (N + 5)) fX6_83 (kN hNk) rfl (rN_8 hNk) dX6_shift_14 ?_
  refine a_iload_n dX6_shift_17 rfl rfl ?_
  refine a_iconst dX6_shift_18 ?_
  refine a_iadd dX6_shift_19 ?_
  refine a_ild (kN_5 hNk) (nN_5 hNk) (by omega) (by omega) dX6_shift_20 ?_
  refine a_topI (y := f1F ρ (trip + 1)) (hN.f1 (by omega) (by omega)) ?_
  have hb21 := hW.f1 (trip + 1) (by omega)
  refine a_istore (ls' := [(4, ai (f1F ρ (trip + 1))), (3, ai (f1F ρ trip)), (0, ar 11), (1, ai trip), (2, ai d)]) dX6_shift_21 (Nat.le_of_ble_eq_true rfl) rfl ?_
  refine a_iload_n dX6_shift_23 rfl rfl ?_
  refine a_istore (ls' := [(5, ai (f1F ρ trip)), (4, ai (f1F ρ (trip + 1))), (3, ai (f1F ρ trip)), (0, ar 11), (1, ai trip), (2, ai d)]) dX6_shift_24 (Nat.le_of_ble_eq_true rfl) rfl ?_
  refine a_keep (ls' := [(5, ai (f1F ρ trip)), (0, ar 11), (1, ai trip), (2, ai d), (3, ai (f1F ρ trip)), (4, ai (f1F ρ (trip + 1)))]) (by simp) ?_
  refine c_sh_a σ ρ ρ' N hW hW' trip d ht hSh hd0 hd1 hT11 _ (fun υ b1 b2 => ?_) (f1F ρ (trip + 1) - f1F ρ trip).toNat (f1F ρ trip) σ (by omega) (by omega) rfl Fg.rfl (fun j j0 j1 => ?_)
  · have hNυ : NetR υ N ρ' := (hN.of hS.2 (fun c j q0 q1 => b1.n (by omega))).w e155
    refine a_iload_n dX6_shift_61 rfl rfl ?_
    refine a_istore (ls' := [(5, ai (f1F ρ trip)), (0, ar 11), (1, ai trip), (2, ai d), (3, ai (f1F ρ trip)), (4, ai (f1F ρ (trip + 1)))]) dX6_shift_62 (Nat.le_of_ble_eq_true rfl) rfl ?_
    refine a_keep (by simp) (c_sh_o υ ρ ρ' N hW hW' trip d ht hSh hd0 hd1 hNυ b2 _ (fun x y1 y2 => ⟨rfl, ((b1.mono (fun c j q => by omega)).trans (y1.mono (fun c j q => by omega))), b2.of (y1.r (by omega)) (y1.l (by omega)) (fun j => y1.n (by omega)) (fun j => y1.n (by omega)) (Or.inl (y1.n (by omega))), y2⟩) (f1F ρ (trip + 1) - f1F ρ trip).toNat (f1F ρ trip) υ (by omega) (by omega) rfl Fg.rfl (fun i k i0 i1 k0 k1 => ?_))
    rw [b1.l (show ¬ (14 = 12 ∨ 14 = 13) by omega), show (14 : Nat) = 11 + 3 from rfl, hL i i0 i1, chg_bt hW i0 i1 k0 k1, if_neg (by unfold upB; omega)]
  · rw [if_neg (by omega), if_neg (by omega)]; exact ⟨hT11.lv j0 j1, hT11.cm j0 j1⟩

