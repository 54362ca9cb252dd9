theorem take_lg {P : List (Int × Int)} {l : Int} (h0 : 0 ≤ l) (h1 : l < P.length) : P.take (l + 1).toNat = P.take l.toNat ++ [lg P l] := by
  rw [show (l + 1).toNat = l.toNat + 1 by omega, List.take_succ, List.getElem?_eq_getElem (by omega)]
  unfold lg
  rw [List.getD_eq_getElem?_getD, List.getElem?_eq_getElem (by omega)]
  rfl

set_option maxRecDepth 20000 in
theorem c_lgCp_l (σ : Sto) (P : List (Int × Int)) (hLg : LgR σ 83 P) (hPl : (P.length : Int) ≤ 6) : ∀ (n : Nat) (l : Int) (τ : Sto) (P2 : List (Int × Int)), 0 ≤ l → l ≤ P.length → n = (P.length - l).toNat → Fg (fun c _ => 86 ≤ c ∧ c ≤ 88) σ τ → LgR τ 86 P2 → P2 = P.take l.toNat → RunA mX1_copy (fun r u => r = none ∧ Fg (fun c _ => 86 ≤ c ∧ c ≤ 88) σ u ∧ LgR u 86 P) 6 [(2, ai l), (0, ar 86), (1, ar 83)] [] τ := by
  intro n
  induction n with
  | zero =>
    intro l τ P2 h0 h5 hn hF hL2 hE
    have hLτ : LgR τ 83 P := hLg.of (fun c j q0 q1 => hF.n (by omega))
    have hl2 : (P2.length : Int) = l := by rw [hE, List.length_take]; omega
    refine a_iload_n dX1_copy_6 rfl rfl ?_
    refine a_aload_n dX1_copy_7 rfl rfl ?_
    refine a_getI (J := 0) fX1_18 k83 rfl rfl dX1_copy_8 ?_
    refine a_topI (y := (P.length : Int)) hLτ.1 ?_
    refine a_icmp_ge (tgt := 36) dX1_copy_11 (by decide) (inR_of (by omega) (by omega)) (inR_of (by omega) (by omega)) (fun c11 => ?_) (fun c11 => ?_)
    · exact a_vret rfl ⟨rfl, hF, by rw [show P = P2 from by rw [hE, List.take_of_length_le (by omega)]]; exact hL2⟩ dX1_copy_36
    · exfalso; omega
  | succ n ih =>
    intro l τ P2 h0 h5 hn hF hL2 hE
    have hLτ : LgR τ 83 P := hLg.of (fun c j q0 q1 => hF.n (by omega))
    have hl2 : (P2.length : Int) = l := by rw [hE, List.length_take]; omega
    refine a_iload_n dX1_copy_6 rfl rfl ?_
    refine a_aload_n dX1_copy_7 rfl rfl ?_
    refine a_getI (J := 0) fX1_18 k83 rfl rfl dX1_copy_8 ?_
    refine a_topI (y := (P.length : Int)) hLτ.1 ?_
    refine a_icmp_ge (tgt := 36) dX1_copy_11 (by decide) (inR_of (by omega) (by omega)) (inR_of (by omega) (by omega)) (fun c11 => ?_) (fun c11 => ?_)
    · exfalso; omega
    · refine a_aload_n dX1_copy_14 rfl rfl ?_
      refine a_aload_n dX1_copy_15 rfl rfl ?_
      refine a_getF (d := 84) fX1_9 k83 rfl r83_1 dX1_copy_16 ?_
      refine a_iload_n dX1_copy_19 rfl rfl ?_
      refine a_ild k84 n84 (by omega) (by omega) dX1_copy_20 ?_
      refine a_topI (y := (lg P l).1) (hLτ.at (by omega) (by omega)).1 ?_
      refine a_aload_n dX1_copy_21 rfl rfl ?_
      refine a_getF (d := 85) fX1_15 k83 rfl r83_2 dX1_copy_22 ?_
      refine a_iload_n dX1_copy_25 rfl rfl ?_
      refine a_ild k85 n85 (by omega) (by omega) dX1_copy_26 ?_
      refine a_topI (y := (lg P l).2) (hLτ.at (by omega) (by omega)).2.1 ?_
      refine a_callV (c := 86) (as := [ai ((lg P l).1), ai ((lg P l).2)]) (rest := []) (c_lgAdd τ 86 (Or.inr rfl) P2 (lg P l).1 (lg P l).2 hL2 (by omega) ((hLτ.at (by omega) (by omega)).1 ▸ inR_gN _ _ _) ((hLτ.at (by omega) (by omega)).2.1 ▸ inR_gN _ _ _)) mvX1_add lX1_25 k86 (by decide) rfl rfl rfl rfl (Nat.le_of_ble_eq_true rfl) (Nat.le_of_ble_eq_true rfl) (Nat.le_of_ble_eq_true rfl) dX1_copy_27 (fun υ hu => ?_)
      obtain ⟨-, hu1, hu2⟩ := hu
      refine a_iinc (y := l + 1) (ls' := [(2, ai (l + 1)), (0, ar 86), (1, ar 83)]) dX1_copy_30 rfl rfl (Nat.le_of_ble_eq_true rfl) rfl ?_
      refine a_goto (tgt := 6) dX1_copy_33 (by decide) ?_
      refine a_keep (by simp) (ih (l + 1) υ _ (by omega) (by omega) (by omega) (hF.trans (hu1.mono (fun c j z => by omega))) hu2 (by rw [take_lg h0 (by omega), hE]))

set_option maxRecDepth 20000 in
theorem c_lgCopy (σ : Sto) (P : List (Int × Int)) (hLg : LgR σ 83 P) (hPl : (P.length : Int) ≤ 6) : MetA mX1_copy [ar 86, ar 83] σ (fun r u => r = none ∧ Fg (fun c _ => 86 ≤ c ∧ c ≤ 88) σ u ∧ LgR u 86 P) := by
  refine a_entry (by decide) (Nat.le_of_ble_eq_true rfl) ?_
  refine a_ls (ls' := [(0, ar 86), (1, ar 83)]) rfl ?_
  refine a_aload_n dX1_copy_0 rfl rfl ?_
  refine a_cV (c := 86) (as := []) (rest := []) (c_lgClear σ 86 (Or.inr rfl)) mvX1_clear lX1_22 k86 (by decide) rfl rfl rfl rfl (Nat.le_of_ble_eq_true rfl) (Nat.le_of_ble_eq_true rfl) (Nat.le_of_ble_eq_true rfl) dX1_copy_1 ?_
  refine a_iconst dX1_copy_4 ?_
  refine a_istore_n (ls' := [(2, ai 0), (0, ar 86), (1, ar 83)]) dX1_copy_5 rfl (Nat.le_of_ble_eq_true rfl) rfl ?_
  exact a_keep (by simp) ((c_lgCp_l (sN σ 86 0 0) P (hLg.of (fun c j q0 q1 => by rw [gN_sN, if_neg (by omega)])) hPl P.length 0 _ [] (by omega) (by omega) (by omega) Fg.rfl (LgR.nil σ 86) rfl).mono (fun r u hu => ⟨hu.1, (Fg.rfl.sN (by omega)).trans hu.2.1, hu.2.2⟩))

def ckE (P : List (Int × Int)) : Int := (lg P ((P.length : Int) - 1)).2
def ckW (ρ : Sto) (P : List (Int × Int)) (t : Int) : Int := gN ρ 155 (15 + 10 * gN ρ 155 (115 + 5 * ckE P + 2) + t)
/-- the reason, the leg, the least to spare -/
def ckF (ρ : Sto) (P : List (Int × Int)) (s t m : Int) : Nat → Int → Int → Int × Int × Int
  | 0, l, b => (if 1000000 ≤ ckW ρ P t then 3 else 0, l, b)
  | n + 1, l, b => if anyZ (cnP ρ) ((lg P l).2 - (lg P l).1 + 1).toNat (lg P l).1 = true then (1, l, b) else if spT ρ P l s m < 0 then (2, l, b) else ckF ρ P s t m n (l + 1) (if spT ρ P l s m < b then spT ρ P l s m else b)
def ckT (ρ : Sto) (P : List (Int × Int)) (s t m : Int) : Int × Int × Int := ckF ρ P s t m P.length 0 1000000
def CkP (u ρ : Sto) (P : List (Int × Int)) (t : Int) (q : Int × Int × Int) : Prop := gN u 89 0 = q.1 ∧ gN u 89 1 = q.2.1 ∧ gN u 89 3 = q.2.2 ∧ (q.1 = 0 ∨ q.1 = 3 → gN u 89 2 = gN ρ 162 (ckE P) + ckW ρ P t)

set_option maxRecDepth 20000 in
theorem c_run_l (σ ρ : Sto) (N T : Nat) (hW : WV ρ) (hN : NetR σ N ρ) (hT : TmR σ N T ρ) (P : List (Int × Int)) (hLg : LgR σ 86 P) (hP : ∀ q ∈ P, lgOK (gN ρ 155 3) q) (hPl : (P.length : Int) ≤ 6) (hP1 : 1 ≤ (P.length : Int)) (s t m : Int) (hs0 : 0 ≤ s) (hs1 : s < gN ρ 155 0) (ht0 : 0 ≤ t) (ht1 : t < gN ρ 155 0) (hm0 : 0 ≤ m) (hm1 : m ≤ 1000000) (Z : Int × Int × Int) : ∀ (n : Nat) (l : Int) (b : Int) (τ : Sto), 0 ≤ l → l ≤ P.length → n = (P.length - l).toNat → -3000000 ≤ b → b ≤ 1000000 → Fg (fun c _ => c = 89) σ τ → gN τ 89 1 = l → gN τ 89 3 = b → Z = ckF ρ P s t m n l b → RunA mX0_run (fun r u => r = none ∧ Fg (fun c _ => c = 89) σ u ∧ CkP u ρ P t Z) 11 [(0, ar 89), (1, ar 86), (2, ar T), (3, ai s), (4, ai t), (5, ai m)] [] τ := by
  have hNk := hN.k
  have hR := hW.R
  have hS := hW.S
  have hTr := hW.T
  have hTk := hT.k
  intro n
  induction n with
  | zero =>
    intro l b τ h0 h5 hn hb0 hb1 hF h89 hb3 hZ
    have hNτ : NetR τ N ρ := hN.of hS.2 (fun d j q0 q1 => hF.n (by omega))
    have hTτ : TmR τ N T ρ := hT.of (hF.r (by omega)) (hF.l (by omega)) (fun j => hF.n (by omega)) (fun j => hF.n (by omega)) (Or.inl (hF.n (by omega)))
    have hLgτ : LgR τ 86 P := hLg.of (fun c j q0 q1 => hF.n (by omega))
    have hGk : Gok 86 := Or.inr rfl
    refine a_aload_n dX0_run_11 rfl rfl ?_
    refine a_getI (J := 1) fX0_16 k89 rfl rfl dX0_run_12 ?_
    refine a_topI (y := l) h89 ?_
    refine a_aload_n dX0_run_15 rfl rfl ?_
    refine a_getI (J := 0) fX0_19 k86 rfl rfl dX0_run_16 ?_
    refine a_topI (y := (P.length : Int)) hLgτ.1 ?_
    refine a_icmp_ge (tgt := 91) dX0_run_19 (by decide) (inR_of (by omega) (by omega)) (inR_of (by omega) (by omega)) (fun c19 => ?_) (fun c19 => ?_)
    · have hle : l = P.length := by omega
      have hZ2 : Z = (if 1000000 ≤ ckW ρ P t then 3 else 0, l, b) := hZ
      have hla := lg_rng hP (l := (P.length : Int) - 1) (by omega) (by omega)
      have htm := hW.tm (lg P ((P.length : Int) - 1)).2 (by omega) (by omega)
      have hck0 : 0 ≤ ckE P ∧ ckE P < gN ρ 155 3 := by unfold ckE; omega
      have hckt := hW.tm (ckE P) (by omega) (by omega)
      refine a_aload_n dX0_run_91 rfl rfl ?_
      refine a_getF (d := 88) fX0_41 k86 rfl r86_2 dX0_run_92 ?_
      refine a_aload_n dX0_run_95 rfl rfl ?_
      refine a_getI (J := 0) fX0_19 k86 rfl rfl dX0_run_96 ?_
      refine a_topI (y := (P.length : Int)) hLgτ.1 ?_
      refine a_iconst dX0_run_99 ?_
      refine a_mmax lm0_45 (inR_of (by omega) (by omega)) (inR_of (by omega) (by omega)) (Nat.le_of_ble_eq_true rfl) (Nat.le_of_ble_eq_true rfl) (Nat.le_of_ble_eq_true rfl) dX0_run_100 ?_
      refine a_topI (y := (P.length : Int)) (by split <;> omega) ?_
      refine a_iconst dX0_run_103 ?_
      refine a_isub dX0_run_104 ?_
      refine a_ild k88 n88 (by omega) (by omega) dX0_run_105 ?_
      refine a_topI (y := ckE P) (hLgτ.at (by omega) (by omega)).2.1 ?_
      refine a_istore (ls' := [(6, ai (ckE P)), (0, ar 89), (1, ar 86), (2, ar T), (3, ai s), (4, ai t), (5, ai m)]) dX0_run_106 (Nat.le_of_ble_eq_true rfl) rfl ?_
      refine a_aload_n dX0_run_108 rfl rfl ?_
      refine a_getR (d := N) (J := 0) fX0_48 (kT hTk) rfl (rT_0 hTk) rfl hTτ.net dX0_run_109 ?_
      refine a_getF (d := (N + 3)) fX0_54 (kN hNk) rfl (rN_6 hNk) dX0_run_112 ?_
      refine a_aload_n dX0_run_115 rfl rfl ?_
      refine a_getR (d := N) (J := 0) fX0_48 (kT hTk) rfl (rT_0 hTk) rfl hTτ.net dX0_run_116 ?_
      refine a_getF (d := (N + 8)) fX0_60 (kN hNk) rfl (rN_11 hNk) dX0_run_119 ?_
      refine a_iload dX0_run_122 rfl ?_
      refine a_ild (kN_8 hNk) (nN_8 hNk) (by omega) (by omega) dX0_run_124 ?_
      refine a_topI (y := gN ρ 155 (115 + 5 * (ckE P) + 2)) (hNτ.r2 (by omega) (by omega)) ?_
      have hb67 := hW.ride (ckE P) (by omega) (by omega)
      refine a_ald (d := (N + 11 + (gN ρ 155 (115 + 5 * (ckE P) + 2)).toNat)) (kN_3 hNk) (nN_3 hNk) (by omega) (by omega) (rowN_w hNk (by omega) (by omega)) dX0_run_125 ?_
      refine a_iload dX0_run_126 rfl ?_
      refine a_ild (kNw hNk (by omega) (by omega)) (nNw hNk (by omega) (by omega)) (by omega) (by omega) dX0_run_128 ?_
      refine a_topI (y := gN ρ 155 (15 + 10 * (gN ρ 155 (115 + 5 * (ckE P) + 2)) + t)) (hNτ.wk (by omega) (by omega) (by omega) (by omega)) ?_
      have hb68 := hW.walk (gN ρ 155 (115 + 5 * (ckE P) + 2)) t (by omega) (by omega) (by omega) (by omega)
      have hcw : 0 ≤ ckW ρ P t ∧ ckW ρ P t ≤ 1000000 := by have r := hW.ride (ckE P) (by unfold ckE; omega) (by unfold ckE; omega); have q := hW.walk _ t r.2.2.1.1 r.2.2.1.2 ht0 ht1; unfold ckW; omega
      refine a_topI (y := ckW ρ P t) rfl ?_
      refine a_istore (ls' := [(7, ai (ckW ρ P t)), (6, ai (ckE P)), (0, ar 89), (1, ar 86), (2, ar T), (3, ai s), (4, ai t), (5, ai m)]) dX0_run_129 (Nat.le_of_ble_eq_true rfl) rfl ?_
      refine a_aload_n dX0_run_131 rfl rfl ?_
      refine a_iload dX0_run_132 rfl ?_
      refine a_ldc (x := 1000000) cX0_9 (by decide) dX0_run_134 ?_
      refine a_icmp_lt (tgt := 143) dX0_run_136 (by decide) (inR_of (by omega) (by omega)) (inR_of (by omega) (by omega)) (fun c136 => ?_) (fun c136 => ?_)
      · refine a_iconst dX0_run_143 ?_
        refine a_putI (J := 0) fX0_32 k89 rfl rfl rfl dX0_run_144 ?_
        refine a_aload_n dX0_run_147 rfl rfl ?_
        refine a_aload_n dX0_run_148 rfl rfl ?_
        refine a_getF (d := (T + 2)) fX0_63 (kT hTk) rfl (rT_4 hTk) dX0_run_149 ?_
        refine a_iload dX0_run_152 rfl ?_
        refine a_ild (kT_2 hTk) (nT_2 hTk) (by omega) (by omega) dX0_run_154 ?_
        refine a_topI (y := gN ρ 162 (ckE P)) (by rw [gN_sN, if_neg (by omega)]; exact (hTτ.cm (by omega) (by omega))) ?_
        have hb69 := hW.tm (ckE P) (by omega) (by omega)
        refine a_iload dX0_run_155 rfl ?_
        refine a_iadd dX0_run_157 ?_
        refine a_putI (J := 2) fX0_66 k89 rfl rfl rfl dX0_run_158 ?_
        exact a_vret rfl ⟨rfl, (hF.sN rfl).sN rfl, by rw [hZ2, if_neg (by omega)]; exact ⟨by rw [gN_sN, if_neg (by omega), gN_sN, if_pos ⟨rfl, rfl⟩]; rfl, by rw [gN_sN, if_neg (by omega), gN_sN, if_neg (by omega)]; exact h89, by rw [gN_sN, if_neg (by omega), gN_sN, if_neg (by omega)]; exact hb3, fun _ => by rw [gN_sN, if_pos ⟨rfl, rfl⟩, nrm_of (inR_of (by omega) (by omega))]⟩⟩ dX0_run_161
      · refine a_iconst dX0_run_139 ?_
        refine a_goto (tgt := 144) dX0_run_140 (by decide) ?_
        refine a_putI (J := 0) fX0_32 k89 rfl rfl rfl dX0_run_144 ?_
        refine a_aload_n dX0_run_147 rfl rfl ?_
        refine a_aload_n dX0_run_148 rfl rfl ?_
        refine a_getF (d := (T + 2)) fX0_63 (kT hTk) rfl (rT_4 hTk) dX0_run_149 ?_
        refine a_iload dX0_run_152 rfl ?_
        refine a_ild (kT_2 hTk) (nT_2 hTk) (by omega) (by omega) dX0_run_154 ?_
        refine a_topI (y := gN ρ 162 (ckE P)) (by rw [gN_sN, if_neg (by omega)]; exact (hTτ.cm (by omega) (by omega))) ?_
        have hb70 := hW.tm (ckE P) (by omega) (by omega)
        refine a_iload dX0_run_155 rfl ?_
        refine a_iadd dX0_run_157 ?_
        refine a_putI (J := 2) fX0_66 k89 rfl rfl rfl dX0_run_158 ?_
        exact a_vret rfl ⟨rfl, (hF.sN rfl).sN rfl, by rw [hZ2, if_pos (by omega)]; exact ⟨by rw [gN_sN, if_neg (by omega), gN_sN, if_pos ⟨rfl, rfl⟩]; rfl, by rw [gN_sN, if_neg (by omega), gN_sN, if_neg (by omega)]; exact h89, by rw [gN_sN, if_neg (by omega), gN_sN, if_neg (by omega)]; exact hb3, fun _ => by rw [gN_sN, if_pos ⟨rfl, rfl⟩, nrm_of (inR_of (by omega) (by omega))]⟩⟩ dX0_run_161
    · exfalso; omega
  | succ n ih =>
    intro l b τ h0 h5 hn hb0 hb1 hF h89 hb3 hZ
    have hNτ : NetR τ N ρ := hN.of hS.2 (fun d j q0 q1 => hF.n (by omega))
    have hTτ : TmR τ N T ρ := hT.of (hF.r (by omega)) (hF.l (by omega)) (fun j => hF.n (by omega)) (fun j => hF.n (by omega)) (Or.inl (hF.n (by omega)))
    have hLgτ : LgR τ 86 P := hLg.of (fun c j q0 q1 => hF.n (by omega))
    have hGk : Gok 86 := Or.inr rfl
    refine a_aload_n dX0_run_11 rfl rfl ?_
    refine a_getI (J := 1) fX0_16 k89 rfl rfl dX0_run_12 ?_
    refine a_topI (y := l) h89 ?_
    refine a_aload_n dX0_run_15 rfl rfl ?_
    refine a_getI (J := 0) fX0_19 k86 rfl rfl dX0_run_16 ?_
    refine a_topI (y := (P.length : Int)) hLgτ.1 ?_
    refine a_icmp_ge (tgt := 91) dX0_run_19 (by decide) (inR_of (by omega) (by omega)) (inR_of (by omega) (by omega)) (fun c19 => ?_) (fun c19 => ?_)
    · exfalso; omega
    · refine a_aload_n dX0_run_22 rfl rfl ?_
      refine a_aload_n dX0_run_23 rfl rfl ?_
      refine a_aload_n dX0_run_24 rfl rfl ?_
      refine a_getI (J := 1) fX0_16 k89 rfl rfl dX0_run_25 ?_
      refine a_topI (y := l) h89 ?_
      refine a_iload_n dX0_run_28 rfl rfl ?_
      refine a_iload dX0_run_29 rfl ?_
      refine a_cI (c := 86) (as := [ar T, ai l, ai s, ai m]) (rest := []) (c_timeToSpare τ ρ N T 86 hW hNτ hTτ hGk P hLgτ hP hPl l s h0 (by omega) hs0 hs1 m) mvX1_timeToSpare lX0_24 k86 (by decide) rfl rfl rfl rfl (Nat.le_of_ble_eq_true rfl) (Nat.le_of_ble_eq_true rfl) (Nat.le_of_ble_eq_true rfl) dX0_run_31 ?_
      have hsp := sp_rng hW hP hs0 hs1 hm0 hm1 (l := l) h0 (by omega)
      refine a_istore (ls' := [(6, ai (spT ρ P l s m)), (0, ar 89), (1, ar 86), (2, ar T), (3, ai s), (4, ai t), (5, ai m)]) dX0_run_34 (Nat.le_of_ble_eq_true rfl) rfl ?_
      refine a_aload_n dX0_run_36 rfl rfl ?_
      refine a_aload_n dX0_run_37 rfl rfl ?_
      refine a_aload_n dX0_run_38 rfl rfl ?_
      refine a_getI (J := 1) fX0_16 k89 rfl rfl dX0_run_39 ?_
      refine a_topI (y := l) h89 ?_
      refine a_cI (c := 86) (as := [ar T, ai l]) (rest := []) (c_lgCan τ ρ N T 86 hW hNτ hTτ hGk P hLgτ hP hPl l h0 (by omega)) mvX1_isCancelled lX0_28 k86 (by decide) rfl rfl rfl rfl (Nat.le_of_ble_eq_true rfl) (Nat.le_of_ble_eq_true rfl) (Nat.le_of_ble_eq_true rfl) dX0_run_42 ?_
      refine a_ifb_eq (tgt := 54) dX0_run_45 (by decide) (fun c45 => ?_) (fun c45 => ?_)
      · refine a_iload dX0_run_54 rfl ?_
        refine a_if_ge (tgt := 65) dX0_run_56 (by decide) (inR_of (by omega) (by omega)) (fun c56 => ?_) (fun c56 => ?_)
        · refine a_aload_n dX0_run_65 rfl rfl ?_
          refine a_aload_n dX0_run_66 rfl rfl ?_
          refine a_getI (J := 3) fX0_10 k89 rfl rfl dX0_run_67 ?_
          refine a_topI (y := b) hb3 ?_
          refine a_iload dX0_run_70 rfl ?_
          refine a_mmin lm0_35 (inR_of (by omega) (by omega)) (inR_of (by omega) (by omega)) (Nat.le_of_ble_eq_true rfl) (Nat.le_of_ble_eq_true rfl) (Nat.le_of_ble_eq_true rfl) dX0_run_72 ?_
          refine a_putI (J := 3) fX0_10 k89 rfl rfl rfl dX0_run_75 ?_
          refine a_aload_n dX0_run_78 rfl rfl ?_
          refine a_dup dX0_run_79 rfl ?_
          refine a_getI (J := 1) fX0_16 k89 rfl rfl dX0_run_80 ?_
          refine a_topI (y := l) (by rw [gN_sN, if_neg (by omega)]; exact h89) ?_
          refine a_iconst dX0_run_83 ?_
          refine a_iadd dX0_run_84 ?_
          refine a_putI (J := 1) fX0_16 k89 rfl rfl rfl dX0_run_85 ?_
          refine a_goto (tgt := 11) dX0_run_88 (by decide) ?_
          refine a_keep (by simp) (ih (l + 1) (if spT ρ P l s m < b then spT ρ P l s m else b) (sN (sN τ 89 3 (if spT ρ P l s m < b then spT ρ P l s m else b)) 89 1 (l + 1)) (by omega) (by omega) (by omega) (by split <;> omega) (by split <;> omega) ((hF.sN rfl).sN rfl) (by rw [gN_sN, if_pos ⟨rfl, rfl⟩, nrm_of (inR_of (by omega) (by omega))]) (by rw [gN_sN, if_neg (by omega), gN_sN, if_pos ⟨rfl, rfl⟩, nrm_of (inR_of (by split <;> omega) (by split <;> omega))]) (by rw [hZ]; show (if _ then _ else _) = _; rw [if_neg c45, if_neg (by omega)]))
        · refine a_aload_n dX0_run_59 rfl rfl ?_
          refine a_iconst dX0_run_60 ?_
          refine a_putI (J := 0) fX0_32 k89 rfl rfl rfl dX0_run_61 ?_
          exact a_vret rfl ⟨rfl, hF.sN rfl, by rw [hZ]; show CkP _ ρ P t (if _ then _ else _); rw [if_neg c45, if_pos (by omega)]; exact ⟨by rw [gN_sN, if_pos ⟨rfl, rfl⟩]; rfl, by rw [gN_sN, if_neg (by omega)]; exact h89, by rw [gN_sN, if_neg (by omega)]; exact hb3, fun z => absurd z (by show ¬ ((2 : Int) = 0 ∨ (2 : Int) = 3); omega)⟩⟩ dX0_run_64
      · refine a_aload_n dX0_run_48 rfl rfl ?_
        refine a_iconst dX0_run_49 ?_
        refine a_putI (J := 0) fX0_32 k89 rfl rfl rfl dX0_run_50 ?_
        exact a_vret rfl ⟨rfl, hF.sN rfl, by rw [hZ]; show CkP _ ρ P t (if _ then _ else _); rw [if_pos c45]; exact ⟨by rw [gN_sN, if_pos ⟨rfl, rfl⟩]; rfl, by rw [gN_sN, if_neg (by omega)]; exact h89, by rw [gN_sN, if_neg (by omega)]; exact hb3, fun z => absurd z (by show ¬ ((1 : Int) = 0 ∨ (1 : Int) = 3); omega)⟩⟩ dX0_run_53

set_option maxRecDepth 20000 in
theorem c_run (σ ρ : Sto) (N T : Nat) (hW : WV ρ) (hN : NetR σ N ρ) (hT : TmR σ N T ρ) (P : List (Int × Int)) (hLg : LgR σ 86 P) (hP : ∀ q ∈ P, lgOK (gN ρ 155 3) q) (hPl : (P.length : Int) ≤ 6) (hP1 : 1 ≤ (P.length : Int)) (s t m : Int) (hs0 : 0 ≤ s) (hs1 : s < gN ρ 155 0) (ht0 : 0 ≤ t) (ht1 : t < gN ρ 155 0) (hm0 : 0 ≤ m) (hm1 : m ≤ 1000000) : MetA mX0_run [ar 89, ar 86, ar T, ai s, ai t, ai m] σ (fun r u => r = none ∧ Fg (fun c _ => c = 89) σ u ∧ CkP u ρ P t (ckT ρ P s t m)) := by
  have hNk := hN.k
  have hR := hW.R
  have hS := hW.S
  have hTr := hW.T
  have hTk := hT.k
  refine a_entry (by decide) (Nat.le_of_ble_eq_true rfl) ?_
  refine a_ls (ls' := [(0, ar 89), (1, ar 86), (2, ar T), (3, ai s), (4, ai t), (5, ai m)]) rfl ?_
  refine a_aload_n dX0_run_0 rfl rfl ?_
  refine a_ldc (x := 1000000) cX0_9 (by decide) dX0_run_1 ?_
  refine a_putI (J := 3) fX0_10 k89 rfl rfl rfl dX0_run_3 ?_
  refine a_aload_n dX0_run_6 rfl rfl ?_
  refine a_iconst dX0_run_7 ?_
  refine a_putI (J := 1) fX0_16 k89 rfl rfl rfl dX0_run_8 ?_
  exact a_keep (by simp) ((c_run_l (sN (sN σ 89 3 1000000) 89 1 0) ρ N T hW (hN.of hS.2 (fun d j q0 q1 => by rw [gN_sN, if_neg (by omega), gN_sN, if_neg (by omega)])) (hT.of (by rw [gR_sN, gR_sN]) (by rw [gL_sN, gL_sN]) (fun j => by rw [gN_sN, if_neg (by omega), gN_sN, if_neg (by omega)]) (fun j => by rw [gN_sN, if_neg (by omega), gN_sN, if_neg (by omega)]) (Or.inl (by rw [gN_sN, if_neg (by omega), gN_sN, if_neg (by omega)]))) P (hLg.of (fun c j q0 q1 => by rw [gN_sN, if_neg (by omega), gN_sN, if_neg (by omega)])) hP hPl hP1 s t m hs0 hs1 ht0 ht1 hm0 hm1 _ P.length 0 1000000 _ (by omega) (by omega) (by omega) (by omega) (by omega) Fg.rfl (by rw [gN_sN, if_pos ⟨rfl, rfl⟩]; rfl) (by rw [gN_sN, if_neg (by omega), gN_sN, if_pos ⟨rfl, rfl⟩]; rfl) rfl).mono (fun r u hu => ⟨hu.1, ((Fg.rfl.sN rfl).sN rfl).trans hu.2.1, hu.2.2⟩))

