set_option maxRecDepth 20000 in
theorem c_bo_l (σ ρ : Sto) (N : Nat) (hW : WV ρ) (hN : NetR σ N ρ) (hT7 : TmR σ N 7 ρ) (hL7 : LkR σ 7 ρ) (t i row w : Int) (P : Int → Int) (ht0 : 0 ≤ t) (ht1 : t < 10) (h0 : 0 ≤ i) (h1 : i < gN ρ 155 3) (hr0 : 0 ≤ row) (hr1 : row ≤ 240) (hw : inR w) (hP : ∀ k : Int, 0 ≤ k → k < gN ρ 155 3 → gN σ (43 + t.toNat) (row + k) = P k) (V : Int) : ∀ (n : Nat) (k : Int) (rides : Int64) (best : Int) (found : Int), 0 ≤ k → k ≤ gN ρ 155 3 → n = (gN ρ 155 3 - k).toNat → inR best → (∀ j : Int, 0 ≤ j → bt rides j = bt (gL ρ 163 i) (k + j)) → V = (itr (boF ρ P i) n k (found, best)).1 → RunA mX3_bestOnward (qI V σ) 18 [(9, ai k), (7, al rides), (6, ai best), (5, ai found), (0, ar 7), (1, ai i), (2, ar (43 + t.toNat)), (3, ai row), (4, ai w)] [] σ := by
  have hNk := hN.k
  have hR := hW.R
  have hS := hW.S
  have hTr := hW.T
  have hPr : ∀ k : Int, 0 ≤ k → k < gN ρ 155 3 → inR (P k) := fun k a b => hP k a b ▸ inR_gN _ _ _
  intro n
  induction n with
  | zero =>
    intro k rides best found hk0 hk1 hn hb hB hE
    refine a_iload dX3_bestOnward_18 rfl ?_
    refine a_aload_n dX3_bestOnward_20 rfl rfl ?_
    refine a_getR (d := N) (J := 0) fX3_35 k7 rfl (rT_0 (by decide)) rfl hT7.net dX3_bestOnward_21 ?_
    refine a_getI (J := 3) fX3_39 (kN hNk) rfl rfl dX3_bestOnward_24 ?_
    refine a_topI (y := gN ρ 155 3) hN.n3 ?_
    refine a_icmp_ge (tgt := 81) dX3_bestOnward_27 (by decide) (inR_of (by omega) (by omega)) (inR_gN _ _ _) (fun c27 => ?_) (fun c27 => ?_)
    · refine a_iload dX3_bestOnward_81 rfl ?_
      exact a_iret rfl ⟨by rw [hE]; rfl, rfl⟩ dX3_bestOnward_83
    · exfalso; omega
  | succ n ih =>
    intro k rides best found hk0 hk1 hn hb hB hE
    refine a_iload dX3_bestOnward_18 rfl ?_
    refine a_aload_n dX3_bestOnward_20 rfl rfl ?_
    refine a_getR (d := N) (J := 0) fX3_35 k7 rfl (rT_0 (by decide)) rfl hT7.net dX3_bestOnward_21 ?_
    refine a_getI (J := 3) fX3_39 (kN hNk) rfl rfl dX3_bestOnward_24 ?_
    refine a_topI (y := gN ρ 155 3) hN.n3 ?_
    refine a_icmp_ge (tgt := 81) dX3_bestOnward_27 (by decide) (inR_of (by omega) (by omega)) (inR_gN _ _ _) (fun c27 => ?_) (fun c27 => ?_)
    · exfalso; omega
    · refine a_lload dX3_bestOnward_30 rfl ?_
      refine a_lconst (v := 0) dX3_bestOnward_32 rfl ?_
      refine a_lcmp_eq (tgt := 81) dX3_bestOnward_33 dX3_bestOnward_34 (by decide) (fun c33 => ?_) (fun c33 => ?_)
      · refine a_iload dX3_bestOnward_81 rfl ?_
        exact a_iret rfl ⟨by rw [hE, bo_no _ _ _ (fun j a b => by have z := hB (j - k) (by omega); rw [c33, bt_0, show k + (j - k) = j by omega] at z; exact z.symm)], rfl⟩ dX3_bestOnward_83
      · have hb0 := hB 0 (by omega)
        rw [Int.add_zero] at hb0
        have hz := and1_z rides
        refine a_lload dX3_bestOnward_37 rfl ?_
        refine a_lconst (v := 1) dX3_bestOnward_39 rfl ?_
        refine a_land dX3_bestOnward_40 ?_
        refine a_lconst (v := 0) dX3_bestOnward_41 rfl ?_
        refine a_lcmp_eq (tgt := 69) dX3_bestOnward_42 dX3_bestOnward_43 (by decide) (fun c42 => ?_) (fun c42 => ?_)
        · refine a_lload dX3_bestOnward_69 rfl ?_
          refine a_iconst dX3_bestOnward_71 ?_
          refine a_lushr dX3_bestOnward_72 ?_
          refine a_lstore (ls' := [(7, al (ushrL rides 1)), (9, ai k), (6, ai best), (5, ai found), (0, ar 7), (1, ai i), (2, ar (43 + t.toNat)), (3, ai row), (4, ai w)]) dX3_bestOnward_73 (Nat.le_of_ble_eq_true rfl) rfl ?_
          refine a_iinc (y := k + 1) (ls' := [(9, ai (k + 1)), (7, al (ushrL rides 1)), (6, ai best), (5, ai found), (0, ar 7), (1, ai i), (2, ar (43 + t.toNat)), (3, ai row), (4, ai w)]) dX3_bestOnward_75 rfl rfl (Nat.le_of_ble_eq_true rfl) rfl ?_
          refine a_goto (tgt := 18) dX3_bestOnward_78 (by decide) ?_
          have e : boF ρ P i k (found, best) = (found, best) := by unfold boF; grind
          exact a_keep (by simp) (ih (k + 1) (ushrL rides 1) (best) (found) (by omega) (by omega) (by omega) hb (fun j j0 => by rw [ushr_bt j0, hB (j + 1) (by omega), show k + (j + 1) = k + 1 + j by omega]) (by rw [hE, itr_s, e]))
        · refine a_aload_n dX3_bestOnward_46 rfl rfl ?_
          refine a_iload_n dX3_bestOnward_47 rfl rfl ?_
          refine a_iload dX3_bestOnward_48 rfl ?_
          refine a_iadd dX3_bestOnward_50 ?_
          refine a_ild (kR43 (by omega) (by omega)) (nR43 (by omega) (by omega)) (by omega) (by omega) dX3_bestOnward_51 ?_
          refine a_topI (y := P k) (hP k (by omega) (by omega)) ?_
          refine a_iload dX3_bestOnward_52 rfl ?_
          refine a_icmp_ge (tgt := 69) dX3_bestOnward_54 (by decide) (hPr k (by omega) (by omega)) hb (fun c54 => ?_) (fun c54 => ?_)
          · refine a_lload dX3_bestOnward_69 rfl ?_
            refine a_iconst dX3_bestOnward_71 ?_
            refine a_lushr dX3_bestOnward_72 ?_
            refine a_lstore (ls' := [(7, al (ushrL rides 1)), (9, ai k), (6, ai best), (5, ai found), (0, ar 7), (1, ai i), (2, ar (43 + t.toNat)), (3, ai row), (4, ai w)]) dX3_bestOnward_73 (Nat.le_of_ble_eq_true rfl) rfl ?_
            refine a_iinc (y := k + 1) (ls' := [(9, ai (k + 1)), (7, al (ushrL rides 1)), (6, ai best), (5, ai found), (0, ar 7), (1, ai i), (2, ar (43 + t.toNat)), (3, ai row), (4, ai w)]) dX3_bestOnward_75 rfl rfl (Nat.le_of_ble_eq_true rfl) rfl ?_
            refine a_goto (tgt := 18) dX3_bestOnward_78 (by decide) ?_
            have e : boF ρ P i k (found, best) = (found, best) := by unfold boF; grind
            exact a_keep (by simp) (ih (k + 1) (ushrL rides 1) (best) (found) (by omega) (by omega) (by omega) hb (fun j j0 => by rw [ushr_bt j0, hB (j + 1) (by omega), show k + (j + 1) = k + 1 + j by omega]) (by rw [hE, itr_s, e]))
          · refine a_aload_n dX3_bestOnward_57 rfl rfl ?_
            refine a_iload_n dX3_bestOnward_58 rfl rfl ?_
            refine a_iload dX3_bestOnward_59 rfl ?_
            refine a_iadd dX3_bestOnward_61 ?_
            refine a_ild (kR43 (by omega) (by omega)) (nR43 (by omega) (by omega)) (by omega) (by omega) dX3_bestOnward_62 ?_
            refine a_topI (y := P k) (hP k (by omega) (by omega)) ?_
            refine a_istore (ls' := [(6, ai (P k)), (9, ai k), (7, al rides), (5, ai found), (0, ar 7), (1, ai i), (2, ar (43 + t.toNat)), (3, ai row), (4, ai w)]) dX3_bestOnward_63 (Nat.le_of_ble_eq_true rfl) rfl ?_
            refine a_iload dX3_bestOnward_65 rfl ?_
            refine a_istore (ls' := [(5, ai k), (6, ai (P k)), (9, ai k), (7, al rides), (0, ar 7), (1, ai i), (2, ar (43 + t.toNat)), (3, ai row), (4, ai w)]) dX3_bestOnward_67 (Nat.le_of_ble_eq_true rfl) rfl ?_
            refine a_lload dX3_bestOnward_69 rfl ?_
            refine a_iconst dX3_bestOnward_71 ?_
            refine a_lushr dX3_bestOnward_72 ?_
            refine a_lstore (ls' := [(7, al (ushrL rides 1)), (5, ai k), (6, ai (P k)), (9, ai k), (0, ar 7), (1, ai i), (2, ar (43 + t.toNat)), (3, ai row), (4, ai w)]) dX3_bestOnward_73 (Nat.le_of_ble_eq_true rfl) rfl ?_
            refine a_iinc (y := k + 1) (ls' := [(9, ai (k + 1)), (7, al (ushrL rides 1)), (5, ai k), (6, ai (P k)), (0, ar 7), (1, ai i), (2, ar (43 + t.toNat)), (3, ai row), (4, ai w)]) dX3_bestOnward_75 rfl rfl (Nat.le_of_ble_eq_true rfl) rfl ?_
            refine a_goto (tgt := 18) dX3_bestOnward_78 (by decide) ?_
            have e : boF ρ P i k (found, best) = (k, P k) := by unfold boF; grind
            exact a_keep (by simp) (ih (k + 1) (ushrL rides 1) (P k) (k) (by omega) (by omega) (by omega) (hPr k (by omega) (by omega)) (fun j j0 => by rw [ushr_bt j0, hB (j + 1) (by omega), show k + (j + 1) = k + 1 + j by omega]) (by rw [hE, itr_s, e]))

set_option maxRecDepth 20000 in
theorem c_bestOnward (σ ρ : Sto) (N : Nat) (hW : WV ρ) (hN : NetR σ N ρ) (hT7 : TmR σ N 7 ρ) (hL7 : LkR σ 7 ρ) (t i row w : Int) (P : Int → Int) (ht0 : 0 ≤ t) (ht1 : t < 10) (h0 : 0 ≤ i) (h1 : i < gN ρ 155 3) (hr0 : 0 ≤ row) (hr1 : row ≤ 240) (hw : inR w) (hP : ∀ k : Int, 0 ≤ k → k < gN ρ 155 3 → gN σ (43 + t.toNat) (row + k) = P k) : MetI mX3_bestOnward [ar 7, ai i, ar (43 + t.toNat), ai row, ai w] σ (boN ρ P i w) σ := by
  have hNk := hN.k
  have hR := hW.R
  have hS := hW.S
  have hTr := hW.T
  have hPr : ∀ k : Int, 0 ≤ k → k < gN ρ 155 3 → inR (P k) := fun k a b => hP k a b ▸ inR_gN _ _ _
  refine a_entry (by decide) (Nat.le_of_ble_eq_true rfl) ?_
  refine a_ls (ls' := [(0, ar 7), (1, ai i), (2, ar (43 + t.toNat)), (3, ai row), (4, ai w)]) rfl ?_
  refine a_iconst dX3_bestOnward_0 ?_
  refine a_istore (ls' := [(5, ai (-1)), (0, ar 7), (1, ai i), (2, ar (43 + t.toNat)), (3, ai row), (4, ai w)]) dX3_bestOnward_1 (Nat.le_of_ble_eq_true rfl) rfl ?_
  refine a_iload dX3_bestOnward_3 rfl ?_
  refine a_istore (ls' := [(6, ai w), (5, ai (-1)), (0, ar 7), (1, ai i), (2, ar (43 + t.toNat)), (3, ai row), (4, ai w)]) dX3_bestOnward_5 (Nat.le_of_ble_eq_true rfl) rfl ?_
  refine a_aload_n dX3_bestOnward_7 rfl rfl ?_
  refine a_getF (d := 10) fX3_75 k7 rfl r7_5 dX3_bestOnward_8 ?_
  refine a_iload_n dX3_bestOnward_11 rfl rfl ?_
  refine a_lld k10 n10 (by omega) (by omega) dX3_bestOnward_12 ?_
  refine a_topL (y := gL ρ 163 i) (hL7 i (by omega) (by omega)) ?_
  refine a_lstore (ls' := [(7, al (gL ρ 163 i)), (6, ai w), (5, ai (-1)), (0, ar 7), (1, ai i), (2, ar (43 + t.toNat)), (3, ai row), (4, ai w)]) dX3_bestOnward_13 (Nat.le_of_ble_eq_true rfl) rfl ?_
  refine a_iconst dX3_bestOnward_15 ?_
  refine a_istore (ls' := [(9, ai 0), (7, al (gL ρ 163 i)), (6, ai w), (5, ai (-1)), (0, ar 7), (1, ai i), (2, ar (43 + t.toNat)), (3, ai row), (4, ai w)]) dX3_bestOnward_16 (Nat.le_of_ble_eq_true rfl) rfl ?_
  exact a_keep (by simp) (c_bo_l σ ρ N hW hN hT7 hL7 t i row w P ht0 ht1 h0 h1 hr0 hr1 hw hP _ (gN ρ 155 3).toNat 0 (gL ρ 163 i) w (-1) (by omega) (by omega) (by omega) hw (fun j j0 => by rw [Int.zero_add]) rfl)

def LfP (σ u ρ : Sto) (t : Int) (c : Nat) (i : Int) : Prop := Fg (fun d j => (d = 43 + t.toNat ∨ d = 53 + t.toNat ∨ d = 63 + t.toNat) ∧ j = (c : Int) * 60 + i) σ u ∧ gN u (43 + t.toNat) ((c : Int) * 60 + i) = arL ρ t c i ∧ gN u (53 + t.toNat) ((c : Int) * 60 + i) = ofL ρ t c i ∧ gN u (63 + t.toNat) ((c : Int) * 60 + i) = onS ρ t c i
theorem LfP.put {σ ρ : Sto} {t : Int} {c : Nat} {i x y z : Int} (hx : arL ρ t c i = x) (hy : ofL ρ t c i = y) (hz : onS ρ t c i = z) (h1 : inR x) (h2 : inR y) (h3 : inR z) : LfP σ (sN (sN (sN σ (43 + t.toNat) ((c : Int) * 60 + i) x) (53 + t.toNat) ((c : Int) * 60 + i) y) (63 + t.toNat) ((c : Int) * 60 + i) z) ρ t c i := by
  refine ⟨((Fg.rfl.sN ⟨Or.inl rfl, rfl⟩).sN ⟨Or.inr (Or.inl rfl), rfl⟩).sN ⟨Or.inr (Or.inr rfl), rfl⟩, ?_, ?_, ?_⟩
  · rw [gN_sN, if_neg (by omega), gN_sN, if_neg (by omega), gN_sN, if_pos ⟨rfl, rfl⟩, nrm_of h1, hx]
  · rw [gN_sN, if_neg (by omega), gN_sN, if_pos ⟨rfl, rfl⟩, nrm_of h2, hy]
  · rw [gN_sN, if_pos ⟨rfl, rfl⟩, nrm_of h3, hz]

set_option maxRecDepth 20000 in
theorem c_lf3 (σ ρ : Sto) (N : Nat) (hW : WV ρ) (hN : NetR σ N ρ) (hT7 : TmR σ N 7 ρ) (hL7 : LkR σ 7 ρ) (t i : Int) (c : Nat) (ht0 : 0 ≤ t) (ht1 : t < gN ρ 155 0) (h0 : 0 ≤ i) (h1 : i < gN ρ 155 3) (hc : c ≤ 4) (hP : ∀ k : Int, 0 ≤ k → k < gN ρ 155 3 → 0 < (c : Int) → gN σ (43 + t.toNat) ((c : Int) * 60 - 60 + k) = prvL ρ t c k) (hA : i + 1 < gN ρ 155 3 → gN σ (43 + t.toNat) ((c : Int) * 60 + i + 1) = arL ρ t c (i + 1) ∧ gN σ (53 + t.toNat) ((c : Int) * 60 + i + 1) = ofL ρ t c (i + 1)) (hcn : ¬ cnc ρ i) : RunA mX3_lookFrom (fun r u => r = none ∧ LfP σ u ρ t c i) 153 [(8, ai (onL ρ t c i)), (7, ai (ownL ρ t c i)), (0, ar 38), (1, ar 7), (2, ai t), (3, ai (c : Int)), (4, ai i), (5, ai ((c : Int) * 60))] [] σ := by
  have hNk := hN.k
  have hR := hW.R
  have hS := hW.S
  have hTr := hW.T
  have ho := own_rng hW ht0 ht1 (c := c) h0 h1
  have hon := onL_rng hR.1 (t := t) (c := c) (i := i)
  have hw0 := w0_rng hW ht0 ht1 h0 h1
  have hl := lv_s (ρ := ρ) (t := t) (c := c) h1
  refine a_iload dX3_lookFrom_153 rfl ?_
  refine a_istore (ls' := [(9, ai i), (8, ai (onL ρ t c i)), (7, ai (ownL ρ t c i)), (0, ar 38), (1, ar 7), (2, ai t), (3, ai (c : Int)), (4, ai i), (5, ai ((c : Int) * 60))]) dX3_lookFrom_155 (Nat.le_of_ble_eq_true rfl) rfl ?_
  refine a_aload_n dX3_lookFrom_157 rfl rfl ?_
  refine a_getR (d := N) (J := 0) fX3_35 k7 rfl (rT_0 (by decide)) rfl hT7.net dX3_lookFrom_158 ?_
  refine a_iload dX3_lookFrom_161 rfl ?_
  refine a_cI (c := N) (as := [ai i]) (rest := []) (c_goesOn σ ρ N hW hN i (by omega) (by omega)) mvX2_goesOn lX3_72 (kN hNk) (by decide) rfl rfl rfl rfl (Nat.le_of_ble_eq_true rfl) (Nat.le_of_ble_eq_true rfl) (Nat.le_of_ble_eq_true rfl) dX3_lookFrom_163 ?_
  refine a_ifb_eq (tgt := 220) dX3_lookFrom_166 (by decide) (fun c166 => ?_) (fun c166 => ?_)
  · refine a_aload_n dX3_lookFrom_220 rfl rfl ?_
    refine a_getF (d := 39) fX3_11 k38 rfl r38_0 dX3_lookFrom_221 ?_
    refine a_iload_n dX3_lookFrom_224 rfl rfl ?_
    refine a_ald (d := (43 + t.toNat)) k39 n39 (by omega) (by omega) (row39 (by omega) (by omega)) dX3_lookFrom_225 ?_
    refine a_iload dX3_lookFrom_226 rfl ?_
    refine a_iload dX3_lookFrom_228 rfl ?_
    refine a_iadd dX3_lookFrom_230 ?_
    refine a_iload dX3_lookFrom_231 rfl ?_
    refine a_ist (kR43 (by omega) (by omega)) (nR43 (by omega) (by omega)) (by omega) (by omega) dX3_lookFrom_233 ?_
    refine a_aload_n dX3_lookFrom_234 rfl rfl ?_
    refine a_getF (d := 40) fX3_16 k38 rfl r38_1 dX3_lookFrom_235 ?_
    refine a_iload_n dX3_lookFrom_238 rfl rfl ?_
    refine a_ald (d := (53 + t.toNat)) k40 n40 (by omega) (by omega) (row40 (by omega) (by omega)) dX3_lookFrom_239 ?_
    refine a_iload dX3_lookFrom_240 rfl ?_
    refine a_iload dX3_lookFrom_242 rfl ?_
    refine a_iadd dX3_lookFrom_244 ?_
    refine a_iload dX3_lookFrom_245 rfl ?_
    refine a_ist (kR53 (by omega) (by omega)) (nR53 (by omega) (by omega)) (by omega) (by omega) dX3_lookFrom_247 ?_
    refine a_aload_n dX3_lookFrom_248 rfl rfl ?_
    refine a_getF (d := 41) fX3_19 k38 rfl r38_2 dX3_lookFrom_249 ?_
    refine a_iload_n dX3_lookFrom_252 rfl rfl ?_
    refine a_ald (d := (63 + t.toNat)) k41 n41 (by omega) (by omega) (row41 (by omega) (by omega)) dX3_lookFrom_253 ?_
    refine a_iload dX3_lookFrom_254 rfl ?_
    refine a_iload dX3_lookFrom_256 rfl ?_
    refine a_iadd dX3_lookFrom_258 ?_
    refine a_iload dX3_lookFrom_259 rfl ?_
    refine a_ist (kR63 (by omega) (by omega)) (nR63 (by omega) (by omega)) (by omega) (by omega) dX3_lookFrom_261 ?_
    exact a_vret rfl ⟨rfl, LfP.put (by unfold arL; rw [hl, if_neg hcn, if_neg (fun z => c166 z.1.1)]) (by unfold ofL; rw [hl, if_neg hcn, if_neg (fun z => c166 z.1.1)]) (by unfold onS; rw [if_neg hcn]) (inR_of (by omega) (by omega)) (inR_of (by omega) (by omega)) (inR_of (by omega) (by omega))⟩ dX3_lookFrom_262
  · have hn1 := c166.1
    have hnc : cnc ρ (i + 1) → arL ρ t c (i + 1) = 1000000 := fun z => by unfold arL; rw [lv_s hn1, if_pos z]
    refine a_aload_n dX3_lookFrom_169 rfl rfl ?_
    refine a_getF (d := 39) fX3_11 k38 rfl r38_0 dX3_lookFrom_170 ?_
    refine a_iload_n dX3_lookFrom_173 rfl rfl ?_
    refine a_ald (d := (43 + t.toNat)) k39 n39 (by omega) (by omega) (row39 (by omega) (by omega)) dX3_lookFrom_174 ?_
    refine a_iload dX3_lookFrom_175 rfl ?_
    refine a_iload dX3_lookFrom_177 rfl ?_
    refine a_iadd dX3_lookFrom_179 ?_
    refine a_iconst dX3_lookFrom_180 ?_
    refine a_iadd dX3_lookFrom_181 ?_
    refine a_ild (kR43 (by omega) (by omega)) (nR43 (by omega) (by omega)) (by omega) (by omega) dX3_lookFrom_182 ?_
    refine a_topI (y := arL ρ t c (i + 1)) (hA (by omega)).1 ?_
    have hb22 := lv_rng hW ht0 ht1 c (i + 1) (by omega) (by omega)
    refine a_iload dX3_lookFrom_183 rfl ?_
    refine a_icmp_ge (tgt := 220) dX3_lookFrom_185 (by decide) (inR_of (by omega) (by omega)) (inR_of (by omega) (by omega)) (fun c185 => ?_) (fun c185 => ?_)
    · refine a_aload_n dX3_lookFrom_220 rfl rfl ?_
      refine a_getF (d := 39) fX3_11 k38 rfl r38_0 dX3_lookFrom_221 ?_
      refine a_iload_n dX3_lookFrom_224 rfl rfl ?_
      refine a_ald (d := (43 + t.toNat)) k39 n39 (by omega) (by omega) (row39 (by omega) (by omega)) dX3_lookFrom_225 ?_
      refine a_iload dX3_lookFrom_226 rfl ?_
      refine a_iload dX3_lookFrom_228 rfl ?_
      refine a_iadd dX3_lookFrom_230 ?_
      refine a_iload dX3_lookFrom_231 rfl ?_
      refine a_ist (kR43 (by omega) (by omega)) (nR43 (by omega) (by omega)) (by omega) (by omega) dX3_lookFrom_233 ?_
      refine a_aload_n dX3_lookFrom_234 rfl rfl ?_
      refine a_getF (d := 40) fX3_16 k38 rfl r38_1 dX3_lookFrom_235 ?_
      refine a_iload_n dX3_lookFrom_238 rfl rfl ?_
      refine a_ald (d := (53 + t.toNat)) k40 n40 (by omega) (by omega) (row40 (by omega) (by omega)) dX3_lookFrom_239 ?_
      refine a_iload dX3_lookFrom_240 rfl ?_
      refine a_iload dX3_lookFrom_242 rfl ?_
      refine a_iadd dX3_lookFrom_244 ?_
      refine a_iload dX3_lookFrom_245 rfl ?_
      refine a_ist (kR53 (by omega) (by omega)) (nR53 (by omega) (by omega)) (by omega) (by omega) dX3_lookFrom_247 ?_
      refine a_aload_n dX3_lookFrom_248 rfl rfl ?_
      refine a_getF (d := 41) fX3_19 k38 rfl r38_2 dX3_lookFrom_249 ?_
      refine a_iload_n dX3_lookFrom_252 rfl rfl ?_
      refine a_ald (d := (63 + t.toNat)) k41 n41 (by omega) (by omega) (row41 (by omega) (by omega)) dX3_lookFrom_253 ?_
      refine a_iload dX3_lookFrom_254 rfl ?_
      refine a_iload dX3_lookFrom_256 rfl ?_
      refine a_iadd dX3_lookFrom_258 ?_
      refine a_iload dX3_lookFrom_259 rfl ?_
      refine a_ist (kR63 (by omega) (by omega)) (nR63 (by omega) (by omega)) (by omega) (by omega) dX3_lookFrom_261 ?_
      exact a_vret rfl ⟨rfl, LfP.put (by unfold arL; rw [hl, if_neg hcn, if_neg (fun z => absurd z.2 (by omega))]) (by unfold ofL; rw [hl, if_neg hcn, if_neg (fun z => absurd z.2 (by omega))]) (by unfold onS; rw [if_neg hcn]) (inR_of (by omega) (by omega)) (inR_of (by omega) (by omega)) (inR_of (by omega) (by omega))⟩ dX3_lookFrom_262
    · have hso : stO ρ i := ⟨c166, Classical.byContradiction (fun z => by have q := hnc z; omega)⟩
      refine a_aload_n dX3_lookFrom_188 rfl rfl ?_
      refine a_getF (d := 39) fX3_11 k38 rfl r38_0 dX3_lookFrom_189 ?_
      refine a_iload_n dX3_lookFrom_192 rfl rfl ?_
      refine a_ald (d := (43 + t.toNat)) k39 n39 (by omega) (by omega) (row39 (by omega) (by omega)) dX3_lookFrom_193 ?_
      refine a_iload dX3_lookFrom_194 rfl ?_
      refine a_iload dX3_lookFrom_196 rfl ?_
      refine a_iadd dX3_lookFrom_198 ?_
      refine a_iconst dX3_lookFrom_199 ?_
      refine a_iadd dX3_lookFrom_200 ?_
      refine a_ild (kR43 (by omega) (by omega)) (nR43 (by omega) (by omega)) (by omega) (by omega) dX3_lookFrom_201 ?_
      refine a_topI (y := arL ρ t c (i + 1)) (hA (by omega)).1 ?_
      refine a_istore (ls' := [(7, ai (arL ρ t c (i + 1))), (9, ai i), (8, ai (onL ρ t c i)), (0, ar 38), (1, ar 7), (2, ai t), (3, ai (c : Int)), (4, ai i), (5, ai ((c : Int) * 60))]) dX3_lookFrom_202 (Nat.le_of_ble_eq_true rfl) rfl ?_
      refine a_aload_n dX3_lookFrom_204 rfl rfl ?_
      refine a_getF (d := 40) fX3_16 k38 rfl r38_1 dX3_lookFrom_205 ?_
      refine a_iload_n dX3_lookFrom_208 rfl rfl ?_
      refine a_ald (d := (53 + t.toNat)) k40 n40 (by omega) (by omega) (row40 (by omega) (by omega)) dX3_lookFrom_209 ?_
      refine a_iload dX3_lookFrom_210 rfl ?_
      refine a_iload dX3_lookFrom_212 rfl ?_
      refine a_iadd dX3_lookFrom_214 ?_
      refine a_iconst dX3_lookFrom_215 ?_
      refine a_iadd dX3_lookFrom_216 ?_
      refine a_ild (kR53 (by omega) (by omega)) (nR53 (by omega) (by omega)) (by omega) (by omega) dX3_lookFrom_217 ?_
      refine a_topI (y := ofL ρ t c (i + 1)) (hA (by omega)).2 ?_
      refine a_istore (ls' := [(9, ai (ofL ρ t c (i + 1))), (7, ai (arL ρ t c (i + 1))), (8, ai (onL ρ t c i)), (0, ar 38), (1, ar 7), (2, ai t), (3, ai (c : Int)), (4, ai i), (5, ai ((c : Int) * 60))]) dX3_lookFrom_218 (Nat.le_of_ble_eq_true rfl) rfl ?_
      refine a_aload_n dX3_lookFrom_220 rfl rfl ?_
      refine a_getF (d := 39) fX3_11 k38 rfl r38_0 dX3_lookFrom_221 ?_
      refine a_iload_n dX3_lookFrom_224 rfl rfl ?_
      refine a_ald (d := (43 + t.toNat)) k39 n39 (by omega) (by omega) (row39 (by omega) (by omega)) dX3_lookFrom_225 ?_
      refine a_iload dX3_lookFrom_226 rfl ?_
      refine a_iload dX3_lookFrom_228 rfl ?_
      refine a_iadd dX3_lookFrom_230 ?_
      refine a_iload dX3_lookFrom_231 rfl ?_
      refine a_ist (kR43 (by omega) (by omega)) (nR43 (by omega) (by omega)) (by omega) (by omega) dX3_lookFrom_233 ?_
      refine a_aload_n dX3_lookFrom_234 rfl rfl ?_
      refine a_getF (d := 40) fX3_16 k38 rfl r38_1 dX3_lookFrom_235 ?_
      refine a_iload_n dX3_lookFrom_238 rfl rfl ?_
      refine a_ald (d := (53 + t.toNat)) k40 n40 (by omega) (by omega) (row40 (by omega) (by omega)) dX3_lookFrom_239 ?_
      refine a_iload dX3_lookFrom_240 rfl ?_
      refine a_iload dX3_lookFrom_242 rfl ?_
      refine a_iadd dX3_lookFrom_244 ?_
      refine a_iload dX3_lookFrom_245 rfl ?_
      refine a_ist (kR53 (by omega) (by omega)) (nR53 (by omega) (by omega)) (by omega) (by omega) dX3_lookFrom_247 ?_
      refine a_aload_n dX3_lookFrom_248 rfl rfl ?_
      refine a_getF (d := 41) fX3_19 k38 rfl r38_2 dX3_lookFrom_249 ?_
      refine a_iload_n dX3_lookFrom_252 rfl rfl ?_
      refine a_ald (d := (63 + t.toNat)) k41 n41 (by omega) (by omega) (row41 (by omega) (by omega)) dX3_lookFrom_253 ?_
      refine a_iload dX3_lookFrom_254 rfl ?_
      refine a_iload dX3_lookFrom_256 rfl ?_
      refine a_iadd dX3_lookFrom_258 ?_
      refine a_iload dX3_lookFrom_259 rfl ?_
      refine a_ist (kR63 (by omega) (by omega)) (nR63 (by omega) (by omega)) (by omega) (by omega) dX3_lookFrom_261 ?_
      exact a_vret rfl ⟨rfl, LfP.put (by unfold arL; rw [hl, if_neg hcn, if_pos ⟨hso, by omega⟩]) (by unfold ofL; rw [hl, if_neg hcn, if_pos ⟨hso, by omega⟩]) (by unfold onS; rw [if_neg hcn]) (inR_of (by omega) (by omega)) (inR_of (by omega) (by omega)) (inR_of (by omega) (by omega))⟩ dX3_lookFrom_262

set_option maxRecDepth 20000 in
theorem c_lf2 (σ ρ : Sto) (N : Nat) (hW : WV ρ) (hN : NetR σ N ρ) (hT7 : TmR σ N 7 ρ) (hL7 : LkR σ 7 ρ) (t i : Int) (c : Nat) (ht0 : 0 ≤ t) (ht1 : t < gN ρ 155 0) (h0 : 0 ≤ i) (h1 : i < gN ρ 155 3) (hc : c ≤ 4) (hP : ∀ k : Int, 0 ≤ k → k < gN ρ 155 3 → 0 < (c : Int) → gN σ (43 + t.toNat) ((c : Int) * 60 - 60 + k) = prvL ρ t c k) (hA : i + 1 < gN ρ 155 3 → gN σ (43 + t.toNat) ((c : Int) * 60 + i + 1) = arL ρ t c (i + 1) ∧ gN σ (53 + t.toNat) ((c : Int) * 60 + i + 1) = ofL ρ t c (i + 1)) (hcn : ¬ cnc ρ i) (x6 : Int) : RunA mX3_lookFrom (fun r u => r = none ∧ LfP σ u ρ t c i) 101 [(0, ar 38), (1, ar 7), (2, ai t), (3, ai (c : Int)), (4, ai i), (5, ai ((c : Int) * 60)), (6, ai x6)] [ai (w0F ρ t i)] σ := by
  have hNk := hN.k
  have hR := hW.R
  have hS := hW.S
  have hTr := hW.T
  have ho := own_rng hW ht0 ht1 (c := c) h0 h1
  have hon := onL_rng hR.1 (t := t) (c := c) (i := i)
  have hw0 := w0_rng hW ht0 ht1 h0 h1
  have hl := lv_s (ρ := ρ) (t := t) (c := c) h1
  refine a_istore (ls' := [(7, ai (w0F ρ t i)), (0, ar 38), (1, ar 7), (2, ai t), (3, ai (c : Int)), (4, ai i), (5, ai ((c : Int) * 60)), (6, ai x6)]) dX3_lookFrom_101 (Nat.le_of_ble_eq_true rfl) rfl ?_
  refine a_iconst dX3_lookFrom_103 ?_
  refine a_istore (ls' := [(8, ai (-1)), (7, ai (w0F ρ t i)), (0, ar 38), (1, ar 7), (2, ai t), (3, ai (c : Int)), (4, ai i), (5, ai ((c : Int) * 60)), (6, ai x6)]) dX3_lookFrom_104 (Nat.le_of_ble_eq_true rfl) rfl ?_
  refine a_iload_n dX3_lookFrom_106 rfl rfl ?_
  refine a_if_le (tgt := 153) dX3_lookFrom_107 (by decide) (inR_of (by omega) (by omega)) (fun c107 => ?_) (fun c107 => ?_)
  · have e7 : w0F ρ t i = ownL ρ t c i := by unfold ownL ovB; rw [onL_zero (by omega), if_neg (by omega)]
    have e8 : (-1) = onL ρ t c i := (onL_zero (by omega)).symm
    rw [e7, e8]
    exact a_keep (by simp) (c_lf3 σ ρ N hW hN hT7 hL7 t i c ht0 ht1 h0 h1 hc hP hA hcn)
  · refine a_aload_n dX3_lookFrom_110 rfl rfl ?_
    refine a_iload dX3_lookFrom_111 rfl ?_
    refine a_aload_n dX3_lookFrom_113 rfl rfl ?_
    refine a_getF (d := 39) fX3_11 k38 rfl r38_0 dX3_lookFrom_114 ?_
    refine a_iload_n dX3_lookFrom_117 rfl rfl ?_
    refine a_ald (d := (43 + t.toNat)) k39 n39 (by omega) (by omega) (row39 (by omega) (by omega)) dX3_lookFrom_118 ?_
    refine a_iload dX3_lookFrom_119 rfl ?_
    refine a_bipush (x := 60) dX3_lookFrom_121 (by decide) ?_
    refine a_isub dX3_lookFrom_123 ?_
    refine a_iload dX3_lookFrom_124 rfl ?_
    refine a_sI (as := [ar 7, ai i, ar (43 + t.toNat), ai ((c : Int) * 60 - 60), ai (w0F ρ t i)]) (rest := []) (c_bestOnward σ ρ N hW hN hT7 hL7 t i ((c : Int) * 60 - 60) (w0F ρ t i) (prvL ρ t c) ht0 (by omega) h0 h1 (by omega) (by omega) (inR_of (by omega) (by omega)) (fun k a b => hP k a b (by omega))) mvX3_bestOnward lX3_68 rfl rfl rfl (Nat.le_of_ble_eq_true rfl) (Nat.le_of_ble_eq_true rfl) (Nat.le_of_ble_eq_true rfl) dX3_lookFrom_126 ?_
    refine a_topI (y := onL ρ t c i) (onL_pos (by omega)).symm ?_
    refine a_istore (ls' := [(8, ai (onL ρ t c i)), (7, ai (w0F ρ t i)), (0, ar 38), (1, ar 7), (2, ai t), (3, ai (c : Int)), (4, ai i), (5, ai ((c : Int) * 60)), (6, ai x6)]) dX3_lookFrom_129 (Nat.le_of_ble_eq_true rfl) rfl ?_
    refine a_iload dX3_lookFrom_131 rfl ?_
    refine a_if_lt (tgt := 153) dX3_lookFrom_133 (by decide) (inR_of (by omega) (by omega)) (fun c133 => ?_) (fun c133 => ?_)
    · have e7 : w0F ρ t i = ownL ρ t c i := by unfold ownL ovB; rw [if_neg (by omega)]
      have e8 : onL ρ t c i = onL ρ t c i := rfl
      rw [e7]
      exact a_keep (by simp) (c_lf3 σ ρ N hW hN hT7 hL7 t i c ht0 ht1 h0 h1 hc hP hA hcn)
    · have hon2 := hon.2 (by omega)
      refine a_aload_n dX3_lookFrom_136 rfl rfl ?_
      refine a_getF (d := 39) fX3_11 k38 rfl r38_0 dX3_lookFrom_137 ?_
      refine a_iload_n dX3_lookFrom_140 rfl rfl ?_
      refine a_ald (d := (43 + t.toNat)) k39 n39 (by omega) (by omega) (row39 (by omega) (by omega)) dX3_lookFrom_141 ?_
      refine a_iload dX3_lookFrom_142 rfl ?_
      refine a_bipush (x := 60) dX3_lookFrom_144 (by decide) ?_
      refine a_isub dX3_lookFrom_146 ?_
      refine a_iload dX3_lookFrom_147 rfl ?_
      refine a_iadd dX3_lookFrom_149 ?_
      refine a_ild (kR43 (by omega) (by omega)) (nR43 (by omega) (by omega)) (by omega) (by omega) dX3_lookFrom_150 ?_
      refine a_topI (y := prvL ρ t c (onL ρ t c i)) (hP (onL ρ t c i) (by omega) (by omega) (by omega)) ?_
      have hb23 := prv_rng hW ht0 ht1 (c := c) (i := (onL ρ t c i)) (by omega) (by omega)
      refine a_istore (ls' := [(7, ai (prvL ρ t c (onL ρ t c i))), (8, ai (onL ρ t c i)), (0, ar 38), (1, ar 7), (2, ai t), (3, ai (c : Int)), (4, ai i), (5, ai ((c : Int) * 60)), (6, ai x6)]) dX3_lookFrom_151 (Nat.le_of_ble_eq_true rfl) rfl ?_
      have e7 : prvL ρ t c (onL ρ t c i) = ownL ρ t c i := by unfold ownL ovB; rw [if_pos (by omega)]
      have e8 : onL ρ t c i = onL ρ t c i := rfl
      rw [e7]
      exact a_keep (by simp) (c_lf3 σ ρ N hW hN hT7 hL7 t i c ht0 ht1 h0 h1 hc hP hA hcn)

set_option maxRecDepth 20000 in
theorem c_lookFrom (σ ρ : Sto) (N : Nat) (hW : WV ρ) (hN : NetR σ N ρ) (hT7 : TmR σ N 7 ρ) (hL7 : LkR σ 7 ρ) (t i : Int) (c : Nat) (ht0 : 0 ≤ t) (ht1 : t < gN ρ 155 0) (h0 : 0 ≤ i) (h1 : i < gN ρ 155 3) (hc : c ≤ 4) (hP : ∀ k : Int, 0 ≤ k → k < gN ρ 155 3 → 0 < (c : Int) → gN σ (43 + t.toNat) ((c : Int) * 60 - 60 + k) = prvL ρ t c k) (hA : i + 1 < gN ρ 155 3 → gN σ (43 + t.toNat) ((c : Int) * 60 + i + 1) = arL ρ t c (i + 1) ∧ gN σ (53 + t.toNat) ((c : Int) * 60 + i + 1) = ofL ρ t c (i + 1)) : MetA mX3_lookFrom [ar 38, ar 7, ai t, ai (c : Int), ai i] σ (fun r u => r = none ∧ LfP σ u ρ t c i) := by
  have hNk := hN.k
  have hR := hW.R
  have hS := hW.S
  have hTr := hW.T
  have ho := own_rng hW ht0 ht1 (c := c) h0 h1
  have hon := onL_rng hR.1 (t := t) (c := c) (i := i)
  have hw0 := w0_rng hW ht0 ht1 h0 h1
  have hl := lv_s (ρ := ρ) (t := t) (c := c) h1
  refine a_entry (by decide) (Nat.le_of_ble_eq_true rfl) ?_
  refine a_ls (ls' := [(0, ar 38), (1, ar 7), (2, ai t), (3, ai (c : Int)), (4, ai i)]) rfl ?_
  refine a_iload_n dX3_lookFrom_0 rfl rfl ?_
  refine a_bipush (x := 60) dX3_lookFrom_1 (by decide) ?_
  refine a_imul dX3_lookFrom_3 ?_
  refine a_istore (ls' := [(5, ai ((c : Int) * 60)), (0, ar 38), (1, ar 7), (2, ai t), (3, ai (c : Int)), (4, ai i)]) dX3_lookFrom_4 (Nat.le_of_ble_eq_true rfl) rfl ?_
  refine a_aload_n dX3_lookFrom_6 rfl rfl ?_
  refine a_iload dX3_lookFrom_7 rfl ?_
  refine a_cI (c := 7) (as := [ai i]) (rest := []) (c_isCancelled σ ρ N 7 hW hN hT7 i (by omega) (by omega)) mvX6_isCancelled lX3_53 k7 (by decide) rfl rfl rfl rfl (Nat.le_of_ble_eq_true rfl) (Nat.le_of_ble_eq_true rfl) (Nat.le_of_ble_eq_true rfl) dX3_lookFrom_9 ?_
  refine a_ifb_eq (tgt := 57) dX3_lookFrom_12 (by decide) (fun c12 => ?_) (fun c12 => ?_)
  · refine a_aload_n dX3_lookFrom_57 rfl rfl ?_
    refine a_getR (d := N) (J := 0) fX3_35 k7 rfl (rT_0 (by decide)) rfl hT7.net dX3_lookFrom_58 ?_
    refine a_getF (d := (N + 3)) fX3_58 (kN hNk) rfl (rN_6 hNk) dX3_lookFrom_61 ?_
    refine a_aload_n dX3_lookFrom_64 rfl rfl ?_
    refine a_getR (d := N) (J := 0) fX3_35 k7 rfl (rT_0 (by decide)) rfl hT7.net dX3_lookFrom_65 ?_
    refine a_getF (d := (N + 8)) fX3_61 (kN hNk) rfl (rN_11 hNk) dX3_lookFrom_68 ?_
    refine a_iload dX3_lookFrom_71 rfl ?_
    refine a_ild (kN_8 hNk) (nN_8 hNk) (by omega) (by omega) dX3_lookFrom_73 ?_
    refine a_topI (y := gN ρ 155 (115 + 5 * i + 2)) (hN.r2 (by omega) (by omega)) ?_
    have hb24 := hW.ride i (by omega) (by omega)
    refine a_ald (d := (N + 11 + (gN ρ 155 (115 + 5 * i + 2)).toNat)) (kN_3 hNk) (nN_3 hNk) (by omega) (by omega) (rowN_w hNk (by omega) (by omega)) dX3_lookFrom_74 ?_
    refine a_iload_n dX3_lookFrom_75 rfl rfl ?_
    refine a_ild (kNw hNk (by omega) (by omega)) (nNw hNk (by omega) (by omega)) (by omega) (by omega) dX3_lookFrom_76 ?_
    refine a_topI (y := gN ρ 155 (15 + 10 * (gN ρ 155 (115 + 5 * i + 2)) + t)) (hN.wk (by omega) (by omega) (by omega) (by omega)) ?_
    have hb25 := hW.walk (gN ρ 155 (115 + 5 * i + 2)) t (by omega) (by omega) (by omega) (by omega)
    refine a_istore (ls' := [(6, ai (gN ρ 155 (15 + 10 * (gN ρ 155 (115 + 5 * i + 2)) + t))), (5, ai ((c : Int) * 60)), (0, ar 38), (1, ar 7), (2, ai t), (3, ai (c : Int)), (4, ai i)]) dX3_lookFrom_77 (Nat.le_of_ble_eq_true rfl) rfl ?_
    refine a_iload dX3_lookFrom_79 rfl ?_
    refine a_ldc (x := 1000000) cX3_57 (by decide) dX3_lookFrom_81 ?_
    refine a_icmp_lt (tgt := 91) dX3_lookFrom_83 (by decide) (inR_gN _ _ _) (inR_of (by omega) (by omega)) (fun c83 => ?_) (fun c83 => ?_)
    · refine a_aload_n dX3_lookFrom_91 rfl rfl ?_
      refine a_getF (d := 9) fX3_65 k7 rfl r7_4 dX3_lookFrom_92 ?_
      refine a_iload dX3_lookFrom_95 rfl ?_
      refine a_ild k9 n9 (by omega) (by omega) dX3_lookFrom_97 ?_
      refine a_topI (y := gN ρ 162 i) (hT7.cm (by omega) (by omega)) ?_
      have hb26 := hW.tm i (by omega) (by omega)
      refine a_iload dX3_lookFrom_98 rfl ?_
      refine a_iadd dX3_lookFrom_100 ?_
      rw [show gN ρ 162 i + (gN ρ 155 (15 + 10 * (gN ρ 155 (115 + 5 * i + 2)) + t)) = w0F ρ t i from by unfold w0F; rw [if_neg (by omega)]]
      exact a_keep (by simp) (c_lf2 σ ρ N hW hN hT7 hL7 t i c ht0 ht1 h0 h1 hc hP hA c12 (gN ρ 155 (15 + 10 * (gN ρ 155 (115 + 5 * i + 2)) + t)))
    · refine a_ldc (x := 1000000) cX3_57 (by decide) dX3_lookFrom_86 ?_
      refine a_goto (tgt := 101) dX3_lookFrom_88 (by decide) ?_
      rw [show 1000000 = w0F ρ t i from by unfold w0F; rw [if_pos (by omega)]]
      exact a_keep (by simp) (c_lf2 σ ρ N hW hN hT7 hL7 t i c ht0 ht1 h0 h1 hc hP hA c12 (gN ρ 155 (15 + 10 * (gN ρ 155 (115 + 5 * i + 2)) + t)))
  · refine a_aload_n dX3_lookFrom_15 rfl rfl ?_
    refine a_getF (d := 39) fX3_11 k38 rfl r38_0 dX3_lookFrom_16 ?_
    refine a_iload_n dX3_lookFrom_19 rfl rfl ?_
    refine a_ald (d := (43 + t.toNat)) k39 n39 (by omega) (by omega) (row39 (by omega) (by omega)) dX3_lookFrom_20 ?_
    refine a_iload dX3_lookFrom_21 rfl ?_
    refine a_iload dX3_lookFrom_23 rfl ?_
    refine a_iadd dX3_lookFrom_25 ?_
    refine a_ldc (x := 1000000) cX3_57 (by decide) dX3_lookFrom_26 ?_
    refine a_ist (kR43 (by omega) (by omega)) (nR43 (by omega) (by omega)) (by omega) (by omega) dX3_lookFrom_28 ?_
    refine a_aload_n dX3_lookFrom_29 rfl rfl ?_
    refine a_getF (d := 40) fX3_16 k38 rfl r38_1 dX3_lookFrom_30 ?_
    refine a_iload_n dX3_lookFrom_33 rfl rfl ?_
    refine a_ald (d := (53 + t.toNat)) k40 n40 (by omega) (by omega) (row40 (by omega) (by omega)) dX3_lookFrom_34 ?_
    refine a_iload dX3_lookFrom_35 rfl ?_
    refine a_iload dX3_lookFrom_37 rfl ?_
    refine a_iadd dX3_lookFrom_39 ?_
    refine a_iload dX3_lookFrom_40 rfl ?_
    refine a_ist (kR53 (by omega) (by omega)) (nR53 (by omega) (by omega)) (by omega) (by omega) dX3_lookFrom_42 ?_
    refine a_aload_n dX3_lookFrom_43 rfl rfl ?_
    refine a_getF (d := 41) fX3_19 k38 rfl r38_2 dX3_lookFrom_44 ?_
    refine a_iload_n dX3_lookFrom_47 rfl rfl ?_
    refine a_ald (d := (63 + t.toNat)) k41 n41 (by omega) (by omega) (row41 (by omega) (by omega)) dX3_lookFrom_48 ?_
    refine a_iload dX3_lookFrom_49 rfl ?_
    refine a_iload dX3_lookFrom_51 rfl ?_
    refine a_iadd dX3_lookFrom_53 ?_
    refine a_iconst dX3_lookFrom_54 ?_
    refine a_ist (kR63 (by omega) (by omega)) (nR63 (by omega) (by omega)) (by omega) (by omega) dX3_lookFrom_55 ?_
    exact a_vret rfl ⟨rfl, LfP.put (by unfold arL; rw [hl, if_pos c12]) (by unfold ofL; rw [hl, if_pos c12]) (by unfold onS; rw [if_pos c12]) (inR_of (by omega) (by omega)) (inR_of (by omega) (by omega)) (inR_of (by omega) (by omega))⟩ dX3_lookFrom_56

abbrev pLv (t : Int) (c : Nat) (d : Nat) (j : Int) : Prop := (d = 43 + t.toNat ∨ d = 53 + t.toNat ∨ d = 63 + t.toNat) ∧ (c : Int) * 60 ≤ j ∧ j < (c : Int) * 60 + 60
def LvR (σ ρ : Sto) (t : Int) (c : Nat) (lo : Int) : Prop := ∀ i : Int, lo ≤ i → i < gN ρ 155 3 → gN σ (43 + t.toNat) ((c : Int) * 60 + i) = arL ρ t c i ∧ gN σ (53 + t.toNat) ((c : Int) * 60 + i) = ofL ρ t c i ∧ gN σ (63 + t.toNat) ((c : Int) * 60 + i) = onS ρ t c i
def btZ (ρ : Sto) (t : Int) (c : Nat) (n : Nat) (k : Int) : Bool := anyZ (fun r => decide (arL ρ t c r < prvL ρ t c r)) n k
theorem btZ_s {ρ : Sto} {t : Int} {c : Nat} {k : Int} (h : k < gN ρ 155 3) : btZ ρ t c (gN ρ 155 3 - k).toNat k = true ↔ arL ρ t c k < prvL ρ t c k ∨ btZ ρ t c (gN ρ 155 3 - (k + 1)).toNat (k + 1) = true := by
  rw [show (gN ρ 155 3 - k).toNat = (gN ρ 155 3 - (k + 1)).toNat + 1 by omega]
  unfold btZ
  show (decide (arL ρ t c k < prvL ρ t c k) || anyZ _ _ _) = true ↔ _
  rw [Bool.or_eq_true_iff, decide_eq_true_eq]

set_option maxRecDepth 20000 in
theorem c_lb_l (σ ρ : Sto) (N : Nat) (hW : WV ρ) (hN : NetR σ N ρ) (hT7 : TmR σ N 7 ρ) (hL7 : LkR σ 7 ρ) (t : Int) (c : Nat) (ht0 : 0 ≤ t) (ht1 : t < gN ρ 155 0) (hc : c ≤ 4) (hP : ∀ k : Int, 0 ≤ k → k < gN ρ 155 3 → 0 < (c : Int) → gN σ (43 + t.toNat) ((c : Int) * 60 - 60 + k) = prvL ρ t c k) : ∀ (n : Nat) (r : Int) (b : Int) (τ : Sto), -1 ≤ r → r < gN ρ 155 3 → n = (r + 1).toNat → Fg (pLv t c) σ τ → LvR τ ρ t c (r + 1) → (b = if c = 0 ∨ btZ ρ t c (gN ρ 155 3 - (r + 1)).toNat (r + 1) = true then 1 else 0) → RunA mX3_lookBy (fun r u => r = some (ai (if betF ρ t c then 1 else 0)) ∧ Fg (pLv t c) σ u ∧ LvR u ρ t c 0) 28 [(6, ai r), (5, ai b), (0, ar 38), (1, ar 7), (2, ai t), (3, ai (c : Int)), (4, ai ((c : Int) * 60))] [] τ := by
  have hNk := hN.k
  have hR := hW.R
  have hS := hW.S
  have hTr := hW.T
  intro n
  induction n with
  | zero =>
    intro r b τ h0 h5 hn hF hZ hb
    have hNτ : NetR τ N ρ := hN.of hS.2 (fun d j q0 q1 => hF.n (by unfold pLv; omega))
    have hT7τ : TmR τ N 7 ρ := hT7.of (hF.r (by unfold pLv; omega)) (hF.l (by unfold pLv; omega)) (fun j => hF.n (by unfold pLv; omega)) (fun j => hF.n (by unfold pLv; omega)) (Or.inl (hF.n (by unfold pLv; omega)))
    have hL7τ : LkR τ 7 ρ := fun j j0 j1 => by rw [hF.l (by unfold pLv; omega)]; exact hL7 j j0 j1
    refine a_iload dX3_lookBy_28 rfl ?_
    refine a_if_lt (tgt := 85) dX3_lookBy_30 (by decide) (inR_of (by omega) (by omega)) (fun c30 => ?_) (fun c30 => ?_)
    · refine a_iload dX3_lookBy_85 rfl ?_
      exact a_zret rfl (by rw [hb]; split <;> omega) ⟨by rw [hb]; unfold betF btZ; rw [show r + 1 = 0 by omega, show (gN ρ 155 3 - 0).toNat = (gN ρ 155 3).toNat by omega], hF, by rw [show (0 : Int) = r + 1 by omega]; exact hZ⟩ dX3_lookBy_87
    · exfalso; omega
  | succ n ih =>
    intro r b τ h0 h5 hn hF hZ hb
    have hNτ : NetR τ N ρ := hN.of hS.2 (fun d j q0 q1 => hF.n (by unfold pLv; omega))
    have hT7τ : TmR τ N 7 ρ := hT7.of (hF.r (by unfold pLv; omega)) (hF.l (by unfold pLv; omega)) (fun j => hF.n (by unfold pLv; omega)) (fun j => hF.n (by unfold pLv; omega)) (Or.inl (hF.n (by unfold pLv; omega)))
    have hL7τ : LkR τ 7 ρ := fun j j0 j1 => by rw [hF.l (by unfold pLv; omega)]; exact hL7 j j0 j1
    refine a_iload dX3_lookBy_28 rfl ?_
    refine a_if_lt (tgt := 85) dX3_lookBy_30 (by decide) (inR_of (by omega) (by omega)) (fun c30 => ?_) (fun c30 => ?_)
    · exfalso; omega
    · refine a_aload_n dX3_lookBy_33 rfl rfl ?_
      refine a_aload_n dX3_lookBy_34 rfl rfl ?_
      refine a_iload_n dX3_lookBy_35 rfl rfl ?_
      refine a_iload_n dX3_lookBy_36 rfl rfl ?_
      refine a_iload dX3_lookBy_37 rfl ?_
      refine a_callV (c := 38) (as := [ar 7, ai t, ai (c : Int), ai r]) (rest := []) (c_lookFrom τ ρ N hW hNτ hT7τ hL7τ t r c ht0 ht1 (by omega) (by omega) hc (fun k a b z => by rw [hF.n (by unfold pLv; omega)]; exact hP k a b z) (fun z => by have q := hZ (r + 1) (by omega) z; rw [show (c : Int) * 60 + r + 1 = (c : Int) * 60 + (r + 1) by omega]; exact ⟨q.1, q.2.1⟩)) mvX3_lookFrom lX3_49 k38 (by decide) rfl rfl rfl rfl (Nat.le_of_ble_eq_true rfl) (Nat.le_of_ble_eq_true rfl) (Nat.le_of_ble_eq_true rfl) dX3_lookBy_39 (fun υ hu => ?_)
      obtain ⟨-, hP1, hP2, hP3, hP4⟩ := hu
      have hFυ : Fg (pLv t c) σ υ := hF.trans (hP1.mono (fun d j q => by unfold pLv; omega))
      have hZυ : LvR υ ρ t c r := fun j j0 j1 => by
        by_cases e : j = r
        · rw [e]; exact ⟨hP2, hP3, hP4⟩
        · rw [hP1.n (by omega), hP1.n (by omega), hP1.n (by omega)]; exact hZ j (by omega) j1
      have har := lv_rng hW ht0 ht1 c r (by omega) (by omega)
      have hpr := prv_rng hW ht0 ht1 (c := c) (i := r) (by omega) (by omega)
      refine a_iload_n dX3_lookBy_42 rfl rfl ?_
      refine a_if_le (tgt := 79) dX3_lookBy_43 (by decide) (inR_of (by omega) (by omega)) (fun c43 => ?_) (fun c43 => ?_)
      · refine a_iinc (y := r + (-1)) (ls' := [(6, ai (r + (-1))), (5, ai b), (0, ar 38), (1, ar 7), (2, ai t), (3, ai (c : Int)), (4, ai ((c : Int) * 60))]) dX3_lookBy_79 rfl rfl (Nat.le_of_ble_eq_true rfl) rfl ?_
        refine a_goto (tgt := 28) dX3_lookBy_82 (by decide) ?_
        have bs := btZ_s (ρ := ρ) (t := t) (c := c) (k := r) (by omega)
        have e : (b : Int) = if c = 0 ∨ btZ ρ t c (gN ρ 155 3 - r).toNat r = true then 1 else 0 := by grind
        exact a_keep (by simp; omega) (ih (r - 1) (b) υ (by omega) (by omega) (by omega) hFυ (by rw [show r - 1 + 1 = r by omega]; exact hZυ) (by rw [show r - 1 + 1 = r by omega]; exact e))
      · refine a_aload_n dX3_lookBy_46 rfl rfl ?_
        refine a_getF (d := 39) fX3_11 k38 rfl r38_0 dX3_lookBy_47 ?_
        refine a_iload_n dX3_lookBy_50 rfl rfl ?_
        refine a_ald (d := (43 + t.toNat)) k39 n39 (by omega) (by omega) (row39 (by omega) (by omega)) dX3_lookBy_51 ?_
        refine a_iload dX3_lookBy_52 rfl ?_
        refine a_iload dX3_lookBy_54 rfl ?_
        refine a_iadd dX3_lookBy_56 ?_
        refine a_ild (kR43 (by omega) (by omega)) (nR43 (by omega) (by omega)) (by omega) (by omega) dX3_lookBy_57 ?_
        refine a_topI (y := arL ρ t c r) hP2 ?_
        refine a_aload_n dX3_lookBy_58 rfl rfl ?_
        refine a_getF (d := 39) fX3_11 k38 rfl r38_0 dX3_lookBy_59 ?_
        refine a_iload_n dX3_lookBy_62 rfl rfl ?_
        refine a_ald (d := (43 + t.toNat)) k39 n39 (by omega) (by omega) (row39 (by omega) (by omega)) dX3_lookBy_63 ?_
        refine a_iload dX3_lookBy_64 rfl ?_
        refine a_bipush (x := 60) dX3_lookBy_66 (by decide) ?_
        refine a_isub dX3_lookBy_68 ?_
        refine a_iload dX3_lookBy_69 rfl ?_
        refine a_iadd dX3_lookBy_71 ?_
        refine a_ild (kR43 (by omega) (by omega)) (nR43 (by omega) (by omega)) (by omega) (by omega) dX3_lookBy_72 ?_
        refine a_topI (y := prvL ρ t c r) (by rw [hFυ.n (by unfold pLv; omega)]; exact hP r (by omega) (by omega) (by omega)) ?_
        refine a_icmp_ge (tgt := 79) dX3_lookBy_73 (by decide) (inR_of (by omega) (by omega)) (inR_of (by omega) (by omega)) (fun c73 => ?_) (fun c73 => ?_)
        · refine a_iinc (y := r + (-1)) (ls' := [(6, ai (r + (-1))), (5, ai b), (0, ar 38), (1, ar 7), (2, ai t), (3, ai (c : Int)), (4, ai ((c : Int) * 60))]) dX3_lookBy_79 rfl rfl (Nat.le_of_ble_eq_true rfl) rfl ?_
          refine a_goto (tgt := 28) dX3_lookBy_82 (by decide) ?_
          have bs := btZ_s (ρ := ρ) (t := t) (c := c) (k := r) (by omega)
          have e : (b : Int) = if c = 0 ∨ btZ ρ t c (gN ρ 155 3 - r).toNat r = true then 1 else 0 := by grind
          exact a_keep (by simp; omega) (ih (r - 1) (b) υ (by omega) (by omega) (by omega) hFυ (by rw [show r - 1 + 1 = r by omega]; exact hZυ) (by rw [show r - 1 + 1 = r by omega]; exact e))
        · refine a_iconst dX3_lookBy_76 ?_
          refine a_istore (ls' := [(5, ai 1), (6, ai r), (0, ar 38), (1, ar 7), (2, ai t), (3, ai (c : Int)), (4, ai ((c : Int) * 60))]) dX3_lookBy_77 (Nat.le_of_ble_eq_true rfl) rfl ?_
          refine a_iinc (y := r + (-1)) (ls' := [(6, ai (r + (-1))), (5, ai 1), (0, ar 38), (1, ar 7), (2, ai t), (3, ai (c : Int)), (4, ai ((c : Int) * 60))]) dX3_lookBy_79 rfl rfl (Nat.le_of_ble_eq_true rfl) rfl ?_
          refine a_goto (tgt := 28) dX3_lookBy_82 (by decide) ?_
          have bs := btZ_s (ρ := ρ) (t := t) (c := c) (k := r) (by omega)
          have e : (1 : Int) = if c = 0 ∨ btZ ρ t c (gN ρ 155 3 - r).toNat r = true then 1 else 0 := by grind
          exact a_keep (by simp; omega) (ih (r - 1) (1) υ (by omega) (by omega) (by omega) hFυ (by rw [show r - 1 + 1 = r by omega]; exact hZυ) (by rw [show r - 1 + 1 = r by omega]; exact e))

set_option maxRecDepth 20000 in
theorem c_lookBy (σ ρ : Sto) (N : Nat) (hW : WV ρ) (hN : NetR σ N ρ) (hT7 : TmR σ N 7 ρ) (hL7 : LkR σ 7 ρ) (t : Int) (c : Nat) (ht0 : 0 ≤ t) (ht1 : t < gN ρ 155 0) (hc : c ≤ 4) (hP : ∀ k : Int, 0 ≤ k → k < gN ρ 155 3 → 0 < (c : Int) → gN σ (43 + t.toNat) ((c : Int) * 60 - 60 + k) = prvL ρ t c k) : MetA mX3_lookBy [ar 38, ar 7, ai t, ai (c : Int)] σ (fun r u => r = some (ai (if betF ρ t c then 1 else 0)) ∧ Fg (pLv t c) σ u ∧ LvR u ρ t c 0) := by
  have hNk := hN.k
  have hR := hW.R
  have hS := hW.S
  have hTr := hW.T
  refine a_entry (by decide) (Nat.le_of_ble_eq_true rfl) ?_
  refine a_ls (ls' := [(0, ar 38), (1, ar 7), (2, ai t), (3, ai (c : Int))]) rfl ?_
  refine a_iload_n dX3_lookBy_0 rfl rfl ?_
  refine a_bipush (x := 60) dX3_lookBy_1 (by decide) ?_
  refine a_imul dX3_lookBy_3 ?_
  refine a_istore (ls' := [(4, ai ((c : Int) * 60)), (0, ar 38), (1, ar 7), (2, ai t), (3, ai (c : Int))]) dX3_lookBy_4 (Nat.le_of_ble_eq_true rfl) rfl ?_
  refine a_iload_n dX3_lookBy_6 rfl rfl ?_
  refine a_if_ne (tgt := 14) dX3_lookBy_7 (by decide) (inR_of (by omega) (by omega)) (fun c7 => ?_) (fun c7 => ?_)
  · refine a_iconst dX3_lookBy_14 ?_
    refine a_istore (ls' := [(5, ai 0), (4, ai ((c : Int) * 60)), (0, ar 38), (1, ar 7), (2, ai t), (3, ai (c : Int))]) dX3_lookBy_15 (Nat.le_of_ble_eq_true rfl) rfl ?_
    refine a_aload_n dX3_lookBy_17 rfl rfl ?_
    refine a_getR (d := N) (J := 0) fX3_35 k7 rfl (rT_0 (by decide)) rfl hT7.net dX3_lookBy_18 ?_
    refine a_getI (J := 3) fX3_39 (kN hNk) rfl rfl dX3_lookBy_21 ?_
    refine a_topI (y := gN ρ 155 3) hN.n3 ?_
    refine a_iconst dX3_lookBy_24 ?_
    refine a_isub dX3_lookBy_25 ?_
    refine a_istore (ls' := [(6, ai (gN ρ 155 3 - 1)), (5, ai 0), (4, ai ((c : Int) * 60)), (0, ar 38), (1, ar 7), (2, ai t), (3, ai (c : Int))]) dX3_lookBy_26 (Nat.le_of_ble_eq_true rfl) rfl ?_
    exact a_keep (by simp) (c_lb_l σ ρ N hW hN hT7 hL7 t c ht0 ht1 hc hP (gN ρ 155 3).toNat (gN ρ 155 3 - 1) (0) σ (by omega) (by omega) (by omega) Fg.rfl (fun j a b => by omega) (by rw [show gN ρ 155 3 - 1 + 1 = gN ρ 155 3 by omega, show (gN ρ 155 3 - gN ρ 155 3).toNat = 0 by omega]; unfold btZ anyZ; rw [if_neg (by simp; omega)]))
  · refine a_iconst dX3_lookBy_10 ?_
    refine a_goto (tgt := 15) dX3_lookBy_11 (by decide) ?_
    refine a_istore (ls' := [(5, ai 1), (4, ai ((c : Int) * 60)), (0, ar 38), (1, ar 7), (2, ai t), (3, ai (c : Int))]) dX3_lookBy_15 (Nat.le_of_ble_eq_true rfl) rfl ?_
    refine a_aload_n dX3_lookBy_17 rfl rfl ?_
    refine a_getR (d := N) (J := 0) fX3_35 k7 rfl (rT_0 (by decide)) rfl hT7.net dX3_lookBy_18 ?_
    refine a_getI (J := 3) fX3_39 (kN hNk) rfl rfl dX3_lookBy_21 ?_
    refine a_topI (y := gN ρ 155 3) hN.n3 ?_
    refine a_iconst dX3_lookBy_24 ?_
    refine a_isub dX3_lookBy_25 ?_
    refine a_istore (ls' := [(6, ai (gN ρ 155 3 - 1)), (5, ai 1), (4, ai ((c : Int) * 60)), (0, ar 38), (1, ar 7), (2, ai t), (3, ai (c : Int))]) dX3_lookBy_26 (Nat.le_of_ble_eq_true rfl) rfl ?_
    exact a_keep (by simp) (c_lb_l σ ρ N hW hN hT7 hL7 t c ht0 ht1 hc hP (gN ρ 155 3).toNat (gN ρ 155 3 - 1) (1) σ (by omega) (by omega) (by omega) Fg.rfl (fun j a b => by omega) (by rw [show gN ρ 155 3 - 1 + 1 = gN ρ 155 3 by omega, show (gN ρ 155 3 - gN ρ 155 3).toNat = 0 by omega]; unfold btZ anyZ; rw [if_pos (Or.inl (by omega))]))

set_option maxRecDepth 20000 in
theorem c_rp_l (σ ρ : Sto) (hW : WV ρ) (t : Int) (c : Nat) (ht0 : 0 ≤ t) (ht1 : t < gN ρ 155 0) (hc : c ≤ 4) (hc0 : 0 < (c : Int)) (hP : ∀ k : Int, 0 ≤ k → k < gN ρ 155 3 → 0 < (c : Int) → gN σ (43 + t.toNat) ((c : Int) * 60 - 60 + k) = prvL ρ t c k) : ∀ (n : Nat) (r : Int) (τ : Sto), 0 ≤ r → r ≤ gN ρ 155 3 → n = (gN ρ 155 3 - r).toNat → Fg (pLv t c) σ τ → (∀ i : Int, 0 ≤ i → i < r → gN τ (43 + t.toNat) ((c : Int) * 60 + i) = prvL ρ t c i) → RunA mX3_repeat (fun r u => r = none ∧ Fg (pLv t c) σ u ∧ ∀ i : Int, 0 ≤ i → i < gN ρ 155 3 → gN u (43 + t.toNat) ((c : Int) * 60 + i) = prvL ρ t c i) 9 [(5, ai r), (0, ar 38), (1, ai (gN ρ 155 3)), (2, ai t), (3, ai (c : Int)), (4, ai ((c : Int) * 60))] [] τ := by
  have hR := hW.R
  have hS := hW.S
  intro n
  induction n with
  | zero =>
    intro r τ h0 h5 hn hF hZ
    refine a_iload dX3_repeat_9 rfl ?_
    refine a_iload_n dX3_repeat_11 rfl rfl ?_
    refine a_icmp_ge (tgt := 52) dX3_repeat_12 (by decide) (inR_of (by omega) (by omega)) (inR_gN _ _ _) (fun c12 => ?_) (fun c12 => ?_)
    · exact a_vret rfl ⟨rfl, hF, fun j j0 j1 => hZ j j0 (by omega)⟩ dX3_repeat_52
    · exfalso; omega
  | succ n ih =>
    intro r τ h0 h5 hn hF hZ
    refine a_iload dX3_repeat_9 rfl ?_
    refine a_iload_n dX3_repeat_11 rfl rfl ?_
    refine a_icmp_ge (tgt := 52) dX3_repeat_12 (by decide) (inR_of (by omega) (by omega)) (inR_gN _ _ _) (fun c12 => ?_) (fun c12 => ?_)
    · exfalso; omega
    · refine a_iload_n dX3_repeat_15 rfl rfl ?_
      refine a_if_le (tgt := 52) dX3_repeat_16 (by decide) (inR_of (by omega) (by omega)) (fun c16 => ?_) (fun c16 => ?_)
      · exfalso; omega
      · refine a_aload_n dX3_repeat_19 rfl rfl ?_
        refine a_getF (d := 39) fX3_11 k38 rfl r38_0 dX3_repeat_20 ?_
        refine a_iload_n dX3_repeat_23 rfl rfl ?_
        refine a_ald (d := (43 + t.toNat)) k39 n39 (by omega) (by omega) (row39 (by omega) (by omega)) dX3_repeat_24 ?_
        refine a_iload dX3_repeat_25 rfl ?_
        refine a_iload dX3_repeat_27 rfl ?_
        refine a_iadd dX3_repeat_29 ?_
        refine a_aload_n dX3_repeat_30 rfl rfl ?_
        refine a_getF (d := 39) fX3_11 k38 rfl r38_0 dX3_repeat_31 ?_
        refine a_iload_n dX3_repeat_34 rfl rfl ?_
        refine a_ald (d := (43 + t.toNat)) k39 n39 (by omega) (by omega) (row39 (by omega) (by omega)) dX3_repeat_35 ?_
        refine a_iload dX3_repeat_36 rfl ?_
        refine a_bipush (x := 60) dX3_repeat_38 (by decide) ?_
        refine a_isub dX3_repeat_40 ?_
        refine a_iload dX3_repeat_41 rfl ?_
        refine a_iadd dX3_repeat_43 ?_
        refine a_ild (kR43 (by omega) (by omega)) (nR43 (by omega) (by omega)) (by omega) (by omega) dX3_repeat_44 ?_
        refine a_topI (y := prvL ρ t c r) (by rw [hF.n (by unfold pLv; omega)]; exact hP r (by omega) (by omega) (by omega)) ?_
        have hb27 := prv_rng hW ht0 ht1 (c := c) (i := r) (by omega) (by omega)
        refine a_ist (kR43 (by omega) (by omega)) (nR43 (by omega) (by omega)) (by omega) (by omega) dX3_repeat_45 ?_
        refine a_iinc (y := r + 1) (ls' := [(5, ai (r + 1)), (0, ar 38), (1, ai (gN ρ 155 3)), (2, ai t), (3, ai (c : Int)), (4, ai ((c : Int) * 60))]) dX3_repeat_46 rfl rfl (Nat.le_of_ble_eq_true rfl) rfl ?_
        refine a_goto (tgt := 9) dX3_repeat_49 (by decide) ?_
        refine a_keep (by simp) (ih (r + 1) (sN τ (43 + t.toNat) ((c : Int) * 60 + r) (prvL ρ t c r)) (by omega) (by omega) (by omega) (hF.sN (by unfold pLv; omega)) (fun j j0 j1 => ?_))
        have hpr := prv_rng hW ht0 ht1 (c := c) (i := r) (by omega) (by omega)
        by_cases e : j = r
        · rw [e, gN_sN, if_pos ⟨rfl, rfl⟩, nrm_of (inR_of (by omega) (by omega))]
        · rw [gN_sN, if_neg (by omega)]; exact hZ j j0 (by omega)

set_option maxRecDepth 20000 in
theorem c_repeat (σ ρ : Sto) (hW : WV ρ) (t : Int) (c : Nat) (ht0 : 0 ≤ t) (ht1 : t < gN ρ 155 0) (hc : c ≤ 4) (hc0 : 0 < (c : Int)) (hP : ∀ k : Int, 0 ≤ k → k < gN ρ 155 3 → 0 < (c : Int) → gN σ (43 + t.toNat) ((c : Int) * 60 - 60 + k) = prvL ρ t c k) : MetA mX3_repeat [ar 38, ai (gN ρ 155 3), ai t, ai (c : Int)] σ (fun r u => r = none ∧ Fg (pLv t c) σ u ∧ ∀ i : Int, 0 ≤ i → i < gN ρ 155 3 → gN u (43 + t.toNat) ((c : Int) * 60 + i) = prvL ρ t c i) := by
  have hR := hW.R
  have hS := hW.S
  refine a_entry (by decide) (Nat.le_of_ble_eq_true rfl) ?_
  refine a_ls (ls' := [(0, ar 38), (1, ai (gN ρ 155 3)), (2, ai t), (3, ai (c : Int))]) rfl ?_
  refine a_iload_n dX3_repeat_0 rfl rfl ?_
  refine a_bipush (x := 60) dX3_repeat_1 (by decide) ?_
  refine a_imul dX3_repeat_3 ?_
  refine a_istore (ls' := [(4, ai ((c : Int) * 60)), (0, ar 38), (1, ai (gN ρ 155 3)), (2, ai t), (3, ai (c : Int))]) dX3_repeat_4 (Nat.le_of_ble_eq_true rfl) rfl ?_
  refine a_iconst dX3_repeat_6 ?_
  refine a_istore (ls' := [(5, ai 0), (4, ai ((c : Int) * 60)), (0, ar 38), (1, ai (gN ρ 155 3)), (2, ai t), (3, ai (c : Int))]) dX3_repeat_7 (Nat.le_of_ble_eq_true rfl) rfl ?_
  exact a_keep (by simp) (c_rp_l σ ρ hW t c ht0 ht1 hc hc0 hP (gN ρ 155 3).toNat 0 σ (by omega) (by omega) (by omega) Fg.rfl (fun j a b => by omega))

set_option maxRecDepth 20000 in
theorem c_fg_l (σ : Sto) : ∀ (n : Nat) (k : Int) (τ : Sto), 0 ≤ k → k ≤ 10 → n = (10 - k).toNat → Fg (fun c _ => c = 42) σ τ → (∀ t : Int, 0 ≤ t → t < k → gN τ 42 t = 0) → RunA mX3_forget (fun r u => r = none ∧ Fg (fun c _ => c = 42) σ u ∧ ∀ t : Int, 0 ≤ t → t < 10 → gN u 42 t = 0) 2 [(1, ai k), (0, ar 38)] [] τ := by
  intro n
  induction n with
  | zero =>
    intro k τ h0 h5 hn hF hZ
    refine a_iload_n dX3_forget_2 rfl rfl ?_
    refine a_bipush (x := 10) dX3_forget_3 (by decide) ?_
    refine a_icmp_ge (tgt := 21) dX3_forget_5 (by decide) (inR_of (by omega) (by omega)) (inR_of (by omega) (by omega)) (fun c5 => ?_) (fun c5 => ?_)
    · exact a_vret rfl ⟨rfl, hF, fun j j0 j1 => hZ j j0 (by omega)⟩ dX3_forget_21
    · exfalso; omega
  | succ n ih =>
    intro k τ h0 h5 hn hF hZ
    refine a_iload_n dX3_forget_2 rfl rfl ?_
    refine a_bipush (x := 10) dX3_forget_3 (by decide) ?_
    refine a_icmp_ge (tgt := 21) dX3_forget_5 (by decide) (inR_of (by omega) (by omega)) (inR_of (by omega) (by omega)) (fun c5 => ?_) (fun c5 => ?_)
    · exfalso; omega
    · refine a_aload_n dX3_forget_8 rfl rfl ?_
      refine a_getF (d := 42) fX3_22 k38 rfl r38_3 dX3_forget_9 ?_
      refine a_iload_n dX3_forget_12 rfl rfl ?_
      refine a_iconst dX3_forget_13 ?_
      refine a_zst k42 n42 (by omega) (by omega) (by omega) dX3_forget_14 ?_
      refine a_iinc (y := k + 1) (ls' := [(1, ai (k + 1)), (0, ar 38)]) dX3_forget_15 rfl rfl (Nat.le_of_ble_eq_true rfl) rfl ?_
      refine a_goto (tgt := 2) dX3_forget_18 (by decide) ?_
      refine a_keep (by simp) (ih (k + 1) (sN τ 42 k 0) (by omega) (by omega) (by omega) (hF.sN rfl) (fun j j0 j1 => ?_))
      by_cases e : j = k
      · rw [e, gN_sN, if_pos ⟨rfl, rfl⟩]; rfl
      · rw [gN_sN, if_neg (by omega)]; exact hZ j j0 (by omega)

set_option maxRecDepth 20000 in
theorem c_forget (σ : Sto) : MetA mX3_forget [ar 38] σ (fun r u => r = none ∧ Fg (fun c _ => c = 42) σ u ∧ ∀ t : Int, 0 ≤ t → t < 10 → gN u 42 t = 0) := by
  refine a_entry (by decide) (Nat.le_of_ble_eq_true rfl) ?_
  refine a_ls (ls' := [(0, ar 38)]) rfl ?_
  refine a_iconst dX3_forget_0 ?_
  refine a_istore_n (ls' := [(1, ai 0), (0, ar 38)]) dX3_forget_1 rfl (Nat.le_of_ble_eq_true rfl) rfl ?_
  exact a_keep (by simp) (c_fg_l σ 10 0 σ (by omega) (by omega) (by omega) Fg.rfl (fun j a b => by omega))

