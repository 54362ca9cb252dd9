theorem EnIs.of {u w : Sto} {E : Int → Int} (h : EnIs u E) (hF : ∀ a, gN w 172 a = gN u 172 a) : EnIs w E := fun a q0 q1 => (hF a).trans (h a q0 q1)
def EnB (E : Int → Int) (B : Int) : Prop := ∀ a : Int, 0 ≤ a → a < 10 → 0 ≤ E a ∧ E a ≤ B
theorem EnIs.inc {u : Sto} {E : Int → Int} {x B : Int} (h : EnIs u E) (hB : EnB E B) (hB1 : B ≤ 1000000) (h0 : 0 ≤ x) (h1 : x < 10) : EnIs (sN u 172 x (gN u 172 x + 1)) (fun a => if a = x then E a + 1 else E a) := by
  intro a q0 q1
  show gN (sN u 172 x (gN u 172 x + 1)) 172 a = if a = x then E a + 1 else E a
  rw [gN_sN]
  have b := hB a q0 q1
  by_cases e : a = x
  · subst e
    rw [if_pos ⟨rfl, rfl⟩, if_pos rfl, h a q0 q1, nrm_of (inR_of (by omega) (by omega))]
  · rw [if_neg (by omega), if_neg e]
    exact h a q0 q1
theorem EnB.inc {E : Int → Int} {B x : Int} (h : EnB E B) : EnB (fun a => if a = x then E a + 1 else E a) (B + 1) := fun a q0 q1 => by
  have := h a q0 q1
  show 0 ≤ (if a = x then E a + 1 else E a) ∧ (if a = x then E a + 1 else E a) ≤ B + 1
  split <;> omega
theorem EnB.le {E : Int → Int} {B C : Int} (h : EnB E B) (hc : B ≤ C) : EnB E C := fun a q0 q1 => ⟨(h a q0 q1).1, by have := (h a q0 q1).2; omega⟩
theorem edL_B {σ : Sto} {P : List (Int × Int)} : ∀ (n : Nat) (l : Int) (E : Int → Int) (B : Int), EnB E B → EnB (itr (edL σ P) n l E) (B + n)
  | 0, _, _, _, h => h.le (by omega)
  | n + 1, l, E, B, h => (edL_B n (l + 1) _ (B + 1) (EnB.inc h)).le (by omega)
theorem edI_B {σ : Sto} (hW : WOK σ) {s t : Int} (hs0 : 0 ≤ s) (hs1 : s < 10) (ht0 : 0 ≤ t) (ht1 : t < 10) : ∀ (n : Nat) (i : Int) (E : Int → Int) (B : Int), 0 ≤ i → i + n ≤ (pfK σ s t).length → EnB E B → EnB (itr (edI σ s t) n i E) (B + 4 * n)
  | 0, _, _, _, _, _, h => h.le (by omega)
  | n + 1, i, E, B, h0, h1, h => by
    have hok := pf_ok hW hs0 hs1 ht0 ht1
    have bx := kx_ok hW hs0 hs1 ht0 ht1 h0 (by omega)
    have bn : cdOK (cd (pfL σ s t) (kx σ s t i)) := cd_ok hok.2.1 bx.1 bx.2
    unfold cdOK at bn
    have hl := (lg_ok hW bx.1 bx.2).1
    rw [itr_s]
    exact (edI_B hW hs0 hs1 ht0 ht1 n (i + 1) _ (B + 4) (by omega) (by omega) ((edL_B _ 0 E B h).le (by omega))).le (by omega)
abbrev pEn (c : Nat) (_ : Int) : Prop := c = 172

set_option maxRecDepth 20000 in
theorem t_end_l (σ : Sto) (hW : WOK σ) (s t : Int) (hs0 : 0 ≤ s) (hs1 : s < 10) (ht0 : 0 ≤ t) (ht1 : t < 10) (i : Int) (hi0 : 0 ≤ i) (hi1 : i < (pfK σ s t).length) (Z : Int → Int) (Y : Int → Int) (hx : ∀ ω : Sto, Fr pQ σ ω → TOK ω → Rq (lkN σ) ω → CdIs ω (pfL σ s t) → KpIs ω (pfK σ s t) → EnIs ω Y → RunA mX9_endsOf (fun r v => r = none ∧ Fr pQ σ v ∧ TOK v ∧ Rq (lkN σ) v ∧ EnIs v Z) 74 [(3, ai i), (0, ar 153), (1, ai s), (2, ai t)] [] ω) : ∀ (n : Nat) (l : Int) (ω : Sto) (E : Int → Int) (B : Int), 0 ≤ l → l ≤ (lgL σ s t (kx σ s t i)).length - 1 → n = ((lgL σ s t (kx σ s t i)).length - 1 - l).toNat → Fr pQ σ ω → TOK ω → Rq (lkN σ) ω → CdIs ω (pfL σ s t) → KpIs ω (pfK σ s t) → RoIs ω (lgL σ s t (kx σ s t i)) → EnIs ω E → EnB E B → B + n ≤ 1000000 → Y = itr (edL σ (lgL σ s t (kx σ s t i))) n l E → RunA mX9_endsOf (fun r v => r = none ∧ Fr pQ σ v ∧ TOK v ∧ Rq (lkN σ) v ∧ EnIs v Z) 31 [(4, ai l), (3, ai i), (0, ar 153), (1, ai s), (2, ai t)] [] ω := by
  have hR := hW.1
  have hok := pf_ok hW hs0 hs1 ht0 ht1
  have bx := kx_ok hW hs0 hs1 ht0 ht1 hi0 hi1
  have bn : cdOK (cd (pfL σ s t) (kx σ s t i)) := cd_ok hok.2.1 bx.1 bx.2
  unfold cdOK at bn
  have hlk9 := lg_ok hW bx.1 bx.2
  have h9 := hlk9.1
  have bL := hok.1
  have bK := hok.2.2.1
  intro n
  induction n with
  | zero =>
    intro l ω E B h0 h5 hn hFω hTω hRω hCω hKω hRo hEn hEB hB hE
    have hWω := Q_W hFω hW
    have bk : gN ω 167 i = kx σ s t i ∧ kx σ s t i ∈ pfK σ s t := hKω.at hi0 hi1
    have ecw := hCω.at bx.1 bx.2
    have hlk := hlk9.2
    have P0 := hRo
    refine a_iload dX9_endsOf_31 rfl ?_
    refine a_aload_n dX9_endsOf_33 rfl rfl ?_
    refine a_getF (d := 166) fX9_51 k153 rfl r153_27 dX9_endsOf_34 ?_
    refine a_aload_n dX9_endsOf_37 rfl rfl ?_
    refine a_getF (d := 167) fX9_54 k153 rfl r153_29 dX9_endsOf_38 ?_
    refine a_iload_n dX9_endsOf_41 rfl rfl ?_
    refine a_ild k167 n167 (by omega) (by omega) dX9_endsOf_42 ?_
    refine a_topI (y := kx σ s t i) bk.1 ?_
    refine a_ild k166 n166 (by omega) (by omega) dX9_endsOf_43 ?_
    refine a_topI (y := (cd (pfL σ s t) (kx σ s t i)).2.2) ecw.2.2 ?_
    refine a_icmp_ge (tgt := 74) dX9_endsOf_44 (by decide) (inR_of (by omega) (by omega)) (inR_of (by omega) (by omega)) (fun c44 => ?_) (fun c44 => ?_)
    · exact a_keep (by simp) (hx ω hFω hTω hRω hCω hKω (by rw [hE]; exact hEn))
    · exfalso; omega
  | succ n ih =>
    intro l ω E B h0 h5 hn hFω hTω hRω hCω hKω hRo hEn hEB hB hE
    have hWω := Q_W hFω hW
    have bk : gN ω 167 i = kx σ s t i ∧ kx σ s t i ∈ pfK σ s t := hKω.at hi0 hi1
    have ecw := hCω.at bx.1 bx.2
    have hlk := hlk9.2
    have P0 := hRo
    refine a_iload dX9_endsOf_31 rfl ?_
    refine a_aload_n dX9_endsOf_33 rfl rfl ?_
    refine a_getF (d := 166) fX9_51 k153 rfl r153_27 dX9_endsOf_34 ?_
    refine a_aload_n dX9_endsOf_37 rfl rfl ?_
    refine a_getF (d := 167) fX9_54 k153 rfl r153_29 dX9_endsOf_38 ?_
    refine a_iload_n dX9_endsOf_41 rfl rfl ?_
    refine a_ild k167 n167 (by omega) (by omega) dX9_endsOf_42 ?_
    refine a_topI (y := kx σ s t i) bk.1 ?_
    refine a_ild k166 n166 (by omega) (by omega) dX9_endsOf_43 ?_
    refine a_topI (y := (cd (pfL σ s t) (kx σ s t i)).2.2) ecw.2.2 ?_
    refine a_icmp_ge (tgt := 74) dX9_endsOf_44 (by decide) (inR_of (by omega) (by omega)) (inR_of (by omega) (by omega)) (fun c44 => ?_) (fun c44 => ?_)
    · exfalso; omega
    · have ra := hRo.at (l := l) (by omega) (by omega)
      have qa := hlk _ ra.2.2
      unfold lgOK at qa
      have ta := hRω.2.2.1 (lg (lgL σ s t (kx σ s t i)) (l)).1 (by omega) (by have := qa; rw [show gN (lkN σ) 155 3 = gN σ 155 3 from rfl]; omega)
      have ya := hRω.2.2.1 (lg (lgL σ s t (kx σ s t i)) (l)).2 (by omega) (by have := qa; rw [show gN (lkN σ) 155 3 = gN σ 155 3 from rfl]; omega)
      have za := LV_rng hW (x := (lg (lgL σ s t (kx σ s t i)) (l)).1) (by omega) (by omega)
      have xa := LV_rng hW (x := (lg (lgL σ s t (kx σ s t i)) (l)).2) (by omega) (by omega)
      have wa := hW.2.2.2.1 (lg (lgL σ s t (kx σ s t i)) (l)).1 (by omega) (by omega)
      have va := hW.2.2.2.1 (lg (lgL σ s t (kx σ s t i)) (l)).2 (by omega) (by omega)
      refine a_aload_n dX9_endsOf_47 rfl rfl ?_
      refine a_getF (d := 172) fX9_70 k153 rfl r153_35 dX9_endsOf_48 ?_
      refine a_aload_n dX9_endsOf_51 rfl rfl ?_
      refine a_aload_n dX9_endsOf_52 rfl rfl ?_
      refine a_getF (d := 171) fX9_67 k153 rfl r153_34 dX9_endsOf_53 ?_
      refine a_iload dX9_endsOf_56 rfl ?_
      refine a_ild k171 n171 (by omega) (by omega) dX9_endsOf_58 ?_
      refine a_topI (y := (lg (lgL σ s t (kx σ s t i)) l).2) ra.2.1 ?_
      refine a_iconst dX9_endsOf_59 ?_
      refine a_cI (c := 153) (as := [ai ((lg (lgL σ s t (kx σ s t i)) l).2), ai 2]) (rest := [ar 172]) (t_told ω ((lg (lgL σ s t (kx σ s t i)) l).2) 2 (by omega) (by omega)) mvX9_told lX9_201 k153 (by decide) rfl rfl rfl rfl (Nat.le_of_ble_eq_true rfl) (Nat.le_of_ble_eq_true rfl) (Nat.le_of_ble_eq_true rfl) dX9_endsOf_60 ?_
      refine a_topI (y := gN σ 155 (115 + 5 * ((lg (lgL σ s t (kx σ s t i)) l).2) + 2)) (Q155 hFω _) ?_
      refine a_dup2 dX9_endsOf_63 rfl rfl ?_
      refine a_ild k172 n172 (by omega) (by omega) dX9_endsOf_64 ?_
      refine a_iconst dX9_endsOf_65 ?_
      refine a_iadd dX9_endsOf_66 ?_
      refine a_ist k172 n172 (by omega) (by omega) dX9_endsOf_67 ?_
      refine a_iinc (y := l + 1) (ls' := [(4, ai (l + 1)), (3, ai i), (0, ar 153), (1, ai s), (2, ai t)]) dX9_endsOf_68 rfl rfl (Nat.le_of_ble_eq_true rfl) rfl ?_
      refine a_goto (tgt := 31) dX9_endsOf_71 (by decide) ?_
      have hF1 : Fr pEn ω (sN ω 172 (gN σ 155 (115 + 5 * ((lg (lgL σ s t (kx σ s t i)) l).2) + 2)) (gN ω 172 (gN σ 155 (115 + 5 * ((lg (lgL σ s t (kx σ s t i)) l).2) + 2)) + 1)) := Fr.rfl.sN (by unfold pEn; omega)
      have r1 : Rd ω (sN ω 172 (gN σ 155 (115 + 5 * ((lg (lgL σ s t (kx σ s t i)) l).2) + 2)) (gN ω 172 (gN σ 155 (115 + 5 * ((lg (lgL σ s t (kx σ s t i)) l).2) + 2)) + 1)) := hF1.Rd (fun c j q => by unfold pEn at q; omega)
      exact a_keep (by simp) (ih (l + 1) (sN ω 172 (gN σ 155 (115 + 5 * ((lg (lgL σ s t (kx σ s t i)) l).2) + 2)) (gN ω 172 (gN σ 155 (115 + 5 * ((lg (lgL σ s t (kx σ s t i)) l).2) + 2)) + 1)) _ (B + 1) (by omega) (by omega) (by omega) (hFω.trans (hF1.mono (fun c j q => by unfold pEn at q; unfold pQ; omega))) (r1.T hTω) (hRω.trans r1.q) (hCω.of (hF1.1 153 28 (by unfold pEn; omega)) (fun j => hF1.1 164 j (by unfold pEn; omega)) (fun j => hF1.1 165 j (by unfold pEn; omega)) (fun j => hF1.1 166 j (by unfold pEn; omega))) ⟨(hF1.1 153 30 (by unfold pEn; omega)).trans hKω.1, fun k x hk => (hF1.1 167 k (by unfold pEn; omega)).trans (hKω.2 k x hk)⟩ (fun k q hk => by rw [hF1.1 170 k (by unfold pEn; omega), hF1.1 171 k (by unfold pEn; omega)]; exact hRo k q hk) (hEn.inc hEB (by omega) (by omega) (by omega)) (EnB.inc hEB) (by omega) (by rw [hE]; rfl))

set_option maxRecDepth 20000 in
theorem t_end_i (σ : Sto) (hW : WOK σ) (s t : Int) (hs0 : 0 ≤ s) (hs1 : s < 10) (ht0 : 0 ≤ t) (ht1 : t < 10) (Z : Int → Int) : ∀ (n : Nat) (i : Int) (v : Sto) (E : Int → Int) (B : Int), 0 ≤ i → i ≤ (pfK σ s t).length → n = ((pfK σ s t).length - i).toNat → Fr pQ σ v → TOK v → Rq (lkN σ) v → CdIs v (pfL σ s t) → KpIs v (pfK σ s t) → EnIs v E → EnB E B → B + 4 * n ≤ 1000000 → Z = itr (edI σ s t) n i E → RunA mX9_endsOf (fun r v => r = none ∧ Fr pQ σ v ∧ TOK v ∧ Rq (lkN σ) v ∧ EnIs v Z) 8 [(3, ai i), (0, ar 153), (1, ai s), (2, ai t)] [] v := by
  have hok := pf_ok hW hs0 hs1 ht0 ht1
  have bKl := hok.2.2.1
  have hR := hW.1
  intro n
  induction n with
  | zero =>
    intro i v E B h0 h5 hn hFv hTv hRv hCv hKv hEn hEB hB hE
    have k30 : gN v 153 30 = (pfK σ s t).length := hKv.1
    have hWv := Q_W hFv hW
    refine a_iload_n dX9_endsOf_8 rfl rfl ?_
    refine a_aload_n dX9_endsOf_9 rfl rfl ?_
    refine a_getI (J := 30) fX9_278 k153 rfl rfl dX9_endsOf_10 ?_
    refine a_icmp_ge (tgt := 80) dX9_endsOf_13 (by decide) (inR_of (by omega) (by omega)) (inR_gN _ _ _) (fun c13 => ?_) (fun c13 => ?_)
    · exact a_vret rfl ⟨rfl, hFv, hTv, hRv, by rw [hE]; exact hEn⟩ dX9_endsOf_80
    · exfalso; omega
  | succ n ih =>
    intro i v E B h0 h5 hn hFv hTv hRv hCv hKv hEn hEB hB hE
    have k30 : gN v 153 30 = (pfK σ s t).length := hKv.1
    have hWv := Q_W hFv hW
    refine a_iload_n dX9_endsOf_8 rfl rfl ?_
    refine a_aload_n dX9_endsOf_9 rfl rfl ?_
    refine a_getI (J := 30) fX9_278 k153 rfl rfl dX9_endsOf_10 ?_
    refine a_icmp_ge (tgt := 80) dX9_endsOf_13 (by decide) (inR_of (by omega) (by omega)) (inR_gN _ _ _) (fun c13 => ?_) (fun c13 => ?_)
    · exfalso; omega
    · have bk : gN v 167 (i) = kx σ s t (i) ∧ kx σ s t (i) ∈ pfK σ s t := hKv.at (k := i) (by omega) (by omega)
      have bx : 0 ≤ kx σ s t (i) ∧ kx σ s t (i) < (pfL σ s t).length := hok.2.2.2 _ bk.2
      have ec := hCv.at bx.1 bx.2
      have bc : cdOK (cd (pfL σ s t) (kx σ s t (i))) := cd_ok hok.2.1 bx.1 bx.2
      unfold cdOK at bc
      have bL := hok.1
      refine a_aload_n dX9_endsOf_16 rfl rfl ?_
      refine a_iload_n dX9_endsOf_17 rfl rfl ?_
      refine a_iload_n dX9_endsOf_18 rfl rfl ?_
      refine a_aload_n dX9_endsOf_19 rfl rfl ?_
      refine a_getF (d := 167) fX9_54 k153 rfl r153_29 dX9_endsOf_20 ?_
      refine a_iload_n dX9_endsOf_23 rfl rfl ?_
      refine a_ild k167 n167 (by omega) (by omega) dX9_endsOf_24 ?_
      refine a_topI (y := kx σ s t i) bk.1 ?_
      refine a_callV (c := 153) (as := [ai s, ai t, ai (kx σ s t i)]) (rest := []) (t_unfolds v hWv hTv s t (kx σ s t i) (pfL σ s t) hCv hok.1 hok.2.1 bx.1 bx.2 (by omega) (by omega) (by omega) (by omega) (unf_Rq hRv (pf_unf hW bx.1 bx.2))) mvX9_unfolds lX9_299 k153 (by decide) rfl rfl rfl rfl (Nat.le_of_ble_eq_true rfl) (Nat.le_of_ble_eq_true rfl) (Nat.le_of_ble_eq_true rfl) dX9_endsOf_25 (fun ω hω => ?_)
      obtain ⟨hFω, hTω, hRω, hRo⟩ := un_fin hW hFv hTv hRv bx.1 bx.2 hω.2
      have hCω := pUn_Cd hω.2.1 hCv
      have hKω := pUn_Kp hω.2.1 hKv
      have hWω := Q_W hFω hW
      have hlk := lg_ok hW bx.1 bx.2
      have bn : cdOK (cd (pfL σ s t) (kx σ s t i)) := cd_ok hok.2.1 bx.1 bx.2
      unfold cdOK at bn
      refine a_iconst dX9_endsOf_28 ?_
      refine a_istore (ls' := [(4, ai 0), (3, ai i), (0, ar 153), (1, ai s), (2, ai t)]) dX9_endsOf_29 (Nat.le_of_ble_eq_true rfl) rfl ?_
      refine a_keep (ls' := [(4, ai 0), (3, ai i), (0, ar 153), (1, ai s), (2, ai t)]) (by simp) ?_
      have h9 := hlk.1
      have eF : ∀ a, gN ω 172 a = gN v 172 a := fun a => hω.2.1.1 172 a (by unfold pUn; omega)
      refine t_end_l σ hW s t hs0 hs1 ht0 ht1 i h0 (by omega) Z (edI σ s t i E) (fun y a1 a2 a3 a4 a5 a6 => ?_) ((lgL σ s t (kx σ s t i)).length - 1) 0 ω E B (by omega) (by omega) (by omega) hFω hTω hRω hCω hKω hRo (hEn.of eF) hEB (by omega) rfl
      refine a_iinc (y := i + 1) (ls' := [(3, ai (i + 1)), (0, ar 153), (1, ai s), (2, ai t)]) dX9_endsOf_74 rfl rfl (Nat.le_of_ble_eq_true rfl) rfl ?_
      refine a_goto (tgt := 8) dX9_endsOf_77 (by decide) ?_
      exact ih (i + 1) y (edI σ s t i E) (B + 4) (by omega) (by omega) (by omega) a1 a2 a3 a4 a5 a6 ((edL_B _ 0 E B hEB).le (by omega)) (by omega) (by rw [hE, itr_s])

set_option maxRecDepth 20000 in
theorem t_endsOf (σ u : Sto) (hW : WOK σ) (hFu : Fr pQ σ u) (hTu : TOK u) (hRu : Rq (lkN σ) u) (s t : Int) (hs0 : 0 ≤ s) (hs1 : s < 10) (ht0 : 0 ≤ t) (ht1 : t < 10) (E : Int → Int) (B : Int) (hEn : EnIs u E) (hEB : EnB E B) (hB : B ≤ 500000) : MetA mX9_endsOf [ar 153, ai s, ai t] u (fun r v => r = none ∧ Fr pQ σ v ∧ TOK v ∧ Rq (lkN σ) v ∧ EnIs v (edF σ s t E)) := by
  have hWu := Q_W hFu hW
  have hS := hW.2.1
  have hR := hW.1
  refine a_entry (by decide) (Nat.le_of_ble_eq_true rfl) ?_
  refine a_aload_n dX9_endsOf_0 rfl rfl ?_
  refine a_iload_n dX9_endsOf_1 rfl rfl ?_
  refine a_iload_n dX9_endsOf_2 rfl rfl ?_
  refine a_callV (c := 153) (as := [ai s, ai t]) (rest := []) (t_laysProfile u s t hWu hTu (by omega) (by omega) (by omega) (by omega)) mvX9_laysProfile lX9_293 k153 (by decide) rfl rfl rfl rfl (Nat.le_of_ble_eq_true rfl) (Nat.le_of_ble_eq_true rfl) (Nat.le_of_ble_eq_true rfl) dX9_endsOf_3 (fun v hv => ?_)
  obtain ⟨hFv, hTv, hRv, hCv, hKv⟩ := pr_fin hFu hTu hRu hv.2
  have hok := pf_ok hW (s := s) (t := t) (by omega) (by omega) (by omega) (by omega)
  have k30 : gN v 153 30 = (pfK σ s t).length := hKv.1
  have hWv := Q_W hFv hW
  refine a_iconst dX9_endsOf_6 ?_
  refine a_istore_n (ls' := [(3, ai 0), (0, ar 153), (1, ai s), (2, ai t)]) dX9_endsOf_7 rfl (Nat.le_of_ble_eq_true rfl) rfl ?_
  exact a_keep (by simp) (t_end_i σ hW s t hs0 hs1 ht0 ht1 _ (pfK σ s t).length 0 v E B (by omega) (by omega) (by omega) hFv hTv hRv hCv hKv (hEn.of (fun a => hv.2.1.1 172 a (by unfold pPr; omega))) hEB (by have := hok.2.2.1; omega) rfl)

theorem edF_B {σ : Sto} (hW : WOK σ) {s t : Int} (hs0 : 0 ≤ s) (hs1 : s < 10) (ht0 : 0 ≤ t) (ht1 : t < 10) {E : Int → Int} {B : Int} (h : EnB E B) : EnB (edF σ s t E) (B + 1200) := by
  have hok := pf_ok hW hs0 hs1 ht0 ht1
  exact (edI_B hW hs0 hs1 ht0 ht1 _ 0 E B (by omega) (by omega) h).le (by have := hok.2.2.1; omega)
theorem edT_B {σ : Sto} (hW : WOK σ) {s : Int} (hs0 : 0 ≤ s) (hs1 : s < 10) : ∀ (n : Nat) (t : Int) (E : Int → Int) (B : Int), 0 ≤ t → t + n ≤ 10 → EnB E B → EnB (itr (edT σ s) n t E) (B + 1200 * n)
  | 0, _, _, _, _, _, h => h.le (by omega)
  | n + 1, t, E, B, h0, h1, h => by
    rw [itr_s]
    refine (edT_B hW hs0 hs1 n (t + 1) _ (B + 1200) (by omega) (by omega) ?_).le (by omega)
    unfold edT
    split
    · exact h.le (by omega)
    · exact edF_B hW hs0 hs1 h0 (by omega) h

set_option maxRecDepth 20000 in
theorem t_hub_t (σ : Sto) (hW : WOK σ) (s what V : Int) (hs0 : 0 ≤ s) (hs2 : s < gN σ 155 0) (Y : Int → Int) (hx : ∀ u : Sto, Fr pQ σ u → TOK u → Rq (lkN σ) u → EnIs u Y → RunA mX9_hub (qQ σ V) 78 [(2, ai s), (0, ar 153), (1, ai what)] [] u) : ∀ (n : Nat) (t : Int) (u : Sto) (E : Int → Int) (B : Int), 0 ≤ t → t ≤ 10 → n = (gN σ 155 0 - t).toNat → Fr pQ σ u → TOK u → Rq (lkN σ) u → EnIs u E → EnB E B → B + 1200 * n ≤ 500000 → Y = itr (edT σ s) n t E → RunA mX9_hub (qQ σ V) 53 [(3, ai t), (2, ai s), (0, ar 153), (1, ai what)] [] u := by
  have hS := hW.2.1
  intro n
  induction n with
  | zero =>
    intro t u E B h0 h5 hn hFu hTu hRu hEn hEB hB hE
    have hWu := Q_W hFu hW
    refine a_iload_n dX9_hub_53 rfl rfl ?_
    refine a_aload_n dX9_hub_54 rfl rfl ?_
    refine a_cI (c := 153) (as := []) (rest := [ai t]) (t_stops u  ) mvX9_stops lX9_195 k153 (by decide) rfl rfl rfl rfl (Nat.le_of_ble_eq_true rfl) (Nat.le_of_ble_eq_true rfl) (Nat.le_of_ble_eq_true rfl) dX9_hub_55 ?_
    refine a_topI (y := gN σ 155 0) (Q155 hFu _) ?_
    refine a_icmp_ge (tgt := 78) dX9_hub_58 (by decide) (inR_of (by omega) (by omega)) (inR_gN _ _ _) (fun c58 => ?_) (fun c58 => ?_)
    · exact a_keep (by simp) (hx u hFu hTu hRu (by rw [hE]; exact hEn))
    · exfalso; omega
  | succ n ih =>
    intro t u E B h0 h5 hn hFu hTu hRu hEn hEB hB hE
    have hWu := Q_W hFu hW
    refine a_iload_n dX9_hub_53 rfl rfl ?_
    refine a_aload_n dX9_hub_54 rfl rfl ?_
    refine a_cI (c := 153) (as := []) (rest := [ai t]) (t_stops u  ) mvX9_stops lX9_195 k153 (by decide) rfl rfl rfl rfl (Nat.le_of_ble_eq_true rfl) (Nat.le_of_ble_eq_true rfl) (Nat.le_of_ble_eq_true rfl) dX9_hub_55 ?_
    refine a_topI (y := gN σ 155 0) (Q155 hFu _) ?_
    refine a_icmp_ge (tgt := 78) dX9_hub_58 (by decide) (inR_of (by omega) (by omega)) (inR_gN _ _ _) (fun c58 => ?_) (fun c58 => ?_)
    · exfalso; omega
    · refine a_iload_n dX9_hub_61 rfl rfl ?_
      refine a_iload_n dX9_hub_62 rfl rfl ?_
      refine a_icmp_eq (tgt := 72) dX9_hub_63 (by decide) (inR_of (by omega) (by omega)) (inR_of (by omega) (by omega)) (fun c63 => ?_) (fun c63 => ?_)
      · refine a_iinc (y := t + 1) (ls' := [(3, ai (t + 1)), (2, ai s), (0, ar 153), (1, ai what)]) dX9_hub_72 rfl rfl (Nat.le_of_ble_eq_true rfl) rfl ?_
        refine a_goto (tgt := 53) dX9_hub_75 (by decide) ?_
        have e : edT σ s t E = E := by unfold edT; rw [if_pos (by omega)]
        exact a_keep (by simp) (ih (t + 1) u E B (by omega) (by omega) (by omega) hFu hTu hRu hEn hEB (by omega) (by rw [hE, itr_s, e]))
      · refine a_aload_n dX9_hub_66 rfl rfl ?_
        refine a_iload_n dX9_hub_67 rfl rfl ?_
        refine a_iload_n dX9_hub_68 rfl rfl ?_
        refine a_callV (c := 153) (as := [ai s, ai t]) (rest := []) (t_endsOf σ u hW hFu hTu hRu s t (by omega) (by omega) (by omega) (by omega) E B hEn hEB (by omega)) mvX9_endsOf lX9_313 k153 (by decide) rfl rfl rfl rfl (Nat.le_of_ble_eq_true rfl) (Nat.le_of_ble_eq_true rfl) (Nat.le_of_ble_eq_true rfl) dX9_hub_69 (fun y hy => ?_)
        obtain ⟨-, hFy, hTy, hRy, hEy⟩ := hy
        refine a_iinc (y := t + 1) (ls' := [(3, ai (t + 1)), (2, ai s), (0, ar 153), (1, ai what)]) dX9_hub_72 rfl rfl (Nat.le_of_ble_eq_true rfl) rfl ?_
        refine a_goto (tgt := 53) dX9_hub_75 (by decide) ?_
        have e : edT σ s t E = edF σ s t E := by unfold edT; rw [if_neg (by omega)]
        exact a_keep (by simp) (ih (t + 1) y (edF σ s t E) (B + 1200) (by omega) (by omega) (by omega) hFy hTy hRy hEy (edF_B hW (by omega) (by omega) (by omega) (by omega) hEB) (by omega) (by rw [hE, itr_s, e]))

set_option maxRecDepth 20000 in
theorem t_hub_s (σ : Sto) (hW : WOK σ) (what V : Int) (Y : Int → Int) (hx : ∀ u : Sto, Fr pQ σ u → TOK u → EnIs u Y → EnB Y 1000000 → RunA mX9_hub (qQ σ V) 84 [(0, ar 153), (1, ai what)] [] u) : ∀ (n : Nat) (s : Int) (u : Sto) (E : Int → Int) (B : Int), 0 ≤ s → s ≤ 10 → n = (gN σ 155 0 - s).toNat → Fr pQ σ u → TOK u → Rq (lkN σ) u → EnIs u E → EnB E B → B + 12000 * n ≤ 500000 → Y = itr (edS σ) n s E → RunA mX9_hub (qQ σ V) 43 [(2, ai s), (0, ar 153), (1, ai what)] [] u := by
  have hS := hW.2.1
  intro n
  induction n with
  | zero =>
    intro s u E B h0 h5 hn hFu hTu hRu hEn hEB hB hE
    have hWu := Q_W hFu hW
    refine a_iload_n dX9_hub_43 rfl rfl ?_
    refine a_aload_n dX9_hub_44 rfl rfl ?_
    refine a_cI (c := 153) (as := []) (rest := [ai s]) (t_stops u  ) mvX9_stops lX9_195 k153 (by decide) rfl rfl rfl rfl (Nat.le_of_ble_eq_true rfl) (Nat.le_of_ble_eq_true rfl) (Nat.le_of_ble_eq_true rfl) dX9_hub_45 ?_
    refine a_topI (y := gN σ 155 0) (Q155 hFu _) ?_
    refine a_icmp_ge (tgt := 84) dX9_hub_48 (by decide) (inR_of (by omega) (by omega)) (inR_gN _ _ _) (fun c48 => ?_) (fun c48 => ?_)
    · exact a_keep (by simp) (hx u hFu hTu (by rw [hE]; exact hEn) (by rw [hE]; exact hEB.le (by omega)))
    · exfalso; omega
  | succ n ih =>
    intro s u E B h0 h5 hn hFu hTu hRu hEn hEB hB hE
    have hWu := Q_W hFu hW
    refine a_iload_n dX9_hub_43 rfl rfl ?_
    refine a_aload_n dX9_hub_44 rfl rfl ?_
    refine a_cI (c := 153) (as := []) (rest := [ai s]) (t_stops u  ) mvX9_stops lX9_195 k153 (by decide) rfl rfl rfl rfl (Nat.le_of_ble_eq_true rfl) (Nat.le_of_ble_eq_true rfl) (Nat.le_of_ble_eq_true rfl) dX9_hub_45 ?_
    refine a_topI (y := gN σ 155 0) (Q155 hFu _) ?_
    refine a_icmp_ge (tgt := 84) dX9_hub_48 (by decide) (inR_of (by omega) (by omega)) (inR_gN _ _ _) (fun c48 => ?_) (fun c48 => ?_)
    · exfalso; omega
    · refine a_iconst dX9_hub_51 ?_
      refine a_istore_n (ls' := [(3, ai 0), (2, ai s), (0, ar 153), (1, ai what)]) dX9_hub_52 rfl (Nat.le_of_ble_eq_true rfl) rfl ?_
      refine a_keep (ls' := [(3, ai 0), (2, ai s), (0, ar 153), (1, ai what)]) (by simp) ?_
      refine t_hub_t σ hW s what V (by omega) (by omega) (edS σ s E) (fun y a1 a2 a3 a4 => ?_) (gN σ 155 0).toNat 0 u E B (by omega) (by omega) (by omega) hFu hTu hRu hEn hEB (by omega) rfl
      refine a_iinc (y := s + 1) (ls' := [(2, ai (s + 1)), (0, ar 153), (1, ai what)]) dX9_hub_78 rfl rfl (Nat.le_of_ble_eq_true rfl) rfl ?_
      refine a_goto (tgt := 43) dX9_hub_81 (by decide) ?_
      exact ih (s + 1) y (edS σ s E) (B + 12000) (by omega) (by omega) (by omega) a1 a2 a3 a4 ((edT_B hW (by omega) (by omega) (gN σ 155 0).toNat 0 E B (by omega) (by omega) hEB).le (by omega)) (by omega) (by rw [hE, itr_s])

set_option maxRecDepth 20000 in
theorem t_hub_b (σ u : Sto) (hW : WOK σ) (hFu : Fr pQ σ u) (hTu : TOK u) (E : Int → Int) (hEn : EnIs u E) (what : Int) (hw0 : 0 ≤ what) (hw1 : what ≤ 1) : ∀ (n : Nat) (s : Int) (best : Int), 0 ≤ s → s ≤ 10 → n = (gN σ 155 0 - s).toNat → (best = -2 ∨ 0 ≤ best) → best < 10 → RunA mX9_hub (qQ σ (hubR E (itr (hbF E) n s best) what)) 89 [(3, ai s), (2, ai best), (0, ar 153), (1, ai what)] [] u := by
  have hS := hW.2.1
  intro n
  induction n with
  | zero =>
    intro s best h0 h5 hn hb0 hb1
    refine a_iload_n dX9_hub_89 rfl rfl ?_
    refine a_aload_n dX9_hub_90 rfl rfl ?_
    refine a_cI (c := 153) (as := []) (rest := [ai s]) (t_stops u  ) mvX9_stops lX9_195 k153 (by decide) rfl rfl rfl rfl (Nat.le_of_ble_eq_true rfl) (Nat.le_of_ble_eq_true rfl) (Nat.le_of_ble_eq_true rfl) dX9_hub_91 ?_
    refine a_topI (y := gN σ 155 0) (Q155 hFu _) ?_
    refine a_icmp_ge (tgt := 130) dX9_hub_94 (by decide) (inR_of (by omega) (by omega)) (inR_gN _ _ _) (fun c94 => ?_) (fun c94 => ?_)
    · refine a_iload_n dX9_hub_130 rfl rfl ?_
      refine a_bipush (x := (-2)) dX9_hub_131 (by decide) ?_
      refine a_icmp_eq (tgt := 140) dX9_hub_133 (by decide) (inR_of (by omega) (by omega)) (inR_of (by omega) (by omega)) (fun c133 => ?_) (fun c133 => ?_)
      · refine a_iload_n dX9_hub_140 rfl rfl ?_
        refine a_goto (tgt := 150) dX9_hub_141 (by decide) ?_
        exact a_iret rfl ⟨by simp only [itr]; unfold hubR; grind, hFu, hTu⟩ dX9_hub_150
      · refine a_iload_n dX9_hub_136 rfl rfl ?_
        refine a_if_ne (tgt := 144) dX9_hub_137 (by decide) (inR_of (by omega) (by omega)) (fun c137 => ?_) (fun c137 => ?_)
        · have eb := hEn best (by omega) (by omega)
          refine a_aload_n dX9_hub_144 rfl rfl ?_
          refine a_getF (d := 172) fX9_70 k153 rfl r153_35 dX9_hub_145 ?_
          refine a_iload_n dX9_hub_148 rfl rfl ?_
          refine a_ild k172 n172 (by omega) (by omega) dX9_hub_149 ?_
          exact a_iret rfl ⟨by simp only [itr]; unfold hubR; grind, hFu, hTu⟩ dX9_hub_150
        · refine a_iload_n dX9_hub_140 rfl rfl ?_
          refine a_goto (tgt := 150) dX9_hub_141 (by decide) ?_
          exact a_iret rfl ⟨by simp only [itr]; unfold hubR; grind, hFu, hTu⟩ dX9_hub_150
    · exfalso; omega
  | succ n ih =>
    intro s best h0 h5 hn hb0 hb1
    refine a_iload_n dX9_hub_89 rfl rfl ?_
    refine a_aload_n dX9_hub_90 rfl rfl ?_
    refine a_cI (c := 153) (as := []) (rest := [ai s]) (t_stops u  ) mvX9_stops lX9_195 k153 (by decide) rfl rfl rfl rfl (Nat.le_of_ble_eq_true rfl) (Nat.le_of_ble_eq_true rfl) (Nat.le_of_ble_eq_true rfl) dX9_hub_91 ?_
    refine a_topI (y := gN σ 155 0) (Q155 hFu _) ?_
    refine a_icmp_ge (tgt := 130) dX9_hub_94 (by decide) (inR_of (by omega) (by omega)) (inR_gN _ _ _) (fun c94 => ?_) (fun c94 => ?_)
    · exfalso; omega
    · have es := hEn s (by omega) (by omega)
      refine a_aload_n dX9_hub_97 rfl rfl ?_
      refine a_getF (d := 172) fX9_70 k153 rfl r153_35 dX9_hub_98 ?_
      refine a_iload_n dX9_hub_101 rfl rfl ?_
      refine a_ild k172 n172 (by omega) (by omega) dX9_hub_102 ?_
      refine a_iload_n dX9_hub_103 rfl rfl ?_
      refine a_bipush (x := (-2)) dX9_hub_104 (by decide) ?_
      refine a_icmp_ne (tgt := 113) dX9_hub_106 (by decide) (inR_of (by omega) (by omega)) (inR_of (by omega) (by omega)) (fun c106 => ?_) (fun c106 => ?_)
      · have eb := hEn best (by omega) (by omega)
        refine a_aload_n dX9_hub_113 rfl rfl ?_
        refine a_getF (d := 172) fX9_70 k153 rfl r153_35 dX9_hub_114 ?_
        refine a_iload_n dX9_hub_117 rfl rfl ?_
        refine a_ild k172 n172 (by omega) (by omega) dX9_hub_118 ?_
        refine a_icmp_le (tgt := 124) dX9_hub_119 (by decide) (inR_gN _ _ _) (inR_gN _ _ _) (fun c119 => ?_) (fun c119 => ?_)
        · refine a_iinc (y := s + 1) (ls' := [(3, ai (s + 1)), (2, ai best), (0, ar 153), (1, ai what)]) dX9_hub_124 rfl rfl (Nat.le_of_ble_eq_true rfl) rfl ?_
          refine a_goto (tgt := 89) dX9_hub_127 (by decide) ?_
          have e : hbF E s best = best := by unfold hbF; grind
          rw [show itr (hbF E) (n + 1) s best = itr (hbF E) n (s + 1) (hbF E s best) from rfl, e]
          exact a_keep (by simp) (ih (s + 1) (best) (by omega) (by omega) (by omega) (by omega) (by omega))
        · refine a_iload_n dX9_hub_122 rfl rfl ?_
          refine a_istore_n (ls' := [(2, ai s), (3, ai s), (0, ar 153), (1, ai what)]) dX9_hub_123 rfl (Nat.le_of_ble_eq_true rfl) rfl ?_
          refine a_iinc (y := s + 1) (ls' := [(3, ai (s + 1)), (2, ai s), (0, ar 153), (1, ai what)]) dX9_hub_124 rfl rfl (Nat.le_of_ble_eq_true rfl) rfl ?_
          refine a_goto (tgt := 89) dX9_hub_127 (by decide) ?_
          have e : hbF E s best = s := by unfold hbF; grind
          rw [show itr (hbF E) (n + 1) s best = itr (hbF E) n (s + 1) (hbF E s best) from rfl, e]
          exact a_keep (by simp) (ih (s + 1) (s) (by omega) (by omega) (by omega) (by omega) (by omega))
      · refine a_iconst dX9_hub_109 ?_
        refine a_goto (tgt := 119) dX9_hub_110 (by decide) ?_
        refine a_icmp_le (tgt := 124) dX9_hub_119 (by decide) (inR_gN _ _ _) (inR_of (by omega) (by omega)) (fun c119 => ?_) (fun c119 => ?_)
        · refine a_iinc (y := s + 1) (ls' := [(3, ai (s + 1)), (2, ai best), (0, ar 153), (1, ai what)]) dX9_hub_124 rfl rfl (Nat.le_of_ble_eq_true rfl) rfl ?_
          refine a_goto (tgt := 89) dX9_hub_127 (by decide) ?_
          have e : hbF E s best = best := by unfold hbF; grind
          rw [show itr (hbF E) (n + 1) s best = itr (hbF E) n (s + 1) (hbF E s best) from rfl, e]
          exact a_keep (by simp) (ih (s + 1) (best) (by omega) (by omega) (by omega) (by omega) (by omega))
        · refine a_iload_n dX9_hub_122 rfl rfl ?_
          refine a_istore_n (ls' := [(2, ai s), (3, ai s), (0, ar 153), (1, ai what)]) dX9_hub_123 rfl (Nat.le_of_ble_eq_true rfl) rfl ?_
          refine a_iinc (y := s + 1) (ls' := [(3, ai (s + 1)), (2, ai s), (0, ar 153), (1, ai what)]) dX9_hub_124 rfl rfl (Nat.le_of_ble_eq_true rfl) rfl ?_
          refine a_goto (tgt := 89) dX9_hub_127 (by decide) ?_
          have e : hbF E s best = s := by unfold hbF; grind
          rw [show itr (hbF E) (n + 1) s best = itr (hbF E) n (s + 1) (hbF E s best) from rfl, e]
          exact a_keep (by simp) (ih (s + 1) (s) (by omega) (by omega) (by omega) (by omega) (by omega))

set_option maxRecDepth 20000 in
theorem t_hub_z (σ : Sto) (what V : Int) (hx : ∀ u : Sto, Fr pQ σ u → TOK u → Rq (lkN σ) u → EnIs u (fun _ => 0) → RunA mX9_hub (qQ σ V) 41 [(0, ar 153), (1, ai what)] [] u) : ∀ (n : Nat) (s : Int) (u : Sto), 0 ≤ s → s ≤ 10 → n = (10 - s).toNat → Fr pQ σ u → TOK u → Rq (lkN σ) u → (∀ a : Int, 0 ≤ a → a < s → gN u 172 a = 0) → RunA mX9_hub (qQ σ V) 22 [(2, ai s), (0, ar 153), (1, ai what)] [] u := by
  intro n
  induction n with
  | zero =>
    intro s u h0 h5 hn hFu hTu hRu hZ
    refine a_iload_n dX9_hub_22 rfl rfl ?_
    refine a_bipush (x := 10) dX9_hub_23 (by decide) ?_
    refine a_icmp_ge (tgt := 41) dX9_hub_25 (by decide) (inR_of (by omega) (by omega)) (inR_of (by omega) (by omega)) (fun c25 => ?_) (fun c25 => ?_)
    · exact a_keep (by simp) (hx u hFu hTu hRu (fun a q0 q1 => hZ a q0 (by omega)))
    · exfalso; omega
  | succ n ih =>
    intro s u h0 h5 hn hFu hTu hRu hZ
    refine a_iload_n dX9_hub_22 rfl rfl ?_
    refine a_bipush (x := 10) dX9_hub_23 (by decide) ?_
    refine a_icmp_ge (tgt := 41) dX9_hub_25 (by decide) (inR_of (by omega) (by omega)) (inR_of (by omega) (by omega)) (fun c25 => ?_) (fun c25 => ?_)
    · exfalso; omega
    · refine a_aload_n dX9_hub_28 rfl rfl ?_
      refine a_getF (d := 172) fX9_70 k153 rfl r153_35 dX9_hub_29 ?_
      refine a_iload_n dX9_hub_32 rfl rfl ?_
      refine a_iconst dX9_hub_33 ?_
      refine a_ist k172 n172 (by omega) (by omega) dX9_hub_34 ?_
      refine a_iinc (y := s + 1) (ls' := [(2, ai (s + 1)), (0, ar 153), (1, ai what)]) dX9_hub_35 rfl rfl (Nat.le_of_ble_eq_true rfl) rfl ?_
      refine a_goto (tgt := 22) dX9_hub_38 (by decide) ?_
      have hF1 : Fr pEn u (sN u 172 s 0) := Fr.rfl.sN (by unfold pEn; omega)
      have r1 : Rd u (sN u 172 s 0) := hF1.Rd (fun c j q => by unfold pEn at q; omega)
      exact a_keep (by simp) (ih (s + 1) (sN u 172 s 0) (by omega) (by omega) (by omega) (hFu.trans (hF1.mono (fun c j q => by unfold pEn at q; unfold pQ; omega))) (r1.T hTu) (hRu.trans r1.q) (fun a q0 q1 => by rw [gN_sN]; by_cases e : a = s; rw [if_pos ⟨rfl, e⟩]; rfl; rw [if_neg (by omega)]; exact hZ a q0 (by omega)))

set_option maxRecDepth 20000 in
theorem t_hub (σ : Sto) (what : Int) (hwhat : inR what) (hW : WOK σ) (hT : TOK σ) : MetA mX9_hub [ar 153, ai what] σ (qQ σ (hubF σ what)) := by
  have hS := hW.2.1
  have hR := hW.1
  have hTr := hW.2.2.1
  refine a_entry (by decide) (Nat.le_of_ble_eq_true rfl) ?_
  refine a_aload_n dX9_hub_0 rfl rfl ?_
  refine a_iconst dX9_hub_1 ?_
  refine a_putI (J := 0) fX9_85 k153 rfl rfl rfl dX9_hub_2 ?_
  refine a_iload_n dX9_hub_5 rfl rfl ?_
  refine a_if_lt (tgt := 14) dX9_hub_6 (by decide) hwhat (fun c6 => ?_) (fun c6 => ?_)
  · refine a_iconst dX9_hub_14 ?_
    exact a_iret rfl ⟨by unfold hubF; grind, th_F σ, th_T hT⟩ dX9_hub_15
  · refine a_iload_n dX9_hub_9 rfl rfl ?_
    refine a_iconst dX9_hub_10 ?_
    refine a_icmp_le (tgt := 16) dX9_hub_11 (by decide) hwhat (inR_of (by omega) (by omega)) (fun c11 => ?_) (fun c11 => ?_)
    · refine a_aload_n dX9_hub_16 rfl rfl ?_
      refine a_callV (c := 153) (as := []) (rest := []) (t_looksNow (sN σ 153 0 0) (Q_W (th_F σ) hW) (th_T hT)) mvX9_looksNow lX9_290 k153 (by decide) rfl rfl rfl rfl (Nat.le_of_ble_eq_true rfl) (Nat.le_of_ble_eq_true rfl) (Nat.le_of_ble_eq_true rfl) dX9_hub_17 (fun u hu => ?_)
      obtain ⟨hFu, hTu, hRu⟩ := lk_fin hW (th_F σ) (by omega) (by omega) hu.2
      have hWu := Q_W hFu hW
      refine a_iconst dX9_hub_20 ?_
      refine a_istore_n (ls' := [(2, ai 0), (0, ar 153), (1, ai what)]) dX9_hub_21 rfl (Nat.le_of_ble_eq_true rfl) rfl ?_
      refine a_keep (ls' := [(2, ai 0), (0, ar 153), (1, ai what)]) (by simp) ?_
      refine t_hub_z σ what _ (fun y a1 a2 a3 a4 => ?_) 10 0 u (by omega) (by omega) (by omega) hFu hTu hRu (fun a q0 q1 => by omega)
      refine a_iconst dX9_hub_41 ?_
      refine a_istore_n (ls' := [(2, ai 0), (0, ar 153), (1, ai what)]) dX9_hub_42 rfl (Nat.le_of_ble_eq_true rfl) rfl ?_
      refine a_keep (ls' := [(2, ai 0), (0, ar 153), (1, ai what)]) (by simp) ?_
      refine t_hub_s σ hW what _ (hubE σ) (fun z b1 b2 b3 b4 => ?_) (gN σ 155 0).toNat 0 y (fun _ => 0) 0 (by omega) (by omega) (by omega) a1 a2 a3 a4 (fun a q0 q1 => by show 0 ≤ (0 : Int) ∧ (0 : Int) ≤ 0; omega) (by omega) rfl
      refine a_bipush (x := (-2)) dX9_hub_84 (by decide) ?_
      refine a_istore_n (ls' := [(2, ai (-2)), (0, ar 153), (1, ai what)]) dX9_hub_86 rfl (Nat.le_of_ble_eq_true rfl) rfl ?_
      refine a_iconst dX9_hub_87 ?_
      refine a_istore_n (ls' := [(3, ai 0), (2, ai (-2)), (0, ar 153), (1, ai what)]) dX9_hub_88 rfl (Nat.le_of_ble_eq_true rfl) rfl ?_
      rw [show hubF σ what = hubR (hubE σ) (itr (hbF (hubE σ)) (gN σ 155 0).toNat 0 (-2)) what from by unfold hubF; rw [if_neg (by omega)]]
      exact a_keep (by simp) (t_hub_b σ z hW b1 b2 (hubE σ) b3 what (by omega) (by omega) _ 0 (-2) (by omega) (by omega) (by omega) (Or.inl rfl) (by omega))
    · refine a_iconst dX9_hub_14 ?_
      exact a_iret rfl ⟨by unfold hubF; grind, th_F σ, th_T hT⟩ dX9_hub_15

