set_option maxRecDepth 20000 in
theorem t_pas_l (σ ω : Sto) (hW : WOK σ) (hFω : Fr pQ σ ω) (hTω : TOK ω) (hRω : Rq (lkN σ) ω) (s t : Int) (hs0 : 0 ≤ s) (hs1 : s < 10) (ht0 : 0 ≤ t) (ht1 : t < 10) (i : Int) (hi0 : 0 ≤ i) (hi1 : i < (pfK σ s t).length) (hCω : CdIs ω (pfL σ s t)) (hKω : KpIs ω (pfK σ s t)) (hRo : RoIs ω (lgL σ s t (kx σ s t i))) (hV : planAsF σ s t i = (lgL σ s t (kx σ s t i)).length) : ∀ (n : Nat) (l : Int) (τ : Sto), 0 ≤ l → l ≤ (lgL σ s t (kx σ s t i)).length → n = ((lgL σ s t (kx σ s t i)).length - l).toNat → Fr (fun c j => c = 173 ∨ c = 174 ∨ (c = 153 ∧ j = 38)) ω τ → gN τ 153 38 = (lgL σ s t (kx σ s t i)).length → (∀ k : Int, 0 ≤ k → k < l → gN τ 173 k = (lg (lgL σ s t (kx σ s t i)) k).1 ∧ gN τ 174 k = (lg (lgL σ s t (kx σ s t i)) k).2) → RunA mX9_planAs (fun r u => r = some (ai (planAsF σ s t i)) ∧ PsPost σ u s t i) 73 [(4, ai l), (0, ar 153), (1, ai s), (2, ai t), (3, ai i)] [] τ := by
  have hR := hW.1
  have hok := pf_ok hW hs0 hs1 ht0 ht1
  have bx := kx_ok hW hs0 hs1 ht0 ht1 hi0 hi1
  have bn : cdOK (cd (pfL σ s t) (kx σ s t i)) := cd_ok hok.2.1 bx.1 bx.2
  unfold cdOK at bn
  have hlk9 := lg_ok hW bx.1 bx.2
  have h9 := hlk9.1
  have bL := hok.1
  have bK := hok.2.2.1
  intro n
  induction n with
  | zero =>
    intro l τ h0 h5 hn hG h38 hD
    refine a_iload dX9_planAs_73 rfl ?_
    refine a_aload_n dX9_planAs_75 rfl rfl ?_
    refine a_getI (J := 38) fX9_186 k153 rfl rfl dX9_planAs_76 ?_
    refine a_topI (y := ((lgL σ s t (kx σ s t i)).length : Int)) h38 ?_
    refine a_icmp_ge (tgt := 116) dX9_planAs_79 (by decide) (inR_of (by omega) (by omega)) (inR_of (by omega) (by omega)) (fun c79 => ?_) (fun c79 => ?_)
    · refine a_aload_n dX9_planAs_116 rfl rfl ?_
      refine a_getI (J := 38) fX9_186 k153 rfl rfl dX9_planAs_117 ?_
      refine a_topI (y := ((lgL σ s t (kx σ s t i)).length : Int)) h38 ?_
      exact a_iret rfl ⟨by rw [hV], by unfold PsPost; rw [if_pos (by omega)]; exact ⟨ω, hFω, hTω, hG, h38, fun k q0 q1 => hD k q0 (by omega)⟩⟩ dX9_planAs_120
    · exfalso; omega
  | succ n ih =>
    intro l τ h0 h5 hn hG h38 hD
    refine a_iload dX9_planAs_73 rfl ?_
    refine a_aload_n dX9_planAs_75 rfl rfl ?_
    refine a_getI (J := 38) fX9_186 k153 rfl rfl dX9_planAs_76 ?_
    refine a_topI (y := ((lgL σ s t (kx σ s t i)).length : Int)) h38 ?_
    refine a_icmp_ge (tgt := 116) dX9_planAs_79 (by decide) (inR_of (by omega) (by omega)) (inR_of (by omega) (by omega)) (fun c79 => ?_) (fun c79 => ?_)
    · exfalso; omega
    · have ra := hRo.at (l := l) (by omega) (by omega)
      have qa := hlk9.2 _ ra.2.2
      unfold lgOK at qa
      refine a_aload_n dX9_planAs_82 rfl rfl ?_
      refine a_getF (d := 173) fX9_73 k153 rfl r153_36 dX9_planAs_83 ?_
      refine a_iload dX9_planAs_86 rfl ?_
      refine a_aload_n dX9_planAs_88 rfl rfl ?_
      refine a_getF (d := 170) fX9_64 k153 rfl r153_33 dX9_planAs_89 ?_
      refine a_iload dX9_planAs_92 rfl ?_
      refine a_ild k170 n170 (by omega) (by omega) dX9_planAs_94 ?_
      refine a_topI (y := (lg (lgL σ s t (kx σ s t i)) l).1) ((hG.1 170 _ (by omega)).trans ra.1) ?_
      refine a_ist k173 n173 (by omega) (by omega) dX9_planAs_95 ?_
      refine a_aload_n dX9_planAs_96 rfl rfl ?_
      refine a_getF (d := 174) fX9_76 k153 rfl r153_37 dX9_planAs_97 ?_
      refine a_iload dX9_planAs_100 rfl ?_
      refine a_aload_n dX9_planAs_102 rfl rfl ?_
      refine a_getF (d := 171) fX9_67 k153 rfl r153_34 dX9_planAs_103 ?_
      refine a_iload dX9_planAs_106 rfl ?_
      refine a_ild k171 n171 (by omega) (by omega) dX9_planAs_108 ?_
      refine a_topI (y := (lg (lgL σ s t (kx σ s t i)) l).2) (by rw [gN_sN, if_neg (by omega)]; exact (hG.1 171 _ (by omega)).trans ra.2.1) ?_
      refine a_ist k174 n174 (by omega) (by omega) dX9_planAs_109 ?_
      refine a_iinc (y := l + 1) (ls' := [(4, ai (l + 1)), (0, ar 153), (1, ai s), (2, ai t), (3, ai i)]) dX9_planAs_110 rfl rfl (Nat.le_of_ble_eq_true rfl) rfl ?_
      refine a_goto (tgt := 73) dX9_planAs_113 (by decide) ?_
      refine a_keep (by simp) (ih (l + 1) (sN (sN τ 173 l ((lg (lgL σ s t (kx σ s t i)) l).1)) 174 l ((lg (lgL σ s t (kx σ s t i)) l).2)) (by omega) (by omega) (by omega) ((hG.sN (by omega)).sN (by omega)) (by rw [gN_sN, if_neg (by omega), gN_sN, if_neg (by omega)]; exact h38) (fun k q0 q1 => ?_))
      rw [gN_sN, if_neg (by omega), gN_sN, gN_sN]
      by_cases e : k = l
      · rw [e, if_pos ⟨rfl, rfl⟩, if_pos ⟨rfl, rfl⟩, nrm_of (inR_of (by omega) (by omega)), nrm_of (inR_of (by omega) (by omega))]; exact ⟨rfl, rfl⟩
      · rw [if_neg (by omega), if_neg (by omega), gN_sN, if_neg (by omega)]; exact hD k q0 (by omega)

set_option maxRecDepth 20000 in
theorem t_planAs (σ : Sto) (s t i : Int) (hs : inR s) (ht : inR t) (hi : inR i) (hW : WOK σ) (hT : TOK σ) : MetA mX9_planAs [ar 153, ai s, ai t, ai i] σ (fun r u => r = some (ai (planAsF σ s t i)) ∧ PsPost σ u s t i) := by
  have hS := hW.2.1
  have hR := hW.1
  refine a_entry (by decide) (Nat.le_of_ble_eq_true rfl) ?_
  refine a_aload_n dX9_planAs_0 rfl rfl ?_
  refine a_iconst dX9_planAs_1 ?_
  refine a_putI (J := 0) fX9_85 k153 rfl rfl rfl dX9_planAs_2 ?_
  refine a_aload_n dX9_planAs_5 rfl rfl ?_
  refine a_iload_n dX9_planAs_6 rfl rfl ?_
  refine a_iload_n dX9_planAs_7 rfl rfl ?_
  refine a_cI (c := 153) (as := [ai s, ai t]) (rest := []) (t_areTwo (sN σ 153 0 0) s t hs ht) mvX9_areTwo lX9_287 k153 (by decide) rfl rfl rfl rfl (Nat.le_of_ble_eq_true rfl) (Nat.le_of_ble_eq_true rfl) (Nat.le_of_ble_eq_true rfl) dX9_planAs_8 ?_
  refine a_topI (y := if two σ s t then 1 else 0) (by simp only [th155]) ?_
  refine a_ifb_eq (tgt := 18) dX9_planAs_11 (by decide) (fun c11 => ?_) (fun c11 => ?_)
  · refine a_iconst dX9_planAs_18 ?_
    exact a_iret rfl ⟨by unfold planAsF; grind, by unfold PsPost; rw [if_neg (by unfold planAsF; grind)]; exact ⟨th_F σ, th_T hT⟩⟩ dX9_planAs_19
  · refine a_iload_n dX9_planAs_14 rfl rfl ?_
    refine a_if_ge (tgt := 20) dX9_planAs_15 (by decide) hi (fun c15 => ?_) (fun c15 => ?_)
    · refine a_aload_n dX9_planAs_20 rfl rfl ?_
      refine a_callV (c := 153) (as := []) (rest := []) (t_looksNow (sN σ 153 0 0) (Q_W (th_F σ) hW) (th_T hT)) mvX9_looksNow lX9_290 k153 (by decide) rfl rfl rfl rfl (Nat.le_of_ble_eq_true rfl) (Nat.le_of_ble_eq_true rfl) (Nat.le_of_ble_eq_true rfl) dX9_planAs_21 (fun u hu => ?_)
      obtain ⟨hFu, hTu, hRu⟩ := lk_fin hW (th_F σ) (by omega) (by omega) hu.2
      have hWu := Q_W hFu hW
      refine a_aload_n dX9_planAs_24 rfl rfl ?_
      refine a_iload_n dX9_planAs_25 rfl rfl ?_
      refine a_iload_n dX9_planAs_26 rfl rfl ?_
      refine a_callV (c := 153) (as := [ai s, ai t]) (rest := []) (t_laysProfile u s t hWu hTu (by omega) (by omega) (by omega) (by omega)) mvX9_laysProfile lX9_293 k153 (by decide) rfl rfl rfl rfl (Nat.le_of_ble_eq_true rfl) (Nat.le_of_ble_eq_true rfl) (Nat.le_of_ble_eq_true rfl) dX9_planAs_27 (fun v hv => ?_)
      obtain ⟨hFv, hTv, hRv, hCv, hKv⟩ := pr_fin hFu hTu hRu hv.2
      have hok := pf_ok hW (s := s) (t := t) (by omega) (by omega) (by omega) (by omega)
      have k30 : gN v 153 30 = (pfK σ s t).length := hKv.1
      have hWv := Q_W hFv hW
      refine a_iload_n dX9_planAs_30 rfl rfl ?_
      refine a_aload_n dX9_planAs_31 rfl rfl ?_
      refine a_getI (J := 30) fX9_278 k153 rfl rfl dX9_planAs_32 ?_
      refine a_icmp_lt (tgt := 41) dX9_planAs_35 (by decide) hi (inR_gN _ _ _) (fun c35 => ?_) (fun c35 => ?_)
      · have bk : gN v 167 (i) = kx σ s t (i) ∧ kx σ s t (i) ∈ pfK σ s t := hKv.at (k := i) (by omega) (by omega)
        have bx : 0 ≤ kx σ s t (i) ∧ kx σ s t (i) < (pfL σ s t).length := hok.2.2.2 _ bk.2
        have ec := hCv.at bx.1 bx.2
        have bc : cdOK (cd (pfL σ s t) (kx σ s t (i))) := cd_ok hok.2.1 bx.1 bx.2
        unfold cdOK at bc
        have bL := hok.1
        refine a_aload_n dX9_planAs_41 rfl rfl ?_
        refine a_iload_n dX9_planAs_42 rfl rfl ?_
        refine a_iload_n dX9_planAs_43 rfl rfl ?_
        refine a_aload_n dX9_planAs_44 rfl rfl ?_
        refine a_getF (d := 167) fX9_54 k153 rfl r153_29 dX9_planAs_45 ?_
        refine a_iload_n dX9_planAs_48 rfl rfl ?_
        refine a_ild k167 n167 (by omega) (by omega) dX9_planAs_49 ?_
        refine a_topI (y := kx σ s t i) bk.1 ?_
        refine a_callV (c := 153) (as := [ai s, ai t, ai (kx σ s t i)]) (rest := []) (t_unfolds v hWv hTv s t (kx σ s t i) (pfL σ s t) hCv hok.1 hok.2.1 bx.1 bx.2 (by omega) (by omega) (by omega) (by omega) (unf_Rq hRv (pf_unf hW bx.1 bx.2))) mvX9_unfolds lX9_299 k153 (by decide) rfl rfl rfl rfl (Nat.le_of_ble_eq_true rfl) (Nat.le_of_ble_eq_true rfl) (Nat.le_of_ble_eq_true rfl) dX9_planAs_50 (fun ω hω => ?_)
        obtain ⟨hFω, hTω, hRω, hRo⟩ := un_fin hW hFv hTv hRv bx.1 bx.2 hω.2
        have hCω := pUn_Cd hω.2.1 hCv
        have hKω := pUn_Kp hω.2.1 hKv
        have hWω := Q_W hFω hW
        have hlk := lg_ok hW bx.1 bx.2
        have bn : cdOK (cd (pfL σ s t) (kx σ s t i)) := cd_ok hok.2.1 bx.1 bx.2
        unfold cdOK at bn
        have ecw := hCω.at bx.1 bx.2
        have bkw : gN ω 167 i = kx σ s t i ∧ kx σ s t i ∈ pfK σ s t := hKω.at (k := i) (by omega) (by omega)
        have h9 := hlk.1
        refine a_aload_n dX9_planAs_53 rfl rfl ?_
        refine a_aload_n dX9_planAs_54 rfl rfl ?_
        refine a_getF (d := 166) fX9_51 k153 rfl r153_27 dX9_planAs_55 ?_
        refine a_aload_n dX9_planAs_58 rfl rfl ?_
        refine a_getF (d := 167) fX9_54 k153 rfl r153_29 dX9_planAs_59 ?_
        refine a_iload_n dX9_planAs_62 rfl rfl ?_
        refine a_ild k167 n167 (by omega) (by omega) dX9_planAs_63 ?_
        refine a_topI (y := kx σ s t i) bkw.1 ?_
        refine a_ild k166 n166 (by omega) (by omega) dX9_planAs_64 ?_
        refine a_topI (y := (cd (pfL σ s t) (kx σ s t i)).2.2) ecw.2.2 ?_
        refine a_iconst dX9_planAs_65 ?_
        refine a_iadd dX9_planAs_66 ?_
        refine a_topI (y := ((lgL σ s t (kx σ s t i)).length : Int)) (by have h9 := hlk.1; omega) ?_
        refine a_putI (J := 38) fX9_186 k153 rfl rfl rfl dX9_planAs_67 ?_
        refine a_iconst dX9_planAs_70 ?_
        refine a_istore (ls' := [(4, ai 0), (0, ar 153), (1, ai s), (2, ai t), (3, ai i)]) dX9_planAs_71 (Nat.le_of_ble_eq_true rfl) rfl ?_
        exact a_keep (by simp) (t_pas_l σ ω hW hFω hTω hRω s t (by omega) (by omega) (by omega) (by omega) i (by omega) (by omega) hCω hKω hRo (by unfold planAsF; grind) (lgL σ s t (kx σ s t i)).length 0 (sN ω 153 38 ((lgL σ s t (kx σ s t i)).length : Int)) (by omega) (by omega) (by omega) (Fr.rfl.sN (by omega)) (by rw [gN_sN, if_pos ⟨rfl, rfl⟩, nrm_of (inR_of (by omega) (by omega))]) (fun k q0 q1 => by omega))
      · refine a_bipush (x := (-2)) dX9_planAs_38 (by decide) ?_
        exact a_iret rfl ⟨by unfold planAsF; grind, by unfold PsPost; rw [if_neg (by unfold planAsF; grind)]; exact ⟨hFv, hTv⟩⟩ dX9_planAs_40
    · refine a_iconst dX9_planAs_18 ?_
      exact a_iret rfl ⟨by unfold planAsF; grind, by unfold PsPost; rw [if_neg (by unfold planAsF; grind)]; exact ⟨th_F σ, th_T hT⟩⟩ dX9_planAs_19

def otF (σ : Sto) (i n : Int) : Int := n + if gN σ 158 i = 0 then 0 else 1
def othersF (σ : Sto) : Int := itr (otF σ) (gN σ 155 3).toNat 0 0

set_option maxRecDepth 20000 in
theorem t_others_l (σ : Sto) (hW : WOK σ) : ∀ (n : Nat) (i : Int) (c : Int), 0 ≤ i → i ≤ 60 → n = (gN σ 155 3 - i).toNat → RunA mX9_others (qI (itr (otF σ) n i c) σ) 4 [(2, ai i), (1, ai c), (0, ar 153)] [] σ := by
  have hR := hW.1
  intro n
  induction n with
  | zero =>
    intro i c h0 h5 hn
    refine a_iload_n dX9_others_4 rfl rfl ?_
    refine a_aload_n dX9_others_5 rfl rfl ?_
    refine a_cI (c := 153) (as := []) (rest := [ai i]) (t_rides σ) mvX9_rides lX9_198 k153 (by decide) rfl rfl rfl rfl (Nat.le_of_ble_eq_true rfl) (Nat.le_of_ble_eq_true rfl) (Nat.le_of_ble_eq_true rfl) dX9_others_6 ?_
    refine a_icmp_ge (tgt := 35) dX9_others_9 (by decide) (inR_of (by omega) (by omega)) (inR_gN _ _ _) (fun c9 => ?_) (fun c9 => ?_)
    · refine a_iload_n dX9_others_35 rfl rfl ?_
      exact a_iret rfl ⟨rfl, rfl⟩ dX9_others_36
    · exfalso; omega
  | succ n ih =>
    intro i c h0 h5 hn
    refine a_iload_n dX9_others_4 rfl rfl ?_
    refine a_aload_n dX9_others_5 rfl rfl ?_
    refine a_cI (c := 153) (as := []) (rest := [ai i]) (t_rides σ) mvX9_rides lX9_198 k153 (by decide) rfl rfl rfl rfl (Nat.le_of_ble_eq_true rfl) (Nat.le_of_ble_eq_true rfl) (Nat.le_of_ble_eq_true rfl) dX9_others_6 ?_
    refine a_icmp_ge (tgt := 35) dX9_others_9 (by decide) (inR_of (by omega) (by omega)) (inR_gN _ _ _) (fun c9 => ?_) (fun c9 => ?_)
    · exfalso; omega
    · refine a_iload_n dX9_others_12 rfl rfl ?_
      refine a_aload_n dX9_others_13 rfl rfl ?_
      refine a_getF (d := 158) fX9_26 k153 rfl r153_16 dX9_others_14 ?_
      refine a_iload_n dX9_others_17 rfl rfl ?_
      refine a_ild k158 n158 (by omega) (by omega) dX9_others_18 ?_
      refine a_if_ne (tgt := 26) dX9_others_19 (by decide) (inR_gN _ _ _) (fun c19 => ?_) (fun c19 => ?_)
      · refine a_iconst dX9_others_26 ?_
        refine a_iadd dX9_others_27 ?_
        refine a_istore_n (ls' := [(1, ai (c + 1)), (2, ai i), (0, ar 153)]) dX9_others_28 rfl (Nat.le_of_ble_eq_true rfl) rfl ?_
        refine a_iinc (y := i + 1) (ls' := [(2, ai (i + 1)), (1, ai (c + 1)), (0, ar 153)]) dX9_others_29 rfl rfl (Nat.le_of_ble_eq_true rfl) rfl ?_
        refine a_goto (tgt := 4) dX9_others_32 (by decide) ?_
        have e : otF σ i c = c + 1 := by unfold otF; grind
        rw [show itr (otF σ) (n + 1) i c = itr (otF σ) n (i + 1) (otF σ i c) from rfl, e]
        exact a_keep (by simp) (ih (i + 1) (c + 1) (by omega) (by omega) (by omega))
      · refine a_iconst dX9_others_22 ?_
        refine a_goto (tgt := 27) dX9_others_23 (by decide) ?_
        refine a_iadd dX9_others_27 ?_
        refine a_istore_n (ls' := [(1, ai (c + 0)), (2, ai i), (0, ar 153)]) dX9_others_28 rfl (Nat.le_of_ble_eq_true rfl) rfl ?_
        refine a_iinc (y := i + 1) (ls' := [(2, ai (i + 1)), (1, ai (c + 0)), (0, ar 153)]) dX9_others_29 rfl rfl (Nat.le_of_ble_eq_true rfl) rfl ?_
        refine a_goto (tgt := 4) dX9_others_32 (by decide) ?_
        have e : otF σ i c = c + 0 := by unfold otF; grind
        rw [show itr (otF σ) (n + 1) i c = itr (otF σ) n (i + 1) (otF σ i c) from rfl, e]
        exact a_keep (by simp) (ih (i + 1) (c + 0) (by omega) (by omega) (by omega))

set_option maxRecDepth 20000 in
theorem t_others (σ : Sto) (hW : WOK σ) : MetI mX9_others [ar 153] σ (othersF σ) σ := by
  have hR := hW.1
  refine a_entry (by decide) (Nat.le_of_ble_eq_true rfl) ?_
  refine a_iconst dX9_others_0 ?_
  refine a_istore_n (ls' := [(1, ai 0), (0, ar 153)]) dX9_others_1 rfl (Nat.le_of_ble_eq_true rfl) rfl ?_
  refine a_iconst dX9_others_2 ?_
  refine a_istore_n (ls' := [(2, ai 0), (1, ai 0), (0, ar 153)]) dX9_others_3 rfl (Nat.le_of_ble_eq_true rfl) rfl ?_
  exact a_keep (by simp) (t_others_l σ hW _ 0 0 (by omega) (by omega) (by omega))

set_option maxRecDepth 20000 in
theorem t_feed_l (σ : Sto) (a b c d e : Int) (h20 : 0 ≤ gN σ 153 2) (h21 : gN σ 153 2 ≤ 880) : ∀ (n : Nat) (k : Int) (τ : Sto), 0 ≤ k → k ≤ 20 → n = (20 - k).toNat → Fr pFd σ τ → gN τ 153 2 = gN σ 153 2 → (∀ j : Int, gN τ 154 j = if gN σ 153 2 ≤ j ∧ j < gN σ 153 2 + k then fdV a b c d e (j - gN σ 153 2) else gN σ 154 j) → RunA mX9_feed (fun r u => r = some (ai (feedF σ)) ∧ FdPost σ u a b c d e) 20 [(6, ai k), (0, ar 153), (1, ai a), (2, ai b), (3, ai c), (4, ai d), (5, ai e)] [] τ := by
  intro n
  induction n with
  | zero =>
    intro k τ h0 h5 hn hF h2 hD
    refine a_iload dX9_feed_20 rfl ?_
    refine a_bipush (x := 20) dX9_feed_22 (by decide) ?_
    refine a_icmp_ge (tgt := 110) dX9_feed_24 (by decide) (inR_of (by omega) (by omega)) (inR_of (by omega) (by omega)) (fun c24 => ?_) (fun c24 => ?_)
    · refine a_aload_n dX9_feed_110 rfl rfl ?_
      refine a_dup dX9_feed_111 rfl ?_
      refine a_getI (J := 2) fX9_88 k153 rfl rfl dX9_feed_112 ?_
      refine a_topI (y := gN σ 153 2) h2 ?_
      refine a_bipush (x := 20) dX9_feed_115 (by decide) ?_
      refine a_iadd dX9_feed_117 ?_
      refine a_putI (J := 2) fX9_88 k153 rfl rfl rfl dX9_feed_118 ?_
      refine a_aload_n dX9_feed_121 rfl rfl ?_
      refine a_getI (J := 2) fX9_88 k153 rfl rfl dX9_feed_122 ?_
      refine a_topI (y := gN σ 153 2 + 20) (by rw [gN_sN, if_pos ⟨rfl, rfl⟩, nrm_of (inR_of (by omega) (by omega))]) ?_
      exact a_iret rfl ⟨by unfold feedF; rw [if_neg (by omega)], by unfold FdPost; rw [if_neg (by omega)]; exact ⟨hF.sN (by unfold pFd; omega), by rw [gN_sN, if_pos ⟨rfl, rfl⟩, nrm_of (inR_of (by omega) (by omega))], fun j => by rw [gN_sN, if_neg (by omega), hD j, show k = 20 by omega]⟩⟩ dX9_feed_125
    · exfalso; omega
  | succ n ih =>
    intro k τ h0 h5 hn hF h2 hD
    refine a_iload dX9_feed_20 rfl ?_
    refine a_bipush (x := 20) dX9_feed_22 (by decide) ?_
    refine a_icmp_ge (tgt := 110) dX9_feed_24 (by decide) (inR_of (by omega) (by omega)) (inR_of (by omega) (by omega)) (fun c24 => ?_) (fun c24 => ?_)
    · exfalso; omega
    · refine a_iload dX9_feed_27 rfl ?_
      refine a_iconst dX9_feed_29 ?_
      refine a_icmp_ge (tgt := 37) dX9_feed_30 (by decide) (inR_of (by omega) (by omega)) (inR_of (by omega) (by omega)) (fun c30 => ?_) (fun c30 => ?_)
      · refine a_iload dX9_feed_37 rfl ?_
        refine a_bipush (x := 8) dX9_feed_39 (by decide) ?_
        refine a_icmp_ge (tgt := 48) dX9_feed_41 (by decide) (inR_of (by omega) (by omega)) (inR_of (by omega) (by omega)) (fun c41 => ?_) (fun c41 => ?_)
        · refine a_iload dX9_feed_48 rfl ?_
          refine a_bipush (x := 12) dX9_feed_50 (by decide) ?_
          refine a_icmp_ge (tgt := 59) dX9_feed_52 (by decide) (inR_of (by omega) (by omega)) (inR_of (by omega) (by omega)) (fun c52 => ?_) (fun c52 => ?_)
          · refine a_iload dX9_feed_59 rfl ?_
            refine a_bipush (x := 16) dX9_feed_61 (by decide) ?_
            refine a_icmp_ge (tgt := 71) dX9_feed_63 (by decide) (inR_of (by omega) (by omega)) (inR_of (by omega) (by omega)) (fun c63 => ?_) (fun c63 => ?_)
            · refine a_iload dX9_feed_71 rfl ?_
              refine a_istore (ls' := [(7, ai e), (6, ai k), (0, ar 153), (1, ai a), (2, ai b), (3, ai c), (4, ai d), (5, ai e)]) dX9_feed_73 (Nat.le_of_ble_eq_true rfl) rfl ?_
              refine a_aload_n dX9_feed_75 rfl rfl ?_
              refine a_getF (d := 154) fX9_7 k153 rfl r153_1 dX9_feed_76 ?_
              refine a_aload_n dX9_feed_79 rfl rfl ?_
              refine a_getI (J := 2) fX9_88 k153 rfl rfl dX9_feed_80 ?_
              refine a_topI (y := gN σ 153 2) h2 ?_
              refine a_iload dX9_feed_83 rfl ?_
              refine a_iadd dX9_feed_85 ?_
              refine a_iload dX9_feed_86 rfl ?_
              refine a_bipush (x := 24) dX9_feed_88 (by decide) ?_
              refine a_bipush (x := 8) dX9_feed_90 (by decide) ?_
              refine a_iload dX9_feed_92 rfl ?_
              refine a_iconst dX9_feed_94 ?_
              refine a_irem (z := remI k 4) dX9_feed_95 (by decide) (Int32.ofInt_toInt _).symm ?_
              refine a_imul dX9_feed_96 ?_
              refine a_isub dX9_feed_97 ?_
              refine a_ishr (z := shrI e (24 - (8 * (remI k 4)))) dX9_feed_98 (Int32.ofInt_toInt _).symm ?_
              refine a_sipush (x := 255) dX9_feed_99 (by decide) ?_
              refine a_iand (z := andI (shrI e (24 - (8 * (remI k 4)))) 255) dX9_feed_102 (Int32.ofInt_toInt _).symm ?_
              refine a_ist k154 n154 (by omega) (by omega) dX9_feed_103 ?_
              refine a_iinc (y := k + 1) (ls' := [(6, ai (k + 1)), (7, ai e), (0, ar 153), (1, ai a), (2, ai b), (3, ai c), (4, ai d), (5, ai e)]) dX9_feed_104 rfl rfl (Nat.le_of_ble_eq_true rfl) rfl ?_
              refine a_goto (tgt := 20) dX9_feed_107 (by decide) ?_
              refine a_keep (by simp) (ih (k + 1) (sN τ 154 (gN σ 153 2 + k) (andI (shrI e (24 - (8 * (remI k 4)))) 255)) (by omega) (by omega) (by omega) (hF.sN (by unfold pFd; omega)) (by rw [gN_sN, if_neg (by omega)]; exact h2) (fun j => ?_))
              rw [gN_sN]
              by_cases q : j = gN σ 153 2 + k
              · rw [q, if_pos ⟨rfl, rfl⟩, if_pos ⟨by omega, by omega⟩, show gN σ 153 2 + k - gN σ 153 2 = k by omega, nrm_of (show inR (andI _ _) from inR32 _)]; unfold fdV fdS; grind
              · rw [if_neg (by omega), hD j]; grind
            · refine a_iload dX9_feed_66 rfl ?_
              refine a_goto (tgt := 73) dX9_feed_68 (by decide) ?_
              refine a_istore (ls' := [(7, ai d), (6, ai k), (0, ar 153), (1, ai a), (2, ai b), (3, ai c), (4, ai d), (5, ai e)]) dX9_feed_73 (Nat.le_of_ble_eq_true rfl) rfl ?_
              refine a_aload_n dX9_feed_75 rfl rfl ?_
              refine a_getF (d := 154) fX9_7 k153 rfl r153_1 dX9_feed_76 ?_
              refine a_aload_n dX9_feed_79 rfl rfl ?_
              refine a_getI (J := 2) fX9_88 k153 rfl rfl dX9_feed_80 ?_
              refine a_topI (y := gN σ 153 2) h2 ?_
              refine a_iload dX9_feed_83 rfl ?_
              refine a_iadd dX9_feed_85 ?_
              refine a_iload dX9_feed_86 rfl ?_
              refine a_bipush (x := 24) dX9_feed_88 (by decide) ?_
              refine a_bipush (x := 8) dX9_feed_90 (by decide) ?_
              refine a_iload dX9_feed_92 rfl ?_
              refine a_iconst dX9_feed_94 ?_
              refine a_irem (z := remI k 4) dX9_feed_95 (by decide) (Int32.ofInt_toInt _).symm ?_
              refine a_imul dX9_feed_96 ?_
              refine a_isub dX9_feed_97 ?_
              refine a_ishr (z := shrI d (24 - (8 * (remI k 4)))) dX9_feed_98 (Int32.ofInt_toInt _).symm ?_
              refine a_sipush (x := 255) dX9_feed_99 (by decide) ?_
              refine a_iand (z := andI (shrI d (24 - (8 * (remI k 4)))) 255) dX9_feed_102 (Int32.ofInt_toInt _).symm ?_
              refine a_ist k154 n154 (by omega) (by omega) dX9_feed_103 ?_
              refine a_iinc (y := k + 1) (ls' := [(6, ai (k + 1)), (7, ai d), (0, ar 153), (1, ai a), (2, ai b), (3, ai c), (4, ai d), (5, ai e)]) dX9_feed_104 rfl rfl (Nat.le_of_ble_eq_true rfl) rfl ?_
              refine a_goto (tgt := 20) dX9_feed_107 (by decide) ?_
              refine a_keep (by simp) (ih (k + 1) (sN τ 154 (gN σ 153 2 + k) (andI (shrI d (24 - (8 * (remI k 4)))) 255)) (by omega) (by omega) (by omega) (hF.sN (by unfold pFd; omega)) (by rw [gN_sN, if_neg (by omega)]; exact h2) (fun j => ?_))
              rw [gN_sN]
              by_cases q : j = gN σ 153 2 + k
              · rw [q, if_pos ⟨rfl, rfl⟩, if_pos ⟨by omega, by omega⟩, show gN σ 153 2 + k - gN σ 153 2 = k by omega, nrm_of (show inR (andI _ _) from inR32 _)]; unfold fdV fdS; grind
              · rw [if_neg (by omega), hD j]; grind
          · refine a_iload_n dX9_feed_55 rfl rfl ?_
            refine a_goto (tgt := 73) dX9_feed_56 (by decide) ?_
            refine a_istore (ls' := [(7, ai c), (6, ai k), (0, ar 153), (1, ai a), (2, ai b), (3, ai c), (4, ai d), (5, ai e)]) dX9_feed_73 (Nat.le_of_ble_eq_true rfl) rfl ?_
            refine a_aload_n dX9_feed_75 rfl rfl ?_
            refine a_getF (d := 154) fX9_7 k153 rfl r153_1 dX9_feed_76 ?_
            refine a_aload_n dX9_feed_79 rfl rfl ?_
            refine a_getI (J := 2) fX9_88 k153 rfl rfl dX9_feed_80 ?_
            refine a_topI (y := gN σ 153 2) h2 ?_
            refine a_iload dX9_feed_83 rfl ?_
            refine a_iadd dX9_feed_85 ?_
            refine a_iload dX9_feed_86 rfl ?_
            refine a_bipush (x := 24) dX9_feed_88 (by decide) ?_
            refine a_bipush (x := 8) dX9_feed_90 (by decide) ?_
            refine a_iload dX9_feed_92 rfl ?_
            refine a_iconst dX9_feed_94 ?_
            refine a_irem (z := remI k 4) dX9_feed_95 (by decide) (Int32.ofInt_toInt _).symm ?_
            refine a_imul dX9_feed_96 ?_
            refine a_isub dX9_feed_97 ?_
            refine a_ishr (z := shrI c (24 - (8 * (remI k 4)))) dX9_feed_98 (Int32.ofInt_toInt _).symm ?_
            refine a_sipush (x := 255) dX9_feed_99 (by decide) ?_
            refine a_iand (z := andI (shrI c (24 - (8 * (remI k 4)))) 255) dX9_feed_102 (Int32.ofInt_toInt _).symm ?_
            refine a_ist k154 n154 (by omega) (by omega) dX9_feed_103 ?_
            refine a_iinc (y := k + 1) (ls' := [(6, ai (k + 1)), (7, ai c), (0, ar 153), (1, ai a), (2, ai b), (3, ai c), (4, ai d), (5, ai e)]) dX9_feed_104 rfl rfl (Nat.le_of_ble_eq_true rfl) rfl ?_
            refine a_goto (tgt := 20) dX9_feed_107 (by decide) ?_
            refine a_keep (by simp) (ih (k + 1) (sN τ 154 (gN σ 153 2 + k) (andI (shrI c (24 - (8 * (remI k 4)))) 255)) (by omega) (by omega) (by omega) (hF.sN (by unfold pFd; omega)) (by rw [gN_sN, if_neg (by omega)]; exact h2) (fun j => ?_))
            rw [gN_sN]
            by_cases q : j = gN σ 153 2 + k
            · rw [q, if_pos ⟨rfl, rfl⟩, if_pos ⟨by omega, by omega⟩, show gN σ 153 2 + k - gN σ 153 2 = k by omega, nrm_of (show inR (andI _ _) from inR32 _)]; unfold fdV fdS; grind
            · rw [if_neg (by omega), hD j]; grind
        · refine a_iload_n dX9_feed_44 rfl rfl ?_
          refine a_goto (tgt := 73) dX9_feed_45 (by decide) ?_
          refine a_istore (ls' := [(7, ai b), (6, ai k), (0, ar 153), (1, ai a), (2, ai b), (3, ai c), (4, ai d), (5, ai e)]) dX9_feed_73 (Nat.le_of_ble_eq_true rfl) rfl ?_
          refine a_aload_n dX9_feed_75 rfl rfl ?_
          refine a_getF (d := 154) fX9_7 k153 rfl r153_1 dX9_feed_76 ?_
          refine a_aload_n dX9_feed_79 rfl rfl ?_
          refine a_getI (J := 2) fX9_88 k153 rfl rfl dX9_feed_80 ?_
          refine a_topI (y := gN σ 153 2) h2 ?_
          refine a_iload dX9_feed_83 rfl ?_
          refine a_iadd dX9_feed_85 ?_
          refine a_iload dX9_feed_86 rfl ?_
          refine a_bipush (x := 24) dX9_feed_88 (by decide) ?_
          refine a_bipush (x := 8) dX9_feed_90 (by decide) ?_
          refine a_iload dX9_feed_92 rfl ?_
          refine a_iconst dX9_feed_94 ?_
          refine a_irem (z := remI k 4) dX9_feed_95 (by decide) (Int32.ofInt_toInt _).symm ?_
          refine a_imul dX9_feed_96 ?_
          refine a_isub dX9_feed_97 ?_
          refine a_ishr (z := shrI b (24 - (8 * (remI k 4)))) dX9_feed_98 (Int32.ofInt_toInt _).symm ?_
          refine a_sipush (x := 255) dX9_feed_99 (by decide) ?_
          refine a_iand (z := andI (shrI b (24 - (8 * (remI k 4)))) 255) dX9_feed_102 (Int32.ofInt_toInt _).symm ?_
          refine a_ist k154 n154 (by omega) (by omega) dX9_feed_103 ?_
          refine a_iinc (y := k + 1) (ls' := [(6, ai (k + 1)), (7, ai b), (0, ar 153), (1, ai a), (2, ai b), (3, ai c), (4, ai d), (5, ai e)]) dX9_feed_104 rfl rfl (Nat.le_of_ble_eq_true rfl) rfl ?_
          refine a_goto (tgt := 20) dX9_feed_107 (by decide) ?_
          refine a_keep (by simp) (ih (k + 1) (sN τ 154 (gN σ 153 2 + k) (andI (shrI b (24 - (8 * (remI k 4)))) 255)) (by omega) (by omega) (by omega) (hF.sN (by unfold pFd; omega)) (by rw [gN_sN, if_neg (by omega)]; exact h2) (fun j => ?_))
          rw [gN_sN]
          by_cases q : j = gN σ 153 2 + k
          · rw [q, if_pos ⟨rfl, rfl⟩, if_pos ⟨by omega, by omega⟩, show gN σ 153 2 + k - gN σ 153 2 = k by omega, nrm_of (show inR (andI _ _) from inR32 _)]; unfold fdV fdS; grind
          · rw [if_neg (by omega), hD j]; grind
      · refine a_iload_n dX9_feed_33 rfl rfl ?_
        refine a_goto (tgt := 73) dX9_feed_34 (by decide) ?_
        refine a_istore (ls' := [(7, ai a), (6, ai k), (0, ar 153), (1, ai a), (2, ai b), (3, ai c), (4, ai d), (5, ai e)]) dX9_feed_73 (Nat.le_of_ble_eq_true rfl) rfl ?_
        refine a_aload_n dX9_feed_75 rfl rfl ?_
        refine a_getF (d := 154) fX9_7 k153 rfl r153_1 dX9_feed_76 ?_
        refine a_aload_n dX9_feed_79 rfl rfl ?_
        refine a_getI (J := 2) fX9_88 k153 rfl rfl dX9_feed_80 ?_
        refine a_topI (y := gN σ 153 2) h2 ?_
        refine a_iload dX9_feed_83 rfl ?_
        refine a_iadd dX9_feed_85 ?_
        refine a_iload dX9_feed_86 rfl ?_
        refine a_bipush (x := 24) dX9_feed_88 (by decide) ?_
        refine a_bipush (x := 8) dX9_feed_90 (by decide) ?_
        refine a_iload dX9_feed_92 rfl ?_
        refine a_iconst dX9_feed_94 ?_
        refine a_irem (z := remI k 4) dX9_feed_95 (by decide) (Int32.ofInt_toInt _).symm ?_
        refine a_imul dX9_feed_96 ?_
        refine a_isub dX9_feed_97 ?_
        refine a_ishr (z := shrI a (24 - (8 * (remI k 4)))) dX9_feed_98 (Int32.ofInt_toInt _).symm ?_
        refine a_sipush (x := 255) dX9_feed_99 (by decide) ?_
        refine a_iand (z := andI (shrI a (24 - (8 * (remI k 4)))) 255) dX9_feed_102 (Int32.ofInt_toInt _).symm ?_
        refine a_ist k154 n154 (by omega) (by omega) dX9_feed_103 ?_
        refine a_iinc (y := k + 1) (ls' := [(6, ai (k + 1)), (7, ai a), (0, ar 153), (1, ai a), (2, ai b), (3, ai c), (4, ai d), (5, ai e)]) dX9_feed_104 rfl rfl (Nat.le_of_ble_eq_true rfl) rfl ?_
        refine a_goto (tgt := 20) dX9_feed_107 (by decide) ?_
        refine a_keep (by simp) (ih (k + 1) (sN τ 154 (gN σ 153 2 + k) (andI (shrI a (24 - (8 * (remI k 4)))) 255)) (by omega) (by omega) (by omega) (hF.sN (by unfold pFd; omega)) (by rw [gN_sN, if_neg (by omega)]; exact h2) (fun j => ?_))
        rw [gN_sN]
        by_cases q : j = gN σ 153 2 + k
        · rw [q, if_pos ⟨rfl, rfl⟩, if_pos ⟨by omega, by omega⟩, show gN σ 153 2 + k - gN σ 153 2 = k by omega, nrm_of (show inR (andI _ _) from inR32 _)]; unfold fdV fdS; grind
        · rw [if_neg (by omega), hD j]; grind

set_option maxRecDepth 20000 in
theorem t_feed (σ : Sto) (a b c d e : Int) (h20 : 0 ≤ gN σ 153 2) : MetA mX9_feed [ar 153, ai a, ai b, ai c, ai d, ai e] σ (fun r u => r = some (ai (feedF σ)) ∧ FdPost σ u a b c d e) := by
  refine a_entry (by decide) (Nat.le_of_ble_eq_true rfl) ?_
  refine a_aload_n dX9_feed_0 rfl rfl ?_
  refine a_iconst dX9_feed_1 ?_
  refine a_putI (J := 0) fX9_85 k153 rfl rfl rfl dX9_feed_2 ?_
  refine a_aload_n dX9_feed_5 rfl rfl ?_
  refine a_getI (J := 2) fX9_88 k153 rfl rfl dX9_feed_6 ?_
  refine a_topI (y := gN σ 153 2) (by rw [gN_sN, if_neg (by omega)]) ?_
  refine a_sipush (x := 880) dX9_feed_9 (by decide) ?_
  refine a_icmp_le (tgt := 17) dX9_feed_12 (by decide) (inR_gN _ _ _) (inR_of (by omega) (by omega)) (fun c12 => ?_) (fun c12 => ?_)
  · refine a_iconst dX9_feed_17 ?_
    refine a_istore (ls' := [(6, ai 0), (0, ar 153), (1, ai a), (2, ai b), (3, ai c), (4, ai d), (5, ai e)]) dX9_feed_18 (Nat.le_of_ble_eq_true rfl) rfl ?_
    exact a_keep (by simp) (t_feed_l σ a b c d e h20 (by omega) 20 0 (sN σ 153 0 0) (by omega) (by omega) (by omega) (Fr.rfl.sN (by unfold pFd; omega)) (by rw [gN_sN, if_neg (by omega)]) (fun j => by rw [gN_sN, if_neg (by omega), if_neg (by omega)]))
  · refine a_iconst dX9_feed_15 ?_
    exact a_iret rfl ⟨by unfold feedF; rw [if_pos (by omega)], by unfold FdPost; rw [if_pos (by omega)]⟩ dX9_feed_16

set_option maxRecDepth 20000 in
theorem t_fresh_1 (σ : Sto) (hx : ∀ τ : Sto, Fr (fun c _ => c = 156) σ τ → RowIs τ 156 (fun _ => 0) → RunA mX9_freshText (fun r u => r = none ∧ Fr (fun c _ => c = 156) σ u ∧ RowIs u 156 frF) 22 [(0, ar 153)] [] τ) : ∀ (n : Nat) (k : Int) (τ : Sto), 0 ≤ k → k ≤ 415 → n = (415 - k).toNat → Fr (fun c _ => c = 156) σ τ → (∀ j : Int, 0 ≤ j → j < k → gN τ 156 j = 0) → RunA mX9_freshText (fun r u => r = none ∧ Fr (fun c _ => c = 156) σ u ∧ RowIs u 156 frF) 2 [(1, ai k), (0, ar 153)] [] τ := by
  intro n
  induction n with
  | zero =>
    intro k τ h0 h5 hn hF hZ
    refine a_iload_n dX9_freshText_2 rfl rfl ?_
    refine a_sipush (x := 415) dX9_freshText_3 (by decide) ?_
    refine a_icmp_ge (tgt := 22) dX9_freshText_6 (by decide) (inR_of (by omega) (by omega)) (inR_of (by omega) (by omega)) (fun c6 => ?_) (fun c6 => ?_)
    · exact a_keep (by simp) (hx τ hF (fun j q0 q1 => hZ j q0 (by omega)))
    · exfalso; omega
  | succ n ih =>
    intro k τ h0 h5 hn hF hZ
    refine a_iload_n dX9_freshText_2 rfl rfl ?_
    refine a_sipush (x := 415) dX9_freshText_3 (by decide) ?_
    refine a_icmp_ge (tgt := 22) dX9_freshText_6 (by decide) (inR_of (by omega) (by omega)) (inR_of (by omega) (by omega)) (fun c6 => ?_) (fun c6 => ?_)
    · exfalso; omega
    · refine a_aload_n dX9_freshText_9 rfl rfl ?_
      refine a_getF (d := 156) fX9_16 k153 rfl r153_4 dX9_freshText_10 ?_
      refine a_iload_n dX9_freshText_13 rfl rfl ?_
      refine a_iconst dX9_freshText_14 ?_
      refine a_ist k156 n156 (by omega) (by omega) dX9_freshText_15 ?_
      refine a_iinc (y := k + 1) (ls' := [(1, ai (k + 1)), (0, ar 153)]) dX9_freshText_16 rfl rfl (Nat.le_of_ble_eq_true rfl) rfl ?_
      refine a_goto (tgt := 2) dX9_freshText_19 (by decide) ?_
      exact a_keep (by simp) (ih (k + 1) (sN τ 156 k 0) (by omega) (by omega) (by omega) (hF.sN rfl) (fun j q0 q1 => by rw [gN_sN]; by_cases e : j = k; rw [if_pos ⟨rfl, e⟩]; rfl; rw [if_neg (by omega)]; exact hZ j q0 (by omega)))

set_option maxRecDepth 20000 in
theorem t_fresh_2 (σ : Sto) : ∀ (n : Nat) (k : Int) (τ : Sto), 0 ≤ k → k ≤ 100 → n = (100 - k).toNat → Fr (fun c _ => c = 156) σ τ → (∀ j : Int, 0 ≤ j → j < 415 → gN τ 156 j = if j < 15 + k then frF j else 0) → RunA mX9_freshText (fun r u => r = none ∧ Fr (fun c _ => c = 156) σ u ∧ RowIs u 156 frF) 24 [(1, ai k), (0, ar 153)] [] τ := by
  intro n
  induction n with
  | zero =>
    intro k τ h0 h5 hn hF hD
    refine a_iload_n dX9_freshText_24 rfl rfl ?_
    refine a_bipush (x := 100) dX9_freshText_25 (by decide) ?_
    refine a_icmp_ge (tgt := 58) dX9_freshText_27 (by decide) (inR_of (by omega) (by omega)) (inR_of (by omega) (by omega)) (fun c27 => ?_) (fun c27 => ?_)
    · exact a_vret rfl ⟨rfl, hF, fun j q0 q1 => by rw [hD j q0 q1]; unfold frF; grind⟩ dX9_freshText_58
    · exfalso; omega
  | succ n ih =>
    intro k τ h0 h5 hn hF hD
    refine a_iload_n dX9_freshText_24 rfl rfl ?_
    refine a_bipush (x := 100) dX9_freshText_25 (by decide) ?_
    refine a_icmp_ge (tgt := 58) dX9_freshText_27 (by decide) (inR_of (by omega) (by omega)) (inR_of (by omega) (by omega)) (fun c27 => ?_) (fun c27 => ?_)
    · exfalso; omega
    · refine a_aload_n dX9_freshText_30 rfl rfl ?_
      refine a_getF (d := 156) fX9_16 k153 rfl r153_4 dX9_freshText_31 ?_
      refine a_bipush (x := 15) dX9_freshText_34 (by decide) ?_
      refine a_iload_n dX9_freshText_36 rfl rfl ?_
      refine a_iadd dX9_freshText_37 ?_
      refine a_iload_n dX9_freshText_38 rfl rfl ?_
      refine a_bipush (x := 11) dX9_freshText_39 (by decide) ?_
      refine a_irem (z := remI k 11) dX9_freshText_41 (by decide) (Int32.ofInt_toInt _).symm ?_
      refine a_if_ne (tgt := 49) dX9_freshText_42 (by decide) (inR32 _) (fun c42 => ?_) (fun c42 => ?_)
      · refine a_ldc (x := 1000000) cX9_175 (by decide) dX9_freshText_49 ?_
        refine a_ist k156 n156 (by omega) (by omega) dX9_freshText_51 ?_
        refine a_iinc (y := k + 1) (ls' := [(1, ai (k + 1)), (0, ar 153)]) dX9_freshText_52 rfl rfl (Nat.le_of_ble_eq_true rfl) rfl ?_
        refine a_goto (tgt := 24) dX9_freshText_55 (by decide) ?_
        exact a_keep (by simp) (ih (k + 1) (sN τ 156 (15 + k) 1000000) (by omega) (by omega) (by omega) (hF.sN rfl) (fun j q0 q1 => by rw [gN_sN]; by_cases e : j = 15 + k; rw [if_pos ⟨rfl, e⟩, if_pos (by omega), nrm_of (inR_of (by omega) (by omega))]; unfold frF; rw [if_pos (by omega), show j - 15 = k by omega]; grind; rw [if_neg (by omega), hD j q0 q1]; grind))
      · refine a_iconst dX9_freshText_45 ?_
        refine a_goto (tgt := 51) dX9_freshText_46 (by decide) ?_
        refine a_ist k156 n156 (by omega) (by omega) dX9_freshText_51 ?_
        refine a_iinc (y := k + 1) (ls' := [(1, ai (k + 1)), (0, ar 153)]) dX9_freshText_52 rfl rfl (Nat.le_of_ble_eq_true rfl) rfl ?_
        refine a_goto (tgt := 24) dX9_freshText_55 (by decide) ?_
        exact a_keep (by simp) (ih (k + 1) (sN τ 156 (15 + k) 0) (by omega) (by omega) (by omega) (hF.sN rfl) (fun j q0 q1 => by rw [gN_sN]; by_cases e : j = 15 + k; rw [if_pos ⟨rfl, e⟩, if_pos (by omega), nrm_of (inR_of (by omega) (by omega))]; unfold frF; rw [if_pos (by omega), show j - 15 = k by omega]; grind; rw [if_neg (by omega), hD j q0 q1]; grind))

set_option maxRecDepth 20000 in
theorem t_freshText (σ : Sto) : MetA mX9_freshText [ar 153] σ (fun r u => r = none ∧ Fr (fun c _ => c = 156) σ u ∧ RowIs u 156 frF) := by
  refine a_entry (by decide) (Nat.le_of_ble_eq_true rfl) ?_
  refine a_iconst dX9_freshText_0 ?_
  refine a_istore_n (ls' := [(1, ai 0), (0, ar 153)]) dX9_freshText_1 rfl (Nat.le_of_ble_eq_true rfl) rfl ?_
  refine a_keep (ls' := [(1, ai 0), (0, ar 153)]) (by simp) ?_
  refine t_fresh_1 σ (fun τ hF hZ => ?_) 415 0 σ (by omega) (by omega) (by omega) Fr.rfl (fun j q0 q1 => by omega)
  refine a_iconst dX9_freshText_22 ?_
  refine a_istore_n (ls' := [(1, ai 0), (0, ar 153)]) dX9_freshText_23 rfl (Nat.le_of_ble_eq_true rfl) rfl ?_
  exact a_keep (by simp) (t_fresh_2 σ 100 0 τ (by omega) (by omega) (by omega) hF (fun j q0 q1 => by rw [hZ j q0 q1]; unfold frF; grind))

