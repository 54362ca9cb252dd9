set_option maxRecDepth 20000 in
theorem t_keptBy_l (v : Sto) (L : List Cd) (K : List Int) (hCv : CdIs v L) (hKv : KpIs v K) (hL : (L.length : Int) ≤ 300) (hKl : (K.length : Int) ≤ 300) (hK : ∀ x ∈ K, 0 ≤ x ∧ x < L.length) (k i : Int) (hk : inR k) : ∀ (n : Nat) (j : Int) (left : Int), 0 ≤ j → j ≤ K.length → n = (K.length - j).toNat → 0 ≤ left → left < 2147483648 → RunA mX9_keptBy (qI (((K.drop j.toNat).filter (byP L k)).getD left.toNat (-1)) v) 5 [(4, ai j), (3, ai left), (0, ar 153), (1, ai k), (2, ai i)] [] v := by
  have k30 := hKv.1
  have k28 := hCv.1
  intro n
  induction n with
  | zero =>
    intro j left h0 h5 hn hl0 hl1
    refine a_iload dX9_keptBy_5 rfl ?_
    refine a_aload_n dX9_keptBy_7 rfl rfl ?_
    refine a_getI (J := 30) fX9_278 k153 rfl rfl dX9_keptBy_8 ?_
    refine a_icmp_ge (tgt := 54) dX9_keptBy_11 (by decide) (inR_of (by omega) (by omega)) (inR_gN _ _ _) (fun c11 => ?_) (fun c11 => ?_)
    · refine a_iconst dX9_keptBy_54 ?_
      exact a_iret rfl ⟨by rw [List.drop_eq_nil_of_le (by omega)]; rfl, rfl⟩ dX9_keptBy_55
    · exfalso; omega
  | succ n ih =>
    intro j left h0 h5 hn hl0 hl1
    refine a_iload dX9_keptBy_5 rfl ?_
    refine a_aload_n dX9_keptBy_7 rfl rfl ?_
    refine a_getI (J := 30) fX9_278 k153 rfl rfl dX9_keptBy_8 ?_
    refine a_icmp_ge (tgt := 54) dX9_keptBy_11 (by decide) (inR_of (by omega) (by omega)) (inR_gN _ _ _) (fun c11 => ?_) (fun c11 => ?_)
    · exfalso; omega
    · have bk := hKv.at (k := j) (by omega) (by omega)
      have bx := hK _ bk.2
      have ec := hCv.at bx.1 bx.2
      refine a_aload_n dX9_keptBy_14 rfl rfl ?_
      refine a_getF (d := 166) fX9_51 k153 rfl r153_27 dX9_keptBy_15 ?_
      refine a_aload_n dX9_keptBy_18 rfl rfl ?_
      refine a_getF (d := 167) fX9_54 k153 rfl r153_29 dX9_keptBy_19 ?_
      refine a_iload dX9_keptBy_22 rfl ?_
      refine a_ild k167 n167 (by omega) (by omega) dX9_keptBy_24 ?_
      refine a_topI (y := K.getD j.toNat 0) bk.1 ?_
      refine a_ild k166 n166 (by omega) (by omega) dX9_keptBy_25 ?_
      refine a_topI (y := (cd L (K.getD j.toNat 0)).2.2) ec.2.2 ?_
      refine a_iload_n dX9_keptBy_26 rfl rfl ?_
      refine a_icmp_le (tgt := 33) dX9_keptBy_27 (by decide) (ec.2.2 ▸ inR_gN _ _ _) hk (fun c27 => ?_) (fun c27 => ?_)
      · refine a_iload_n dX9_keptBy_33 rfl rfl ?_
        refine a_if_ne (tgt := 45) dX9_keptBy_34 (by decide) (inR_of (by omega) (by omega)) (fun c34 => ?_) (fun c34 => ?_)
        · refine a_iinc (y := left + (-1)) (ls' := [(3, ai (left + (-1))), (4, ai j), (0, ar 153), (1, ai k), (2, ai i)]) dX9_keptBy_45 rfl rfl (Nat.le_of_ble_eq_true rfl) rfl ?_
          refine a_iinc (y := j + 1) (ls' := [(4, ai (j + 1)), (3, ai (left + (-1))), (0, ar 153), (1, ai k), (2, ai i)]) dX9_keptBy_48 rfl rfl (Nat.le_of_ble_eq_true rfl) rfl ?_
          refine a_goto (tgt := 5) dX9_keptBy_51 (by decide) ?_
          rw [drop_at h0 (by omega), List.filter_cons, if_pos (show byP L k _ = true from decide_eq_true (by omega)), show left.toNat = (left + (-1)).toNat + 1 by omega, List.getD_cons_succ]
          exact a_keep (by simp) (ih (j + 1) (left + (-1)) (by omega) (by omega) (by omega) (by omega) (by omega))
        · refine a_aload_n dX9_keptBy_37 rfl rfl ?_
          refine a_getF (d := 167) fX9_54 k153 rfl r153_29 dX9_keptBy_38 ?_
          refine a_iload dX9_keptBy_41 rfl ?_
          refine a_ild k167 n167 (by omega) (by omega) dX9_keptBy_43 ?_
          refine a_topI (y := K.getD j.toNat 0) bk.1 ?_
          exact a_iret rfl ⟨by rw [drop_at h0 (by omega), List.filter_cons, if_pos (show byP L k _ = true from decide_eq_true (by omega)), show left.toNat = 0 by omega]; rfl, rfl⟩ dX9_keptBy_44
      · refine a_goto (tgt := 48) dX9_keptBy_30 (by decide) ?_
        refine a_iinc (y := j + 1) (ls' := [(4, ai (j + 1)), (3, ai left), (0, ar 153), (1, ai k), (2, ai i)]) dX9_keptBy_48 rfl rfl (Nat.le_of_ble_eq_true rfl) rfl ?_
        refine a_goto (tgt := 5) dX9_keptBy_51 (by decide) ?_
        rw [drop_at h0 (by omega), List.filter_cons, if_neg (show ¬ byP L k _ = true from fun h => absurd (of_decide_eq_true h) (by omega))]
        exact a_keep (by simp) (ih (j + 1) left (by omega) (by omega) (by omega) (by omega) (by omega))

set_option maxRecDepth 20000 in
theorem t_keptBy (v : Sto) (L : List Cd) (K : List Int) (hCv : CdIs v L) (hKv : KpIs v K) (hL : (L.length : Int) ≤ 300) (hKl : (K.length : Int) ≤ 300) (hK : ∀ x ∈ K, 0 ≤ x ∧ x < L.length) (k i : Int) (hk : inR k) (hi0 : 0 ≤ i) (hi1 : i < 2147483648) : MetI mX9_keptBy [ar 153, ai k, ai i] v ((byK L K k).getD i.toNat (-1)) v := by
  refine a_entry (by decide) (Nat.le_of_ble_eq_true rfl) ?_
  refine a_iload_n dX9_keptBy_0 rfl rfl ?_
  refine a_istore_n (ls' := [(3, ai i), (0, ar 153), (1, ai k), (2, ai i)]) dX9_keptBy_1 rfl (Nat.le_of_ble_eq_true rfl) rfl ?_
  refine a_iconst dX9_keptBy_2 ?_
  refine a_istore (ls' := [(4, ai 0), (3, ai i), (0, ar 153), (1, ai k), (2, ai i)]) dX9_keptBy_3 (Nat.le_of_ble_eq_true rfl) rfl ?_
  have h := t_keptBy_l v L K hCv hKv hL hKl hK k i hk K.length 0 i (by omega) (by omega) (by omega) hi0 hi1
  exact a_keep (by simp) h

set_option maxRecDepth 20000 in
theorem t_profBy_l (σ v : Sto) (hW : WOK σ) (hFv : Fr pQ σ v) (hTv : TOK v) (hRv : Rq (lkN σ) v) (s t : Int) (hs0 : 0 ≤ s) (hs1 : s < 10) (ht0 : 0 ≤ t) (ht1 : t < 10) (k : Int) (hk : inR k) (hCv : CdIs v (pfL σ s t)) (hKv : KpIs v (pfK σ s t)) : ∀ (n : Nat) (j : Int), 0 ≤ j → j ≤ (byK (pfL σ s t) (pfK σ s t) k).length → n = ((byK (pfL σ s t) (pfK σ s t) k).length - j).toNat → RunA mX9_profileBy (qQ σ (byK (pfL σ s t) (pfK σ s t) k).length) 38 [(4, ai j), (0, ar 153), (1, ai s), (2, ai t), (3, ai k)] [] v := by
  have hok := pf_ok hW hs0 hs1 ht0 ht1
  have hlen : ((byK (pfL σ s t) (pfK σ s t) k).length : Int) ≤ 300 := by have := List.length_filter_le (byP (pfL σ s t) k) (pfK σ s t); have h3 := hok.2.2.1; unfold byK; omega
  have hB : ∀ x ∈ (byK (pfL σ s t) (pfK σ s t) k), 0 ≤ x := fun x hx => (hok.2.2.2 x (List.mem_filter.mp hx).1).1
  intro n
  induction n with
  | zero =>
    intro j h0 h5 hn
    have gc := getD_cases (K := (byK (pfL σ s t) (pfK σ s t) k)) (i := j.toNat)
    refine a_aload_n dX9_profileBy_38 rfl rfl ?_
    refine a_iload_n dX9_profileBy_39 rfl rfl ?_
    refine a_iload dX9_profileBy_40 rfl ?_
    refine a_cI (c := 153) (as := [ai k, ai j]) (rest := []) (t_keptBy v (pfL σ s t) (pfK σ s t) hCv hKv hok.1 hok.2.2.1 hok.2.2.2 k j hk (by omega) (by first | omega | exact hi.2)) mvX9_keptBy lX9_303 k153 (by decide) rfl rfl rfl rfl (Nat.le_of_ble_eq_true rfl) (Nat.le_of_ble_eq_true rfl) (Nat.le_of_ble_eq_true rfl) dX9_profileBy_42 ?_
    refine a_iconst dX9_profileBy_45 ?_
    refine a_icmp_eq (tgt := 55) dX9_profileBy_46 (by decide) (inR_of (by rcases gc with q | q; exact Int.le_trans (by omega) (hB _ q.2); omega) (by rcases gc with q | q; exact Int.lt_of_lt_of_le (hok.2.2.2 _ (List.mem_filter.mp q.2).1).2 (by omega); omega)) (inR_of (by omega) (by omega)) (fun c46 => ?_) (fun c46 => ?_)
    · refine a_iload dX9_profileBy_55 rfl ?_
      exact a_iret rfl ⟨by rw [show j = ((byK (pfL σ s t) (pfK σ s t) k).length : Int) by omega], hFv, hTv⟩ dX9_profileBy_57
    · exact absurd (by rcases gc with q | q; omega; exact q.2) c46
  | succ n ih =>
    intro j h0 h5 hn
    have gc := getD_cases (K := (byK (pfL σ s t) (pfK σ s t) k)) (i := j.toNat)
    refine a_aload_n dX9_profileBy_38 rfl rfl ?_
    refine a_iload_n dX9_profileBy_39 rfl rfl ?_
    refine a_iload dX9_profileBy_40 rfl ?_
    refine a_cI (c := 153) (as := [ai k, ai j]) (rest := []) (t_keptBy v (pfL σ s t) (pfK σ s t) hCv hKv hok.1 hok.2.2.1 hok.2.2.2 k j hk (by omega) (by first | omega | exact hi.2)) mvX9_keptBy lX9_303 k153 (by decide) rfl rfl rfl rfl (Nat.le_of_ble_eq_true rfl) (Nat.le_of_ble_eq_true rfl) (Nat.le_of_ble_eq_true rfl) dX9_profileBy_42 ?_
    refine a_iconst dX9_profileBy_45 ?_
    refine a_icmp_eq (tgt := 55) dX9_profileBy_46 (by decide) (inR_of (by rcases gc with q | q; exact Int.le_trans (by omega) (hB _ q.2); omega) (by rcases gc with q | q; exact Int.lt_of_lt_of_le (hok.2.2.2 _ (List.mem_filter.mp q.2).1).2 (by omega); omega)) (inR_of (by omega) (by omega)) (fun c46 => ?_) (fun c46 => ?_)
    · exfalso; rcases gc with q | q; have := hB _ q.2; omega; omega
    · refine a_iinc (y := j + 1) (ls' := [(4, ai (j + 1)), (0, ar 153), (1, ai s), (2, ai t), (3, ai k)]) dX9_profileBy_49 rfl rfl (Nat.le_of_ble_eq_true rfl) rfl ?_
      refine a_goto (tgt := 38) dX9_profileBy_52 (by decide) ?_
      exact a_keep (by simp) (ih (j + 1) (by omega) (by omega) (by omega))

set_option maxRecDepth 20000 in
theorem t_profileBy (σ : Sto) (s t k : Int) (hs : inR s) (ht : inR t) (hk : inR k) (hW : WOK σ) (hT : TOK σ) : MetA mX9_profileBy [ar 153, ai s, ai t, ai k] σ (qQ σ (profileByF σ s t k)) := by
  have hS := hW.2.1
  have hR := hW.1
  have hTr := hW.2.2.1
  refine a_entry (by decide) (Nat.le_of_ble_eq_true rfl) ?_
  refine a_aload_n dX9_profileBy_0 rfl rfl ?_
  refine a_iconst dX9_profileBy_1 ?_
  refine a_putI (J := 0) fX9_85 k153 rfl rfl rfl dX9_profileBy_2 ?_
  refine a_aload_n dX9_profileBy_5 rfl rfl ?_
  refine a_iload_n dX9_profileBy_6 rfl rfl ?_
  refine a_iload_n dX9_profileBy_7 rfl rfl ?_
  refine a_cI (c := 153) (as := [ai s, ai t]) (rest := []) (t_areTwo (sN σ 153 0 0) s t hs ht) mvX9_areTwo lX9_287 k153 (by decide) rfl rfl rfl rfl (Nat.le_of_ble_eq_true rfl) (Nat.le_of_ble_eq_true rfl) (Nat.le_of_ble_eq_true rfl) dX9_profileBy_8 ?_
  refine a_topI (y := if two σ s t then 1 else 0) (by simp only [th155]) ?_
  refine a_ifb_eq (tgt := 23) dX9_profileBy_11 (by decide) (fun c11 => ?_) (fun c11 => ?_)
  · refine a_iconst dX9_profileBy_23 ?_
    exact a_iret rfl ⟨by unfold profileByF; grind, th_F σ, th_T hT⟩ dX9_profileBy_24
  · refine a_iload_n dX9_profileBy_14 rfl rfl ?_
    refine a_if_lt (tgt := 23) dX9_profileBy_15 (by decide) hk (fun c15 => ?_) (fun c15 => ?_)
    · refine a_iconst dX9_profileBy_23 ?_
      exact a_iret rfl ⟨by unfold profileByF; grind, th_F σ, th_T hT⟩ dX9_profileBy_24
    · refine a_iload_n dX9_profileBy_18 rfl rfl ?_
      refine a_iconst dX9_profileBy_19 ?_
      refine a_icmp_le (tgt := 25) dX9_profileBy_20 (by decide) hk (inR_of (by omega) (by omega)) (fun c20 => ?_) (fun c20 => ?_)
      · refine a_aload_n dX9_profileBy_25 rfl rfl ?_
        refine a_callV (c := 153) (as := []) (rest := []) (t_looksNow (sN σ 153 0 0) (Q_W (th_F σ) hW) (th_T hT)) mvX9_looksNow lX9_290 k153 (by decide) rfl rfl rfl rfl (Nat.le_of_ble_eq_true rfl) (Nat.le_of_ble_eq_true rfl) (Nat.le_of_ble_eq_true rfl) dX9_profileBy_26 (fun u hu => ?_)
        obtain ⟨hFu, hTu, hRu⟩ := lk_fin hW (th_F σ) (by omega) (by omega) hu.2
        have hWu := Q_W hFu hW
        refine a_aload_n dX9_profileBy_29 rfl rfl ?_
        refine a_iload_n dX9_profileBy_30 rfl rfl ?_
        refine a_iload_n dX9_profileBy_31 rfl rfl ?_
        refine a_callV (c := 153) (as := [ai s, ai t]) (rest := []) (t_laysProfile u s t hWu hTu (by omega) (by omega) (by omega) (by omega)) mvX9_laysProfile lX9_293 k153 (by decide) rfl rfl rfl rfl (Nat.le_of_ble_eq_true rfl) (Nat.le_of_ble_eq_true rfl) (Nat.le_of_ble_eq_true rfl) dX9_profileBy_32 (fun v hv => ?_)
        obtain ⟨hFv, hTv, hRv, hCv, hKv⟩ := pr_fin hFu hTu hRu hv.2
        have hok := pf_ok hW (s := s) (t := t) (by omega) (by omega) (by omega) (by omega)
        have k30 : gN v 153 30 = (pfK σ s t).length := hKv.1
        have hWv := Q_W hFv hW
        refine a_iconst dX9_profileBy_35 ?_
        refine a_istore (ls' := [(4, ai 0), (0, ar 153), (1, ai s), (2, ai t), (3, ai k)]) dX9_profileBy_36 (Nat.le_of_ble_eq_true rfl) rfl ?_
        rw [show profileByF σ s t k = (byK (pfL σ s t) (pfK σ s t) k).length from by unfold profileByF; rw [if_neg (by grind)]]
        exact a_keep (by simp) (t_profBy_l σ v hW hFv hTv hRv s t (by omega) (by omega) (by omega) (by omega) k hk hCv hKv (byK (pfL σ s t) (pfK σ s t) k).length 0 (by omega) (by omega) (by omega))
      · refine a_iconst dX9_profileBy_23 ?_
        exact a_iret rfl ⟨by unfold profileByF; grind, th_F σ, th_T hT⟩ dX9_profileBy_24

set_option maxRecDepth 20000 in
theorem t_atBy (σ : Sto) (s t k i what : Int) (hs : inR s) (ht : inR t) (hk : inR k) (hi : inR i) (hwhat : inR what) (hW : WOK σ) (hT : TOK σ) : MetA mX9_atBy [ar 153, ai s, ai t, ai k, ai i, ai what] σ (qQ σ (atByF σ s t k i what)) := by
  have hS := hW.2.1
  have hR := hW.1
  have hTr := hW.2.2.1
  refine a_entry (by decide) (Nat.le_of_ble_eq_true rfl) ?_
  refine a_aload_n dX9_atBy_0 rfl rfl ?_
  refine a_iconst dX9_atBy_1 ?_
  refine a_putI (J := 0) fX9_85 k153 rfl rfl rfl dX9_atBy_2 ?_
  refine a_aload_n dX9_atBy_5 rfl rfl ?_
  refine a_iload_n dX9_atBy_6 rfl rfl ?_
  refine a_iload_n dX9_atBy_7 rfl rfl ?_
  refine a_cI (c := 153) (as := [ai s, ai t]) (rest := []) (t_areTwo (sN σ 153 0 0) s t hs ht) mvX9_areTwo lX9_287 k153 (by decide) rfl rfl rfl rfl (Nat.le_of_ble_eq_true rfl) (Nat.le_of_ble_eq_true rfl) (Nat.le_of_ble_eq_true rfl) dX9_atBy_8 ?_
  refine a_topI (y := if two σ s t then 1 else 0) (by simp only [th155]) ?_
  refine a_ifb_eq (tgt := 39) dX9_atBy_11 (by decide) (fun c11 => ?_) (fun c11 => ?_)
  · refine a_iconst dX9_atBy_39 ?_
    exact a_iret rfl ⟨by unfold atByF; grind, th_F σ, th_T hT⟩ dX9_atBy_40
  · refine a_iload_n dX9_atBy_14 rfl rfl ?_
    refine a_if_lt (tgt := 39) dX9_atBy_15 (by decide) hk (fun c15 => ?_) (fun c15 => ?_)
    · refine a_iconst dX9_atBy_39 ?_
      exact a_iret rfl ⟨by unfold atByF; grind, th_F σ, th_T hT⟩ dX9_atBy_40
    · refine a_iload_n dX9_atBy_18 rfl rfl ?_
      refine a_iconst dX9_atBy_19 ?_
      refine a_icmp_gt (tgt := 39) dX9_atBy_20 (by decide) hk (inR_of (by omega) (by omega)) (fun c20 => ?_) (fun c20 => ?_)
      · refine a_iconst dX9_atBy_39 ?_
        exact a_iret rfl ⟨by unfold atByF; grind, th_F σ, th_T hT⟩ dX9_atBy_40
      · refine a_iload dX9_atBy_23 rfl ?_
        refine a_if_lt (tgt := 39) dX9_atBy_25 (by decide) hi (fun c25 => ?_) (fun c25 => ?_)
        · refine a_iconst dX9_atBy_39 ?_
          exact a_iret rfl ⟨by unfold atByF; grind, th_F σ, th_T hT⟩ dX9_atBy_40
        · refine a_iload dX9_atBy_28 rfl ?_
          refine a_if_lt (tgt := 39) dX9_atBy_30 (by decide) hwhat (fun c30 => ?_) (fun c30 => ?_)
          · refine a_iconst dX9_atBy_39 ?_
            exact a_iret rfl ⟨by unfold atByF; grind, th_F σ, th_T hT⟩ dX9_atBy_40
          · refine a_iload dX9_atBy_33 rfl ?_
            refine a_iconst dX9_atBy_35 ?_
            refine a_icmp_le (tgt := 41) dX9_atBy_36 (by decide) hwhat (inR_of (by omega) (by omega)) (fun c36 => ?_) (fun c36 => ?_)
            · refine a_aload_n dX9_atBy_41 rfl rfl ?_
              refine a_callV (c := 153) (as := []) (rest := []) (t_looksNow (sN σ 153 0 0) (Q_W (th_F σ) hW) (th_T hT)) mvX9_looksNow lX9_290 k153 (by decide) rfl rfl rfl rfl (Nat.le_of_ble_eq_true rfl) (Nat.le_of_ble_eq_true rfl) (Nat.le_of_ble_eq_true rfl) dX9_atBy_42 (fun u hu => ?_)
              obtain ⟨hFu, hTu, hRu⟩ := lk_fin hW (th_F σ) (by omega) (by omega) hu.2
              have hWu := Q_W hFu hW
              refine a_aload_n dX9_atBy_45 rfl rfl ?_
              refine a_iload_n dX9_atBy_46 rfl rfl ?_
              refine a_iload_n dX9_atBy_47 rfl rfl ?_
              refine a_callV (c := 153) (as := [ai s, ai t]) (rest := []) (t_laysProfile u s t hWu hTu (by omega) (by omega) (by omega) (by omega)) mvX9_laysProfile lX9_293 k153 (by decide) rfl rfl rfl rfl (Nat.le_of_ble_eq_true rfl) (Nat.le_of_ble_eq_true rfl) (Nat.le_of_ble_eq_true rfl) dX9_atBy_48 (fun v hv => ?_)
              obtain ⟨hFv, hTv, hRv, hCv, hKv⟩ := pr_fin hFu hTu hRu hv.2
              have hok := pf_ok hW (s := s) (t := t) (by omega) (by omega) (by omega) (by omega)
              have k30 : gN v 153 30 = (pfK σ s t).length := hKv.1
              have hWv := Q_W hFv hW
              refine a_aload_n dX9_atBy_51 rfl rfl ?_
              refine a_iload_n dX9_atBy_52 rfl rfl ?_
              refine a_iload dX9_atBy_53 rfl ?_
              refine a_cI (c := 153) (as := [ai k, ai i]) (rest := []) (t_keptBy v (pfL σ s t) (pfK σ s t) hCv hKv hok.1 hok.2.2.1 hok.2.2.2 k i hk (by omega) (by first | omega | exact hi.2)) mvX9_keptBy lX9_303 k153 (by decide) rfl rfl rfl rfl (Nat.le_of_ble_eq_true rfl) (Nat.le_of_ble_eq_true rfl) (Nat.le_of_ble_eq_true rfl) dX9_atBy_55 ?_
              have gc := getD_cases (K := (byK (pfL σ s t) (pfK σ s t) k)) (i := i.toNat)
              have bX : (byK (pfL σ s t) (pfK σ s t) k).getD i.toNat (-1) = -1 ∨ (0 ≤ (byK (pfL σ s t) (pfK σ s t) k).getD i.toNat (-1) ∧ (byK (pfL σ s t) (pfK σ s t) k).getD i.toNat (-1) < (pfL σ s t).length) := by rcases gc with q | q; exact Or.inr (hok.2.2.2 _ (List.mem_filter.mp q.2).1); exact Or.inl q.2
              have bL := hok.1
              refine a_istore (ls' := [(6, ai ((byK (pfL σ s t) (pfK σ s t) k).getD (i).toNat (-1))), (0, ar 153), (1, ai s), (2, ai t), (3, ai k), (4, ai i), (5, ai what)]) dX9_atBy_58 (Nat.le_of_ble_eq_true rfl) rfl ?_
              refine a_iload dX9_atBy_60 rfl ?_
              refine a_iconst dX9_atBy_62 ?_
              refine a_icmp_ne (tgt := 69) dX9_atBy_63 (by decide) (inR_of (by omega) (by omega)) (inR_of (by omega) (by omega)) (fun c63 => ?_) (fun c63 => ?_)
              · have ec := hCv.at (k := (byK (pfL σ s t) (pfK σ s t) k).getD i.toNat (-1)) (by omega) (by omega)
                refine a_iload dX9_atBy_69 rfl ?_
                refine a_if_ne (tgt := 84) dX9_atBy_71 (by decide) hwhat (fun c71 => ?_) (fun c71 => ?_)
                · refine a_iload dX9_atBy_84 rfl ?_
                  refine a_iconst dX9_atBy_86 ?_
                  refine a_icmp_ne (tgt := 100) dX9_atBy_87 (by decide) hwhat (inR_of (by omega) (by omega)) (fun c87 => ?_) (fun c87 => ?_)
                  · refine a_aload_n dX9_atBy_100 rfl rfl ?_
                    refine a_getF (d := 166) fX9_51 k153 rfl r153_27 dX9_atBy_101 ?_
                    refine a_iload dX9_atBy_104 rfl ?_
                    refine a_ild k166 n166 (by omega) (by omega) dX9_atBy_106 ?_
                    refine a_topI (y := (cd (pfL σ s t) ((byK (pfL σ s t) (pfK σ s t) k).getD i.toNat (-1))).2.2) ec.2.2 ?_
                    exact a_iret rfl ⟨by unfold atByF atByR cdW; grind, hFv, hTv⟩ dX9_atBy_107
                  · refine a_aload_n dX9_atBy_90 rfl rfl ?_
                    refine a_getF (d := 165) fX9_48 k153 rfl r153_26 dX9_atBy_91 ?_
                    refine a_iload dX9_atBy_94 rfl ?_
                    refine a_ild k165 n165 (by omega) (by omega) dX9_atBy_96 ?_
                    refine a_topI (y := (cd (pfL σ s t) ((byK (pfL σ s t) (pfK σ s t) k).getD i.toNat (-1))).2.1) ec.2.1 ?_
                    refine a_goto (tgt := 107) dX9_atBy_97 (by decide) ?_
                    exact a_iret rfl ⟨by unfold atByF atByR cdW; grind, hFv, hTv⟩ dX9_atBy_107
                · refine a_aload_n dX9_atBy_74 rfl rfl ?_
                  refine a_getF (d := 164) fX9_45 k153 rfl r153_25 dX9_atBy_75 ?_
                  refine a_iload dX9_atBy_78 rfl ?_
                  refine a_ild k164 n164 (by omega) (by omega) dX9_atBy_80 ?_
                  refine a_topI (y := (cd (pfL σ s t) ((byK (pfL σ s t) (pfK σ s t) k).getD i.toNat (-1))).1) ec.1 ?_
                  refine a_goto (tgt := 107) dX9_atBy_81 (by decide) ?_
                  exact a_iret rfl ⟨by unfold atByF atByR cdW; grind, hFv, hTv⟩ dX9_atBy_107
              · refine a_bipush (x := (-2)) dX9_atBy_66 (by decide) ?_
                exact a_iret rfl ⟨by unfold atByF atByR cdW; grind, hFv, hTv⟩ dX9_atBy_68
            · refine a_iconst dX9_atBy_39 ?_
              exact a_iret rfl ⟨by unfold atByF; grind, th_F σ, th_T hT⟩ dX9_atBy_40

