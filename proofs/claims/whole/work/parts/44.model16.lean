set_option maxRecDepth 20000 in
theorem t_leg (σ : Sto) (s t i l what : Int) (hs : inR s) (ht : inR t) (hi : inR i) (hl : inR l) (hwhat : inR what) (hW : WOK σ) (hT : TOK σ) : MetA mX9_leg [ar 153, ai s, ai t, ai i, ai l, ai what] σ (qQ σ (legQ σ s t i l what)) := by
  have hS := hW.2.1
  have hR := hW.1
  have hTr := hW.2.2.1
  refine a_entry (by decide) (Nat.le_of_ble_eq_true rfl) ?_
  refine a_aload_n dX9_leg_0 rfl rfl ?_
  refine a_iconst dX9_leg_1 ?_
  refine a_putI (J := 0) fX9_85 k153 rfl rfl rfl dX9_leg_2 ?_
  refine a_aload_n dX9_leg_5 rfl rfl ?_
  refine a_iload_n dX9_leg_6 rfl rfl ?_
  refine a_iload_n dX9_leg_7 rfl rfl ?_
  refine a_cI (c := 153) (as := [ai s, ai t]) (rest := []) (t_areTwo (sN σ 153 0 0) s t hs ht) mvX9_areTwo lX9_287 k153 (by decide) rfl rfl rfl rfl (Nat.le_of_ble_eq_true rfl) (Nat.le_of_ble_eq_true rfl) (Nat.le_of_ble_eq_true rfl) dX9_leg_8 ?_
  refine a_topI (y := if two σ s t then 1 else 0) (by simp only [th155]) ?_
  refine a_ifb_eq (tgt := 34) dX9_leg_11 (by decide) (fun c11 => ?_) (fun c11 => ?_)
  · refine a_iconst dX9_leg_34 ?_
    exact a_iret rfl ⟨by unfold legQ; grind, th_F σ, th_T hT⟩ dX9_leg_35
  · refine a_iload_n dX9_leg_14 rfl rfl ?_
    refine a_if_lt (tgt := 34) dX9_leg_15 (by decide) hi (fun c15 => ?_) (fun c15 => ?_)
    · refine a_iconst dX9_leg_34 ?_
      exact a_iret rfl ⟨by unfold legQ; grind, th_F σ, th_T hT⟩ dX9_leg_35
    · refine a_iload dX9_leg_18 rfl ?_
      refine a_if_lt (tgt := 34) dX9_leg_20 (by decide) hl (fun c20 => ?_) (fun c20 => ?_)
      · refine a_iconst dX9_leg_34 ?_
        exact a_iret rfl ⟨by unfold legQ; grind, th_F σ, th_T hT⟩ dX9_leg_35
      · refine a_iload dX9_leg_23 rfl ?_
        refine a_if_lt (tgt := 34) dX9_leg_25 (by decide) hwhat (fun c25 => ?_) (fun c25 => ?_)
        · refine a_iconst dX9_leg_34 ?_
          exact a_iret rfl ⟨by unfold legQ; grind, th_F σ, th_T hT⟩ dX9_leg_35
        · refine a_iload dX9_leg_28 rfl ?_
          refine a_iconst dX9_leg_30 ?_
          refine a_icmp_le (tgt := 36) dX9_leg_31 (by decide) hwhat (inR_of (by omega) (by omega)) (fun c31 => ?_) (fun c31 => ?_)
          · refine a_aload_n dX9_leg_36 rfl rfl ?_
            refine a_callV (c := 153) (as := []) (rest := []) (t_looksNow (sN σ 153 0 0) (Q_W (th_F σ) hW) (th_T hT)) mvX9_looksNow lX9_290 k153 (by decide) rfl rfl rfl rfl (Nat.le_of_ble_eq_true rfl) (Nat.le_of_ble_eq_true rfl) (Nat.le_of_ble_eq_true rfl) dX9_leg_37 (fun u hu => ?_)
            obtain ⟨hFu, hTu, hRu⟩ := lk_fin hW (th_F σ) (by omega) (by omega) hu.2
            have hWu := Q_W hFu hW
            refine a_aload_n dX9_leg_40 rfl rfl ?_
            refine a_iload_n dX9_leg_41 rfl rfl ?_
            refine a_iload_n dX9_leg_42 rfl rfl ?_
            refine a_callV (c := 153) (as := [ai s, ai t]) (rest := []) (t_laysProfile u s t hWu hTu (by omega) (by omega) (by omega) (by omega)) mvX9_laysProfile lX9_293 k153 (by decide) rfl rfl rfl rfl (Nat.le_of_ble_eq_true rfl) (Nat.le_of_ble_eq_true rfl) (Nat.le_of_ble_eq_true rfl) dX9_leg_43 (fun v hv => ?_)
            obtain ⟨hFv, hTv, hRv, hCv, hKv⟩ := pr_fin hFu hTu hRu hv.2
            have hok := pf_ok hW (s := s) (t := t) (by omega) (by omega) (by omega) (by omega)
            have k30 : gN v 153 30 = (pfK σ s t).length := hKv.1
            have hWv := Q_W hFv hW
            refine a_iload_n dX9_leg_46 rfl rfl ?_
            refine a_aload_n dX9_leg_47 rfl rfl ?_
            refine a_getI (J := 30) fX9_278 k153 rfl rfl dX9_leg_48 ?_
            refine a_icmp_ge (tgt := 70) dX9_leg_51 (by decide) hi (inR_gN _ _ _) (fun c51 => ?_) (fun c51 => ?_)
            · refine a_bipush (x := (-2)) dX9_leg_70 (by decide) ?_
              exact a_iret rfl ⟨by unfold legQ; grind, hFv, hTv⟩ dX9_leg_72
            · have bk : gN v 167 (i) = kx σ s t (i) ∧ kx σ s t (i) ∈ pfK σ s t := hKv.at (k := i) (by omega) (by omega)
              have bx : 0 ≤ kx σ s t (i) ∧ kx σ s t (i) < (pfL σ s t).length := hok.2.2.2 _ bk.2
              have ec := hCv.at bx.1 bx.2
              have bc : cdOK (cd (pfL σ s t) (kx σ s t (i))) := cd_ok hok.2.1 bx.1 bx.2
              unfold cdOK at bc
              have bL := hok.1
              refine a_iload dX9_leg_54 rfl ?_
              refine a_aload_n dX9_leg_56 rfl rfl ?_
              refine a_getF (d := 166) fX9_51 k153 rfl r153_27 dX9_leg_57 ?_
              refine a_aload_n dX9_leg_60 rfl rfl ?_
              refine a_getF (d := 167) fX9_54 k153 rfl r153_29 dX9_leg_61 ?_
              refine a_iload_n dX9_leg_64 rfl rfl ?_
              refine a_ild k167 n167 (by omega) (by omega) dX9_leg_65 ?_
              refine a_topI (y := kx σ s t i) bk.1 ?_
              refine a_ild k166 n166 (by omega) (by omega) dX9_leg_66 ?_
              refine a_topI (y := (cd (pfL σ s t) (kx σ s t i)).2.2) ec.2.2 ?_
              refine a_icmp_le (tgt := 73) dX9_leg_67 (by decide) hl (inR_of (by omega) (by omega)) (fun c67 => ?_) (fun c67 => ?_)
              · refine a_aload_n dX9_leg_73 rfl rfl ?_
                refine a_iload_n dX9_leg_74 rfl rfl ?_
                refine a_iload_n dX9_leg_75 rfl rfl ?_
                refine a_aload_n dX9_leg_76 rfl rfl ?_
                refine a_getF (d := 167) fX9_54 k153 rfl r153_29 dX9_leg_77 ?_
                refine a_iload_n dX9_leg_80 rfl rfl ?_
                refine a_ild k167 n167 (by omega) (by omega) dX9_leg_81 ?_
                refine a_topI (y := kx σ s t i) bk.1 ?_
                refine a_callV (c := 153) (as := [ai s, ai t, ai (kx σ s t i)]) (rest := []) (t_unfolds v hWv hTv s t (kx σ s t i) (pfL σ s t) hCv hok.1 hok.2.1 bx.1 bx.2 (by omega) (by omega) (by omega) (by omega) (unf_Rq hRv (pf_unf hW bx.1 bx.2))) mvX9_unfolds lX9_299 k153 (by decide) rfl rfl rfl rfl (Nat.le_of_ble_eq_true rfl) (Nat.le_of_ble_eq_true rfl) (Nat.le_of_ble_eq_true rfl) dX9_leg_82 (fun ω hω => ?_)
                obtain ⟨hFω, hTω, hRω, hRo⟩ := un_fin hW hFv hTv hRv bx.1 bx.2 hω.2
                have hCω := pUn_Cd hω.2.1 hCv
                have hKω := pUn_Kp hω.2.1 hKv
                have hWω := Q_W hFω hW
                have hlk := lg_ok hW bx.1 bx.2
                have bn : cdOK (cd (pfL σ s t) (kx σ s t i)) := cd_ok hok.2.1 bx.1 bx.2
                unfold cdOK at bn
                have rr := hRo.at (l := l) (by omega) (by have h9 : (lgL σ s t (kx σ s t i)).length = _ := hlk.1; omega)
                refine a_iload dX9_leg_85 rfl ?_
                refine a_if_ne (tgt := 100) dX9_leg_87 (by decide) hwhat (fun c87 => ?_) (fun c87 => ?_)
                · refine a_aload_n dX9_leg_100 rfl rfl ?_
                  refine a_getF (d := 171) fX9_67 k153 rfl r153_34 dX9_leg_101 ?_
                  refine a_iload dX9_leg_104 rfl ?_
                  refine a_ild k171 n171 (by omega) (by omega) dX9_leg_106 ?_
                  refine a_topI (y := (lg (lgL σ s t (kx σ s t i)) l).2) rr.2.1 ?_
                  exact a_iret rfl ⟨by unfold legQ; grind, hFω, hTω⟩ dX9_leg_107
                · refine a_aload_n dX9_leg_90 rfl rfl ?_
                  refine a_getF (d := 170) fX9_64 k153 rfl r153_33 dX9_leg_91 ?_
                  refine a_iload dX9_leg_94 rfl ?_
                  refine a_ild k170 n170 (by omega) (by omega) dX9_leg_96 ?_
                  refine a_topI (y := (lg (lgL σ s t (kx σ s t i)) l).1) rr.1 ?_
                  refine a_goto (tgt := 107) dX9_leg_97 (by decide) ?_
                  exact a_iret rfl ⟨by unfold legQ; grind, hFω, hTω⟩ dX9_leg_107
              · refine a_bipush (x := (-2)) dX9_leg_70 (by decide) ?_
                exact a_iret rfl ⟨by unfold legQ; grind, hFv, hTv⟩ dX9_leg_72
          · refine a_iconst dX9_leg_34 ?_
            exact a_iret rfl ⟨by unfold legQ; grind, th_F σ, th_T hT⟩ dX9_leg_35

theorem mv_rng {σ : Sto} (hW : WOK σ) {P : List (Int × Int)} (hlk : ∀ q ∈ P, lgOK (gN σ 155 3) q) : ∀ (n : Nat) (l sum : Int), 0 ≤ l → l + n ≤ P.length → -100000 * (l + 1) ≤ sum → sum ≤ 10000000 * (l + 1) → -100000 * (l + n + 1) ≤ itr (mvF σ P) n l sum ∧ itr (mvF σ P) n l sum ≤ 10000000 * (l + n + 1)
  | 0, l, sum, h0, h1, h2, h3 => by simp only [itr]; omega
  | n + 1, l, sum, h0, h1, h2, h3 => by
    have hR := hW.1
    have hm : ∀ j : Int, 0 ≤ j → j < P.length → lgOK (gN σ 155 3) (lg P j) := fun j a b => hlk _ (by unfold lg; rw [List.getD_eq_getElem?_getD, List.getElem?_eq_getElem (by omega)]; exact List.getElem_mem _)
    have qa := hm l h0 (by omega)
    unfold lgOK at qa
    have za := LV_rng hW (x := (lg P l).1) (by omega) (by omega)
    have xa := LV_rng hW (x := (lg P l).2) (by omega) (by omega)
    have wa := hW.2.2.2.1 (lg P l).1 (by omega) (by omega)
    have key : -100000 * (l + 1 + 1) ≤ mvF σ P l sum ∧ mvF σ P l sum ≤ 10000000 * (l + 1 + 1) := by
      unfold mvF
      split
      · have qb := hm (l - 1) (by omega) (by omega)
        unfold lgOK at qb
        have vb := hW.2.2.2.1 (lg P (l - 1)).2 (by omega) (by omega)
        have bw := hW.2.2.2.2.1 _ _ vb.2.2.1.1 vb.2.2.1.2 wa.2.1.1 wa.2.1.2
        omega
      · omega
    have := mv_rng hW hlk n (l + 1) _ (by omega) (by omega) key.1 key.2
    rw [itr_s]
    omega
theorem moves_rng {σ : Sto} (hW : WOK σ) {P : List (Int × Int)} (hlk : ∀ q ∈ P, lgOK (gN σ 155 3) q) (h0 : 0 < P.length) (h5 : P.length ≤ 5) {s t : Int} (hs0 : 0 ≤ s) (hs1 : s < 10) (ht0 : 0 ≤ t) (ht1 : t < 10) : -1000000 ≤ movesF σ P s t ∧ movesF σ P s t ≤ 100000000 := by
  have hR := hW.1
  have hm : ∀ j : Int, 0 ≤ j → j < P.length → lgOK (gN σ 155 3) (lg P j) := fun j a b => hlk _ (by unfold lg; rw [List.getD_eq_getElem?_getD, List.getElem?_eq_getElem (by omega)]; exact List.getElem_mem _)
  have qa := hm 0 (by omega) (by omega)
  have qb := hm ((P.length : Int) - 1) (by omega) (by omega)
  unfold lgOK at qa qb
  have wa := hW.2.2.2.1 (lg P 0).1 (by omega) (by omega)
  have vb := hW.2.2.2.1 (lg P ((P.length : Int) - 1)).2 (by omega) (by omega)
  have b1 := hW.2.2.2.2.1 s _ hs0 hs1 wa.2.1.1 wa.2.1.2
  have b2 := hW.2.2.2.2.1 _ t vb.2.2.1.1 vb.2.2.1.2 ht0 ht1
  have := mv_rng hW hlk P.length 0 (gN σ 155 (15 + 10 * s + gN σ 155 (115 + 5 * (lg P 0).1 + 1)) + gN σ 155 (15 + 10 * gN σ 155 (115 + 5 * (lg P ((P.length : Int) - 1)).2 + 2) + t)) (by omega) (by omega) (by omega) (by omega)
  unfold movesF
  omega

set_option maxRecDepth 20000 in
theorem t_waits (σ : Sto) (s t i what : Int) (hs : inR s) (ht : inR t) (hi : inR i) (hwhat : inR what) (hW : WOK σ) (hT : TOK σ) : MetA mX9_waits [ar 153, ai s, ai t, ai i, ai what] σ (qQ σ (waitsF σ s t i what)) := by
  have hS := hW.2.1
  have hR := hW.1
  have hTr := hW.2.2.1
  refine a_entry (by decide) (Nat.le_of_ble_eq_true rfl) ?_
  refine a_aload_n dX9_waits_0 rfl rfl ?_
  refine a_iconst dX9_waits_1 ?_
  refine a_putI (J := 0) fX9_85 k153 rfl rfl rfl dX9_waits_2 ?_
  refine a_aload_n dX9_waits_5 rfl rfl ?_
  refine a_iload_n dX9_waits_6 rfl rfl ?_
  refine a_iload_n dX9_waits_7 rfl rfl ?_
  refine a_cI (c := 153) (as := [ai s, ai t]) (rest := []) (t_areTwo (sN σ 153 0 0) s t hs ht) mvX9_areTwo lX9_287 k153 (by decide) rfl rfl rfl rfl (Nat.le_of_ble_eq_true rfl) (Nat.le_of_ble_eq_true rfl) (Nat.le_of_ble_eq_true rfl) dX9_waits_8 ?_
  refine a_topI (y := if two σ s t then 1 else 0) (by simp only [th155]) ?_
  refine a_ifb_eq (tgt := 29) dX9_waits_11 (by decide) (fun c11 => ?_) (fun c11 => ?_)
  · refine a_iconst dX9_waits_29 ?_
    exact a_iret rfl ⟨by unfold waitsF; grind, th_F σ, th_T hT⟩ dX9_waits_30
  · refine a_iload_n dX9_waits_14 rfl rfl ?_
    refine a_if_lt (tgt := 29) dX9_waits_15 (by decide) hi (fun c15 => ?_) (fun c15 => ?_)
    · refine a_iconst dX9_waits_29 ?_
      exact a_iret rfl ⟨by unfold waitsF; grind, th_F σ, th_T hT⟩ dX9_waits_30
    · refine a_iload dX9_waits_18 rfl ?_
      refine a_if_lt (tgt := 29) dX9_waits_20 (by decide) hwhat (fun c20 => ?_) (fun c20 => ?_)
      · refine a_iconst dX9_waits_29 ?_
        exact a_iret rfl ⟨by unfold waitsF; grind, th_F σ, th_T hT⟩ dX9_waits_30
      · refine a_iload dX9_waits_23 rfl ?_
        refine a_iconst dX9_waits_25 ?_
        refine a_icmp_le (tgt := 31) dX9_waits_26 (by decide) hwhat (inR_of (by omega) (by omega)) (fun c26 => ?_) (fun c26 => ?_)
        · refine a_aload_n dX9_waits_31 rfl rfl ?_
          refine a_callV (c := 153) (as := []) (rest := []) (t_looksNow (sN σ 153 0 0) (Q_W (th_F σ) hW) (th_T hT)) mvX9_looksNow lX9_290 k153 (by decide) rfl rfl rfl rfl (Nat.le_of_ble_eq_true rfl) (Nat.le_of_ble_eq_true rfl) (Nat.le_of_ble_eq_true rfl) dX9_waits_32 (fun u hu => ?_)
          obtain ⟨hFu, hTu, hRu⟩ := lk_fin hW (th_F σ) (by omega) (by omega) hu.2
          have hWu := Q_W hFu hW
          refine a_aload_n dX9_waits_35 rfl rfl ?_
          refine a_iload_n dX9_waits_36 rfl rfl ?_
          refine a_iload_n dX9_waits_37 rfl rfl ?_
          refine a_callV (c := 153) (as := [ai s, ai t]) (rest := []) (t_laysProfile u s t hWu hTu (by omega) (by omega) (by omega) (by omega)) mvX9_laysProfile lX9_293 k153 (by decide) rfl rfl rfl rfl (Nat.le_of_ble_eq_true rfl) (Nat.le_of_ble_eq_true rfl) (Nat.le_of_ble_eq_true rfl) dX9_waits_38 (fun v hv => ?_)
          obtain ⟨hFv, hTv, hRv, hCv, hKv⟩ := pr_fin hFu hTu hRu hv.2
          have hok := pf_ok hW (s := s) (t := t) (by omega) (by omega) (by omega) (by omega)
          have k30 : gN v 153 30 = (pfK σ s t).length := hKv.1
          have hWv := Q_W hFv hW
          refine a_iload_n dX9_waits_41 rfl rfl ?_
          refine a_aload_n dX9_waits_42 rfl rfl ?_
          refine a_getI (J := 30) fX9_278 k153 rfl rfl dX9_waits_43 ?_
          refine a_icmp_lt (tgt := 52) dX9_waits_46 (by decide) hi (inR_gN _ _ _) (fun c46 => ?_) (fun c46 => ?_)
          · have bk : gN v 167 (i) = kx σ s t (i) ∧ kx σ s t (i) ∈ pfK σ s t := hKv.at (k := i) (by omega) (by omega)
            have bx : 0 ≤ kx σ s t (i) ∧ kx σ s t (i) < (pfL σ s t).length := hok.2.2.2 _ bk.2
            have ec := hCv.at bx.1 bx.2
            have bc : cdOK (cd (pfL σ s t) (kx σ s t (i))) := cd_ok hok.2.1 bx.1 bx.2
            unfold cdOK at bc
            have bL := hok.1
            refine a_aload_n dX9_waits_52 rfl rfl ?_
            refine a_getF (d := 167) fX9_54 k153 rfl r153_29 dX9_waits_53 ?_
            refine a_iload_n dX9_waits_56 rfl rfl ?_
            refine a_ild k167 n167 (by omega) (by omega) dX9_waits_57 ?_
            refine a_topI (y := kx σ s t i) bk.1 ?_
            refine a_istore (ls' := [(5, ai (kx σ s t i)), (0, ar 153), (1, ai s), (2, ai t), (3, ai i), (4, ai what)]) dX9_waits_58 (Nat.le_of_ble_eq_true rfl) rfl ?_
            refine a_aload_n dX9_waits_60 rfl rfl ?_
            refine a_iload_n dX9_waits_61 rfl rfl ?_
            refine a_iload_n dX9_waits_62 rfl rfl ?_
            refine a_iload dX9_waits_63 rfl ?_
            refine a_callV (c := 153) (as := [ai s, ai t, ai (kx σ s t i)]) (rest := []) (t_unfolds v hWv hTv s t (kx σ s t i) (pfL σ s t) hCv hok.1 hok.2.1 bx.1 bx.2 (by omega) (by omega) (by omega) (by omega) (unf_Rq hRv (pf_unf hW bx.1 bx.2))) mvX9_unfolds lX9_299 k153 (by decide) rfl rfl rfl rfl (Nat.le_of_ble_eq_true rfl) (Nat.le_of_ble_eq_true rfl) (Nat.le_of_ble_eq_true rfl) dX9_waits_65 (fun ω hω => ?_)
            obtain ⟨hFω, hTω, hRω, hRo⟩ := un_fin hW hFv hTv hRv bx.1 bx.2 hω.2
            have hCω := pUn_Cd hω.2.1 hCv
            have hKω := pUn_Kp hω.2.1 hKv
            have hWω := Q_W hFω hW
            have hlk := lg_ok hW bx.1 bx.2
            have bn : cdOK (cd (pfL σ s t) (kx σ s t i)) := cd_ok hok.2.1 bx.1 bx.2
            unfold cdOK at bn
            have ecw := hCω.at bx.1 bx.2
            have h9 := hlk.1
            refine a_iload dX9_waits_68 rfl ?_
            refine a_if_ne (tgt := 107) dX9_waits_70 (by decide) hwhat (fun c70 => ?_) (fun c70 => ?_)
            · refine a_aload_n dX9_waits_107 rfl rfl ?_
              refine a_aload_n dX9_waits_108 rfl rfl ?_
              refine a_getF (d := 166) fX9_51 k153 rfl r153_27 dX9_waits_109 ?_
              refine a_iload dX9_waits_112 rfl ?_
              refine a_ild k166 n166 (by omega) (by omega) dX9_waits_114 ?_
              refine a_topI (y := (cd (pfL σ s t) (kx σ s t i)).2.2) ecw.2.2 ?_
              refine a_iconst dX9_waits_115 ?_
              refine a_iadd dX9_waits_116 ?_
              refine a_topI (y := ((lgL σ s t (kx σ s t i)).length : Int)) (by have h9 := hlk.1; omega) ?_
              refine a_cI (c := 153) (as := [ai ((lgL σ s t (kx σ s t i)).length : Int)]) (rest := []) (t_slk σ ω hW hFω hTω hRω (lgL σ s t (kx σ s t i)) hRo (by omega) (by omega) hlk.2) mvX9_slack lX9_310 k153 (by decide) rfl rfl rfl rfl (Nat.le_of_ble_eq_true rfl) (Nat.le_of_ble_eq_true rfl) (Nat.le_of_ble_eq_true rfl) dX9_waits_117 ?_
              exact a_iret rfl ⟨by unfold waitsF; grind, hFω, hTω⟩ dX9_waits_120
            · refine a_aload_n dX9_waits_73 rfl rfl ?_
              refine a_getF (d := 165) fX9_48 k153 rfl r153_26 dX9_waits_74 ?_
              refine a_iload dX9_waits_77 rfl ?_
              refine a_ild k165 n165 (by omega) (by omega) dX9_waits_79 ?_
              refine a_topI (y := (cd (pfL σ s t) (kx σ s t i)).2.1) ecw.2.1 ?_
              refine a_aload_n dX9_waits_80 rfl rfl ?_
              refine a_getF (d := 164) fX9_45 k153 rfl r153_25 dX9_waits_81 ?_
              refine a_iload dX9_waits_84 rfl ?_
              refine a_ild k164 n164 (by omega) (by omega) dX9_waits_86 ?_
              refine a_topI (y := (cd (pfL σ s t) (kx σ s t i)).1) ecw.1 ?_
              refine a_isub dX9_waits_87 ?_
              refine a_aload_n dX9_waits_88 rfl rfl ?_
              refine a_iload_n dX9_waits_89 rfl rfl ?_
              refine a_iload_n dX9_waits_90 rfl rfl ?_
              refine a_aload_n dX9_waits_91 rfl rfl ?_
              refine a_getF (d := 166) fX9_51 k153 rfl r153_27 dX9_waits_92 ?_
              refine a_iload dX9_waits_95 rfl ?_
              refine a_ild k166 n166 (by omega) (by omega) dX9_waits_97 ?_
              refine a_topI (y := (cd (pfL σ s t) (kx σ s t i)).2.2) ecw.2.2 ?_
              refine a_iconst dX9_waits_98 ?_
              refine a_iadd dX9_waits_99 ?_
              refine a_topI (y := ((lgL σ s t (kx σ s t i)).length : Int)) (by have h9 := hlk.1; omega) ?_
              refine a_cI (c := 153) (as := [ai s, ai t, ai ((lgL σ s t (kx σ s t i)).length : Int)]) (rest := [ai ((cd (pfL σ s t) (kx σ s t i)).2.1 - ((cd (pfL σ s t) (kx σ s t i)).1))]) (t_moves σ ω hW hFω hTω hRω (lgL σ s t (kx σ s t i)) hRo (by omega) (by omega) hlk.2 s t (by omega) (by omega) (by omega) (by omega)) mvX9_moves lX9_306 k153 (by decide) rfl rfl rfl rfl (Nat.le_of_ble_eq_true rfl) (Nat.le_of_ble_eq_true rfl) (Nat.le_of_ble_eq_true rfl) dX9_waits_100 ?_
              have rM := moves_rng hW (P := (lgL σ s t (kx σ s t i))) hlk.2 (by omega) (by omega) (s := s) (t := t) (by omega) (by omega) (by omega) (by omega)
              refine a_isub dX9_waits_103 ?_
              refine a_goto (tgt := 120) dX9_waits_104 (by decide) ?_
              exact a_iret rfl ⟨by unfold waitsF; grind, hFω, hTω⟩ dX9_waits_120
          · refine a_bipush (x := (-2)) dX9_waits_49 (by decide) ?_
            exact a_iret rfl ⟨by unfold waitsF; grind, hFv, hTv⟩ dX9_waits_51
        · refine a_iconst dX9_waits_29 ?_
          exact a_iret rfl ⟨by unfold waitsF; grind, th_F σ, th_T hT⟩ dX9_waits_30

set_option maxRecDepth 20000 in
theorem t_gap_l (σ v : Sto) (hW : WOK σ) (hFv : Fr pQ σ v) (hTv : TOK v) (hRv : Rq (lkN σ) v) (s t : Int) (hs0 : 0 ≤ s) (hs1 : s < 10) (ht0 : 0 ≤ t) (ht1 : t < 10) (hCv : CdIs v (pfL σ s t)) (hKv : KpIs v (pfK σ s t)) : ∀ (n : Nat) (i : Int) (most : Int), 1 ≤ i → i ≤ 301 → n = ((pfK σ s t).length - i).toNat → -2 ≤ most → most ≤ 100000 → RunA mX9_gap (qQ σ (itr (gpF σ s t) n i most)) 32 [(4, ai i), (3, ai most), (0, ar 153), (1, ai s), (2, ai t)] [] v := by
  have hok := pf_ok hW hs0 hs1 ht0 ht1
  have k30 : gN v 153 30 = (pfK σ s t).length := hKv.1
  intro n
  induction n with
  | zero =>
    intro i most h0 h5 hn hm0 hm1
    refine a_iload dX9_gap_32 rfl ?_
    refine a_aload_n dX9_gap_34 rfl rfl ?_
    refine a_getI (J := 30) fX9_278 k153 rfl rfl dX9_gap_35 ?_
    refine a_icmp_ge (tgt := 90) dX9_gap_38 (by decide) (inR_of (by omega) (by omega)) (inR_gN _ _ _) (fun c38 => ?_) (fun c38 => ?_)
    · refine a_iload_n dX9_gap_90 rfl rfl ?_
      exact a_iret rfl ⟨rfl, hFv, hTv⟩ dX9_gap_91
    · exfalso; omega
  | succ n ih =>
    intro i most h0 h5 hn hm0 hm1
    refine a_iload dX9_gap_32 rfl ?_
    refine a_aload_n dX9_gap_34 rfl rfl ?_
    refine a_getI (J := 30) fX9_278 k153 rfl rfl dX9_gap_35 ?_
    refine a_icmp_ge (tgt := 90) dX9_gap_38 (by decide) (inR_of (by omega) (by omega)) (inR_gN _ _ _) (fun c38 => ?_) (fun c38 => ?_)
    · exfalso; omega
    · have bk : gN v 167 (i) = kx σ s t (i) ∧ kx σ s t (i) ∈ pfK σ s t := hKv.at (k := i) (by omega) (by omega)
      have bx : 0 ≤ kx σ s t (i) ∧ kx σ s t (i) < (pfL σ s t).length := hok.2.2.2 _ bk.2
      have ec := hCv.at bx.1 bx.2
      have bc : cdOK (cd (pfL σ s t) (kx σ s t (i))) := cd_ok hok.2.1 bx.1 bx.2
      unfold cdOK at bc
      have bL := hok.1
      have bkp : gN v 167 (i - 1) = kx σ s t (i - 1) ∧ kx σ s t (i - 1) ∈ pfK σ s t := hKv.at (k := i - 1) (by omega) (by omega)
      have bxp : 0 ≤ kx σ s t (i - 1) ∧ kx σ s t (i - 1) < (pfL σ s t).length := hok.2.2.2 _ bkp.2
      have ecp := hCv.at bxp.1 bxp.2
      have bcp : cdOK (cd (pfL σ s t) (kx σ s t (i - 1))) := cd_ok hok.2.1 bxp.1 bxp.2
      unfold cdOK at bcp
      have bL := hok.1
      refine a_aload_n dX9_gap_41 rfl rfl ?_
      refine a_getF (d := 164) fX9_45 k153 rfl r153_25 dX9_gap_42 ?_
      refine a_aload_n dX9_gap_45 rfl rfl ?_
      refine a_getF (d := 167) fX9_54 k153 rfl r153_29 dX9_gap_46 ?_
      refine a_iload dX9_gap_49 rfl ?_
      refine a_ild k167 n167 (by omega) (by omega) dX9_gap_51 ?_
      refine a_topI (y := kx σ s t i) bk.1 ?_
      refine a_ild k164 n164 (by omega) (by omega) dX9_gap_52 ?_
      refine a_topI (y := (cd (pfL σ s t) (kx σ s t i)).1) ec.1 ?_
      refine a_aload_n dX9_gap_53 rfl rfl ?_
      refine a_getF (d := 164) fX9_45 k153 rfl r153_25 dX9_gap_54 ?_
      refine a_aload_n dX9_gap_57 rfl rfl ?_
      refine a_getF (d := 167) fX9_54 k153 rfl r153_29 dX9_gap_58 ?_
      refine a_iload dX9_gap_61 rfl ?_
      refine a_iconst dX9_gap_63 ?_
      refine a_isub dX9_gap_64 ?_
      refine a_ild k167 n167 (by omega) (by omega) dX9_gap_65 ?_
      refine a_topI (y := kx σ s t (i - 1)) bkp.1 ?_
      refine a_ild k164 n164 (by omega) (by omega) dX9_gap_66 ?_
      refine a_topI (y := (cd (pfL σ s t) (kx σ s t (i - 1))).1) ecp.1 ?_
      refine a_isub dX9_gap_67 ?_
      refine a_istore (ls' := [(5, ai ((cd (pfL σ s t) (kx σ s t i)).1 - ((cd (pfL σ s t) (kx σ s t (i - 1))).1))), (4, ai i), (3, ai most), (0, ar 153), (1, ai s), (2, ai t)]) dX9_gap_68 (Nat.le_of_ble_eq_true rfl) rfl ?_
      refine a_iload dX9_gap_70 rfl ?_
      refine a_if_le (tgt := 84) dX9_gap_72 (by decide) (inR_of (by omega) (by omega)) (fun c72 => ?_) (fun c72 => ?_)
      · refine a_iinc (y := i + 1) (ls' := [(4, ai (i + 1)), (5, ai ((cd (pfL σ s t) (kx σ s t i)).1 - ((cd (pfL σ s t) (kx σ s t (i - 1))).1))), (3, ai most), (0, ar 153), (1, ai s), (2, ai t)]) dX9_gap_84 rfl rfl (Nat.le_of_ble_eq_true rfl) rfl ?_
        refine a_goto (tgt := 32) dX9_gap_87 (by decide) ?_
        have e : gpF σ s t i most = most := by unfold gpF; grind
        rw [show itr (gpF σ s t) (n + 1) i most = itr (gpF σ s t) n (i + 1) (gpF σ s t i most) from rfl, e]
        exact a_keep (by simp) (ih (i + 1) (most) (by omega) (by omega) (by omega) (by omega) (by omega))
      · refine a_iload dX9_gap_75 rfl ?_
        refine a_iload_n dX9_gap_77 rfl rfl ?_
        refine a_icmp_le (tgt := 84) dX9_gap_78 (by decide) (inR_of (by omega) (by omega)) (inR_of (by omega) (by omega)) (fun c78 => ?_) (fun c78 => ?_)
        · refine a_iinc (y := i + 1) (ls' := [(4, ai (i + 1)), (5, ai ((cd (pfL σ s t) (kx σ s t i)).1 - ((cd (pfL σ s t) (kx σ s t (i - 1))).1))), (3, ai most), (0, ar 153), (1, ai s), (2, ai t)]) dX9_gap_84 rfl rfl (Nat.le_of_ble_eq_true rfl) rfl ?_
          refine a_goto (tgt := 32) dX9_gap_87 (by decide) ?_
          have e : gpF σ s t i most = most := by unfold gpF; grind
          rw [show itr (gpF σ s t) (n + 1) i most = itr (gpF σ s t) n (i + 1) (gpF σ s t i most) from rfl, e]
          exact a_keep (by simp) (ih (i + 1) (most) (by omega) (by omega) (by omega) (by omega) (by omega))
        · refine a_iload dX9_gap_81 rfl ?_
          refine a_istore_n (ls' := [(3, ai ((cd (pfL σ s t) (kx σ s t i)).1 - ((cd (pfL σ s t) (kx σ s t (i - 1))).1))), (5, ai ((cd (pfL σ s t) (kx σ s t i)).1 - ((cd (pfL σ s t) (kx σ s t (i - 1))).1))), (4, ai i), (0, ar 153), (1, ai s), (2, ai t)]) dX9_gap_83 rfl (Nat.le_of_ble_eq_true rfl) rfl ?_
          refine a_iinc (y := i + 1) (ls' := [(4, ai (i + 1)), (3, ai ((cd (pfL σ s t) (kx σ s t i)).1 - ((cd (pfL σ s t) (kx σ s t (i - 1))).1))), (5, ai ((cd (pfL σ s t) (kx σ s t i)).1 - ((cd (pfL σ s t) (kx σ s t (i - 1))).1))), (0, ar 153), (1, ai s), (2, ai t)]) dX9_gap_84 rfl rfl (Nat.le_of_ble_eq_true rfl) rfl ?_
          refine a_goto (tgt := 32) dX9_gap_87 (by decide) ?_
          have e : gpF σ s t i most = (cd (pfL σ s t) (kx σ s t i)).1 - ((cd (pfL σ s t) (kx σ s t (i - 1))).1) := by unfold gpF; grind
          rw [show itr (gpF σ s t) (n + 1) i most = itr (gpF σ s t) n (i + 1) (gpF σ s t i most) from rfl, e]
          exact a_keep (by simp) (ih (i + 1) ((cd (pfL σ s t) (kx σ s t i)).1 - ((cd (pfL σ s t) (kx σ s t (i - 1))).1)) (by omega) (by omega) (by omega) (by omega) (by omega))

set_option maxRecDepth 20000 in
theorem t_gap (σ : Sto) (s t : Int) (hs : inR s) (ht : inR t) (hW : WOK σ) (hT : TOK σ) : MetA mX9_gap [ar 153, ai s, ai t] σ (qQ σ (gapF σ s t)) := by
  have hS := hW.2.1
  have hR := hW.1
  have hTr := hW.2.2.1
  refine a_entry (by decide) (Nat.le_of_ble_eq_true rfl) ?_
  refine a_aload_n dX9_gap_0 rfl rfl ?_
  refine a_iconst dX9_gap_1 ?_
  refine a_putI (J := 0) fX9_85 k153 rfl rfl rfl dX9_gap_2 ?_
  refine a_aload_n dX9_gap_5 rfl rfl ?_
  refine a_iload_n dX9_gap_6 rfl rfl ?_
  refine a_iload_n dX9_gap_7 rfl rfl ?_
  refine a_cI (c := 153) (as := [ai s, ai t]) (rest := []) (t_areTwo (sN σ 153 0 0) s t hs ht) mvX9_areTwo lX9_287 k153 (by decide) rfl rfl rfl rfl (Nat.le_of_ble_eq_true rfl) (Nat.le_of_ble_eq_true rfl) (Nat.le_of_ble_eq_true rfl) dX9_gap_8 ?_
  refine a_topI (y := if two σ s t then 1 else 0) (by simp only [th155]) ?_
  refine a_ifb_ne (tgt := 16) dX9_gap_11 (by decide) (fun c11 => ?_) (fun c11 => ?_)
  · refine a_aload_n dX9_gap_16 rfl rfl ?_
    refine a_callV (c := 153) (as := []) (rest := []) (t_looksNow (sN σ 153 0 0) (Q_W (th_F σ) hW) (th_T hT)) mvX9_looksNow lX9_290 k153 (by decide) rfl rfl rfl rfl (Nat.le_of_ble_eq_true rfl) (Nat.le_of_ble_eq_true rfl) (Nat.le_of_ble_eq_true rfl) dX9_gap_17 (fun u hu => ?_)
    obtain ⟨hFu, hTu, hRu⟩ := lk_fin hW (th_F σ) (by omega) (by omega) hu.2
    have hWu := Q_W hFu hW
    refine a_aload_n dX9_gap_20 rfl rfl ?_
    refine a_iload_n dX9_gap_21 rfl rfl ?_
    refine a_iload_n dX9_gap_22 rfl rfl ?_
    refine a_callV (c := 153) (as := [ai s, ai t]) (rest := []) (t_laysProfile u s t hWu hTu (by omega) (by omega) (by omega) (by omega)) mvX9_laysProfile lX9_293 k153 (by decide) rfl rfl rfl rfl (Nat.le_of_ble_eq_true rfl) (Nat.le_of_ble_eq_true rfl) (Nat.le_of_ble_eq_true rfl) dX9_gap_23 (fun v hv => ?_)
    obtain ⟨hFv, hTv, hRv, hCv, hKv⟩ := pr_fin hFu hTu hRu hv.2
    have hok := pf_ok hW (s := s) (t := t) (by omega) (by omega) (by omega) (by omega)
    have k30 : gN v 153 30 = (pfK σ s t).length := hKv.1
    have hWv := Q_W hFv hW
    refine a_bipush (x := (-2)) dX9_gap_26 (by decide) ?_
    refine a_istore_n (ls' := [(3, ai (-2)), (0, ar 153), (1, ai s), (2, ai t)]) dX9_gap_28 rfl (Nat.le_of_ble_eq_true rfl) rfl ?_
    refine a_iconst dX9_gap_29 ?_
    refine a_istore (ls' := [(4, ai 1), (3, ai (-2)), (0, ar 153), (1, ai s), (2, ai t)]) dX9_gap_30 (Nat.le_of_ble_eq_true rfl) rfl ?_
    rw [show gapF σ s t = itr (gpF σ s t) ((pfK σ s t).length - 1) 1 (-2) from by unfold gapF; rw [if_pos (by assumption)]]
    exact a_keep (by simp) (t_gap_l σ v hW hFv hTv hRv s t (by omega) (by omega) (by omega) (by omega) hCv hKv _ 1 (-2) (by omega) (by omega) (by omega) (by omega) (by omega))
  · refine a_iconst dX9_gap_14 ?_
    exact a_iret rfl ⟨by unfold gapF; grind, th_F σ, th_T hT⟩ dX9_gap_15

set_option maxRecDepth 20000 in
theorem t_quick_l (σ v : Sto) (hW : WOK σ) (hFv : Fr pQ σ v) (hTv : TOK v) (hRv : Rq (lkN σ) v) (s t : Int) (hs0 : 0 ≤ s) (hs1 : s < 10) (ht0 : 0 ≤ t) (ht1 : t < 10) (hCv : CdIs v (pfL σ s t)) (hKv : KpIs v (pfK σ s t)) (what : Int) (hw0 : 0 ≤ what) (hw1 : what ≤ 1) : ∀ (n : Nat) (i : Int) (best : Int) (least : Int), 0 ≤ i → i ≤ 300 → n = ((pfK σ s t).length - i).toNat → -2 ≤ best → best ≤ 300 → -10000 ≤ least → least ≤ 1000000 → RunA mX9_quickest (qQ σ (meetR (itr (qkF σ s t) n i (best, least)) what)) 46 [(6, ai i), (5, ai least), (4, ai best), (0, ar 153), (1, ai s), (2, ai t), (3, ai what)] [] v := by
  have hok := pf_ok hW hs0 hs1 ht0 ht1
  have k30 : gN v 153 30 = (pfK σ s t).length := hKv.1
  intro n
  induction n with
  | zero =>
    intro i best least h0 h5 hn hb0 hb1 hl0 hl1
    refine a_iload dX9_quickest_46 rfl ?_
    refine a_aload_n dX9_quickest_48 rfl rfl ?_
    refine a_getI (J := 30) fX9_278 k153 rfl rfl dX9_quickest_49 ?_
    refine a_icmp_ge (tgt := 106) dX9_quickest_52 (by decide) (inR_of (by omega) (by omega)) (inR_gN _ _ _) (fun c52 => ?_) (fun c52 => ?_)
    · refine a_iload dX9_quickest_106 rfl ?_
      refine a_bipush (x := (-2)) dX9_quickest_108 (by decide) ?_
      refine a_icmp_eq (tgt := 117) dX9_quickest_110 (by decide) (inR_of (by omega) (by omega)) (inR_of (by omega) (by omega)) (fun c110 => ?_) (fun c110 => ?_)
      · refine a_iload dX9_quickest_117 rfl ?_
        refine a_goto (tgt := 124) dX9_quickest_119 (by decide) ?_
        exact a_iret rfl ⟨by simp only [itr]; unfold meetR; grind, hFv, hTv⟩ dX9_quickest_124
      · refine a_iload_n dX9_quickest_113 rfl rfl ?_
        refine a_if_ne (tgt := 122) dX9_quickest_114 (by decide) (inR_of (by omega) (by omega)) (fun c114 => ?_) (fun c114 => ?_)
        · refine a_iload dX9_quickest_122 rfl ?_
          exact a_iret rfl ⟨by simp only [itr]; unfold meetR; grind, hFv, hTv⟩ dX9_quickest_124
        · refine a_iload dX9_quickest_117 rfl ?_
          refine a_goto (tgt := 124) dX9_quickest_119 (by decide) ?_
          exact a_iret rfl ⟨by simp only [itr]; unfold meetR; grind, hFv, hTv⟩ dX9_quickest_124
    · exfalso; omega
  | succ n ih =>
    intro i best least h0 h5 hn hb0 hb1 hl0 hl1
    refine a_iload dX9_quickest_46 rfl ?_
    refine a_aload_n dX9_quickest_48 rfl rfl ?_
    refine a_getI (J := 30) fX9_278 k153 rfl rfl dX9_quickest_49 ?_
    refine a_icmp_ge (tgt := 106) dX9_quickest_52 (by decide) (inR_of (by omega) (by omega)) (inR_gN _ _ _) (fun c52 => ?_) (fun c52 => ?_)
    · exfalso; omega
    · have bk : gN v 167 (i) = kx σ s t (i) ∧ kx σ s t (i) ∈ pfK σ s t := hKv.at (k := i) (by omega) (by omega)
      have bx : 0 ≤ kx σ s t (i) ∧ kx σ s t (i) < (pfL σ s t).length := hok.2.2.2 _ bk.2
      have ec := hCv.at bx.1 bx.2
      have bc : cdOK (cd (pfL σ s t) (kx σ s t (i))) := cd_ok hok.2.1 bx.1 bx.2
      unfold cdOK at bc
      have bL := hok.1
      refine a_aload_n dX9_quickest_55 rfl rfl ?_
      refine a_getF (d := 165) fX9_48 k153 rfl r153_26 dX9_quickest_56 ?_
      refine a_aload_n dX9_quickest_59 rfl rfl ?_
      refine a_getF (d := 167) fX9_54 k153 rfl r153_29 dX9_quickest_60 ?_
      refine a_iload dX9_quickest_63 rfl ?_
      refine a_ild k167 n167 (by omega) (by omega) dX9_quickest_65 ?_
      refine a_topI (y := kx σ s t i) bk.1 ?_
      refine a_ild k165 n165 (by omega) (by omega) dX9_quickest_66 ?_
      refine a_topI (y := (cd (pfL σ s t) (kx σ s t i)).2.1) ec.2.1 ?_
      refine a_aload_n dX9_quickest_67 rfl rfl ?_
      refine a_getF (d := 164) fX9_45 k153 rfl r153_25 dX9_quickest_68 ?_
      refine a_aload_n dX9_quickest_71 rfl rfl ?_
      refine a_getF (d := 167) fX9_54 k153 rfl r153_29 dX9_quickest_72 ?_
      refine a_iload dX9_quickest_75 rfl ?_
      refine a_ild k167 n167 (by omega) (by omega) dX9_quickest_77 ?_
      refine a_topI (y := kx σ s t i) bk.1 ?_
      refine a_ild k164 n164 (by omega) (by omega) dX9_quickest_78 ?_
      refine a_topI (y := (cd (pfL σ s t) (kx σ s t i)).1) ec.1 ?_
      refine a_isub dX9_quickest_79 ?_
      refine a_istore (ls' := [(7, ai ((cd (pfL σ s t) (kx σ s t i)).2.1 - ((cd (pfL σ s t) (kx σ s t i)).1))), (6, ai i), (5, ai least), (4, ai best), (0, ar 153), (1, ai s), (2, ai t), (3, ai what)]) dX9_quickest_80 (Nat.le_of_ble_eq_true rfl) rfl ?_
      refine a_iload dX9_quickest_82 rfl ?_
      refine a_iload dX9_quickest_84 rfl ?_
      refine a_icmp_lt (tgt := 92) dX9_quickest_86 (by decide) (inR_of (by omega) (by omega)) (inR_of (by omega) (by omega)) (fun c86 => ?_) (fun c86 => ?_)
      · refine a_iload dX9_quickest_92 rfl ?_
        refine a_istore (ls' := [(4, ai i), (7, ai ((cd (pfL σ s t) (kx σ s t i)).2.1 - ((cd (pfL σ s t) (kx σ s t i)).1))), (6, ai i), (5, ai least), (0, ar 153), (1, ai s), (2, ai t), (3, ai what)]) dX9_quickest_94 (Nat.le_of_ble_eq_true rfl) rfl ?_
        refine a_iload dX9_quickest_96 rfl ?_
        refine a_istore (ls' := [(5, ai ((cd (pfL σ s t) (kx σ s t i)).2.1 - ((cd (pfL σ s t) (kx σ s t i)).1))), (4, ai i), (7, ai ((cd (pfL σ s t) (kx σ s t i)).2.1 - ((cd (pfL σ s t) (kx σ s t i)).1))), (6, ai i), (0, ar 153), (1, ai s), (2, ai t), (3, ai what)]) dX9_quickest_98 (Nat.le_of_ble_eq_true rfl) rfl ?_
        refine a_iinc (y := i + 1) (ls' := [(6, ai (i + 1)), (5, ai ((cd (pfL σ s t) (kx σ s t i)).2.1 - ((cd (pfL σ s t) (kx σ s t i)).1))), (4, ai i), (7, ai ((cd (pfL σ s t) (kx σ s t i)).2.1 - ((cd (pfL σ s t) (kx σ s t i)).1))), (0, ar 153), (1, ai s), (2, ai t), (3, ai what)]) dX9_quickest_100 rfl rfl (Nat.le_of_ble_eq_true rfl) rfl ?_
        refine a_goto (tgt := 46) dX9_quickest_103 (by decide) ?_
        have e : qkF σ s t i (best, least) = (i, (cd (pfL σ s t) (kx σ s t i)).2.1 - ((cd (pfL σ s t) (kx σ s t i)).1)) := by unfold qkF; grind
        rw [show itr (qkF σ s t) (n + 1) i (best, least) = itr (qkF σ s t) n (i + 1) (qkF σ s t i (best, least)) from rfl, e]
        exact a_keep (by simp) (ih (i + 1) (i) ((cd (pfL σ s t) (kx σ s t i)).2.1 - ((cd (pfL σ s t) (kx σ s t i)).1)) (by omega) (by omega) (by omega) (by omega) (by omega) (by omega) (by omega))
      · refine a_goto (tgt := 100) dX9_quickest_89 (by decide) ?_
        refine a_iinc (y := i + 1) (ls' := [(6, ai (i + 1)), (7, ai ((cd (pfL σ s t) (kx σ s t i)).2.1 - ((cd (pfL σ s t) (kx σ s t i)).1))), (5, ai least), (4, ai best), (0, ar 153), (1, ai s), (2, ai t), (3, ai what)]) dX9_quickest_100 rfl rfl (Nat.le_of_ble_eq_true rfl) rfl ?_
        refine a_goto (tgt := 46) dX9_quickest_103 (by decide) ?_
        have e : qkF σ s t i (best, least) = (best, least) := by unfold qkF; grind
        rw [show itr (qkF σ s t) (n + 1) i (best, least) = itr (qkF σ s t) n (i + 1) (qkF σ s t i (best, least)) from rfl, e]
        exact a_keep (by simp) (ih (i + 1) (best) (least) (by omega) (by omega) (by omega) (by omega) (by omega) (by omega) (by omega))

set_option maxRecDepth 20000 in
theorem t_quickest (σ : Sto) (s t what : Int) (hs : inR s) (ht : inR t) (hwhat : inR what) (hW : WOK σ) (hT : TOK σ) : MetA mX9_quickest [ar 153, ai s, ai t, ai what] σ (qQ σ (quickestF σ s t what)) := by
  have hS := hW.2.1
  have hR := hW.1
  have hTr := hW.2.2.1
  refine a_entry (by decide) (Nat.le_of_ble_eq_true rfl) ?_
  refine a_aload_n dX9_quickest_0 rfl rfl ?_
  refine a_iconst dX9_quickest_1 ?_
  refine a_putI (J := 0) fX9_85 k153 rfl rfl rfl dX9_quickest_2 ?_
  refine a_aload_n dX9_quickest_5 rfl rfl ?_
  refine a_iload_n dX9_quickest_6 rfl rfl ?_
  refine a_iload_n dX9_quickest_7 rfl rfl ?_
  refine a_cI (c := 153) (as := [ai s, ai t]) (rest := []) (t_areTwo (sN σ 153 0 0) s t hs ht) mvX9_areTwo lX9_287 k153 (by decide) rfl rfl rfl rfl (Nat.le_of_ble_eq_true rfl) (Nat.le_of_ble_eq_true rfl) (Nat.le_of_ble_eq_true rfl) dX9_quickest_8 ?_
  refine a_topI (y := if two σ s t then 1 else 0) (by simp only [th155]) ?_
  refine a_ifb_eq (tgt := 23) dX9_quickest_11 (by decide) (fun c11 => ?_) (fun c11 => ?_)
  · refine a_iconst dX9_quickest_23 ?_
    exact a_iret rfl ⟨by unfold quickestF; grind, th_F σ, th_T hT⟩ dX9_quickest_24
  · refine a_iload_n dX9_quickest_14 rfl rfl ?_
    refine a_if_lt (tgt := 23) dX9_quickest_15 (by decide) hwhat (fun c15 => ?_) (fun c15 => ?_)
    · refine a_iconst dX9_quickest_23 ?_
      exact a_iret rfl ⟨by unfold quickestF; grind, th_F σ, th_T hT⟩ dX9_quickest_24
    · refine a_iload_n dX9_quickest_18 rfl rfl ?_
      refine a_iconst dX9_quickest_19 ?_
      refine a_icmp_le (tgt := 25) dX9_quickest_20 (by decide) hwhat (inR_of (by omega) (by omega)) (fun c20 => ?_) (fun c20 => ?_)
      · refine a_aload_n dX9_quickest_25 rfl rfl ?_
        refine a_callV (c := 153) (as := []) (rest := []) (t_looksNow (sN σ 153 0 0) (Q_W (th_F σ) hW) (th_T hT)) mvX9_looksNow lX9_290 k153 (by decide) rfl rfl rfl rfl (Nat.le_of_ble_eq_true rfl) (Nat.le_of_ble_eq_true rfl) (Nat.le_of_ble_eq_true rfl) dX9_quickest_26 (fun u hu => ?_)
        obtain ⟨hFu, hTu, hRu⟩ := lk_fin hW (th_F σ) (by omega) (by omega) hu.2
        have hWu := Q_W hFu hW
        refine a_aload_n dX9_quickest_29 rfl rfl ?_
        refine a_iload_n dX9_quickest_30 rfl rfl ?_
        refine a_iload_n dX9_quickest_31 rfl rfl ?_
        refine a_callV (c := 153) (as := [ai s, ai t]) (rest := []) (t_laysProfile u s t hWu hTu (by omega) (by omega) (by omega) (by omega)) mvX9_laysProfile lX9_293 k153 (by decide) rfl rfl rfl rfl (Nat.le_of_ble_eq_true rfl) (Nat.le_of_ble_eq_true rfl) (Nat.le_of_ble_eq_true rfl) dX9_quickest_32 (fun v hv => ?_)
        obtain ⟨hFv, hTv, hRv, hCv, hKv⟩ := pr_fin hFu hTu hRu hv.2
        have hok := pf_ok hW (s := s) (t := t) (by omega) (by omega) (by omega) (by omega)
        have k30 : gN v 153 30 = (pfK σ s t).length := hKv.1
        have hWv := Q_W hFv hW
        refine a_bipush (x := (-2)) dX9_quickest_35 (by decide) ?_
        refine a_istore (ls' := [(4, ai (-2)), (0, ar 153), (1, ai s), (2, ai t), (3, ai what)]) dX9_quickest_37 (Nat.le_of_ble_eq_true rfl) rfl ?_
        refine a_ldc (x := 1000000) cX9_175 (by decide) dX9_quickest_39 ?_
        refine a_istore (ls' := [(5, ai 1000000), (4, ai (-2)), (0, ar 153), (1, ai s), (2, ai t), (3, ai what)]) dX9_quickest_41 (Nat.le_of_ble_eq_true rfl) rfl ?_
        refine a_iconst dX9_quickest_43 ?_
        refine a_istore (ls' := [(6, ai 0), (5, ai 1000000), (4, ai (-2)), (0, ar 153), (1, ai s), (2, ai t), (3, ai what)]) dX9_quickest_44 (Nat.le_of_ble_eq_true rfl) rfl ?_
        rw [show quickestF σ s t what = meetR (itr (qkF σ s t) (pfK σ s t).length 0 (-2, 1000000)) what from by unfold quickestF; rw [if_neg (by grind)]]
        exact a_keep (by simp) (t_quick_l σ v hW hFv hTv hRv s t (by omega) (by omega) (by omega) (by omega) hCv hKv what (by omega) (by omega) _ 0 (-2) 1000000 (by omega) (by omega) (by omega) (by omega) (by omega) (by omega) (by omega))
      · refine a_iconst dX9_quickest_23 ?_
        exact a_iret rfl ⟨by unfold quickestF; grind, th_F σ, th_T hT⟩ dX9_quickest_24

