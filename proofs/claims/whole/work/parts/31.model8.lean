set_option maxRecDepth 20000 in
theorem t_looksNow (σ : Sto) (hW : WOK σ) (hT : TOK σ) : MetA mX9_looksNow [ar 153] σ (fun r u => r = none ∧ Lkd σ u (-1) 0 0) := by
  refine a_entry (by decide) (Nat.le_of_ble_eq_true rfl) ?_
  refine a_aload_n dX9_looksNow_0 rfl rfl ?_
  refine a_iconst dX9_looksNow_1 ?_
  refine a_iconst dX9_looksNow_2 ?_
  refine a_iconst dX9_looksNow_3 ?_
  refine a_callV (c := 153) (as := [ai (-1), ai 0, ai 0]) (rest := []) (t_looks σ hW (-1) 0 0 (inR_of (by omega) (by omega)) (by omega) (by omega) (Or.inl rfl) hT) mvX9_looks lX9_249 k153 (by decide) rfl rfl rfl rfl (Nat.le_of_ble_eq_true rfl) (Nat.le_of_ble_eq_true rfl) (Nat.le_of_ble_eq_true rfl) dX9_looksNow_4 (fun u hu => ?_)
  exact a_vret rfl ⟨rfl, hu.2⟩ dX9_looksNow_7

theorem th_F (σ : Sto) : Fr pQ σ (sN σ 153 0 0) := Fr.rfl.sN (by unfold pQ; omega)
theorem th155 (σ : Sto) (j : Int) : gN (sN σ 153 0 0) 155 j = gN σ 155 j := Q155 (th_F σ) j
theorem th_T {σ : Sto} (hT : TOK σ) : TOK (sN σ 153 0 0) := fun i h0 h1 => by rw [gN_sN, if_neg (by omega), gN_sN, if_neg (by omega)]; exact hT i h0 h1
/-- looked at, in a store that differs from σ by scratch alone -/
theorem lk_fin {σ τ u : Sto} (hW : WOK σ) (hF : Fr pQ σ τ) {trip later gone : Int} (h2 : -60 ≤ later) (h3 : later ≤ 240) (h : Lkd τ u trip later gone) : Fr pQ σ u ∧ TOK u ∧ Rq (look σ trip later gone) u :=
  ⟨hF.trans (h.1.mono (fun _ _ q => pLk_Q q)), h.2.1, (look_Rq hW hF h2 h3).trans (h.q (Q_W hF hW) h2 h3)⟩
def pfL (σ : Sto) (s t : Int) : List Cd := candL (lkN σ) s t
def pfK (σ : Sto) (s t : Int) : List Int := keptL (pfL σ s t) (gN σ 155 (15 + 10 * s + t))
/-- the profile is laid, told by σ -/
theorem pr_fin {σ u v : Sto} {s t : Int} (hF : Fr pQ σ u) (hT : TOK u) (hR : Rq (lkN σ) u) (h : PrIs u v s t) : Fr pQ σ v ∧ TOK v ∧ Rq (lkN σ) v ∧ CdIs v (pfL σ s t) ∧ KpIs v (pfK σ s t) := by
  obtain ⟨h1, h2, h3⟩ := h
  rw [hR.cand] at h2 h3
  rw [Q155 hF] at h3
  have r := pPr_Rd h1
  exact ⟨hF.trans (h1.mono (fun _ _ q => pPr_Q q)), r.T hT, hR.trans r.q, h2, h3⟩
theorem pf_ok {σ : Sto} (hW : WOK σ) {s t : Int} (hs0 : 0 ≤ s) (hs1 : s < 10) (h0 : 0 ≤ t) (h1 : t < 10) : ((pfL σ s t).length : Int) ≤ 300 ∧ (∀ x ∈ pfL σ s t, cdOK x) ∧ ((pfK σ s t).length : Int) ≤ 300 ∧ ∀ x ∈ pfK σ s t, 0 ≤ x ∧ x < (pfL σ s t).length := by
  have a := cand_ok (look_W hW (-1) 0 0) (look_T hW (trip := -1) (gone := 0) (by omega) (by omega)) hs0 hs1 h0 h1
  have b := kept_ok (L := pfL σ s t) (w := gN σ 155 (15 + 10 * s + t))
  have b1 := b.1
  have a1 : ((pfL σ s t).length : Int) ≤ 300 := a.1
  exact ⟨a1, a.2, by unfold pfK; omega, b.2⟩
theorem KpIs.at {u : Sto} {K : List Int} (h : KpIs u K) {k : Int} (h0 : 0 ≤ k) (h1 : k < K.length) : gN u 167 k = K.getD k.toNat 0 ∧ K.getD k.toNat 0 ∈ K := by
  have e : ((k.toNat : Nat) : Int) = k := by omega
  have hk : k.toNat < K.length := by omega
  have := h.2 k.toNat (K[k.toNat]) (List.getElem?_eq_getElem hk)
  rw [e] at this
  rw [List.getD_eq_getElem?_getD, List.getElem?_eq_getElem hk]
  exact ⟨this, List.getElem_mem _⟩
abbrev two (σ : Sto) (s t : Int) : Prop := (0 ≤ s ∧ s < gN σ 155 0) ∧ (0 ≤ t ∧ t < gN σ 155 0) ∧ s ≠ t

def profileF (σ : Sto) (s t : Int) : Int := if two σ s t then (pfK σ s t).length else -1

set_option maxRecDepth 20000 in
theorem t_profile (σ : Sto) (s t : Int) (hs : inR s) (ht : inR t) (hW : WOK σ) (hT : TOK σ) : MetA mX9_profile [ar 153, ai s, ai t] σ (qQ σ (profileF σ s t)) := by
  have hS := hW.2.1
  refine a_entry (by decide) (Nat.le_of_ble_eq_true rfl) ?_
  refine a_aload_n dX9_profile_0 rfl rfl ?_
  refine a_iconst dX9_profile_1 ?_
  refine a_putI (J := 0) fX9_85 k153 rfl rfl rfl dX9_profile_2 ?_
  refine a_aload_n dX9_profile_5 rfl rfl ?_
  refine a_iload_n dX9_profile_6 rfl rfl ?_
  refine a_iload_n dX9_profile_7 rfl rfl ?_
  refine a_cI (c := 153) (as := [ai s, ai t]) (rest := []) (t_areTwo (sN σ 153 0 0) s t hs ht) mvX9_areTwo lX9_287 k153 (by decide) rfl rfl rfl rfl (Nat.le_of_ble_eq_true rfl) (Nat.le_of_ble_eq_true rfl) (Nat.le_of_ble_eq_true rfl) dX9_profile_8 ?_
  refine a_topI (y := if two σ s t then 1 else 0) (by simp only [th155]) ?_
  refine a_ifb_ne (tgt := 16) dX9_profile_11 (by decide) (fun c11 => ?_) (fun c11 => ?_)
  · refine a_aload_n dX9_profile_16 rfl rfl ?_
    refine a_callV (c := 153) (as := []) (rest := []) (t_looksNow (sN σ 153 0 0) (Q_W (th_F σ) hW) (th_T hT)) mvX9_looksNow lX9_290 k153 (by decide) rfl rfl rfl rfl (Nat.le_of_ble_eq_true rfl) (Nat.le_of_ble_eq_true rfl) (Nat.le_of_ble_eq_true rfl) dX9_profile_17 (fun u hu => ?_)
    obtain ⟨hFu, hTu, hRu⟩ := lk_fin hW (th_F σ) (by omega) (by omega) hu.2
    have hWu := Q_W hFu hW
    refine a_aload_n dX9_profile_20 rfl rfl ?_
    refine a_iload_n dX9_profile_21 rfl rfl ?_
    refine a_iload_n dX9_profile_22 rfl rfl ?_
    refine a_callV (c := 153) (as := [ai s, ai t]) (rest := []) (t_laysProfile u s t hWu hTu (by omega) (by omega) (by omega) (by omega)) mvX9_laysProfile lX9_293 k153 (by decide) rfl rfl rfl rfl (Nat.le_of_ble_eq_true rfl) (Nat.le_of_ble_eq_true rfl) (Nat.le_of_ble_eq_true rfl) dX9_profile_23 (fun v hv => ?_)
    obtain ⟨hFv, hTv, hRv, hCv, hKv⟩ := pr_fin hFu hTu hRu hv.2
    have hok := pf_ok hW (s := s) (t := t) (by omega) (by omega) (by omega) (by omega)
    have k30 : gN v 153 30 = (pfK σ s t).length := hKv.1
    have hWv := Q_W hFv hW
    refine a_aload_n dX9_profile_26 rfl rfl ?_
    refine a_getI (J := 30) fX9_278 k153 rfl rfl dX9_profile_27 ?_
    exact a_iret rfl ⟨by unfold profileF; grind, hFv, hTv⟩ dX9_profile_30
  · refine a_iconst dX9_profile_14 ?_
    exact a_iret rfl ⟨by unfold profileF; grind, th_F σ, th_T hT⟩ dX9_profile_15

def cdW (q : Cd) (what : Int) : Int := if what = 0 then q.1 else if what = 1 then q.2.1 else q.2.2
def atF (σ : Sto) (s t i what : Int) : Int := if ¬ two σ s t ∨ i < 0 ∨ what < 0 ∨ 2 < what then -1 else if (pfK σ s t).length ≤ i then -2 else cdW (cd (pfL σ s t) ((pfK σ s t).getD i.toNat 0)) what

set_option maxRecDepth 20000 in
theorem t_at (σ : Sto) (s t i what : Int) (hs : inR s) (ht : inR t) (hi : inR i) (hw : inR what) (hW : WOK σ) (hT : TOK σ) : MetA mX9_at [ar 153, ai s, ai t, ai i, ai what] σ (qQ σ (atF σ s t i what)) := by
  have hS := hW.2.1
  refine a_entry (by decide) (Nat.le_of_ble_eq_true rfl) ?_
  refine a_aload_n dX9_at_0 rfl rfl ?_
  refine a_iconst dX9_at_1 ?_
  refine a_putI (J := 0) fX9_85 k153 rfl rfl rfl dX9_at_2 ?_
  refine a_aload_n dX9_at_5 rfl rfl ?_
  refine a_iload_n dX9_at_6 rfl rfl ?_
  refine a_iload_n dX9_at_7 rfl rfl ?_
  refine a_cI (c := 153) (as := [ai s, ai t]) (rest := []) (t_areTwo (sN σ 153 0 0) s t hs ht) mvX9_areTwo lX9_287 k153 (by decide) rfl rfl rfl rfl (Nat.le_of_ble_eq_true rfl) (Nat.le_of_ble_eq_true rfl) (Nat.le_of_ble_eq_true rfl) dX9_at_8 ?_
  refine a_topI (y := if two σ s t then 1 else 0) (by simp only [th155]) ?_
  refine a_ifb_eq (tgt := 29) dX9_at_11 (by decide) (fun c11 => ?_) (fun c11 => ?_)
  · refine a_iconst dX9_at_29 ?_
    exact a_iret rfl ⟨by unfold atF; grind, th_F σ, th_T hT⟩ dX9_at_30
  · refine a_iload_n dX9_at_14 rfl rfl ?_
    refine a_if_lt (tgt := 29) dX9_at_15 (by decide) hi (fun c15 => ?_) (fun c15 => ?_)
    · refine a_iconst dX9_at_29 ?_
      exact a_iret rfl ⟨by unfold atF; grind, th_F σ, th_T hT⟩ dX9_at_30
    · refine a_iload dX9_at_18 rfl ?_
      refine a_if_lt (tgt := 29) dX9_at_20 (by decide) hw (fun c20 => ?_) (fun c20 => ?_)
      · refine a_iconst dX9_at_29 ?_
        exact a_iret rfl ⟨by unfold atF; grind, th_F σ, th_T hT⟩ dX9_at_30
      · refine a_iload dX9_at_23 rfl ?_
        refine a_iconst dX9_at_25 ?_
        refine a_icmp_le (tgt := 31) dX9_at_26 (by decide) hw (inR_of (by omega) (by omega)) (fun c26 => ?_) (fun c26 => ?_)
        · refine a_aload_n dX9_at_31 rfl rfl ?_
          refine a_callV (c := 153) (as := []) (rest := []) (t_looksNow (sN σ 153 0 0) (Q_W (th_F σ) hW) (th_T hT)) mvX9_looksNow lX9_290 k153 (by decide) rfl rfl rfl rfl (Nat.le_of_ble_eq_true rfl) (Nat.le_of_ble_eq_true rfl) (Nat.le_of_ble_eq_true rfl) dX9_at_32 (fun u hu => ?_)
          obtain ⟨hFu, hTu, hRu⟩ := lk_fin hW (th_F σ) (by omega) (by omega) hu.2
          have hWu := Q_W hFu hW
          refine a_aload_n dX9_at_35 rfl rfl ?_
          refine a_iload_n dX9_at_36 rfl rfl ?_
          refine a_iload_n dX9_at_37 rfl rfl ?_
          refine a_callV (c := 153) (as := [ai s, ai t]) (rest := []) (t_laysProfile u s t hWu hTu (by omega) (by omega) (by omega) (by omega)) mvX9_laysProfile lX9_293 k153 (by decide) rfl rfl rfl rfl (Nat.le_of_ble_eq_true rfl) (Nat.le_of_ble_eq_true rfl) (Nat.le_of_ble_eq_true rfl) dX9_at_38 (fun v hv => ?_)
          obtain ⟨hFv, hTv, hRv, hCv, hKv⟩ := pr_fin hFu hTu hRu hv.2
          have hok := pf_ok hW (s := s) (t := t) (by omega) (by omega) (by omega) (by omega)
          have k30 : gN v 153 30 = (pfK σ s t).length := hKv.1
          have hWv := Q_W hFv hW
          refine a_iload_n dX9_at_41 rfl rfl ?_
          refine a_aload_n dX9_at_42 rfl rfl ?_
          refine a_getI (J := 30) fX9_278 k153 rfl rfl dX9_at_43 ?_
          refine a_icmp_lt (tgt := 52) dX9_at_46 (by decide) hi (inR_gN _ _ _) (fun c46 => ?_) (fun c46 => ?_)
          · have bk := hKv.at (k := i) (by omega) (by omega)
            have bx := hok.2.2.2 _ bk.2
            have ec := hCv.at bx.1 bx.2
            have bL := hok.1
            refine a_iload dX9_at_52 rfl ?_
            refine a_if_ne (tgt := 71) dX9_at_54 (by decide) hw (fun c54 => ?_) (fun c54 => ?_)
            · refine a_iload dX9_at_71 rfl ?_
              refine a_iconst dX9_at_73 ?_
              refine a_icmp_ne (tgt := 91) dX9_at_74 (by decide) hw (inR_of (by omega) (by omega)) (fun c74 => ?_) (fun c74 => ?_)
              · refine a_aload_n dX9_at_91 rfl rfl ?_
                refine a_getF (d := 166) fX9_51 k153 rfl r153_27 dX9_at_92 ?_
                refine a_aload_n dX9_at_95 rfl rfl ?_
                refine a_getF (d := 167) fX9_54 k153 rfl r153_29 dX9_at_96 ?_
                refine a_iload_n dX9_at_99 rfl rfl ?_
                refine a_ild k167 n167 (by omega) (by omega) dX9_at_100 ?_
                refine a_topI (y := (pfK σ s t).getD i.toNat 0) bk.1 ?_
                refine a_ild k166 n166 (by omega) (by omega) dX9_at_101 ?_
                refine a_topI (y := (cd (pfL σ s t) ((pfK σ s t).getD i.toNat 0)).2.2) ec.2.2 ?_
                exact a_iret rfl ⟨by unfold atF cdW; grind, hFv, hTv⟩ dX9_at_102
              · refine a_aload_n dX9_at_77 rfl rfl ?_
                refine a_getF (d := 165) fX9_48 k153 rfl r153_26 dX9_at_78 ?_
                refine a_aload_n dX9_at_81 rfl rfl ?_
                refine a_getF (d := 167) fX9_54 k153 rfl r153_29 dX9_at_82 ?_
                refine a_iload_n dX9_at_85 rfl rfl ?_
                refine a_ild k167 n167 (by omega) (by omega) dX9_at_86 ?_
                refine a_topI (y := (pfK σ s t).getD i.toNat 0) bk.1 ?_
                refine a_ild k165 n165 (by omega) (by omega) dX9_at_87 ?_
                refine a_topI (y := (cd (pfL σ s t) ((pfK σ s t).getD i.toNat 0)).2.1) ec.2.1 ?_
                refine a_goto (tgt := 102) dX9_at_88 (by decide) ?_
                exact a_iret rfl ⟨by unfold atF cdW; grind, hFv, hTv⟩ dX9_at_102
            · refine a_aload_n dX9_at_57 rfl rfl ?_
              refine a_getF (d := 164) fX9_45 k153 rfl r153_25 dX9_at_58 ?_
              refine a_aload_n dX9_at_61 rfl rfl ?_
              refine a_getF (d := 167) fX9_54 k153 rfl r153_29 dX9_at_62 ?_
              refine a_iload_n dX9_at_65 rfl rfl ?_
              refine a_ild k167 n167 (by omega) (by omega) dX9_at_66 ?_
              refine a_topI (y := (pfK σ s t).getD i.toNat 0) bk.1 ?_
              refine a_ild k164 n164 (by omega) (by omega) dX9_at_67 ?_
              refine a_topI (y := (cd (pfL σ s t) ((pfK σ s t).getD i.toNat 0)).1) ec.1 ?_
              refine a_goto (tgt := 102) dX9_at_68 (by decide) ?_
              exact a_iret rfl ⟨by unfold atF cdW; grind, hFv, hTv⟩ dX9_at_102
          · refine a_bipush (x := (-2)) dX9_at_49 (by decide) ?_
            exact a_iret rfl ⟨by unfold atF cdW; grind, hFv, hTv⟩ dX9_at_51
        · refine a_iconst dX9_at_29 ?_
          exact a_iret rfl ⟨by unfold atF; grind, th_F σ, th_T hT⟩ dX9_at_30

