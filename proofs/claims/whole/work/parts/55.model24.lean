theorem foF_eq {σ τ : Sto} (h : ∀ j, gN τ 155 j = gN σ 155 j) (trip : Int) : foF τ trip = foF σ trip := by unfold foF; simp only [h]
theorem moF_eq {σ τ : Sto} (h : ∀ j, gN τ 155 j = gN σ 155 j) (trip : Int) : moF τ trip = moF σ trip := by
  unfold moF
  rw [h, show moF1 τ trip = moF1 σ trip from by funext i n; unfold moF1; rw [h]]
theorem nxt_eq {σ τ : Sto} (h : ∀ j, gN τ 155 j = gN σ 155 j) (i : Int) : nxt τ i = nxt σ i := by unfold nxt; simp only [h]
theorem TrOK.of {σ τ : Sto} (h : ∀ j, gN τ 155 j = gN σ 155 j) (hT : TrOK σ) : TrOK τ := by
  unfold TrOK trp rid
  simp only [h]
  exact hT
theorem cgF_eq {σ τ : Sto} (h : ∀ j, gN τ 155 j = gN σ 155 j) (h8 : ∀ j, gN τ 158 j = gN σ 158 j) (frm mi : Int) : ∀ (n : Nat) (i a : Int), cgF τ frm mi n i a = cgF σ frm mi n i a
  | 0, _, _ => rfl
  | n + 1, i, a => by
    unfold cgF
    have e : cgB τ frm mi i = cgB σ frm mi i := by unfold cgB; rw [h8]
    simp only [e, h, nxt, cgF_eq h h8 frm mi n]
theorem canF_eq {σ τ : Sto} (h : ∀ j, gN τ 155 j = gN σ 155 j) (h8 : ∀ j, gN τ 158 j = gN σ 158 j) (trip frm mi : Int) : canF τ trip frm mi = canF σ trip frm mi := by
  unfold canF
  rw [cgF_eq h h8, foF_eq h, h]
theorem te_ok {σ : Sto} : ∀ (n : Nat) (i : Int), 0 < n → n = (gN σ 155 3 - i).toNat → i < teF σ n i ∧ teF σ n i ≤ gN σ 155 3
  | 0, _, h, _ => absurd h (by omega)
  | n + 1, i, _, hn => by
    unfold teF
    split
    · rename_i hx
      have := te_ok (σ := σ) n (i + 1) (by omega) (by omega)
      omega
    · omega
def DlPost (σ u : Sto) (trip j mi : Int) : Prop := if 0 < delayF σ trip j mi then (∃ y, Kept (sN σ 153 0 0) y ∧ Fr (fun c _ => c = 158) y u ∧ ∀ i : Int, 0 ≤ i → i < 60 → gN u 158 i = if foF σ trip + j ≤ i ∧ i < teF σ (gN σ 155 3 - (foF σ trip + j)).toNat (foF σ trip + j) then mi else gN σ 158 i) else u = sN σ 153 0 0
theorem dl_ge {σ : Sto} {mi : Int} : ∀ (n : Nat) (i c : Int), 0 ≤ c → 0 ≤ dlF σ mi n i c
  | 0, _, _, h => h
  | n + 1, i, c, h => by
    unfold dlF
    split
    · exact dl_ge n (i + 1) _ (by split <;> omega)
    · split <;> omega
theorem dl_le {σ : Sto} {mi : Int} : ∀ (n : Nat) (i c : Int), dlF σ mi n i c ≤ c + n
  | 0, _, c => by unfold dlF; omega
  | n + 1, i, c => by
    unfold dlF
    split
    · have := dl_le (σ := σ) (mi := mi) n (i + 1) (c + if gN σ 158 i = mi then 0 else 1)
      have e : (c + if gN σ 158 i = mi then 0 else 1) ≤ c + 1 := by split <;> omega
      omega
    · split <;> omega

set_option maxRecDepth 20000 in
theorem t_delay_w (σ : Sto) (hW : WOK σ) (hR2 : TrOK σ) (hU : UnOK σ) (trip j mi : Int) (ht : trp σ trip) (hj0 : 0 ≤ j) (hj1 : j < moF σ trip) (hm0 : -60 ≤ mi) (hm1 : mi ≤ 240) (y : Sto) (hK : Kept (sN σ 153 0 0) y) (c : Int) (hc : delayF σ trip j mi = c) (hcp : 0 < c) : ∀ (n : Nat) (i : Int) (τ : Sto), (foF σ trip + j) ≤ i → i < gN σ 155 3 → n = (gN σ 155 3 - i).toNat → Fr (fun c _ => c = 158) y τ → (∀ k : Int, 0 ≤ k → k < 60 → gN τ 158 k = if (foF σ trip + j) ≤ k ∧ k < i then mi else gN σ 158 k) → teF σ (gN σ 155 3 - (foF σ trip + j)).toNat (foF σ trip + j) = teF σ n i → RunA mX9_delay (fun r u => r = some (ai (delayF σ trip j mi)) ∧ DlPost σ u trip j mi) 124 [(6, ai i), (5, ai c), (0, ar 153), (1, ai trip), (2, ai j), (3, ai mi), (4, ai (foF σ trip + j))] [] τ := by
  have hR := hW.1
  have fo := fo_ok hR2 ht
  have fm := fo_mo hR.1 hR2 ht
  intro n
  induction n with
  | zero =>
    intro i τ h0 h1 hn hF hS hE
    exfalso; omega
  | succ n ih =>
    intro i τ h0 h1 hn hF hS hE
    have e155 : ∀ j, gN τ 155 j = gN σ 155 j := fun j => (hF.1 155 j (by omega)).trans ((hK.1.1 155 j (by unfold pUd; omega)).trans (th155 σ j))
    refine a_iload dX9_delay_124 rfl ?_
    refine a_iconst dX9_delay_126 ?_
    refine a_icmp_eq (tgt := 149) dX9_delay_127 (by decide) (inR_of (by omega) (by omega)) (inR_of (by omega) (by omega)) (fun c127 => ?_) (fun c127 => ?_)
    · exfalso; omega
    · refine a_aload_n dX9_delay_130 rfl rfl ?_
      refine a_getF (d := 158) fX9_26 k153 rfl r153_16 dX9_delay_131 ?_
      refine a_iload dX9_delay_134 rfl ?_
      refine a_iload_n dX9_delay_136 rfl rfl ?_
      refine a_ist k158 n158 (by omega) (by omega) dX9_delay_137 ?_
      refine a_aload_n dX9_delay_138 rfl rfl ?_
      refine a_iload dX9_delay_139 rfl ?_
      refine a_cI (c := 153) (as := [ai i]) (rest := []) (t_behind (sN τ 158 i mi) i (by omega) (by omega) (by rw [show ∀ j, gN (sN τ 158 i mi) 155 j = gN σ 155 j from fun j => by rw [gN_sN, if_neg (by omega)]; exact e155 j]; omega)) mvX9_behind lX9_210 k153 (by decide) rfl rfl rfl rfl (Nat.le_of_ble_eq_true rfl) (Nat.le_of_ble_eq_true rfl) (Nat.le_of_ble_eq_true rfl) dX9_delay_141 ?_
      refine a_topI (y := if nxt σ i then i + 1 else -1) (by simp only [show ∀ j, gN (sN τ 158 i mi) 155 j = gN σ 155 j from fun j => by rw [gN_sN, if_neg (by omega)]; exact e155 j]) ?_
      have hS2 : ∀ k : Int, 0 ≤ k → k < 60 → gN (sN τ 158 i mi) 158 k = if (foF σ trip + j) ≤ k ∧ k < i + 1 then mi else gN σ 158 k := fun k q0 q1 => by rw [gN_sN]; by_cases e : k = i; rw [e, if_pos ⟨rfl, rfl⟩, if_pos ⟨by omega, by omega⟩, nrm_of (inR_of (by omega) (by omega))]; rw [if_neg (by omega), hS k q0 q1]; grind
      by_cases hnx : nxt σ i
      · rw [if_pos hnx]
        refine a_istore (ls' := [(6, ai (i + 1)), (5, ai c), (0, ar 153), (1, ai trip), (2, ai j), (3, ai mi), (4, ai (foF σ trip + j))]) dX9_delay_144 (Nat.le_of_ble_eq_true rfl) rfl ?_
        refine a_goto (tgt := 124) dX9_delay_146 (by decide) ?_
        exact a_keep (by simp) (ih (i + 1) (sN τ 158 i mi) (by omega) (by omega) (by omega) (hF.sN rfl) hS2 (by rw [hE]; show (if nxt σ i then _ else _) = _; rw [if_pos hnx]))
      · rw [if_neg hnx]
        refine a_istore (ls' := [(6, ai (-1)), (5, ai c), (0, ar 153), (1, ai trip), (2, ai j), (3, ai mi), (4, ai (foF σ trip + j))]) dX9_delay_144 (Nat.le_of_ble_eq_true rfl) rfl ?_
        refine a_goto (tgt := 124) dX9_delay_146 (by decide) ?_
        refine a_iload dX9_delay_124 rfl ?_
        refine a_iconst dX9_delay_126 ?_
        refine a_icmp_eq (tgt := 149) dX9_delay_127 (by decide) (inR_of (by omega) (by omega)) (inR_of (by omega) (by omega)) (fun c127 => ?_) (fun c127 => ?_)
        · refine a_iload dX9_delay_149 rfl ?_
          exact a_iret rfl ⟨by rw [hc], by unfold DlPost; rw [if_pos (by omega)]; refine ⟨y, hK, hF.sN rfl, fun k q0 q1 => ?_⟩; rw [hS2 k q0 q1, show teF σ (gN σ 155 3 - (foF σ trip + j)).toNat (foF σ trip + j) = i + 1 from by rw [hE]; show (if nxt σ i then _ else _) = _; rw [if_neg hnx]]⟩ dX9_delay_151
        · exact absurd c127 (by decide)

theorem UnOK.th {σ : Sto} (h : UnOK σ) : UnOK (sN σ 153 0 0) := by
  unfold UnOK
  rw [show gN (sN σ 153 0 0) 153 20 = gN σ 153 20 from by rw [gN_sN, if_neg (by omega)]]
  exact ⟨h.1, fun k i a b c d => by rw [gN_sN, if_neg (by omega)]; exact h.2 k i a b c d⟩

set_option maxRecDepth 20000 in
theorem t_delay_c (σ : Sto) (hW : WOK σ) (hR2 : TrOK σ) (hU : UnOK σ) (trip j mi : Int) (ht : trp σ trip) (hj0 : 0 ≤ j) (hj1 : j < moF σ trip) (hm0 : -60 ≤ mi) (hm1 : mi ≤ 240) : ∀ (n : Nat) (i c : Int), (foF σ trip + j) ≤ i → i < gN σ 155 3 → n = (gN σ 155 3 - i).toNat → delayF σ trip j mi = dlF σ mi n i c → 0 ≤ c ∧ c ≤ i → RunA mX9_delay (fun r u => r = some (ai (delayF σ trip j mi)) ∧ DlPost σ u trip j mi) 71 [(6, ai i), (5, ai c), (4, ai (foF σ trip + j)), (0, ar 153), (1, ai trip), (2, ai j), (3, ai mi)] [] (sN σ 153 0 0) := by
  have hR := hW.1
  have fo := fo_ok hR2 ht
  have fm := fo_mo hR.1 hR2 ht
  intro n
  induction n with
  | zero =>
    intro i c h0 h1 hn hE hcb
    exfalso; omega
  | succ n ih =>
    intro i c h0 h1 hn hE hcb
    have bs := hW.2.2.2.2.2.2 i (by omega) (by omega)
    refine a_iload dX9_delay_71 rfl ?_
    refine a_iconst dX9_delay_73 ?_
    refine a_icmp_eq (tgt := 109) dX9_delay_74 (by decide) (inR_of (by omega) (by omega)) (inR_of (by omega) (by omega)) (fun c74 => ?_) (fun c74 => ?_)
    · exfalso; omega
    · refine a_iload dX9_delay_77 rfl ?_
      refine a_aload_n dX9_delay_79 rfl rfl ?_
      refine a_getF (d := 158) fX9_26 k153 rfl r153_16 dX9_delay_80 ?_
      refine a_iload dX9_delay_83 rfl ?_
      refine a_ild k158 n158 (by omega) (by omega) dX9_delay_85 ?_
      refine a_topI (y := gN σ 158 i) (by rw [gN_sN, if_neg (by omega)]) ?_
      refine a_iload_n dX9_delay_86 rfl rfl ?_
      refine a_icmp_ne (tgt := 94) dX9_delay_87 (by decide) (inR_gN _ _ _) (inR_of (by omega) (by omega)) (fun c87 => ?_) (fun c87 => ?_)
      · refine a_iconst dX9_delay_94 ?_
        refine a_iadd dX9_delay_95 ?_
        refine a_istore (ls' := [(5, ai (c + 1)), (6, ai i), (4, ai (foF σ trip + j)), (0, ar 153), (1, ai trip), (2, ai j), (3, ai mi)]) dX9_delay_96 (Nat.le_of_ble_eq_true rfl) rfl ?_
        refine a_aload_n dX9_delay_98 rfl rfl ?_
        refine a_iload dX9_delay_99 rfl ?_
        refine a_cI (c := 153) (as := [ai i]) (rest := []) (t_behind (sN σ 153 0 0) i (by omega) (by omega) (by rw [th155 σ]; omega)) mvX9_behind lX9_210 k153 (by decide) rfl rfl rfl rfl (Nat.le_of_ble_eq_true rfl) (Nat.le_of_ble_eq_true rfl) (Nat.le_of_ble_eq_true rfl) dX9_delay_101 ?_
        refine a_topI (y := if nxt σ i then i + 1 else -1) (by simp only [th155 σ]) ?_
        by_cases hnx : nxt σ i
        · rw [if_pos hnx]
          refine a_istore (ls' := [(6, ai (i + 1)), (5, ai (c + 1)), (4, ai (foF σ trip + j)), (0, ar 153), (1, ai trip), (2, ai j), (3, ai mi)]) dX9_delay_104 (Nat.le_of_ble_eq_true rfl) rfl ?_
          refine a_goto (tgt := 71) dX9_delay_106 (by decide) ?_
          exact a_keep (by simp) (ih (i + 1) (c + 1) (by omega) (by omega) (by omega) (by rw [hE]; show (if nxt σ i then _ else _) = _; rw [if_pos hnx]; grind) (by omega))
        · rw [if_neg hnx]
          have hc : delayF σ trip j mi = c + 1 := by rw [hE]; show (if nxt σ i then _ else _) = _; rw [if_neg hnx]; grind
          refine a_istore (ls' := [(6, ai (-1)), (5, ai (c + 1)), (4, ai (foF σ trip + j)), (0, ar 153), (1, ai trip), (2, ai j), (3, ai mi)]) dX9_delay_104 (Nat.le_of_ble_eq_true rfl) rfl ?_
          refine a_goto (tgt := 71) dX9_delay_106 (by decide) ?_
          refine a_iload dX9_delay_71 rfl ?_
          refine a_iconst dX9_delay_73 ?_
          refine a_icmp_eq (tgt := 109) dX9_delay_74 (by decide) (inR_of (by omega) (by omega)) (inR_of (by omega) (by omega)) (fun c74 => ?_) (fun c74 => ?_)
          · refine a_iload dX9_delay_109 rfl ?_
            refine a_if_ne (tgt := 116) dX9_delay_111 (by decide) (inR_of (by omega) (by omega)) (fun c111 => ?_) (fun c111 => ?_)
            · refine a_aload_n dX9_delay_116 rfl rfl ?_
              refine a_callV (c := 153) (as := []) (rest := []) (t_keeps (sN σ 153 0 0) (UnOK.th hU)) mvX9_keeps lX9_232 k153 (by decide) rfl rfl rfl rfl (Nat.le_of_ble_eq_true rfl) (Nat.le_of_ble_eq_true rfl) (Nat.le_of_ble_eq_true rfl) dX9_delay_117 (fun y hy => ?_)
              have hK := hy.2
              refine a_iload dX9_delay_120 rfl ?_
              refine a_istore (ls' := [(6, ai (foF σ trip + j)), (5, ai (c + 1)), (4, ai (foF σ trip + j)), (0, ar 153), (1, ai trip), (2, ai j), (3, ai mi)]) dX9_delay_122 (Nat.le_of_ble_eq_true rfl) rfl ?_
              refine a_keep (ls' := [(6, ai (foF σ trip + j)), (5, ai (c + 1)), (0, ar 153), (1, ai trip), (2, ai j), (3, ai mi), (4, ai (foF σ trip + j))]) (by simp) ?_
              refine t_delay_w σ hW hR2 hU trip j mi ht hj0 hj1 hm0 hm1 y hK (c + 1) hc (by omega) (gN σ 155 3 - (foF σ trip + j)).toNat (foF σ trip + j) y (by omega) (by omega) (by omega) Fr.rfl (fun k q0 q1 => ?_) rfl
              rw [hK.1.1 158 k (by unfold pUd; omega), gN_sN, if_neg (by omega), if_neg (by omega)]
            · refine a_iconst dX9_delay_114 ?_
              exact a_iret rfl ⟨by rw [hc]; congr 2; omega, by unfold DlPost; rw [if_neg (by omega)]⟩ dX9_delay_115
          · exact absurd c74 (by decide)
      · refine a_iconst dX9_delay_90 ?_
        refine a_goto (tgt := 95) dX9_delay_91 (by decide) ?_
        refine a_iadd dX9_delay_95 ?_
        refine a_istore (ls' := [(5, ai (c + 0)), (6, ai i), (4, ai (foF σ trip + j)), (0, ar 153), (1, ai trip), (2, ai j), (3, ai mi)]) dX9_delay_96 (Nat.le_of_ble_eq_true rfl) rfl ?_
        refine a_aload_n dX9_delay_98 rfl rfl ?_
        refine a_iload dX9_delay_99 rfl ?_
        refine a_cI (c := 153) (as := [ai i]) (rest := []) (t_behind (sN σ 153 0 0) i (by omega) (by omega) (by rw [th155 σ]; omega)) mvX9_behind lX9_210 k153 (by decide) rfl rfl rfl rfl (Nat.le_of_ble_eq_true rfl) (Nat.le_of_ble_eq_true rfl) (Nat.le_of_ble_eq_true rfl) dX9_delay_101 ?_
        refine a_topI (y := if nxt σ i then i + 1 else -1) (by simp only [th155 σ]) ?_
        by_cases hnx : nxt σ i
        · rw [if_pos hnx]
          refine a_istore (ls' := [(6, ai (i + 1)), (5, ai (c + 0)), (4, ai (foF σ trip + j)), (0, ar 153), (1, ai trip), (2, ai j), (3, ai mi)]) dX9_delay_104 (Nat.le_of_ble_eq_true rfl) rfl ?_
          refine a_goto (tgt := 71) dX9_delay_106 (by decide) ?_
          exact a_keep (by simp) (ih (i + 1) (c + 0) (by omega) (by omega) (by omega) (by rw [hE]; show (if nxt σ i then _ else _) = _; rw [if_pos hnx]; grind) (by omega))
        · rw [if_neg hnx]
          have hc : delayF σ trip j mi = c + 0 := by rw [hE]; show (if nxt σ i then _ else _) = _; rw [if_neg hnx]; grind
          refine a_istore (ls' := [(6, ai (-1)), (5, ai (c + 0)), (4, ai (foF σ trip + j)), (0, ar 153), (1, ai trip), (2, ai j), (3, ai mi)]) dX9_delay_104 (Nat.le_of_ble_eq_true rfl) rfl ?_
          refine a_goto (tgt := 71) dX9_delay_106 (by decide) ?_
          refine a_iload dX9_delay_71 rfl ?_
          refine a_iconst dX9_delay_73 ?_
          refine a_icmp_eq (tgt := 109) dX9_delay_74 (by decide) (inR_of (by omega) (by omega)) (inR_of (by omega) (by omega)) (fun c74 => ?_) (fun c74 => ?_)
          · refine a_iload dX9_delay_109 rfl ?_
            refine a_if_ne (tgt := 116) dX9_delay_111 (by decide) (inR_of (by omega) (by omega)) (fun c111 => ?_) (fun c111 => ?_)
            · refine a_aload_n dX9_delay_116 rfl rfl ?_
              refine a_callV (c := 153) (as := []) (rest := []) (t_keeps (sN σ 153 0 0) (UnOK.th hU)) mvX9_keeps lX9_232 k153 (by decide) rfl rfl rfl rfl (Nat.le_of_ble_eq_true rfl) (Nat.le_of_ble_eq_true rfl) (Nat.le_of_ble_eq_true rfl) dX9_delay_117 (fun y hy => ?_)
              have hK := hy.2
              refine a_iload dX9_delay_120 rfl ?_
              refine a_istore (ls' := [(6, ai (foF σ trip + j)), (5, ai (c + 0)), (4, ai (foF σ trip + j)), (0, ar 153), (1, ai trip), (2, ai j), (3, ai mi)]) dX9_delay_122 (Nat.le_of_ble_eq_true rfl) rfl ?_
              refine a_keep (ls' := [(6, ai (foF σ trip + j)), (5, ai (c + 0)), (0, ar 153), (1, ai trip), (2, ai j), (3, ai mi), (4, ai (foF σ trip + j))]) (by simp) ?_
              refine t_delay_w σ hW hR2 hU trip j mi ht hj0 hj1 hm0 hm1 y hK (c + 0) hc (by omega) (gN σ 155 3 - (foF σ trip + j)).toNat (foF σ trip + j) y (by omega) (by omega) (by omega) Fr.rfl (fun k q0 q1 => ?_) rfl
              rw [hK.1.1 158 k (by unfold pUd; omega), gN_sN, if_neg (by omega), if_neg (by omega)]
            · refine a_iconst dX9_delay_114 ?_
              exact a_iret rfl ⟨by rw [hc]; congr 2; omega, by unfold DlPost; rw [if_neg (by omega)]⟩ dX9_delay_115
          · exact absurd c74 (by decide)

set_option maxRecDepth 20000 in
theorem t_delay (σ : Sto) (trip j mi : Int) (htrip : inR trip) (hj : inR j) (hmi : inR mi) (hW : WOK σ) (hR2 : TrOK σ) (hU : UnOK σ) : MetA mX9_delay [ar 153, ai trip, ai j, ai mi] σ (fun r u => r = some (ai (delayF σ trip j mi)) ∧ DlPost σ u trip j mi) := by
  have hR := hW.1
  have hTr := hW.2.2.1
  have hmg := mo_ge (σ := σ) (trip := trip) (gN σ 155 3).toNat 0 0 (by omega)
  refine a_entry (by decide) (Nat.le_of_ble_eq_true rfl) ?_
  refine a_aload_n dX9_delay_0 rfl rfl ?_
  refine a_iconst dX9_delay_1 ?_
  refine a_putI (J := 0) fX9_85 k153 rfl rfl rfl dX9_delay_2 ?_
  refine a_aload_n dX9_delay_5 rfl rfl ?_
  refine a_iload_n dX9_delay_6 rfl rfl ?_
  refine a_cI (c := 153) (as := [ai trip]) (rest := []) (t_isTrip (sN σ 153 0 0) trip htrip) mvX9_isTrip lX9_222 k153 (by decide) rfl rfl rfl rfl (Nat.le_of_ble_eq_true rfl) (Nat.le_of_ble_eq_true rfl) (Nat.le_of_ble_eq_true rfl) dX9_delay_7 ?_
  refine a_topI (y := if trp σ trip then 1 else 0) (by simp only [th155]) ?_
  refine a_ifb_eq (tgt := 39) dX9_delay_10 (by decide) (fun c10 => ?_) (fun c10 => ?_)
  · refine a_iconst dX9_delay_39 ?_
    exact a_iret rfl ⟨by unfold delayF; grind, by unfold DlPost; rw [if_neg (by unfold delayF; grind)]⟩ dX9_delay_40
  · refine a_iload_n dX9_delay_13 rfl rfl ?_
    refine a_if_lt (tgt := 39) dX9_delay_14 (by decide) hj (fun c14 => ?_) (fun c14 => ?_)
    · refine a_iconst dX9_delay_39 ?_
      exact a_iret rfl ⟨by unfold delayF; grind, by unfold DlPost; rw [if_neg (by unfold delayF; grind)]⟩ dX9_delay_40
    · refine a_iload_n dX9_delay_17 rfl rfl ?_
      refine a_aload_n dX9_delay_18 rfl rfl ?_
      refine a_iload_n dX9_delay_19 rfl rfl ?_
      refine a_cI (c := 153) (as := [ai trip]) (rest := [ai j]) (t_manyOf (sN σ 153 0 0) trip (Q_W (th_F σ) hW) htrip) mvX9_manyOf lX9_225 k153 (by decide) rfl rfl rfl rfl (Nat.le_of_ble_eq_true rfl) (Nat.le_of_ble_eq_true rfl) (Nat.le_of_ble_eq_true rfl) dX9_delay_20 ?_
      refine a_topI (y := moF σ trip) (moF_eq (th155 σ) _) ?_
      refine a_icmp_ge (tgt := 39) dX9_delay_23 (by decide) hj (inR_of (by unfold moF; omega) (by have := fo_mo hR.1 hR2 (trip := trip) (by assumption); have := fo_ok hR2 (trip := trip) (by assumption); omega)) (fun c23 => ?_) (fun c23 => ?_)
      · refine a_iconst dX9_delay_39 ?_
        exact a_iret rfl ⟨by unfold delayF; grind, by unfold DlPost; rw [if_neg (by unfold delayF; grind)]⟩ dX9_delay_40
      · refine a_iload_n dX9_delay_26 rfl rfl ?_
        refine a_bipush (x := (-60)) dX9_delay_27 (by decide) ?_
        refine a_icmp_lt (tgt := 39) dX9_delay_29 (by decide) hmi (inR_of (by omega) (by omega)) (fun c29 => ?_) (fun c29 => ?_)
        · refine a_iconst dX9_delay_39 ?_
          exact a_iret rfl ⟨by unfold delayF; grind, by unfold DlPost; rw [if_neg (by unfold delayF; grind)]⟩ dX9_delay_40
        · refine a_iload_n dX9_delay_32 rfl rfl ?_
          refine a_sipush (x := 240) dX9_delay_33 (by decide) ?_
          refine a_icmp_le (tgt := 41) dX9_delay_36 (by decide) hmi (inR_of (by omega) (by omega)) (fun c36 => ?_) (fun c36 => ?_)
          · have fo := fo_ok hR2 (trip := trip) (by assumption)
            have fm := fo_mo hR.1 hR2 (trip := trip) (by assumption)
            refine a_aload_n dX9_delay_41 rfl rfl ?_
            refine a_iload_n dX9_delay_42 rfl rfl ?_
            refine a_cI (c := 153) (as := [ai trip]) (rest := []) (t_firstOf (sN σ 153 0 0) trip (Q_W (th_F σ) hW) (hR2.of (th155 σ)) (by simp only [trp, th155]; assumption)) mvX9_firstOf lX9_219 k153 (by decide) rfl rfl rfl rfl (Nat.le_of_ble_eq_true rfl) (Nat.le_of_ble_eq_true rfl) (Nat.le_of_ble_eq_true rfl) dX9_delay_43 ?_
            refine a_topI (y := foF σ trip) (foF_eq (th155 σ) _) ?_
            refine a_iload_n dX9_delay_46 rfl rfl ?_
            refine a_iadd dX9_delay_47 ?_
            refine a_istore (ls' := [(4, ai (foF σ trip + j)), (0, ar 153), (1, ai trip), (2, ai j), (3, ai mi)]) dX9_delay_48 (Nat.le_of_ble_eq_true rfl) rfl ?_
            refine a_aload_n dX9_delay_50 rfl rfl ?_
            refine a_iload_n dX9_delay_51 rfl rfl ?_
            refine a_iload dX9_delay_52 rfl ?_
            refine a_iload_n dX9_delay_54 rfl rfl ?_
            refine a_cI (c := 153) (as := [ai trip, ai (foF σ trip + j), ai mi]) (rest := []) (t_canGo (sN σ 153 0 0) trip (foF σ trip + j) mi (Q_W (th_F σ) hW) (hR2.of (th155 σ)) (by simp only [trp, th155]; assumption) (inR_of (by omega) (by omega)) (by omega) (by omega)) mvX9_canGo lX9_228 k153 (by decide) rfl rfl rfl rfl (Nat.le_of_ble_eq_true rfl) (Nat.le_of_ble_eq_true rfl) (Nat.le_of_ble_eq_true rfl) dX9_delay_55 ?_
            refine a_topI (y := if canF σ trip (foF σ trip + j) mi = true then 1 else 0) (by rw [canF_eq (th155 σ) (Q158 (th_F σ))]) ?_
            refine a_ifb_ne (tgt := 64) dX9_delay_58 (by decide) (fun c58 => ?_) (fun c58 => ?_)
            · refine a_iconst dX9_delay_64 ?_
              refine a_istore (ls' := [(5, ai 0), (4, ai (foF σ trip + j)), (0, ar 153), (1, ai trip), (2, ai j), (3, ai mi)]) dX9_delay_65 (Nat.le_of_ble_eq_true rfl) rfl ?_
              refine a_iload dX9_delay_67 rfl ?_
              refine a_istore (ls' := [(6, ai (foF σ trip + j)), (5, ai 0), (4, ai (foF σ trip + j)), (0, ar 153), (1, ai trip), (2, ai j), (3, ai mi)]) dX9_delay_69 (Nat.le_of_ble_eq_true rfl) rfl ?_
              exact a_keep (by simp) (t_delay_c σ hW hR2 hU trip j mi (by assumption) (by omega) (by omega) (by omega) (by omega) (gN σ 155 3 - (foF σ trip + j)).toNat (foF σ trip + j) 0 (by omega) (by omega) (by omega) (by unfold delayF; grind) (by omega))
            · refine a_bipush (x := (-2)) dX9_delay_61 (by decide) ?_
              exact a_iret rfl ⟨by unfold delayF; grind, by unfold DlPost; rw [if_neg (by unfold delayF; grind)]⟩ dX9_delay_63
          · refine a_iconst dX9_delay_39 ?_
            exact a_iret rfl ⟨by unfold delayF; grind, by unfold DlPost; rw [if_neg (by unfold delayF; grind)]⟩ dX9_delay_40

def undoF (σ : Sto) : Int := if gN σ 153 20 = 0 then -1 else gN σ 153 20 - 1
abbrev pUo (c : Nat) (j : Int) : Prop := c = 158 ∨ (c = 153 ∧ (j = 0 ∨ j = 17 ∨ j = 20))
def UdPost (σ u : Sto) : Prop := if gN σ 153 20 = 0 then u = sN σ 153 0 0 else Fr pUo σ u ∧ gN u 153 20 = gN σ 153 20 - 1 ∧ (∀ i : Int, 0 ≤ i → i < 60 → gN u 158 i = gN σ 159 (60 * (gN σ 153 20 - 1) + i)) ∧ gL u 153 17 = gL σ 160 (gN σ 153 20 - 1)

set_option maxRecDepth 20000 in
theorem t_undo_l (σ : Sto) (hu0 : 0 < gN σ 153 20) (hu1 : gN σ 153 20 ≤ 20) : ∀ (n : Nat) (i : Int) (τ : Sto), 0 ≤ i → i ≤ 60 → n = (60 - i).toNat → Fr pUo σ τ → gN τ 153 20 = gN σ 153 20 - 1 → (∀ k : Int, 0 ≤ k → k < i → gN τ 158 k = gN σ 159 (60 * (gN σ 153 20 - 1) + k)) → RunA mX9_undo (fun r u => r = some (ai (undoF σ)) ∧ UdPost σ u) 26 [(1, ai i), (0, ar 153)] [] τ := by
  intro n
  induction n with
  | zero =>
    intro i τ h0 h5 hn hF h20 hS
    refine a_iload_n dX9_undo_26 rfl rfl ?_
    refine a_bipush (x := 60) dX9_undo_27 (by decide) ?_
    refine a_icmp_ge (tgt := 58) dX9_undo_29 (by decide) (inR_of (by omega) (by omega)) (inR_of (by omega) (by omega)) (fun c29 => ?_) (fun c29 => ?_)
    · refine a_aload_n dX9_undo_58 rfl rfl ?_
      refine a_aload_n dX9_undo_59 rfl rfl ?_
      refine a_getF (d := 160) fX9_32 k153 rfl r153_19 dX9_undo_60 ?_
      refine a_aload_n dX9_undo_63 rfl rfl ?_
      refine a_getI (J := 20) fX9_183 k153 rfl rfl dX9_undo_64 ?_
      refine a_topI (y := gN σ 153 20 - 1) h20 ?_
      refine a_lld k160 n160 (by omega) (by omega) dX9_undo_67 ?_
      refine a_topL (y := gL σ 160 (gN σ 153 20 - 1)) (hF.2.1 160 _ (by unfold pUo; omega)) ?_
      refine a_putL (J := 17) fX9_179 k153 rfl rfl rfl dX9_undo_68 ?_
      refine a_aload_n dX9_undo_71 rfl rfl ?_
      refine a_getI (J := 20) fX9_183 k153 rfl rfl dX9_undo_72 ?_
      refine a_topI (y := gN σ 153 20 - 1) (by rw [gN_sL]; exact h20) ?_
      exact a_iret rfl ⟨by unfold undoF; rw [if_neg (by omega)], by unfold UdPost; rw [if_neg (by omega)]; exact ⟨hF.sL (by unfold pUo; omega), by rw [gN_sL]; exact h20, fun k q0 q1 => by rw [gN_sL]; exact hS k q0 (by omega), by rw [gL_sL, if_pos ⟨rfl, rfl⟩]⟩⟩ dX9_undo_75
    · exfalso; omega
  | succ n ih =>
    intro i τ h0 h5 hn hF h20 hS
    refine a_iload_n dX9_undo_26 rfl rfl ?_
    refine a_bipush (x := 60) dX9_undo_27 (by decide) ?_
    refine a_icmp_ge (tgt := 58) dX9_undo_29 (by decide) (inR_of (by omega) (by omega)) (inR_of (by omega) (by omega)) (fun c29 => ?_) (fun c29 => ?_)
    · exfalso; omega
    · refine a_aload_n dX9_undo_32 rfl rfl ?_
      refine a_getF (d := 158) fX9_26 k153 rfl r153_16 dX9_undo_33 ?_
      refine a_iload_n dX9_undo_36 rfl rfl ?_
      refine a_aload_n dX9_undo_37 rfl rfl ?_
      refine a_getF (d := 159) fX9_29 k153 rfl r153_18 dX9_undo_38 ?_
      refine a_bipush (x := 60) dX9_undo_41 (by decide) ?_
      refine a_aload_n dX9_undo_43 rfl rfl ?_
      refine a_getI (J := 20) fX9_183 k153 rfl rfl dX9_undo_44 ?_
      refine a_topI (y := gN σ 153 20 - 1) h20 ?_
      refine a_imul dX9_undo_47 ?_
      refine a_iload_n dX9_undo_48 rfl rfl ?_
      refine a_iadd dX9_undo_49 ?_
      refine a_ild k159 n159 (by omega) (by omega) dX9_undo_50 ?_
      refine a_topI (y := gN σ 159 (60 * (gN σ 153 20 - 1) + i)) (hF.1 159 _ (by unfold pUo; omega)) ?_
      refine a_ist k158 n158 (by omega) (by omega) dX9_undo_51 ?_
      refine a_iinc (y := i + 1) (ls' := [(1, ai (i + 1)), (0, ar 153)]) dX9_undo_52 rfl rfl (Nat.le_of_ble_eq_true rfl) rfl ?_
      refine a_goto (tgt := 26) dX9_undo_55 (by decide) ?_
      refine a_keep (by simp) (ih (i + 1) (sN τ 158 i (gN σ 159 (60 * (gN σ 153 20 - 1) + i))) (by omega) (by omega) (by omega) (hF.sN (by unfold pUo; omega)) (by rw [gN_sN, if_neg (by omega)]; exact h20) (fun k q0 q1 => ?_))
      rw [gN_sN]
      by_cases e : k = i
      · rw [e, if_pos ⟨rfl, rfl⟩, nrm_of (by have := inR_gN σ 159 (60 * (gN σ 153 20 - 1) + i); exact this)]
      · rw [if_neg (by omega)]; exact hS k q0 (by omega)

set_option maxRecDepth 20000 in
theorem t_undo (σ : Sto) (hU : UnOK σ) : MetA mX9_undo [ar 153] σ (fun r u => r = some (ai (undoF σ)) ∧ UdPost σ u) := by
  have hu := hU.1
  refine a_entry (by decide) (Nat.le_of_ble_eq_true rfl) ?_
  refine a_aload_n dX9_undo_0 rfl rfl ?_
  refine a_iconst dX9_undo_1 ?_
  refine a_putI (J := 0) fX9_85 k153 rfl rfl rfl dX9_undo_2 ?_
  refine a_aload_n dX9_undo_5 rfl rfl ?_
  refine a_getI (J := 20) fX9_183 k153 rfl rfl dX9_undo_6 ?_
  refine a_topI (y := gN σ 153 20) (by rw [gN_sN, if_neg (by omega)]) ?_
  refine a_if_ne (tgt := 14) dX9_undo_9 (by decide) (inR_gN _ _ _) (fun c9 => ?_) (fun c9 => ?_)
  · refine a_aload_n dX9_undo_14 rfl rfl ?_
    refine a_dup dX9_undo_15 rfl ?_
    refine a_getI (J := 20) fX9_183 k153 rfl rfl dX9_undo_16 ?_
    refine a_topI (y := gN σ 153 20) (by rw [gN_sN, if_neg (by omega)]) ?_
    refine a_iconst dX9_undo_19 ?_
    refine a_isub dX9_undo_20 ?_
    refine a_putI (J := 20) fX9_183 k153 rfl rfl rfl dX9_undo_21 ?_
    refine a_iconst dX9_undo_24 ?_
    refine a_istore_n (ls' := [(1, ai 0), (0, ar 153)]) dX9_undo_25 rfl (Nat.le_of_ble_eq_true rfl) rfl ?_
    exact a_keep (by simp) (t_undo_l σ (by omega) (by omega) 60 0 (sN (sN σ 153 0 0) 153 20 (gN σ 153 20 - 1)) (by omega) (by omega) (by omega) ((Fr.rfl.sN (by unfold pUo; omega)).sN (by unfold pUo; omega)) (by rw [gN_sN, if_pos ⟨rfl, rfl⟩, nrm_of (inR_of (by omega) (by omega))]) (fun k q0 q1 => by omega))
  · refine a_iconst dX9_undo_12 ?_
    exact a_iret rfl ⟨by unfold undoF; rw [if_pos (by assumption)], by unfold UdPost; rw [if_pos (by assumption)]⟩ dX9_undo_13

