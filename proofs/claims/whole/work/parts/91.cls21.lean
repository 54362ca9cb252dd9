/-! The class's queries by departures; the hub. -/
theorem ord_all {ρ : Sto} (hW : WV ρ) {s : Int} (hs0 : 0 ≤ s) (hs1 : s < gN ρ 155 0) : (∀ x ∈ ordL ρ s, (0 ≤ x ∧ x < gN ρ 155 3) ∧ 0 ≤ dpF ρ s x ∧ dpF ρ s x ≤ 4000) ∧ ((ordL ρ s).length : Int) ≤ 60 := by
  have hok := ord_ok hW.R.1 s
  have hR := hW.R
  exact ⟨fun x hx => ⟨(hok.1 x hx).1, (hok.1 x hx).2.1, (dp_rng hW hs0 hs1 (hok.1 x hx).1.1 (hok.1 x hx).1.2).2⟩, by omega⟩
def ldV (ρ : Sto) (s t m : Int) : Int := ldF ρ s t (ordL ρ s) m (ordL ρ s).length
def sbV (ρ : Sto) (s t m : Int) : Int := sbF ρ s t (ordL ρ s) m (ordL ρ s).length 1000000
theorem ld_rng {ρ : Sto} {s t m : Int} {K : List Int} (hK : ∀ x ∈ K, (0 ≤ x ∧ x < gN ρ 155 3) ∧ 0 ≤ dpF ρ s x ∧ dpF ρ s x ≤ 4000) : ∀ n : Nat, n ≤ K.length → -1 ≤ ldF ρ s t K m n ∧ ldF ρ s t K m n ≤ 4000
  | 0, _ => by unfold ldF; omega
  | n + 1, h => by
    have hk := hK (K.getD n 0) (by rw [List.getD_eq_getElem?_getD, List.getElem?_eq_getElem (by omega)]; exact List.getElem_mem _)
    have z := ld_rng (t := t) (m := m) hK n (by omega)
    unfold ldF
    split <;> omega
theorem ldV_rng {ρ : Sto} (hW : WV ρ) {s t m : Int} (hs0 : 0 ≤ s) (hs1 : s < gN ρ 155 0) : -1 ≤ ldV ρ s t m ∧ ldV ρ s t m ≤ 4000 := ld_rng (ord_all hW hs0 hs1).1 _ (Nat.le_refl _)
theorem sb_rng {ρ : Sto} (hW : WV ρ) {s t m : Int} {K : List Int} (ht0 : 0 ≤ t) (ht1 : t < gN ρ 155 0) (hK : ∀ x ∈ K, (0 ≤ x ∧ x < gN ρ 155 3) ∧ 0 ≤ dpF ρ s x ∧ dpF ρ s x ≤ 4000) : ∀ (n : Nat) (b : Int), n ≤ K.length → -1000 ≤ b → b ≤ 1000000 → -1000 ≤ sbF ρ s t K m n b ∧ sbF ρ s t K m n b ≤ 1000000
  | 0, b, _, h0, h1 => ⟨h0, h1⟩
  | n + 1, b, h, h0, h1 => by
    have hk := hK (K.getD n 0) (by rw [List.getD_eq_getElem?_getD, List.getElem?_eq_getElem (by omega)]; exact List.getElem_mem _)
    have c := AR_rng hW ht0 ht1 4 hk.1.1 hk.1.2
    unfold sbF
    split
    · exact ⟨h0, h1⟩
    · exact sb_rng hW ht0 ht1 hK n _ (by omega) (by split <;> omega) (by split <;> omega)
theorem sbV_rng {ρ : Sto} (hW : WV ρ) {s t m : Int} (hs0 : 0 ≤ s) (hs1 : s < gN ρ 155 0) (ht0 : 0 ≤ t) (ht1 : t < gN ρ 155 0) : -1000 ≤ sbV ρ s t m ∧ sbV ρ s t m ≤ 1000000 := sb_rng hW ht0 ht1 (ord_all hW hs0 hs1).1 _ _ (Nat.le_refl _) (by omega) (by omega)
def lsM (ρ : Sto) (s t m : Int) : Int := mxI (ldV ρ s t m) (m - gN ρ 155 (15 + 10 * s + t))
def lsV (ρ : Sto) (s t m : Int) : Int := if lsM ρ s t m < 0 then -2 else lsM ρ s t m
def cLatest (ρ : Sto) (s t m : Int) : Int := if ¬ stp ρ s ∨ ¬ stp ρ t ∨ m < 0 ∨ 2000 < m then -1 else lsV ρ s t m
def cStay (ρ : Sto) (s t m z : Int) : Int := if ¬ two ρ s t ∨ ¬ mnt m ∨ z < 0 ∨ 2000 < z then -1 else if 1000000 ≤ SO ρ s t m 4 0 ∨ lsV ρ t s z < 0 then -2 else if lsV ρ t s z < SO ρ s t m 4 0 then -3 else lsV ρ t s z - SO ρ s t m 4 0
def mwT (ρ : Sto) (s t a b : Int) : Int := mwR (mwF ρ s t (gN ρ 155 (15 + 10 * s + t)) (ordL ρ s) (b - a).toNat (b - 1) ((ordL ρ s).length, 1000000, 0, 0))
def cMean (ρ : Sto) (s t a b : Int) : Int := if ¬ two ρ s t ∨ a < 0 ∨ b ≤ a ∨ 1440 < b then -1 else mwT ρ s t a b
def cNext (ρ : Sto) (s t m : Int) : Int := if ¬ two ρ s t ∨ ¬ mnt m then -1 else if 1000000 ≤ SO ρ s t m 4 0 then -2 else if ldV ρ s t (SO ρ s t m 4 0) < m then -2 else orN (sbV ρ s t (ldV ρ s t (SO ρ s t m 4 0)))
theorem lsV_rng {ρ : Sto} (hW : WV ρ) {s t m : Int} (hs0 : 0 ≤ s) (hs1 : s < gN ρ 155 0) (ht0 : 0 ≤ t) (ht1 : t < gN ρ 155 0) (hm : m ≤ 2000) : -2 ≤ lsV ρ s t m ∧ lsV ρ s t m ≤ 4000 := by
  have a := ldV_rng hW (t := t) (m := m) hs0 hs1
  have b := hW.walk s t hs0 hs1 ht0 ht1
  unfold lsV lsM mxI
  split <;> (try split) <;> (try split) <;> omega

set_option maxRecDepth 20000 in
theorem c_lastStart (σ ρ : Sto) (N : Nat) (hW : WV ρ) (hQ : CQ σ ρ N) (s t m : Int) (hs0 : 0 ≤ s) (hs1 : s < gN ρ 155 0) (ht0 : 0 ≤ t) (ht1 : t < gN ρ 155 0) (hm0 : 0 ≤ m) (hm1 : m ≤ 2000) : MetA mX8_lastStart [ar 0, ai s, ai t, ai m] σ (cqQ σ ρ N (lsV ρ s t m)) := by
  have hC := hQ.c
  have hN := hQ.n
  have hT7 := hQ.t
  have hM7 := hQ.m
  have hF : Fg pCq σ σ := Fg.rfl
  have hNk := hN.k
  have hR := hW.R
  have hS := hW.S
  have hTr := hW.T
  refine a_entry (by decide) (Nat.le_of_ble_eq_true rfl) ?_
  refine a_ls (ls' := [(0, ar 0), (1, ai s), (2, ai t), (3, ai m)]) rfl ?_
  refine a_aload_n dX8_lastStart_0 rfl rfl ?_
  refine a_getF (d := 38) fX8_30 k0 rfl r0_6 dX8_lastStart_1 ?_
  refine a_aload_n dX8_lastStart_4 rfl rfl ?_
  refine a_getF (d := 7) fX8_81 k0 rfl r0_3 dX8_lastStart_5 ?_
  refine a_iload_n dX8_lastStart_8 rfl rfl ?_
  refine a_callV (c := 38) (as := [ar 7, ai t]) (rest := []) (c_look σ ρ N hW hQ t (by omega) (by omega)) mvX3_look lX8_317 k38 (by decide) rfl rfl rfl rfl (Nat.le_of_ble_eq_true rfl) (Nat.le_of_ble_eq_true rfl) (Nat.le_of_ble_eq_true rfl) dX8_lastStart_9 (fun u96 hu => ?_)
  obtain ⟨-, hPu96⟩ := hu
  have hQu96 : CQ u96 ρ N := hPu96.2.1
  have hCu96 := hQu96.c
  have hNu96 := hQu96.n
  have hT7u96 := hQu96.t
  have hM7u96 := hQu96.m
  have hFu96 : Fg pCq σ u96 := hF.trans (hPu96.1.mono (fun c j z => pLok_Q z))
  have hOu96 : OtR u96 ρ t 5 := (hQu96.o t (by omega) (by omega)).2 (by omega) hPu96.2.2
  refine a_aload_n dX8_lastStart_12 rfl rfl ?_
  refine a_getF (d := 73) fX8_37 k0 rfl r0_7 dX8_lastStart_13 ?_
  refine a_aload_n dX8_lastStart_16 rfl rfl ?_
  refine a_getF (d := 7) fX8_81 k0 rfl r0_3 dX8_lastStart_17 ?_
  refine a_iload_n dX8_lastStart_20 rfl rfl ?_
  refine a_callV (c := 73) (as := [ar 7, ai s]) (rest := []) (c_arrange u96 ρ N hW hNu96 hT7u96 s (by omega) (by omega)) mvX4_arrange lX8_321 k73 (by decide) rfl rfl rfl rfl (Nat.le_of_ble_eq_true rfl) (Nat.le_of_ble_eq_true rfl) (Nat.le_of_ble_eq_true rfl) dX8_lastStart_21 (fun u97 hu => ?_)
  obtain ⟨-, hGu97, hOru97⟩ := hu
  have hQu97 : CQ u97 ρ N := hQu96.aft hS.2 hR.2 (hGu97.mono (fun c j z => by unfold pAr at z; unfold pAft; omega))
  have hCu97 := hQu97.c
  have hNu97 := hQu97.n
  have hT7u97 := hQu97.t
  have hM7u97 := hQu97.m
  have hFu97 : Fg pCq σ u97 := hFu96.trans (hGu97.mono (fun c j z => by unfold pAr at z; unfold pCq; omega))
  have hOu97 : OtR u97 ρ t 5 := hOu96.of (fun c j q0 q1 => hGu97.n (by unfold pAr; omega)) hR.2
  have hor := ord_all hW (s := s) (by omega) (by omega)
  refine a_aload_n dX8_lastStart_24 rfl rfl ?_
  refine a_getF (d := 73) fX8_37 k0 rfl r0_7 dX8_lastStart_25 ?_
  refine a_aload_n dX8_lastStart_28 rfl rfl ?_
  refine a_getF (d := 38) fX8_30 k0 rfl r0_6 dX8_lastStart_29 ?_
  refine a_getF (d := 39) fX8_324 k38 rfl r38_0 dX8_lastStart_32 ?_
  refine a_iload_n dX8_lastStart_35 rfl rfl ?_
  refine a_ald (d := (43 + t.toNat)) k39 n39 (by omega) (by omega) (row39 (by omega) (by omega)) dX8_lastStart_36 ?_
  refine a_iload_n dX8_lastStart_37 rfl rfl ?_
  refine a_cI (c := 73) (as := [ar (43 + t.toNat), ai m]) (rest := []) (c_lastDeparture u97 ρ hW s t (ordL ρ s) (by omega) (by omega) hOu97 hOru97 hor.1 hor.2 m (inR_of (by omega) (by omega))) mvX4_lastDeparture lX8_327 k73 (by decide) rfl rfl rfl rfl (Nat.le_of_ble_eq_true rfl) (Nat.le_of_ble_eq_true rfl) (Nat.le_of_ble_eq_true rfl) dX8_lastStart_38 ?_
  have hldVu97 := ldV_rng hW (s := s) (t := t) (m := m) (by omega) (by omega)
  refine a_topI (y := ldV ρ s t m) rfl ?_
  refine a_istore (ls' := [(4, ai (ldV ρ s t m)), (0, ar 0), (1, ai s), (2, ai t), (3, ai m)]) dX8_lastStart_41 (Nat.le_of_ble_eq_true rfl) rfl ?_
  refine a_iload_n dX8_lastStart_43 rfl rfl ?_
  refine a_aload_n dX8_lastStart_44 rfl rfl ?_
  refine a_getR (d := N) (J := 12) fX8_65 k0 rfl q0_12 rfl hCu97 dX8_lastStart_45 ?_
  refine a_getF (d := (N + 3)) fX8_164 (kN hNk) rfl (rN_6 hNk) dX8_lastStart_48 ?_
  refine a_iload_n dX8_lastStart_51 rfl rfl ?_
  refine a_ald (d := (N + 11 + s.toNat)) (kN_3 hNk) (nN_3 hNk) (by omega) (by omega) (rowN_w hNk (by omega) (by omega)) dX8_lastStart_52 ?_
  refine a_iload_n dX8_lastStart_53 rfl rfl ?_
  refine a_ild (kNw hNk (by omega) (by omega)) (nNw hNk (by omega) (by omega)) (by omega) (by omega) dX8_lastStart_54 ?_
  refine a_topI (y := gN ρ 155 (15 + 10 * s + t)) (hNu97.wk (by omega) (by omega) (by omega) (by omega)) ?_
  have hb81 := hW.walk s t (by omega) (by omega) (by omega) (by omega)
  refine a_isub dX8_lastStart_55 ?_
  refine a_istore (ls' := [(5, ai (m - (gN ρ 155 (15 + 10 * s + t)))), (4, ai (ldV ρ s t m)), (0, ar 0), (1, ai s), (2, ai t), (3, ai m)]) dX8_lastStart_56 (Nat.le_of_ble_eq_true rfl) rfl ?_
  refine a_iload dX8_lastStart_58 rfl ?_
  refine a_iload dX8_lastStart_60 rfl ?_
  refine a_mmax lm8_283 (inR_of (by omega) (by omega)) (inR_of (by omega) (by omega)) (Nat.le_of_ble_eq_true rfl) (Nat.le_of_ble_eq_true rfl) (Nat.le_of_ble_eq_true rfl) dX8_lastStart_62 ?_
  refine a_topI (y := lsM ρ s t m) rfl ?_
  have hlm : -2 ≤ lsM ρ s t m ∧ lsM ρ s t m ≤ 4000 := by unfold lsM mxI; split <;> omega
  refine a_istore (ls' := [(6, ai (lsM ρ s t m)), (5, ai (m - (gN ρ 155 (15 + 10 * s + t)))), (4, ai (ldV ρ s t m)), (0, ar 0), (1, ai s), (2, ai t), (3, ai m)]) dX8_lastStart_65 (Nat.le_of_ble_eq_true rfl) rfl ?_
  refine a_iload dX8_lastStart_67 rfl ?_
  refine a_if_ge (tgt := 77) dX8_lastStart_69 (by decide) (inR_of (by omega) (by omega)) (fun c69 => ?_) (fun c69 => ?_)
  · refine a_iload dX8_lastStart_77 rfl ?_
    exact a_iret rfl ⟨by unfold lsV; rw [if_neg (by omega)], hQu97, hFu97⟩ dX8_lastStart_79
  · refine a_bipush (x := (-2)) dX8_lastStart_72 (by decide) ?_
    refine a_goto (tgt := 79) dX8_lastStart_74 (by decide) ?_
    exact a_iret rfl ⟨by unfold lsV; rw [if_pos (by omega)], hQu97, hFu97⟩ dX8_lastStart_79

set_option maxRecDepth 20000 in
theorem c_latest (σ ρ : Sto) (N : Nat) (hW : WV ρ) (hQ : CQ σ ρ N) (s t m : Int) (hs : inR s) (ht : inR t) (hm : inR m) : MetA mX8_latest [ar 0, ai s, ai t, ai m] σ (cqQ σ ρ N (cLatest ρ s t m)) := by
  have hC := hQ.c
  have hN := hQ.n
  have hT7 := hQ.t
  have hM7 := hQ.m
  have hF : Fg pCq σ σ := Fg.rfl
  have hNk := hN.k
  have hR := hW.R
  have hS := hW.S
  have hTr := hW.T
  refine a_entry (by decide) (Nat.le_of_ble_eq_true rfl) ?_
  refine a_ls (ls' := [(0, ar 0), (1, ai s), (2, ai t), (3, ai m)]) rfl ?_
  refine a_aload_n dX8_latest_0 rfl rfl ?_
  refine a_iload_n dX8_latest_1 rfl rfl ?_
  refine a_cI (c := 0) (as := [ai s]) (rest := []) (c_isStop σ ρ N hW hC hN s hs) mvX8_isStop lX8_161 k0 (by decide) rfl rfl rfl rfl (Nat.le_of_ble_eq_true rfl) (Nat.le_of_ble_eq_true rfl) (Nat.le_of_ble_eq_true rfl) dX8_latest_2 ?_
  refine a_ifb_eq (tgt := 27) dX8_latest_5 (by decide) (fun c5 => ?_) (fun c5 => ?_)
  · refine a_iconst dX8_latest_27 ?_
    exact a_iret rfl ⟨by unfold cLatest; grind, hQ, hF⟩ dX8_latest_28
  · refine a_aload_n dX8_latest_8 rfl rfl ?_
    refine a_iload_n dX8_latest_9 rfl rfl ?_
    refine a_cI (c := 0) (as := [ai t]) (rest := []) (c_isStop σ ρ N hW hC hN t ht) mvX8_isStop lX8_161 k0 (by decide) rfl rfl rfl rfl (Nat.le_of_ble_eq_true rfl) (Nat.le_of_ble_eq_true rfl) (Nat.le_of_ble_eq_true rfl) dX8_latest_10 ?_
    refine a_ifb_eq (tgt := 27) dX8_latest_13 (by decide) (fun c13 => ?_) (fun c13 => ?_)
    · refine a_iconst dX8_latest_27 ?_
      exact a_iret rfl ⟨by unfold cLatest; grind, hQ, hF⟩ dX8_latest_28
    · refine a_iload_n dX8_latest_16 rfl rfl ?_
      refine a_iconst dX8_latest_17 ?_
      refine a_sipush (x := 2000) dX8_latest_18 (by decide) ?_
      refine a_sI (as := [ai m, ai 0, ai 2000]) (rest := []) (c_within σ m 0 2000 hm (inR_of (by omega) (by omega)) (inR_of (by omega) (by omega))) mvX8_within lX8_179 rfl rfl rfl (Nat.le_of_ble_eq_true rfl) (Nat.le_of_ble_eq_true rfl) (Nat.le_of_ble_eq_true rfl) dX8_latest_21 ?_
      refine a_ifb_ne (tgt := 29) dX8_latest_24 (by decide) (fun c24 => ?_) (fun c24 => ?_)
      · refine a_aload_n dX8_latest_29 rfl rfl ?_
        refine a_iload_n dX8_latest_30 rfl rfl ?_
        refine a_iload_n dX8_latest_31 rfl rfl ?_
        refine a_iload_n dX8_latest_32 rfl rfl ?_
        refine a_callI (c := 0) (as := [ai s, ai t, ai m]) (rest := []) (c_lastStart σ ρ N hW hQ s t m (by omega) (by omega) (by omega) (by omega) (by omega) (by omega)) mvX8_lastStart lX8_314 k0 (by decide) rfl rfl rfl rfl (Nat.le_of_ble_eq_true rfl) (Nat.le_of_ble_eq_true rfl) (Nat.le_of_ble_eq_true rfl) dX8_latest_33 (fun x u98 hu => ?_)
        obtain ⟨hx, hRu98⟩ := hu
        cases hx
        have hQu98 : CQ u98 ρ N := hRu98.1
        have hCu98 := hQu98.c
        have hNu98 := hQu98.n
        have hT7u98 := hQu98.t
        have hM7u98 := hQu98.m
        have hFu98 : Fg pCq σ u98 := hF.trans (hRu98.2)
        have hlsu98 := lsV_rng hW (s := s) (t := t) (m := m) (by omega) (by omega) (by omega) (by omega) (by omega)
        exact a_iret rfl ⟨by unfold cLatest; grind, hQu98, hFu98⟩ dX8_latest_36
      · refine a_iconst dX8_latest_27 ?_
        exact a_iret rfl ⟨by unfold cLatest; grind, hQ, hF⟩ dX8_latest_28

set_option maxRecDepth 20000 in
theorem c_stay (σ ρ : Sto) (N : Nat) (hW : WV ρ) (hQ : CQ σ ρ N) (s t m z : Int) (hs : inR s) (ht : inR t) (hm : inR m) (hz : inR z) : MetA mX8_stay [ar 0, ai s, ai t, ai m, ai z] σ (cqQ σ ρ N (cStay ρ s t m z)) := by
  have hC := hQ.c
  have hN := hQ.n
  have hT7 := hQ.t
  have hM7 := hQ.m
  have hF : Fg pCq σ σ := Fg.rfl
  have hNk := hN.k
  have hR := hW.R
  have hS := hW.S
  have hTr := hW.T
  refine a_entry (by decide) (Nat.le_of_ble_eq_true rfl) ?_
  refine a_ls (ls' := [(0, ar 0), (1, ai s), (2, ai t), (3, ai m), (4, ai z)]) rfl ?_
  refine a_aload_n dX8_stay_0 rfl rfl ?_
  refine a_iload_n dX8_stay_1 rfl rfl ?_
  refine a_iload_n dX8_stay_2 rfl rfl ?_
  refine a_cI (c := 0) (as := [ai s, ai t]) (rest := []) (c_arePair σ ρ N hW hC hN s t hs ht) mvX8_arePair lX8_238 k0 (by decide) rfl rfl rfl rfl (Nat.le_of_ble_eq_true rfl) (Nat.le_of_ble_eq_true rfl) (Nat.le_of_ble_eq_true rfl) dX8_stay_3 ?_
  refine a_ifb_eq (tgt := 28) dX8_stay_6 (by decide) (fun c6 => ?_) (fun c6 => ?_)
  · refine a_iconst dX8_stay_28 ?_
    exact a_iret rfl ⟨by unfold cStay; grind, hQ, hF⟩ dX8_stay_29
  · refine a_iload_n dX8_stay_9 rfl rfl ?_
    refine a_sI (as := [ai m]) (rest := []) (c_isMinute σ m hm) mvX8_isMinute lX8_307 rfl rfl rfl (Nat.le_of_ble_eq_true rfl) (Nat.le_of_ble_eq_true rfl) (Nat.le_of_ble_eq_true rfl) dX8_stay_10 ?_
    refine a_ifb_eq (tgt := 28) dX8_stay_13 (by decide) (fun c13 => ?_) (fun c13 => ?_)
    · refine a_iconst dX8_stay_28 ?_
      exact a_iret rfl ⟨by unfold cStay; grind, hQ, hF⟩ dX8_stay_29
    · refine a_iload dX8_stay_16 rfl ?_
      refine a_iconst dX8_stay_18 ?_
      refine a_sipush (x := 2000) dX8_stay_19 (by decide) ?_
      refine a_sI (as := [ai z, ai 0, ai 2000]) (rest := []) (c_within σ z 0 2000 hz (inR_of (by omega) (by omega)) (inR_of (by omega) (by omega))) mvX8_within lX8_179 rfl rfl rfl (Nat.le_of_ble_eq_true rfl) (Nat.le_of_ble_eq_true rfl) (Nat.le_of_ble_eq_true rfl) dX8_stay_22 ?_
      refine a_ifb_ne (tgt := 30) dX8_stay_25 (by decide) (fun c25 => ?_) (fun c25 => ?_)
      · refine a_aload_n dX8_stay_30 rfl rfl ?_
        refine a_getF (d := 7) fX8_81 k0 rfl r0_3 dX8_stay_31 ?_
        refine a_iload_n dX8_stay_34 rfl rfl ?_
        refine a_iload_n dX8_stay_35 rfl rfl ?_
        refine a_iload_n dX8_stay_36 rfl rfl ?_
        refine a_iconst dX8_stay_37 ?_
        refine a_lconst (v := 0) dX8_stay_38 rfl ?_
        refine a_callI (c := 7) (as := [ai s, ai t, ai m, ai 4, al 0]) (rest := []) (c_soonest σ ρ N 7 hW hN hT7 hM7 s t m 4 0 (by omega) (by omega) (by omega) (by omega) (by omega) (by omega) (by omega) (by omega)) mvX6_soonest lX8_310 k7 (by decide) rfl rfl rfl rfl (Nat.le_of_ble_eq_true rfl) (Nat.le_of_ble_eq_true rfl) (Nat.le_of_ble_eq_true rfl) dX8_stay_39 (fun x u99 hu => ?_)
        obtain ⟨hx, hPu99⟩ := hu
        cases hx
        have hQu99 : CQ u99 ρ N := hQ.ln hS.2 hR.2 hPu99
        have hCu99 := hQu99.c
        have hNu99 := hQu99.n
        have hT7u99 := hQu99.t
        have hM7u99 := hQu99.m
        have hFu99 : Fg pCq σ u99 := hF.trans (hPu99.1.mono (fun c j z => by unfold pLn at z; unfold pCq; omega))
        have hsou99 : -1000 ≤ SO ρ s t m 4 0 ∧ SO ρ s t m 4 0 ≤ 1000000 := soon_rng hW (set := riddenF ρ s m 4 0) (s := s) (t := t) (m := m) (by omega) (by omega) (by omega) (by omega) (by omega)
        refine a_topI (y := SO ρ s t m 4 0) rfl ?_
        refine a_istore (ls' := [(5, ai (SO ρ s t m 4 0)), (0, ar 0), (1, ai s), (2, ai t), (3, ai m), (4, ai z)]) dX8_stay_42 (Nat.le_of_ble_eq_true rfl) rfl ?_
        refine a_aload_n dX8_stay_44 rfl rfl ?_
        refine a_iload_n dX8_stay_45 rfl rfl ?_
        refine a_iload_n dX8_stay_46 rfl rfl ?_
        refine a_iload dX8_stay_47 rfl ?_
        refine a_callI (c := 0) (as := [ai t, ai s, ai z]) (rest := []) (c_lastStart u99 ρ N hW hQu99 t s z (by omega) (by omega) (by omega) (by omega) (by omega) (by omega)) mvX8_lastStart lX8_314 k0 (by decide) rfl rfl rfl rfl (Nat.le_of_ble_eq_true rfl) (Nat.le_of_ble_eq_true rfl) (Nat.le_of_ble_eq_true rfl) dX8_stay_49 (fun x u100 hu => ?_)
        obtain ⟨hx, hRu100⟩ := hu
        cases hx
        have hQu100 : CQ u100 ρ N := hRu100.1
        have hCu100 := hQu100.c
        have hNu100 := hQu100.n
        have hT7u100 := hQu100.t
        have hM7u100 := hQu100.m
        have hFu100 : Fg pCq σ u100 := hFu99.trans (hRu100.2)
        have hlsu100 := lsV_rng hW (s := t) (t := s) (m := z) (by omega) (by omega) (by omega) (by omega) (by omega)
        refine a_istore (ls' := [(6, ai (lsV ρ t s z)), (5, ai (SO ρ s t m 4 0)), (0, ar 0), (1, ai s), (2, ai t), (3, ai m), (4, ai z)]) dX8_stay_52 (Nat.le_of_ble_eq_true rfl) rfl ?_
        refine a_iload dX8_stay_54 rfl ?_
        refine a_ldc_w (x := 1000000) cX8_286 (by decide) dX8_stay_56 ?_
        refine a_icmp_ge (tgt := 67) dX8_stay_59 (by decide) (inR_of (by omega) (by omega)) (inR_of (by omega) (by omega)) (fun c59 => ?_) (fun c59 => ?_)
        · refine a_bipush (x := (-2)) dX8_stay_67 (by decide) ?_
          exact a_iret rfl ⟨by unfold cStay; grind, hQu100, hFu100⟩ dX8_stay_69
        · refine a_iload dX8_stay_62 rfl ?_
          refine a_if_ge (tgt := 70) dX8_stay_64 (by decide) (inR_of (by omega) (by omega)) (fun c64 => ?_) (fun c64 => ?_)
          · refine a_iload dX8_stay_70 rfl ?_
            refine a_iload dX8_stay_72 rfl ?_
            refine a_icmp_ge (tgt := 82) dX8_stay_74 (by decide) (inR_of (by omega) (by omega)) (inR_of (by omega) (by omega)) (fun c74 => ?_) (fun c74 => ?_)
            · refine a_iload dX8_stay_82 rfl ?_
              refine a_iload dX8_stay_84 rfl ?_
              refine a_isub dX8_stay_86 ?_
              exact a_iret rfl ⟨by unfold cStay; grind, hQu100, hFu100⟩ dX8_stay_87
            · refine a_bipush (x := (-3)) dX8_stay_77 (by decide) ?_
              refine a_goto (tgt := 87) dX8_stay_79 (by decide) ?_
              exact a_iret rfl ⟨by unfold cStay; grind, hQu100, hFu100⟩ dX8_stay_87
          · refine a_bipush (x := (-2)) dX8_stay_67 (by decide) ?_
            exact a_iret rfl ⟨by unfold cStay; grind, hQu100, hFu100⟩ dX8_stay_69
      · refine a_iconst dX8_stay_28 ?_
        exact a_iret rfl ⟨by unfold cStay; grind, hQ, hF⟩ dX8_stay_29

set_option maxRecDepth 20000 in
theorem c_mean (σ ρ : Sto) (N : Nat) (hW : WV ρ) (hQ : CQ σ ρ N) (s t a b : Int) (hs : inR s) (ht : inR t) (ha : inR a) (hb : inR b) : MetA mX8_mean [ar 0, ai s, ai t, ai a, ai b] σ (cqQ σ ρ N (cMean ρ s t a b)) := by
  have hC := hQ.c
  have hN := hQ.n
  have hT7 := hQ.t
  have hM7 := hQ.m
  have hF : Fg pCq σ σ := Fg.rfl
  have hNk := hN.k
  have hR := hW.R
  have hS := hW.S
  have hTr := hW.T
  refine a_entry (by decide) (Nat.le_of_ble_eq_true rfl) ?_
  refine a_ls (ls' := [(0, ar 0), (1, ai s), (2, ai t), (3, ai a), (4, ai b)]) rfl ?_
  refine a_aload_n dX8_mean_0 rfl rfl ?_
  refine a_iload_n dX8_mean_1 rfl rfl ?_
  refine a_iload_n dX8_mean_2 rfl rfl ?_
  refine a_cI (c := 0) (as := [ai s, ai t]) (rest := []) (c_arePair σ ρ N hW hC hN s t hs ht) mvX8_arePair lX8_238 k0 (by decide) rfl rfl rfl rfl (Nat.le_of_ble_eq_true rfl) (Nat.le_of_ble_eq_true rfl) (Nat.le_of_ble_eq_true rfl) dX8_mean_3 ?_
  refine a_ifb_eq (tgt := 27) dX8_mean_6 (by decide) (fun c6 => ?_) (fun c6 => ?_)
  · refine a_iconst dX8_mean_27 ?_
    exact a_iret rfl ⟨by unfold cMean; grind, hQ, hF⟩ dX8_mean_28
  · refine a_iload_n dX8_mean_9 rfl rfl ?_
    refine a_if_lt (tgt := 27) dX8_mean_10 (by decide) ha (fun c10 => ?_) (fun c10 => ?_)
    · refine a_iconst dX8_mean_27 ?_
      exact a_iret rfl ⟨by unfold cMean; grind, hQ, hF⟩ dX8_mean_28
    · refine a_iload_n dX8_mean_13 rfl rfl ?_
      refine a_iload dX8_mean_14 rfl ?_
      refine a_icmp_ge (tgt := 27) dX8_mean_16 (by decide) ha hb (fun c16 => ?_) (fun c16 => ?_)
      · refine a_iconst dX8_mean_27 ?_
        exact a_iret rfl ⟨by unfold cMean; grind, hQ, hF⟩ dX8_mean_28
      · refine a_iload dX8_mean_19 rfl ?_
        refine a_sipush (x := 1440) dX8_mean_21 (by decide) ?_
        refine a_icmp_le (tgt := 29) dX8_mean_24 (by decide) hb (inR_of (by omega) (by omega)) (fun c24 => ?_) (fun c24 => ?_)
        · refine a_aload_n dX8_mean_29 rfl rfl ?_
          refine a_getF (d := 38) fX8_30 k0 rfl r0_6 dX8_mean_30 ?_
          refine a_aload_n dX8_mean_33 rfl rfl ?_
          refine a_getF (d := 7) fX8_81 k0 rfl r0_3 dX8_mean_34 ?_
          refine a_iload_n dX8_mean_37 rfl rfl ?_
          refine a_callV (c := 38) (as := [ar 7, ai t]) (rest := []) (c_look σ ρ N hW hQ t (by omega) (by omega)) mvX3_look lX8_317 k38 (by decide) rfl rfl rfl rfl (Nat.le_of_ble_eq_true rfl) (Nat.le_of_ble_eq_true rfl) (Nat.le_of_ble_eq_true rfl) dX8_mean_38 (fun u101 hu => ?_)
          obtain ⟨-, hPu101⟩ := hu
          have hQu101 : CQ u101 ρ N := hPu101.2.1
          have hCu101 := hQu101.c
          have hNu101 := hQu101.n
          have hT7u101 := hQu101.t
          have hM7u101 := hQu101.m
          have hFu101 : Fg pCq σ u101 := hF.trans (hPu101.1.mono (fun c j z => pLok_Q z))
          have hOu101 : OtR u101 ρ t 5 := (hQu101.o t (by omega) (by omega)).2 (by omega) hPu101.2.2
          refine a_aload_n dX8_mean_41 rfl rfl ?_
          refine a_getF (d := 73) fX8_37 k0 rfl r0_7 dX8_mean_42 ?_
          refine a_aload_n dX8_mean_45 rfl rfl ?_
          refine a_getF (d := 7) fX8_81 k0 rfl r0_3 dX8_mean_46 ?_
          refine a_iload_n dX8_mean_49 rfl rfl ?_
          refine a_callV (c := 73) (as := [ar 7, ai s]) (rest := []) (c_arrange u101 ρ N hW hNu101 hT7u101 s (by omega) (by omega)) mvX4_arrange lX8_321 k73 (by decide) rfl rfl rfl rfl (Nat.le_of_ble_eq_true rfl) (Nat.le_of_ble_eq_true rfl) (Nat.le_of_ble_eq_true rfl) dX8_mean_50 (fun u102 hu => ?_)
          obtain ⟨-, hGu102, hOru102⟩ := hu
          have hQu102 : CQ u102 ρ N := hQu101.aft hS.2 hR.2 (hGu102.mono (fun c j z => by unfold pAr at z; unfold pAft; omega))
          have hCu102 := hQu102.c
          have hNu102 := hQu102.n
          have hT7u102 := hQu102.t
          have hM7u102 := hQu102.m
          have hFu102 : Fg pCq σ u102 := hFu101.trans (hGu102.mono (fun c j z => by unfold pAr at z; unfold pCq; omega))
          have hOu102 : OtR u102 ρ t 5 := hOu101.of (fun c j q0 q1 => hGu102.n (by unfold pAr; omega)) hR.2
          have hor := ord_all hW (s := s) (by omega) (by omega)
          refine a_aload_n dX8_mean_53 rfl rfl ?_
          refine a_getF (d := 73) fX8_37 k0 rfl r0_7 dX8_mean_54 ?_
          refine a_aload_n dX8_mean_57 rfl rfl ?_
          refine a_getF (d := 38) fX8_30 k0 rfl r0_6 dX8_mean_58 ?_
          refine a_getF (d := 39) fX8_324 k38 rfl r38_0 dX8_mean_61 ?_
          refine a_iload_n dX8_mean_64 rfl rfl ?_
          refine a_ald (d := (43 + t.toNat)) k39 n39 (by omega) (by omega) (row39 (by omega) (by omega)) dX8_mean_65 ?_
          refine a_aload_n dX8_mean_66 rfl rfl ?_
          refine a_getR (d := N) (J := 12) fX8_65 k0 rfl q0_12 rfl hCu102 dX8_mean_67 ?_
          refine a_getF (d := (N + 3)) fX8_164 (kN hNk) rfl (rN_6 hNk) dX8_mean_70 ?_
          refine a_iload_n dX8_mean_73 rfl rfl ?_
          refine a_ald (d := (N + 11 + s.toNat)) (kN_3 hNk) (nN_3 hNk) (by omega) (by omega) (rowN_w hNk (by omega) (by omega)) dX8_mean_74 ?_
          refine a_iload_n dX8_mean_75 rfl rfl ?_
          refine a_ild (kNw hNk (by omega) (by omega)) (nNw hNk (by omega) (by omega)) (by omega) (by omega) dX8_mean_76 ?_
          refine a_topI (y := gN ρ 155 (15 + 10 * s + t)) (hNu102.wk (by omega) (by omega) (by omega) (by omega)) ?_
          have hb82 := hW.walk s t (by omega) (by omega) (by omega) (by omega)
          refine a_iload_n dX8_mean_77 rfl rfl ?_
          refine a_iload dX8_mean_78 rfl ?_
          refine a_cI (c := 73) (as := [ar (43 + t.toNat), ai (gN ρ 155 (15 + 10 * s + t)), ai a, ai b]) (rest := []) (c_meanWay u102 ρ hW s t (ordL ρ s) (by omega) (by omega) hOu102 hOru102 hor.1 hor.2 (gN ρ 155 (15 + 10 * s + t)) a b (by omega) (by omega) (by omega) (by omega) (by omega)) mvX4_meanWay lX8_339 k73 (by decide) rfl rfl rfl rfl (Nat.le_of_ble_eq_true rfl) (Nat.le_of_ble_eq_true rfl) (Nat.le_of_ble_eq_true rfl) dX8_mean_80 ?_
          refine a_topI (y := mwT ρ s t a b) rfl ?_
          exact a_iret rfl ⟨by unfold cMean; grind, hQu102, hFu102⟩ dX8_mean_83
        · refine a_iconst dX8_mean_27 ?_
          exact a_iret rfl ⟨by unfold cMean; grind, hQ, hF⟩ dX8_mean_28

set_option maxRecDepth 20000 in
theorem c_next (σ ρ : Sto) (N : Nat) (hW : WV ρ) (hQ : CQ σ ρ N) (s t m : Int) (hs : inR s) (ht : inR t) (hm : inR m) : MetA mX8_next [ar 0, ai s, ai t, ai m] σ (cqQ σ ρ N (cNext ρ s t m)) := by
  have hC := hQ.c
  have hN := hQ.n
  have hT7 := hQ.t
  have hM7 := hQ.m
  have hF : Fg pCq σ σ := Fg.rfl
  have hNk := hN.k
  have hR := hW.R
  have hS := hW.S
  have hTr := hW.T
  refine a_entry (by decide) (Nat.le_of_ble_eq_true rfl) ?_
  refine a_ls (ls' := [(0, ar 0), (1, ai s), (2, ai t), (3, ai m)]) rfl ?_
  refine a_aload_n dX8_next_0 rfl rfl ?_
  refine a_iload_n dX8_next_1 rfl rfl ?_
  refine a_iload_n dX8_next_2 rfl rfl ?_
  refine a_cI (c := 0) (as := [ai s, ai t]) (rest := []) (c_arePair σ ρ N hW hC hN s t hs ht) mvX8_arePair lX8_238 k0 (by decide) rfl rfl rfl rfl (Nat.le_of_ble_eq_true rfl) (Nat.le_of_ble_eq_true rfl) (Nat.le_of_ble_eq_true rfl) dX8_next_3 ?_
  refine a_ifb_eq (tgt := 16) dX8_next_6 (by decide) (fun c6 => ?_) (fun c6 => ?_)
  · refine a_iconst dX8_next_16 ?_
    exact a_iret rfl ⟨by unfold cNext; grind, hQ, hF⟩ dX8_next_17
  · refine a_iload_n dX8_next_9 rfl rfl ?_
    refine a_sI (as := [ai m]) (rest := []) (c_isMinute σ m hm) mvX8_isMinute lX8_307 rfl rfl rfl (Nat.le_of_ble_eq_true rfl) (Nat.le_of_ble_eq_true rfl) (Nat.le_of_ble_eq_true rfl) dX8_next_10 ?_
    refine a_ifb_ne (tgt := 18) dX8_next_13 (by decide) (fun c13 => ?_) (fun c13 => ?_)
    · refine a_aload_n dX8_next_18 rfl rfl ?_
      refine a_getF (d := 7) fX8_81 k0 rfl r0_3 dX8_next_19 ?_
      refine a_iload_n dX8_next_22 rfl rfl ?_
      refine a_iload_n dX8_next_23 rfl rfl ?_
      refine a_iload_n dX8_next_24 rfl rfl ?_
      refine a_iconst dX8_next_25 ?_
      refine a_lconst (v := 0) dX8_next_26 rfl ?_
      refine a_callI (c := 7) (as := [ai s, ai t, ai m, ai 4, al 0]) (rest := []) (c_soonest σ ρ N 7 hW hN hT7 hM7 s t m 4 0 (by omega) (by omega) (by omega) (by omega) (by omega) (by omega) (by omega) (by omega)) mvX6_soonest lX8_310 k7 (by decide) rfl rfl rfl rfl (Nat.le_of_ble_eq_true rfl) (Nat.le_of_ble_eq_true rfl) (Nat.le_of_ble_eq_true rfl) dX8_next_27 (fun x u103 hu => ?_)
      obtain ⟨hx, hPu103⟩ := hu
      cases hx
      have hQu103 : CQ u103 ρ N := hQ.ln hS.2 hR.2 hPu103
      have hCu103 := hQu103.c
      have hNu103 := hQu103.n
      have hT7u103 := hQu103.t
      have hM7u103 := hQu103.m
      have hFu103 : Fg pCq σ u103 := hF.trans (hPu103.1.mono (fun c j z => by unfold pLn at z; unfold pCq; omega))
      have hsou103 : -1000 ≤ SO ρ s t m 4 0 ∧ SO ρ s t m 4 0 ≤ 1000000 := soon_rng hW (set := riddenF ρ s m 4 0) (s := s) (t := t) (m := m) (by omega) (by omega) (by omega) (by omega) (by omega)
      refine a_topI (y := SO ρ s t m 4 0) rfl ?_
      refine a_istore (ls' := [(4, ai (SO ρ s t m 4 0)), (0, ar 0), (1, ai s), (2, ai t), (3, ai m)]) dX8_next_30 (Nat.le_of_ble_eq_true rfl) rfl ?_
      refine a_iload dX8_next_32 rfl ?_
      refine a_ldc_w (x := 1000000) cX8_286 (by decide) dX8_next_34 ?_
      refine a_icmp_lt (tgt := 43) dX8_next_37 (by decide) (inR_of (by omega) (by omega)) (inR_of (by omega) (by omega)) (fun c37 => ?_) (fun c37 => ?_)
      · refine a_aload_n dX8_next_43 rfl rfl ?_
        refine a_getF (d := 38) fX8_30 k0 rfl r0_6 dX8_next_44 ?_
        refine a_aload_n dX8_next_47 rfl rfl ?_
        refine a_getF (d := 7) fX8_81 k0 rfl r0_3 dX8_next_48 ?_
        refine a_iload_n dX8_next_51 rfl rfl ?_
        refine a_callV (c := 38) (as := [ar 7, ai t]) (rest := []) (c_look u103 ρ N hW hQu103 t (by omega) (by omega)) mvX3_look lX8_317 k38 (by decide) rfl rfl rfl rfl (Nat.le_of_ble_eq_true rfl) (Nat.le_of_ble_eq_true rfl) (Nat.le_of_ble_eq_true rfl) dX8_next_52 (fun u104 hu => ?_)
        obtain ⟨-, hPu104⟩ := hu
        have hQu104 : CQ u104 ρ N := hPu104.2.1
        have hCu104 := hQu104.c
        have hNu104 := hQu104.n
        have hT7u104 := hQu104.t
        have hM7u104 := hQu104.m
        have hFu104 : Fg pCq σ u104 := hFu103.trans (hPu104.1.mono (fun c j z => pLok_Q z))
        have hOu104 : OtR u104 ρ t 5 := (hQu104.o t (by omega) (by omega)).2 (by omega) hPu104.2.2
        refine a_aload_n dX8_next_55 rfl rfl ?_
        refine a_getF (d := 73) fX8_37 k0 rfl r0_7 dX8_next_56 ?_
        refine a_aload_n dX8_next_59 rfl rfl ?_
        refine a_getF (d := 7) fX8_81 k0 rfl r0_3 dX8_next_60 ?_
        refine a_iload_n dX8_next_63 rfl rfl ?_
        refine a_callV (c := 73) (as := [ar 7, ai s]) (rest := []) (c_arrange u104 ρ N hW hNu104 hT7u104 s (by omega) (by omega)) mvX4_arrange lX8_321 k73 (by decide) rfl rfl rfl rfl (Nat.le_of_ble_eq_true rfl) (Nat.le_of_ble_eq_true rfl) (Nat.le_of_ble_eq_true rfl) dX8_next_64 (fun u105 hu => ?_)
        obtain ⟨-, hGu105, hOru105⟩ := hu
        have hQu105 : CQ u105 ρ N := hQu104.aft hS.2 hR.2 (hGu105.mono (fun c j z => by unfold pAr at z; unfold pAft; omega))
        have hCu105 := hQu105.c
        have hNu105 := hQu105.n
        have hT7u105 := hQu105.t
        have hM7u105 := hQu105.m
        have hFu105 : Fg pCq σ u105 := hFu104.trans (hGu105.mono (fun c j z => by unfold pAr at z; unfold pCq; omega))
        have hOu105 : OtR u105 ρ t 5 := hOu104.of (fun c j q0 q1 => hGu105.n (by unfold pAr; omega)) hR.2
        have hor := ord_all hW (s := s) (by omega) (by omega)
        refine a_aload_n dX8_next_67 rfl rfl ?_
        refine a_getF (d := 73) fX8_37 k0 rfl r0_7 dX8_next_68 ?_
        refine a_aload_n dX8_next_71 rfl rfl ?_
        refine a_getF (d := 38) fX8_30 k0 rfl r0_6 dX8_next_72 ?_
        refine a_getF (d := 39) fX8_324 k38 rfl r38_0 dX8_next_75 ?_
        refine a_iload_n dX8_next_78 rfl rfl ?_
        refine a_ald (d := (43 + t.toNat)) k39 n39 (by omega) (by omega) (row39 (by omega) (by omega)) dX8_next_79 ?_
        refine a_iload dX8_next_80 rfl ?_
        refine a_cI (c := 73) (as := [ar (43 + t.toNat), ai (SO ρ s t m 4 0)]) (rest := []) (c_lastDeparture u105 ρ hW s t (ordL ρ s) (by omega) (by omega) hOu105 hOru105 hor.1 hor.2 (SO ρ s t m 4 0) (inR_of (by omega) (by omega))) mvX4_lastDeparture lX8_327 k73 (by decide) rfl rfl rfl rfl (Nat.le_of_ble_eq_true rfl) (Nat.le_of_ble_eq_true rfl) (Nat.le_of_ble_eq_true rfl) dX8_next_82 ?_
        have hldVu105 := ldV_rng hW (s := s) (t := t) (m := (SO ρ s t m 4 0)) (by omega) (by omega)
        refine a_topI (y := ldV ρ s t (SO ρ s t m 4 0)) rfl ?_
        refine a_istore (ls' := [(5, ai (ldV ρ s t (SO ρ s t m 4 0))), (4, ai (SO ρ s t m 4 0)), (0, ar 0), (1, ai s), (2, ai t), (3, ai m)]) dX8_next_85 (Nat.le_of_ble_eq_true rfl) rfl ?_
        refine a_iload dX8_next_87 rfl ?_
        refine a_iload_n dX8_next_89 rfl rfl ?_
        refine a_icmp_ge (tgt := 96) dX8_next_90 (by decide) (inR_of (by omega) (by omega)) hm (fun c90 => ?_) (fun c90 => ?_)
        · refine a_aload_n dX8_next_96 rfl rfl ?_
          refine a_getF (d := 73) fX8_37 k0 rfl r0_7 dX8_next_97 ?_
          refine a_aload_n dX8_next_100 rfl rfl ?_
          refine a_getF (d := 38) fX8_30 k0 rfl r0_6 dX8_next_101 ?_
          refine a_getF (d := 39) fX8_324 k38 rfl r38_0 dX8_next_104 ?_
          refine a_iload_n dX8_next_107 rfl rfl ?_
          refine a_ald (d := (43 + t.toNat)) k39 n39 (by omega) (by omega) (row39 (by omega) (by omega)) dX8_next_108 ?_
          refine a_iload dX8_next_109 rfl ?_
          refine a_cI (c := 73) (as := [ar (43 + t.toNat), ai (ldV ρ s t (SO ρ s t m 4 0))]) (rest := []) (c_soonestBehind u105 ρ hW s t (ordL ρ s) (by omega) (by omega) hOu105 hOru105 hor.1 hor.2 (ldV ρ s t (SO ρ s t m 4 0)) (inR_of (by omega) (by omega))) mvX4_soonestBehind lX8_343 k73 (by decide) rfl rfl rfl rfl (Nat.le_of_ble_eq_true rfl) (Nat.le_of_ble_eq_true rfl) (Nat.le_of_ble_eq_true rfl) dX8_next_111 ?_
          have hsbVu105 := sbV_rng hW (s := s) (t := t) (m := (ldV ρ s t (SO ρ s t m 4 0))) (by omega) (by omega) (by omega) (by omega)
          refine a_topI (y := sbV ρ s t (ldV ρ s t (SO ρ s t m 4 0))) rfl ?_
          refine a_sI (as := [ai (sbV ρ s t (ldV ρ s t (SO ρ s t m 4 0)))]) (rest := []) (c_orMissing u105 (sbV ρ s t (ldV ρ s t (SO ρ s t m 4 0))) (inR_of (by omega) (by omega))) mvX8_orMissing lX8_168 rfl rfl rfl (Nat.le_of_ble_eq_true rfl) (Nat.le_of_ble_eq_true rfl) (Nat.le_of_ble_eq_true rfl) dX8_next_114 ?_
          exact a_iret rfl ⟨by unfold cNext; grind, hQu105, hFu105⟩ dX8_next_117
        · refine a_bipush (x := (-2)) dX8_next_93 (by decide) ?_
          exact a_iret rfl ⟨by unfold cNext; grind, hQu105, hFu105⟩ dX8_next_95
      · refine a_bipush (x := (-2)) dX8_next_40 (by decide) ?_
        exact a_iret rfl ⟨by unfold cNext; grind, hQu103, hFu103⟩ dX8_next_42
    · refine a_iconst dX8_next_16 ?_
      exact a_iret rfl ⟨by unfold cNext; grind, hQ, hF⟩ dX8_next_17

def TaR (u : Sto) (E : Int → Int) : Prop := ∀ a : Int, 0 ≤ a → a < 10 → gN u 90 a = E a
theorem TaR.of {u w : Sto} {E : Int → Int} (h : TaR u E) (hF : ∀ a, gN w 90 a = gN u 90 a) : TaR w E := fun a q0 q1 => (hF a).trans (h a q0 q1)
theorem TaR.inc {u : Sto} {E : Int → Int} {x B : Int} (h : TaR u E) (hB : EnB E B) (hB1 : B ≤ 1000000) (h0 : 0 ≤ x) (h1 : x < 10) : TaR (sN u 90 x (E x + 1)) (fun a => if a = x then E a + 1 else E a) := by
  intro a q0 q1
  show gN (sN u 90 x (E x + 1)) 90 a = if a = x then E a + 1 else E a
  rw [gN_sN]
  have b := hB a q0 q1
  by_cases e : a = x
  · subst e
    rw [if_pos ⟨rfl, rfl⟩, if_pos rfl, nrm_of (inR_of (by omega) (by omega))]
  · rw [if_neg (by omega), if_neg e]
    exact h a q0 q1
def taI (ρ : Sto) (s t i : Int) (E : Int → Int) : Int → Int := itr (edL ρ (UL ρ s t i)) ((UL ρ s t i).length - 1) 0 E
def taF (ρ : Sto) (s t : Int) (E : Int → Int) : Int → Int := itr (taI ρ s t) (MK ρ s t).length 0 E
def taT (ρ : Sto) (t s : Int) (E : Int → Int) : Int → Int := if s = t then E else taF ρ s t E
def taS (ρ : Sto) (t : Int) (E : Int → Int) : Int → Int := itr (taT ρ t) (gN ρ 155 0).toNat 0 E
def hubC (ρ : Sto) : Int → Int := itr (taS ρ) (gN ρ 155 0).toNat 0 (fun _ => 0)
def hbC (E : Int → Int) (s best : Int) : Int := if E best < E s then s else best
def hrC (E : Int → Int) (best what : Int) : Int := if E best = 0 then -2 else if what = 0 then best else E best
def cHub (ρ : Sto) (what : Int) : Int := if what < 0 ∨ 1 < what then -1 else hrC (hubC ρ) (itr (hbC (hubC ρ)) (gN ρ 155 0 - 1).toNat 1 0) what
theorem taI_B {ρ : Sto} (hW : WV ρ) {s t : Int} (ht0 : 0 ≤ t) (ht1 : t < gN ρ 155 0) : ∀ (n : Nat) (i : Int) (E : Int → Int) (B : Int), 0 ≤ i → i + n ≤ (MK ρ s t).length → EnB E B → EnB (itr (taI ρ s t) n i E) (B + 4 * n)
  | 0, _, _, _, _, _, h => h.le (by omega)
  | n + 1, i, E, B, h0, h1, h => by
    have hul := UL_ok hW (s := s) (t := t) (i := i) ht0 ht1 h0 (by omega)
    rw [itr_s]
    exact (taI_B hW ht0 ht1 n (i + 1) _ (B + 4) (by omega) (by omega) ((edL_B _ 0 E B h).le (by omega))).le (by omega)
theorem taT_B {ρ : Sto} (hW : WV ρ) (hM : ∀ s t : Int, 0 ≤ s → s < gN ρ 155 0 → 0 ≤ t → t < gN ρ 155 0 → ((MK ρ s t).length : Int) ≤ 300) {t : Int} (ht0 : 0 ≤ t) (ht1 : t < gN ρ 155 0) : ∀ (n : Nat) (s : Int) (E : Int → Int) (B : Int), 0 ≤ s → s + n ≤ gN ρ 155 0 → EnB E B → EnB (itr (taT ρ t) n s E) (B + 1200 * n)
  | 0, _, _, _, _, _, h => h.le (by omega)
  | n + 1, s, E, B, h0, h1, h => by
    have hm := hM s t h0 (by omega) ht0 ht1
    rw [itr_s]
    refine (taT_B hW hM ht0 ht1 n (s + 1) _ (B + 1200) (by omega) (by omega) ?_).le (by omega)
    unfold taT
    split
    · exact h.le (by omega)
    · exact (taI_B hW ht0 ht1 _ 0 E B (by omega) (by omega) h).le (by omega)

set_option maxRecDepth 20000 in
theorem c_tal_l (σ ρ : Sto) (N : Nat) (hW : WV ρ) (s t : Int) (hs0 : 0 ≤ s) (hs1 : s < gN ρ 155 0) (ht0 : 0 ≤ t) (ht1 : t < gN ρ 155 0) (i : Int) (hi0 : 0 ≤ i) (hi1 : i < (MK ρ s t).length) (Z Y : Int → Int) (hx : ∀ υ : Sto, CQ υ ρ N → Fg pCq σ υ → (gN υ 73 0 = (MK ρ s t).length ∧ gN υ 73 1 = t ∧ RwR υ (MK ρ s t)) → gN υ 42 t = 1 → TaR υ Y → RunA mX8_tallyChanges (fun r u => r = none ∧ CQ u ρ N ∧ Fg pCq σ u ∧ TaR u Z) 97 [(3, ai i), (0, ar 0), (1, ai s), (2, ai t)] [] υ) : ∀ (n : Nat) (l : Int) (τ : Sto) (E : Int → Int) (B : Int), 0 ≤ l → l ≤ (UL ρ s t i).length - 1 → n = ((UL ρ s t i).length - 1 - l).toNat → CQ τ ρ N → Fg pCq σ τ → gN τ 73 0 = (MK ρ s t).length ∧ gN τ 73 1 = t ∧ RwR τ (MK ρ s t) → gN τ 42 t = 1 → LgR τ 83 (UL ρ s t i) → TaR τ E → EnB E B → B + n ≤ 1000000 → Y = itr (edL ρ (UL ρ s t i)) n l E → RunA mX8_tallyChanges (fun r u => r = none ∧ CQ u ρ N ∧ Fg pCq σ u ∧ TaR u Z) 50 [(4, ai l), (3, ai i), (0, ar 0), (1, ai s), (2, ai t)] [] τ := by
  have hR := hW.R
  have hS := hW.S
  have hTr := hW.T
  have hul := UL_ok hW (s := s) (t := t) (i := i) ht0 ht1 hi0 hi1
  intro n
  induction n with
  | zero =>
    intro l τ E B h0 h5 hn hQτ hFτ hZτ h42 hLg hTa hEB hB hE
    have hNk := hQτ.n.k
    have hCτ := hQτ.c
    have hNτ := hQτ.n
    have hT7τ := hQτ.t
    have hM7τ := hQτ.m
    refine a_iload dX8_tallyChanges_50 rfl ?_
    refine a_aload_n dX8_tallyChanges_52 rfl rfl ?_
    refine a_getF (d := 83) fX8_44 k0 rfl r0_8 dX8_tallyChanges_53 ?_
    refine a_getI (J := 0) fX8_258 k83 rfl rfl dX8_tallyChanges_56 ?_
    refine a_topI (y := ((UL ρ s t i).length : Int)) hLg.1 ?_
    refine a_iconst dX8_tallyChanges_59 ?_
    refine a_isub dX8_tallyChanges_60 ?_
    refine a_icmp_ge (tgt := 97) dX8_tallyChanges_61 (by decide) (inR_of (by omega) (by omega)) (inR_of (by omega) (by omega)) (fun c61 => ?_) (fun c61 => ?_)
    · exact a_keep (by simp) (hx τ hQτ hFτ hZτ h42 (by rw [hE]; exact hTa))
    · exfalso; omega
  | succ n ih =>
    intro l τ E B h0 h5 hn hQτ hFτ hZτ h42 hLg hTa hEB hB hE
    have hNk := hQτ.n.k
    have hCτ := hQτ.c
    have hNτ := hQτ.n
    have hT7τ := hQτ.t
    have hM7τ := hQτ.m
    refine a_iload dX8_tallyChanges_50 rfl ?_
    refine a_aload_n dX8_tallyChanges_52 rfl rfl ?_
    refine a_getF (d := 83) fX8_44 k0 rfl r0_8 dX8_tallyChanges_53 ?_
    refine a_getI (J := 0) fX8_258 k83 rfl rfl dX8_tallyChanges_56 ?_
    refine a_topI (y := ((UL ρ s t i).length : Int)) hLg.1 ?_
    refine a_iconst dX8_tallyChanges_59 ?_
    refine a_isub dX8_tallyChanges_60 ?_
    refine a_icmp_ge (tgt := 97) dX8_tallyChanges_61 (by decide) (inR_of (by omega) (by omega)) (inR_of (by omega) (by omega)) (fun c61 => ?_) (fun c61 => ?_)
    · exfalso; omega
    · refine a_aload_n dX8_tallyChanges_64 rfl rfl ?_
      refine a_getF (d := 90) fX8_58 k0 rfl r0_11 dX8_tallyChanges_65 ?_
      refine a_aload_n dX8_tallyChanges_68 rfl rfl ?_
      refine a_getR (d := N) (J := 12) fX8_65 k0 rfl q0_12 rfl hCτ dX8_tallyChanges_69 ?_
      refine a_getF (d := (N + 8)) fX8_135 (kN hNk) rfl (rN_11 hNk) dX8_tallyChanges_72 ?_
      refine a_aload_n dX8_tallyChanges_75 rfl rfl ?_
      refine a_getF (d := 83) fX8_44 k0 rfl r0_8 dX8_tallyChanges_76 ?_
      refine a_getF (d := 85) fX8_262 k83 rfl r83_2 dX8_tallyChanges_79 ?_
      refine a_iload dX8_tallyChanges_82 rfl ?_
      refine a_ild k85 n85 (by omega) (by omega) dX8_tallyChanges_84 ?_
      refine a_topI (y := (lg (UL ρ s t i) l).2) (hLg.at (by omega) (by omega)).2.1 ?_
      have hb83 := lg_rng hul.1 (l := l) (by omega) (by omega)
      refine a_ild (kN_8 hNk) (nN_8 hNk) (by omega) (by omega) dX8_tallyChanges_85 ?_
      refine a_topI (y := gN ρ 155 (115 + 5 * ((lg (UL ρ s t i) l).2) + 2)) (hNτ.r2 (by omega) (by omega)) ?_
      have hb84 := hW.ride ((lg (UL ρ s t i) l).2) (by omega) (by omega)
      refine a_dup2 dX8_tallyChanges_86 rfl rfl ?_
      refine a_ild k90 n90 (by omega) (by omega) dX8_tallyChanges_87 ?_
      refine a_topI (y := E (gN ρ 155 (115 + 5 * ((lg (UL ρ s t i) l).2) + 2))) (hTa (gN ρ 155 (115 + 5 * ((lg (UL ρ s t i) l).2) + 2)) (by omega) (by omega)) ?_
      have hb85 := hEB (gN ρ 155 (115 + 5 * ((lg (UL ρ s t i) l).2) + 2)) (by omega) (by omega)
      refine a_iconst dX8_tallyChanges_88 ?_
      refine a_iadd dX8_tallyChanges_89 ?_
      refine a_ist k90 n90 (by omega) (by omega) dX8_tallyChanges_90 ?_
      refine a_iinc (y := l + 1) (ls' := [(4, ai (l + 1)), (3, ai i), (0, ar 0), (1, ai s), (2, ai t)]) dX8_tallyChanges_91 rfl rfl (Nat.le_of_ble_eq_true rfl) rfl ?_
      refine a_goto (tgt := 50) dX8_tallyChanges_94 (by decide) ?_
      have hA : Fg pAft τ (sN τ 90 (gN ρ 155 (115 + 5 * ((lg (UL ρ s t i) l).2) + 2)) (E (gN ρ 155 (115 + 5 * ((lg (UL ρ s t i) l).2) + 2)) + 1)) := Fg.rfl.sN (by unfold pAft; omega)
      have e : edL ρ (UL ρ s t i) l E = fun a => if a = gN ρ 155 (115 + 5 * (lg (UL ρ s t i) l).2 + 2) then E a + 1 else E a := rfl
      exact a_keep (by simp) (ih (l + 1) (sN τ 90 (gN ρ 155 (115 + 5 * ((lg (UL ρ s t i) l).2) + 2)) (E (gN ρ 155 (115 + 5 * ((lg (UL ρ s t i) l).2) + 2)) + 1)) (edL ρ (UL ρ s t i) l E) (B + 1) (by omega) (by omega) (by omega) (hQτ.aft hS.2 hR.2 hA) (hFτ.trans (hA.mono (fun c j z => pAft_Q z))) ⟨(by rw [gN_sN, if_neg (by omega)]; exact hZτ.1), (by rw [gN_sN, if_neg (by omega)]; exact hZτ.2.1), hZτ.2.2.of (by rw [gN_sN, if_neg (by omega)]) (fun c j _ _ => by rw [gN_sN, if_neg (by omega)])⟩ (by rw [gN_sN, if_neg (by omega)]; exact h42) (hLg.of (fun c j _ _ => by rw [gN_sN, if_neg (by omega)])) (hTa.inc hEB (by omega) (by omega) (by omega)) (EnB.inc hEB) (by omega) (by rw [hE, itr_s]))

set_option maxRecDepth 20000 in
theorem c_tal_i (σ ρ : Sto) (N : Nat) (hW : WV ρ) (s t : Int) (hs0 : 0 ≤ s) (hs1 : s < gN ρ 155 0) (ht0 : 0 ≤ t) (ht1 : t < gN ρ 155 0) (hLn : ((MK ρ s t).length : Int) ≤ 300) (Z : Int → Int) : ∀ (n : Nat) (i : Int) (τ : Sto) (E : Int → Int) (B : Int), 0 ≤ i → i ≤ (MK ρ s t).length → n = ((MK ρ s t).length - i).toNat → CQ τ ρ N → Fg pCq σ τ → gN τ 73 0 = (MK ρ s t).length ∧ gN τ 73 1 = t ∧ RwR τ (MK ρ s t) → gN τ 42 t = 1 → TaR τ E → EnB E B → B + 4 * n ≤ 900000 → Z = itr (taI ρ s t) n i E → RunA mX8_tallyChanges (fun r u => r = none ∧ CQ u ρ N ∧ Fg pCq σ u ∧ TaR u Z) 20 [(3, ai i), (0, ar 0), (1, ai s), (2, ai t)] [] τ := by
  have hR := hW.R
  have hS := hW.S
  have hTr := hW.T
  intro n
  induction n with
  | zero =>
    intro i τ E B h0 h5 hn hQτ hFτ hZτ h42 hTa hEB hB hE
    have hNk := hQτ.n.k
    have hCτ := hQτ.c
    have hNτ := hQτ.n
    have hT7τ := hQτ.t
    have hM7τ := hQτ.m
    refine a_iload_n dX8_tallyChanges_20 rfl rfl ?_
    refine a_aload_n dX8_tallyChanges_21 rfl rfl ?_
    refine a_getF (d := 73) fX8_37 k0 rfl r0_7 dX8_tallyChanges_22 ?_
    refine a_getI (J := 0) fX8_245 k73 rfl rfl dX8_tallyChanges_25 ?_
    refine a_topI (y := ((MK ρ s t).length : Int)) hZτ.1 ?_
    refine a_icmp_ge (tgt := 103) dX8_tallyChanges_28 (by decide) (inR_of (by omega) (by omega)) (inR_of (by omega) (by omega)) (fun c28 => ?_) (fun c28 => ?_)
    · exact a_vret rfl ⟨rfl, hQτ, hFτ, by rw [hE]; exact hTa⟩ dX8_tallyChanges_103
    · exfalso; omega
  | succ n ih =>
    intro i τ E B h0 h5 hn hQτ hFτ hZτ h42 hTa hEB hB hE
    have hNk := hQτ.n.k
    have hCτ := hQτ.c
    have hNτ := hQτ.n
    have hT7τ := hQτ.t
    have hM7τ := hQτ.m
    refine a_iload_n dX8_tallyChanges_20 rfl rfl ?_
    refine a_aload_n dX8_tallyChanges_21 rfl rfl ?_
    refine a_getF (d := 73) fX8_37 k0 rfl r0_7 dX8_tallyChanges_22 ?_
    refine a_getI (J := 0) fX8_245 k73 rfl rfl dX8_tallyChanges_25 ?_
    refine a_topI (y := ((MK ρ s t).length : Int)) hZτ.1 ?_
    refine a_icmp_ge (tgt := 103) dX8_tallyChanges_28 (by decide) (inR_of (by omega) (by omega)) (inR_of (by omega) (by omega)) (fun c28 => ?_) (fun c28 => ?_)
    · exfalso; omega
    · have hro : RowOK ρ t 4 (row (MK ρ s t) i) := mkF_ok hW (by omega) _ (row_mem (L := MK ρ s t) (by omega) (by omega))
      refine a_aload_n dX8_tallyChanges_31 rfl rfl ?_
      refine a_getF (d := 73) fX8_37 k0 rfl r0_7 dX8_tallyChanges_32 ?_
      refine a_iload_n dX8_tallyChanges_35 rfl rfl ?_
      refine a_aload_n dX8_tallyChanges_36 rfl rfl ?_
      refine a_getF (d := 38) fX8_30 k0 rfl r0_6 dX8_tallyChanges_37 ?_
      refine a_aload_n dX8_tallyChanges_40 rfl rfl ?_
      refine a_getF (d := 83) fX8_44 k0 rfl r0_8 dX8_tallyChanges_41 ?_
      refine a_callV (c := 73) (as := [ai i, ar 38, ar 83]) (rest := []) (c_unfoldP τ ρ hW t ht0 ht1 (hQτ.o t ht0 (by omega) |>.2 ht1 h42) hZτ.2.1 (MK ρ s t) hZτ.2.2 hLn i (by omega) (by omega) hro.1 hro.2.1 (row_bet hW hro)) mvX4_unfold lX8_265 k73 (by decide) rfl rfl rfl rfl (Nat.le_of_ble_eq_true rfl) (Nat.le_of_ble_eq_true rfl) (Nat.le_of_ble_eq_true rfl) dX8_tallyChanges_44 (fun υ hv => ?_)
      obtain ⟨-, hv1, hv2⟩ := hv
      have hQυ : CQ υ ρ N := hQτ.aft hS.2 hR.2 (hv1.mono (fun c j z => by unfold pAft; omega))
      have hCυ := hQυ.c
      have hNυ := hQυ.n
      have hT7υ := hQυ.t
      have hFυ : Fg pCq σ υ := hFτ.trans (hv1.mono (fun c j z => by unfold pCq; omega))
      have hLgυ : LgR υ 83 (UL ρ s t i) := hv2
      have hul := UL_ok hW (s := s) (t := t) (i := i) ht0 ht1 (by omega) (by omega)
      have hGk : Gok 83 := Or.inl rfl
      have hZυ : gN υ 73 0 = (MK ρ s t).length ∧ gN υ 73 1 = t ∧ RwR υ (MK ρ s t) := ⟨(hv1.n (by omega)).trans hZτ.1, (hv1.n (by omega)).trans hZτ.2.1, hZτ.2.2.of (hv1.n (by omega)) (fun c j _ _ => hv1.n (by omega))⟩
      have h42υ : gN υ 42 t = 1 := (hv1.n (by omega)).trans h42
      refine a_iconst dX8_tallyChanges_47 ?_
      refine a_istore (ls' := [(4, ai 0), (3, ai i), (0, ar 0), (1, ai s), (2, ai t)]) dX8_tallyChanges_48 (Nat.le_of_ble_eq_true rfl) rfl ?_
      refine a_keep (ls' := [(4, ai 0), (3, ai i), (0, ar 0), (1, ai s), (2, ai t)]) (by simp) ?_
      refine c_tal_l σ ρ N hW s t hs0 hs1 ht0 ht1 i h0 (by omega) Z (taI ρ s t i E) (fun y a1 a2 a3 a4 a5 => ?_) ((UL ρ s t i).length - 1) 0 υ E B (by omega) (by omega) (by omega) hQυ hFυ hZυ h42υ hLgυ (hTa.of (fun a => hv1.n (by omega))) hEB (by omega) rfl
      refine a_iinc (y := i + 1) (ls' := [(3, ai (i + 1)), (0, ar 0), (1, ai s), (2, ai t)]) dX8_tallyChanges_97 rfl rfl (Nat.le_of_ble_eq_true rfl) rfl ?_
      refine a_goto (tgt := 20) dX8_tallyChanges_100 (by decide) ?_
      exact ih (i + 1) y (taI ρ s t i E) (B + 4) (by omega) (by omega) (by omega) a1 a2 a3 a4 a5 ((edL_B _ 0 E B hEB).le (by omega)) (by omega) (by rw [hE, itr_s])

set_option maxRecDepth 20000 in
theorem c_tally (σ ρ : Sto) (N : Nat) (hW : WV ρ) (hQ : CQ σ ρ N) (s t : Int) (hs0 : 0 ≤ s) (hs1 : s < gN ρ 155 0) (ht0 : 0 ≤ t) (ht1 : t < gN ρ 155 0) (E : Int → Int) (B : Int) (hTa : TaR σ E) (hEB : EnB E B) (hB : B ≤ 500000) : MetA mX8_tallyChanges [ar 0, ai s, ai t] σ (fun r u => r = none ∧ CQ u ρ N ∧ Fg pCq σ u ∧ TaR u (taF ρ s t E) ∧ ((MK ρ s t).length : Int) ≤ 300) := by
  have hC := hQ.c
  have hN := hQ.n
  have hT7 := hQ.t
  have hM7 := hQ.m
  have hF : Fg pCq σ σ := Fg.rfl
  have hNk := hN.k
  have hR := hW.R
  have hS := hW.S
  have hTr := hW.T
  refine a_entry (by decide) (Nat.le_of_ble_eq_true rfl) ?_
  refine a_ls (ls' := [(0, ar 0), (1, ai s), (2, ai t)]) rfl ?_
  refine a_aload_n dX8_tallyChanges_0 rfl rfl ?_
  refine a_getF (d := 73) fX8_37 k0 rfl r0_7 dX8_tallyChanges_1 ?_
  refine a_aload_n dX8_tallyChanges_4 rfl rfl ?_
  refine a_getF (d := 7) fX8_81 k0 rfl r0_3 dX8_tallyChanges_5 ?_
  refine a_aload_n dX8_tallyChanges_8 rfl rfl ?_
  refine a_getF (d := 38) fX8_30 k0 rfl r0_6 dX8_tallyChanges_9 ?_
  refine a_iload_n dX8_tallyChanges_12 rfl rfl ?_
  refine a_iload_n dX8_tallyChanges_13 rfl rfl ?_
  refine a_iconst dX8_tallyChanges_14 ?_
  refine a_callV (c := 73) (as := [ar 7, ar 38, ai s, ai t, ai 4]) (rest := []) (c_make σ ρ N hW hQ s t 4 (by omega) (by omega) (by omega) (by omega) (by omega) (by omega)) mvX4_make lX8_241 k73 (by decide) rfl rfl rfl rfl (Nat.le_of_ble_eq_true rfl) (Nat.le_of_ble_eq_true rfl) (Nat.le_of_ble_eq_true rfl) dX8_tallyChanges_15 (fun u106 hu => ?_)
  obtain ⟨-, hKu106⟩ := hu
  have hQu106 : CQ u106 ρ N := hKu106.2.1
  have hCu106 := hQu106.c
  have hNu106 := hQu106.n
  have hT7u106 := hQu106.t
  have hM7u106 := hQu106.m
  have hFu106 : Fg pCq σ u106 := hF.trans (hKu106.1.mono (fun c j z => pMk_Q z))
  have hZu106 := hKu106.2.2.1
  have hLnu106 : ((MK ρ s t).length : Int) ≤ 300 := hKu106.2.2.2.1
  refine a_iconst dX8_tallyChanges_18 ?_
  refine a_istore_n (ls' := [(3, ai 0), (0, ar 0), (1, ai s), (2, ai t)]) dX8_tallyChanges_19 rfl (Nat.le_of_ble_eq_true rfl) rfl ?_
  exact a_keep (by simp) ((c_tal_i σ ρ N hW s t hs0 hs1 ht0 ht1 hLnu106 _ (MK ρ s t).length 0 u106 E B (by omega) (by omega) (by omega) hQu106 hFu106 hZu106 hKu106.2.2.2.2 (hTa.of (fun a => hKu106.1.n (by unfold pMk pLok; omega))) hEB (by omega) rfl).mono (fun r u hu => ⟨hu.1, hu.2.1, hu.2.2.1, hu.2.2.2, hLnu106⟩))

set_option maxRecDepth 20000 in
theorem c_hub_s (σ ρ : Sto) (N : Nat) (hW : WV ρ) (what V t : Int) (ht0 : 0 ≤ t) (ht1 : t < gN ρ 155 0) (Y : Int → Int) (C : Int) (hCb : C ≤ 500000) (hx : ∀ υ : Sto, CQ υ ρ N → Fg pCq σ υ → TaR υ Y → EnB Y C → RunA mX8_hub (cqQ σ ρ N V) 75 [(2, ai t), (0, ar 0), (1, ai what)] [] υ) : ∀ (n : Nat) (s : Int) (τ : Sto) (E : Int → Int) (B : Int), 0 ≤ s → s ≤ gN ρ 155 0 → n = (gN ρ 155 0 - s).toNat → CQ τ ρ N → Fg pCq σ τ → TaR τ E → EnB E B → B + 1200 * n ≤ C → Y = itr (taT ρ t) n s E → RunA mX8_hub (cqQ σ ρ N V) 47 [(3, ai s), (2, ai t), (0, ar 0), (1, ai what)] [] τ := by
  have hR := hW.R
  have hS := hW.S
  have hTr := hW.T
  intro n
  induction n with
  | zero =>
    intro s τ E B h0 h5 hn hQτ hFτ hTa hEB hB hE
    have hNk := hQτ.n.k
    have hCτ := hQτ.c
    have hNτ := hQτ.n
    have hT7τ := hQτ.t
    have hM7τ := hQτ.m
    refine a_iload_n dX8_hub_47 rfl rfl ?_
    refine a_aload_n dX8_hub_48 rfl rfl ?_
    refine a_getR (d := N) (J := 12) fX8_65 k0 rfl q0_12 rfl hCτ dX8_hub_49 ?_
    refine a_getI (J := 0) fX8_293 (kN hNk) rfl rfl dX8_hub_52 ?_
    refine a_topI (y := gN ρ 155 0) hNτ.n0 ?_
    refine a_icmp_ge (tgt := 75) dX8_hub_55 (by decide) (inR_of (by omega) (by omega)) (inR_gN _ _ _) (fun c55 => ?_) (fun c55 => ?_)
    · exact a_keep (by simp) (hx τ hQτ hFτ (by rw [hE]; exact hTa) (by rw [hE]; exact hEB.le (by omega)))
    · exfalso; omega
  | succ n ih =>
    intro s τ E B h0 h5 hn hQτ hFτ hTa hEB hB hE
    have hNk := hQτ.n.k
    have hCτ := hQτ.c
    have hNτ := hQτ.n
    have hT7τ := hQτ.t
    have hM7τ := hQτ.m
    refine a_iload_n dX8_hub_47 rfl rfl ?_
    refine a_aload_n dX8_hub_48 rfl rfl ?_
    refine a_getR (d := N) (J := 12) fX8_65 k0 rfl q0_12 rfl hCτ dX8_hub_49 ?_
    refine a_getI (J := 0) fX8_293 (kN hNk) rfl rfl dX8_hub_52 ?_
    refine a_topI (y := gN ρ 155 0) hNτ.n0 ?_
    refine a_icmp_ge (tgt := 75) dX8_hub_55 (by decide) (inR_of (by omega) (by omega)) (inR_gN _ _ _) (fun c55 => ?_) (fun c55 => ?_)
    · exfalso; omega
    · refine a_iload_n dX8_hub_58 rfl rfl ?_
      refine a_iload_n dX8_hub_59 rfl rfl ?_
      refine a_icmp_eq (tgt := 69) dX8_hub_60 (by decide) (inR_of (by omega) (by omega)) (inR_of (by omega) (by omega)) (fun c60 => ?_) (fun c60 => ?_)
      · refine a_iinc (y := s + 1) (ls' := [(3, ai (s + 1)), (2, ai t), (0, ar 0), (1, ai what)]) dX8_hub_69 rfl rfl (Nat.le_of_ble_eq_true rfl) rfl ?_
        refine a_goto (tgt := 47) dX8_hub_72 (by decide) ?_
        have e : taT ρ t s E = E := if_pos (by omega)
        exact a_keep (by simp) (ih (s + 1) τ E B (by omega) (by omega) (by omega) hQτ hFτ hTa hEB (by omega) (by rw [hE, itr_s, e]))
      · refine a_aload_n dX8_hub_63 rfl rfl ?_
        refine a_iload_n dX8_hub_64 rfl rfl ?_
        refine a_iload_n dX8_hub_65 rfl rfl ?_
        refine a_callV (c := 0) (as := [ai s, ai t]) (rest := []) (c_tally τ ρ N hW hQτ s t (by omega) (by omega) (by omega) (by omega) E B hTa hEB (by omega)) mvX8_tallyChanges lX8_304 k0 (by decide) rfl rfl rfl rfl (Nat.le_of_ble_eq_true rfl) (Nat.le_of_ble_eq_true rfl) (Nat.le_of_ble_eq_true rfl) dX8_hub_66 (fun υ hu => ?_)
        obtain ⟨-, hQυ, hGυ, hTυ, hLυ⟩ := hu
        have hFυ : Fg pCq σ υ := hFτ.trans hGυ
        refine a_iinc (y := s + 1) (ls' := [(3, ai (s + 1)), (2, ai t), (0, ar 0), (1, ai what)]) dX8_hub_69 rfl rfl (Nat.le_of_ble_eq_true rfl) rfl ?_
        refine a_goto (tgt := 47) dX8_hub_72 (by decide) ?_
        have e : taT ρ t s E = taF ρ s t E := if_neg (by omega)
        exact a_keep (by simp) (ih (s + 1) υ (taF ρ s t E) (B + 1200) (by omega) (by omega) (by omega) hQυ hFυ hTυ ((taI_B hW ht0 ht1 _ 0 E B (by omega) (by omega) hEB).le (by omega)) (by omega) (by rw [hE, itr_s, e]))

set_option maxRecDepth 20000 in
theorem c_hub_t (σ ρ : Sto) (N : Nat) (hW : WV ρ) (what V : Int) (Y : Int → Int) (hx : ∀ υ : Sto, CQ υ ρ N → Fg pCq σ υ → TaR υ Y → EnB Y 400000 → RunA mX8_hub (cqQ σ ρ N V) 81 [(0, ar 0), (1, ai what)] [] υ) : ∀ (n : Nat) (t : Int) (τ : Sto) (E : Int → Int) (B : Int), 0 ≤ t → t ≤ gN ρ 155 0 → n = (gN ρ 155 0 - t).toNat → CQ τ ρ N → Fg pCq σ τ → TaR τ E → EnB E B → B + 12000 * n ≤ 400000 → Y = itr (taS ρ) n t E → RunA mX8_hub (cqQ σ ρ N V) 34 [(2, ai t), (0, ar 0), (1, ai what)] [] τ := by
  have hR := hW.R
  have hS := hW.S
  have hTr := hW.T
  intro n
  induction n with
  | zero =>
    intro t τ E B h0 h5 hn hQτ hFτ hTa hEB hB hE
    have hNk := hQτ.n.k
    have hCτ := hQτ.c
    have hNτ := hQτ.n
    have hT7τ := hQτ.t
    have hM7τ := hQτ.m
    refine a_iload_n dX8_hub_34 rfl rfl ?_
    refine a_aload_n dX8_hub_35 rfl rfl ?_
    refine a_getR (d := N) (J := 12) fX8_65 k0 rfl q0_12 rfl hCτ dX8_hub_36 ?_
    refine a_getI (J := 0) fX8_293 (kN hNk) rfl rfl dX8_hub_39 ?_
    refine a_topI (y := gN ρ 155 0) hNτ.n0 ?_
    refine a_icmp_ge (tgt := 81) dX8_hub_42 (by decide) (inR_of (by omega) (by omega)) (inR_gN _ _ _) (fun c42 => ?_) (fun c42 => ?_)
    · exact a_keep (by simp) (hx τ hQτ hFτ (by rw [hE]; exact hTa) (by rw [hE]; exact hEB.le (by omega)))
    · exfalso; omega
  | succ n ih =>
    intro t τ E B h0 h5 hn hQτ hFτ hTa hEB hB hE
    have hNk := hQτ.n.k
    have hCτ := hQτ.c
    have hNτ := hQτ.n
    have hT7τ := hQτ.t
    have hM7τ := hQτ.m
    refine a_iload_n dX8_hub_34 rfl rfl ?_
    refine a_aload_n dX8_hub_35 rfl rfl ?_
    refine a_getR (d := N) (J := 12) fX8_65 k0 rfl q0_12 rfl hCτ dX8_hub_36 ?_
    refine a_getI (J := 0) fX8_293 (kN hNk) rfl rfl dX8_hub_39 ?_
    refine a_topI (y := gN ρ 155 0) hNτ.n0 ?_
    refine a_icmp_ge (tgt := 81) dX8_hub_42 (by decide) (inR_of (by omega) (by omega)) (inR_gN _ _ _) (fun c42 => ?_) (fun c42 => ?_)
    · exfalso; omega
    · refine a_iconst dX8_hub_45 ?_
      refine a_istore_n (ls' := [(3, ai 0), (2, ai t), (0, ar 0), (1, ai what)]) dX8_hub_46 rfl (Nat.le_of_ble_eq_true rfl) rfl ?_
      refine a_keep (ls' := [(3, ai 0), (2, ai t), (0, ar 0), (1, ai what)]) (by simp) ?_
      refine c_hub_s σ ρ N hW what V t h0 (by omega) (taS ρ t E) (B + 12000) (by omega) (fun y a1 a2 a3 a4 => ?_) (gN ρ 155 0).toNat 0 τ E B (by omega) (by omega) (by omega) hQτ hFτ hTa hEB (by omega) rfl
      refine a_iinc (y := t + 1) (ls' := [(2, ai (t + 1)), (0, ar 0), (1, ai what)]) dX8_hub_75 rfl rfl (Nat.le_of_ble_eq_true rfl) rfl ?_
      refine a_goto (tgt := 34) dX8_hub_78 (by decide) ?_
      exact ih (t + 1) y (taS ρ t E) (B + 12000) (by omega) (by omega) (by omega) a1 a2 a3 a4 (by omega) (by rw [hE, itr_s])

set_option maxRecDepth 20000 in
theorem c_hub_z (σ ρ : Sto) (N : Nat) (hW : WV ρ) (what V : Int) (hx : ∀ υ : Sto, CQ υ ρ N → Fg pCq σ υ → TaR υ (fun _ => 0) → RunA mX8_hub (cqQ σ ρ N V) 32 [(0, ar 0), (1, ai what)] [] υ) : ∀ (n : Nat) (s : Int) (τ : Sto), 0 ≤ s → s ≤ 10 → n = (10 - s).toNat → CQ τ ρ N → Fg pCq σ τ → (∀ a : Int, 0 ≤ a → a < s → gN τ 90 a = 0) → RunA mX8_hub (cqQ σ ρ N V) 13 [(2, ai s), (0, ar 0), (1, ai what)] [] τ := by
  have hR := hW.R
  have hS := hW.S
  have hTr := hW.T
  intro n
  induction n with
  | zero =>
    intro s τ h0 h5 hn hQτ hFτ hZ
    have hNk := hQτ.n.k
    have hCτ := hQτ.c
    have hNτ := hQτ.n
    have hT7τ := hQτ.t
    have hM7τ := hQτ.m
    refine a_iload_n dX8_hub_13 rfl rfl ?_
    refine a_bipush (x := 10) dX8_hub_14 (by decide) ?_
    refine a_icmp_ge (tgt := 32) dX8_hub_16 (by decide) (inR_of (by omega) (by omega)) (inR_of (by omega) (by omega)) (fun c16 => ?_) (fun c16 => ?_)
    · exact a_keep (by simp) (hx τ hQτ hFτ (fun a a0 a1 => hZ a a0 (by omega)))
    · exfalso; omega
  | succ n ih =>
    intro s τ h0 h5 hn hQτ hFτ hZ
    have hNk := hQτ.n.k
    have hCτ := hQτ.c
    have hNτ := hQτ.n
    have hT7τ := hQτ.t
    have hM7τ := hQτ.m
    refine a_iload_n dX8_hub_13 rfl rfl ?_
    refine a_bipush (x := 10) dX8_hub_14 (by decide) ?_
    refine a_icmp_ge (tgt := 32) dX8_hub_16 (by decide) (inR_of (by omega) (by omega)) (inR_of (by omega) (by omega)) (fun c16 => ?_) (fun c16 => ?_)
    · exfalso; omega
    · refine a_aload_n dX8_hub_19 rfl rfl ?_
      refine a_getF (d := 90) fX8_58 k0 rfl r0_11 dX8_hub_20 ?_
      refine a_iload_n dX8_hub_23 rfl rfl ?_
      refine a_iconst dX8_hub_24 ?_
      refine a_ist k90 n90 (by omega) (by omega) dX8_hub_25 ?_
      refine a_iinc (y := s + 1) (ls' := [(2, ai (s + 1)), (0, ar 0), (1, ai what)]) dX8_hub_26 rfl rfl (Nat.le_of_ble_eq_true rfl) rfl ?_
      refine a_goto (tgt := 13) dX8_hub_29 (by decide) ?_
      have hA : Fg pAft τ (sN τ 90 s 0) := Fg.rfl.sN (by unfold pAft; omega)
      refine a_keep (by simp) (ih (s + 1) (sN τ 90 s 0) (by omega) (by omega) (by omega) (hQτ.aft hS.2 hR.2 hA) (hFτ.trans (hA.mono (fun c j z => pAft_Q z))) (fun a a0 a1 => ?_))
      rw [gN_sN]
      by_cases e : a = s
      · rw [if_pos ⟨rfl, e⟩]; rfl
      · rw [if_neg (by omega)]; exact hZ a a0 (by omega)

set_option maxRecDepth 20000 in
theorem c_hub_b (σ τ ρ : Sto) (N : Nat) (hW : WV ρ) (hQτ : CQ τ ρ N) (hFτ : Fg pCq σ τ) (what : Int) (hw0 : 0 ≤ what) (hw1 : what ≤ 1) (E : Int → Int) (hTa : TaR τ E) (hEB : EnB E 400000) (V : Int) : ∀ (n : Nat) (s : Int) (best : Int), 1 ≤ s → s ≤ 10 → n = (gN ρ 155 0 - s).toNat → 0 ≤ best → best < 10 → V = hrC E (itr (hbC E) n s best) what → RunA mX8_hub (cqQ σ ρ N V) 85 [(3, ai s), (2, ai best), (0, ar 0), (1, ai what)] [] τ := by
  have hNk := hQτ.n.k
  have hR := hW.R
  have hS := hW.S
  have hTr := hW.T
  have hCτ := hQτ.c
  have hNτ := hQτ.n
  have hT7τ := hQτ.t
  have hM7τ := hQτ.m
  intro n
  induction n with
  | zero =>
    intro s best h0 h5 hn hb0 hb1 hE
    refine a_iload_n dX8_hub_85 rfl rfl ?_
    refine a_aload_n dX8_hub_86 rfl rfl ?_
    refine a_getR (d := N) (J := 12) fX8_65 k0 rfl q0_12 rfl hCτ dX8_hub_87 ?_
    refine a_getI (J := 0) fX8_293 (kN hNk) rfl rfl dX8_hub_90 ?_
    refine a_topI (y := gN ρ 155 0) hNτ.n0 ?_
    refine a_icmp_ge (tgt := 119) dX8_hub_93 (by decide) (inR_of (by omega) (by omega)) (inR_gN _ _ _) (fun c93 => ?_) (fun c93 => ?_)
    · refine a_aload_n dX8_hub_119 rfl rfl ?_
      refine a_getF (d := 90) fX8_58 k0 rfl r0_11 dX8_hub_120 ?_
      refine a_iload_n dX8_hub_123 rfl rfl ?_
      refine a_ild k90 n90 (by omega) (by omega) dX8_hub_124 ?_
      refine a_topI (y := E best) (hTa best (by omega) (by omega)) ?_
      have hb86 := hEB best (by omega) (by omega)
      refine a_if_ne (tgt := 131) dX8_hub_125 (by decide) (inR_of (by omega) (by omega)) (fun c125 => ?_) (fun c125 => ?_)
      · refine a_iload_n dX8_hub_131 rfl rfl ?_
        refine a_if_ne (tgt := 139) dX8_hub_132 (by decide) (inR_of (by omega) (by omega)) (fun c132 => ?_) (fun c132 => ?_)
        · refine a_aload_n dX8_hub_139 rfl rfl ?_
          refine a_getF (d := 90) fX8_58 k0 rfl r0_11 dX8_hub_140 ?_
          refine a_iload_n dX8_hub_143 rfl rfl ?_
          refine a_ild k90 n90 (by omega) (by omega) dX8_hub_144 ?_
          refine a_topI (y := E best) (hTa best (by omega) (by omega)) ?_
          exact a_iret rfl ⟨by rw [hE]; show _ = some (ai (hrC E best what)); unfold hrC; grind, hQτ, hFτ⟩ dX8_hub_145
        · refine a_iload_n dX8_hub_135 rfl rfl ?_
          refine a_goto (tgt := 145) dX8_hub_136 (by decide) ?_
          exact a_iret rfl ⟨by rw [hE]; show _ = some (ai (hrC E best what)); unfold hrC; grind, hQτ, hFτ⟩ dX8_hub_145
      · refine a_bipush (x := (-2)) dX8_hub_128 (by decide) ?_
        exact a_iret rfl ⟨by rw [hE]; show _ = some (ai (hrC E best what)); unfold hrC; grind, hQτ, hFτ⟩ dX8_hub_130
    · exfalso; omega
  | succ n ih =>
    intro s best h0 h5 hn hb0 hb1 hE
    refine a_iload_n dX8_hub_85 rfl rfl ?_
    refine a_aload_n dX8_hub_86 rfl rfl ?_
    refine a_getR (d := N) (J := 12) fX8_65 k0 rfl q0_12 rfl hCτ dX8_hub_87 ?_
    refine a_getI (J := 0) fX8_293 (kN hNk) rfl rfl dX8_hub_90 ?_
    refine a_topI (y := gN ρ 155 0) hNτ.n0 ?_
    refine a_icmp_ge (tgt := 119) dX8_hub_93 (by decide) (inR_of (by omega) (by omega)) (inR_gN _ _ _) (fun c93 => ?_) (fun c93 => ?_)
    · exfalso; omega
    · refine a_aload_n dX8_hub_96 rfl rfl ?_
      refine a_getF (d := 90) fX8_58 k0 rfl r0_11 dX8_hub_97 ?_
      refine a_iload_n dX8_hub_100 rfl rfl ?_
      refine a_ild k90 n90 (by omega) (by omega) dX8_hub_101 ?_
      refine a_topI (y := E s) (hTa s (by omega) (by omega)) ?_
      have hb87 := hEB s (by omega) (by omega)
      refine a_aload_n dX8_hub_102 rfl rfl ?_
      refine a_getF (d := 90) fX8_58 k0 rfl r0_11 dX8_hub_103 ?_
      refine a_iload_n dX8_hub_106 rfl rfl ?_
      refine a_ild k90 n90 (by omega) (by omega) dX8_hub_107 ?_
      refine a_topI (y := E best) (hTa best (by omega) (by omega)) ?_
      have hb88 := hEB best (by omega) (by omega)
      refine a_icmp_le (tgt := 113) dX8_hub_108 (by decide) (inR_of (by omega) (by omega)) (inR_of (by omega) (by omega)) (fun c108 => ?_) (fun c108 => ?_)
      · refine a_iinc (y := s + 1) (ls' := [(3, ai (s + 1)), (2, ai best), (0, ar 0), (1, ai what)]) dX8_hub_113 rfl rfl (Nat.le_of_ble_eq_true rfl) rfl ?_
        refine a_goto (tgt := 85) dX8_hub_116 (by decide) ?_
        have e : hbC E s best = best := by unfold hbC; rw [if_neg (by omega)]
        exact a_keep (by simp) (ih (s + 1) (best) (by omega) (by omega) (by omega) (by omega) (by omega) (by rw [hE, itr_s, e]))
      · refine a_iload_n dX8_hub_111 rfl rfl ?_
        refine a_istore_n (ls' := [(2, ai s), (3, ai s), (0, ar 0), (1, ai what)]) dX8_hub_112 rfl (Nat.le_of_ble_eq_true rfl) rfl ?_
        refine a_iinc (y := s + 1) (ls' := [(3, ai (s + 1)), (2, ai s), (0, ar 0), (1, ai what)]) dX8_hub_113 rfl rfl (Nat.le_of_ble_eq_true rfl) rfl ?_
        refine a_goto (tgt := 85) dX8_hub_116 (by decide) ?_
        have e : hbC E s best = s := by unfold hbC; rw [if_pos (by omega)]
        exact a_keep (by simp) (ih (s + 1) (s) (by omega) (by omega) (by omega) (by omega) (by omega) (by rw [hE, itr_s, e]))

set_option maxRecDepth 20000 in
theorem c_hub (σ ρ : Sto) (N : Nat) (hW : WV ρ) (hQ : CQ σ ρ N) (what : Int) (hwhat : inR what) : MetA mX8_hub [ar 0, ai what] σ (cqQ σ ρ N (cHub ρ what)) := by
  have hC := hQ.c
  have hN := hQ.n
  have hT7 := hQ.t
  have hM7 := hQ.m
  have hF : Fg pCq σ σ := Fg.rfl
  have hNk := hN.k
  have hR := hW.R
  have hS := hW.S
  have hTr := hW.T
  refine a_entry (by decide) (Nat.le_of_ble_eq_true rfl) ?_
  refine a_ls (ls' := [(0, ar 0), (1, ai what)]) rfl ?_
  refine a_iload_n dX8_hub_0 rfl rfl ?_
  refine a_iconst dX8_hub_1 ?_
  refine a_iconst dX8_hub_2 ?_
  refine a_sI (as := [ai what, ai 0, ai 1]) (rest := []) (c_within σ what 0 1 hwhat (inR_of (by omega) (by omega)) (inR_of (by omega) (by omega))) mvX8_within lX8_179 rfl rfl rfl (Nat.le_of_ble_eq_true rfl) (Nat.le_of_ble_eq_true rfl) (Nat.le_of_ble_eq_true rfl) dX8_hub_3 ?_
  refine a_ifb_ne (tgt := 11) dX8_hub_6 (by decide) (fun c6 => ?_) (fun c6 => ?_)
  · refine a_iconst dX8_hub_11 ?_
    refine a_istore_n (ls' := [(2, ai 0), (0, ar 0), (1, ai what)]) dX8_hub_12 rfl (Nat.le_of_ble_eq_true rfl) rfl ?_
    have e : cHub ρ what = hrC (hubC ρ) (itr (hbC (hubC ρ)) (gN ρ 155 0 - 1).toNat 1 0) what := by unfold cHub; rw [if_neg (by grind)]
    rw [e]
    refine a_keep (by simp) (c_hub_z σ ρ N hW what _ (fun υ a1 a2 a3 => ?_) 10 0 σ (by omega) (by omega) (by omega) hQ hF (fun a a0 a1 => by omega))
    refine a_iconst dX8_hub_32 ?_
    refine a_istore_n (ls' := [(2, ai 0), (0, ar 0), (1, ai what)]) dX8_hub_33 rfl (Nat.le_of_ble_eq_true rfl) rfl ?_
    refine a_keep (by simp) (c_hub_t σ ρ N hW what _ (hubC ρ) (fun w b1 b2 b3 b4 => ?_) (gN ρ 155 0).toNat 0 υ (fun _ => 0) 0 (by omega) (by omega) (by omega) a1 a2 a3 (fun _ _ _ => ⟨Int.le_refl _, Int.le_refl _⟩) (by omega) rfl)
    refine a_iconst dX8_hub_81 ?_
    refine a_istore_n (ls' := [(2, ai 0), (0, ar 0), (1, ai what)]) dX8_hub_82 rfl (Nat.le_of_ble_eq_true rfl) rfl ?_
    refine a_iconst dX8_hub_83 ?_
    refine a_istore_n (ls' := [(3, ai 1), (2, ai 0), (0, ar 0), (1, ai what)]) dX8_hub_84 rfl (Nat.le_of_ble_eq_true rfl) rfl ?_
    exact c_hub_b σ w ρ N hW b1 b2 what (by omega) (by omega) (hubC ρ) b3 b4 _ (gN ρ 155 0 - 1).toNat 1 0 (by omega) (by omega) (by omega) (by omega) (by omega) rfl
  · refine a_iconst dX8_hub_9 ?_
    exact a_iret rfl ⟨by unfold cHub; grind, hQ, hF⟩ dX8_hub_10

