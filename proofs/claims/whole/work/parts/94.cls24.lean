/-! The class: delays, cancelled rides, undone ones; the tape. -/
def KpA (u ρ : Sto) (tp sz : Int) : Prop := gN u 15 0 = (if sz + 1 < 20 then sz + 1 else 20) ∧ gN u 15 1 = (if tp + 1 < 20 then tp + 1 else 0) ∧ gL u 17 tp = gL ρ 153 23 ∧ ∀ i : Int, 0 ≤ i → i < gN ρ 155 3 → gN u (18 + tp.toNat) i = gN ρ 161 i - gN ρ 155 (115 + 5 * i + 3)
/-- nothing is linked, nothing looked at -/
def Frs (u : Sto) : Prop := gN u 7 2 = 0 ∧ ∀ t : Int, 0 ≤ t → t < 10 → gN u 42 t = 0
def dlC (ρ : Sto) (mi r c : Int) : Int := if gN ρ 161 r - gN ρ 155 (115 + 5 * r + 3) = mi then c else c + 1
abbrev ofT (ρ : Sto) (trip j : Int) : Prop := trp ρ trip ∧ 0 ≤ j ∧ j < f1F ρ (trip + 1) - f1F ρ trip
abbrev rfz (ρ : Sto) (fi mi : Int) : Prop := LE_ ρ fi + mi < 0 ∨ (0 < fi ∧ nxt ρ (fi - 1) ∧ LE_ ρ fi + mi < gN ρ 162 (fi - 1))
def cDelay (ρ : Sto) (trip j mi : Int) : Int := if ¬ ofT ρ trip j ∨ mi < -60 ∨ 240 < mi then -1 else if rfz ρ (f1F ρ trip + j) mi then -2 else itr (dlC ρ mi) (f1F ρ (trip + 1) - (f1F ρ trip + j)).toNat (f1F ρ trip + j) 0
abbrev pDl (tp : Int) (c : Nat) (j : Int) : Prop := pUk tp c j ∨ c = 8 ∨ c = 9 ∨ c = 42 ∨ (c = 7 ∧ j = 2)
def SetT (u ρ : Sto) (fi en mi : Int) : Prop := ∀ i : Int, 0 ≤ i → i < gN ρ 155 3 → gN u 8 i = (if fi ≤ i ∧ i < en then LE_ ρ i + mi else gN ρ 161 i) ∧ gN u 9 i = (if fi ≤ i ∧ i < en then CO_ ρ i + mi else gN ρ 162 i)
def DlC (σ u ρ : Sto) (tp sz fi en mi : Int) : Prop := Fg (pDl tp) σ u ∧ KpA u ρ tp sz ∧ SetT u ρ fi en mi ∧ Frs u
def cnC (ρ : Sto) (b r c : Int) : Int := if (if cnc ρ r then 1 else 0) = b then c else c + 1
def cnE (ρ : Sto) (trip fi n : Int) : Int := fi + if f1F ρ (trip + 1) - fi < n then f1F ρ (trip + 1) - fi else n
def cCancel (ρ : Sto) (trip j n b : Int) : Int := if ¬ ofT ρ trip j ∨ n < 1 then -1 else itr (cnC ρ b) (cnE ρ trip (f1F ρ trip + j) n - (f1F ρ trip + j)).toNat (f1F ρ trip + j) 0
def cnB (ρ : Sto) (b fi en : Int) : Int64 := if b = 0 then gL ρ 153 23 &&& (bitsF fi en ^^^ (-1)) else gL ρ 153 23 ||| bitsF fi en
abbrev pCn (tp : Int) (c : Nat) (j : Int) : Prop := pUk tp c j ∨ c = 42 ∨ (c = 7 ∧ (j = 1 ∨ j = 2))
def CnC (σ u ρ : Sto) (tp sz : Int) (V : Int64) : Prop := Fg (pCn tp) σ u ∧ KpA u ρ tp sz ∧ gL u 7 1 = V ∧ Frs u
abbrev pUu (c : Nat) (j : Int) : Prop := pTb c j ∨ c = 42 ∨ (c = 7 ∧ j = 2)
def UdC (σ u ρ : Sto) (tp sz : Int) : Prop := Fg pUu σ u ∧ gN u 15 0 = sz - 1 ∧ gN u 15 1 = tbT tp ∧ gL u 7 1 = gL σ 17 (tbT tp) ∧ (∀ i : Int, 0 ≤ i → i < gN ρ 155 3 → gN u 8 i = LE_ ρ i + gN σ (18 + (tbT tp).toNat) i ∧ gN u 9 i = CO_ ρ i + gN σ (18 + (tbT tp).toNat) i) ∧ Frs u

set_option maxRecDepth 20000 in
theorem c_dl_w (y ρ : Sto) (N : Nat) (hW : WV ρ) (hN : NetR y N ρ) (hr : gR y 7 0 = some N) (Q : Option Av → Sto → Prop) (trip j mi : Int) (hT_ : ofT ρ trip j) (hm0 : -60 ≤ mi) (hm1 : mi ≤ 240) (c : Int) (hx : ∀ υ : Sto, Fg (fun c _ => c = 8 ∨ c = 9) y υ → SetT υ ρ (f1F ρ trip + j) (f1F ρ (trip + 1)) mi → RunA mX8_delay Q 144 [(6, ai c), (0, ar 0)] [] υ) : ∀ (n : Nat) (r : Int) (τ : Sto), f1F ρ trip + j ≤ r → r ≤ f1F ρ (trip + 1) → n = (f1F ρ (trip + 1) - r).toNat → Fg (fun c _ => c = 8 ∨ c = 9) y τ → SetT τ ρ (f1F ρ trip + j) r mi → RunA mX8_delay Q 121 [(7, ai r), (6, ai c), (5, ai (f1F ρ (trip + 1))), (4, ai (f1F ρ trip + j)), (0, ar 0), (1, ai trip), (2, ai j), (3, ai mi)] [] τ := by
  have hNk := hN.k
  have hR := hW.R
  have hS := hW.S
  have hTr := hW.T
  have hf1 := f1_lt hW hT_.1
  have hj0 := hT_.2.1
  have hj1 := hT_.2.2
  have hTk : Tok 7 := by decide
  intro n
  induction n with
  | zero =>
    intro r τ h0 h5 hn hF hS8
    have hNτ : NetR τ N ρ := hN.of hS.2 (fun d j q0 q1 => hF.n (by omega))
    have hrτ : gR τ 7 0 = some N := (hF.r (by omega)).trans hr
    refine a_iload dX8_delay_121 rfl ?_
    refine a_iload dX8_delay_123 rfl ?_
    refine a_icmp_ge (tgt := 144) dX8_delay_125 (by decide) (inR_of (by omega) (by omega)) (inR_of (by omega) (by omega)) (fun c125 => ?_) (fun c125 => ?_)
    · exact a_keep (by simp) (hx τ hF (by rw [show f1F ρ (trip + 1) = r by omega]; exact hS8))
    · exfalso; omega
  | succ n ih =>
    intro r τ h0 h5 hn hF hS8
    have hNτ : NetR τ N ρ := hN.of hS.2 (fun d j q0 q1 => hF.n (by omega))
    have hrτ : gR τ 7 0 = some N := (hF.r (by omega)).trans hr
    refine a_iload dX8_delay_121 rfl ?_
    refine a_iload dX8_delay_123 rfl ?_
    refine a_icmp_ge (tgt := 144) dX8_delay_125 (by decide) (inR_of (by omega) (by omega)) (inR_of (by omega) (by omega)) (fun c125 => ?_) (fun c125 => ?_)
    · exfalso; omega
    · refine a_aload_n dX8_delay_128 rfl rfl ?_
      refine a_getF (d := 7) fX8_81 k0 rfl r0_3 dX8_delay_129 ?_
      refine a_iload dX8_delay_132 rfl ?_
      refine a_iload_n dX8_delay_134 rfl rfl ?_
      refine a_cV (c := 7) (as := [ai r, ai mi]) (rest := []) (c_setML τ ρ N 7 hW hNτ hTk hrτ r mi (by omega) (by omega)) mvX6_setMinutesLate lX8_196 k7 (by decide) rfl rfl rfl rfl (Nat.le_of_ble_eq_true rfl) (Nat.le_of_ble_eq_true rfl) (Nat.le_of_ble_eq_true rfl) dX8_delay_135 ?_
      refine a_iinc (y := r + 1) (ls' := [(7, ai (r + 1)), (6, ai c), (5, ai (f1F ρ (trip + 1))), (4, ai (f1F ρ trip + j)), (0, ar 0), (1, ai trip), (2, ai j), (3, ai mi)]) dX8_delay_138 rfl rfl (Nat.le_of_ble_eq_true rfl) rfl ?_
      refine a_goto (tgt := 121) dX8_delay_141 (by decide) ?_
      have hrd := hW.ride r (by omega) (by omega)
      refine a_keep (by simp) (ih (r + 1) (sN (sN τ 8 r (LE_ ρ r + mi)) 9 r (CO_ ρ r + mi)) (by omega) (by omega) (by omega) ((hF.sN (Or.inl rfl)).sN (Or.inr rfl)) (fun i i0 i1 => ?_))
      by_cases e : i = r
      · refine ⟨?_, ?_⟩
        · rw [e, gN_sN, if_neg (by omega), gN_sN, if_pos ⟨rfl, rfl⟩, nrm_of (inR_of (by unfold LE_; omega) (by unfold LE_; omega)), if_pos (by omega)]
        · rw [e, gN_sN, if_pos ⟨rfl, rfl⟩, nrm_of (inR_of (by unfold CO_; omega) (by unfold CO_; omega)), if_pos (by omega)]
      · have z := hS8 i i0 i1
        refine ⟨?_, ?_⟩
        · rw [gN_sN, if_neg (by omega), gN_sN, if_neg (by omega), z.1]; split <;> split <;> first | rfl | omega
        · rw [gN_sN, if_neg (by omega), gN_sN, if_neg (by omega), z.2]; split <;> split <;> first | rfl | omega

set_option maxRecDepth 20000 in
theorem c_dl_c (σ ρ : Sto) (N : Nat) (hW : WV ρ) (hQ : CQ σ ρ N) (tp sz : Int) (htp : gN σ 15 1 = tp) (hsz : gN σ 15 0 = sz) (hp0 : 0 ≤ tp) (hp1 : tp < 20) (hz0 : 0 ≤ sz) (hz1 : sz ≤ 20) (trip j mi : Int) (hT_ : ofT ρ trip j) (hm0 : -60 ≤ mi) (hm1 : mi ≤ 240) (V : Int) : ∀ (n : Nat) (r : Int) (c : Int), f1F ρ trip + j ≤ r → r ≤ f1F ρ (trip + 1) → n = (f1F ρ (trip + 1) - r).toNat → 0 ≤ c → c ≤ 60 → c + n ≤ 60 → V = itr (dlC ρ mi) n r c → RunA mX8_delay (fun r u => r = some (ai V) ∧ if 0 < V then DlC σ u ρ tp sz (f1F ρ trip + j) (f1F ρ (trip + 1)) mi else u = σ) 72 [(7, ai r), (6, ai c), (5, ai (f1F ρ (trip + 1))), (4, ai (f1F ρ trip + j)), (0, ar 0), (1, ai trip), (2, ai j), (3, ai mi)] [] σ := by
  have hC := hQ.c
  have hN := hQ.n
  have hT7 := hQ.t
  have hM7 := hQ.m
  have hF : Fg pCq σ σ := Fg.rfl
  have hNk := hN.k
  have hR := hW.R
  have hS := hW.S
  have hTr := hW.T
  have hf1 := f1_lt hW hT_.1
  have hj0 := hT_.2.1
  have hj1 := hT_.2.2
  intro n
  induction n with
  | zero =>
    intro r c h0 h5 hn hc0 hc1 hc2 hE
    refine a_iload dX8_delay_72 rfl ?_
    refine a_iload dX8_delay_74 rfl ?_
    refine a_icmp_ge (tgt := 101) dX8_delay_76 (by decide) (inR_of (by omega) (by omega)) (inR_of (by omega) (by omega)) (fun c76 => ?_) (fun c76 => ?_)
    · have hVc : V = c := hE
      refine a_iload dX8_delay_101 rfl ?_
      refine a_if_le (tgt := 148) dX8_delay_103 (by decide) (inR_of (by omega) (by omega)) (fun c103 => ?_) (fun c103 => ?_)
      · refine a_iload dX8_delay_148 rfl ?_
        exact a_iret rfl ⟨by rw [hVc], by rw [if_neg (by omega)]⟩ dX8_delay_150
      · refine a_aload_n dX8_delay_106 rfl rfl ?_
        refine a_getF (d := 15) fX8_23 k0 rfl r0_5 dX8_delay_107 ?_
        refine a_aload_n dX8_delay_110 rfl rfl ?_
        refine a_getF (d := 7) fX8_81 k0 rfl r0_3 dX8_delay_111 ?_
        refine a_callV (c := 15) (as := [ar 7]) (rest := []) (c_keep σ ρ N hW hN hT7 tp sz htp hsz hp0 hp1 hz0 hz1) mvX7_keep lX8_192 k15 (by decide) rfl rfl rfl rfl (Nat.le_of_ble_eq_true rfl) (Nat.le_of_ble_eq_true rfl) (Nat.le_of_ble_eq_true rfl) dX8_delay_114 (fun y hu => ?_)
        obtain ⟨-, hK⟩ := hu
        have hG := hK.1
        have hNy : NetR y N ρ := hN.of hS.2 (fun d j q0 q1 => hG.n (by unfold pUk; omega))
        have hry : gR y 7 0 = some N := (hG.r (by unfold pUk; omega)).trans hT7.net
        have hT7y : TmR y N 7 ρ := hT7.of (hG.r (by unfold pUk; omega)) (hG.l (by unfold pUk; omega)) (fun j => hG.n (by unfold pUk; omega)) (fun j => hG.n (by unfold pUk; omega)) (Or.inl (hG.n (by unfold pUk; omega)))
        refine a_iload dX8_delay_117 rfl ?_
        refine a_istore (ls' := [(7, ai (f1F ρ trip + j)), (6, ai c), (5, ai (f1F ρ (trip + 1))), (4, ai (f1F ρ trip + j)), (0, ar 0), (1, ai trip), (2, ai j), (3, ai mi)]) dX8_delay_119 (Nat.le_of_ble_eq_true rfl) rfl ?_
        refine a_keep (by simp) (c_dl_w y ρ N hW hNy hry _ trip j mi hT_ hm0 hm1 c (fun υ a1 a2 => ?_) (f1F ρ (trip + 1) - (f1F ρ trip + j)).toNat (f1F ρ trip + j) y (by omega) (by omega) (by omega) Fg.rfl (fun i i0 i1 => by rw [if_neg (by omega), if_neg (by omega)]; exact ⟨hT7y.lv i0 i1, hT7y.cm i0 i1⟩))
        refine a_aload_n dX8_delay_144 rfl rfl ?_
        refine a_callV (c := 0) (as := []) (rest := []) (c_timesChanged υ) mvX8_timesChanged lX8_200 k0 (by decide) rfl rfl rfl rfl (Nat.le_of_ble_eq_true rfl) (Nat.le_of_ble_eq_true rfl) (Nat.le_of_ble_eq_true rfl) dX8_delay_145 (fun w hw => ?_)
        obtain ⟨-, b1, b2, b3⟩ := hw
        refine a_iload dX8_delay_148 rfl ?_
        refine a_iret rfl ⟨by rw [hVc], ?_⟩ dX8_delay_150
        rw [if_pos (by omega)]
        refine ⟨((hG.mono (fun c j z => Or.inl z)).trans (a1.mono (fun c j z => by omega))).trans (b1.mono (fun c j z => by omega)), ⟨?_, ?_, ?_, fun i i0 i1 => ?_⟩, fun i i0 i1 => ?_, b2, b3⟩
        · rw [b1.n (by omega), a1.n (by omega)]; exact hK.2.1
        · rw [b1.n (by omega), a1.n (by omega)]; exact hK.2.2.1
        · rw [b1.l (by omega), a1.l (by omega)]; exact hK.2.2.2.1
        · rw [b1.n (by omega), a1.n (by omega)]; exact hK.2.2.2.2 i i0 i1
        · rw [b1.n (by omega), b1.n (by omega)]; exact a2 i i0 i1
    · exfalso; omega
  | succ n ih =>
    intro r c h0 h5 hn hc0 hc1 hc2 hE
    refine a_iload dX8_delay_72 rfl ?_
    refine a_iload dX8_delay_74 rfl ?_
    refine a_icmp_ge (tgt := 101) dX8_delay_76 (by decide) (inR_of (by omega) (by omega)) (inR_of (by omega) (by omega)) (fun c76 => ?_) (fun c76 => ?_)
    · exfalso; omega
    · refine a_aload_n dX8_delay_79 rfl rfl ?_
      refine a_getF (d := 7) fX8_81 k0 rfl r0_3 dX8_delay_80 ?_
      refine a_iload dX8_delay_83 rfl ?_
      refine a_cI (c := 7) (as := [ai r]) (rest := []) (c_minutesLate σ ρ N 7 hW hN hT7 r (by omega) (by omega)) mvX6_minutesLate lX8_189 k7 (by decide) rfl rfl rfl rfl (Nat.le_of_ble_eq_true rfl) (Nat.le_of_ble_eq_true rfl) (Nat.le_of_ble_eq_true rfl) dX8_delay_85 ?_
      have htm := hW.tm r (by omega) (by omega)
      have hrd := hW.ride r (by omega) (by omega)
      refine a_iload_n dX8_delay_88 rfl rfl ?_
      refine a_icmp_eq (tgt := 95) dX8_delay_89 (by decide) (inR_of (by omega) (by omega)) (inR_of (by omega) (by omega)) (fun c89 => ?_) (fun c89 => ?_)
      · refine a_iinc (y := r + 1) (ls' := [(7, ai (r + 1)), (6, ai c), (5, ai (f1F ρ (trip + 1))), (4, ai (f1F ρ trip + j)), (0, ar 0), (1, ai trip), (2, ai j), (3, ai mi)]) dX8_delay_95 rfl rfl (Nat.le_of_ble_eq_true rfl) rfl ?_
        refine a_goto (tgt := 72) dX8_delay_98 (by decide) ?_
        have e : dlC ρ mi r c = c := by unfold dlC; rw [if_pos (by omega)]
        exact a_keep (by simp) (ih (r + 1) (c) (by omega) (by omega) (by omega) (by omega) (by omega) (by omega) (by rw [hE, itr_s, e]))
      · refine a_iinc (y := c + 1) (ls' := [(6, ai (c + 1)), (7, ai r), (5, ai (f1F ρ (trip + 1))), (4, ai (f1F ρ trip + j)), (0, ar 0), (1, ai trip), (2, ai j), (3, ai mi)]) dX8_delay_92 rfl rfl (Nat.le_of_ble_eq_true rfl) rfl ?_
        refine a_iinc (y := r + 1) (ls' := [(7, ai (r + 1)), (6, ai (c + 1)), (5, ai (f1F ρ (trip + 1))), (4, ai (f1F ρ trip + j)), (0, ar 0), (1, ai trip), (2, ai j), (3, ai mi)]) dX8_delay_95 rfl rfl (Nat.le_of_ble_eq_true rfl) rfl ?_
        refine a_goto (tgt := 72) dX8_delay_98 (by decide) ?_
        have e : dlC ρ mi r c = c + 1 := by unfold dlC; rw [if_neg (by omega)]
        exact a_keep (by simp) (ih (r + 1) (c + 1) (by omega) (by omega) (by omega) (by omega) (by omega) (by omega) (by rw [hE, itr_s, e]))

set_option maxRecDepth 20000 in
theorem c_delay (σ ρ : Sto) (N : Nat) (hW : WV ρ) (hQ : CQ σ ρ N) (tp sz : Int) (htp : gN σ 15 1 = tp) (hsz : gN σ 15 0 = sz) (hp0 : 0 ≤ tp) (hp1 : tp < 20) (hz0 : 0 ≤ sz) (hz1 : sz ≤ 20) (trip j mi : Int) (htrip : inR trip) (hj : inR j) (hmi : inR mi) : MetA mX8_delay [ar 0, ai trip, ai j, ai mi] σ (fun r u => r = some (ai (cDelay ρ trip j mi)) ∧ if 0 < cDelay ρ trip j mi then DlC σ u ρ tp sz (f1F ρ trip + j) (f1F ρ (trip + 1)) mi else u = σ) := by
  have hC := hQ.c
  have hN := hQ.n
  have hT7 := hQ.t
  have hM7 := hQ.m
  have hF : Fg pCq σ σ := Fg.rfl
  have hNk := hN.k
  have hR := hW.R
  have hS := hW.S
  have hTr := hW.T
  refine a_entry (by decide) (Nat.le_of_ble_eq_true rfl) ?_
  refine a_ls (ls' := [(0, ar 0), (1, ai trip), (2, ai j), (3, ai mi)]) rfl ?_
  refine a_aload_n dX8_delay_0 rfl rfl ?_
  refine a_iload_n dX8_delay_1 rfl rfl ?_
  refine a_iload_n dX8_delay_2 rfl rfl ?_
  refine a_cI (c := 0) (as := [ai trip, ai j]) (rest := []) (c_isRideOf σ ρ N hW hC hN trip j htrip hj) mvX8_isRideOf lX8_175 k0 (by decide) rfl rfl rfl rfl (Nat.le_of_ble_eq_true rfl) (Nat.le_of_ble_eq_true rfl) (Nat.le_of_ble_eq_true rfl) dX8_delay_3 ?_
  refine a_ifb_eq (tgt := 21) dX8_delay_6 (by decide) (fun c6 => ?_) (fun c6 => ?_)
  · refine a_iconst dX8_delay_21 ?_
    exact a_iret rfl (by have e1 : cDelay ρ trip j mi = (-1) := (by unfold cDelay; grind); rw [e1]; exact ⟨rfl, by rw [if_neg (by decide)]⟩) dX8_delay_22
  · refine a_iload_n dX8_delay_9 rfl rfl ?_
    refine a_bipush (x := (-60)) dX8_delay_10 (by decide) ?_
    refine a_sipush (x := 240) dX8_delay_12 (by decide) ?_
    refine a_sI (as := [ai mi, ai (-60), ai 240]) (rest := []) (c_within σ mi (-60) 240 hmi (inR_of (by omega) (by omega)) (inR_of (by omega) (by omega))) mvX8_within lX8_179 rfl rfl rfl (Nat.le_of_ble_eq_true rfl) (Nat.le_of_ble_eq_true rfl) (Nat.le_of_ble_eq_true rfl) dX8_delay_15 ?_
    refine a_ifb_ne (tgt := 23) dX8_delay_18 (by decide) (fun c18 => ?_) (fun c18 => ?_)
    · have hT_ : ofT ρ trip j := (by assumption)
      have hf1 := f1_lt hW hT_.1
      have hf2 := hT_.1.2
      have hf3 := hT_.1.1
      refine a_aload_n dX8_delay_23 rfl rfl ?_
      refine a_getR (d := N) (J := 12) fX8_65 k0 rfl q0_12 rfl hC dX8_delay_24 ?_
      refine a_getF (d := (N + 5)) fX8_183 (kN hNk) rfl (rN_8 hNk) dX8_delay_27 ?_
      refine a_iload_n dX8_delay_30 rfl rfl ?_
      refine a_ild (kN_5 hNk) (nN_5 hNk) (by omega) (by omega) dX8_delay_31 ?_
      refine a_topI (y := f1F ρ trip) (hN.f1 (by omega) (by omega)) ?_
      have hb100 := hW.f1 trip (by omega)
      refine a_iload_n dX8_delay_32 rfl rfl ?_
      refine a_iadd dX8_delay_33 ?_
      refine a_istore (ls' := [(4, ai (f1F ρ trip + j)), (0, ar 0), (1, ai trip), (2, ai j), (3, ai mi)]) dX8_delay_34 (Nat.le_of_ble_eq_true rfl) rfl ?_
      refine a_aload_n dX8_delay_36 rfl rfl ?_
      refine a_getR (d := N) (J := 12) fX8_65 k0 rfl q0_12 rfl hC dX8_delay_37 ?_
      refine a_getF (d := (N + 5)) fX8_183 (kN hNk) rfl (rN_8 hNk) dX8_delay_40 ?_
      refine a_iload_n dX8_delay_43 rfl rfl ?_
      refine a_iconst dX8_delay_44 ?_
      refine a_iadd dX8_delay_45 ?_
      refine a_ild (kN_5 hNk) (nN_5 hNk) (by omega) (by omega) dX8_delay_46 ?_
      refine a_topI (y := f1F ρ (trip + 1)) (hN.f1 (by omega) (by omega)) ?_
      have hb101 := hW.f1 (trip + 1) (by omega)
      refine a_istore (ls' := [(5, ai (f1F ρ (trip + 1))), (4, ai (f1F ρ trip + j)), (0, ar 0), (1, ai trip), (2, ai j), (3, ai mi)]) dX8_delay_47 (Nat.le_of_ble_eq_true rfl) rfl ?_
      refine a_aload_n dX8_delay_49 rfl rfl ?_
      refine a_getF (d := 7) fX8_81 k0 rfl r0_3 dX8_delay_50 ?_
      refine a_iload dX8_delay_53 rfl ?_
      refine a_iload_n dX8_delay_55 rfl rfl ?_
      refine a_cI (c := 7) (as := [ai (f1F ρ trip + j), ai mi]) (rest := []) (c_refuses σ ρ N hW hN hT7 (f1F ρ trip + j) mi (by omega) (by omega) (by omega) (by omega)) mvX6_refuses lX8_186 k7 (by decide) rfl rfl rfl rfl (Nat.le_of_ble_eq_true rfl) (Nat.le_of_ble_eq_true rfl) (Nat.le_of_ble_eq_true rfl) dX8_delay_56 ?_
      refine a_ifb_eq (tgt := 65) dX8_delay_59 (by decide) (fun c59 => ?_) (fun c59 => ?_)
      · refine a_iconst dX8_delay_65 ?_
        refine a_istore (ls' := [(6, ai 0), (5, ai (f1F ρ (trip + 1))), (4, ai (f1F ρ trip + j)), (0, ar 0), (1, ai trip), (2, ai j), (3, ai mi)]) dX8_delay_66 (Nat.le_of_ble_eq_true rfl) rfl ?_
        refine a_iload dX8_delay_68 rfl ?_
        refine a_istore (ls' := [(7, ai (f1F ρ trip + j)), (6, ai 0), (5, ai (f1F ρ (trip + 1))), (4, ai (f1F ρ trip + j)), (0, ar 0), (1, ai trip), (2, ai j), (3, ai mi)]) dX8_delay_70 (Nat.le_of_ble_eq_true rfl) rfl ?_
        have e1 : cDelay ρ trip j mi = itr (dlC ρ mi) (f1F ρ (trip + 1) - (f1F ρ trip + j)).toNat (f1F ρ trip + j) 0 := by unfold cDelay; rw [if_neg (by grind), if_neg (by assumption)]
        rw [e1]
        exact a_keep (by simp) (c_dl_c σ ρ N hW hQ tp sz htp hsz hp0 hp1 hz0 hz1 trip j mi hT_ (by omega) (by omega) _ (f1F ρ (trip + 1) - (f1F ρ trip + j)).toNat (f1F ρ trip + j) 0 (by omega) (by omega) (by omega) (by omega) (by omega) (by omega) rfl)
      · refine a_bipush (x := (-2)) dX8_delay_62 (by decide) ?_
        exact a_iret rfl (by have e1 : cDelay ρ trip j mi = (-2) := (by unfold cDelay; grind); rw [e1]; exact ⟨rfl, by rw [if_neg (by decide)]⟩) dX8_delay_64
    · refine a_iconst dX8_delay_21 ?_
      exact a_iret rfl (by have e1 : cDelay ρ trip j mi = (-1) := (by unfold cDelay; grind); rw [e1]; exact ⟨rfl, by rw [if_neg (by decide)]⟩) dX8_delay_22

set_option maxRecDepth 20000 in
theorem c_cn_c (σ ρ : Sto) (N : Nat) (hW : WV ρ) (hQ : CQ σ ρ N) (tp sz : Int) (htp : gN σ 15 1 = tp) (hsz : gN σ 15 0 = sz) (hp0 : 0 ≤ tp) (hp1 : tp < 20) (hz0 : 0 ≤ sz) (hz1 : sz ≤ 20) (trip j n0 b : Int) (hT_ : ofT ρ trip j) (hn0 : 1 ≤ n0) (hb : inR b) (V : Int) : ∀ (n : Nat) (r : Int) (c : Int), f1F ρ trip + j ≤ r → r ≤ cnE ρ trip (f1F ρ trip + j) n0 → n = (cnE ρ trip (f1F ρ trip + j) n0 - r).toNat → 0 ≤ c → c ≤ 60 → c + n ≤ 60 → V = itr (cnC ρ b) n r c → RunA mX8_cancel (fun r u => r = some (ai V) ∧ if 0 < V then CnC σ u ρ tp sz (cnB ρ b (f1F ρ trip + j) (cnE ρ trip (f1F ρ trip + j) n0)) else u = σ) 59 [(8, ai r), (7, ai c), (6, ai (cnE ρ trip (f1F ρ trip + j) n0)), (5, ai (f1F ρ trip + j)), (0, ar 0), (1, ai trip), (2, ai j), (3, ai n0), (4, ai b)] [] σ := by
  have hC := hQ.c
  have hN := hQ.n
  have hT7 := hQ.t
  have hM7 := hQ.m
  have hF : Fg pCq σ σ := Fg.rfl
  have hNk := hN.k
  have hR := hW.R
  have hS := hW.S
  have hTr := hW.T
  have hf1 := f1_lt hW hT_.1
  have hj0 := hT_.2.1
  have hj1 := hT_.2.2
  have hce : f1F ρ trip + j < cnE ρ trip (f1F ρ trip + j) n0 ∧ cnE ρ trip (f1F ρ trip + j) n0 ≤ f1F ρ (trip + 1) := by unfold cnE; split <;> omega
  intro n
  induction n with
  | zero =>
    intro r c h0 h5 hn hc0 hc1 hc2 hE
    refine a_iload dX8_cancel_59 rfl ?_
    refine a_iload dX8_cancel_61 rfl ?_
    refine a_icmp_ge (tgt := 89) dX8_cancel_63 (by decide) (inR_of (by omega) (by omega)) (inR_of (by omega) (by omega)) (fun c63 => ?_) (fun c63 => ?_)
    · have hVc : V = c := hE
      refine a_iload dX8_cancel_89 rfl ?_
      refine a_if_le (tgt := 157) dX8_cancel_91 (by decide) (inR_of (by omega) (by omega)) (fun c91 => ?_) (fun c91 => ?_)
      · refine a_iload dX8_cancel_157 rfl ?_
        exact a_iret rfl ⟨by rw [hVc], by rw [if_neg (by omega)]⟩ dX8_cancel_159
      · refine a_aload_n dX8_cancel_94 rfl rfl ?_
        refine a_getF (d := 15) fX8_23 k0 rfl r0_5 dX8_cancel_95 ?_
        refine a_aload_n dX8_cancel_98 rfl rfl ?_
        refine a_getF (d := 7) fX8_81 k0 rfl r0_3 dX8_cancel_99 ?_
        refine a_callV (c := 15) (as := [ar 7]) (rest := []) (c_keep σ ρ N hW hN hT7 tp sz htp hsz hp0 hp1 hz0 hz1) mvX7_keep lX8_192 k15 (by decide) rfl rfl rfl rfl (Nat.le_of_ble_eq_true rfl) (Nat.le_of_ble_eq_true rfl) (Nat.le_of_ble_eq_true rfl) dX8_cancel_102 (fun y hu => ?_)
        obtain ⟨-, hK⟩ := hu
        have hG := hK.1
        have hNy : NetR y N ρ := hN.of hS.2 (fun d j q0 q1 => hG.n (by unfold pUk; omega))
        have hry : gR y 7 0 = some N := (hG.r (by unfold pUk; omega)).trans hT7.net
        have hT7y : TmR y N 7 ρ := hT7.of (hG.r (by unfold pUk; omega)) (hG.l (by unfold pUk; omega)) (fun j => hG.n (by unfold pUk; omega)) (fun j => hG.n (by unfold pUk; omega)) (Or.inl (hG.n (by unfold pUk; omega)))
        refine a_iload dX8_cancel_105 rfl ?_
        refine a_iload dX8_cancel_107 rfl ?_
        refine a_sL (as := [ai (f1F ρ trip + j), ai (cnE ρ trip (f1F ρ trip + j) n0)]) (rest := []) (c_bitsOf y (f1F ρ trip + j) (cnE ρ trip (f1F ρ trip + j) n0) (by omega) (by omega) (by omega) (by omega)) mvX8_bitsOf lX8_209 rfl rfl rfl (Nat.le_of_ble_eq_true rfl) (Nat.le_of_ble_eq_true rfl) (Nat.le_of_ble_eq_true rfl) dX8_cancel_109 ?_
        refine a_lstore (ls' := [(8, al (bitsF (f1F ρ trip + j) (cnE ρ trip (f1F ρ trip + j) n0))), (7, ai c), (6, ai (cnE ρ trip (f1F ρ trip + j) n0)), (5, ai (f1F ρ trip + j)), (0, ar 0), (1, ai trip), (2, ai j), (3, ai n0), (4, ai b)]) dX8_cancel_112 (Nat.le_of_ble_eq_true rfl) rfl ?_
        refine a_aload_n dX8_cancel_114 rfl rfl ?_
        refine a_getF (d := 7) fX8_81 k0 rfl r0_3 dX8_cancel_115 ?_
        refine a_iload dX8_cancel_118 rfl ?_
        refine a_if_eq (tgt := 136) dX8_cancel_120 (by decide) hb (fun c120 => ?_) (fun c120 => ?_)
        · refine a_aload_n dX8_cancel_136 rfl rfl ?_
          refine a_getF (d := 7) fX8_81 k0 rfl r0_3 dX8_cancel_137 ?_
          refine a_getL (J := 1) fX8_213 k7 rfl rfl dX8_cancel_140 ?_
          refine a_topL (y := gL ρ 153 23) hT7y.off ?_
          refine a_lload dX8_cancel_143 rfl ?_
          refine a_ldc2 cX8_217 dX8_cancel_145 ?_
          refine a_lxor dX8_cancel_148 ?_
          refine a_land dX8_cancel_149 ?_
          refine a_putL (J := 1) fX8_213 k7 rfl rfl rfl dX8_cancel_150 ?_
          refine a_aload_n dX8_cancel_153 rfl rfl ?_
          refine a_callV (c := 0) (as := []) (rest := []) (c_timesChanged (sL y 7 1 ((gL ρ 153 23) &&& ((bitsF (f1F ρ trip + j) (cnE ρ trip (f1F ρ trip + j) n0)) ^^^ (-1))))) mvX8_timesChanged lX8_200 k0 (by decide) rfl rfl rfl rfl (Nat.le_of_ble_eq_true rfl) (Nat.le_of_ble_eq_true rfl) (Nat.le_of_ble_eq_true rfl) dX8_cancel_154 (fun w hw => ?_)
          obtain ⟨-, b1, b2, b3⟩ := hw
          refine a_iload dX8_cancel_157 rfl ?_
          exact a_iret rfl (by
      refine ⟨by rw [hVc], ?_⟩
      rw [if_pos (by omega)]
      refine ⟨((hG.mono (fun c j z => Or.inl z)).sL (by omega)).trans (b1.mono (fun c j z => by omega)), ⟨?_, ?_, ?_, fun i i0 i1 => ?_⟩, ?_, b2, b3⟩
      · rw [b1.n (by omega), gN_sL]; exact hK.2.1
      · rw [b1.n (by omega), gN_sL]; exact hK.2.2.1
      · rw [b1.l (by omega), gL_sL, if_neg (by omega)]; exact hK.2.2.2.1
      · rw [b1.n (by omega), gN_sL]; exact hK.2.2.2.2 i i0 i1
      · rw [b1.l (by omega), gL_sL, if_pos ⟨rfl, rfl⟩]; unfold cnB; rw [if_pos (by omega)]) dX8_cancel_159
        · refine a_aload_n dX8_cancel_123 rfl rfl ?_
          refine a_getF (d := 7) fX8_81 k0 rfl r0_3 dX8_cancel_124 ?_
          refine a_getL (J := 1) fX8_213 k7 rfl rfl dX8_cancel_127 ?_
          refine a_topL (y := gL ρ 153 23) hT7y.off ?_
          refine a_lload dX8_cancel_130 rfl ?_
          refine a_lor dX8_cancel_132 ?_
          refine a_goto (tgt := 150) dX8_cancel_133 (by decide) ?_
          refine a_putL (J := 1) fX8_213 k7 rfl rfl rfl dX8_cancel_150 ?_
          refine a_aload_n dX8_cancel_153 rfl rfl ?_
          refine a_callV (c := 0) (as := []) (rest := []) (c_timesChanged (sL y 7 1 ((gL ρ 153 23) ||| (bitsF (f1F ρ trip + j) (cnE ρ trip (f1F ρ trip + j) n0))))) mvX8_timesChanged lX8_200 k0 (by decide) rfl rfl rfl rfl (Nat.le_of_ble_eq_true rfl) (Nat.le_of_ble_eq_true rfl) (Nat.le_of_ble_eq_true rfl) dX8_cancel_154 (fun w hw => ?_)
          obtain ⟨-, b1, b2, b3⟩ := hw
          refine a_iload dX8_cancel_157 rfl ?_
          exact a_iret rfl (by
      refine ⟨by rw [hVc], ?_⟩
      rw [if_pos (by omega)]
      refine ⟨((hG.mono (fun c j z => Or.inl z)).sL (by omega)).trans (b1.mono (fun c j z => by omega)), ⟨?_, ?_, ?_, fun i i0 i1 => ?_⟩, ?_, b2, b3⟩
      · rw [b1.n (by omega), gN_sL]; exact hK.2.1
      · rw [b1.n (by omega), gN_sL]; exact hK.2.2.1
      · rw [b1.l (by omega), gL_sL, if_neg (by omega)]; exact hK.2.2.2.1
      · rw [b1.n (by omega), gN_sL]; exact hK.2.2.2.2 i i0 i1
      · rw [b1.l (by omega), gL_sL, if_pos ⟨rfl, rfl⟩]; unfold cnB; rw [if_neg (by assumption)]) dX8_cancel_159
    · exfalso; omega
  | succ n ih =>
    intro r c h0 h5 hn hc0 hc1 hc2 hE
    refine a_iload dX8_cancel_59 rfl ?_
    refine a_iload dX8_cancel_61 rfl ?_
    refine a_icmp_ge (tgt := 89) dX8_cancel_63 (by decide) (inR_of (by omega) (by omega)) (inR_of (by omega) (by omega)) (fun c63 => ?_) (fun c63 => ?_)
    · exfalso; omega
    · refine a_aload_n dX8_cancel_66 rfl rfl ?_
      refine a_getF (d := 7) fX8_81 k0 rfl r0_3 dX8_cancel_67 ?_
      refine a_iload dX8_cancel_70 rfl ?_
      refine a_cI (c := 7) (as := [ai r]) (rest := []) (c_isCancelled σ ρ N 7 hW hN hT7 r (by omega) (by omega)) mvX6_isCancelled lX8_150 k7 (by decide) rfl rfl rfl rfl (Nat.le_of_ble_eq_true rfl) (Nat.le_of_ble_eq_true rfl) (Nat.le_of_ble_eq_true rfl) dX8_cancel_72 ?_
      refine a_iload dX8_cancel_75 rfl ?_
      refine a_icmp_eq (tgt := 83) dX8_cancel_77 (by decide) (by split <;> exact inR_of (by omega) (by omega)) hb (fun c77 => ?_) (fun c77 => ?_)
      · refine a_iinc (y := r + 1) (ls' := [(8, ai (r + 1)), (7, ai c), (6, ai (cnE ρ trip (f1F ρ trip + j) n0)), (5, ai (f1F ρ trip + j)), (0, ar 0), (1, ai trip), (2, ai j), (3, ai n0), (4, ai b)]) dX8_cancel_83 rfl rfl (Nat.le_of_ble_eq_true rfl) rfl ?_
        refine a_goto (tgt := 59) dX8_cancel_86 (by decide) ?_
        have e : cnC ρ b r c = c := by unfold cnC cnc; rw [if_pos (by assumption)]
        exact a_keep (by simp) (ih (r + 1) (c) (by omega) (by omega) (by omega) (by omega) (by omega) (by omega) (by rw [hE, itr_s, e]))
      · refine a_iinc (y := c + 1) (ls' := [(7, ai (c + 1)), (8, ai r), (6, ai (cnE ρ trip (f1F ρ trip + j) n0)), (5, ai (f1F ρ trip + j)), (0, ar 0), (1, ai trip), (2, ai j), (3, ai n0), (4, ai b)]) dX8_cancel_80 rfl rfl (Nat.le_of_ble_eq_true rfl) rfl ?_
        refine a_iinc (y := r + 1) (ls' := [(8, ai (r + 1)), (7, ai (c + 1)), (6, ai (cnE ρ trip (f1F ρ trip + j) n0)), (5, ai (f1F ρ trip + j)), (0, ar 0), (1, ai trip), (2, ai j), (3, ai n0), (4, ai b)]) dX8_cancel_83 rfl rfl (Nat.le_of_ble_eq_true rfl) rfl ?_
        refine a_goto (tgt := 59) dX8_cancel_86 (by decide) ?_
        have e : cnC ρ b r c = c + 1 := by unfold cnC cnc; rw [if_neg (by assumption)]
        exact a_keep (by simp) (ih (r + 1) (c + 1) (by omega) (by omega) (by omega) (by omega) (by omega) (by omega) (by rw [hE, itr_s, e]))

set_option maxRecDepth 20000 in
theorem c_cancel (σ ρ : Sto) (N : Nat) (hW : WV ρ) (hQ : CQ σ ρ N) (tp sz : Int) (htp : gN σ 15 1 = tp) (hsz : gN σ 15 0 = sz) (hp0 : 0 ≤ tp) (hp1 : tp < 20) (hz0 : 0 ≤ sz) (hz1 : sz ≤ 20) (trip j n0 b : Int) (htrip : inR trip) (hj : inR j) (hn0 : inR n0) (hb : inR b) : MetA mX8_cancel [ar 0, ai trip, ai j, ai n0, ai b] σ (fun r u => r = some (ai (cCancel ρ trip j n0 b)) ∧ if 0 < cCancel ρ trip j n0 b then CnC σ u ρ tp sz (cnB ρ b (f1F ρ trip + j) (cnE ρ trip (f1F ρ trip + j) n0)) else u = σ) := by
  have hC := hQ.c
  have hN := hQ.n
  have hT7 := hQ.t
  have hM7 := hQ.m
  have hF : Fg pCq σ σ := Fg.rfl
  have hNk := hN.k
  have hR := hW.R
  have hS := hW.S
  have hTr := hW.T
  refine a_entry (by decide) (Nat.le_of_ble_eq_true rfl) ?_
  refine a_ls (ls' := [(0, ar 0), (1, ai trip), (2, ai j), (3, ai n0), (4, ai b)]) rfl ?_
  refine a_aload_n dX8_cancel_0 rfl rfl ?_
  refine a_iload_n dX8_cancel_1 rfl rfl ?_
  refine a_iload_n dX8_cancel_2 rfl rfl ?_
  refine a_cI (c := 0) (as := [ai trip, ai j]) (rest := []) (c_isRideOf σ ρ N hW hC hN trip j htrip hj) mvX8_isRideOf lX8_175 k0 (by decide) rfl rfl rfl rfl (Nat.le_of_ble_eq_true rfl) (Nat.le_of_ble_eq_true rfl) (Nat.le_of_ble_eq_true rfl) dX8_cancel_3 ?_
  refine a_ifb_eq (tgt := 14) dX8_cancel_6 (by decide) (fun c6 => ?_) (fun c6 => ?_)
  · refine a_iconst dX8_cancel_14 ?_
    exact a_iret rfl (by have e1 : cCancel ρ trip j n0 b = (-1) := (by unfold cCancel; grind); rw [e1]; exact ⟨rfl, by rw [if_neg (by decide)]⟩) dX8_cancel_15
  · refine a_iload_n dX8_cancel_9 rfl rfl ?_
    refine a_iconst dX8_cancel_10 ?_
    refine a_icmp_ge (tgt := 16) dX8_cancel_11 (by decide) hn0 (inR_of (by omega) (by omega)) (fun c11 => ?_) (fun c11 => ?_)
    · have hT_ : ofT ρ trip j := (by assumption)
      have hf1 := f1_lt hW hT_.1
      have hf2 := hT_.1.2
      have hf3 := hT_.1.1
      refine a_aload_n dX8_cancel_16 rfl rfl ?_
      refine a_getR (d := N) (J := 12) fX8_65 k0 rfl q0_12 rfl hC dX8_cancel_17 ?_
      refine a_getF (d := (N + 5)) fX8_183 (kN hNk) rfl (rN_8 hNk) dX8_cancel_20 ?_
      refine a_iload_n dX8_cancel_23 rfl rfl ?_
      refine a_ild (kN_5 hNk) (nN_5 hNk) (by omega) (by omega) dX8_cancel_24 ?_
      refine a_topI (y := f1F ρ trip) (hN.f1 (by omega) (by omega)) ?_
      have hb102 := hW.f1 trip (by omega)
      refine a_iload_n dX8_cancel_25 rfl rfl ?_
      refine a_iadd dX8_cancel_26 ?_
      refine a_istore (ls' := [(5, ai (f1F ρ trip + j)), (0, ar 0), (1, ai trip), (2, ai j), (3, ai n0), (4, ai b)]) dX8_cancel_27 (Nat.le_of_ble_eq_true rfl) rfl ?_
      refine a_iload dX8_cancel_29 rfl ?_
      refine a_iload_n dX8_cancel_31 rfl rfl ?_
      refine a_aload_n dX8_cancel_32 rfl rfl ?_
      refine a_getR (d := N) (J := 12) fX8_65 k0 rfl q0_12 rfl hC dX8_cancel_33 ?_
      refine a_getF (d := (N + 5)) fX8_183 (kN hNk) rfl (rN_8 hNk) dX8_cancel_36 ?_
      refine a_iload_n dX8_cancel_39 rfl rfl ?_
      refine a_iconst dX8_cancel_40 ?_
      refine a_iadd dX8_cancel_41 ?_
      refine a_ild (kN_5 hNk) (nN_5 hNk) (by omega) (by omega) dX8_cancel_42 ?_
      refine a_topI (y := f1F ρ (trip + 1)) (hN.f1 (by omega) (by omega)) ?_
      have hb103 := hW.f1 (trip + 1) (by omega)
      refine a_iload dX8_cancel_43 rfl ?_
      refine a_isub dX8_cancel_45 ?_
      refine a_mmin lm8_203 hn0 (inR_of (by omega) (by omega)) (Nat.le_of_ble_eq_true rfl) (Nat.le_of_ble_eq_true rfl) (Nat.le_of_ble_eq_true rfl) dX8_cancel_46 ?_
      refine a_iadd dX8_cancel_49 ?_
      refine a_topI (y := cnE ρ trip (f1F ρ trip + j) n0) rfl ?_
      refine a_istore (ls' := [(6, ai (cnE ρ trip (f1F ρ trip + j) n0)), (5, ai (f1F ρ trip + j)), (0, ar 0), (1, ai trip), (2, ai j), (3, ai n0), (4, ai b)]) dX8_cancel_50 (Nat.le_of_ble_eq_true rfl) rfl ?_
      refine a_iconst dX8_cancel_52 ?_
      refine a_istore (ls' := [(7, ai 0), (6, ai (cnE ρ trip (f1F ρ trip + j) n0)), (5, ai (f1F ρ trip + j)), (0, ar 0), (1, ai trip), (2, ai j), (3, ai n0), (4, ai b)]) dX8_cancel_53 (Nat.le_of_ble_eq_true rfl) rfl ?_
      refine a_iload dX8_cancel_55 rfl ?_
      refine a_istore (ls' := [(8, ai (f1F ρ trip + j)), (7, ai 0), (6, ai (cnE ρ trip (f1F ρ trip + j) n0)), (5, ai (f1F ρ trip + j)), (0, ar 0), (1, ai trip), (2, ai j), (3, ai n0), (4, ai b)]) dX8_cancel_57 (Nat.le_of_ble_eq_true rfl) rfl ?_
      have e1 : cCancel ρ trip j n0 b = itr (cnC ρ b) (cnE ρ trip (f1F ρ trip + j) n0 - (f1F ρ trip + j)).toNat (f1F ρ trip + j) 0 := by unfold cCancel; rw [if_neg (by grind)]
      rw [e1]
      have hce : f1F ρ trip + j < cnE ρ trip (f1F ρ trip + j) n0 ∧ cnE ρ trip (f1F ρ trip + j) n0 ≤ f1F ρ (trip + 1) := by unfold cnE; split <;> omega
      exact a_keep (by simp) (c_cn_c σ ρ N hW hQ tp sz htp hsz hp0 hp1 hz0 hz1 trip j n0 b hT_ (by omega) hb _ (cnE ρ trip (f1F ρ trip + j) n0 - (f1F ρ trip + j)).toNat (f1F ρ trip + j) 0 (by omega) (by omega) (by omega) (by omega) (by omega) (by omega) rfl)
    · refine a_iconst dX8_cancel_14 ?_
      exact a_iret rfl (by have e1 : cCancel ρ trip j n0 b = (-1) := (by unfold cCancel; grind); rw [e1]; exact ⟨rfl, by rw [if_neg (by decide)]⟩) dX8_cancel_15

set_option maxRecDepth 20000 in
theorem c_undo (σ ρ : Sto) (N : Nat) (hW : WV ρ) (hQ : CQ σ ρ N) (tp sz : Int) (htp : gN σ 15 1 = tp) (hsz : gN σ 15 0 = sz) (hp0 : 0 ≤ tp) (hp1 : tp < 20) (hz0 : 0 ≤ sz) (hz1 : sz ≤ 20) (hD : 0 < sz → ∀ i : Int, 0 ≤ i → i < gN ρ 155 3 → -60 ≤ gN σ (18 + (tbT tp).toNat) i ∧ gN σ (18 + (tbT tp).toNat) i ≤ 240) : MetA mX8_undo [ar 0] σ (fun r u => r = some (ai (if sz = 0 then -1 else sz - 1)) ∧ if sz = 0 then u = σ else UdC σ u ρ tp sz) := by
  have hC := hQ.c
  have hN := hQ.n
  have hT7 := hQ.t
  have hM7 := hQ.m
  have hF : Fg pCq σ σ := Fg.rfl
  have hNk := hN.k
  have hR := hW.R
  have hS := hW.S
  have hTr := hW.T
  refine a_entry (by decide) (Nat.le_of_ble_eq_true rfl) ?_
  refine a_aload_n dX8_undo_0 rfl rfl ?_
  refine a_getF (d := 15) fX8_23 k0 rfl r0_5 dX8_undo_1 ?_
  refine a_aload_n dX8_undo_4 rfl rfl ?_
  refine a_getF (d := 7) fX8_81 k0 rfl r0_3 dX8_undo_5 ?_
  refine a_callI (c := 15) (as := [ar 7]) (rest := []) (c_takeBack σ ρ N hW hN hT7.net tp sz htp hsz hp0 hp1 hz0 hz1 hD) mvX7_takeBack lX8_219 k15 (by decide) rfl rfl rfl rfl (Nat.le_of_ble_eq_true rfl) (Nat.le_of_ble_eq_true rfl) (Nat.le_of_ble_eq_true rfl) dX8_undo_8 (fun x u hu => ?_)
  rcases hu with ⟨hx, z, e⟩ | ⟨hx, z, hP⟩
  · cases hx
    subst e
    refine a_if_ne (tgt := 16) dX8_undo_11 (by decide) (inR_of (by omega) (by omega)) (fun h => absurd h (by decide)) (fun _ => ?_)
    refine a_iconst dX8_undo_14 ?_
    exact a_iret rfl ⟨by rw [if_pos z], by rw [if_pos z]⟩ dX8_undo_15
  · cases hx
    refine a_if_ne (tgt := 16) dX8_undo_11 (by decide) (inR_of (by omega) (by omega)) (fun _ => ?_) (fun h => absurd h (by decide))
    refine a_aload_n dX8_undo_16 rfl rfl ?_
    refine a_callV (c := 0) (as := []) (rest := []) (c_timesChanged u) mvX8_timesChanged lX8_200 k0 (by decide) rfl rfl rfl rfl (Nat.le_of_ble_eq_true rfl) (Nat.le_of_ble_eq_true rfl) (Nat.le_of_ble_eq_true rfl) dX8_undo_17 (fun w hw => ?_)
    obtain ⟨-, b1, b2, b3⟩ := hw
    refine a_aload_n dX8_undo_20 rfl rfl ?_
    refine a_getF (d := 15) fX8_23 k0 rfl r0_5 dX8_undo_21 ?_
    refine a_getI (J := 0) fX8_223 k15 rfl rfl dX8_undo_24 ?_
    refine a_topI (y := sz - 1) ((b1.n (by omega)).trans hP.2.1) ?_
    refine a_iret rfl ⟨by rw [if_neg (by omega)], ?_⟩ dX8_undo_27
    rw [if_neg (by omega)]
    refine ⟨(hP.1.mono (fun c j z => Or.inl z)).trans (b1.mono (fun c j z => by omega)), ?_, ?_, ?_, fun i i0 i1 => ?_, b2, b3⟩
    · rw [b1.n (by omega)]; exact hP.2.1
    · rw [b1.n (by omega)]; exact hP.2.2.1
    · rw [b1.l (by omega)]; exact hP.2.2.2.1
    · rw [b1.n (by omega), b1.n (by omega)]; exact hP.2.2.2.2 i i0 i1

theorem a_bst {M : Mth} {Q : Option Av → Sto → Prop} {pc : Nat} {ls : List (Nat × Av)} {rest : List Av} {σ : Sto} {c n : Nat} {x v : Int} (hk : kd c = 10) (hn : ln c = n) (h0 : 0 ≤ x) (h1 : x < n) (hv : vp_nar .byte (Int32.ofInt v) = Int32.ofInt v) (hd : decode M.2.1 pc = .ok (.bastore, 1)) (k : RunA M Q (pc + 1) ls rest (sN σ c x v)) : RunA M Q pc ls (ai v :: ai x :: ar c :: rest) σ := a_bast hk h0 (by rw [hn]; exact h1) hv hd k
def byB (x : Int) : Int := (Int32.ofInt x).toInt8.toInt32.toInt
theorem byB_rng (x : Int) : -128 ≤ byB x ∧ byB x < 128 := by
  unfold byB
  rw [Int8.toInt_toInt32]
  exact ⟨Int8.le_toInt _, Int8.toInt_lt _⟩
theorem byB_nar (x : Int) : vp_nar .byte (Int32.ofInt (byB x)) = Int32.ofInt (byB x) := by
  unfold byB
  rw [Int32.ofInt_toInt]
  show ((Int32.ofInt x).toInt8.toInt32).toInt8.toInt32 = _
  rw [Int8.toInt8_toInt32]
def apV (x d : Int) : Int := byB (shrI x (24 - 8 * d))
abbrev pAp (c : Nat) (j : Int) : Prop := c = 1 ∨ (c = 0 ∧ j = 14)
def ApP (σ u : Sto) (k x : Int) : Prop := Fg pAp σ u ∧ gN u 0 14 = k + 4 ∧ ∀ j : Int, gN u 1 j = if k ≤ j ∧ j < k + 4 then apV x (j - k) else gN σ 1 j

set_option maxRecDepth 20000 in
theorem c_app_l (σ : Sto) (x k : Int) (hk0 : 0 ≤ k) (hk1 : k + 4 ≤ 900) : ∀ (n : Nat) (sh : Int) (τ : Sto), n ≤ 4 → sh = 8 * (n : Int) - 8 → Fg pAp σ τ → gN τ 0 14 = k + (4 - (n : Int)) → (∀ j : Int, gN τ 1 j = if k ≤ j ∧ j < k + (4 - (n : Int)) then apV x (j - k) else gN σ 1 j) → RunA mX8_append (fun r u => r = none ∧ ApP σ u k x) 3 [(2, ai sh), (0, ar 0), (1, ai x)] [] τ := by
  intro n
  induction n with
  | zero =>
    intro sh τ hn4 hsh hF h14 hT
    refine a_iload_n dX8_append_3 rfl rfl ?_
    refine a_if_lt (tgt := 46) dX8_append_4 (by decide) (inR_of (by omega) (by omega)) (fun c4 => ?_) (fun c4 => ?_)
    · exact a_vret rfl ⟨rfl, hF, by rw [h14]; omega, fun j => by rw [hT j]; congr 1⟩ dX8_append_46
    · exfalso; omega
  | succ n ih =>
    intro sh τ hn4 hsh hF h14 hT
    obtain ⟨kk, hkk⟩ : ∃ z, z = k + (4 - ((n : Int) + 1)) := ⟨_, rfl⟩
    have h14 : gN τ 0 14 = kk := by rw [hkk]; rw [h14]; omega
    refine a_iload_n dX8_append_3 rfl rfl ?_
    refine a_if_lt (tgt := 46) dX8_append_4 (by decide) (inR_of (by omega) (by omega)) (fun c4 => ?_) (fun c4 => ?_)
    · exfalso; omega
    · refine a_aload_n dX8_append_7 rfl rfl ?_
      refine a_getI (J := 14) fX8_87 k0 rfl rfl dX8_append_8 ?_
      refine a_topI (y := kk) h14 ?_
      refine a_sipush (x := 900) dX8_append_11 (by decide) ?_
      refine a_icmp_ge (tgt := 40) dX8_append_14 (by decide) (inR_of (by omega) (by omega)) (inR_of (by omega) (by omega)) (fun c14 => ?_) (fun c14 => ?_)
      · exfalso; omega
      · refine a_aload_n dX8_append_17 rfl rfl ?_
        refine a_getF (d := 1) fX8_9 k0 rfl r0_0 dX8_append_18 ?_
        refine a_aload_n dX8_append_21 rfl rfl ?_
        refine a_getI (J := 14) fX8_87 k0 rfl rfl dX8_append_22 ?_
        refine a_topI (y := kk) h14 ?_
        refine a_iload_n dX8_append_25 rfl rfl ?_
        refine a_iload_n dX8_append_26 rfl rfl ?_
        refine a_ishr (z := shrI x sh) dX8_append_27 (Int32.ofInt_toInt _).symm ?_
        refine a_i2b (z := byB (shrI x sh)) dX8_append_28 (Int32.ofInt_toInt _).symm ?_
        refine a_bst k1 n1 (by omega) (by omega) (byB_nar _) dX8_append_29 ?_
        refine a_aload_n dX8_append_30 rfl rfl ?_
        refine a_dup dX8_append_31 rfl ?_
        refine a_getI (J := 14) fX8_87 k0 rfl rfl dX8_append_32 ?_
        refine a_topI (y := kk) (by rw [gN_sN, if_neg (by omega)]; exact h14) ?_
        refine a_iconst dX8_append_35 ?_
        refine a_iadd dX8_append_36 ?_
        refine a_putI (J := 14) fX8_87 k0 rfl rfl rfl dX8_append_37 ?_
        refine a_iinc (y := sh + (-8)) (ls' := [(2, ai (sh + (-8))), (0, ar 0), (1, ai x)]) dX8_append_40 rfl rfl (Nat.le_of_ble_eq_true rfl) rfl ?_
        refine a_goto (tgt := 3) dX8_append_43 (by decide) ?_
        refine a_keep (by simp) (ih (sh + -8) (sN (sN τ 1 kk (byB (shrI x sh))) 0 14 (kk + 1)) (by omega) (by omega) ((hF.sN (by unfold pAp; omega)).sN (by unfold pAp; omega)) (by rw [gN_sN, if_pos ⟨rfl, rfl⟩, nrm_of (inR_of (by omega) (by omega))]; omega) (fun j => ?_))
        rw [gN_sN, if_neg (by omega), gN_sN]
        by_cases e : j = kk
        · have hb := byB_rng (shrI x sh)
          rw [if_pos ⟨rfl, e⟩, nrm_of (inR_of (by omega) (by omega)), if_pos (by omega)]
          unfold apV
          rw [show 24 - 8 * (j - k) = sh by omega]
        · rw [if_neg (by omega), hT j]
          by_cases q : k ≤ j ∧ j < kk
          · rw [if_pos (by omega), if_pos (by omega)]
          · rw [if_neg (by omega), if_neg (by omega)]

set_option maxRecDepth 20000 in
theorem c_append (σ : Sto) (x k : Int) (hk : gN σ 0 14 = k) (hk0 : 0 ≤ k) (hk1 : k + 4 ≤ 900) : MetA mX8_append [ar 0, ai x] σ (fun r u => r = none ∧ ApP σ u k x) := by
  refine a_entry (by decide) (Nat.le_of_ble_eq_true rfl) ?_
  refine a_ls (ls' := [(0, ar 0), (1, ai x)]) rfl ?_
  refine a_bipush (x := 24) dX8_append_0 (by decide) ?_
  refine a_istore_n (ls' := [(2, ai 24), (0, ar 0), (1, ai x)]) dX8_append_2 rfl (Nat.le_of_ble_eq_true rfl) rfl ?_
  exact a_keep (by simp) (c_app_l σ x k hk0 hk1 4 24 σ (by omega) (by omega) Fg.rfl (by rw [hk]; omega) (fun j => by rw [if_neg (by omega)]))

def cFeed (k : Int) : Int := if 900 < k + 20 then -1 else k + 20
def fdC (a b c d e k : Int) : Int := apV (fdS a b c d e k) (k - 4 * (k / 4))
def FeP (σ u : Sto) (k a b c d e : Int) : Prop := Fg pAp σ u ∧ gN u 0 14 = k + 20 ∧ ∀ j : Int, gN u 1 j = if k ≤ j ∧ j < k + 20 then fdC a b c d e (j - k) else gN σ 1 j

set_option maxRecDepth 20000 in
theorem c_feed (σ : Sto) (a b c d e k : Int) (hk : gN σ 0 14 = k) (hk0 : 0 ≤ k) (hk1 : k ≤ 900) : MetA mX8_feed [ar 0, ai a, ai b, ai c, ai d, ai e] σ (fun r u => r = some (ai (cFeed k)) ∧ if 900 < k + 20 then u = σ else FeP σ u k a b c d e) := by
  refine a_entry (by decide) (Nat.le_of_ble_eq_true rfl) ?_
  refine a_ls (ls' := [(0, ar 0), (1, ai a), (2, ai b), (3, ai c), (4, ai d), (5, ai e)]) rfl ?_
  refine a_aload_n dX8_feed_0 rfl rfl ?_
  refine a_getI (J := 14) fX8_87 k0 rfl rfl dX8_feed_1 ?_
  refine a_bipush (x := 20) dX8_feed_4 (by decide) ?_
  refine a_iadd dX8_feed_6 ?_
  refine a_sipush (x := 900) dX8_feed_7 (by decide) ?_
  refine a_icmp_le (tgt := 15) dX8_feed_10 (by decide) (inR_of (by omega) (by omega)) (inR_of (by omega) (by omega)) (fun c10 => ?_) (fun c10 => ?_)
  · refine a_aload_n dX8_feed_15 rfl rfl ?_
    refine a_iload_n dX8_feed_16 rfl rfl ?_
    refine a_callV (c := 0) (as := [ai a]) (rest := []) (c_append σ a (k) hk (by omega) (by omega)) mvX8_append lX8_91 k0 (by decide) rfl rfl rfl rfl (Nat.le_of_ble_eq_true rfl) (Nat.le_of_ble_eq_true rfl) (Nat.le_of_ble_eq_true rfl) dX8_feed_17 (fun u1 hu => ?_)
    obtain ⟨-, h1⟩ := hu
    refine a_aload_n dX8_feed_20 rfl rfl ?_
    refine a_iload_n dX8_feed_21 rfl rfl ?_
    refine a_callV (c := 0) (as := [ai b]) (rest := []) (c_append u1 b (k + 4) (h1.2.1.trans (by omega)) (by omega) (by omega)) mvX8_append lX8_91 k0 (by decide) rfl rfl rfl rfl (Nat.le_of_ble_eq_true rfl) (Nat.le_of_ble_eq_true rfl) (Nat.le_of_ble_eq_true rfl) dX8_feed_22 (fun u2 hu => ?_)
    obtain ⟨-, h2⟩ := hu
    refine a_aload_n dX8_feed_25 rfl rfl ?_
    refine a_iload_n dX8_feed_26 rfl rfl ?_
    refine a_callV (c := 0) (as := [ai c]) (rest := []) (c_append u2 c (k + 8) (h2.2.1.trans (by omega)) (by omega) (by omega)) mvX8_append lX8_91 k0 (by decide) rfl rfl rfl rfl (Nat.le_of_ble_eq_true rfl) (Nat.le_of_ble_eq_true rfl) (Nat.le_of_ble_eq_true rfl) dX8_feed_27 (fun u3 hu => ?_)
    obtain ⟨-, h3⟩ := hu
    refine a_aload_n dX8_feed_30 rfl rfl ?_
    refine a_iload dX8_feed_31 rfl ?_
    refine a_callV (c := 0) (as := [ai d]) (rest := []) (c_append u3 d (k + 12) (h3.2.1.trans (by omega)) (by omega) (by omega)) mvX8_append lX8_91 k0 (by decide) rfl rfl rfl rfl (Nat.le_of_ble_eq_true rfl) (Nat.le_of_ble_eq_true rfl) (Nat.le_of_ble_eq_true rfl) dX8_feed_33 (fun u4 hu => ?_)
    obtain ⟨-, h4⟩ := hu
    refine a_aload_n dX8_feed_36 rfl rfl ?_
    refine a_iload dX8_feed_37 rfl ?_
    refine a_callV (c := 0) (as := [ai e]) (rest := []) (c_append u4 e (k + 16) (h4.2.1.trans (by omega)) (by omega) (by omega)) mvX8_append lX8_91 k0 (by decide) rfl rfl rfl rfl (Nat.le_of_ble_eq_true rfl) (Nat.le_of_ble_eq_true rfl) (Nat.le_of_ble_eq_true rfl) dX8_feed_39 (fun u5 hu => ?_)
    obtain ⟨-, h5⟩ := hu
    refine a_aload_n dX8_feed_42 rfl rfl ?_
    refine a_getI (J := 14) fX8_87 k0 rfl rfl dX8_feed_43 ?_
    exact a_iret rfl (by
      have e14 : gN u5 0 14 = k + 20 := by rw [h5.2.1]; omega
      refine ⟨by unfold cFeed; rw [if_neg (by omega), e14], ?_⟩
      rw [if_neg (by omega)]
      refine ⟨(((h1.1.trans h2.1).trans h3.1).trans h4.1).trans h5.1, e14, fun j => ?_⟩
      rw [h5.2.2 j, h4.2.2 j, h3.2.2 j, h2.2.2 j, h1.2.2 j]
      unfold fdC fdS
      by_cases q : k ≤ j ∧ j < k + 20
      · rw [if_pos q]
        by_cases q5 : k + 16 ≤ j
        · rw [if_pos (by omega), if_neg (by omega), if_neg (by omega), if_neg (by omega), if_neg (by omega)]; congr 1; omega
        · rw [if_neg (by omega)]
          by_cases q4 : k + 12 ≤ j
          · rw [if_pos (by omega), if_neg (by omega), if_neg (by omega), if_neg (by omega), if_pos (by omega)]; congr 1; omega
          · rw [if_neg (by omega)]
            by_cases q3 : k + 8 ≤ j
            · rw [if_pos (by omega), if_neg (by omega), if_neg (by omega), if_pos (by omega)]; congr 1; omega
            · rw [if_neg (by omega)]
              by_cases q2 : k + 4 ≤ j
              · rw [if_pos (by omega), if_neg (by omega), if_pos (by omega)]; congr 1; omega
              · rw [if_neg (by omega), if_pos (by omega), if_pos (by omega)]; congr 1; omega
      · rw [if_neg q, if_neg (by omega), if_neg (by omega), if_neg (by omega), if_neg (by omega), if_neg (by omega)]) dX8_feed_46
  · refine a_iconst dX8_feed_13 ?_
    exact a_iret rfl ⟨by unfold cFeed; rw [if_pos (by omega)], by rw [if_pos (by omega)]⟩ dX8_feed_14

