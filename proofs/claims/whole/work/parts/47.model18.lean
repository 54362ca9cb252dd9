set_option maxRecDepth 20000 in
theorem t_brk_i (σ : Sto) (hW : WOK σ) (s t : Int) (hs0 : 0 ≤ s) (hs1 : s < 10) (ht0 : 0 ≤ t) (ht1 : t < 10) (trip d V X : Int) (htr : inR trip) (hd0 : 1 ≤ d) (hd1 : d ≤ 240) (hx : ∀ v : Sto, Fr pQ σ v → TOK v → Rq (lkN σ) v → RunA mX9_breaks_ (qQ σ V) 135 [(5, ai s), (4, ai X), (0, ar 153), (1, ai trip), (2, ai d), (3, ai t)] [] v) : ∀ (n : Nat) (i : Int) (many : Int) (v : Sto), 0 ≤ i → i ≤ (pfK σ s t).length → n = ((pfK σ s t).length - i).toNat → Fr pQ σ v → TOK v → Rq (lkN σ) v → CdIs v (pfL σ s t) → KpIs v (pfK σ s t) → X = itr (brI σ trip d s t) n i many → RunA mX9_breaks_ (qQ σ V) 73 [(6, ai i), (4, ai many), (5, ai s), (0, ar 153), (1, ai trip), (2, ai d), (3, ai t)] [] v := by
  have hok := pf_ok hW hs0 hs1 ht0 ht1
  have bKl := hok.2.2.1
  have hR := hW.1
  intro n
  induction n with
  | zero =>
    intro i many v h0 h5 hn hFv hTv hRv hCv hKv hE
    have k30 : gN v 153 30 = (pfK σ s t).length := hKv.1
    have hWv := Q_W hFv hW
    refine a_iload dX9_breaks__73 rfl ?_
    refine a_aload_n dX9_breaks__75 rfl rfl ?_
    refine a_getI (J := 30) fX9_278 k153 rfl rfl dX9_breaks__76 ?_
    refine a_icmp_ge (tgt := 135) dX9_breaks__79 (by decide) (inR_of (by omega) (by omega)) (inR_gN _ _ _) (fun c79 => ?_) (fun c79 => ?_)
    · exact a_keep (by simp [hE, itr]) (hx v hFv hTv hRv)
    · exfalso; omega
  | succ n ih =>
    intro i many v h0 h5 hn hFv hTv hRv hCv hKv hE
    have k30 : gN v 153 30 = (pfK σ s t).length := hKv.1
    have hWv := Q_W hFv hW
    refine a_iload dX9_breaks__73 rfl ?_
    refine a_aload_n dX9_breaks__75 rfl rfl ?_
    refine a_getI (J := 30) fX9_278 k153 rfl rfl dX9_breaks__76 ?_
    refine a_icmp_ge (tgt := 135) dX9_breaks__79 (by decide) (inR_of (by omega) (by omega)) (inR_gN _ _ _) (fun c79 => ?_) (fun c79 => ?_)
    · exfalso; omega
    · have bk : gN v 167 (i) = kx σ s t (i) ∧ kx σ s t (i) ∈ pfK σ s t := hKv.at (k := i) (by omega) (by omega)
      have bx : 0 ≤ kx σ s t (i) ∧ kx σ s t (i) < (pfL σ s t).length := hok.2.2.2 _ bk.2
      have ec := hCv.at bx.1 bx.2
      have bc : cdOK (cd (pfL σ s t) (kx σ s t (i))) := cd_ok hok.2.1 bx.1 bx.2
      unfold cdOK at bc
      have bL := hok.1
      refine a_aload_n dX9_breaks__82 rfl rfl ?_
      refine a_iload dX9_breaks__83 rfl ?_
      refine a_iload_n dX9_breaks__85 rfl rfl ?_
      refine a_aload_n dX9_breaks__86 rfl rfl ?_
      refine a_getF (d := 167) fX9_54 k153 rfl r153_29 dX9_breaks__87 ?_
      refine a_iload dX9_breaks__90 rfl ?_
      refine a_ild k167 n167 (by omega) (by omega) dX9_breaks__92 ?_
      refine a_topI (y := kx σ s t i) bk.1 ?_
      refine a_callV (c := 153) (as := [ai s, ai t, ai (kx σ s t i)]) (rest := []) (t_unfolds v hWv hTv s t (kx σ s t i) (pfL σ s t) hCv hok.1 hok.2.1 bx.1 bx.2 (by omega) (by omega) (by omega) (by omega) (unf_Rq hRv (pf_unf hW bx.1 bx.2))) mvX9_unfolds lX9_299 k153 (by decide) rfl rfl rfl rfl (Nat.le_of_ble_eq_true rfl) (Nat.le_of_ble_eq_true rfl) (Nat.le_of_ble_eq_true rfl) dX9_breaks__93 (fun ω hω => ?_)
      obtain ⟨hFω, hTω, hRω, hRo⟩ := un_fin hW hFv hTv hRv bx.1 bx.2 hω.2
      have hCω := pUn_Cd hω.2.1 hCv
      have hKω := pUn_Kp hω.2.1 hKv
      have hWω := Q_W hFω hW
      have hlk := lg_ok hW bx.1 bx.2
      have bn : cdOK (cd (pfL σ s t) (kx σ s t i)) := cd_ok hok.2.1 bx.1 bx.2
      unfold cdOK at bn
      have ecw := hCω.at bx.1 bx.2
      have bkw : gN ω 167 i = kx σ s t i ∧ kx σ s t i ∈ pfK σ s t := hKω.at (k := i) (by omega) (by omega)
      have h9 := hlk.1
      refine a_iload dX9_breaks__96 rfl ?_
      refine a_aload_n dX9_breaks__98 rfl rfl ?_
      refine a_iload_n dX9_breaks__99 rfl rfl ?_
      refine a_iload_n dX9_breaks__100 rfl rfl ?_
      refine a_aload_n dX9_breaks__101 rfl rfl ?_
      refine a_getF (d := 166) fX9_51 k153 rfl r153_27 dX9_breaks__102 ?_
      refine a_aload_n dX9_breaks__105 rfl rfl ?_
      refine a_getF (d := 167) fX9_54 k153 rfl r153_29 dX9_breaks__106 ?_
      refine a_iload dX9_breaks__109 rfl ?_
      refine a_ild k167 n167 (by omega) (by omega) dX9_breaks__111 ?_
      refine a_topI (y := kx σ s t i) bkw.1 ?_
      refine a_ild k166 n166 (by omega) (by omega) dX9_breaks__112 ?_
      refine a_topI (y := (cd (pfL σ s t) (kx σ s t i)).2.2) ecw.2.2 ?_
      refine a_iconst dX9_breaks__113 ?_
      refine a_iadd dX9_breaks__114 ?_
      refine a_topI (y := ((lgL σ s t (kx σ s t i)).length : Int)) (by have h9 := hlk.1; omega) ?_
      refine a_cI (c := 153) (as := [ai trip, ai d, ai ((lgL σ s t (kx σ s t i)).length : Int)]) (rest := [ai many]) (t_wb σ ω hW hFω hTω hRω (lgL σ s t (kx σ s t i)) hRo (by omega) (by omega) hlk.2 trip d htr (by omega) (by omega)) mvX9_wouldBreak lX9_355 k153 (by decide) rfl rfl rfl rfl (Nat.le_of_ble_eq_true rfl) (Nat.le_of_ble_eq_true rfl) (Nat.le_of_ble_eq_true rfl) dX9_breaks__115 ?_
      refine a_ifb_eq (tgt := 125) dX9_breaks__118 (by decide) (fun c118 => ?_) (fun c118 => ?_)
      · refine a_iconst dX9_breaks__125 ?_
        refine a_iadd dX9_breaks__126 ?_
        refine a_istore (ls' := [(4, ai (many + 0)), (6, ai i), (5, ai s), (0, ar 153), (1, ai trip), (2, ai d), (3, ai t)]) dX9_breaks__127 (Nat.le_of_ble_eq_true rfl) rfl ?_
        refine a_iinc (y := i + 1) (ls' := [(6, ai (i + 1)), (4, ai (many + 0)), (5, ai s), (0, ar 153), (1, ai trip), (2, ai d), (3, ai t)]) dX9_breaks__129 rfl rfl (Nat.le_of_ble_eq_true rfl) rfl ?_
        refine a_goto (tgt := 73) dX9_breaks__132 (by decide) ?_
        have e : brI σ trip d s t i many = many + 0 := by unfold brI; grind
        exact a_keep (by simp) (ih (i + 1) (many + 0) ω (by omega) (by omega) (by omega) hFω hTω hRω hCω hKω (by rw [hE, itr_s, e]))
      · refine a_iconst dX9_breaks__121 ?_
        refine a_goto (tgt := 126) dX9_breaks__122 (by decide) ?_
        refine a_iadd dX9_breaks__126 ?_
        refine a_istore (ls' := [(4, ai (many + 1)), (6, ai i), (5, ai s), (0, ar 153), (1, ai trip), (2, ai d), (3, ai t)]) dX9_breaks__127 (Nat.le_of_ble_eq_true rfl) rfl ?_
        refine a_iinc (y := i + 1) (ls' := [(6, ai (i + 1)), (4, ai (many + 1)), (5, ai s), (0, ar 153), (1, ai trip), (2, ai d), (3, ai t)]) dX9_breaks__129 rfl rfl (Nat.le_of_ble_eq_true rfl) rfl ?_
        refine a_goto (tgt := 73) dX9_breaks__132 (by decide) ?_
        have e : brI σ trip d s t i many = many + 1 := by unfold brI; grind
        exact a_keep (by simp) (ih (i + 1) (many + 1) ω (by omega) (by omega) (by omega) hFω hTω hRω hCω hKω (by rw [hE, itr_s, e]))

set_option maxRecDepth 20000 in
theorem t_brk_o (σ : Sto) (hW : WOK σ) (t trip d V : Int) (ht0 : 0 ≤ t) (ht2 : t < gN σ 155 0) (htr : inR trip) (hd0 : 1 ≤ d) (hd1 : d ≤ 240) : ∀ (n : Nat) (s : Int) (many : Int) (u : Sto), 0 ≤ s → s ≤ 10 → n = (gN σ 155 0 - s).toNat → Fr pQ σ u → TOK u → Rq (lkN σ) u → V = itr (brS σ trip d t) n s many → RunA mX9_breaks_ (qQ σ V) 45 [(5, ai s), (4, ai many), (0, ar 153), (1, ai trip), (2, ai d), (3, ai t)] [] u := by
  have hS := hW.2.1
  intro n
  induction n with
  | zero =>
    intro s many u h0 h5 hn hFu hTu hRu hE
    have hWu := Q_W hFu hW
    refine a_iload dX9_breaks__45 rfl ?_
    refine a_aload_n dX9_breaks__47 rfl rfl ?_
    refine a_cI (c := 153) (as := []) (rest := [ai s]) (t_stops u  ) mvX9_stops lX9_195 k153 (by decide) rfl rfl rfl rfl (Nat.le_of_ble_eq_true rfl) (Nat.le_of_ble_eq_true rfl) (Nat.le_of_ble_eq_true rfl) dX9_breaks__48 ?_
    refine a_topI (y := gN σ 155 0) (Q155 hFu _) ?_
    refine a_icmp_ge (tgt := 141) dX9_breaks__51 (by decide) (inR_of (by omega) (by omega)) (inR_gN _ _ _) (fun c51 => ?_) (fun c51 => ?_)
    · refine a_iload dX9_breaks__141 rfl ?_
      exact a_iret rfl ⟨by rw [hE]; rfl, hFu, hTu⟩ dX9_breaks__143
    · exfalso; omega
  | succ n ih =>
    intro s many u h0 h5 hn hFu hTu hRu hE
    have hWu := Q_W hFu hW
    refine a_iload dX9_breaks__45 rfl ?_
    refine a_aload_n dX9_breaks__47 rfl rfl ?_
    refine a_cI (c := 153) (as := []) (rest := [ai s]) (t_stops u  ) mvX9_stops lX9_195 k153 (by decide) rfl rfl rfl rfl (Nat.le_of_ble_eq_true rfl) (Nat.le_of_ble_eq_true rfl) (Nat.le_of_ble_eq_true rfl) dX9_breaks__48 ?_
    refine a_topI (y := gN σ 155 0) (Q155 hFu _) ?_
    refine a_icmp_ge (tgt := 141) dX9_breaks__51 (by decide) (inR_of (by omega) (by omega)) (inR_gN _ _ _) (fun c51 => ?_) (fun c51 => ?_)
    · exfalso; omega
    · refine a_iload dX9_breaks__54 rfl ?_
      refine a_iload_n dX9_breaks__56 rfl rfl ?_
      refine a_icmp_ne (tgt := 63) dX9_breaks__57 (by decide) (inR_of (by omega) (by omega)) (inR_of (by omega) (by omega)) (fun c57 => ?_) (fun c57 => ?_)
      · refine a_aload_n dX9_breaks__63 rfl rfl ?_
        refine a_iload dX9_breaks__64 rfl ?_
        refine a_iload_n dX9_breaks__66 rfl rfl ?_
        refine a_callV (c := 153) (as := [ai s, ai t]) (rest := []) (t_laysProfile u s t hWu hTu (by omega) (by omega) (by omega) (by omega)) mvX9_laysProfile lX9_293 k153 (by decide) rfl rfl rfl rfl (Nat.le_of_ble_eq_true rfl) (Nat.le_of_ble_eq_true rfl) (Nat.le_of_ble_eq_true rfl) dX9_breaks__67 (fun v hv => ?_)
        obtain ⟨hFv, hTv, hRv, hCv, hKv⟩ := pr_fin hFu hTu hRu hv.2
        have hok := pf_ok hW (s := s) (t := t) (by omega) (by omega) (by omega) (by omega)
        have k30 : gN v 153 30 = (pfK σ s t).length := hKv.1
        have hWv := Q_W hFv hW
        refine a_iconst dX9_breaks__70 ?_
        refine a_istore (ls' := [(6, ai 0), (5, ai s), (4, ai many), (0, ar 153), (1, ai trip), (2, ai d), (3, ai t)]) dX9_breaks__71 (Nat.le_of_ble_eq_true rfl) rfl ?_
        have e : brS σ trip d t s many = itr (brI σ trip d s t) (pfK σ s t).length 0 many := by unfold brS; rw [if_neg (by omega)]
        refine a_keep (ls' := [(6, ai 0), (4, ai many), (5, ai s), (0, ar 153), (1, ai trip), (2, ai d), (3, ai t)]) (by simp) ?_
        refine t_brk_i σ hW s t (by omega) (by omega) (by omega) (by omega) trip d V (brS σ trip d t s many) htr hd0 hd1 (fun y hFy hTy hRy => ?_) (pfK σ s t).length 0 many v (by omega) (by omega) (by omega) hFv hTv hRv hCv hKv e
        refine a_iinc (y := s + 1) (ls' := [(5, ai (s + 1)), (4, ai (brS σ trip d t s many)), (0, ar 153), (1, ai trip), (2, ai d), (3, ai t)]) dX9_breaks__135 rfl rfl (Nat.le_of_ble_eq_true rfl) rfl ?_
        refine a_goto (tgt := 45) dX9_breaks__138 (by decide) ?_
        exact ih (s + 1) (brS σ trip d t s many) y (by omega) (by omega) (by omega) hFy hTy hRy (by rw [hE, itr_s])
      · refine a_goto (tgt := 135) dX9_breaks__60 (by decide) ?_
        refine a_iinc (y := s + 1) (ls' := [(5, ai (s + 1)), (4, ai many), (0, ar 153), (1, ai trip), (2, ai d), (3, ai t)]) dX9_breaks__135 rfl rfl (Nat.le_of_ble_eq_true rfl) rfl ?_
        refine a_goto (tgt := 45) dX9_breaks__138 (by decide) ?_
        have e : brS σ trip d t s many = many := by unfold brS; rw [if_pos (by omega)]
        exact a_keep (by simp) (ih (s + 1) many u (by omega) (by omega) (by omega) hFu hTu hRu (by rw [hE, itr_s, e]))

set_option maxRecDepth 20000 in
theorem t_breaksQ (σ : Sto) (trip d t : Int) (htrip : inR trip) (hd : inR d) (ht : inR t) (hW : WOK σ) (hT : TOK σ) : MetA mX9_breaks_ [ar 153, ai trip, ai d, ai t] σ (qQ σ (breaksQ σ trip d t)) := by
  have hS := hW.2.1
  have hR := hW.1
  have hTr := hW.2.2.1
  refine a_entry (by decide) (Nat.le_of_ble_eq_true rfl) ?_
  refine a_aload_n dX9_breaks__0 rfl rfl ?_
  refine a_iconst dX9_breaks__1 ?_
  refine a_putI (J := 0) fX9_85 k153 rfl rfl rfl dX9_breaks__2 ?_
  refine a_aload_n dX9_breaks__5 rfl rfl ?_
  refine a_iload_n dX9_breaks__6 rfl rfl ?_
  refine a_cI (c := 153) (as := [ai trip]) (rest := []) (t_isTrip (sN σ 153 0 0) trip htrip) mvX9_isTrip lX9_222 k153 (by decide) rfl rfl rfl rfl (Nat.le_of_ble_eq_true rfl) (Nat.le_of_ble_eq_true rfl) (Nat.le_of_ble_eq_true rfl) dX9_breaks__7 ?_
  refine a_topI (y := if trp σ trip then 1 else 0) (by simp only [th155]) ?_
  refine a_ifb_eq (tgt := 33) dX9_breaks__10 (by decide) (fun c10 => ?_) (fun c10 => ?_)
  · refine a_iconst dX9_breaks__33 ?_
    exact a_iret rfl ⟨by unfold breaksQ; grind, th_F σ, th_T hT⟩ dX9_breaks__34
  · refine a_iload_n dX9_breaks__13 rfl rfl ?_
    refine a_iconst dX9_breaks__14 ?_
    refine a_icmp_lt (tgt := 33) dX9_breaks__15 (by decide) hd (inR_of (by omega) (by omega)) (fun c15 => ?_) (fun c15 => ?_)
    · refine a_iconst dX9_breaks__33 ?_
      exact a_iret rfl ⟨by unfold breaksQ; grind, th_F σ, th_T hT⟩ dX9_breaks__34
    · refine a_iload_n dX9_breaks__18 rfl rfl ?_
      refine a_sipush (x := 240) dX9_breaks__19 (by decide) ?_
      refine a_icmp_gt (tgt := 33) dX9_breaks__22 (by decide) hd (inR_of (by omega) (by omega)) (fun c22 => ?_) (fun c22 => ?_)
      · refine a_iconst dX9_breaks__33 ?_
        exact a_iret rfl ⟨by unfold breaksQ; grind, th_F σ, th_T hT⟩ dX9_breaks__34
      · refine a_aload_n dX9_breaks__25 rfl rfl ?_
        refine a_iload_n dX9_breaks__26 rfl rfl ?_
        refine a_cI (c := 153) (as := [ai t]) (rest := []) (t_isStop (sN σ 153 0 0) t ht) mvX9_isStop lX9_213 k153 (by decide) rfl rfl rfl rfl (Nat.le_of_ble_eq_true rfl) (Nat.le_of_ble_eq_true rfl) (Nat.le_of_ble_eq_true rfl) dX9_breaks__27 ?_
        refine a_topI (y := if stp σ t then 1 else 0) (by simp only [th155]) ?_
        refine a_ifb_ne (tgt := 35) dX9_breaks__30 (by decide) (fun c30 => ?_) (fun c30 => ?_)
        · refine a_aload_n dX9_breaks__35 rfl rfl ?_
          refine a_callV (c := 153) (as := []) (rest := []) (t_looksNow (sN σ 153 0 0) (Q_W (th_F σ) hW) (th_T hT)) mvX9_looksNow lX9_290 k153 (by decide) rfl rfl rfl rfl (Nat.le_of_ble_eq_true rfl) (Nat.le_of_ble_eq_true rfl) (Nat.le_of_ble_eq_true rfl) dX9_breaks__36 (fun u hu => ?_)
          obtain ⟨hFu, hTu, hRu⟩ := lk_fin hW (th_F σ) (by omega) (by omega) hu.2
          have hWu := Q_W hFu hW
          refine a_iconst dX9_breaks__39 ?_
          refine a_istore (ls' := [(4, ai 0), (0, ar 153), (1, ai trip), (2, ai d), (3, ai t)]) dX9_breaks__40 (Nat.le_of_ble_eq_true rfl) rfl ?_
          refine a_iconst dX9_breaks__42 ?_
          refine a_istore (ls' := [(5, ai 0), (4, ai 0), (0, ar 153), (1, ai trip), (2, ai d), (3, ai t)]) dX9_breaks__43 (Nat.le_of_ble_eq_true rfl) rfl ?_
          exact a_keep (by simp) (t_brk_o σ hW t trip d _ (by omega) (by omega) htrip (by omega) (by omega) (gN σ 155 0).toNat 0 0 u (by omega) (by omega) (by omega) hFu hTu hRu (by unfold breaksQ; rw [if_neg (by grind)]))
        · refine a_iconst dX9_breaks__33 ?_
          exact a_iret rfl ⟨by unfold breaksQ; grind, th_F σ, th_T hT⟩ dX9_breaks__34

set_option maxRecDepth 20000 in
theorem t_use_l (σ ω : Sto) (hW : WOK σ) (hFω : Fr pQ σ ω) (hTω : TOK ω) (hRω : Rq (lkN σ) ω) (s t : Int) (hs0 : 0 ≤ s) (hs1 : s < 10) (ht0 : 0 ≤ t) (ht1 : t < 10) (i : Int) (hi0 : 0 ≤ i) (hi1 : i < (pfK σ s t).length) (hCω : CdIs ω (pfL σ s t)) (hKω : KpIs ω (pfK σ s t)) (hRo : RoIs ω (lgL σ s t (kx σ s t i))) (trip V X many : Int) (htr : inR trip) (hx : RunA mX9_uses (qQ σ V) 138 [(6, ai X), (5, ai i), (4, ai s), (3, ai many), (0, ar 153), (1, ai trip), (2, ai t)] [] ω) : ∀ (n : Nat) (l : Int) (is : Int), 0 ≤ l → l ≤ (lgL σ s t (kx σ s t i)).length → n = ((lgL σ s t (kx σ s t i)).length - l).toNat → (is = 0 ∨ is = 1) → X = itr (usF σ (lgL σ s t (kx σ s t i)) trip) n l is → RunA mX9_uses (qQ σ V) 89 [(7, ai l), (6, ai is), (5, ai i), (4, ai s), (3, ai many), (0, ar 153), (1, ai trip), (2, ai t)] [] ω := by
  have hWω := Q_W hFω hW
  have hR := hW.1
  have hok := pf_ok hW hs0 hs1 ht0 ht1
  have bk : gN ω 167 i = kx σ s t i ∧ kx σ s t i ∈ pfK σ s t := hKω.at hi0 hi1
  have bx : 0 ≤ kx σ s t i ∧ kx σ s t i < (pfL σ s t).length := hok.2.2.2 _ bk.2
  have ecw := hCω.at bx.1 bx.2
  have hlk' := lg_ok hW bx.1 bx.2
  have bn : cdOK (cd (pfL σ s t) (kx σ s t i)) := cd_ok hok.2.1 bx.1 bx.2
  unfold cdOK at bn
  have bL := hok.1
  have bK := hok.2.2.1
  have h9 := hlk'.1
  obtain ⟨P, hPe⟩ : ∃ P, P = lgL σ s t (kx σ s t i) := ⟨_, rfl⟩
  rw [← hPe] at hlk' hRo h9 ⊢
  have hlk := hlk'.2
  intro n
  induction n with
  | zero =>
    intro l is h0 h5 hn hi2 hE
    refine a_iload dX9_uses_89 rfl ?_
    refine a_aload_n dX9_uses_91 rfl rfl ?_
    refine a_getF (d := 166) fX9_51 k153 rfl r153_27 dX9_uses_92 ?_
    refine a_aload_n dX9_uses_95 rfl rfl ?_
    refine a_getF (d := 167) fX9_54 k153 rfl r153_29 dX9_uses_96 ?_
    refine a_iload dX9_uses_99 rfl ?_
    refine a_ild k167 n167 (by omega) (by omega) dX9_uses_101 ?_
    refine a_topI (y := kx σ s t i) bk.1 ?_
    refine a_ild k166 n166 (by omega) (by omega) dX9_uses_102 ?_
    refine a_topI (y := (cd (pfL σ s t) (kx σ s t i)).2.2) ecw.2.2 ?_
    refine a_icmp_gt (tgt := 138) dX9_uses_103 (by decide) (inR_of (by omega) (by omega)) (inR_of (by omega) (by omega)) (fun c103 => ?_) (fun c103 => ?_)
    · exact a_keep (by simp [hE, itr]) hx
    · exfalso; omega
  | succ n ih =>
    intro l is h0 h5 hn hi2 hE
    refine a_iload dX9_uses_89 rfl ?_
    refine a_aload_n dX9_uses_91 rfl rfl ?_
    refine a_getF (d := 166) fX9_51 k153 rfl r153_27 dX9_uses_92 ?_
    refine a_aload_n dX9_uses_95 rfl rfl ?_
    refine a_getF (d := 167) fX9_54 k153 rfl r153_29 dX9_uses_96 ?_
    refine a_iload dX9_uses_99 rfl ?_
    refine a_ild k167 n167 (by omega) (by omega) dX9_uses_101 ?_
    refine a_topI (y := kx σ s t i) bk.1 ?_
    refine a_ild k166 n166 (by omega) (by omega) dX9_uses_102 ?_
    refine a_topI (y := (cd (pfL σ s t) (kx σ s t i)).2.2) ecw.2.2 ?_
    refine a_icmp_gt (tgt := 138) dX9_uses_103 (by decide) (inR_of (by omega) (by omega)) (inR_of (by omega) (by omega)) (fun c103 => ?_) (fun c103 => ?_)
    · exfalso; omega
    · have ra := hRo.at (l := l) (by omega) (by omega)
      have qa := hlk _ ra.2.2
      unfold lgOK at qa
      have ta := hRω.2.2.1 (lg P (l)).1 (by omega) (by have := qa; rw [show gN (lkN σ) 155 3 = gN σ 155 3 from rfl]; omega)
      have ya := hRω.2.2.1 (lg P (l)).2 (by omega) (by have := qa; rw [show gN (lkN σ) 155 3 = gN σ 155 3 from rfl]; omega)
      have za := LV_rng hW (x := (lg P (l)).1) (by omega) (by omega)
      have xa := LV_rng hW (x := (lg P (l)).2) (by omega) (by omega)
      have wa := hW.2.2.2.1 (lg P (l)).1 (by omega) (by omega)
      have va := hW.2.2.2.1 (lg P (l)).2 (by omega) (by omega)
      refine a_iload dX9_uses_106 rfl ?_
      refine a_aload_n dX9_uses_108 rfl rfl ?_
      refine a_aload_n dX9_uses_109 rfl rfl ?_
      refine a_getF (d := 170) fX9_64 k153 rfl r153_33 dX9_uses_110 ?_
      refine a_iload dX9_uses_113 rfl ?_
      refine a_ild k170 n170 (by omega) (by omega) dX9_uses_115 ?_
      refine a_topI (y := (lg P l).1) ra.1 ?_
      refine a_iconst dX9_uses_116 ?_
      refine a_cI (c := 153) (as := [ai ((lg P l).1), ai 0]) (rest := [ai is]) (t_told ω ((lg P l).1) 0 (by omega) (by omega)) mvX9_told lX9_201 k153 (by decide) rfl rfl rfl rfl (Nat.le_of_ble_eq_true rfl) (Nat.le_of_ble_eq_true rfl) (Nat.le_of_ble_eq_true rfl) dX9_uses_117 ?_
      refine a_topI (y := gN σ 155 (115 + 5 * ((lg P l).1) + 0)) (Q155 hFω _) ?_
      refine a_iload_n dX9_uses_120 rfl rfl ?_
      refine a_icmp_ne (tgt := 128) dX9_uses_121 (by decide) (inR_gN _ _ _) htr (fun c121 => ?_) (fun c121 => ?_)
      · refine a_iconst dX9_uses_128 ?_
        refine a_ior (z := orI is 0) dX9_uses_129 (Int32.ofInt_toInt _).symm ?_
        refine a_istore (ls' := [(6, ai (orI is 0)), (7, ai l), (5, ai i), (4, ai s), (3, ai many), (0, ar 153), (1, ai trip), (2, ai t)]) dX9_uses_130 (Nat.le_of_ble_eq_true rfl) rfl ?_
        refine a_iinc (y := l + 1) (ls' := [(7, ai (l + 1)), (6, ai (orI is 0)), (5, ai i), (4, ai s), (3, ai many), (0, ar 153), (1, ai trip), (2, ai t)]) dX9_uses_132 rfl rfl (Nat.le_of_ble_eq_true rfl) rfl ?_
        refine a_goto (tgt := 89) dX9_uses_135 (by decide) ?_
        have e : usF σ P trip l is = orI is 0 := by unfold usF; grind
        exact a_keep (by simp) (ih (l + 1) (orI is 0) (by omega) (by omega) (by omega) (orI_01 hi2 (by omega)) (by rw [hE, itr_s, e]))
      · refine a_iconst dX9_uses_124 ?_
        refine a_goto (tgt := 129) dX9_uses_125 (by decide) ?_
        refine a_ior (z := orI is 1) dX9_uses_129 (Int32.ofInt_toInt _).symm ?_
        refine a_istore (ls' := [(6, ai (orI is 1)), (7, ai l), (5, ai i), (4, ai s), (3, ai many), (0, ar 153), (1, ai trip), (2, ai t)]) dX9_uses_130 (Nat.le_of_ble_eq_true rfl) rfl ?_
        refine a_iinc (y := l + 1) (ls' := [(7, ai (l + 1)), (6, ai (orI is 1)), (5, ai i), (4, ai s), (3, ai many), (0, ar 153), (1, ai trip), (2, ai t)]) dX9_uses_132 rfl rfl (Nat.le_of_ble_eq_true rfl) rfl ?_
        refine a_goto (tgt := 89) dX9_uses_135 (by decide) ?_
        have e : usF σ P trip l is = orI is 1 := by unfold usF; grind
        exact a_keep (by simp) (ih (l + 1) (orI is 1) (by omega) (by omega) (by omega) (orI_01 hi2 (by omega)) (by rw [hE, itr_s, e]))

theorem us_01 {σ : Sto} {P : List (Int × Int)} {trip : Int} : ∀ (n : Nat) (l is : Int), (is = 0 ∨ is = 1) → itr (usF σ P trip) n l is = 0 ∨ itr (usF σ P trip) n l is = 1
  | 0, _, _, h => h
  | n + 1, l, is, h => us_01 n (l + 1) _ (by unfold usF; split <;> exact orI_01 h (by omega))

set_option maxRecDepth 20000 in
theorem t_use_i (σ : Sto) (hW : WOK σ) (s t : Int) (hs0 : 0 ≤ s) (hs1 : s < 10) (ht0 : 0 ≤ t) (ht1 : t < 10) (trip V X : Int) (htr : inR trip) (hx : ∀ v : Sto, Fr pQ σ v → TOK v → Rq (lkN σ) v → RunA mX9_uses (qQ σ V) 157 [(4, ai s), (3, ai X), (0, ar 153), (1, ai trip), (2, ai t)] [] v) : ∀ (n : Nat) (i : Int) (many : Int) (v : Sto), 0 ≤ i → i ≤ (pfK σ s t).length → n = ((pfK σ s t).length - i).toNat → Fr pQ σ v → TOK v → Rq (lkN σ) v → CdIs v (pfL σ s t) → KpIs v (pfK σ s t) → X = itr (usI σ trip s t) n i many → RunA mX9_uses (qQ σ V) 60 [(5, ai i), (4, ai s), (3, ai many), (0, ar 153), (1, ai trip), (2, ai t)] [] v := by
  have hok := pf_ok hW hs0 hs1 ht0 ht1
  have bKl := hok.2.2.1
  have hR := hW.1
  intro n
  induction n with
  | zero =>
    intro i many v h0 h5 hn hFv hTv hRv hCv hKv hE
    have k30 : gN v 153 30 = (pfK σ s t).length := hKv.1
    have hWv := Q_W hFv hW
    refine a_iload dX9_uses_60 rfl ?_
    refine a_aload_n dX9_uses_62 rfl rfl ?_
    refine a_getI (J := 30) fX9_278 k153 rfl rfl dX9_uses_63 ?_
    refine a_icmp_ge (tgt := 157) dX9_uses_66 (by decide) (inR_of (by omega) (by omega)) (inR_gN _ _ _) (fun c66 => ?_) (fun c66 => ?_)
    · exact a_keep (by simp [hE, itr]) (hx v hFv hTv hRv)
    · exfalso; omega
  | succ n ih =>
    intro i many v h0 h5 hn hFv hTv hRv hCv hKv hE
    have k30 : gN v 153 30 = (pfK σ s t).length := hKv.1
    have hWv := Q_W hFv hW
    refine a_iload dX9_uses_60 rfl ?_
    refine a_aload_n dX9_uses_62 rfl rfl ?_
    refine a_getI (J := 30) fX9_278 k153 rfl rfl dX9_uses_63 ?_
    refine a_icmp_ge (tgt := 157) dX9_uses_66 (by decide) (inR_of (by omega) (by omega)) (inR_gN _ _ _) (fun c66 => ?_) (fun c66 => ?_)
    · exfalso; omega
    · have bk : gN v 167 (i) = kx σ s t (i) ∧ kx σ s t (i) ∈ pfK σ s t := hKv.at (k := i) (by omega) (by omega)
      have bx : 0 ≤ kx σ s t (i) ∧ kx σ s t (i) < (pfL σ s t).length := hok.2.2.2 _ bk.2
      have ec := hCv.at bx.1 bx.2
      have bc : cdOK (cd (pfL σ s t) (kx σ s t (i))) := cd_ok hok.2.1 bx.1 bx.2
      unfold cdOK at bc
      have bL := hok.1
      refine a_aload_n dX9_uses_69 rfl rfl ?_
      refine a_iload dX9_uses_70 rfl ?_
      refine a_iload_n dX9_uses_72 rfl rfl ?_
      refine a_aload_n dX9_uses_73 rfl rfl ?_
      refine a_getF (d := 167) fX9_54 k153 rfl r153_29 dX9_uses_74 ?_
      refine a_iload dX9_uses_77 rfl ?_
      refine a_ild k167 n167 (by omega) (by omega) dX9_uses_79 ?_
      refine a_topI (y := kx σ s t i) bk.1 ?_
      refine a_callV (c := 153) (as := [ai s, ai t, ai (kx σ s t i)]) (rest := []) (t_unfolds v hWv hTv s t (kx σ s t i) (pfL σ s t) hCv hok.1 hok.2.1 bx.1 bx.2 (by omega) (by omega) (by omega) (by omega) (unf_Rq hRv (pf_unf hW bx.1 bx.2))) mvX9_unfolds lX9_299 k153 (by decide) rfl rfl rfl rfl (Nat.le_of_ble_eq_true rfl) (Nat.le_of_ble_eq_true rfl) (Nat.le_of_ble_eq_true rfl) dX9_uses_80 (fun ω hω => ?_)
      obtain ⟨hFω, hTω, hRω, hRo⟩ := un_fin hW hFv hTv hRv bx.1 bx.2 hω.2
      have hCω := pUn_Cd hω.2.1 hCv
      have hKω := pUn_Kp hω.2.1 hKv
      have hWω := Q_W hFω hW
      have hlk := lg_ok hW bx.1 bx.2
      have bn : cdOK (cd (pfL σ s t) (kx σ s t i)) := cd_ok hok.2.1 bx.1 bx.2
      unfold cdOK at bn
      refine a_iconst dX9_uses_83 ?_
      refine a_istore (ls' := [(6, ai 0), (5, ai i), (4, ai s), (3, ai many), (0, ar 153), (1, ai trip), (2, ai t)]) dX9_uses_84 (Nat.le_of_ble_eq_true rfl) rfl ?_
      refine a_iconst dX9_uses_86 ?_
      refine a_istore (ls' := [(7, ai 0), (6, ai 0), (5, ai i), (4, ai s), (3, ai many), (0, ar 153), (1, ai trip), (2, ai t)]) dX9_uses_87 (Nat.le_of_ble_eq_true rfl) rfl ?_
      refine a_keep (ls' := [(7, ai 0), (6, ai 0), (5, ai i), (4, ai s), (3, ai many), (0, ar 153), (1, ai trip), (2, ai t)]) (by simp) ?_
      have u01 := us_01 (σ := σ) (P := lgL σ s t (kx σ s t i)) (trip := trip) (lgL σ s t (kx σ s t i)).length 0 0 (Or.inl rfl)
      refine t_use_l σ ω hW hFω hTω hRω s t hs0 hs1 ht0 ht1 i h0 (by omega) hCω hKω hRo trip V (itr (usF σ (lgL σ s t (kx σ s t i)) trip) (lgL σ s t (kx σ s t i)).length 0 0) many htr ?_ _ 0 0 (by omega) (by omega) (by omega) (Or.inl rfl) rfl
      refine a_iload_n dX9_uses_138 rfl rfl ?_
      refine a_iload dX9_uses_139 rfl ?_
      refine a_if_eq (tgt := 148) dX9_uses_141 (by decide) (inR_of (by omega) (by omega)) (fun c141 => ?_) (fun c141 => ?_)
      · refine a_iconst dX9_uses_148 ?_
        refine a_iadd dX9_uses_149 ?_
        refine a_istore_n (ls' := [(3, ai (many + 0)), (6, ai (itr (usF σ (lgL σ s t (kx σ s t i)) trip) (lgL σ s t (kx σ s t i)).length 0 0)), (5, ai i), (4, ai s), (0, ar 153), (1, ai trip), (2, ai t)]) dX9_uses_150 rfl (Nat.le_of_ble_eq_true rfl) rfl ?_
        refine a_iinc (y := i + 1) (ls' := [(5, ai (i + 1)), (3, ai (many + 0)), (6, ai (itr (usF σ (lgL σ s t (kx σ s t i)) trip) (lgL σ s t (kx σ s t i)).length 0 0)), (4, ai s), (0, ar 153), (1, ai trip), (2, ai t)]) dX9_uses_151 rfl rfl (Nat.le_of_ble_eq_true rfl) rfl ?_
        refine a_goto (tgt := 60) dX9_uses_154 (by decide) ?_
        have e : usI σ trip s t i many = many + 0 := by unfold usI; grind
        exact a_keep (by simp) (ih (i + 1) (many + 0) ω (by omega) (by omega) (by omega) hFω hTω hRω hCω hKω (by rw [hE, itr_s, e]))
      · refine a_iconst dX9_uses_144 ?_
        refine a_goto (tgt := 149) dX9_uses_145 (by decide) ?_
        refine a_iadd dX9_uses_149 ?_
        refine a_istore_n (ls' := [(3, ai (many + 1)), (6, ai (itr (usF σ (lgL σ s t (kx σ s t i)) trip) (lgL σ s t (kx σ s t i)).length 0 0)), (5, ai i), (4, ai s), (0, ar 153), (1, ai trip), (2, ai t)]) dX9_uses_150 rfl (Nat.le_of_ble_eq_true rfl) rfl ?_
        refine a_iinc (y := i + 1) (ls' := [(5, ai (i + 1)), (3, ai (many + 1)), (6, ai (itr (usF σ (lgL σ s t (kx σ s t i)) trip) (lgL σ s t (kx σ s t i)).length 0 0)), (4, ai s), (0, ar 153), (1, ai trip), (2, ai t)]) dX9_uses_151 rfl rfl (Nat.le_of_ble_eq_true rfl) rfl ?_
        refine a_goto (tgt := 60) dX9_uses_154 (by decide) ?_
        have e : usI σ trip s t i many = many + 1 := by unfold usI; grind
        exact a_keep (by simp) (ih (i + 1) (many + 1) ω (by omega) (by omega) (by omega) hFω hTω hRω hCω hKω (by rw [hE, itr_s, e]))

set_option maxRecDepth 20000 in
theorem t_use_o (σ : Sto) (hW : WOK σ) (t trip V : Int) (ht0 : 0 ≤ t) (ht2 : t < gN σ 155 0) (htr : inR trip) : ∀ (n : Nat) (s : Int) (many : Int) (u : Sto), 0 ≤ s → s ≤ 10 → n = (gN σ 155 0 - s).toNat → Fr pQ σ u → TOK u → Rq (lkN σ) u → V = itr (usS σ trip t) n s many → RunA mX9_uses (qQ σ V) 32 [(4, ai s), (3, ai many), (0, ar 153), (1, ai trip), (2, ai t)] [] u := by
  have hS := hW.2.1
  intro n
  induction n with
  | zero =>
    intro s many u h0 h5 hn hFu hTu hRu hE
    have hWu := Q_W hFu hW
    refine a_iload dX9_uses_32 rfl ?_
    refine a_aload_n dX9_uses_34 rfl rfl ?_
    refine a_cI (c := 153) (as := []) (rest := [ai s]) (t_stops u  ) mvX9_stops lX9_195 k153 (by decide) rfl rfl rfl rfl (Nat.le_of_ble_eq_true rfl) (Nat.le_of_ble_eq_true rfl) (Nat.le_of_ble_eq_true rfl) dX9_uses_35 ?_
    refine a_topI (y := gN σ 155 0) (Q155 hFu _) ?_
    refine a_icmp_ge (tgt := 163) dX9_uses_38 (by decide) (inR_of (by omega) (by omega)) (inR_gN _ _ _) (fun c38 => ?_) (fun c38 => ?_)
    · refine a_iload_n dX9_uses_163 rfl rfl ?_
      exact a_iret rfl ⟨by rw [hE]; rfl, hFu, hTu⟩ dX9_uses_164
    · exfalso; omega
  | succ n ih =>
    intro s many u h0 h5 hn hFu hTu hRu hE
    have hWu := Q_W hFu hW
    refine a_iload dX9_uses_32 rfl ?_
    refine a_aload_n dX9_uses_34 rfl rfl ?_
    refine a_cI (c := 153) (as := []) (rest := [ai s]) (t_stops u  ) mvX9_stops lX9_195 k153 (by decide) rfl rfl rfl rfl (Nat.le_of_ble_eq_true rfl) (Nat.le_of_ble_eq_true rfl) (Nat.le_of_ble_eq_true rfl) dX9_uses_35 ?_
    refine a_topI (y := gN σ 155 0) (Q155 hFu _) ?_
    refine a_icmp_ge (tgt := 163) dX9_uses_38 (by decide) (inR_of (by omega) (by omega)) (inR_gN _ _ _) (fun c38 => ?_) (fun c38 => ?_)
    · exfalso; omega
    · refine a_iload dX9_uses_41 rfl ?_
      refine a_iload_n dX9_uses_43 rfl rfl ?_
      refine a_icmp_ne (tgt := 50) dX9_uses_44 (by decide) (inR_of (by omega) (by omega)) (inR_of (by omega) (by omega)) (fun c44 => ?_) (fun c44 => ?_)
      · refine a_aload_n dX9_uses_50 rfl rfl ?_
        refine a_iload dX9_uses_51 rfl ?_
        refine a_iload_n dX9_uses_53 rfl rfl ?_
        refine a_callV (c := 153) (as := [ai s, ai t]) (rest := []) (t_laysProfile u s t hWu hTu (by omega) (by omega) (by omega) (by omega)) mvX9_laysProfile lX9_293 k153 (by decide) rfl rfl rfl rfl (Nat.le_of_ble_eq_true rfl) (Nat.le_of_ble_eq_true rfl) (Nat.le_of_ble_eq_true rfl) dX9_uses_54 (fun v hv => ?_)
        obtain ⟨hFv, hTv, hRv, hCv, hKv⟩ := pr_fin hFu hTu hRu hv.2
        have hok := pf_ok hW (s := s) (t := t) (by omega) (by omega) (by omega) (by omega)
        have k30 : gN v 153 30 = (pfK σ s t).length := hKv.1
        have hWv := Q_W hFv hW
        refine a_iconst dX9_uses_57 ?_
        refine a_istore (ls' := [(5, ai 0), (4, ai s), (3, ai many), (0, ar 153), (1, ai trip), (2, ai t)]) dX9_uses_58 (Nat.le_of_ble_eq_true rfl) rfl ?_
        have e : usS σ trip t s many = itr (usI σ trip s t) (pfK σ s t).length 0 many := by unfold usS; rw [if_neg (by omega)]
        refine a_keep (ls' := [(5, ai 0), (4, ai s), (3, ai many), (0, ar 153), (1, ai trip), (2, ai t)]) (by simp) ?_
        refine t_use_i σ hW s t (by omega) (by omega) (by omega) (by omega) trip V (usS σ trip t s many) htr (fun y hFy hTy hRy => ?_) (pfK σ s t).length 0 many v (by omega) (by omega) (by omega) hFv hTv hRv hCv hKv e
        refine a_iinc (y := s + 1) (ls' := [(4, ai (s + 1)), (3, ai (usS σ trip t s many)), (0, ar 153), (1, ai trip), (2, ai t)]) dX9_uses_157 rfl rfl (Nat.le_of_ble_eq_true rfl) rfl ?_
        refine a_goto (tgt := 32) dX9_uses_160 (by decide) ?_
        exact ih (s + 1) (usS σ trip t s many) y (by omega) (by omega) (by omega) hFy hTy hRy (by rw [hE, itr_s])
      · refine a_goto (tgt := 157) dX9_uses_47 (by decide) ?_
        refine a_iinc (y := s + 1) (ls' := [(4, ai (s + 1)), (3, ai many), (0, ar 153), (1, ai trip), (2, ai t)]) dX9_uses_157 rfl rfl (Nat.le_of_ble_eq_true rfl) rfl ?_
        refine a_goto (tgt := 32) dX9_uses_160 (by decide) ?_
        have e : usS σ trip t s many = many := by unfold usS; rw [if_pos (by omega)]
        exact a_keep (by simp) (ih (s + 1) many u (by omega) (by omega) (by omega) hFu hTu hRu (by rw [hE, itr_s, e]))

set_option maxRecDepth 20000 in
theorem t_uses (σ : Sto) (trip t : Int) (htrip : inR trip) (ht : inR t) (hW : WOK σ) (hT : TOK σ) : MetA mX9_uses [ar 153, ai trip, ai t] σ (qQ σ (usesF σ trip t)) := by
  have hS := hW.2.1
  have hR := hW.1
  have hTr := hW.2.2.1
  refine a_entry (by decide) (Nat.le_of_ble_eq_true rfl) ?_
  refine a_aload_n dX9_uses_0 rfl rfl ?_
  refine a_iconst dX9_uses_1 ?_
  refine a_putI (J := 0) fX9_85 k153 rfl rfl rfl dX9_uses_2 ?_
  refine a_aload_n dX9_uses_5 rfl rfl ?_
  refine a_iload_n dX9_uses_6 rfl rfl ?_
  refine a_cI (c := 153) (as := [ai trip]) (rest := []) (t_isTrip (sN σ 153 0 0) trip htrip) mvX9_isTrip lX9_222 k153 (by decide) rfl rfl rfl rfl (Nat.le_of_ble_eq_true rfl) (Nat.le_of_ble_eq_true rfl) (Nat.le_of_ble_eq_true rfl) dX9_uses_7 ?_
  refine a_topI (y := if trp σ trip then 1 else 0) (by simp only [th155]) ?_
  refine a_ifb_eq (tgt := 21) dX9_uses_10 (by decide) (fun c10 => ?_) (fun c10 => ?_)
  · refine a_iconst dX9_uses_21 ?_
    exact a_iret rfl ⟨by unfold usesF; grind, th_F σ, th_T hT⟩ dX9_uses_22
  · refine a_aload_n dX9_uses_13 rfl rfl ?_
    refine a_iload_n dX9_uses_14 rfl rfl ?_
    refine a_cI (c := 153) (as := [ai t]) (rest := []) (t_isStop (sN σ 153 0 0) t ht) mvX9_isStop lX9_213 k153 (by decide) rfl rfl rfl rfl (Nat.le_of_ble_eq_true rfl) (Nat.le_of_ble_eq_true rfl) (Nat.le_of_ble_eq_true rfl) dX9_uses_15 ?_
    refine a_topI (y := if stp σ t then 1 else 0) (by simp only [th155]) ?_
    refine a_ifb_ne (tgt := 23) dX9_uses_18 (by decide) (fun c18 => ?_) (fun c18 => ?_)
    · refine a_aload_n dX9_uses_23 rfl rfl ?_
      refine a_callV (c := 153) (as := []) (rest := []) (t_looksNow (sN σ 153 0 0) (Q_W (th_F σ) hW) (th_T hT)) mvX9_looksNow lX9_290 k153 (by decide) rfl rfl rfl rfl (Nat.le_of_ble_eq_true rfl) (Nat.le_of_ble_eq_true rfl) (Nat.le_of_ble_eq_true rfl) dX9_uses_24 (fun u hu => ?_)
      obtain ⟨hFu, hTu, hRu⟩ := lk_fin hW (th_F σ) (by omega) (by omega) hu.2
      have hWu := Q_W hFu hW
      refine a_iconst dX9_uses_27 ?_
      refine a_istore_n (ls' := [(3, ai 0), (0, ar 153), (1, ai trip), (2, ai t)]) dX9_uses_28 rfl (Nat.le_of_ble_eq_true rfl) rfl ?_
      refine a_iconst dX9_uses_29 ?_
      refine a_istore (ls' := [(4, ai 0), (3, ai 0), (0, ar 153), (1, ai trip), (2, ai t)]) dX9_uses_30 (Nat.le_of_ble_eq_true rfl) rfl ?_
      exact a_keep (by simp) (t_use_o σ hW t trip _ (by omega) (by omega) htrip (gN σ 155 0).toNat 0 0 u (by omega) (by omega) (by omega) hFu hTu hRu (by unfold usesF; rw [if_neg (by grind)]))
    · refine a_iconst dX9_uses_21 ?_
      exact a_iret rfl ⟨by unfold usesF; grind, th_F σ, th_T hT⟩ dX9_uses_22

