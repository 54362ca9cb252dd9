set_option maxRecDepth 20000 in
theorem t_trav_l (σ ω : Sto) (hW : WOK σ) (hFω : Fr pQ σ ω) (hTω : TOK ω) (hRω : Rq (lkN σ) ω) (s t : Int) (hs0 : 0 ≤ s) (hs1 : s < 10) (ht0 : 0 ≤ t) (ht1 : t < 10) (i : Int) (hi0 : 0 ≤ i) (hi1 : i < (pfK σ s t).length) (hCω : CdIs ω (pfL σ s t)) (hKω : KpIs ω (pfK σ s t)) (hRo : RoIs ω (lgL σ s t (kx σ s t i))) (what : Int) (hw0 : 0 ≤ what) (hw1 : what ≤ 2) : ∀ (n : Nat) (l : Int) (riding : Int) (many : Int), 0 ≤ l → l ≤ (lgL σ s t (kx σ s t i)).length → n = ((lgL σ s t (kx σ s t i)).length - l).toNat → -100000 * (l + 1) ≤ riding → riding ≤ 10000000 * (l + 1) → RunA mX9_travels (qQ σ (trR σ (lgL σ s t (kx σ s t i)) s t what (itr (trF σ (lgL σ s t (kx σ s t i))) n l (riding, many)))) 73 [(7, ai l), (6, ai many), (5, ai riding), (0, ar 153), (1, ai s), (2, ai t), (3, ai i), (4, ai what)] [] ω := by
  have hWω := Q_W hFω hW
  have hR := hW.1
  have hok := pf_ok hW hs0 hs1 ht0 ht1
  have bk : gN ω 167 i = kx σ s t i ∧ kx σ s t i ∈ pfK σ s t := hKω.at hi0 hi1
  have bx : 0 ≤ kx σ s t i ∧ kx σ s t i < (pfL σ s t).length := hok.2.2.2 _ bk.2
  have ecw := hCω.at bx.1 bx.2
  have hlk' := lg_ok hW bx.1 bx.2
  have bn : cdOK (cd (pfL σ s t) (kx σ s t i)) := cd_ok hok.2.1 bx.1 bx.2
  unfold cdOK at bn
  have bL := hok.1
  have bK := hok.2.2.1
  have h9 := hlk'.1
  obtain ⟨P, hPe⟩ : ∃ P, P = lgL σ s t (kx σ s t i) := ⟨_, rfl⟩
  rw [← hPe] at hlk' hRo h9 ⊢
  have hlk := hlk'.2
  intro n
  induction n with
  | zero =>
    intro l riding many h0 h5 hn hr0 hr1
    refine a_iload dX9_travels_73 rfl ?_
    refine a_aload_n dX9_travels_75 rfl rfl ?_
    refine a_getF (d := 166) fX9_51 k153 rfl r153_27 dX9_travels_76 ?_
    refine a_aload_n dX9_travels_79 rfl rfl ?_
    refine a_getF (d := 167) fX9_54 k153 rfl r153_29 dX9_travels_80 ?_
    refine a_iload_n dX9_travels_83 rfl rfl ?_
    refine a_ild k167 n167 (by omega) (by omega) dX9_travels_84 ?_
    refine a_topI (y := kx σ s t i) bk.1 ?_
    refine a_ild k166 n166 (by omega) (by omega) dX9_travels_85 ?_
    refine a_topI (y := (cd (pfL σ s t) (kx σ s t i)).2.2) ecw.2.2 ?_
    refine a_icmp_gt (tgt := 147) dX9_travels_86 (by decide) (inR_of (by omega) (by omega)) (inR_of (by omega) (by omega)) (fun c86 => ?_) (fun c86 => ?_)
    · refine a_iload dX9_travels_147 rfl ?_
      refine a_if_ne (tgt := 157) dX9_travels_149 (by decide) (inR_of (by omega) (by omega)) (fun c149 => ?_) (fun c149 => ?_)
      · refine a_iload dX9_travels_157 rfl ?_
        refine a_iconst dX9_travels_159 ?_
        refine a_icmp_ne (tgt := 188) dX9_travels_160 (by decide) (inR_of (by omega) (by omega)) (inR_of (by omega) (by omega)) (fun c160 => ?_) (fun c160 => ?_)
        · refine a_iload dX9_travels_188 rfl ?_
          exact a_iret rfl ⟨by simp only [itr]; unfold trR; grind, hFω, hTω⟩ dX9_travels_190
        · refine a_aload_n dX9_travels_163 rfl rfl ?_
          refine a_iload_n dX9_travels_164 rfl rfl ?_
          refine a_iload_n dX9_travels_165 rfl rfl ?_
          refine a_aload_n dX9_travels_166 rfl rfl ?_
          refine a_getF (d := 166) fX9_51 k153 rfl r153_27 dX9_travels_167 ?_
          refine a_aload_n dX9_travels_170 rfl rfl ?_
          refine a_getF (d := 167) fX9_54 k153 rfl r153_29 dX9_travels_171 ?_
          refine a_iload_n dX9_travels_174 rfl rfl ?_
          refine a_ild k167 n167 (by omega) (by omega) dX9_travels_175 ?_
          refine a_topI (y := kx σ s t i) bk.1 ?_
          refine a_ild k166 n166 (by omega) (by omega) dX9_travels_176 ?_
          refine a_topI (y := (cd (pfL σ s t) (kx σ s t i)).2.2) ecw.2.2 ?_
          refine a_iconst dX9_travels_177 ?_
          refine a_iadd dX9_travels_178 ?_
          refine a_topI (y := (P.length : Int)) (by omega) ?_
          refine a_cI (c := 153) (as := [ai s, ai t, ai (P.length : Int)]) (rest := []) (t_moves σ ω hW hFω hTω hRω P hRo (by omega) (by omega) hlk s t (by omega) (by omega) (by omega) (by omega)) mvX9_moves lX9_306 k153 (by decide) rfl rfl rfl rfl (Nat.le_of_ble_eq_true rfl) (Nat.le_of_ble_eq_true rfl) (Nat.le_of_ble_eq_true rfl) dX9_travels_179 ?_
          refine a_iload dX9_travels_182 rfl ?_
          refine a_isub dX9_travels_184 ?_
          refine a_goto (tgt := 190) dX9_travels_185 (by decide) ?_
          exact a_iret rfl ⟨by simp only [itr]; unfold trR; grind, hFω, hTω⟩ dX9_travels_190
      · refine a_iload dX9_travels_152 rfl ?_
        refine a_goto (tgt := 190) dX9_travels_154 (by decide) ?_
        exact a_iret rfl ⟨by simp only [itr]; unfold trR; grind, hFω, hTω⟩ dX9_travels_190
    · exfalso; omega
  | succ n ih =>
    intro l riding many h0 h5 hn hr0 hr1
    refine a_iload dX9_travels_73 rfl ?_
    refine a_aload_n dX9_travels_75 rfl rfl ?_
    refine a_getF (d := 166) fX9_51 k153 rfl r153_27 dX9_travels_76 ?_
    refine a_aload_n dX9_travels_79 rfl rfl ?_
    refine a_getF (d := 167) fX9_54 k153 rfl r153_29 dX9_travels_80 ?_
    refine a_iload_n dX9_travels_83 rfl rfl ?_
    refine a_ild k167 n167 (by omega) (by omega) dX9_travels_84 ?_
    refine a_topI (y := kx σ s t i) bk.1 ?_
    refine a_ild k166 n166 (by omega) (by omega) dX9_travels_85 ?_
    refine a_topI (y := (cd (pfL σ s t) (kx σ s t i)).2.2) ecw.2.2 ?_
    refine a_icmp_gt (tgt := 147) dX9_travels_86 (by decide) (inR_of (by omega) (by omega)) (inR_of (by omega) (by omega)) (fun c86 => ?_) (fun c86 => ?_)
    · exfalso; omega
    · have ra := hRo.at (l := l) (by omega) (by omega)
      have qa := hlk _ ra.2.2
      unfold lgOK at qa
      have ta := hRω.2.2.1 (lg P (l)).1 (by omega) (by have := qa; rw [show gN (lkN σ) 155 3 = gN σ 155 3 from rfl]; omega)
      have ya := hRω.2.2.1 (lg P (l)).2 (by omega) (by have := qa; rw [show gN (lkN σ) 155 3 = gN σ 155 3 from rfl]; omega)
      have za := LV_rng hW (x := (lg P (l)).1) (by omega) (by omega)
      have xa := LV_rng hW (x := (lg P (l)).2) (by omega) (by omega)
      have wa := hW.2.2.2.1 (lg P (l)).1 (by omega) (by omega)
      have va := hW.2.2.2.1 (lg P (l)).2 (by omega) (by omega)
      refine a_iload dX9_travels_89 rfl ?_
      refine a_aload_n dX9_travels_91 rfl rfl ?_
      refine a_getF (d := 162) fX9_39 k153 rfl r153_22 dX9_travels_92 ?_
      refine a_aload_n dX9_travels_95 rfl rfl ?_
      refine a_getF (d := 171) fX9_67 k153 rfl r153_34 dX9_travels_96 ?_
      refine a_iload dX9_travels_99 rfl ?_
      refine a_ild k171 n171 (by omega) (by omega) dX9_travels_101 ?_
      refine a_topI (y := (lg P l).2) ra.2.1 ?_
      refine a_ild k162 n162 (by omega) (by omega) dX9_travels_102 ?_
      refine a_topI (y := CM σ (lg P l).2) ya.2.1 ?_
      refine a_aload_n dX9_travels_103 rfl rfl ?_
      refine a_getF (d := 161) fX9_36 k153 rfl r153_21 dX9_travels_104 ?_
      refine a_aload_n dX9_travels_107 rfl rfl ?_
      refine a_getF (d := 170) fX9_64 k153 rfl r153_33 dX9_travels_108 ?_
      refine a_iload dX9_travels_111 rfl ?_
      refine a_ild k170 n170 (by omega) (by omega) dX9_travels_113 ?_
      refine a_topI (y := (lg P l).1) ra.1 ?_
      refine a_ild k161 n161 (by omega) (by omega) dX9_travels_114 ?_
      refine a_topI (y := LV σ (lg P l).1) ta.1 ?_
      refine a_isub dX9_travels_115 ?_
      refine a_iadd dX9_travels_116 ?_
      refine a_istore (ls' := [(5, ai (riding + (CM σ (lg P l).2 - (LV σ (lg P l).1)))), (7, ai l), (6, ai many), (0, ar 153), (1, ai s), (2, ai t), (3, ai i), (4, ai what)]) dX9_travels_117 (Nat.le_of_ble_eq_true rfl) rfl ?_
      refine a_iload dX9_travels_119 rfl ?_
      refine a_aload_n dX9_travels_121 rfl rfl ?_
      refine a_getF (d := 171) fX9_67 k153 rfl r153_34 dX9_travels_122 ?_
      refine a_iload dX9_travels_125 rfl ?_
      refine a_ild k171 n171 (by omega) (by omega) dX9_travels_127 ?_
      refine a_topI (y := (lg P l).2) ra.2.1 ?_
      refine a_aload_n dX9_travels_128 rfl rfl ?_
      refine a_getF (d := 170) fX9_64 k153 rfl r153_33 dX9_travels_129 ?_
      refine a_iload dX9_travels_132 rfl ?_
      refine a_ild k170 n170 (by omega) (by omega) dX9_travels_134 ?_
      refine a_topI (y := (lg P l).1) ra.1 ?_
      refine a_isub dX9_travels_135 ?_
      refine a_iconst dX9_travels_136 ?_
      refine a_iadd dX9_travels_137 ?_
      refine a_iadd dX9_travels_138 ?_
      refine a_istore (ls' := [(6, ai (many + ((lg P l).2 - ((lg P l).1) + 1))), (5, ai (riding + (CM σ (lg P l).2 - (LV σ (lg P l).1)))), (7, ai l), (0, ar 153), (1, ai s), (2, ai t), (3, ai i), (4, ai what)]) dX9_travels_139 (Nat.le_of_ble_eq_true rfl) rfl ?_
      refine a_iinc (y := l + 1) (ls' := [(7, ai (l + 1)), (6, ai (many + ((lg P l).2 - ((lg P l).1) + 1))), (5, ai (riding + (CM σ (lg P l).2 - (LV σ (lg P l).1)))), (0, ar 153), (1, ai s), (2, ai t), (3, ai i), (4, ai what)]) dX9_travels_141 rfl rfl (Nat.le_of_ble_eq_true rfl) rfl ?_
      refine a_goto (tgt := 73) dX9_travels_144 (by decide) ?_
      have e : trF σ P l (riding, many) = (riding + (CM σ (lg P l).2 - (LV σ (lg P l).1)), many + ((lg P l).2 - ((lg P l).1) + 1)) := by unfold trF; rfl
      rw [show itr (trF σ P) (n + 1) l (riding, many) = itr (trF σ P) n (l + 1) (trF σ P l (riding, many)) from rfl, e]
      exact a_keep (by simp) (ih (l + 1) (riding + (CM σ (lg P l).2 - (LV σ (lg P l).1))) (many + ((lg P l).2 - ((lg P l).1) + 1)) (by omega) (by omega) (by omega) (by omega) (by omega))

set_option maxRecDepth 20000 in
theorem t_travels (σ : Sto) (s t i what : Int) (hs : inR s) (ht : inR t) (hi : inR i) (hwhat : inR what) (hW : WOK σ) (hT : TOK σ) : MetA mX9_travels [ar 153, ai s, ai t, ai i, ai what] σ (qQ σ (travelsF σ s t i what)) := by
  have hS := hW.2.1
  have hR := hW.1
  have hTr := hW.2.2.1
  refine a_entry (by decide) (Nat.le_of_ble_eq_true rfl) ?_
  refine a_aload_n dX9_travels_0 rfl rfl ?_
  refine a_iconst dX9_travels_1 ?_
  refine a_putI (J := 0) fX9_85 k153 rfl rfl rfl dX9_travels_2 ?_
  refine a_aload_n dX9_travels_5 rfl rfl ?_
  refine a_iload_n dX9_travels_6 rfl rfl ?_
  refine a_iload_n dX9_travels_7 rfl rfl ?_
  refine a_cI (c := 153) (as := [ai s, ai t]) (rest := []) (t_areTwo (sN σ 153 0 0) s t hs ht) mvX9_areTwo lX9_287 k153 (by decide) rfl rfl rfl rfl (Nat.le_of_ble_eq_true rfl) (Nat.le_of_ble_eq_true rfl) (Nat.le_of_ble_eq_true rfl) dX9_travels_8 ?_
  refine a_topI (y := if two σ s t then 1 else 0) (by simp only [th155]) ?_
  refine a_ifb_eq (tgt := 29) dX9_travels_11 (by decide) (fun c11 => ?_) (fun c11 => ?_)
  · refine a_iconst dX9_travels_29 ?_
    exact a_iret rfl ⟨by unfold travelsF; grind, th_F σ, th_T hT⟩ dX9_travels_30
  · refine a_iload_n dX9_travels_14 rfl rfl ?_
    refine a_if_lt (tgt := 29) dX9_travels_15 (by decide) hi (fun c15 => ?_) (fun c15 => ?_)
    · refine a_iconst dX9_travels_29 ?_
      exact a_iret rfl ⟨by unfold travelsF; grind, th_F σ, th_T hT⟩ dX9_travels_30
    · refine a_iload dX9_travels_18 rfl ?_
      refine a_if_lt (tgt := 29) dX9_travels_20 (by decide) hwhat (fun c20 => ?_) (fun c20 => ?_)
      · refine a_iconst dX9_travels_29 ?_
        exact a_iret rfl ⟨by unfold travelsF; grind, th_F σ, th_T hT⟩ dX9_travels_30
      · refine a_iload dX9_travels_23 rfl ?_
        refine a_iconst dX9_travels_25 ?_
        refine a_icmp_le (tgt := 31) dX9_travels_26 (by decide) hwhat (inR_of (by omega) (by omega)) (fun c26 => ?_) (fun c26 => ?_)
        · refine a_aload_n dX9_travels_31 rfl rfl ?_
          refine a_callV (c := 153) (as := []) (rest := []) (t_looksNow (sN σ 153 0 0) (Q_W (th_F σ) hW) (th_T hT)) mvX9_looksNow lX9_290 k153 (by decide) rfl rfl rfl rfl (Nat.le_of_ble_eq_true rfl) (Nat.le_of_ble_eq_true rfl) (Nat.le_of_ble_eq_true rfl) dX9_travels_32 (fun u hu => ?_)
          obtain ⟨hFu, hTu, hRu⟩ := lk_fin hW (th_F σ) (by omega) (by omega) hu.2
          have hWu := Q_W hFu hW
          refine a_aload_n dX9_travels_35 rfl rfl ?_
          refine a_iload_n dX9_travels_36 rfl rfl ?_
          refine a_iload_n dX9_travels_37 rfl rfl ?_
          refine a_callV (c := 153) (as := [ai s, ai t]) (rest := []) (t_laysProfile u s t hWu hTu (by omega) (by omega) (by omega) (by omega)) mvX9_laysProfile lX9_293 k153 (by decide) rfl rfl rfl rfl (Nat.le_of_ble_eq_true rfl) (Nat.le_of_ble_eq_true rfl) (Nat.le_of_ble_eq_true rfl) dX9_travels_38 (fun v hv => ?_)
          obtain ⟨hFv, hTv, hRv, hCv, hKv⟩ := pr_fin hFu hTu hRu hv.2
          have hok := pf_ok hW (s := s) (t := t) (by omega) (by omega) (by omega) (by omega)
          have k30 : gN v 153 30 = (pfK σ s t).length := hKv.1
          have hWv := Q_W hFv hW
          refine a_iload_n dX9_travels_41 rfl rfl ?_
          refine a_aload_n dX9_travels_42 rfl rfl ?_
          refine a_getI (J := 30) fX9_278 k153 rfl rfl dX9_travels_43 ?_
          refine a_icmp_lt (tgt := 52) dX9_travels_46 (by decide) hi (inR_gN _ _ _) (fun c46 => ?_) (fun c46 => ?_)
          · have bk : gN v 167 (i) = kx σ s t (i) ∧ kx σ s t (i) ∈ pfK σ s t := hKv.at (k := i) (by omega) (by omega)
            have bx : 0 ≤ kx σ s t (i) ∧ kx σ s t (i) < (pfL σ s t).length := hok.2.2.2 _ bk.2
            have ec := hCv.at bx.1 bx.2
            have bc : cdOK (cd (pfL σ s t) (kx σ s t (i))) := cd_ok hok.2.1 bx.1 bx.2
            unfold cdOK at bc
            have bL := hok.1
            refine a_aload_n dX9_travels_52 rfl rfl ?_
            refine a_iload_n dX9_travels_53 rfl rfl ?_
            refine a_iload_n dX9_travels_54 rfl rfl ?_
            refine a_aload_n dX9_travels_55 rfl rfl ?_
            refine a_getF (d := 167) fX9_54 k153 rfl r153_29 dX9_travels_56 ?_
            refine a_iload_n dX9_travels_59 rfl rfl ?_
            refine a_ild k167 n167 (by omega) (by omega) dX9_travels_60 ?_
            refine a_topI (y := kx σ s t i) bk.1 ?_
            refine a_callV (c := 153) (as := [ai s, ai t, ai (kx σ s t i)]) (rest := []) (t_unfolds v hWv hTv s t (kx σ s t i) (pfL σ s t) hCv hok.1 hok.2.1 bx.1 bx.2 (by omega) (by omega) (by omega) (by omega) (unf_Rq hRv (pf_unf hW bx.1 bx.2))) mvX9_unfolds lX9_299 k153 (by decide) rfl rfl rfl rfl (Nat.le_of_ble_eq_true rfl) (Nat.le_of_ble_eq_true rfl) (Nat.le_of_ble_eq_true rfl) dX9_travels_61 (fun ω hω => ?_)
            obtain ⟨hFω, hTω, hRω, hRo⟩ := un_fin hW hFv hTv hRv bx.1 bx.2 hω.2
            have hCω := pUn_Cd hω.2.1 hCv
            have hKω := pUn_Kp hω.2.1 hKv
            have hWω := Q_W hFω hW
            have hlk := lg_ok hW bx.1 bx.2
            have bn : cdOK (cd (pfL σ s t) (kx σ s t i)) := cd_ok hok.2.1 bx.1 bx.2
            unfold cdOK at bn
            refine a_iconst dX9_travels_64 ?_
            refine a_istore (ls' := [(5, ai 0), (0, ar 153), (1, ai s), (2, ai t), (3, ai i), (4, ai what)]) dX9_travels_65 (Nat.le_of_ble_eq_true rfl) rfl ?_
            refine a_iconst dX9_travels_67 ?_
            refine a_istore (ls' := [(6, ai 0), (5, ai 0), (0, ar 153), (1, ai s), (2, ai t), (3, ai i), (4, ai what)]) dX9_travels_68 (Nat.le_of_ble_eq_true rfl) rfl ?_
            refine a_iconst dX9_travels_70 ?_
            refine a_istore (ls' := [(7, ai 0), (6, ai 0), (5, ai 0), (0, ar 153), (1, ai s), (2, ai t), (3, ai i), (4, ai what)]) dX9_travels_71 (Nat.le_of_ble_eq_true rfl) rfl ?_
            rw [show travelsF σ s t i what = trR σ (lgL σ s t (kx σ s t i)) s t what (itr (trF σ (lgL σ s t (kx σ s t i))) (lgL σ s t (kx σ s t i)).length 0 (0, 0)) from by unfold travelsF; grind]
            exact a_keep (by simp) (t_trav_l σ ω hW hFω hTω hRω s t (by omega) (by omega) (by omega) (by omega) i (by omega) (by omega) hCω hKω hRo what (by omega) (by omega) _ 0 0 0 (by omega) (by omega) (by omega) (by omega) (by omega))
          · refine a_bipush (x := (-2)) dX9_travels_49 (by decide) ?_
            exact a_iret rfl ⟨by unfold travelsF; grind, hFv, hTv⟩ dX9_travels_51
        · refine a_iconst dX9_travels_29 ?_
          exact a_iret rfl ⟨by unfold travelsF; grind, th_F σ, th_T hT⟩ dX9_travels_30

set_option maxRecDepth 20000 in
theorem t_wb_l (σ ω : Sto) (hW : WOK σ) (hFω : Fr pQ σ ω) (hTω : TOK ω) (hRω : Rq (lkN σ) ω) (P : List (Int × Int)) (hRo : RoIs ω P) (hP0 : 0 < P.length) (hP5 : P.length ≤ 5) (hlk : ∀ q ∈ P, lgOK (gN σ 155 3) q) (trip d : Int) (htr : inR trip) (hd0 : 0 ≤ d) (hd1 : d ≤ 240) : ∀ (n : Nat) (l : Int), 1 ≤ l → l ≤ P.length → n = (P.length - l).toNat → RunA mX9_wouldBreak (qI (if anyZ (wbP σ P trip d) n l = true then 1 else 0) ω) 3 [(4, ai l), (0, ar 153), (1, ai trip), (2, ai d), (3, ai (P.length : Int))] [] ω := by
  have hWω := Q_W hFω hW
  have hR := hW.1
  intro n
  induction n with
  | zero =>
    intro l h0 h5 hn
    refine a_iload dX9_wouldBreak_3 rfl ?_
    refine a_iload_n dX9_wouldBreak_5 rfl rfl ?_
    refine a_icmp_ge (tgt := 101) dX9_wouldBreak_6 (by decide) (inR_of (by omega) (by omega)) (inR_of (by omega) (by omega)) (fun c6 => ?_) (fun c6 => ?_)
    · refine a_iconst dX9_wouldBreak_101 ?_
      exact a_zret rfl (by omega) ⟨rfl, rfl⟩ dX9_wouldBreak_102
    · exfalso; omega
  | succ n ih =>
    intro l h0 h5 hn
    refine a_iload dX9_wouldBreak_3 rfl ?_
    refine a_iload_n dX9_wouldBreak_5 rfl rfl ?_
    refine a_icmp_ge (tgt := 101) dX9_wouldBreak_6 (by decide) (inR_of (by omega) (by omega)) (inR_of (by omega) (by omega)) (fun c6 => ?_) (fun c6 => ?_)
    · exfalso; omega
    · have ra := hRo.at (l := l) (by omega) (by omega)
      have qa := hlk _ ra.2.2
      unfold lgOK at qa
      have ta := hRω.2.2.1 (lg P (l)).1 (by omega) (by have := qa; rw [show gN (lkN σ) 155 3 = gN σ 155 3 from rfl]; omega)
      have ya := hRω.2.2.1 (lg P (l)).2 (by omega) (by have := qa; rw [show gN (lkN σ) 155 3 = gN σ 155 3 from rfl]; omega)
      have za := LV_rng hW (x := (lg P (l)).1) (by omega) (by omega)
      have xa := LV_rng hW (x := (lg P (l)).2) (by omega) (by omega)
      have wa := hW.2.2.2.1 (lg P (l)).1 (by omega) (by omega)
      have va := hW.2.2.2.1 (lg P (l)).2 (by omega) (by omega)
      have rb := hRo.at (l := l - 1) (by omega) (by omega)
      have qb := hlk _ rb.2.2
      unfold lgOK at qb
      have tb := hRω.2.2.1 (lg P (l - 1)).1 (by omega) (by have := qb; rw [show gN (lkN σ) 155 3 = gN σ 155 3 from rfl]; omega)
      have yb := hRω.2.2.1 (lg P (l - 1)).2 (by omega) (by have := qb; rw [show gN (lkN σ) 155 3 = gN σ 155 3 from rfl]; omega)
      have zb := LV_rng hW (x := (lg P (l - 1)).1) (by omega) (by omega)
      have xb := LV_rng hW (x := (lg P (l - 1)).2) (by omega) (by omega)
      have wb := hW.2.2.2.1 (lg P (l - 1)).1 (by omega) (by omega)
      have vb := hW.2.2.2.1 (lg P (l - 1)).2 (by omega) (by omega)
      have bb := btw_rng hW (i := (lg P (l - 1)).2) (k := (lg P l).1) (by omega) (by omega) (by omega) (by omega)
      refine a_aload_n dX9_wouldBreak_9 rfl rfl ?_
      refine a_getF (d := 171) fX9_67 k153 rfl r153_34 dX9_wouldBreak_10 ?_
      refine a_iload dX9_wouldBreak_13 rfl ?_
      refine a_iconst dX9_wouldBreak_15 ?_
      refine a_isub dX9_wouldBreak_16 ?_
      refine a_ild k171 n171 (by omega) (by omega) dX9_wouldBreak_17 ?_
      refine a_topI (y := (lg P (l - 1)).2) rb.2.1 ?_
      refine a_istore (ls' := [(5, ai ((lg P (l - 1)).2)), (4, ai l), (0, ar 153), (1, ai trip), (2, ai d), (3, ai (P.length : Int))]) dX9_wouldBreak_18 (Nat.le_of_ble_eq_true rfl) rfl ?_
      refine a_aload_n dX9_wouldBreak_20 rfl rfl ?_
      refine a_getF (d := 170) fX9_64 k153 rfl r153_33 dX9_wouldBreak_21 ?_
      refine a_iload dX9_wouldBreak_24 rfl ?_
      refine a_ild k170 n170 (by omega) (by omega) dX9_wouldBreak_26 ?_
      refine a_topI (y := (lg P l).1) ra.1 ?_
      refine a_istore (ls' := [(6, ai ((lg P l).1)), (5, ai ((lg P (l - 1)).2)), (4, ai l), (0, ar 153), (1, ai trip), (2, ai d), (3, ai (P.length : Int))]) dX9_wouldBreak_27 (Nat.le_of_ble_eq_true rfl) rfl ?_
      refine a_aload_n dX9_wouldBreak_29 rfl rfl ?_
      refine a_getF (d := 162) fX9_39 k153 rfl r153_22 dX9_wouldBreak_30 ?_
      refine a_iload dX9_wouldBreak_33 rfl ?_
      refine a_ild k162 n162 (by omega) (by omega) dX9_wouldBreak_35 ?_
      refine a_topI (y := CM σ (lg P (l - 1)).2) yb.2.1 ?_
      refine a_aload_n dX9_wouldBreak_36 rfl rfl ?_
      refine a_iload dX9_wouldBreak_37 rfl ?_
      refine a_iconst dX9_wouldBreak_39 ?_
      refine a_cI (c := 153) (as := [ai ((lg P (l - 1)).2), ai 0]) (rest := [ai (CM σ (lg P (l - 1)).2)]) (t_told ω ((lg P (l - 1)).2) 0 (by omega) (by omega)) mvX9_told lX9_201 k153 (by decide) rfl rfl rfl rfl (Nat.le_of_ble_eq_true rfl) (Nat.le_of_ble_eq_true rfl) (Nat.le_of_ble_eq_true rfl) dX9_wouldBreak_40 ?_
      refine a_topI (y := gN σ 155 (115 + 5 * ((lg P (l - 1)).2) + 0)) (Q155 hFω _) ?_
      refine a_iload_n dX9_wouldBreak_43 rfl rfl ?_
      refine a_icmp_ne (tgt := 51) dX9_wouldBreak_44 (by decide) (inR_gN _ _ _) htr (fun c44 => ?_) (fun c44 => ?_)
      · refine a_iconst dX9_wouldBreak_51 ?_
        refine a_iadd dX9_wouldBreak_52 ?_
        refine a_aload_n dX9_wouldBreak_53 rfl rfl ?_
        refine a_iload dX9_wouldBreak_54 rfl ?_
        refine a_iload dX9_wouldBreak_56 rfl ?_
        refine a_cI (c := 153) (as := [ai ((lg P (l - 1)).2), ai ((lg P l).1)]) (rest := [ai (CM σ (lg P (l - 1)).2 + 0)]) (t_btw ω ((lg P (l - 1)).2) ((lg P l).1) hWω (by omega) (by omega) (by omega) (by omega)) mvX9_between lX9_246 k153 (by decide) rfl rfl rfl rfl (Nat.le_of_ble_eq_true rfl) (Nat.le_of_ble_eq_true rfl) (Nat.le_of_ble_eq_true rfl) dX9_wouldBreak_58 ?_
        refine a_topI (y := btw σ ((lg P (l - 1)).2) ((lg P l).1)) (btw_eq (Q155 hFω) _ _) ?_
        refine a_iadd dX9_wouldBreak_61 ?_
        refine a_istore (ls' := [(7, ai (CM σ (lg P (l - 1)).2 + 0 + (btw σ ((lg P (l - 1)).2) ((lg P l).1)))), (6, ai ((lg P l).1)), (5, ai ((lg P (l - 1)).2)), (4, ai l), (0, ar 153), (1, ai trip), (2, ai d), (3, ai (P.length : Int))]) dX9_wouldBreak_62 (Nat.le_of_ble_eq_true rfl) rfl ?_
        refine a_aload_n dX9_wouldBreak_64 rfl rfl ?_
        refine a_getF (d := 161) fX9_36 k153 rfl r153_21 dX9_wouldBreak_65 ?_
        refine a_iload dX9_wouldBreak_68 rfl ?_
        refine a_ild k161 n161 (by omega) (by omega) dX9_wouldBreak_70 ?_
        refine a_topI (y := LV σ (lg P l).1) ta.1 ?_
        refine a_aload_n dX9_wouldBreak_71 rfl rfl ?_
        refine a_iload dX9_wouldBreak_72 rfl ?_
        refine a_iconst dX9_wouldBreak_74 ?_
        refine a_cI (c := 153) (as := [ai ((lg P l).1), ai 0]) (rest := [ai (LV σ (lg P l).1)]) (t_told ω ((lg P l).1) 0 (by omega) (by omega)) mvX9_told lX9_201 k153 (by decide) rfl rfl rfl rfl (Nat.le_of_ble_eq_true rfl) (Nat.le_of_ble_eq_true rfl) (Nat.le_of_ble_eq_true rfl) dX9_wouldBreak_75 ?_
        refine a_topI (y := gN σ 155 (115 + 5 * ((lg P l).1) + 0)) (Q155 hFω _) ?_
        refine a_iload_n dX9_wouldBreak_78 rfl rfl ?_
        refine a_icmp_ne (tgt := 86) dX9_wouldBreak_79 (by decide) (inR_gN _ _ _) htr (fun c79 => ?_) (fun c79 => ?_)
        · refine a_iconst dX9_wouldBreak_86 ?_
          refine a_iadd dX9_wouldBreak_87 ?_
          refine a_iload dX9_wouldBreak_88 rfl ?_
          refine a_icmp_ge (tgt := 95) dX9_wouldBreak_90 (by decide) (inR_of (by omega) (by omega)) (inR_of (by omega) (by omega)) (fun c90 => ?_) (fun c90 => ?_)
          · refine a_iinc (y := l + 1) (ls' := [(4, ai (l + 1)), (7, ai (CM σ (lg P (l - 1)).2 + 0 + (btw σ ((lg P (l - 1)).2) ((lg P l).1)))), (6, ai ((lg P l).1)), (5, ai ((lg P (l - 1)).2)), (0, ar 153), (1, ai trip), (2, ai d), (3, ai (P.length : Int))]) dX9_wouldBreak_95 rfl rfl (Nat.le_of_ble_eq_true rfl) rfl ?_
            refine a_goto (tgt := 3) dX9_wouldBreak_98 (by decide) ?_
            rw [show anyZ (wbP σ P trip d) (n + 1) l = anyZ (wbP σ P trip d) n (l + 1) from by show (wbP σ P trip d l || _) = _; rw [show wbP σ P trip d l = false from by unfold wbP; grind]; rfl]
            exact a_keep (by simp) (ih (l + 1) (by omega) (by omega) (by omega))
          · refine a_iconst dX9_wouldBreak_93 ?_
            exact a_zret rfl (by omega) ⟨by rw [anyZ_here (show wbP σ P trip d l = true by unfold wbP; grind)]; rfl, rfl⟩ dX9_wouldBreak_94
        · refine a_iload_n dX9_wouldBreak_82 rfl rfl ?_
          refine a_goto (tgt := 87) dX9_wouldBreak_83 (by decide) ?_
          refine a_iadd dX9_wouldBreak_87 ?_
          refine a_iload dX9_wouldBreak_88 rfl ?_
          refine a_icmp_ge (tgt := 95) dX9_wouldBreak_90 (by decide) (inR_of (by omega) (by omega)) (inR_of (by omega) (by omega)) (fun c90 => ?_) (fun c90 => ?_)
          · refine a_iinc (y := l + 1) (ls' := [(4, ai (l + 1)), (7, ai (CM σ (lg P (l - 1)).2 + 0 + (btw σ ((lg P (l - 1)).2) ((lg P l).1)))), (6, ai ((lg P l).1)), (5, ai ((lg P (l - 1)).2)), (0, ar 153), (1, ai trip), (2, ai d), (3, ai (P.length : Int))]) dX9_wouldBreak_95 rfl rfl (Nat.le_of_ble_eq_true rfl) rfl ?_
            refine a_goto (tgt := 3) dX9_wouldBreak_98 (by decide) ?_
            rw [show anyZ (wbP σ P trip d) (n + 1) l = anyZ (wbP σ P trip d) n (l + 1) from by show (wbP σ P trip d l || _) = _; rw [show wbP σ P trip d l = false from by unfold wbP; grind]; rfl]
            exact a_keep (by simp) (ih (l + 1) (by omega) (by omega) (by omega))
          · refine a_iconst dX9_wouldBreak_93 ?_
            exact a_zret rfl (by omega) ⟨by rw [anyZ_here (show wbP σ P trip d l = true by unfold wbP; grind)]; rfl, rfl⟩ dX9_wouldBreak_94
      · refine a_iload_n dX9_wouldBreak_47 rfl rfl ?_
        refine a_goto (tgt := 52) dX9_wouldBreak_48 (by decide) ?_
        refine a_iadd dX9_wouldBreak_52 ?_
        refine a_aload_n dX9_wouldBreak_53 rfl rfl ?_
        refine a_iload dX9_wouldBreak_54 rfl ?_
        refine a_iload dX9_wouldBreak_56 rfl ?_
        refine a_cI (c := 153) (as := [ai ((lg P (l - 1)).2), ai ((lg P l).1)]) (rest := [ai (CM σ (lg P (l - 1)).2 + d)]) (t_btw ω ((lg P (l - 1)).2) ((lg P l).1) hWω (by omega) (by omega) (by omega) (by omega)) mvX9_between lX9_246 k153 (by decide) rfl rfl rfl rfl (Nat.le_of_ble_eq_true rfl) (Nat.le_of_ble_eq_true rfl) (Nat.le_of_ble_eq_true rfl) dX9_wouldBreak_58 ?_
        refine a_topI (y := btw σ ((lg P (l - 1)).2) ((lg P l).1)) (btw_eq (Q155 hFω) _ _) ?_
        refine a_iadd dX9_wouldBreak_61 ?_
        refine a_istore (ls' := [(7, ai (CM σ (lg P (l - 1)).2 + d + (btw σ ((lg P (l - 1)).2) ((lg P l).1)))), (6, ai ((lg P l).1)), (5, ai ((lg P (l - 1)).2)), (4, ai l), (0, ar 153), (1, ai trip), (2, ai d), (3, ai (P.length : Int))]) dX9_wouldBreak_62 (Nat.le_of_ble_eq_true rfl) rfl ?_
        refine a_aload_n dX9_wouldBreak_64 rfl rfl ?_
        refine a_getF (d := 161) fX9_36 k153 rfl r153_21 dX9_wouldBreak_65 ?_
        refine a_iload dX9_wouldBreak_68 rfl ?_
        refine a_ild k161 n161 (by omega) (by omega) dX9_wouldBreak_70 ?_
        refine a_topI (y := LV σ (lg P l).1) ta.1 ?_
        refine a_aload_n dX9_wouldBreak_71 rfl rfl ?_
        refine a_iload dX9_wouldBreak_72 rfl ?_
        refine a_iconst dX9_wouldBreak_74 ?_
        refine a_cI (c := 153) (as := [ai ((lg P l).1), ai 0]) (rest := [ai (LV σ (lg P l).1)]) (t_told ω ((lg P l).1) 0 (by omega) (by omega)) mvX9_told lX9_201 k153 (by decide) rfl rfl rfl rfl (Nat.le_of_ble_eq_true rfl) (Nat.le_of_ble_eq_true rfl) (Nat.le_of_ble_eq_true rfl) dX9_wouldBreak_75 ?_
        refine a_topI (y := gN σ 155 (115 + 5 * ((lg P l).1) + 0)) (Q155 hFω _) ?_
        refine a_iload_n dX9_wouldBreak_78 rfl rfl ?_
        refine a_icmp_ne (tgt := 86) dX9_wouldBreak_79 (by decide) (inR_gN _ _ _) htr (fun c79 => ?_) (fun c79 => ?_)
        · refine a_iconst dX9_wouldBreak_86 ?_
          refine a_iadd dX9_wouldBreak_87 ?_
          refine a_iload dX9_wouldBreak_88 rfl ?_
          refine a_icmp_ge (tgt := 95) dX9_wouldBreak_90 (by decide) (inR_of (by omega) (by omega)) (inR_of (by omega) (by omega)) (fun c90 => ?_) (fun c90 => ?_)
          · refine a_iinc (y := l + 1) (ls' := [(4, ai (l + 1)), (7, ai (CM σ (lg P (l - 1)).2 + d + (btw σ ((lg P (l - 1)).2) ((lg P l).1)))), (6, ai ((lg P l).1)), (5, ai ((lg P (l - 1)).2)), (0, ar 153), (1, ai trip), (2, ai d), (3, ai (P.length : Int))]) dX9_wouldBreak_95 rfl rfl (Nat.le_of_ble_eq_true rfl) rfl ?_
            refine a_goto (tgt := 3) dX9_wouldBreak_98 (by decide) ?_
            rw [show anyZ (wbP σ P trip d) (n + 1) l = anyZ (wbP σ P trip d) n (l + 1) from by show (wbP σ P trip d l || _) = _; rw [show wbP σ P trip d l = false from by unfold wbP; grind]; rfl]
            exact a_keep (by simp) (ih (l + 1) (by omega) (by omega) (by omega))
          · refine a_iconst dX9_wouldBreak_93 ?_
            exact a_zret rfl (by omega) ⟨by rw [anyZ_here (show wbP σ P trip d l = true by unfold wbP; grind)]; rfl, rfl⟩ dX9_wouldBreak_94
        · refine a_iload_n dX9_wouldBreak_82 rfl rfl ?_
          refine a_goto (tgt := 87) dX9_wouldBreak_83 (by decide) ?_
          refine a_iadd dX9_wouldBreak_87 ?_
          refine a_iload dX9_wouldBreak_88 rfl ?_
          refine a_icmp_ge (tgt := 95) dX9_wouldBreak_90 (by decide) (inR_of (by omega) (by omega)) (inR_of (by omega) (by omega)) (fun c90 => ?_) (fun c90 => ?_)
          · refine a_iinc (y := l + 1) (ls' := [(4, ai (l + 1)), (7, ai (CM σ (lg P (l - 1)).2 + d + (btw σ ((lg P (l - 1)).2) ((lg P l).1)))), (6, ai ((lg P l).1)), (5, ai ((lg P (l - 1)).2)), (0, ar 153), (1, ai trip), (2, ai d), (3, ai (P.length : Int))]) dX9_wouldBreak_95 rfl rfl (Nat.le_of_ble_eq_true rfl) rfl ?_
            refine a_goto (tgt := 3) dX9_wouldBreak_98 (by decide) ?_
            rw [show anyZ (wbP σ P trip d) (n + 1) l = anyZ (wbP σ P trip d) n (l + 1) from by show (wbP σ P trip d l || _) = _; rw [show wbP σ P trip d l = false from by unfold wbP; grind]; rfl]
            exact a_keep (by simp) (ih (l + 1) (by omega) (by omega) (by omega))
          · refine a_iconst dX9_wouldBreak_93 ?_
            exact a_zret rfl (by omega) ⟨by rw [anyZ_here (show wbP σ P trip d l = true by unfold wbP; grind)]; rfl, rfl⟩ dX9_wouldBreak_94

set_option maxRecDepth 20000 in
theorem t_wb (σ ω : Sto) (hW : WOK σ) (hFω : Fr pQ σ ω) (hTω : TOK ω) (hRω : Rq (lkN σ) ω) (P : List (Int × Int)) (hRo : RoIs ω P) (hP0 : 0 < P.length) (hP5 : P.length ≤ 5) (hlk : ∀ q ∈ P, lgOK (gN σ 155 3) q) (trip d : Int) (htr : inR trip) (hd0 : 0 ≤ d) (hd1 : d ≤ 240) : MetI mX9_wouldBreak [ar 153, ai trip, ai d, ai (P.length : Int)] ω (if anyZ (wbP σ P trip d) (P.length - 1) 1 = true then 1 else 0) ω := by
  refine a_entry (by decide) (Nat.le_of_ble_eq_true rfl) ?_
  refine a_iconst dX9_wouldBreak_0 ?_
  refine a_istore (ls' := [(4, ai 1), (0, ar 153), (1, ai trip), (2, ai d), (3, ai (P.length : Int))]) dX9_wouldBreak_1 (Nat.le_of_ble_eq_true rfl) rfl ?_
  exact a_keep (by simp) (t_wb_l σ ω hW hFω hTω hRω P hRo hP0 hP5 hlk trip d htr hd0 hd1 (P.length - 1) 1 (by omega) (by omega) (by omega))

