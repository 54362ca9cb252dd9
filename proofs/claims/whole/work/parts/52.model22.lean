set_option maxRecDepth 20000 in
theorem t_areFit (σ : Sto) (s t m : Int) (hs : inR s) (ht : inR t) (hm : inR m) : MetI mX9_areFit [ar 153, ai s, ai t, ai m] σ (if fit σ s t m then 1 else 0) σ := by
  refine a_entry (by decide) (Nat.le_of_ble_eq_true rfl) ?_
  refine a_aload_n dX9_areFit_0 rfl rfl ?_
  refine a_iload_n dX9_areFit_1 rfl rfl ?_
  refine a_cI (c := 153) (as := [ai s]) (rest := []) (t_isStop σ s hs) mvX9_isStop lX9_213 k153 (by decide) rfl rfl rfl rfl (Nat.le_of_ble_eq_true rfl) (Nat.le_of_ble_eq_true rfl) (Nat.le_of_ble_eq_true rfl) dX9_areFit_2 ?_
  refine a_ifb_eq (tgt := 27) dX9_areFit_5 (by decide) (fun c5 => ?_) (fun c5 => ?_)
  · refine a_iconst dX9_areFit_27 ?_
    exact a_zret rfl (by omega) ⟨by grind, rfl⟩ dX9_areFit_28
  · refine a_aload_n dX9_areFit_8 rfl rfl ?_
    refine a_iload_n dX9_areFit_9 rfl rfl ?_
    refine a_cI (c := 153) (as := [ai t]) (rest := []) (t_isStop σ t ht) mvX9_isStop lX9_213 k153 (by decide) rfl rfl rfl rfl (Nat.le_of_ble_eq_true rfl) (Nat.le_of_ble_eq_true rfl) (Nat.le_of_ble_eq_true rfl) dX9_areFit_10 ?_
    refine a_ifb_eq (tgt := 27) dX9_areFit_13 (by decide) (fun c13 => ?_) (fun c13 => ?_)
    · refine a_iconst dX9_areFit_27 ?_
      exact a_zret rfl (by omega) ⟨by grind, rfl⟩ dX9_areFit_28
    · refine a_iload_n dX9_areFit_16 rfl rfl ?_
      refine a_sI (as := [ai m]) (rest := []) (t_isMinute σ m hm) mvX9_isMinute lX9_320 rfl rfl rfl (Nat.le_of_ble_eq_true rfl) (Nat.le_of_ble_eq_true rfl) (Nat.le_of_ble_eq_true rfl) dX9_areFit_17 ?_
      refine a_ifb_eq (tgt := 27) dX9_areFit_20 (by decide) (fun c20 => ?_) (fun c20 => ?_)
      · refine a_iconst dX9_areFit_27 ?_
        exact a_zret rfl (by omega) ⟨by grind, rfl⟩ dX9_areFit_28
      · refine a_iconst dX9_areFit_23 ?_
        refine a_goto (tgt := 28) dX9_areFit_24 (by decide) ?_
        exact a_zret rfl (by omega) ⟨by grind, rfl⟩ dX9_areFit_28

set_option maxRecDepth 20000 in
theorem t_checked (σ : Sto) (s t m aT what : Int) (hs : inR s) (ht : inR t) (hm : inR m) (hwhat : inR what) (ha : aT = 0 ∨ aT = 1) (hW : WOK σ) (hT : TOK σ) (hp : PlOK σ) : MetA mX9_checked [ar 153, ai s, ai t, ai m, ai aT, ai what] σ (qQ σ (checkedF σ s t m aT what)) := by
  have hS := hW.2.1
  have hR := hW.1
  have hl := hp.1
  refine a_entry (by decide) (Nat.le_of_ble_eq_true rfl) ?_
  refine a_aload_n dX9_checked_0 rfl rfl ?_
  refine a_iconst dX9_checked_1 ?_
  refine a_putI (J := 0) fX9_85 k153 rfl rfl rfl dX9_checked_2 ?_
  refine a_aload_n dX9_checked_5 rfl rfl ?_
  refine a_iload_n dX9_checked_6 rfl rfl ?_
  refine a_iload_n dX9_checked_7 rfl rfl ?_
  refine a_iload_n dX9_checked_8 rfl rfl ?_
  refine a_cI (c := 153) (as := [ai s, ai t, ai m]) (rest := []) (t_areFit (sN σ 153 0 0) s t m hs ht hm) mvX9_areFit lX9_346 k153 (by decide) rfl rfl rfl rfl (Nat.le_of_ble_eq_true rfl) (Nat.le_of_ble_eq_true rfl) (Nat.le_of_ble_eq_true rfl) dX9_checked_9 ?_
  refine a_topI (y := if fit σ s t m then 1 else 0) (by simp only [fit, stp, th155]) ?_
  refine a_ifb_eq (tgt := 26) dX9_checked_12 (by decide) (fun c12 => ?_) (fun c12 => ?_)
  · refine a_iconst dX9_checked_26 ?_
    exact a_iret rfl ⟨by unfold checkedF; grind, th_F σ, th_T hT⟩ dX9_checked_27
  · refine a_iload dX9_checked_15 rfl ?_
    refine a_if_lt (tgt := 26) dX9_checked_17 (by decide) hwhat (fun c17 => ?_) (fun c17 => ?_)
    · refine a_iconst dX9_checked_26 ?_
      exact a_iret rfl ⟨by unfold checkedF; grind, th_F σ, th_T hT⟩ dX9_checked_27
    · refine a_iload dX9_checked_20 rfl ?_
      refine a_iconst dX9_checked_22 ?_
      refine a_icmp_le (tgt := 28) dX9_checked_23 (by decide) hwhat (inR_of (by omega) (by omega)) (fun c23 => ?_) (fun c23 => ?_)
      · refine a_aload_n dX9_checked_28 rfl rfl ?_
        refine a_getI (J := 38) fX9_186 k153 rfl rfl dX9_checked_29 ?_
        refine a_topI (y := gN σ 153 38) (Q38 (th_F σ)) ?_
        refine a_if_ne (tgt := 38) dX9_checked_32 (by decide) (inR_gN _ _ _) (fun c32 => ?_) (fun c32 => ?_)
        · refine a_aload_n dX9_checked_38 rfl rfl ?_
          refine a_iload_n dX9_checked_39 rfl rfl ?_
          refine a_iload_n dX9_checked_40 rfl rfl ?_
          refine a_iload_n dX9_checked_41 rfl rfl ?_
          refine a_iload dX9_checked_42 rfl ?_
          refine a_callI (c := 153) (as := [ai s, ai t, ai m, ai aT]) (rest := []) (t_bk (sN σ 153 0 0) (Q_W (th_F σ) hW) (hp.of (th_F σ)) s t m aT (by omega) (by omega) (by omega) (by omega) (by omega) ha (by rw [Q38 (th_F σ)]; omega)) mvX9_breaks lX9_349 k153 (by decide) rfl rfl rfl rfl (Nat.le_of_ble_eq_true rfl) (Nat.le_of_ble_eq_true rfl) (Nat.le_of_ble_eq_true rfl) dX9_checked_44 (fun xr u hu => ?_)
          obtain ⟨hxr, hFb, h39⟩ := hu
          have hFu : Fr pQ σ u := (th_F σ).trans (Bk_Q hFb)
          have hTu : TOK u := fun i q0 q1 => by rw [hFb.1 161 i (by unfold pBk; omega), hFb.1 162 i (by unfold pBk; omega)]; exact th_T hT i q0 q1
          have hWu := Q_W hFu hW
          rw [brk_eq (th_F σ)] at hxr h39
          have hxr : xr = (brk σ s t m aT).1 := by simpa using hxr
          have bR := brkF_rng hp s t m aT (gN σ 153 38).toNat 0 (by omega) (by omega)
          rw [show brkF σ s t m aT (gN σ 153 38).toNat 0 = brk σ s t m aT from rfl] at bR
          refine a_topI (y := (brk σ s t m aT).1) hxr ?_
          refine a_istore (ls' := [(6, ai ((brk σ s t m aT).1)), (0, ar 153), (1, ai s), (2, ai t), (3, ai m), (4, ai aT), (5, ai what)]) dX9_checked_47 (Nat.le_of_ble_eq_true rfl) rfl ?_
          refine a_iload dX9_checked_49 rfl ?_
          refine a_if_ne (tgt := 57) dX9_checked_51 (by decide) hwhat (fun c51 => ?_) (fun c51 => ?_)
          · refine a_iload dX9_checked_57 rfl ?_
            refine a_iconst dX9_checked_59 ?_
            refine a_icmp_ne (tgt := 78) dX9_checked_60 (by decide) hwhat (inR_of (by omega) (by omega)) (fun c60 => ?_) (fun c60 => ?_)
            · have qe := hp.2 (gN σ 153 38 - 1) (by omega) (by omega)
              have be := hW.2.2.2.1 (gN σ 174 (gN σ 153 38 - 1)) (by omega) (by omega)
              have we := hW.2.2.2.2.1 _ t be.2.2.1.1 be.2.2.1.2 (by omega) (by omega)
              have se := hW.2.2.2.2.2.2 (gN σ 174 (gN σ 153 38 - 1)) (by omega) (by omega)
              refine a_aload_n dX9_checked_78 rfl rfl ?_
              refine a_getF (d := 174) fX9_76 k153 rfl r153_37 dX9_checked_79 ?_
              refine a_aload_n dX9_checked_82 rfl rfl ?_
              refine a_getI (J := 38) fX9_186 k153 rfl rfl dX9_checked_83 ?_
              refine a_topI (y := gN σ 153 38) (Q38 hFu) ?_
              refine a_iconst dX9_checked_86 ?_
              refine a_isub dX9_checked_87 ?_
              refine a_ild k174 n174 (by omega) (by omega) dX9_checked_88 ?_
              refine a_topI (y := gN σ 174 (gN σ 153 38 - 1)) (Q174 hFu _) ?_
              refine a_istore (ls' := [(7, ai (gN σ 174 (gN σ 153 38 - 1))), (6, ai ((brk σ s t m aT).1)), (0, ar 153), (1, ai s), (2, ai t), (3, ai m), (4, ai aT), (5, ai what)]) dX9_checked_89 (Nat.le_of_ble_eq_true rfl) rfl ?_
              refine a_iload dX9_checked_91 rfl ?_
              refine a_if_ne (tgt := 136) dX9_checked_93 (by decide) (inR_of (by omega) (by omega)) (fun c93 => ?_) (fun c93 => ?_)
              · refine a_bipush (x := (-2)) dX9_checked_136 (by decide) ?_
                exact a_iret rfl ⟨by unfold checkedF; grind, hFu, hTu⟩ dX9_checked_138
              · refine a_aload_n dX9_checked_96 rfl rfl ?_
                refine a_iload dX9_checked_97 rfl ?_
                refine a_iconst dX9_checked_99 ?_
                refine a_cI (c := 153) (as := [ai (gN σ 174 (gN σ 153 38 - 1)), ai 4]) (rest := []) (t_told u (gN σ 174 (gN σ 153 38 - 1)) 4 (by omega) (by omega)) mvX9_told lX9_201 k153 (by decide) rfl rfl rfl rfl (Nat.le_of_ble_eq_true rfl) (Nat.le_of_ble_eq_true rfl) (Nat.le_of_ble_eq_true rfl) dX9_checked_100 ?_
                refine a_topI (y := gN σ 155 (115 + 5 * (gN σ 174 (gN σ 153 38 - 1)) + 4)) (Q155 hFu _) ?_
                refine a_iload dX9_checked_103 rfl ?_
                refine a_if_eq (tgt := 112) dX9_checked_105 (by decide) (inR_of (by omega) (by omega)) (fun c105 => ?_) (fun c105 => ?_)
                · refine a_aload_n dX9_checked_112 rfl rfl ?_
                  refine a_getF (d := 158) fX9_26 k153 rfl r153_16 dX9_checked_113 ?_
                  refine a_iload dX9_checked_116 rfl ?_
                  refine a_ild k158 n158 (by omega) (by omega) dX9_checked_118 ?_
                  refine a_topI (y := gN σ 158 (gN σ 174 (gN σ 153 38 - 1))) (Q158 hFu _) ?_
                  refine a_iadd dX9_checked_119 ?_
                  refine a_aload_n dX9_checked_120 rfl rfl ?_
                  refine a_aload_n dX9_checked_121 rfl rfl ?_
                  refine a_iload dX9_checked_122 rfl ?_
                  refine a_iconst dX9_checked_124 ?_
                  refine a_cI (c := 153) (as := [ai (gN σ 174 (gN σ 153 38 - 1)), ai 2]) (rest := [ar 153, ai (gN σ 155 (115 + 5 * (gN σ 174 (gN σ 153 38 - 1)) + 4) + (gN σ 158 (gN σ 174 (gN σ 153 38 - 1))))]) (t_told u (gN σ 174 (gN σ 153 38 - 1)) 2 (by omega) (by omega)) mvX9_told lX9_201 k153 (by decide) rfl rfl rfl rfl (Nat.le_of_ble_eq_true rfl) (Nat.le_of_ble_eq_true rfl) (Nat.le_of_ble_eq_true rfl) dX9_checked_125 ?_
                  refine a_topI (y := gN σ 155 (115 + 5 * (gN σ 174 (gN σ 153 38 - 1)) + 2)) (Q155 hFu _) ?_
                  refine a_iload_n dX9_checked_128 rfl rfl ?_
                  refine a_cI (c := 153) (as := [ai (gN σ 155 (115 + 5 * (gN σ 174 (gN σ 153 38 - 1)) + 2)), ai t]) (rest := [ai (gN σ 155 (115 + 5 * (gN σ 174 (gN σ 153 38 - 1)) + 4) + (gN σ 158 (gN σ 174 (gN σ 153 38 - 1))))]) (t_walked u (gN σ 155 (115 + 5 * (gN σ 174 (gN σ 153 38 - 1)) + 2)) t (by omega) (by omega)) mvX9_walked lX9_216 k153 (by decide) rfl rfl rfl rfl (Nat.le_of_ble_eq_true rfl) (Nat.le_of_ble_eq_true rfl) (Nat.le_of_ble_eq_true rfl) dX9_checked_129 ?_
                  refine a_topI (y := gN σ 155 (15 + 10 * (gN σ 155 (115 + 5 * (gN σ 174 (gN σ 153 38 - 1)) + 2)) + t)) (Q155 hFu _) ?_
                  refine a_iadd dX9_checked_132 ?_
                  refine a_goto (tgt := 138) dX9_checked_133 (by decide) ?_
                  exact a_iret rfl ⟨by unfold checkedF; grind, hFu, hTu⟩ dX9_checked_138
                · refine a_iconst dX9_checked_108 ?_
                  refine a_goto (tgt := 119) dX9_checked_109 (by decide) ?_
                  refine a_iadd dX9_checked_119 ?_
                  refine a_aload_n dX9_checked_120 rfl rfl ?_
                  refine a_aload_n dX9_checked_121 rfl rfl ?_
                  refine a_iload dX9_checked_122 rfl ?_
                  refine a_iconst dX9_checked_124 ?_
                  refine a_cI (c := 153) (as := [ai (gN σ 174 (gN σ 153 38 - 1)), ai 2]) (rest := [ar 153, ai (gN σ 155 (115 + 5 * (gN σ 174 (gN σ 153 38 - 1)) + 4) + 0)]) (t_told u (gN σ 174 (gN σ 153 38 - 1)) 2 (by omega) (by omega)) mvX9_told lX9_201 k153 (by decide) rfl rfl rfl rfl (Nat.le_of_ble_eq_true rfl) (Nat.le_of_ble_eq_true rfl) (Nat.le_of_ble_eq_true rfl) dX9_checked_125 ?_
                  refine a_topI (y := gN σ 155 (115 + 5 * (gN σ 174 (gN σ 153 38 - 1)) + 2)) (Q155 hFu _) ?_
                  refine a_iload_n dX9_checked_128 rfl rfl ?_
                  refine a_cI (c := 153) (as := [ai (gN σ 155 (115 + 5 * (gN σ 174 (gN σ 153 38 - 1)) + 2)), ai t]) (rest := [ai (gN σ 155 (115 + 5 * (gN σ 174 (gN σ 153 38 - 1)) + 4) + 0)]) (t_walked u (gN σ 155 (115 + 5 * (gN σ 174 (gN σ 153 38 - 1)) + 2)) t (by omega) (by omega)) mvX9_walked lX9_216 k153 (by decide) rfl rfl rfl rfl (Nat.le_of_ble_eq_true rfl) (Nat.le_of_ble_eq_true rfl) (Nat.le_of_ble_eq_true rfl) dX9_checked_129 ?_
                  refine a_topI (y := gN σ 155 (15 + 10 * (gN σ 155 (115 + 5 * (gN σ 174 (gN σ 153 38 - 1)) + 2)) + t)) (Q155 hFu _) ?_
                  refine a_iadd dX9_checked_132 ?_
                  refine a_goto (tgt := 138) dX9_checked_133 (by decide) ?_
                  exact a_iret rfl ⟨by unfold checkedF; grind, hFu, hTu⟩ dX9_checked_138
            · refine a_iload dX9_checked_63 rfl ?_
              refine a_if_ne (tgt := 73) dX9_checked_65 (by decide) (inR_of (by omega) (by omega)) (fun c65 => ?_) (fun c65 => ?_)
              · refine a_aload_n dX9_checked_73 rfl rfl ?_
                refine a_getI (J := 39) fX9_335 k153 rfl rfl dX9_checked_74 ?_
                refine a_topI (y := (brk σ s t m aT).2) h39 ?_
                exact a_iret rfl ⟨by unfold checkedF; grind, hFu, hTu⟩ dX9_checked_77
              · refine a_bipush (x := (-2)) dX9_checked_68 (by decide) ?_
                refine a_goto (tgt := 77) dX9_checked_70 (by decide) ?_
                exact a_iret rfl ⟨by unfold checkedF; grind, hFu, hTu⟩ dX9_checked_77
          · refine a_iload dX9_checked_54 rfl ?_
            exact a_iret rfl ⟨by unfold checkedF; grind, hFu, hTu⟩ dX9_checked_56
        · refine a_bipush (x := (-3)) dX9_checked_35 (by decide) ?_
          exact a_iret rfl ⟨by unfold checkedF; grind, th_F σ, th_T hT⟩ dX9_checked_37
      · refine a_iconst dX9_checked_26 ?_
        exact a_iret rfl ⟨by unfold checkedF; grind, th_F σ, th_T hT⟩ dX9_checked_27

set_option maxRecDepth 20000 in
theorem t_tooLate (σ : Sto) (s t m : Int) (hs : inR s) (ht : inR t) (hm : inR m)  (hW : WOK σ) (hT : TOK σ) (hp : PlOK σ) : MetA mX9_tooLate [ar 153, ai s, ai t, ai m] σ (qQ σ (tooLateF σ s t m)) := by
  have hS := hW.2.1
  have hR := hW.1
  have hl := hp.1
  refine a_entry (by decide) (Nat.le_of_ble_eq_true rfl) ?_
  refine a_aload_n dX9_tooLate_0 rfl rfl ?_
  refine a_iconst dX9_tooLate_1 ?_
  refine a_putI (J := 0) fX9_85 k153 rfl rfl rfl dX9_tooLate_2 ?_
  refine a_aload_n dX9_tooLate_5 rfl rfl ?_
  refine a_iload_n dX9_tooLate_6 rfl rfl ?_
  refine a_iload_n dX9_tooLate_7 rfl rfl ?_
  refine a_iload_n dX9_tooLate_8 rfl rfl ?_
  refine a_cI (c := 153) (as := [ai s, ai t, ai m]) (rest := []) (t_areFit (sN σ 153 0 0) s t m hs ht hm) mvX9_areFit lX9_346 k153 (by decide) rfl rfl rfl rfl (Nat.le_of_ble_eq_true rfl) (Nat.le_of_ble_eq_true rfl) (Nat.le_of_ble_eq_true rfl) dX9_tooLate_9 ?_
  refine a_topI (y := if fit σ s t m then 1 else 0) (by simp only [fit, stp, th155]) ?_
  refine a_ifb_ne (tgt := 17) dX9_tooLate_12 (by decide) (fun c12 => ?_) (fun c12 => ?_)
  · refine a_aload_n dX9_tooLate_17 rfl rfl ?_
    refine a_getI (J := 38) fX9_186 k153 rfl rfl dX9_tooLate_18 ?_
    refine a_topI (y := gN σ 153 38) (Q38 (th_F σ)) ?_
    refine a_if_eq (tgt := 36) dX9_tooLate_21 (by decide) (inR_gN _ _ _) (fun c21 => ?_) (fun c21 => ?_)
    · refine a_bipush (x := (-2)) dX9_tooLate_36 (by decide) ?_
      exact a_iret rfl ⟨by unfold tooLateF; grind, th_F σ, th_T hT⟩ dX9_tooLate_38
    · refine a_aload_n dX9_tooLate_24 rfl rfl ?_
      refine a_iload_n dX9_tooLate_25 rfl rfl ?_
      refine a_iload_n dX9_tooLate_26 rfl rfl ?_
      refine a_iload_n dX9_tooLate_27 rfl rfl ?_
      refine a_iconst dX9_tooLate_28 ?_
      refine a_callI (c := 153) (as := [ai s, ai t, ai m, ai 0]) (rest := []) (t_bk (sN σ 153 0 0) (Q_W (th_F σ) hW) (hp.of (th_F σ)) s t m 0 (by omega) (by omega) (by omega) (by omega) (by omega) (Or.inl rfl) (by rw [Q38 (th_F σ)]; omega)) mvX9_breaks lX9_349 k153 (by decide) rfl rfl rfl rfl (Nat.le_of_ble_eq_true rfl) (Nat.le_of_ble_eq_true rfl) (Nat.le_of_ble_eq_true rfl) dX9_tooLate_29 (fun xr u hu => ?_)
      obtain ⟨hxr, hFb, h39⟩ := hu
      have hFu : Fr pQ σ u := (th_F σ).trans (Bk_Q hFb)
      have hTu : TOK u := fun i q0 q1 => by rw [hFb.1 161 i (by unfold pBk; omega), hFb.1 162 i (by unfold pBk; omega)]; exact th_T hT i q0 q1
      have hWu := Q_W hFu hW
      rw [brk_eq (th_F σ)] at hxr h39
      have hxr : xr = (brk σ s t m 0).1 := by simpa using hxr
      have bR := brkF_rng hp s t m 0 (gN σ 153 38).toNat 0 (by omega) (by omega)
      rw [show brkF σ s t m 0 (gN σ 153 38).toNat 0 = brk σ s t m 0 from rfl] at bR
      refine a_topI (y := (brk σ s t m 0).1) hxr ?_
      refine a_iconst dX9_tooLate_32 ?_
      refine a_icmp_eq (tgt := 39) dX9_tooLate_33 (by decide) (inR_of (by omega) (by omega)) (inR_of (by omega) (by omega)) (fun c33 => ?_) (fun c33 => ?_)
      · refine a_aload_n dX9_tooLate_39 rfl rfl ?_
        refine a_aload_n dX9_tooLate_40 rfl rfl ?_
        refine a_getI (J := 39) fX9_335 k153 rfl rfl dX9_tooLate_41 ?_
        refine a_topI (y := (brk σ s t m 0).2) h39 ?_
        refine a_iload_n dX9_tooLate_44 rfl rfl ?_
        refine a_iload_n dX9_tooLate_45 rfl rfl ?_
        refine a_iconst dX9_tooLate_46 ?_
        refine a_cI (c := 153) (as := [ai ((brk σ s t m 0).2), ai s, ai m, ai 0]) (rest := []) (t_ready u ((brk σ s t m 0).2) s m 0 hWu (hp.of hFu) (by omega) (by rw [Q38 hFu]; omega) (by omega) (by omega) (by omega) (Or.inl rfl)) mvX9_ready lX9_338 k153 (by decide) rfl rfl rfl rfl (Nat.le_of_ble_eq_true rfl) (Nat.le_of_ble_eq_true rfl) (Nat.le_of_ble_eq_true rfl) dX9_tooLate_47 ?_
        refine a_topI (y := rdy σ ((brk σ s t m 0).2) s m 0) (rdy_eq hFu _ _ _ _) ?_
        have rr47 := rdy_rng hW hp (l := ((brk σ s t m 0).2)) (s := s) (m := m) (aT := 0) (by omega) (by omega) (by omega) (by omega) (by omega)
        refine a_istore (ls' := [(4, ai (rdy σ ((brk σ s t m 0).2) s m 0)), (0, ar 153), (1, ai s), (2, ai t), (3, ai m)]) dX9_tooLate_50 (Nat.le_of_ble_eq_true rfl) rfl ?_
        refine a_iload dX9_tooLate_52 rfl ?_
        refine a_ldc (x := 1000000) cX9_175 (by decide) dX9_tooLate_54 ?_
        refine a_icmp_lt (tgt := 64) dX9_tooLate_56 (by decide) (inR_of (by omega) (by omega)) (inR_of (by omega) (by omega)) (fun c56 => ?_) (fun c56 => ?_)
        · refine a_iload dX9_tooLate_64 rfl ?_
          refine a_aload_n dX9_tooLate_66 rfl rfl ?_
          refine a_aload_n dX9_tooLate_67 rfl rfl ?_
          refine a_getI (J := 39) fX9_335 k153 rfl rfl dX9_tooLate_68 ?_
          refine a_topI (y := (brk σ s t m 0).2) h39 ?_
          refine a_iconst dX9_tooLate_71 ?_
          refine a_cI (c := 153) (as := [ai ((brk σ s t m 0).2), ai 0]) (rest := [ai (rdy σ ((brk σ s t m 0).2) s m 0)]) (t_leavesAt u ((brk σ s t m 0).2) 0 hWu (hp.of hFu) (by omega) (by rw [Q38 hFu]; omega) (Or.inl rfl)) mvX9_leavesAt lX9_342 k153 (by decide) rfl rfl rfl rfl (Nat.le_of_ble_eq_true rfl) (Nat.le_of_ble_eq_true rfl) (Nat.le_of_ble_eq_true rfl) dX9_tooLate_72 ?_
          refine a_topI (y := lvA σ ((brk σ s t m 0).2) 0) (lvA_eq hFu _ _) ?_
          have rl72 := lvA_rng hW hp (l := ((brk σ s t m 0).2)) (aT := 0) (by omega) (by omega)
          refine a_isub dX9_tooLate_75 ?_
          exact a_iret rfl ⟨by unfold tooLateF; grind, hFu, hTu⟩ dX9_tooLate_76
        · refine a_bipush (x := (-2)) dX9_tooLate_59 (by decide) ?_
          refine a_goto (tgt := 76) dX9_tooLate_61 (by decide) ?_
          exact a_iret rfl ⟨by unfold tooLateF; grind, hFu, hTu⟩ dX9_tooLate_76
      · refine a_bipush (x := (-2)) dX9_tooLate_36 (by decide) ?_
        exact a_iret rfl ⟨by unfold tooLateF; grind, hFu, hTu⟩ dX9_tooLate_38
  · refine a_iconst dX9_tooLate_15 ?_
    exact a_iret rfl ⟨by unfold tooLateF; grind, th_F σ, th_T hT⟩ dX9_tooLate_16

set_option maxRecDepth 20000 in
theorem t_cause_l (σ u : Sto) (hW : WOK σ) (hp : PlOK σ) (hFu : Fr pQ σ u) (hTu : TOK u) (s t m b V : Int) (h39 : gN u 153 39 = b) : ∀ (n : Nat) (l : Int), -1 ≤ l → l < gN σ 153 38 → n = (l + 1).toNat → V = causeL σ b n l → RunA mX9_cause (qQ σ V) 73 [(4, ai l), (0, ar 153), (1, ai s), (2, ai t), (3, ai m)] [] u := by
  have hR := hW.1
  have hl := hp.1
  intro n
  induction n with
  | zero =>
    intro l h0 h5 hn hE
    refine a_iload dX9_cause_73 rfl ?_
    refine a_if_lt (tgt := 102) dX9_cause_75 (by decide) (inR_of (by omega) (by omega)) (fun c75 => ?_) (fun c75 => ?_)
    · refine a_aload_n dX9_cause_102 rfl rfl ?_
      refine a_getI (J := 39) fX9_335 k153 rfl rfl dX9_cause_103 ?_
      refine a_topI (y := b) h39 ?_
      exact a_iret rfl ⟨by rw [hE]; rfl, hFu, hTu⟩ dX9_cause_106
    · exfalso; omega
  | succ n ih =>
    intro l h0 h5 hn hE
    refine a_iload dX9_cause_73 rfl ?_
    refine a_if_lt (tgt := 102) dX9_cause_75 (by decide) (inR_of (by omega) (by omega)) (fun c75 => ?_) (fun c75 => ?_)
    · exfalso; omega
    · have q := hp.2 l (by omega) (by omega)
      refine a_aload_n dX9_cause_78 rfl rfl ?_
      refine a_getF (d := 158) fX9_26 k153 rfl r153_16 dX9_cause_79 ?_
      refine a_aload_n dX9_cause_82 rfl rfl ?_
      refine a_getF (d := 174) fX9_76 k153 rfl r153_37 dX9_cause_83 ?_
      refine a_iload dX9_cause_86 rfl ?_
      refine a_ild k174 n174 (by omega) (by omega) dX9_cause_88 ?_
      refine a_topI (y := gN σ 174 l) (Q174 hFu _) ?_
      refine a_ild k158 n158 (by omega) (by omega) dX9_cause_89 ?_
      refine a_topI (y := gN σ 158 (gN σ 174 l)) (Q158 hFu _) ?_
      refine a_if_eq (tgt := 96) dX9_cause_90 (by decide) (inR_gN _ _ _) (fun c90 => ?_) (fun c90 => ?_)
      · refine a_iinc (y := l + (-1)) (ls' := [(4, ai (l + (-1))), (0, ar 153), (1, ai s), (2, ai t), (3, ai m)]) dX9_cause_96 rfl rfl (Nat.le_of_ble_eq_true rfl) rfl ?_
        refine a_goto (tgt := 73) dX9_cause_99 (by decide) ?_
        exact a_keep (by simp) (ih (l + (-1)) (by omega) (by omega) (by omega) (by rw [hE]; show (if _ then causeL σ b n (l - 1) else _) = _; rw [if_pos (by assumption)]; rfl))
      · refine a_iload dX9_cause_93 rfl ?_
        exact a_iret rfl ⟨by rw [hE]; show _ = some (ai (if _ then _ else _)); rw [if_neg (by assumption)], hFu, hTu⟩ dX9_cause_95

set_option maxRecDepth 20000 in
theorem t_cause (σ : Sto) (s t m : Int) (hs : inR s) (ht : inR t) (hm : inR m)  (hW : WOK σ) (hT : TOK σ) (hp : PlOK σ) : MetA mX9_cause [ar 153, ai s, ai t, ai m] σ (qQ σ (causeF σ s t m)) := by
  have hS := hW.2.1
  have hR := hW.1
  have hl := hp.1
  refine a_entry (by decide) (Nat.le_of_ble_eq_true rfl) ?_
  refine a_aload_n dX9_cause_0 rfl rfl ?_
  refine a_iconst dX9_cause_1 ?_
  refine a_putI (J := 0) fX9_85 k153 rfl rfl rfl dX9_cause_2 ?_
  refine a_aload_n dX9_cause_5 rfl rfl ?_
  refine a_iload_n dX9_cause_6 rfl rfl ?_
  refine a_iload_n dX9_cause_7 rfl rfl ?_
  refine a_iload_n dX9_cause_8 rfl rfl ?_
  refine a_cI (c := 153) (as := [ai s, ai t, ai m]) (rest := []) (t_areFit (sN σ 153 0 0) s t m hs ht hm) mvX9_areFit lX9_346 k153 (by decide) rfl rfl rfl rfl (Nat.le_of_ble_eq_true rfl) (Nat.le_of_ble_eq_true rfl) (Nat.le_of_ble_eq_true rfl) dX9_cause_9 ?_
  refine a_topI (y := if fit σ s t m then 1 else 0) (by simp only [fit, stp, th155]) ?_
  refine a_ifb_ne (tgt := 17) dX9_cause_12 (by decide) (fun c12 => ?_) (fun c12 => ?_)
  · refine a_aload_n dX9_cause_17 rfl rfl ?_
    refine a_getI (J := 38) fX9_186 k153 rfl rfl dX9_cause_18 ?_
    refine a_topI (y := gN σ 153 38) (Q38 (th_F σ)) ?_
    refine a_if_eq (tgt := 36) dX9_cause_21 (by decide) (inR_gN _ _ _) (fun c21 => ?_) (fun c21 => ?_)
    · refine a_bipush (x := (-2)) dX9_cause_36 (by decide) ?_
      exact a_iret rfl ⟨by unfold causeF; grind, th_F σ, th_T hT⟩ dX9_cause_38
    · refine a_aload_n dX9_cause_24 rfl rfl ?_
      refine a_iload_n dX9_cause_25 rfl rfl ?_
      refine a_iload_n dX9_cause_26 rfl rfl ?_
      refine a_iload_n dX9_cause_27 rfl rfl ?_
      refine a_iconst dX9_cause_28 ?_
      refine a_callI (c := 153) (as := [ai s, ai t, ai m, ai 0]) (rest := []) (t_bk (sN σ 153 0 0) (Q_W (th_F σ) hW) (hp.of (th_F σ)) s t m 0 (by omega) (by omega) (by omega) (by omega) (by omega) (Or.inl rfl) (by rw [Q38 (th_F σ)]; omega)) mvX9_breaks lX9_349 k153 (by decide) rfl rfl rfl rfl (Nat.le_of_ble_eq_true rfl) (Nat.le_of_ble_eq_true rfl) (Nat.le_of_ble_eq_true rfl) dX9_cause_29 (fun xr u hu => ?_)
      obtain ⟨hxr, hFb, h39⟩ := hu
      have hFu : Fr pQ σ u := (th_F σ).trans (Bk_Q hFb)
      have hTu : TOK u := fun i q0 q1 => by rw [hFb.1 161 i (by unfold pBk; omega), hFb.1 162 i (by unfold pBk; omega)]; exact th_T hT i q0 q1
      have hWu := Q_W hFu hW
      rw [brk_eq (th_F σ)] at hxr h39
      have hxr : xr = (brk σ s t m 0).1 := by simpa using hxr
      have bR := brkF_rng hp s t m 0 (gN σ 153 38).toNat 0 (by omega) (by omega)
      rw [show brkF σ s t m 0 (gN σ 153 38).toNat 0 = brk σ s t m 0 from rfl] at bR
      refine a_topI (y := (brk σ s t m 0).1) hxr ?_
      refine a_iconst dX9_cause_32 ?_
      refine a_icmp_eq (tgt := 39) dX9_cause_33 (by decide) (inR_of (by omega) (by omega)) (inR_of (by omega) (by omega)) (fun c33 => ?_) (fun c33 => ?_)
      · refine a_aload_n dX9_cause_39 rfl rfl ?_
        refine a_aload_n dX9_cause_40 rfl rfl ?_
        refine a_getI (J := 39) fX9_335 k153 rfl rfl dX9_cause_41 ?_
        refine a_topI (y := (brk σ s t m 0).2) h39 ?_
        refine a_iload_n dX9_cause_44 rfl rfl ?_
        refine a_iload_n dX9_cause_45 rfl rfl ?_
        refine a_iconst dX9_cause_46 ?_
        refine a_cI (c := 153) (as := [ai ((brk σ s t m 0).2), ai s, ai m, ai 1]) (rest := []) (t_ready u ((brk σ s t m 0).2) s m 1 hWu (hp.of hFu) (by omega) (by rw [Q38 hFu]; omega) (by omega) (by omega) (by omega) (Or.inr rfl)) mvX9_ready lX9_338 k153 (by decide) rfl rfl rfl rfl (Nat.le_of_ble_eq_true rfl) (Nat.le_of_ble_eq_true rfl) (Nat.le_of_ble_eq_true rfl) dX9_cause_47 ?_
        refine a_topI (y := rdy σ ((brk σ s t m 0).2) s m 1) (rdy_eq hFu _ _ _ _) ?_
        have rr47 := rdy_rng hW hp (l := ((brk σ s t m 0).2)) (s := s) (m := m) (aT := 1) (by omega) (by omega) (by omega) (by omega) (by omega)
        refine a_aload_n dX9_cause_50 rfl rfl ?_
        refine a_aload_n dX9_cause_51 rfl rfl ?_
        refine a_getI (J := 39) fX9_335 k153 rfl rfl dX9_cause_52 ?_
        refine a_topI (y := (brk σ s t m 0).2) h39 ?_
        refine a_iconst dX9_cause_55 ?_
        refine a_cI (c := 153) (as := [ai ((brk σ s t m 0).2), ai 1]) (rest := [ai (rdy σ ((brk σ s t m 0).2) s m 1)]) (t_leavesAt u ((brk σ s t m 0).2) 1 hWu (hp.of hFu) (by omega) (by rw [Q38 hFu]; omega) (Or.inr rfl)) mvX9_leavesAt lX9_342 k153 (by decide) rfl rfl rfl rfl (Nat.le_of_ble_eq_true rfl) (Nat.le_of_ble_eq_true rfl) (Nat.le_of_ble_eq_true rfl) dX9_cause_56 ?_
        refine a_topI (y := lvA σ ((brk σ s t m 0).2) 1) (lvA_eq hFu _ _) ?_
        have rl56 := lvA_rng hW hp (l := ((brk σ s t m 0).2)) (aT := 1) (by omega) (by omega)
        refine a_icmp_le (tgt := 65) dX9_cause_59 (by decide) (inR_of (by omega) (by omega)) (inR_of (by omega) (by omega)) (fun c59 => ?_) (fun c59 => ?_)
        · refine a_aload_n dX9_cause_65 rfl rfl ?_
          refine a_getI (J := 39) fX9_335 k153 rfl rfl dX9_cause_66 ?_
          refine a_topI (y := (brk σ s t m 0).2) h39 ?_
          refine a_iconst dX9_cause_69 ?_
          refine a_isub dX9_cause_70 ?_
          refine a_istore (ls' := [(4, ai ((brk σ s t m 0).2 - 1)), (0, ar 153), (1, ai s), (2, ai t), (3, ai m)]) dX9_cause_71 (Nat.le_of_ble_eq_true rfl) rfl ?_
          exact a_keep (by simp) (t_cause_l σ u hW hp hFu hTu s t m (brk σ s t m 0).2 _ h39 (brk σ s t m 0).2.toNat ((brk σ s t m 0).2 - 1) (by omega) (by omega) (by omega) (by unfold causeF; grind))
        · refine a_bipush (x := (-3)) dX9_cause_62 (by decide) ?_
          exact a_iret rfl ⟨by unfold causeF; grind, hFu, hTu⟩ dX9_cause_64
      · refine a_bipush (x := (-2)) dX9_cause_36 (by decide) ?_
        exact a_iret rfl ⟨by unfold causeF; grind, hFu, hTu⟩ dX9_cause_38
  · refine a_iconst dX9_cause_15 ?_
    exact a_iret rfl ⟨by unfold causeF; grind, th_F σ, th_T hT⟩ dX9_cause_16

set_option maxRecDepth 20000 in
theorem t_spare_l (σ u : Sto) (hW : WOK σ) (hp : PlOK σ) (hFu : Fr pQ σ u) (hTu : TOK u) (s t m V : Int) (hs0 : 0 ≤ s) (hs1 : s < 10) (hm : mnt m) : ∀ (n : Nat) (l : Int) (least : Int), 0 ≤ l → l ≤ gN σ 153 38 → n = (gN σ 153 38 - l).toNat → -2000000 ≤ least → least ≤ 1000000 → V = itr (spF σ s m) n l least → RunA mX9_spare (qQ σ V) 45 [(5, ai l), (4, ai least), (0, ar 153), (1, ai s), (2, ai t), (3, ai m)] [] u := by
  have hR := hW.1
  have hl := hp.1
  have hWu := Q_W hFu hW
  intro n
  induction n with
  | zero =>
    intro l least h0 h5 hn hb0 hb1 hE
    refine a_iload dX9_spare_45 rfl ?_
    refine a_aload_n dX9_spare_47 rfl rfl ?_
    refine a_getI (J := 38) fX9_186 k153 rfl rfl dX9_spare_48 ?_
    refine a_topI (y := gN σ 153 38) (Q38 hFu) ?_
    refine a_icmp_ge (tgt := 95) dX9_spare_51 (by decide) (inR_of (by omega) (by omega)) (inR_gN _ _ _) (fun c51 => ?_) (fun c51 => ?_)
    · refine a_iload dX9_spare_95 rfl ?_
      exact a_iret rfl ⟨by rw [hE]; rfl, hFu, hTu⟩ dX9_spare_97
    · exfalso; omega
  | succ n ih =>
    intro l least h0 h5 hn hb0 hb1 hE
    refine a_iload dX9_spare_45 rfl ?_
    refine a_aload_n dX9_spare_47 rfl rfl ?_
    refine a_getI (J := 38) fX9_186 k153 rfl rfl dX9_spare_48 ?_
    refine a_topI (y := gN σ 153 38) (Q38 hFu) ?_
    refine a_icmp_ge (tgt := 95) dX9_spare_51 (by decide) (inR_of (by omega) (by omega)) (inR_gN _ _ _) (fun c51 => ?_) (fun c51 => ?_)
    · exfalso; omega
    · refine a_aload_n dX9_spare_54 rfl rfl ?_
      refine a_iload dX9_spare_55 rfl ?_
      refine a_iconst dX9_spare_57 ?_
      refine a_cI (c := 153) (as := [ai l, ai 0]) (rest := []) (t_leavesAt u l 0 hWu (hp.of hFu) (by omega) (by rw [Q38 hFu]; omega) (Or.inl rfl)) mvX9_leavesAt lX9_342 k153 (by decide) rfl rfl rfl rfl (Nat.le_of_ble_eq_true rfl) (Nat.le_of_ble_eq_true rfl) (Nat.le_of_ble_eq_true rfl) dX9_spare_58 ?_
      refine a_topI (y := lvA σ l 0) (lvA_eq hFu _ _) ?_
      have rl58 := lvA_rng hW hp (l := l) (aT := 0) (by omega) (by omega)
      refine a_aload_n dX9_spare_61 rfl rfl ?_
      refine a_iload dX9_spare_62 rfl ?_
      refine a_iload_n dX9_spare_64 rfl rfl ?_
      refine a_iload_n dX9_spare_65 rfl rfl ?_
      refine a_iconst dX9_spare_66 ?_
      refine a_cI (c := 153) (as := [ai l, ai s, ai m, ai 0]) (rest := [ai (lvA σ l 0)]) (t_ready u l s m 0 hWu (hp.of hFu) (by omega) (by rw [Q38 hFu]; omega) (by omega) (by omega) (by omega) (Or.inl rfl)) mvX9_ready lX9_338 k153 (by decide) rfl rfl rfl rfl (Nat.le_of_ble_eq_true rfl) (Nat.le_of_ble_eq_true rfl) (Nat.le_of_ble_eq_true rfl) dX9_spare_67 ?_
      refine a_topI (y := rdy σ l s m 0) (rdy_eq hFu _ _ _ _) ?_
      have rr67 := rdy_rng hW hp (l := l) (s := s) (m := m) (aT := 0) (by omega) (by omega) (by omega) (by omega) (by omega)
      refine a_isub dX9_spare_70 ?_
      refine a_istore (ls' := [(6, ai (lvA σ l 0 - (rdy σ l s m 0))), (5, ai l), (4, ai least), (0, ar 153), (1, ai s), (2, ai t), (3, ai m)]) dX9_spare_71 (Nat.le_of_ble_eq_true rfl) rfl ?_
      refine a_iload dX9_spare_73 rfl ?_
      refine a_iload dX9_spare_75 rfl ?_
      refine a_icmp_ge (tgt := 85) dX9_spare_77 (by decide) (inR_of (by omega) (by omega)) (inR_of (by omega) (by omega)) (fun c77 => ?_) (fun c77 => ?_)
      · refine a_iload dX9_spare_85 rfl ?_
        refine a_istore (ls' := [(4, ai least), (6, ai (lvA σ l 0 - (rdy σ l s m 0))), (5, ai l), (0, ar 153), (1, ai s), (2, ai t), (3, ai m)]) dX9_spare_87 (Nat.le_of_ble_eq_true rfl) rfl ?_
        refine a_iinc (y := l + 1) (ls' := [(5, ai (l + 1)), (4, ai least), (6, ai (lvA σ l 0 - (rdy σ l s m 0))), (0, ar 153), (1, ai s), (2, ai t), (3, ai m)]) dX9_spare_89 rfl rfl (Nat.le_of_ble_eq_true rfl) rfl ?_
        refine a_goto (tgt := 45) dX9_spare_92 (by decide) ?_
        have e : spF σ s m l least = least := by unfold spF; grind
        exact a_keep (by simp) (ih (l + 1) (least) (by omega) (by omega) (by omega) (by omega) (by omega) (by rw [hE, itr_s, e]))
      · refine a_iload dX9_spare_80 rfl ?_
        refine a_goto (tgt := 87) dX9_spare_82 (by decide) ?_
        refine a_istore (ls' := [(4, ai (lvA σ l 0 - (rdy σ l s m 0))), (6, ai (lvA σ l 0 - (rdy σ l s m 0))), (5, ai l), (0, ar 153), (1, ai s), (2, ai t), (3, ai m)]) dX9_spare_87 (Nat.le_of_ble_eq_true rfl) rfl ?_
        refine a_iinc (y := l + 1) (ls' := [(5, ai (l + 1)), (4, ai (lvA σ l 0 - (rdy σ l s m 0))), (6, ai (lvA σ l 0 - (rdy σ l s m 0))), (0, ar 153), (1, ai s), (2, ai t), (3, ai m)]) dX9_spare_89 rfl rfl (Nat.le_of_ble_eq_true rfl) rfl ?_
        refine a_goto (tgt := 45) dX9_spare_92 (by decide) ?_
        have e : spF σ s m l least = lvA σ l 0 - (rdy σ l s m 0) := by unfold spF; grind
        exact a_keep (by simp) (ih (l + 1) (lvA σ l 0 - (rdy σ l s m 0)) (by omega) (by omega) (by omega) (by omega) (by omega) (by rw [hE, itr_s, e]))

set_option maxRecDepth 20000 in
theorem t_spare (σ : Sto) (s t m : Int) (hs : inR s) (ht : inR t) (hm : inR m)  (hW : WOK σ) (hT : TOK σ) (hp : PlOK σ) : MetA mX9_spare [ar 153, ai s, ai t, ai m] σ (qQ σ (spareF σ s t m)) := by
  have hS := hW.2.1
  have hR := hW.1
  have hl := hp.1
  refine a_entry (by decide) (Nat.le_of_ble_eq_true rfl) ?_
  refine a_aload_n dX9_spare_0 rfl rfl ?_
  refine a_iconst dX9_spare_1 ?_
  refine a_putI (J := 0) fX9_85 k153 rfl rfl rfl dX9_spare_2 ?_
  refine a_aload_n dX9_spare_5 rfl rfl ?_
  refine a_iload_n dX9_spare_6 rfl rfl ?_
  refine a_iload_n dX9_spare_7 rfl rfl ?_
  refine a_iload_n dX9_spare_8 rfl rfl ?_
  refine a_cI (c := 153) (as := [ai s, ai t, ai m]) (rest := []) (t_areFit (sN σ 153 0 0) s t m hs ht hm) mvX9_areFit lX9_346 k153 (by decide) rfl rfl rfl rfl (Nat.le_of_ble_eq_true rfl) (Nat.le_of_ble_eq_true rfl) (Nat.le_of_ble_eq_true rfl) dX9_spare_9 ?_
  refine a_topI (y := if fit σ s t m then 1 else 0) (by simp only [fit, stp, th155]) ?_
  refine a_ifb_ne (tgt := 17) dX9_spare_12 (by decide) (fun c12 => ?_) (fun c12 => ?_)
  · refine a_aload_n dX9_spare_17 rfl rfl ?_
    refine a_getI (J := 38) fX9_186 k153 rfl rfl dX9_spare_18 ?_
    refine a_topI (y := gN σ 153 38) (Q38 (th_F σ)) ?_
    refine a_if_eq (tgt := 35) dX9_spare_21 (by decide) (inR_gN _ _ _) (fun c21 => ?_) (fun c21 => ?_)
    · refine a_bipush (x := (-2)) dX9_spare_35 (by decide) ?_
      exact a_iret rfl ⟨by unfold spareF; grind, th_F σ, th_T hT⟩ dX9_spare_37
    · refine a_aload_n dX9_spare_24 rfl rfl ?_
      refine a_iload_n dX9_spare_25 rfl rfl ?_
      refine a_iload_n dX9_spare_26 rfl rfl ?_
      refine a_iload_n dX9_spare_27 rfl rfl ?_
      refine a_iconst dX9_spare_28 ?_
      refine a_callI (c := 153) (as := [ai s, ai t, ai m, ai 0]) (rest := []) (t_bk (sN σ 153 0 0) (Q_W (th_F σ) hW) (hp.of (th_F σ)) s t m 0 (by omega) (by omega) (by omega) (by omega) (by omega) (Or.inl rfl) (by rw [Q38 (th_F σ)]; omega)) mvX9_breaks lX9_349 k153 (by decide) rfl rfl rfl rfl (Nat.le_of_ble_eq_true rfl) (Nat.le_of_ble_eq_true rfl) (Nat.le_of_ble_eq_true rfl) dX9_spare_29 (fun xr u hu => ?_)
      obtain ⟨hxr, hFb, h39⟩ := hu
      have hFu : Fr pQ σ u := (th_F σ).trans (Bk_Q hFb)
      have hTu : TOK u := fun i q0 q1 => by rw [hFb.1 161 i (by unfold pBk; omega), hFb.1 162 i (by unfold pBk; omega)]; exact th_T hT i q0 q1
      have hWu := Q_W hFu hW
      rw [brk_eq (th_F σ)] at hxr h39
      have hxr : xr = (brk σ s t m 0).1 := by simpa using hxr
      have bR := brkF_rng hp s t m 0 (gN σ 153 38).toNat 0 (by omega) (by omega)
      rw [show brkF σ s t m 0 (gN σ 153 38).toNat 0 = brk σ s t m 0 from rfl] at bR
      refine a_topI (y := (brk σ s t m 0).1) hxr ?_
      refine a_if_eq (tgt := 38) dX9_spare_32 (by decide) (inR_of (by omega) (by omega)) (fun c32 => ?_) (fun c32 => ?_)
      · refine a_ldc (x := 1000000) cX9_175 (by decide) dX9_spare_38 ?_
        refine a_istore (ls' := [(4, ai 1000000), (0, ar 153), (1, ai s), (2, ai t), (3, ai m)]) dX9_spare_40 (Nat.le_of_ble_eq_true rfl) rfl ?_
        refine a_iconst dX9_spare_42 ?_
        refine a_istore (ls' := [(5, ai 0), (4, ai 1000000), (0, ar 153), (1, ai s), (2, ai t), (3, ai m)]) dX9_spare_43 (Nat.le_of_ble_eq_true rfl) rfl ?_
        exact a_keep (by simp) (t_spare_l σ u hW hp hFu hTu s t m _ (by omega) (by omega) (by omega) (gN σ 153 38).toNat 0 1000000 (by omega) (by omega) (by omega) (by omega) (by omega) (by unfold spareF; grind))
      · refine a_bipush (x := (-2)) dX9_spare_35 (by decide) ?_
        exact a_iret rfl ⟨by unfold spareF; grind, hFu, hTu⟩ dX9_spare_37
  · refine a_iconst dX9_spare_15 ?_
    exact a_iret rfl ⟨by unfold spareF; grind, th_F σ, th_T hT⟩ dX9_spare_16

set_option maxRecDepth 20000 in
theorem t_plan (σ : Sto) (on e : Int) (hon : inR on) (he : inR e) (hW : WOK σ) (hp : PlOK σ) : MetA mX9_plan [ar 153, ai on, ai e] σ (fun r u => r = some (ai (planF σ on e)) ∧ u = if 0 < planF σ on e then sN (sN (sN (sN σ 153 0 0) 173 (gN σ 153 38) on) 174 (gN σ 153 38) e) 153 38 (gN σ 153 38 + 1) else sN σ 153 0 0) := by
  have hR := hW.1
  have hl := hp.1
  refine a_entry (by decide) (Nat.le_of_ble_eq_true rfl) ?_
  refine a_aload_n dX9_plan_0 rfl rfl ?_
  refine a_iconst dX9_plan_1 ?_
  refine a_putI (J := 0) fX9_85 k153 rfl rfl rfl dX9_plan_2 ?_
  refine a_aload_n dX9_plan_5 rfl rfl ?_
  refine a_iload_n dX9_plan_6 rfl rfl ?_
  refine a_cI (c := 153) (as := [ai on]) (rest := []) (t_isRide (sN σ 153 0 0) on hon) mvX9_isRide lX9_204 k153 (by decide) rfl rfl rfl rfl (Nat.le_of_ble_eq_true rfl) (Nat.le_of_ble_eq_true rfl) (Nat.le_of_ble_eq_true rfl) dX9_plan_7 ?_
  refine a_topI (y := if rid σ on then 1 else 0) (by simp only [th155]) ?_
  refine a_ifb_eq (tgt := 21) dX9_plan_10 (by decide) (fun c10 => ?_) (fun c10 => ?_)
  · refine a_iconst dX9_plan_21 ?_
    exact a_iret rfl ⟨by unfold planF; grind, by unfold planF; grind⟩ dX9_plan_22
  · refine a_aload_n dX9_plan_13 rfl rfl ?_
    refine a_iload_n dX9_plan_14 rfl rfl ?_
    refine a_cI (c := 153) (as := [ai e]) (rest := []) (t_isRide (sN σ 153 0 0) e he) mvX9_isRide lX9_204 k153 (by decide) rfl rfl rfl rfl (Nat.le_of_ble_eq_true rfl) (Nat.le_of_ble_eq_true rfl) (Nat.le_of_ble_eq_true rfl) dX9_plan_15 ?_
    refine a_topI (y := if rid σ e then 1 else 0) (by simp only [th155]) ?_
    refine a_ifb_ne (tgt := 23) dX9_plan_18 (by decide) (fun c18 => ?_) (fun c18 => ?_)
    · refine a_aload_n dX9_plan_23 rfl rfl ?_
      refine a_iload_n dX9_plan_24 rfl rfl ?_
      refine a_iconst dX9_plan_25 ?_
      refine a_cI (c := 153) (as := [ai on, ai 0]) (rest := []) (t_told (sN σ 153 0 0) on 0 (by omega) (by omega)) mvX9_told lX9_201 k153 (by decide) rfl rfl rfl rfl (Nat.le_of_ble_eq_true rfl) (Nat.le_of_ble_eq_true rfl) (Nat.le_of_ble_eq_true rfl) dX9_plan_26 ?_
      refine a_topI (y := gN σ 155 (115 + 5 * on + 0)) (th155 σ _) ?_
      refine a_aload_n dX9_plan_29 rfl rfl ?_
      refine a_iload_n dX9_plan_30 rfl rfl ?_
      refine a_iconst dX9_plan_31 ?_
      refine a_cI (c := 153) (as := [ai e, ai 0]) (rest := [ai (gN σ 155 (115 + 5 * on + 0))]) (t_told (sN σ 153 0 0) e 0 (by omega) (by omega)) mvX9_told lX9_201 k153 (by decide) rfl rfl rfl rfl (Nat.le_of_ble_eq_true rfl) (Nat.le_of_ble_eq_true rfl) (Nat.le_of_ble_eq_true rfl) dX9_plan_32 ?_
      refine a_topI (y := gN σ 155 (115 + 5 * e + 0)) (th155 σ _) ?_
      refine a_icmp_ne (tgt := 43) dX9_plan_35 (by decide) (inR_gN _ _ _) (inR_gN _ _ _) (fun c35 => ?_) (fun c35 => ?_)
      · refine a_bipush (x := (-2)) dX9_plan_43 (by decide) ?_
        exact a_iret rfl ⟨by unfold planF; grind, by unfold planF; grind⟩ dX9_plan_45
      · refine a_iload_n dX9_plan_38 rfl rfl ?_
        refine a_iload_n dX9_plan_39 rfl rfl ?_
        refine a_icmp_ge (tgt := 46) dX9_plan_40 (by decide) he hon (fun c40 => ?_) (fun c40 => ?_)
        · refine a_aload_n dX9_plan_46 rfl rfl ?_
          refine a_getI (J := 38) fX9_186 k153 rfl rfl dX9_plan_47 ?_
          refine a_topI (y := gN σ 153 38) (by simp [gN_sN]) ?_
          refine a_bipush (x := 6) dX9_plan_50 (by decide) ?_
          refine a_icmp_ne (tgt := 58) dX9_plan_52 (by decide) (inR_gN _ _ _) (inR_of (by omega) (by omega)) (fun c52 => ?_) (fun c52 => ?_)
          · refine a_aload_n dX9_plan_58 rfl rfl ?_
            refine a_getF (d := 173) fX9_73 k153 rfl r153_36 dX9_plan_59 ?_
            refine a_aload_n dX9_plan_62 rfl rfl ?_
            refine a_getI (J := 38) fX9_186 k153 rfl rfl dX9_plan_63 ?_
            refine a_topI (y := gN σ 153 38) (by simp [gN_sN]) ?_
            refine a_iload_n dX9_plan_66 rfl rfl ?_
            refine a_ist k173 n173 (by omega) (by omega) dX9_plan_67 ?_
            refine a_aload_n dX9_plan_68 rfl rfl ?_
            refine a_getF (d := 174) fX9_76 k153 rfl r153_37 dX9_plan_69 ?_
            refine a_aload_n dX9_plan_72 rfl rfl ?_
            refine a_getI (J := 38) fX9_186 k153 rfl rfl dX9_plan_73 ?_
            refine a_topI (y := gN σ 153 38) (by simp [gN_sN]) ?_
            refine a_iload_n dX9_plan_76 rfl rfl ?_
            refine a_ist k174 n174 (by omega) (by omega) dX9_plan_77 ?_
            refine a_aload_n dX9_plan_78 rfl rfl ?_
            refine a_dup dX9_plan_79 rfl ?_
            refine a_getI (J := 38) fX9_186 k153 rfl rfl dX9_plan_80 ?_
            refine a_topI (y := gN σ 153 38) (by simp [gN_sN]) ?_
            refine a_iconst dX9_plan_83 ?_
            refine a_iadd dX9_plan_84 ?_
            refine a_putI (J := 38) fX9_186 k153 rfl rfl rfl dX9_plan_85 ?_
            refine a_aload_n dX9_plan_88 rfl rfl ?_
            refine a_getI (J := 38) fX9_186 k153 rfl rfl dX9_plan_89 ?_
            refine a_topI (y := gN σ 153 38 + 1) (by rw [gN_sN, if_pos ⟨rfl, rfl⟩, nrm_of (inR_of (by omega) (by omega))]) ?_
            exact a_iret rfl ⟨by unfold planF; grind, by unfold planF; grind⟩ dX9_plan_92
          · refine a_bipush (x := (-3)) dX9_plan_55 (by decide) ?_
            exact a_iret rfl ⟨by unfold planF; grind, by unfold planF; grind⟩ dX9_plan_57
        · refine a_bipush (x := (-2)) dX9_plan_43 (by decide) ?_
          exact a_iret rfl ⟨by unfold planF; grind, by unfold planF; grind⟩ dX9_plan_45
    · refine a_iconst dX9_plan_21 ?_
      exact a_iret rfl ⟨by unfold planF; grind, by unfold planF; grind⟩ dX9_plan_22

set_option maxRecDepth 20000 in
theorem t_planAnew (σ : Sto) : MetI mX9_planAnew [ar 153] σ (gN σ 153 38) (sN (sN σ 153 0 0) 153 38 0) := by
  refine a_entry (by decide) (Nat.le_of_ble_eq_true rfl) ?_
  refine a_aload_n dX9_planAnew_0 rfl rfl ?_
  refine a_iconst dX9_planAnew_1 ?_
  refine a_putI (J := 0) fX9_85 k153 rfl rfl rfl dX9_planAnew_2 ?_
  refine a_aload_n dX9_planAnew_5 rfl rfl ?_
  refine a_getI (J := 38) fX9_186 k153 rfl rfl dX9_planAnew_6 ?_
  refine a_topI (y := gN σ 153 38) (by simp [gN_sN]) ?_
  refine a_istore_n (ls' := [(1, ai (gN σ 153 38)), (0, ar 153)]) dX9_planAnew_9 rfl (Nat.le_of_ble_eq_true rfl) rfl ?_
  refine a_aload_n dX9_planAnew_10 rfl rfl ?_
  refine a_iconst dX9_planAnew_11 ?_
  refine a_putI (J := 38) fX9_186 k153 rfl rfl rfl dX9_planAnew_12 ?_
  refine a_iload_n dX9_planAnew_15 rfl rfl ?_
  exact a_iret rfl ⟨rfl, rfl⟩ dX9_planAnew_16

