set_option maxRecDepth 20000 in
theorem t_unf_1 (σ : Sto) (hW : WOK σ) (hT : TOK σ) (s t a : Int) (L : List Cd) (hC : CdIs σ L) (hL : (L.length : Int) ≤ 300) (hok : ∀ x ∈ L, cdOK x) (ha0 : 0 ≤ a) (ha1 : a < L.length) (hs0 : 0 ≤ s) (hs1 : s < 10) (ht0 : 0 ≤ t) (ht1 : t < 10) (P : List (Int × Int)) (τ : Sto) (hF : Fr pUn σ τ) (hMe : MeA σ τ t (cd L a).2.1) (n0 : Nat) (hn0 : n0 ≤ 4) : ∀ (n : Nat) (on : Int), 0 ≤ on → on ≤ 60 → n = (gN σ 155 3 - on).toNat → ∀ x : Int, on ≤ x → x < gN σ 155 3 → (fun k => decide (lfF σ s k = (cd L a).1) && mtB σ t (cd L a).2.1 n0 k) x = true → RunA mX9_unfolds (fun r v => r = none ∧ Fr pUn σ v ∧ RoIs v P) 60 [(5, ai (fs2 (fun k => decide (lfF σ s k = (cd L a).1) && mtB σ t (cd L a).2.1 n0 k) (-1) n on)), (4, ai (n0 : Int)), (0, ar 153), (1, ai s), (2, ai t), (3, ai a)] [] τ → RunA mX9_unfolds (fun r v => r = none ∧ Fr pUn σ v ∧ RoIs v P) 22 [(5, ai on), (4, ai (n0 : Int)), (0, ar 153), (1, ai s), (2, ai t), (3, ai a)] [] τ := by
  have hR := hW.1
  have bc : cdOK (cd L a) := cd_ok hok ha0 ha1
  unfold cdOK at bc
  intro n
  induction n with
  | zero =>
    intro on h0 h60 hn x h1 hx2 hx1 hx
    exfalso; omega
  | succ n ih =>
    intro on h0 h60 hn x h1 hx2 hx1 hx
    have ec := (pUn_Cd hF hC).at ha0 ha1
    have rl := lfF_rng hW hT hs0 hs1 (i := on) (by omega) (by omega)
    refine a_aload_n dX9_unfolds_22 rfl rfl ?_
    refine a_iload_n dX9_unfolds_23 rfl rfl ?_
    refine a_iload dX9_unfolds_24 rfl ?_
    refine a_cI (c := 153) (as := [ai s, ai on]) (rest := []) (t_leavesFrom τ s on ((pUn_Rd hF).W hW) (by omega) (by omega) (by omega) (by omega)) mvX9_leavesFrom lX9_257 k153 (by decide) rfl rfl rfl rfl (Nat.le_of_ble_eq_true rfl) (Nat.le_of_ble_eq_true rfl) (Nat.le_of_ble_eq_true rfl) dX9_unfolds_26 ?_
    refine a_topI (y := lfF σ s on) ((pUn_Rd hF).lf _ _) ?_
    refine a_aload_n dX9_unfolds_29 rfl rfl ?_
    refine a_getF (d := 164) fX9_45 k153 rfl r153_25 dX9_unfolds_30 ?_
    refine a_iload_n dX9_unfolds_33 rfl rfl ?_
    refine a_ild k164 n164 (by omega) (by omega) dX9_unfolds_34 ?_
    refine a_topI (y := (cd L a).1) ec.1 ?_
    refine a_icmp_ne (tgt := 54) dX9_unfolds_35 (by decide) (inR_of (by omega) (by omega)) (inR_of (by omega) (by omega)) (fun c35 => ?_) (fun c35 => ?_)
    · refine a_iinc (y := on + 1) (ls' := [(5, ai (on + 1)), (4, ai (n0 : Int)), (0, ar 153), (1, ai s), (2, ai t), (3, ai a)]) dX9_unfolds_54 rfl rfl (Nat.le_of_ble_eq_true rfl) rfl ?_
      refine a_goto (tgt := 22) dX9_unfolds_57 (by decide) ?_
      have hp : (fun k => decide (lfF σ s k = (cd L a).1) && mtB σ t (cd L a).2.1 n0 k) on = false := by grind [b2i]
      rw [fs2_no hp] at hx
      exact a_keep (by simp) (ih (on + 1) (by omega) (by omega) (by omega) x (lt_of_no (p := (fun k => decide (lfF σ s k = (cd L a).1) && mtB σ t (cd L a).2.1 n0 k)) hp hx1 h1) hx2 hx1 hx)
    · refine a_aload_n dX9_unfolds_38 rfl rfl ?_
      refine a_getF (d := 168) fX9_57 k153 rfl r153_31 dX9_unfolds_39 ?_
      refine a_bipush (x := 60) dX9_unfolds_42 (by decide) ?_
      refine a_iload dX9_unfolds_44 rfl ?_
      refine a_imul dX9_unfolds_46 ?_
      refine a_iload dX9_unfolds_47 rfl ?_
      refine a_iadd dX9_unfolds_49 ?_
      refine a_zld k168 n168 (by omega) (by omega) dX9_unfolds_50 ?_
      refine a_topI (y := b2i (mtB σ t (cd L a).2.1 n0 on)) (hMe n0 on (by omega) (by omega) (by omega)).2 ?_
      refine a_if_ne (tgt := 60) dX9_unfolds_51 (by decide) (by rcases b2i_c (mtB σ t (cd L a).2.1 n0 on) with q | q <;> (rw [show b2i (mtB σ t (cd L a).2.1 n0 on) = _ from q]; unfold inR; omega)) (fun c51 => ?_) (fun c51 => ?_)
      · have hp : (fun k => decide (lfF σ s k = (cd L a).1) && mtB σ t (cd L a).2.1 n0 k) on = true := by grind [b2i]
        rw [fs2_yes hp] at hx
        exact a_keep (by simp) hx
      · refine a_iinc (y := on + 1) (ls' := [(5, ai (on + 1)), (4, ai (n0 : Int)), (0, ar 153), (1, ai s), (2, ai t), (3, ai a)]) dX9_unfolds_54 rfl rfl (Nat.le_of_ble_eq_true rfl) rfl ?_
        refine a_goto (tgt := 22) dX9_unfolds_57 (by decide) ?_
        have hp : (fun k => decide (lfF σ s k = (cd L a).1) && mtB σ t (cd L a).2.1 n0 k) on = false := by grind [b2i]
        rw [fs2_no hp] at hx
        exact a_keep (by simp) (ih (on + 1) (by omega) (by omega) (by omega) x (lt_of_no (p := (fun k => decide (lfF σ s k = (cd L a).1) && mtB σ t (cd L a).2.1 n0 k)) hp hx1 h1) hx2 hx1 hx)

set_option maxRecDepth 20000 in
theorem t_unf_2 (σ : Sto) (hW : WOK σ) (hT : TOK σ) (s t a : Int) (L : List Cd) (hC : CdIs σ L) (hL : (L.length : Int) ≤ 300) (hok : ∀ x ∈ L, cdOK x) (ha0 : 0 ≤ a) (ha1 : a < L.length) (hs0 : 0 ≤ s) (hs1 : s < 10) (ht0 : 0 ≤ t) (ht1 : t < 10) (P : List (Int × Int)) (τ : Sto) (hF : Fr pUn σ τ) (hMe : MeA σ τ t (cd L a).2.1) (n0 : Nat) (hn0 : n0 ≤ 4) (l on : Int) : ∀ (n : Nat) (e : Int), 0 ≤ e → e ≤ 60 → n = (gN σ 155 3 - e).toNat → ∀ x : Int, e ≤ x → x < gN σ 155 3 → (enF σ t (cd L a).2.1 n0) x = true → RunA mX9_unfolds (fun r v => r = none ∧ Fr pUn σ v ∧ RoIs v P) 100 [(7, ai (fs2 (enF σ t (cd L a).2.1 n0) (-1) n e)), (6, ai l), (5, ai on), (4, ai (n0 : Int)), (0, ar 153), (1, ai s), (2, ai t), (3, ai a)] [] τ → RunA mX9_unfolds (fun r v => r = none ∧ Fr pUn σ v ∧ RoIs v P) 78 [(7, ai e), (6, ai l), (5, ai on), (4, ai (n0 : Int)), (0, ar 153), (1, ai s), (2, ai t), (3, ai a)] [] τ := by
  have hR := hW.1
  have bc : cdOK (cd L a) := cd_ok hok ha0 ha1
  unfold cdOK at bc
  intro n
  induction n with
  | zero =>
    intro e h0 h60 hn x h1 hx2 hx1 hx
    exfalso; omega
  | succ n ih =>
    intro e h0 h60 hn x h1 hx2 hx1 hx
    refine a_aload_n dX9_unfolds_78 rfl rfl ?_
    refine a_getF (d := 169) fX9_61 k153 rfl r153_32 dX9_unfolds_79 ?_
    refine a_bipush (x := 60) dX9_unfolds_82 (by decide) ?_
    refine a_iload dX9_unfolds_84 rfl ?_
    refine a_imul dX9_unfolds_86 ?_
    refine a_iload dX9_unfolds_87 rfl ?_
    refine a_iadd dX9_unfolds_89 ?_
    refine a_zld k169 n169 (by omega) (by omega) dX9_unfolds_90 ?_
    refine a_topI (y := b2i (enF σ t (cd L a).2.1 n0 e)) (hMe n0 e (by omega) (by omega) (by omega)).1 ?_
    refine a_if_ne (tgt := 100) dX9_unfolds_91 (by decide) (by rcases b2i_c (enF σ t (cd L a).2.1 n0 e) with q | q <;> (rw [show b2i (enF σ t (cd L a).2.1 n0 e) = _ from q]; unfold inR; omega)) (fun c91 => ?_) (fun c91 => ?_)
    · have hp : (enF σ t (cd L a).2.1 n0) e = true := by grind [b2i]
      rw [fs2_yes hp] at hx
      exact a_keep (by simp) hx
    · refine a_iinc (y := e + 1) (ls' := [(7, ai (e + 1)), (6, ai l), (5, ai on), (4, ai (n0 : Int)), (0, ar 153), (1, ai s), (2, ai t), (3, ai a)]) dX9_unfolds_94 rfl rfl (Nat.le_of_ble_eq_true rfl) rfl ?_
      refine a_goto (tgt := 78) dX9_unfolds_97 (by decide) ?_
      have hp : (enF σ t (cd L a).2.1 n0) e = false := by grind [b2i]
      rw [fs2_no hp] at hx
      exact a_keep (by simp) (ih (e + 1) (by omega) (by omega) (by omega) x (lt_of_no (p := (enF σ t (cd L a).2.1 n0)) hp hx1 h1) hx2 hx1 hx)

set_option maxRecDepth 20000 in
theorem t_unf_3 (σ : Sto) (hW : WOK σ) (hT : TOK σ) (s t a : Int) (L : List Cd) (hC : CdIs σ L) (hL : (L.length : Int) ≤ 300) (hok : ∀ x ∈ L, cdOK x) (ha0 : 0 ≤ a) (ha1 : a < L.length) (hs0 : 0 ≤ s) (hs1 : s < 10) (ht0 : 0 ≤ t) (ht1 : t < 10) (P : List (Int × Int)) (τ : Sto) (hF : Fr pUn σ τ) (hMe : MeA σ τ t (cd L a).2.1) (n0 : Nat) (hn0 : n0 ≤ 4) (e l : Int) (he0 : 0 ≤ e) (he1 : e < gN σ 155 3) : ∀ (n : Nat) (on : Int), 0 ≤ on → on ≤ 60 → n = (gN σ 155 3 - on).toNat → ∀ x : Int, on ≤ x → x < gN σ 155 3 → (fun k => lkB σ e k && mtB σ t (cd L a).2.1 n0 k) x = true → RunA mX9_unfolds (fun r v => r = none ∧ Fr pUn σ v ∧ RoIs v P) 168 [(5, ai (fs2 (fun k => lkB σ e k && mtB σ t (cd L a).2.1 n0 k) (-1) n on)), (4, ai (n0 : Int)), (6, ai l), (0, ar 153), (1, ai s), (2, ai t), (3, ai a)] [] τ → RunA mX9_unfolds (fun r v => r = none ∧ Fr pUn σ v ∧ RoIs v P) 124 [(5, ai on), (4, ai (n0 : Int)), (7, ai e), (6, ai l), (0, ar 153), (1, ai s), (2, ai t), (3, ai a)] [] τ := by
  have hR := hW.1
  have bc : cdOK (cd L a) := cd_ok hok ha0 ha1
  unfold cdOK at bc
  intro n
  induction n with
  | zero =>
    intro on h0 h60 hn x h1 hx2 hx1 hx
    exfalso; omega
  | succ n ih =>
    intro on h0 h60 hn x h1 hx2 hx1 hx
    refine a_iload dX9_unfolds_124 rfl ?_
    refine a_if_lt (tgt := 168) dX9_unfolds_126 (by decide) (inR_of (by omega) (by omega)) (fun c126 => ?_) (fun c126 => ?_)
    · exfalso; omega
    · refine a_aload_n dX9_unfolds_129 rfl rfl ?_
      refine a_getF (d := 163) fX9_42 k153 rfl r153_24 dX9_unfolds_130 ?_
      refine a_iload dX9_unfolds_133 rfl ?_
      refine a_lld k163 n163 (by omega) (by omega) dX9_unfolds_135 ?_
      refine a_topL (y := gL σ 163 e) ((pUn_Rd hF).2.2.2.2.1 e) ?_
      refine a_iload dX9_unfolds_136 rfl ?_
      refine a_lshr dX9_unfolds_138 ?_
      refine a_lconst (v := 1) dX9_unfolds_139 rfl ?_
      refine a_land dX9_unfolds_140 ?_
      refine a_lconst (v := 0) dX9_unfolds_141 rfl ?_
      refine a_lcmp_eq (tgt := 162) dX9_unfolds_142 dX9_unfolds_143 (by decide) (fun c142 => ?_) (fun c142 => ?_)
      · refine a_iinc (y := on + 1) (ls' := [(5, ai (on + 1)), (4, ai (n0 : Int)), (7, ai e), (6, ai l), (0, ar 153), (1, ai s), (2, ai t), (3, ai a)]) dX9_unfolds_162 rfl rfl (Nat.le_of_ble_eq_true rfl) rfl ?_
        refine a_goto (tgt := 124) dX9_unfolds_165 (by decide) ?_
        have hp : (fun k => lkB σ e k && mtB σ t (cd L a).2.1 n0 k) on = false := by have z1 := bt_one (x := gL σ 163 e) (i := on) (by omega) (by omega); have z0 := bt_zero (x := gL σ 163 e) (i := on) (by omega) (by omega); grind [b2i, lkB]
        rw [fs2_no hp] at hx
        exact a_keep (by simp) (ih (on + 1) (by omega) (by omega) (by omega) x (lt_of_no (p := (fun k => lkB σ e k && mtB σ t (cd L a).2.1 n0 k)) hp hx1 h1) hx2 hx1 hx)
      · refine a_aload_n dX9_unfolds_146 rfl rfl ?_
        refine a_getF (d := 168) fX9_57 k153 rfl r153_31 dX9_unfolds_147 ?_
        refine a_bipush (x := 60) dX9_unfolds_150 (by decide) ?_
        refine a_iload dX9_unfolds_152 rfl ?_
        refine a_imul dX9_unfolds_154 ?_
        refine a_iload dX9_unfolds_155 rfl ?_
        refine a_iadd dX9_unfolds_157 ?_
        refine a_zld k168 n168 (by omega) (by omega) dX9_unfolds_158 ?_
        refine a_topI (y := b2i (mtB σ t (cd L a).2.1 n0 on)) (hMe n0 on (by omega) (by omega) (by omega)).2 ?_
        refine a_if_ne (tgt := 168) dX9_unfolds_159 (by decide) (by rcases b2i_c (mtB σ t (cd L a).2.1 n0 on) with q | q <;> (rw [show b2i (mtB σ t (cd L a).2.1 n0 on) = _ from q]; unfold inR; omega)) (fun c159 => ?_) (fun c159 => ?_)
        · have hp : (fun k => lkB σ e k && mtB σ t (cd L a).2.1 n0 k) on = true := by have z1 := bt_one (x := gL σ 163 e) (i := on) (by omega) (by omega); have z0 := bt_zero (x := gL σ 163 e) (i := on) (by omega) (by omega); grind [b2i, lkB]
          rw [fs2_yes hp] at hx
          exact a_keep (by simp) hx
        · refine a_iinc (y := on + 1) (ls' := [(5, ai (on + 1)), (4, ai (n0 : Int)), (7, ai e), (6, ai l), (0, ar 153), (1, ai s), (2, ai t), (3, ai a)]) dX9_unfolds_162 rfl rfl (Nat.le_of_ble_eq_true rfl) rfl ?_
          refine a_goto (tgt := 124) dX9_unfolds_165 (by decide) ?_
          have hp : (fun k => lkB σ e k && mtB σ t (cd L a).2.1 n0 k) on = false := by have z1 := bt_one (x := gL σ 163 e) (i := on) (by omega) (by omega); have z0 := bt_zero (x := gL σ 163 e) (i := on) (by omega) (by omega); grind [b2i, lkB]
          rw [fs2_no hp] at hx
          exact a_keep (by simp) (ih (on + 1) (by omega) (by omega) (by omega) x (lt_of_no (p := (fun k => lkB σ e k && mtB σ t (cd L a).2.1 n0 k)) hp hx1 h1) hx2 hx1 hx)

set_option maxRecDepth 20000 in
theorem t_unf_l (σ : Sto) (hW : WOK σ) (hT : TOK σ) (s t a : Int) (L : List Cd) (hC : CdIs σ L) (hL : (L.length : Int) ≤ 300) (hok : ∀ x ∈ L, cdOK x) (ha0 : 0 ≤ a) (ha1 : a < L.length) (hs0 : 0 ≤ s) (hs1 : s < 10) (ht0 : 0 ≤ t) (ht1 : t < 10) (P : List (Int × Int)) (hx : ∀ (τ : Sto) (D : List (Int × Int)), Fr pUn σ τ → RoIs τ D → P = D → (D.length : Int) = (cd L a).2.2 + 1 → RunA mX9_unfolds (fun r v => r = none ∧ Fr pUn σ v ∧ RoIs v P) 63 [(6, ai (D.length : Int)), (3, ai a), (0, ar 153)] [] τ) : ∀ (n : Nat) (on : Int) (τ : Sto) (D : List (Int × Int)), (cd L a).2.2 = (D.length : Int) + n → n ≤ 4 → 0 ≤ on → on < gN σ 155 3 → mtB σ t (cd L a).2.1 n on = true → Fr pUn σ τ → MeA σ τ t (cd L a).2.1 → RoIs τ D → P = D ++ legsF σ t (cd L a).2.1 n on → RunA mX9_unfolds (fun r v => r = none ∧ Fr pUn σ v ∧ RoIs v P) 63 [(6, ai (D.length : Int)), (5, ai on), (4, ai (n : Int)), (0, ar 153), (1, ai s), (2, ai t), (3, ai a)] [] τ := by
  have hR := hW.1
  have bc : cdOK (cd L a) := cd_ok hok ha0 ha1
  unfold cdOK at bc
  intro n
  induction n with
  | zero =>
    intro on τ D hl hn4 h0 h1 hM hF hMe hD hP
    have ec := (pUn_Cd hF hC).at ha0 ha1
    refine a_iload dX9_unfolds_63 rfl ?_
    refine a_aload_n dX9_unfolds_65 rfl rfl ?_
    refine a_getF (d := 166) fX9_51 k153 rfl r153_27 dX9_unfolds_66 ?_
    refine a_iload_n dX9_unfolds_69 rfl rfl ?_
    refine a_ild k166 n166 (by omega) (by omega) dX9_unfolds_70 ?_
    refine a_topI (y := (cd L a).2.2) ec.2.2 ?_
    refine a_icmp_gt (tgt := 174) dX9_unfolds_71 (by decide) (inR_of (by omega) (by omega)) (inR_of (by omega) (by omega)) (fun c71 => ?_) (fun c71 => ?_)
    · exfalso; omega
    · refine a_iload dX9_unfolds_74 rfl ?_
      refine a_istore (ls' := [(7, ai on), (6, ai (D.length : Int)), (5, ai on), (4, ai ((0 : Nat) : Int)), (0, ar 153), (1, ai s), (2, ai t), (3, ai a)]) dX9_unfolds_76 (Nat.le_of_ble_eq_true rfl) rfl ?_
      have ho := offF_ok (by omega) hM
      refine a_keep (ls' := [(7, ai on), (6, ai (D.length : Int)), (5, ai on), (4, ai ((0 : Nat) : Int)), (0, ar 153), (1, ai s), (2, ai t), (3, ai a)]) (by simp) ?_
      refine t_unf_2 σ hW hT s t a L hC hL hok ha0 ha1 hs0 hs1 ht0 ht1 P τ hF hMe 0 (by omega) (D.length : Int) on (gN σ 155 3 - on).toNat on (by omega) (by omega) (by omega) _ ho.1 ho.2.1 ho.2.2 ?_
      refine a_keep (ls' := [(7, ai (offF σ t (cd L a).2.1 0 on)), (6, ai (D.length : Int)), (5, ai on), (4, ai ((0 : Nat) : Int)), (0, ar 153), (1, ai s), (2, ai t), (3, ai a)]) (by unfold offF; simp) ?_
      refine a_aload_n dX9_unfolds_100 rfl rfl ?_
      refine a_getF (d := 170) fX9_64 k153 rfl r153_33 dX9_unfolds_101 ?_
      refine a_iload dX9_unfolds_104 rfl ?_
      refine a_iload dX9_unfolds_106 rfl ?_
      refine a_ist k170 n170 (by omega) (by omega) dX9_unfolds_108 ?_
      refine a_aload_n dX9_unfolds_109 rfl rfl ?_
      refine a_getF (d := 171) fX9_67 k153 rfl r153_34 dX9_unfolds_110 ?_
      refine a_iload dX9_unfolds_113 rfl ?_
      refine a_iload dX9_unfolds_115 rfl ?_
      refine a_ist k171 n171 (by omega) (by omega) dX9_unfolds_117 ?_
      refine a_iinc (y := ((0 : Nat) : Int) + (-1)) (ls' := [(4, ai (((0 : Nat) : Int) + (-1))), (7, ai (offF σ t (cd L a).2.1 0 on)), (6, ai (D.length : Int)), (5, ai on), (0, ar 153), (1, ai s), (2, ai t), (3, ai a)]) dX9_unfolds_118 rfl rfl (Nat.le_of_ble_eq_true rfl) rfl ?_
      refine a_iconst dX9_unfolds_121 ?_
      refine a_istore (ls' := [(5, ai 0), (4, ai (((0 : Nat) : Int) + (-1))), (7, ai (offF σ t (cd L a).2.1 0 on)), (6, ai (D.length : Int)), (0, ar 153), (1, ai s), (2, ai t), (3, ai a)]) dX9_unfolds_122 (Nat.le_of_ble_eq_true rfl) rfl ?_
      have hF2 : Fr pUn σ (sN (sN τ 170 (D.length : Int) on) 171 (D.length : Int) (offF σ t (cd L a).2.1 0 on)) := (hF.sN (by unfold pUn; omega)).sN (by unfold pUn; omega)
      have hMe2 : MeA σ (sN (sN τ 170 (D.length : Int) on) 171 (D.length : Int) (offF σ t (cd L a).2.1 0 on)) t (cd L a).2.1 := (hMe.put (Or.inl rfl)).put (Or.inr rfl)
      have hD2 := hD.push (x := on) (y := (offF σ t (cd L a).2.1 0 on)) (inR_of (by omega) (by omega)) (inR_of (by omega) (by omega))
      refine a_iload dX9_unfolds_124 rfl ?_
      refine a_if_lt (tgt := 168) dX9_unfolds_126 (by decide) (inR_of (by omega) (by omega)) (fun c126 => ?_) (fun c126 => ?_)
      · refine a_iinc (y := (D.length : Int) + 1) (ls' := [(6, ai ((D.length : Int) + 1)), (5, ai 0), (4, ai (((0 : Nat) : Int) + (-1))), (7, ai (offF σ t (cd L a).2.1 0 on)), (0, ar 153), (1, ai s), (2, ai t), (3, ai a)]) dX9_unfolds_168 rfl rfl (Nat.le_of_ble_eq_true rfl) rfl ?_
        refine a_goto (tgt := 63) dX9_unfolds_171 (by decide) ?_
        refine a_keep (ls' := [(6, ai (((D ++ [(on, (offF σ t (cd L a).2.1 0 on))]).length : Nat) : Int)), (3, ai a), (0, ar 153)]) (by simp) ?_
        exact hx _ _ hF2 hD2 (by rw [hP]; rfl) (by simp; omega)
      · exact absurd c126 (by omega)
  | succ n ih =>
    intro on τ D hl hn4 h0 h1 hM hF hMe hD hP
    have ec := (pUn_Cd hF hC).at ha0 ha1
    refine a_iload dX9_unfolds_63 rfl ?_
    refine a_aload_n dX9_unfolds_65 rfl rfl ?_
    refine a_getF (d := 166) fX9_51 k153 rfl r153_27 dX9_unfolds_66 ?_
    refine a_iload_n dX9_unfolds_69 rfl rfl ?_
    refine a_ild k166 n166 (by omega) (by omega) dX9_unfolds_70 ?_
    refine a_topI (y := (cd L a).2.2) ec.2.2 ?_
    refine a_icmp_gt (tgt := 174) dX9_unfolds_71 (by decide) (inR_of (by omega) (by omega)) (inR_of (by omega) (by omega)) (fun c71 => ?_) (fun c71 => ?_)
    · exfalso; omega
    · refine a_iload dX9_unfolds_74 rfl ?_
      refine a_istore (ls' := [(7, ai on), (6, ai (D.length : Int)), (5, ai on), (4, ai ((n + 1 : Nat) : Int)), (0, ar 153), (1, ai s), (2, ai t), (3, ai a)]) dX9_unfolds_76 (Nat.le_of_ble_eq_true rfl) rfl ?_
      have ho := offF_ok (by omega) hM
      refine a_keep (ls' := [(7, ai on), (6, ai (D.length : Int)), (5, ai on), (4, ai (((n + 1) : Nat) : Int)), (0, ar 153), (1, ai s), (2, ai t), (3, ai a)]) (by simp) ?_
      refine t_unf_2 σ hW hT s t a L hC hL hok ha0 ha1 hs0 hs1 ht0 ht1 P τ hF hMe (n + 1) (by omega) (D.length : Int) on (gN σ 155 3 - on).toNat on (by omega) (by omega) (by omega) _ ho.1 ho.2.1 ho.2.2 ?_
      refine a_keep (ls' := [(7, ai (offF σ t (cd L a).2.1 (n + 1) on)), (6, ai (D.length : Int)), (5, ai on), (4, ai (((n + 1) : Nat) : Int)), (0, ar 153), (1, ai s), (2, ai t), (3, ai a)]) (by unfold offF; simp) ?_
      refine a_aload_n dX9_unfolds_100 rfl rfl ?_
      refine a_getF (d := 170) fX9_64 k153 rfl r153_33 dX9_unfolds_101 ?_
      refine a_iload dX9_unfolds_104 rfl ?_
      refine a_iload dX9_unfolds_106 rfl ?_
      refine a_ist k170 n170 (by omega) (by omega) dX9_unfolds_108 ?_
      refine a_aload_n dX9_unfolds_109 rfl rfl ?_
      refine a_getF (d := 171) fX9_67 k153 rfl r153_34 dX9_unfolds_110 ?_
      refine a_iload dX9_unfolds_113 rfl ?_
      refine a_iload dX9_unfolds_115 rfl ?_
      refine a_ist k171 n171 (by omega) (by omega) dX9_unfolds_117 ?_
      refine a_iinc (y := (((n + 1) : Nat) : Int) + (-1)) (ls' := [(4, ai ((((n + 1) : Nat) : Int) + (-1))), (7, ai (offF σ t (cd L a).2.1 (n + 1) on)), (6, ai (D.length : Int)), (5, ai on), (0, ar 153), (1, ai s), (2, ai t), (3, ai a)]) dX9_unfolds_118 rfl rfl (Nat.le_of_ble_eq_true rfl) rfl ?_
      refine a_iconst dX9_unfolds_121 ?_
      refine a_istore (ls' := [(5, ai 0), (4, ai ((((n + 1) : Nat) : Int) + (-1))), (7, ai (offF σ t (cd L a).2.1 (n + 1) on)), (6, ai (D.length : Int)), (0, ar 153), (1, ai s), (2, ai t), (3, ai a)]) dX9_unfolds_122 (Nat.le_of_ble_eq_true rfl) rfl ?_
      have hF2 : Fr pUn σ (sN (sN τ 170 (D.length : Int) on) 171 (D.length : Int) (offF σ t (cd L a).2.1 (n + 1) on)) := (hF.sN (by unfold pUn; omega)).sN (by unfold pUn; omega)
      have hMe2 : MeA σ (sN (sN τ 170 (D.length : Int) on) 171 (D.length : Int) (offF σ t (cd L a).2.1 (n + 1) on)) t (cd L a).2.1 := (hMe.put (Or.inl rfl)).put (Or.inr rfl)
      have hD2 := hD.push (x := on) (y := (offF σ t (cd L a).2.1 (n + 1) on)) (inR_of (by omega) (by omega)) (inR_of (by omega) (by omega))
      have hn := onF_ok ho.2.2
      refine a_keep (ls' := [(5, ai 0), (4, ai ((n : Nat) : Int)), (7, ai (offF σ t (cd L a).2.1 (n + 1) on)), (6, ai (D.length : Int)), (0, ar 153), (1, ai s), (2, ai t), (3, ai a)]) (by simp; omega) ?_
      refine t_unf_3 σ hW hT s t a L hC hL hok ha0 ha1 hs0 hs1 ht0 ht1 P _ hF2 hMe2 n (by omega) (offF σ t (cd L a).2.1 (n + 1) on) (D.length : Int) (by omega) ho.2.1 (gN σ 155 3).toNat 0 (by omega) (by omega) (by omega) (onF σ t (cd L a).2.1 n (offF σ t (cd L a).2.1 (n + 1) on)) hn.1 hn.2.1 (Bool.and_eq_true_iff.mpr ⟨hn.2.2.1, hn.2.2.2⟩) ?_
      refine a_keep (ls' := [(5, ai (onF σ t (cd L a).2.1 n (offF σ t (cd L a).2.1 (n + 1) on))), (4, ai ((n : Nat) : Int)), (6, ai (D.length : Int)), (0, ar 153), (1, ai s), (2, ai t), (3, ai a)]) (by unfold onF; simp) ?_
      refine a_iinc (y := (D.length : Int) + 1) (ls' := [(6, ai ((D.length : Int) + 1)), (5, ai (onF σ t (cd L a).2.1 n (offF σ t (cd L a).2.1 (n + 1) on))), (4, ai ((n : Nat) : Int)), (0, ar 153), (1, ai s), (2, ai t), (3, ai a)]) dX9_unfolds_168 rfl rfl (Nat.le_of_ble_eq_true rfl) rfl ?_
      refine a_goto (tgt := 63) dX9_unfolds_171 (by decide) ?_
      refine a_keep (ls' := [(6, ai (((D ++ [(on, (offF σ t (cd L a).2.1 (n + 1) on))]).length : Nat) : Int)), (5, ai (onF σ t (cd L a).2.1 n (offF σ t (cd L a).2.1 (n + 1) on))), (4, ai ((n : Nat) : Int)), (0, ar 153), (1, ai s), (2, ai t), (3, ai a)]) (by simp) ?_
      exact ih (onF σ t (cd L a).2.1 n (offF σ t (cd L a).2.1 (n + 1) on)) (sN (sN τ 170 (D.length : Int) on) 171 (D.length : Int) (offF σ t (cd L a).2.1 (n + 1) on)) (D ++ [(on, (offF σ t (cd L a).2.1 (n + 1) on))]) (by simp; omega) (by omega) hn.1 hn.2.1 hn.2.2.2 hF2 hMe2 hD2 (by rw [hP, List.append_assoc]; rfl)

set_option maxRecDepth 20000 in
theorem t_unfolds (σ : Sto) (hW : WOK σ) (hT : TOK σ) (s t a : Int) (L : List Cd) (hC : CdIs σ L) (hL : (L.length : Int) ≤ 300) (hok : ∀ x ∈ L, cdOK x) (ha0 : 0 ≤ a) (ha1 : a < L.length) (hs0 : 0 ≤ s) (hs1 : s < 10) (ht0 : 0 ≤ t) (ht1 : t < 10) (hex : ∃ x : Int, 0 ≤ x ∧ x < gN σ 155 3 ∧ lfF σ s x = (cd L a).1 ∧ mtB σ t (cd L a).2.1 (cd L a).2.2.toNat x = true) : MetA mX9_unfolds [ar 153, ai s, ai t, ai a] σ (fun r v => r = none ∧ Fr pUn σ v ∧ RoIs v (legsF σ t (cd L a).2.1 (cd L a).2.2.toNat (fs2 (fun k => decide (lfF σ s k = (cd L a).1) && mtB σ t (cd L a).2.1 (cd L a).2.2.toNat k) (-1) (gN σ 155 3).toNat 0))) := by
  have hR := hW.1
  have bc : cdOK (cd L a) := cd_ok hok ha0 ha1
  unfold cdOK at bc
  have ec := hC.at ha0 ha1
  refine a_entry (by decide) (Nat.le_of_ble_eq_true rfl) ?_
  refine a_aload_n dX9_unfolds_0 rfl rfl ?_
  refine a_iload_n dX9_unfolds_1 rfl rfl ?_
  refine a_aload_n dX9_unfolds_2 rfl rfl ?_
  refine a_getF (d := 165) fX9_48 k153 rfl r153_26 dX9_unfolds_3 ?_
  refine a_iload_n dX9_unfolds_6 rfl rfl ?_
  refine a_ild k165 n165 (by omega) (by omega) dX9_unfolds_7 ?_
  refine a_topI (y := (cd L a).2.1) ec.2.1 ?_
  refine a_callV (c := 153) (as := [ai t, ai ((cd L a).2.1)]) (rest := []) (t_laysMeets σ hW hT t (cd L a).2.1 ht0 ht1 (inR_of (by omega) (by omega))) mvX9_laysMeets lX9_296 k153 (by decide) rfl rfl rfl rfl (Nat.le_of_ble_eq_true rfl) (Nat.le_of_ble_eq_true rfl) (Nat.le_of_ble_eq_true rfl) dX9_unfolds_8 (fun u hu => ?_)
  obtain ⟨-, hMT⟩ := hu
  have hF : Fr pUn σ u := hMT.1.mono (fun c j h => by unfold pMe at h; unfold pUn; omega)
  have hMe : MeA σ u t (cd L a).2.1 := fun n k q0 q1 q2 => hMT.2 n k q0 q1 (Or.inl q2)
  have ec2 := (pUn_Cd hF hC).at ha0 ha1
  refine a_aload_n dX9_unfolds_11 rfl rfl ?_
  refine a_getF (d := 166) fX9_51 k153 rfl r153_27 dX9_unfolds_12 ?_
  refine a_iload_n dX9_unfolds_15 rfl rfl ?_
  refine a_ild k166 n166 (by omega) (by omega) dX9_unfolds_16 ?_
  refine a_topI (y := (cd L a).2.2) ec2.2.2 ?_
  refine a_istore (ls' := [(4, ai ((cd L a).2.2)), (0, ar 153), (1, ai s), (2, ai t), (3, ai a)]) dX9_unfolds_17 (Nat.le_of_ble_eq_true rfl) rfl ?_
  refine a_iconst dX9_unfolds_19 ?_
  refine a_istore (ls' := [(5, ai 0), (4, ai ((cd L a).2.2)), (0, ar 153), (1, ai s), (2, ai t), (3, ai a)]) dX9_unfolds_20 (Nat.le_of_ble_eq_true rfl) rfl ?_
  have e22 : (((cd L a).2.2.toNat : Nat) : Int) = (cd L a).2.2 := by omega
  obtain ⟨x, hx0, hx1, hx2, hx3⟩ := hex
  refine a_keep (ls' := [(5, ai 0), (4, ai (((cd L a).2.2.toNat : Nat) : Int)), (0, ar 153), (1, ai s), (2, ai t), (3, ai a)]) (by rw [e22]; simp) ?_
  have hs := fs2_spec (p := fun k => decide (lfF σ s k = (cd L a).1) && mtB σ t (cd L a).2.1 (cd L a).2.2.toNat k) (e := -1) (gN σ 155 3).toNat 0 x hx0 (by omega) (Bool.and_eq_true_iff.mpr ⟨decide_eq_true hx2, hx3⟩)
  refine t_unf_1 σ hW hT s t a L hC hL hok ha0 ha1 hs0 hs1 ht0 ht1 _ u hF hMe (cd L a).2.2.toNat (by omega) (gN σ 155 3).toNat 0 (by omega) (by omega) (by omega) x hx0 hx1 (Bool.and_eq_true_iff.mpr ⟨decide_eq_true hx2, hx3⟩) ?_
  generalize hon : fs2 _ _ _ _ = on at hs ⊢
  refine a_iconst dX9_unfolds_60 ?_
  refine a_istore (ls' := [(6, ai 0), (5, ai on), (4, ai (((cd L a).2.2.toNat : Nat) : Int)), (0, ar 153), (1, ai s), (2, ai t), (3, ai a)]) dX9_unfolds_61 (Nat.le_of_ble_eq_true rfl) rfl ?_
  refine a_keep (ls' := [(6, ai ((([] : List (Int × Int)).length : Nat) : Int)), (5, ai on), (4, ai (((cd L a).2.2.toNat : Nat) : Int)), (0, ar 153), (1, ai s), (2, ai t), (3, ai a)]) (by simp) ?_
  refine t_unf_l σ hW hT s t a L hC hL hok ha0 ha1 hs0 hs1 ht0 ht1 _ (fun τ D hFt hDt hPt hlt => ?_) (cd L a).2.2.toNat on u [] (by simp; omega) (by omega) hs.1 (by omega) (Bool.and_eq_true_iff.mp hs.2.2).2 hF hMe (fun l q h => by simp at h) rfl
  have ec := (pUn_Cd hFt hC).at ha0 ha1
  refine a_iload dX9_unfolds_63 rfl ?_
  refine a_aload_n dX9_unfolds_65 rfl rfl ?_
  refine a_getF (d := 166) fX9_51 k153 rfl r153_27 dX9_unfolds_66 ?_
  refine a_iload_n dX9_unfolds_69 rfl rfl ?_
  refine a_ild k166 n166 (by omega) (by omega) dX9_unfolds_70 ?_
  refine a_topI (y := (cd L a).2.2) ec.2.2 ?_
  refine a_icmp_gt (tgt := 174) dX9_unfolds_71 (by decide) (inR_of (by omega) (by omega)) (inR_of (by omega) (by omega)) (fun c71 => ?_) (fun c71 => ?_)
  · exact a_vret rfl ⟨rfl, hFt, by rw [hPt]; exact hDt⟩ dX9_unfolds_174
  · exfalso; omega

