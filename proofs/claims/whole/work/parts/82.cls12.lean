abbrev pMk (c : Nat) (j : Int) : Prop := pLok c j ∨ (73 ≤ c ∧ c ≤ 82)
abbrev pMr (c : Nat) (j : Int) : Prop := (c = 73 ∧ (j = 0 ∨ j = 1 ∨ j = 2)) ∨ (74 ≤ c ∧ c ≤ 77) ∨ (80 ≤ c ∧ c ≤ 82)
theorem pMk_Q {c : Nat} {j : Int} (h : pMk c j) : pCq c j := by unfold pMk pLok at h; unfold pCq; omega
/-- the profile of s and t is made -/
def MkP (σ u ρ : Sto) (N : Nat) (s t most : Int) : Prop := Fg pMk σ u ∧ CQ u ρ N ∧ (gN u 73 0 = (mkF ρ s t most).length ∧ gN u 73 1 = t ∧ RwR u (mkF ρ s t most)) ∧ ((mkF ρ s t most).length : Int) ≤ 300 ∧ gN u 42 t = 1
theorem MsR.ga {σ u ρ : Sto} {t r most : Int} {q : Mks} (hW : WV ρ) (ht0 : 0 ≤ t) (ht1 : t < gN ρ 155 0) (h0 : 0 ≤ r) (h1 : r < gN ρ 155 3) (h : MsR σ most q) (hF : Fg (fun c _ => c = 81 ∨ c = 82) σ u) (hg : ∀ c : Int, 0 ≤ c → c ≤ most → gN u 81 c = (if AR ρ t c r ≤ gN σ 81 c then AR ρ t c r else gN σ 81 c) ∧ gN u 82 c = if AR ρ t c r ≤ gN σ 81 c then r else gN σ 82 c) : MsR u most (gaS ρ t r q) := by
  refine ⟨fun c c0 c1 => ?_, h.2.of (hF.n (by omega)) (fun x j _ _ => hF.n (by omega))⟩
  have a := h.1 c c0 c1
  have b := hg c c0 c1
  have g := AR_rng hW ht0 ht1 c h0 h1
  rw [a.1.1] at b
  unfold gaS
  dsimp only
  refine ⟨⟨b.1, ?_, fun z => ?_⟩, ?_, a.2.2⟩
  · rw [hF.n (by omega)]; exact a.1.2.1
  · rw [b.2]
    by_cases e : AR ρ t c r ≤ q.1 c
    · rw [if_pos e, if_pos e]
    · rw [if_neg e, if_neg e]
      rw [if_neg e] at z
      exact a.1.2.2 z
  · split <;> omega
theorem ga_len {ρ : Sto} {t r : Int} {q : Mks} : (gaS ρ t r q).2.2.2 = q.2.2.2 := rfl
theorem mkS_put {ρ : Sto} {s t most wk : Int} {K : List Int} {n : Nat} {q : Mks} (h : n = 0 ∨ dpF ρ s (K.getD (n - 1) 0) ≠ dpF ρ s (K.getD n 0)) : mkS ρ s t most wk K n q = puS most (dpF ρ s (K.getD n 0)) wk (gaS ρ t (K.getD n 0) q) := if_pos h
theorem mkS_no {ρ : Sto} {s t most wk : Int} {K : List Int} {n : Nat} {q : Mks} (h : ¬ (n = 0 ∨ dpF ρ s (K.getD (n - 1) 0) ≠ dpF ρ s (K.getD n 0))) : mkS ρ s t most wk K n q = gaS ρ t (K.getD n 0) q := if_neg h

set_option maxRecDepth 20000 in
theorem c_mk_m (σ ρ : Sto) (hW : WV ρ) (s t most wk : Int) (K : List Int) (ht0 : 0 ≤ t) (ht1 : t < gN ρ 155 0) (hm0 : 0 ≤ most) (hm1 : most ≤ 4) (hw0 : 0 ≤ wk) (hw1 : wk ≤ 1000000) (hOt : OtR σ ρ t 5) (hOr : OrR σ ρ s K) (hK : ∀ x ∈ K, (0 ≤ x ∧ x < gN ρ 155 3) ∧ 0 ≤ dpF ρ s x ∧ dpF ρ s x ≤ 4000) (hKl : (K.length : Int) ≤ 60) (Z : Mks) : ∀ (n : Nat) (τ : Sto) (q : Mks), n ≤ K.length → Fg pMr σ τ → gN τ 73 1 = t → MsR τ most q → (q.2.2.2.length : Int) ≤ 5 * (K.length - n) → Z = mkT ρ s t most wk K n q → RunA mX4_make (fun a u => a = none ∧ Fg pMr σ u ∧ gN u 73 1 = t ∧ gN u 73 0 = Z.2.2.2.length ∧ RwR u Z.2.2.2 ∧ (Z.2.2.2.length : Int) ≤ 300) 82 [(7, ai ((n : Int) - 1)), (6, ai wk), (0, ar 73), (1, ar 7), (2, ar 38), (3, ai s), (4, ai t), (5, ai most)] [] τ := by
  have hR := hW.R
  have hS := hW.S
  intro n
  induction n with
  | zero =>
    intro τ q hn hF h1 hM hl hZ
    refine a_iload dX4_make_82 rfl ?_
    refine a_if_lt (tgt := 161) dX4_make_84 (by decide) (inR_of (by omega) (by omega)) (fun c84 => ?_) (fun c84 => ?_)
    · have hZ2 : Z = q := hZ
      have h2 := hM.2.1
      refine a_aload_n dX4_make_161 rfl rfl ?_
      refine a_sipush (x := 300) dX4_make_162 (by decide) ?_
      refine a_aload_n dX4_make_165 rfl rfl ?_
      refine a_getI (J := 2) fX4_39 k73 rfl rfl dX4_make_166 ?_
      refine a_isub dX4_make_169 ?_
      refine a_putI (J := 0) fX4_99 k73 rfl rfl rfl dX4_make_170 ?_
      exact a_vret rfl ⟨rfl, hF.sN (by unfold pMr; omega), by rw [gN_sN, if_neg (by omega)]; exact h1, by rw [gN_sN, if_pos ⟨rfl, rfl⟩, nrm_of (inR_of (by omega) (by omega)), hZ2]; omega, by rw [hZ2]; exact hM.2.of (by rw [gN_sN, if_neg (by omega)]) (fun x j _ _ => by rw [gN_sN, if_neg (by omega)]), by rw [hZ2]; omega⟩ dX4_make_173
    · exfalso; omega
  | succ n ih =>
    intro τ q hn hF h1 hM hl hZ
    refine a_keep (ls' := [(7, ai (n : Int)), (6, ai wk), (0, ar 73), (1, ar 7), (2, ar 38), (3, ai s), (4, ai t), (5, ai most)]) (by simp) ?_
    refine a_iload dX4_make_82 rfl ?_
    refine a_if_lt (tgt := 161) dX4_make_84 (by decide) (inR_of (by omega) (by omega)) (fun c84 => ?_) (fun c84 => ?_)
    · exfalso; omega
    · have hOrτ : OrR τ ρ s K := hOr.of (hF.n (by unfold pMr; omega)) (fun j => hF.n (by unfold pMr; omega)) (fun j => hF.n (by unfold pMr; omega))
      have hOtτ : OtR τ ρ t 5 := hOt.of (fun c j z _ => hF.n (by unfold pMr; omega)) hR.2
      have hk := hOrτ.at (k := (n : Int)) (by omega) (by omega)
      rw [show ((n : Int)).toNat = n from Int.toNat_natCast n] at hk
      have bk := hK _ hk.2.2
      refine a_aload_n dX4_make_87 rfl rfl ?_
      refine a_getF (d := 79) fX4_27 k73 rfl r73_9 dX4_make_88 ?_
      refine a_aload_n dX4_make_91 rfl rfl ?_
      refine a_getF (d := 78) fX4_24 k73 rfl r73_8 dX4_make_92 ?_
      refine a_iload dX4_make_95 rfl ?_
      refine a_ild k78 n78 (by omega) (by omega) dX4_make_97 ?_
      refine a_topI (y := K.getD n 0) hk.1 ?_
      refine a_ild k79 n79 (by omega) (by omega) dX4_make_98 ?_
      refine a_topI (y := dpF ρ s (K.getD n 0)) hk.2.1 ?_
      refine a_istore (ls' := [(8, ai (dpF ρ s (K.getD n 0))), (7, ai (n : Int)), (6, ai wk), (0, ar 73), (1, ar 7), (2, ar 38), (3, ai s), (4, ai t), (5, ai most)]) dX4_make_99 (Nat.le_of_ble_eq_true rfl) rfl ?_
      refine a_aload_n dX4_make_101 rfl rfl ?_
      refine a_aload_n dX4_make_102 rfl rfl ?_
      refine a_getF (d := 78) fX4_24 k73 rfl r73_8 dX4_make_103 ?_
      refine a_iload dX4_make_106 rfl ?_
      refine a_ild k78 n78 (by omega) (by omega) dX4_make_108 ?_
      refine a_topI (y := K.getD n 0) hk.1 ?_
      refine a_aload_n dX4_make_109 rfl rfl ?_
      refine a_getF (d := 39) fX4_88 k38 rfl r38_0 dX4_make_110 ?_
      refine a_iload dX4_make_113 rfl ?_
      refine a_ald (d := (43 + t.toNat)) k39 n39 (by omega) (by omega) (row39 (by omega) (by omega)) dX4_make_115 ?_
      refine a_iload dX4_make_116 rfl ?_
      refine a_callV (c := 73) (as := [ai (K.getD n 0), ar (43 + t.toNat), ai most]) (rest := []) (c_gather τ ρ hW t (K.getD n 0) most ht0 ht1 (by omega) (by omega) hm0 hm1 hOtτ) mvX4_gather lX4_91 k73 (by decide) rfl rfl rfl rfl (Nat.le_of_ble_eq_true rfl) (Nat.le_of_ble_eq_true rfl) (Nat.le_of_ble_eq_true rfl) dX4_make_118 (fun υ hu => ?_)
      obtain ⟨-, hu1, hu2⟩ := hu
      have hMυ := hM.ga hW ht0 ht1 (by omega) (by omega) hu1 hu2
      have hFυ : Fg pMr σ υ := hF.trans (hu1.mono (fun c j z => by unfold pMr; omega))
      have hOrυ : OrR υ ρ s K := hOrτ.of (hu1.n (by omega)) (fun j => hu1.n (by omega)) (fun j => hu1.n (by omega))
      have h1υ : gN υ 73 1 = t := (hu1.n (by omega)).trans h1
      refine a_iload dX4_make_121 rfl ?_
      refine a_if_eq (tgt := 145) dX4_make_123 (by decide) (inR_of (by omega) (by omega)) (fun c123 => ?_) (fun c123 => ?_)
      · refine a_aload_n dX4_make_145 rfl rfl ?_
        refine a_iload dX4_make_146 rfl ?_
        refine a_iload dX4_make_148 rfl ?_
        refine a_iload dX4_make_150 rfl ?_
        refine a_callV (c := 73) (as := [ai (dpF ρ s (K.getD n 0)), ai wk, ai most]) (rest := []) (c_putRows υ (dpF ρ s (K.getD n 0)) wk most _ hMυ hm0 hm1 (by omega) (by omega) hw0 hw1 (by rw [ga_len]; omega)) mvX4_putRows lX4_95 k73 (by decide) rfl rfl rfl rfl (Nat.le_of_ble_eq_true rfl) (Nat.le_of_ble_eq_true rfl) (Nat.le_of_ble_eq_true rfl) dX4_make_152 (fun ω hw => ?_)
        obtain ⟨-, hw1, hw2, hw3⟩ := hw
        refine a_iinc (y := (n : Int) + (-1)) (ls' := [(7, ai ((n : Int) + (-1))), (8, ai (dpF ρ s (K.getD n 0))), (6, ai wk), (0, ar 73), (1, ar 7), (2, ar 38), (3, ai s), (4, ai t), (5, ai most)]) dX4_make_155 rfl rfl (Nat.le_of_ble_eq_true rfl) rfl ?_
        refine a_goto (tgt := 82) dX4_make_158 (by decide) ?_
        refine a_keep (ls' := [(7, ai ((n : Int) - 1)), (6, ai wk), (0, ar 73), (1, ar 7), (2, ar 38), (3, ai s), (4, ai t), (5, ai most)]) (by simp; omega) ?_
        refine ih ω _ (by omega) (hFυ.trans (hw1.mono (fun c j z => by unfold pMr; omega))) ((hw1.n (by omega)).trans h1υ) hw2 (by rw [ga_len] at hw3; omega) (by rw [hZ]; show mkT ρ s t most wk K n (mkS ρ s t most wk K n q) = _; rw [mkS_put (Or.inl (by omega))])
      · have hn0 : n ≠ 0 := by omega
        have hk2 := hOrυ.at (k := (n : Int) - 1) (by omega) (by omega)
        rw [show ((n : Int) - 1).toNat = n - 1 by omega] at hk2
        have bk2 := hK _ hk2.2.2
        refine a_aload_n dX4_make_126 rfl rfl ?_
        refine a_getF (d := 79) fX4_27 k73 rfl r73_9 dX4_make_127 ?_
        refine a_aload_n dX4_make_130 rfl rfl ?_
        refine a_getF (d := 78) fX4_24 k73 rfl r73_8 dX4_make_131 ?_
        refine a_iload dX4_make_134 rfl ?_
        refine a_iconst dX4_make_136 ?_
        refine a_isub dX4_make_137 ?_
        refine a_ild k78 n78 (by omega) (by omega) dX4_make_138 ?_
        refine a_topI (y := K.getD (n - 1) 0) hk2.1 ?_
        refine a_ild k79 n79 (by omega) (by omega) dX4_make_139 ?_
        refine a_topI (y := dpF ρ s (K.getD (n - 1) 0)) hk2.2.1 ?_
        refine a_iload dX4_make_140 rfl ?_
        refine a_icmp_eq (tgt := 155) dX4_make_142 (by decide) (inR_of (by omega) (by omega)) (inR_of (by omega) (by omega)) (fun c142 => ?_) (fun c142 => ?_)
        · refine a_iinc (y := (n : Int) + (-1)) (ls' := [(7, ai ((n : Int) + (-1))), (8, ai (dpF ρ s (K.getD n 0))), (6, ai wk), (0, ar 73), (1, ar 7), (2, ar 38), (3, ai s), (4, ai t), (5, ai most)]) dX4_make_155 rfl rfl (Nat.le_of_ble_eq_true rfl) rfl ?_
          refine a_goto (tgt := 82) dX4_make_158 (by decide) ?_
          refine a_keep (ls' := [(7, ai ((n : Int) - 1)), (6, ai wk), (0, ar 73), (1, ar 7), (2, ar 38), (3, ai s), (4, ai t), (5, ai most)]) (by simp; omega) ?_
          refine ih υ _ (by omega) hFυ h1υ hMυ (by rw [ga_len]; omega) (by rw [hZ]; show mkT ρ s t most wk K n (mkS ρ s t most wk K n q) = _; rw [mkS_no (by rintro (z | z); exact hn0 z; exact z c142)])
        · refine a_aload_n dX4_make_145 rfl rfl ?_
          refine a_iload dX4_make_146 rfl ?_
          refine a_iload dX4_make_148 rfl ?_
          refine a_iload dX4_make_150 rfl ?_
          refine a_callV (c := 73) (as := [ai (dpF ρ s (K.getD n 0)), ai wk, ai most]) (rest := []) (c_putRows υ (dpF ρ s (K.getD n 0)) wk most _ hMυ hm0 hm1 (by omega) (by omega) hw0 hw1 (by rw [ga_len]; omega)) mvX4_putRows lX4_95 k73 (by decide) rfl rfl rfl rfl (Nat.le_of_ble_eq_true rfl) (Nat.le_of_ble_eq_true rfl) (Nat.le_of_ble_eq_true rfl) dX4_make_152 (fun ω hw => ?_)
          obtain ⟨-, hw1, hw2, hw3⟩ := hw
          refine a_iinc (y := (n : Int) + (-1)) (ls' := [(7, ai ((n : Int) + (-1))), (8, ai (dpF ρ s (K.getD n 0))), (6, ai wk), (0, ar 73), (1, ar 7), (2, ar 38), (3, ai s), (4, ai t), (5, ai most)]) dX4_make_155 rfl rfl (Nat.le_of_ble_eq_true rfl) rfl ?_
          refine a_goto (tgt := 82) dX4_make_158 (by decide) ?_
          refine a_keep (ls' := [(7, ai ((n : Int) - 1)), (6, ai wk), (0, ar 73), (1, ar 7), (2, ar 38), (3, ai s), (4, ai t), (5, ai most)]) (by simp; omega) ?_
          refine ih ω _ (by omega) (hFυ.trans (hw1.mono (fun c j z => by unfold pMr; omega))) ((hw1.n (by omega)).trans h1υ) hw2 (by rw [ga_len] at hw3; omega) (by rw [hZ]; show mkT ρ s t most wk K n (mkS ρ s t most wk K n q) = _; rw [mkS_put (Or.inr c142)])

set_option maxRecDepth 20000 in
theorem c_mk_i (σ : Sto) (s t most : Int) (hm0 : 0 ≤ most) (hm1 : most ≤ 4) (Q : Option Av → Sto → Prop) (hx : ∀ τ : Sto, Fg pMr σ τ → gN τ 73 1 = t → MsR τ most mk0 → RunA mX4_make Q 60 [(0, ar 73), (1, ar 7), (2, ar 38), (3, ai s), (4, ai t), (5, ai most)] [] τ) : ∀ (n : Nat) (c : Int) (τ : Sto), 0 ≤ c → c ≤ most + 1 → n = (most + 1 - c).toNat → Fg pMr σ τ → gN τ 73 1 = t → gN τ 73 2 = 300 → (∀ j : Int, 0 ≤ j → j < c → gN τ 81 j = 1000000 ∧ gN τ 80 j = 1000000) → RunA mX4_make Q 29 [(6, ai c), (0, ar 73), (1, ar 7), (2, ar 38), (3, ai s), (4, ai t), (5, ai most)] [] τ := by
  intro n
  induction n with
  | zero =>
    intro c τ h0 h5 hn hF h1 h2 hZ
    refine a_iload dX4_make_29 rfl ?_
    refine a_iload dX4_make_31 rfl ?_
    refine a_icmp_gt (tgt := 60) dX4_make_33 (by decide) (inR_of (by omega) (by omega)) (inR_of (by omega) (by omega)) (fun c33 => ?_) (fun c33 => ?_)
    · refine a_keep (by simp) (hx τ hF h1 ⟨fun j j0 j1 => ⟨⟨(hZ j j0 (by omega)).1, (hZ j j0 (by omega)).2, fun z => absurd z (by show ¬ (1000000 : Int) < 1000000; omega)⟩, ⟨by show (-1000 : Int) ≤ 1000000; omega, by show (1000000 : Int) ≤ 1000000; omega⟩, ⟨by show (-1000 : Int) ≤ 1000000; omega, by show (1000000 : Int) ≤ 1000000; omega⟩⟩, by rw [h2]; rfl, fun k q h => by simp [mk0] at h⟩)
    · exfalso; omega
  | succ n ih =>
    intro c τ h0 h5 hn hF h1 h2 hZ
    refine a_iload dX4_make_29 rfl ?_
    refine a_iload dX4_make_31 rfl ?_
    refine a_icmp_gt (tgt := 60) dX4_make_33 (by decide) (inR_of (by omega) (by omega)) (inR_of (by omega) (by omega)) (fun c33 => ?_) (fun c33 => ?_)
    · exfalso; omega
    · refine a_aload_n dX4_make_36 rfl rfl ?_
      refine a_getF (d := 80) fX4_30 k73 rfl r73_10 dX4_make_37 ?_
      refine a_iload dX4_make_40 rfl ?_
      refine a_ldc (x := 1000000) cX4_87 (by decide) dX4_make_42 ?_
      refine a_ist k80 n80 (by omega) (by omega) dX4_make_44 ?_
      refine a_aload_n dX4_make_45 rfl rfl ?_
      refine a_getF (d := 81) fX4_33 k73 rfl r73_11 dX4_make_46 ?_
      refine a_iload dX4_make_49 rfl ?_
      refine a_ldc (x := 1000000) cX4_87 (by decide) dX4_make_51 ?_
      refine a_ist k81 n81 (by omega) (by omega) dX4_make_53 ?_
      refine a_iinc (y := c + 1) (ls' := [(6, ai (c + 1)), (0, ar 73), (1, ar 7), (2, ar 38), (3, ai s), (4, ai t), (5, ai most)]) dX4_make_54 rfl rfl (Nat.le_of_ble_eq_true rfl) rfl ?_
      refine a_goto (tgt := 29) dX4_make_57 (by decide) ?_
      refine a_keep (by simp) (ih (c + 1) (sN (sN τ 80 c 1000000) 81 c 1000000) (by omega) (by omega) (by omega) ((hF.sN (by unfold pMr; omega)).sN (by unfold pMr; omega)) (by rw [gN_sN, if_neg (by omega), gN_sN, if_neg (by omega)]; exact h1) (by rw [gN_sN, if_neg (by omega), gN_sN, if_neg (by omega)]; exact h2) (fun j j0 j1 => ?_))
      by_cases e : j = c
      · refine ⟨?_, ?_⟩
        · rw [e, gN_sN, if_pos ⟨rfl, rfl⟩]; rfl
        · rw [e, gN_sN, if_neg (by omega), gN_sN, if_pos ⟨rfl, rfl⟩]; rfl
      · have z := hZ j j0 (by omega)
        refine ⟨?_, ?_⟩
        · rw [gN_sN, if_neg (by omega), gN_sN, if_neg (by omega)]; exact z.1
        · rw [gN_sN, if_neg (by omega), gN_sN, if_neg (by omega)]; exact z.2

set_option maxRecDepth 20000 in
theorem c_make (σ ρ : Sto) (N : Nat) (hW : WV ρ) (hC : CQ σ ρ N) (s t most : Int) (hs0 : 0 ≤ s) (hs1 : s < gN ρ 155 0) (ht0 : 0 ≤ t) (ht1 : t < gN ρ 155 0) (hm0 : 0 ≤ most) (hm1 : most ≤ 4) : MetA mX4_make [ar 73, ar 7, ar 38, ai s, ai t, ai most] σ (fun a u => a = none ∧ MkP σ u ρ N s t most) := by
  have hR := hW.R
  have hS := hW.S
  refine a_entry (by decide) (Nat.le_of_ble_eq_true rfl) ?_
  refine a_ls (ls' := [(0, ar 73), (1, ar 7), (2, ar 38), (3, ai s), (4, ai t), (5, ai most)]) rfl ?_
  refine a_aload_n dX4_make_0 rfl rfl ?_
  refine a_aload_n dX4_make_1 rfl rfl ?_
  refine a_iload dX4_make_2 rfl ?_
  refine a_callV (c := 38) (as := [ar 7, ai t]) (rest := []) (c_look σ ρ N hW hC t ht0 ht1) mvX3_look lX4_75 k38 (by decide) rfl rfl rfl rfl (Nat.le_of_ble_eq_true rfl) (Nat.le_of_ble_eq_true rfl) (Nat.le_of_ble_eq_true rfl) dX4_make_4 (fun u hu => ?_)
  obtain ⟨-, hu1, hu2, hu3⟩ := hu
  refine a_aload_n dX4_make_7 rfl rfl ?_
  refine a_aload_n dX4_make_8 rfl rfl ?_
  refine a_iload_n dX4_make_9 rfl rfl ?_
  refine a_callV (c := 73) (as := [ar 7, ai s]) (rest := []) (c_arrange u ρ N hW hu2.n hu2.t s hs0 hs1) mvX4_arrange lX4_81 k73 (by decide) rfl rfl rfl rfl (Nat.le_of_ble_eq_true rfl) (Nat.le_of_ble_eq_true rfl) (Nat.le_of_ble_eq_true rfl) dX4_make_10 (fun v hv => ?_)
  obtain ⟨-, hv1, hv2⟩ := hv
  have hv3 : CQ v ρ N := hu2.aft hS.2 hR.2 (hv1.mono (fun c j z => by unfold pAr at z; unfold pAft; omega))
  have hv4 : gN v 42 t = 1 := (hv1.n (by unfold pAr; omega)).trans hu3
  have hvF : Fg pMk σ v := (hu1.mono (fun c j z => Or.inl z)).trans (hv1.mono (fun c j z => Or.inr (by unfold pAr at z; omega)))
  refine a_aload_n dX4_make_13 rfl rfl ?_
  refine a_iload dX4_make_14 rfl ?_
  refine a_putI (J := 1) fX4_84 k73 rfl rfl rfl dX4_make_16 ?_
  refine a_aload_n dX4_make_19 rfl rfl ?_
  refine a_sipush (x := 300) dX4_make_20 (by decide) ?_
  refine a_putI (J := 2) fX4_39 k73 rfl rfl rfl dX4_make_23 ?_
  refine a_iconst dX4_make_26 ?_
  refine a_istore (ls' := [(6, ai 0), (0, ar 73), (1, ar 7), (2, ar 38), (3, ai s), (4, ai t), (5, ai most)]) dX4_make_27 (Nat.le_of_ble_eq_true rfl) rfl ?_
  refine a_keep (by simp) (c_mk_i v s t most hm0 hm1 _ (fun τ hFτ h1τ hMτ => ?_) (most + 1).toNat 0 (sN (sN v 73 1 t) 73 2 300) (by omega) (by omega) (by omega) ((Fg.rfl.sN (by unfold pMr; omega)).sN (by unfold pMr; omega)) (by rw [gN_sN, if_neg (by omega), gN_sN, if_pos ⟨rfl, rfl⟩, nrm_of (inR_of (by omega) (by omega))]) (by rw [gN_sN, if_pos ⟨rfl, rfl⟩]; rfl) (fun j a b => by omega))
  have hCτ : CQ τ ρ N := hv3.aft hS.2 hR.2 (hFτ.mono (fun c j z => by unfold pMr at z; unfold pAft; omega))
  have hNτ := hCτ.n
  have hNk := hNτ.k
  have hT7τ := hCτ.t
  have hO3 : OrR τ ρ s (ordL ρ s) := hv2.of (hFτ.n (by unfold pMr; omega)) (fun j => hFτ.n (by unfold pMr; omega)) (fun j => hFτ.n (by unfold pMr; omega))
  have hok := ord_ok hR.1 s
  have hlen := hok.2
  refine a_aload_n dX4_make_60 rfl rfl ?_
  refine a_getR (d := N) (J := 0) fX4_46 k7 rfl (rT_0 (by decide)) rfl hT7τ.net dX4_make_61 ?_
  refine a_getF (d := (N + 3)) fX4_60 (kN hNk) rfl (rN_6 hNk) dX4_make_64 ?_
  refine a_iload_n dX4_make_67 rfl rfl ?_
  refine a_ald (d := (N + 11 + s.toNat)) (kN_3 hNk) (nN_3 hNk) (by omega) (by omega) (rowN_w hNk (by omega) (by omega)) dX4_make_68 ?_
  refine a_iload dX4_make_69 rfl ?_
  refine a_ild (kNw hNk (by omega) (by omega)) (nNw hNk (by omega) (by omega)) (by omega) (by omega) dX4_make_71 ?_
  refine a_topI (y := gN ρ 155 (15 + 10 * s + t)) (hNτ.wk (by omega) (by omega) (by omega) (by omega)) ?_
  have hb32 := hW.walk s t (by omega) (by omega) (by omega) (by omega)
  refine a_istore (ls' := [(6, ai (gN ρ 155 (15 + 10 * s + t))), (0, ar 73), (1, ar 7), (2, ar 38), (3, ai s), (4, ai t), (5, ai most)]) dX4_make_72 (Nat.le_of_ble_eq_true rfl) rfl ?_
  refine a_aload_n dX4_make_74 rfl rfl ?_
  refine a_getI (J := 7) fX4_43 k73 rfl rfl dX4_make_75 ?_
  refine a_topI (y := ((ordL ρ s).length : Int)) hO3.1 ?_
  refine a_iconst dX4_make_78 ?_
  refine a_isub dX4_make_79 ?_
  refine a_istore (ls' := [(7, ai (((ordL ρ s).length : Int) - 1)), (6, ai (gN ρ 155 (15 + 10 * s + t))), (0, ar 73), (1, ar 7), (2, ar 38), (3, ai s), (4, ai t), (5, ai most)]) dX4_make_80 (Nat.le_of_ble_eq_true rfl) rfl ?_
  refine a_keep (ls' := [(7, ai (((ordL ρ s).length : Int) - 1)), (6, ai (gN ρ 155 (15 + 10 * s + t))), (0, ar 73), (1, ar 7), (2, ar 38), (3, ai s), (4, ai t), (5, ai most)]) (by simp) ?_
  refine ((c_mk_m τ ρ hW s t most (gN ρ 155 (15 + 10 * s + t)) (ordL ρ s) ht0 ht1 hm0 hm1 (by omega) (by omega) (hCτ.o t ht0 (by omega) |>.2 ht1 (by rw [hFτ.n (by unfold pMr; omega)]; exact hv4)) hO3 (fun x hx => ⟨(hok.1 x hx).1, (hok.1 x hx).2.1, (dp_rng hW hs0 hs1 (hok.1 x hx).1.1 (hok.1 x hx).1.2).2⟩) (by omega) _ (ordL ρ s).length τ mk0 (Nat.le_refl _) Fg.rfl h1τ hMτ (by simp [mk0]) rfl)).mono (fun a x hx => ?_)
  obtain ⟨x1, x2, x3, x4, x5, x6⟩ := hx
  have y : Fg pMr v x := hFτ.trans x2
  refine ⟨x1, hvF.trans (y.mono (fun c j z => Or.inr (by unfold pMr at z; omega))), hv3.aft hS.2 hR.2 (y.mono (fun c j z => by unfold pMr at z; unfold pAft; omega)), ⟨x4, x3, x5⟩, x6, (y.n (by unfold pMr; omega)).trans hv4⟩

set_option maxRecDepth 20000 in
theorem c_departure (σ : Sto) (L : List Rw) (hL : RwR σ L) (hl : (L.length : Int) ≤ 300) (i : Int) (h0 : 0 ≤ i) (h1 : i < L.length) : MetI mX4_departure [ar 73, ai i] σ ((L.getD i.toNat (0, 0, 0, 0)).1) σ := by
  have h2 := hL.1
  refine a_entry (by decide) (Nat.le_of_ble_eq_true rfl) ?_
  refine a_ls (ls' := [(0, ar 73), (1, ai i)]) rfl ?_
  refine a_aload_n dX4_departure_0 rfl rfl ?_
  refine a_getF (d := 74) fX4_11 k73 rfl r73_3 dX4_departure_1 ?_
  refine a_aload_n dX4_departure_4 rfl rfl ?_
  refine a_getI (J := 2) fX4_39 k73 rfl rfl dX4_departure_5 ?_
  refine a_iload_n dX4_departure_8 rfl rfl ?_
  refine a_iadd dX4_departure_9 ?_
  refine a_ild k74 n74 (by omega) (by omega) dX4_departure_10 ?_
  exact a_iret rfl ⟨by have hk := hL.2 i.toNat (L[i.toNat]) (List.getElem?_eq_getElem (by omega)); rw [h2, List.getD_eq_getElem?_getD, List.getElem?_eq_getElem (by omega)]; rw [show ((i.toNat : Nat) : Int) = i by omega] at hk; exact congrArg (fun x => some (ai x)) hk.1, rfl⟩ dX4_departure_11

set_option maxRecDepth 20000 in
theorem c_arrival (σ : Sto) (L : List Rw) (hL : RwR σ L) (hl : (L.length : Int) ≤ 300) (i : Int) (h0 : 0 ≤ i) (h1 : i < L.length) : MetI mX4_arrival [ar 73, ai i] σ ((L.getD i.toNat (0, 0, 0, 0)).2.1) σ := by
  have h2 := hL.1
  refine a_entry (by decide) (Nat.le_of_ble_eq_true rfl) ?_
  refine a_ls (ls' := [(0, ar 73), (1, ai i)]) rfl ?_
  refine a_aload_n dX4_arrival_0 rfl rfl ?_
  refine a_getF (d := 75) fX4_15 k73 rfl r73_4 dX4_arrival_1 ?_
  refine a_aload_n dX4_arrival_4 rfl rfl ?_
  refine a_getI (J := 2) fX4_39 k73 rfl rfl dX4_arrival_5 ?_
  refine a_iload_n dX4_arrival_8 rfl rfl ?_
  refine a_iadd dX4_arrival_9 ?_
  refine a_ild k75 n75 (by omega) (by omega) dX4_arrival_10 ?_
  exact a_iret rfl ⟨by have hk := hL.2 i.toNat (L[i.toNat]) (List.getElem?_eq_getElem (by omega)); rw [h2, List.getD_eq_getElem?_getD, List.getElem?_eq_getElem (by omega)]; rw [show ((i.toNat : Nat) : Int) = i by omega] at hk; exact congrArg (fun x => some (ai x)) hk.2.1, rfl⟩ dX4_arrival_11

set_option maxRecDepth 20000 in
theorem c_changesOf (σ : Sto) (L : List Rw) (hL : RwR σ L) (hl : (L.length : Int) ≤ 300) (i : Int) (h0 : 0 ≤ i) (h1 : i < L.length) : MetI mX4_changesOf [ar 73, ai i] σ ((L.getD i.toNat (0, 0, 0, 0)).2.2.1) σ := by
  have h2 := hL.1
  refine a_entry (by decide) (Nat.le_of_ble_eq_true rfl) ?_
  refine a_ls (ls' := [(0, ar 73), (1, ai i)]) rfl ?_
  refine a_aload_n dX4_changesOf_0 rfl rfl ?_
  refine a_getF (d := 76) fX4_18 k73 rfl r73_5 dX4_changesOf_1 ?_
  refine a_aload_n dX4_changesOf_4 rfl rfl ?_
  refine a_getI (J := 2) fX4_39 k73 rfl rfl dX4_changesOf_5 ?_
  refine a_iload_n dX4_changesOf_8 rfl rfl ?_
  refine a_iadd dX4_changesOf_9 ?_
  refine a_ild k76 n76 (by omega) (by omega) dX4_changesOf_10 ?_
  exact a_iret rfl ⟨by have hk := hL.2 i.toNat (L[i.toNat]) (List.getElem?_eq_getElem (by omega)); rw [h2, List.getD_eq_getElem?_getD, List.getElem?_eq_getElem (by omega)]; rw [show ((i.toNat : Nat) : Int) = i by omega] at hk; exact congrArg (fun x => some (ai x)) hk.2.2.1, rfl⟩ dX4_changesOf_11

set_option maxRecDepth 20000 in
theorem c_un_l (σ ρ : Sto) (hW : WV ρ) (t : Int) (ht0 : 0 ≤ t) (ht1 : t < gN ρ 155 0) (hOt : OtR σ ρ t 5) (h73 : gN σ 73 1 = t) (i : Int) (X : List (Int × Int)) : ∀ (n : Nat) (r : Int) (P : List (Int × Int)) (τ : Sto), n ≤ 5 → (-1 ≤ r ∧ r < gN ρ 155 3) → (P.length : Int) + n ≤ 5 → Fg (fun c _ => 83 ≤ c ∧ c ≤ 85) σ τ → LgR τ 83 P → X = P ++ unG ρ t n r → (∀ x, x + 1 < n → betF ρ t x) → RunA mX4_unfold (fun a u => a = none ∧ Fg (fun c _ => 83 ≤ c ∧ c ≤ 85) σ u ∧ LgR u 83 X) 30 [(5, ai ((n : Int) - 1)), (4, ai r), (0, ar 73), (1, ai i), (2, ar 38), (3, ar 83)] [] τ := by
  have hR := hW.R
  have hS := hW.S
  intro n
  induction n with
  | zero =>
    intro r P τ hn hr hp hF hL hX hb
    refine a_iload dX4_unfold_30 rfl ?_
    refine a_if_lt (tgt := 94) dX4_unfold_32 (by decide) (inR_of (by omega) (by omega)) (fun c32 => ?_) (fun c32 => ?_)
    · exact a_vret rfl ⟨rfl, hF, by rw [hX]; unfold unG; rw [List.append_nil]; exact hL⟩ dX4_unfold_94
    · exfalso; omega
  | succ n ih =>
    intro r P τ hn hr hp hF hL hX hb
    refine a_keep (ls' := [(5, ai (n : Int)), (4, ai r), (0, ar 73), (1, ai i), (2, ar 38), (3, ar 83)]) (by simp) ?_
    refine a_iload dX4_unfold_30 rfl ?_
    refine a_if_lt (tgt := 94) dX4_unfold_32 (by decide) (inR_of (by omega) (by omega)) (fun c32 => ?_) (fun c32 => ?_)
    · exfalso; omega
    · refine a_iload dX4_unfold_35 rfl ?_
      refine a_if_lt (tgt := 94) dX4_unfold_37 (by decide) (inR_of (by omega) (by omega)) (fun c37 => ?_) (fun c37 => ?_)
      · exact a_vret rfl ⟨rfl, hF, by rw [hX]; unfold unG; rw [if_neg (by omega)]; rw [List.append_nil]; exact hL⟩ dX4_unfold_94
      · have h73τ : gN τ 73 1 = t := (hF.n (by omega)).trans h73
        have hlv : ∀ y : Int, 0 ≤ y → y < gN ρ 155 3 → gN τ (53 + t.toNat) ((n : Int) * 60 + y) = ofL ρ t n y ∧ gN τ (63 + t.toNat) ((n : Int) * 60 + y) = onS ρ t n y := fun y y0 y1 => by rw [hF.n (by omega), hF.n (by omega)]; exact (hOt n y (by omega) y0 y1).2 (fun x hx => hb x (by omega))
        refine a_aload_n dX4_unfold_40 rfl rfl ?_
        refine a_getF (d := 40) fX4_113 k38 rfl r38_1 dX4_unfold_41 ?_
        refine a_aload_n dX4_unfold_44 rfl rfl ?_
        refine a_getI (J := 1) fX4_84 k73 rfl rfl dX4_unfold_45 ?_
        refine a_topI (y := t) h73τ ?_
        refine a_ald (d := (53 + t.toNat)) k40 n40 (by omega) (by omega) (row40 (by omega) (by omega)) dX4_unfold_48 ?_
        refine a_iload dX4_unfold_49 rfl ?_
        refine a_bipush (x := 60) dX4_unfold_51 (by decide) ?_
        refine a_imul dX4_unfold_53 ?_
        refine a_iload dX4_unfold_54 rfl ?_
        refine a_iadd dX4_unfold_56 ?_
        refine a_ild (kR53 (by omega) (by omega)) (nR53 (by omega) (by omega)) (by omega) (by omega) dX4_unfold_57 ?_
        refine a_topI (y := ofL ρ t n r) (hlv r (by omega) (by omega)).1 ?_
        have hb33 := lv_rng hW ht0 ht1 n r (by omega) (by omega)
        refine a_istore (ls' := [(6, ai (ofL ρ t n r)), (5, ai (n : Int)), (4, ai r), (0, ar 73), (1, ai i), (2, ar 38), (3, ar 83)]) dX4_unfold_58 (Nat.le_of_ble_eq_true rfl) rfl ?_
        refine a_aload_n dX4_unfold_60 rfl rfl ?_
        refine a_iload dX4_unfold_61 rfl ?_
        refine a_iload dX4_unfold_63 rfl ?_
        refine a_callV (c := 83) (as := [ai r, ai (ofL ρ t n r)]) (rest := []) (c_lgAdd τ 83 (Or.inl rfl) P r (ofL ρ t n r) hL (by omega) (inR_of (by omega) (by omega)) (inR_of (by omega) (by omega))) mvX1_add lX4_116 k83 (by decide) rfl rfl rfl rfl (Nat.le_of_ble_eq_true rfl) (Nat.le_of_ble_eq_true rfl) (Nat.le_of_ble_eq_true rfl) dX4_unfold_65 (fun υ hu => ?_)
        obtain ⟨-, hu1, hu2⟩ := hu
        have h73υ : gN υ 73 1 = t := (hu1.n (by omega)).trans h73τ
        have hlv2 : ∀ y : Int, 0 ≤ y → y < gN ρ 155 3 → gN υ (63 + t.toNat) ((n : Int) * 60 + y) = onS ρ t n y := fun y y0 y1 => by rw [hu1.n (by omega)]; exact (hlv y y0 y1).2
        refine a_aload_n dX4_unfold_68 rfl rfl ?_
        refine a_getF (d := 41) fX4_119 k38 rfl r38_2 dX4_unfold_69 ?_
        refine a_aload_n dX4_unfold_72 rfl rfl ?_
        refine a_getI (J := 1) fX4_84 k73 rfl rfl dX4_unfold_73 ?_
        refine a_topI (y := t) h73υ ?_
        refine a_ald (d := (63 + t.toNat)) k41 n41 (by omega) (by omega) (row41 (by omega) (by omega)) dX4_unfold_76 ?_
        refine a_iload dX4_unfold_77 rfl ?_
        refine a_bipush (x := 60) dX4_unfold_79 (by decide) ?_
        refine a_imul dX4_unfold_81 ?_
        refine a_iload dX4_unfold_82 rfl ?_
        refine a_iadd dX4_unfold_84 ?_
        refine a_ild (kR63 (by omega) (by omega)) (nR63 (by omega) (by omega)) (by omega) (by omega) dX4_unfold_85 ?_
        refine a_topI (y := onS ρ t n (ofL ρ t n r)) (hlv2 (ofL ρ t n r) (by omega) (by omega)) ?_
        refine a_istore (ls' := [(4, ai (onS ρ t n (ofL ρ t n r))), (6, ai (ofL ρ t n r)), (5, ai (n : Int)), (0, ar 73), (1, ai i), (2, ar 38), (3, ar 83)]) dX4_unfold_86 (Nat.le_of_ble_eq_true rfl) rfl ?_
        refine a_iinc (y := (n : Int) + (-1)) (ls' := [(5, ai ((n : Int) + (-1))), (4, ai (onS ρ t n (ofL ρ t n r))), (6, ai (ofL ρ t n r)), (0, ar 73), (1, ai i), (2, ar 38), (3, ar 83)]) dX4_unfold_88 rfl rfl (Nat.le_of_ble_eq_true rfl) rfl ?_
        refine a_goto (tgt := 30) dX4_unfold_91 (by decide) ?_
        have hos := onS_rng hR.1 (t := t) (c := n) (i := ofL ρ t n r)
        refine a_keep (ls' := [(5, ai ((n : Int) - 1)), (4, ai (onS ρ t n (ofL ρ t n r))), (0, ar 73), (1, ai i), (2, ar 38), (3, ar 83)]) (by simp; omega) ?_
        refine ih (onS ρ t n (ofL ρ t n r)) (P ++ [(r, ofL ρ t n r)]) υ (by omega) ⟨by omega, by by_cases z : 0 ≤ onS ρ t n (ofL ρ t n r); exact hos.2 z; omega⟩ (by rw [List.length_append, List.length_singleton]; omega) (hF.trans (hu1.mono (fun c j z => by omega))) hu2 ?_ (fun x hx => hb x (by omega))
        rw [hX, List.append_assoc]
        show P ++ (if 0 ≤ r then (r, ofL ρ t n r) :: unG ρ t n (onS ρ t n (ofL ρ t n r)) else []) = _
        rw [if_pos (by omega)]
        rfl

set_option maxRecDepth 20000 in
theorem c_unfoldP (σ ρ : Sto) (hW : WV ρ) (t : Int) (ht0 : 0 ≤ t) (ht1 : t < gN ρ 155 0) (hOt : OtR σ ρ t 5) (h73 : gN σ 73 1 = t) (L : List Rw) (hL : RwR σ L) (hl : (L.length : Int) ≤ 300) (i : Int) (h0 : 0 ≤ i) (h1 : i < L.length) (hc : 0 ≤ (L.getD i.toNat (0, 0, 0, 0)).2.2.1 ∧ (L.getD i.toNat (0, 0, 0, 0)).2.2.1 ≤ 4) (hr : 0 ≤ (L.getD i.toNat (0, 0, 0, 0)).2.2.2 ∧ (L.getD i.toNat (0, 0, 0, 0)).2.2.2 < gN ρ 155 3) (hb : ∀ x, x < ((L.getD i.toNat (0, 0, 0, 0)).2.2.1).toNat → betF ρ t x) : MetA mX4_unfold [ar 73, ai i, ar 38, ar 83] σ (fun a u => a = none ∧ Fg (fun c _ => 83 ≤ c ∧ c ≤ 85) σ u ∧ LgR u 83 (unG ρ t (((L.getD i.toNat (0, 0, 0, 0)).2.2.1).toNat + 1) ((L.getD i.toNat (0, 0, 0, 0)).2.2.2))) := by
  have hR := hW.R
  have hS := hW.S
  have h2 := hL.1
  have hk := hL.2 i.toNat (L[i.toNat]) (List.getElem?_eq_getElem (by omega))
  have hg : L.getD i.toNat (0, 0, 0, 0) = L[i.toNat] := by rw [List.getD_eq_getElem?_getD, List.getElem?_eq_getElem (by omega)]; rfl
  rw [show ((i.toNat : Nat) : Int) = i by omega, ← hg] at hk
  refine a_entry (by decide) (Nat.le_of_ble_eq_true rfl) ?_
  refine a_ls (ls' := [(0, ar 73), (1, ai i), (2, ar 38), (3, ar 83)]) rfl ?_
  refine a_aload_n dX4_unfold_0 rfl rfl ?_
  refine a_cV (c := 83) (as := []) (rest := []) (c_lgClear σ 83 (Or.inl rfl)) mvX1_clear lX4_108 k83 (by decide) rfl rfl rfl rfl (Nat.le_of_ble_eq_true rfl) (Nat.le_of_ble_eq_true rfl) (Nat.le_of_ble_eq_true rfl) dX4_unfold_1 ?_
  refine a_aload_n dX4_unfold_4 rfl rfl ?_
  refine a_getF (d := 77) fX4_21 k73 rfl r73_6 dX4_unfold_5 ?_
  refine a_aload_n dX4_unfold_8 rfl rfl ?_
  refine a_getI (J := 2) fX4_39 k73 rfl rfl dX4_unfold_9 ?_
  refine a_topI (y := 300 - (L.length : Int)) (by rw [gN_sN, if_neg (by omega)]; exact h2) ?_
  refine a_iload_n dX4_unfold_12 rfl rfl ?_
  refine a_iadd dX4_unfold_13 ?_
  refine a_ild k77 n77 (by omega) (by omega) dX4_unfold_14 ?_
  refine a_topI (y := (L.getD i.toNat (0, 0, 0, 0)).2.2.2) (by rw [gN_sN, if_neg (by omega)]; exact hk.2.2.2) ?_
  refine a_istore (ls' := [(4, ai ((L.getD i.toNat (0, 0, 0, 0)).2.2.2)), (0, ar 73), (1, ai i), (2, ar 38), (3, ar 83)]) dX4_unfold_15 (Nat.le_of_ble_eq_true rfl) rfl ?_
  refine a_aload_n dX4_unfold_17 rfl rfl ?_
  refine a_getF (d := 76) fX4_18 k73 rfl r73_5 dX4_unfold_18 ?_
  refine a_aload_n dX4_unfold_21 rfl rfl ?_
  refine a_getI (J := 2) fX4_39 k73 rfl rfl dX4_unfold_22 ?_
  refine a_topI (y := 300 - (L.length : Int)) (by rw [gN_sN, if_neg (by omega)]; exact h2) ?_
  refine a_iload_n dX4_unfold_25 rfl rfl ?_
  refine a_iadd dX4_unfold_26 ?_
  refine a_ild k76 n76 (by omega) (by omega) dX4_unfold_27 ?_
  refine a_topI (y := (L.getD i.toNat (0, 0, 0, 0)).2.2.1) (by rw [gN_sN, if_neg (by omega)]; exact hk.2.2.1) ?_
  refine a_istore (ls' := [(5, ai ((L.getD i.toNat (0, 0, 0, 0)).2.2.1)), (4, ai ((L.getD i.toNat (0, 0, 0, 0)).2.2.2)), (0, ar 73), (1, ai i), (2, ar 38), (3, ar 83)]) dX4_unfold_28 (Nat.le_of_ble_eq_true rfl) rfl ?_
  have e5 : ((((L.getD i.toNat (0, 0, 0, 0)).2.2.1).toNat + 1 : Nat) : Int) - 1 = (L.getD i.toNat (0, 0, 0, 0)).2.2.1 := by omega
  have hrun := c_un_l (sN σ 83 0 0) ρ hW t ht0 ht1 (hOt.of (fun c j z _ => by rw [gN_sN, if_neg (by omega)]) hR.2) (by rw [gN_sN, if_neg (by omega)]; exact h73) i (unG ρ t (((L.getD i.toNat (0, 0, 0, 0)).2.2.1).toNat + 1) ((L.getD i.toNat (0, 0, 0, 0)).2.2.2)) (((L.getD i.toNat (0, 0, 0, 0)).2.2.1).toNat + 1) ((L.getD i.toNat (0, 0, 0, 0)).2.2.2) [] (sN σ 83 0 0) (by omega) ⟨by omega, hr.2⟩ (by rw [List.length_nil]; omega) Fg.rfl (LgR.nil σ 83) rfl (fun x hx => hb x (by omega))
  rw [e5] at hrun
  exact a_keep (by simp) (hrun.mono (fun a u hu => ⟨hu.1, (Fg.rfl.sN (by omega)).trans hu.2.1, hu.2.2⟩))

