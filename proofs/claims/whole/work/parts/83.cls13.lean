/-! The class's profile: by minutes; readers of legs. -/
theorem OtR.at4 {σ ρ : Sto} {t : Int} (h : OtR σ ρ t 5) {r : Int} (h2 : 0 ≤ r) (h3 : r < gN ρ 155 3) : gN σ (43 + t.toNat) (240 + r) = AR ρ t 4 r := by
  have := h.at (c := 4) (by omega) (by omega) h2 h3
  rw [show (4 : Int) * 60 + r = 240 + r by omega] at this
  exact this
def ldF (ρ : Sto) (s t : Int) (K : List Int) (m : Int) : Nat → Int
  | 0 => -1
  | n + 1 => if AR ρ t 4 (K.getD n 0) ≤ m then dpF ρ s (K.getD n 0) else ldF ρ s t K m n
def sbF (ρ : Sto) (s t : Int) (K : List Int) (m : Int) : Nat → Int → Int
  | 0, b => b
  | n + 1, b => if dpF ρ s (K.getD n 0) ≤ m then b else sbF ρ s t K m n (if AR ρ t 4 (K.getD n 0) < b then AR ρ t 4 (K.getD n 0) else b)
def mwI (ρ : Sto) (s t : Int) (K : List Int) (m : Int) : Nat → Int → Nat × Int
  | 0, b => (0, b)
  | n + 1, b => if dpF ρ s (K.getD n 0) < m then (n + 1, b) else mwI ρ s t K m n (if AR ρ t 4 (K.getD n 0) < b then AR ρ t 4 (K.getD n 0) else b)
abbrev Mw : Type := Nat × Int × Int × Int
def mwW (wk m b : Int) : Int := if wk < b - m then wk else b - m
def mwS (ρ : Sto) (s t wk : Int) (K : List Int) (m : Int) (q : Mw) : Mw := if m + mwW wk m (mwI ρ s t K m q.1 q.2.1).2 < 1000000 then ((mwI ρ s t K m q.1 q.2.1).1, (mwI ρ s t K m q.1 q.2.1).2, q.2.2.1 + mwW wk m (mwI ρ s t K m q.1 q.2.1).2, q.2.2.2 + 1) else ((mwI ρ s t K m q.1 q.2.1).1, (mwI ρ s t K m q.1 q.2.1).2, q.2.2.1, q.2.2.2)
def mwF (ρ : Sto) (s t wk : Int) (K : List Int) : Nat → Int → Mw → Mw
  | 0, _, q => q
  | d + 1, m, q => mwF ρ s t wk K d (m - 1) (mwS ρ s t wk K m q)
def mwR (q : Mw) : Int := if q.2.2.2 = 0 then -2 else (Int32.ofInt q.2.2.1 / Int32.ofInt q.2.2.2).toInt

set_option maxRecDepth 20000 in
theorem c_ld_l (σ ρ : Sto) (hW : WV ρ) (s t : Int) (K : List Int) (ht0 : 0 ≤ t) (ht1 : t < gN ρ 155 0) (hOt : OtR σ ρ t 5) (hOr : OrR σ ρ s K) (hK : ∀ x ∈ K, (0 ≤ x ∧ x < gN ρ 155 3) ∧ 0 ≤ dpF ρ s x ∧ dpF ρ s x ≤ 4000) (hKl : (K.length : Int) ≤ 60) (m V : Int) (hm : inR m) : ∀ (n : Nat), n ≤ K.length → V = ldF ρ s t K m n → RunA mX4_lastDeparture (qI V σ) 7 [(3, ai ((n : Int) - 1)), (0, ar 73), (1, ar (43 + t.toNat)), (2, ai m)] [] σ := by
  have hR := hW.R
  have hS := hW.S
  intro n
  induction n with
  | zero =>
    intro hn hV
    refine a_iload_n dX4_lastDeparture_7 rfl rfl ?_
    refine a_if_lt (tgt := 45) dX4_lastDeparture_8 (by decide) (inR_of (by omega) (by omega)) (fun c8 => ?_) (fun c8 => ?_)
    · refine a_iconst dX4_lastDeparture_45 ?_
      exact a_iret rfl ⟨by rw [hV]; rfl, rfl⟩ dX4_lastDeparture_46
    · exfalso; omega
  | succ n ih =>
    intro hn hV
    refine a_keep (ls' := [(3, ai (n : Int)), (0, ar 73), (1, ar (43 + t.toNat)), (2, ai m)]) (by simp) ?_
    refine a_iload_n dX4_lastDeparture_7 rfl rfl ?_
    refine a_if_lt (tgt := 45) dX4_lastDeparture_8 (by decide) (inR_of (by omega) (by omega)) (fun c8 => ?_) (fun c8 => ?_)
    · exfalso; omega
    · have hk := hOr.at (k := (n : Int)) (by omega) (by omega)
      rw [show ((n : Int)).toNat = n from Int.toNat_natCast n] at hk
      have bk := hK _ hk.2.2
      have ba := AR_rng hW ht0 ht1 4 (r := K.getD n 0) (by omega) (by omega)
      refine a_aload_n dX4_lastDeparture_11 rfl rfl ?_
      refine a_sipush (x := 240) dX4_lastDeparture_12 (by decide) ?_
      refine a_aload_n dX4_lastDeparture_15 rfl rfl ?_
      refine a_getF (d := 78) fX4_24 k73 rfl r73_8 dX4_lastDeparture_16 ?_
      refine a_iload_n dX4_lastDeparture_19 rfl rfl ?_
      refine a_ild k78 n78 (by omega) (by omega) dX4_lastDeparture_20 ?_
      refine a_topI (y := K.getD n 0) hk.1 ?_
      refine a_iadd dX4_lastDeparture_21 ?_
      refine a_ild (kR43 (by omega) (by omega)) (nR43 (by omega) (by omega)) (by omega) (by omega) dX4_lastDeparture_22 ?_
      refine a_topI (y := AR ρ t 4 (K.getD n 0)) (hOt.at4 (by omega) (by omega)) ?_
      refine a_iload_n dX4_lastDeparture_23 rfl rfl ?_
      refine a_icmp_gt (tgt := 39) dX4_lastDeparture_24 (by decide) (inR_of (by omega) (by omega)) hm (fun c24 => ?_) (fun c24 => ?_)
      · refine a_iinc (y := (n : Int) + (-1)) (ls' := [(3, ai ((n : Int) + (-1))), (0, ar 73), (1, ar (43 + t.toNat)), (2, ai m)]) dX4_lastDeparture_39 rfl rfl (Nat.le_of_ble_eq_true rfl) rfl ?_
        refine a_goto (tgt := 7) dX4_lastDeparture_42 (by decide) ?_
        refine a_keep (ls' := [(3, ai ((n : Int) - 1)), (0, ar 73), (1, ar (43 + t.toNat)), (2, ai m)]) (by simp; omega) (ih (by omega) (by rw [hV]; show (if AR ρ t 4 (K.getD n 0) ≤ m then _ else _) = _; rw [if_neg (by omega)]))
      · refine a_aload_n dX4_lastDeparture_27 rfl rfl ?_
        refine a_getF (d := 79) fX4_27 k73 rfl r73_9 dX4_lastDeparture_28 ?_
        refine a_aload_n dX4_lastDeparture_31 rfl rfl ?_
        refine a_getF (d := 78) fX4_24 k73 rfl r73_8 dX4_lastDeparture_32 ?_
        refine a_iload_n dX4_lastDeparture_35 rfl rfl ?_
        refine a_ild k78 n78 (by omega) (by omega) dX4_lastDeparture_36 ?_
        refine a_topI (y := K.getD n 0) hk.1 ?_
        refine a_ild k79 n79 (by omega) (by omega) dX4_lastDeparture_37 ?_
        refine a_topI (y := dpF ρ s (K.getD n 0)) hk.2.1 ?_
        exact a_iret rfl ⟨by rw [hV]; show _ = some (ai (if AR ρ t 4 (K.getD n 0) ≤ m then _ else _)); rw [if_pos (by omega)], rfl⟩ dX4_lastDeparture_38

set_option maxRecDepth 20000 in
theorem c_lastDeparture (σ ρ : Sto) (hW : WV ρ) (s t : Int) (K : List Int) (ht0 : 0 ≤ t) (ht1 : t < gN ρ 155 0) (hOt : OtR σ ρ t 5) (hOr : OrR σ ρ s K) (hK : ∀ x ∈ K, (0 ≤ x ∧ x < gN ρ 155 3) ∧ 0 ≤ dpF ρ s x ∧ dpF ρ s x ≤ 4000) (hKl : (K.length : Int) ≤ 60) (m : Int) (hm : inR m) : MetI mX4_lastDeparture [ar 73, ar (43 + t.toNat), ai m] σ (ldF ρ s t K m K.length) σ := by
  refine a_entry (by decide) (Nat.le_of_ble_eq_true rfl) ?_
  refine a_ls (ls' := [(0, ar 73), (1, ar (43 + t.toNat)), (2, ai m)]) rfl ?_
  refine a_aload_n dX4_lastDeparture_0 rfl rfl ?_
  refine a_getI (J := 7) fX4_43 k73 rfl rfl dX4_lastDeparture_1 ?_
  refine a_topI (y := (K.length : Int)) hOr.1 ?_
  refine a_iconst dX4_lastDeparture_4 ?_
  refine a_isub dX4_lastDeparture_5 ?_
  refine a_istore_n (ls' := [(3, ai ((K.length : Int) - 1)), (0, ar 73), (1, ar (43 + t.toNat)), (2, ai m)]) dX4_lastDeparture_6 rfl (Nat.le_of_ble_eq_true rfl) rfl ?_
  exact a_keep (by simp) (c_ld_l σ ρ hW s t K ht0 ht1 hOt hOr hK hKl m _ hm K.length (Nat.le_refl _) rfl)

set_option maxRecDepth 20000 in
theorem c_sb_l (σ ρ : Sto) (hW : WV ρ) (s t : Int) (K : List Int) (ht0 : 0 ≤ t) (ht1 : t < gN ρ 155 0) (hOt : OtR σ ρ t 5) (hOr : OrR σ ρ s K) (hK : ∀ x ∈ K, (0 ≤ x ∧ x < gN ρ 155 3) ∧ 0 ≤ dpF ρ s x ∧ dpF ρ s x ≤ 4000) (hKl : (K.length : Int) ≤ 60) (m V : Int) (hm : inR m) : ∀ (n : Nat) (b : Int), n ≤ K.length → -1000 ≤ b → b ≤ 1000000 → V = sbF ρ s t K m n b → RunA mX4_soonestBehind (qI V σ) 11 [(4, ai ((n : Int) - 1)), (0, ar 73), (1, ar (43 + t.toNat)), (2, ai m), (3, ai b)] [] σ := by
  have hR := hW.R
  have hS := hW.S
  intro n
  induction n with
  | zero =>
    intro b hn hb0 hb1 hV
    refine a_iload dX4_soonestBehind_11 rfl ?_
    refine a_if_lt (tgt := 56) dX4_soonestBehind_13 (by decide) (inR_of (by omega) (by omega)) (fun c13 => ?_) (fun c13 => ?_)
    · refine a_iload_n dX4_soonestBehind_56 rfl rfl ?_
      exact a_iret rfl ⟨by rw [hV]; rfl, rfl⟩ dX4_soonestBehind_57
    · exfalso; omega
  | succ n ih =>
    intro b hn hb0 hb1 hV
    refine a_keep (ls' := [(4, ai (n : Int)), (0, ar 73), (1, ar (43 + t.toNat)), (2, ai m), (3, ai b)]) (by simp) ?_
    refine a_iload dX4_soonestBehind_11 rfl ?_
    refine a_if_lt (tgt := 56) dX4_soonestBehind_13 (by decide) (inR_of (by omega) (by omega)) (fun c13 => ?_) (fun c13 => ?_)
    · exfalso; omega
    · have hk := hOr.at (k := (n : Int)) (by omega) (by omega)
      rw [show ((n : Int)).toNat = n from Int.toNat_natCast n] at hk
      have bk := hK _ hk.2.2
      have ba := AR_rng hW ht0 ht1 4 (r := K.getD n 0) (by omega) (by omega)
      refine a_aload_n dX4_soonestBehind_16 rfl rfl ?_
      refine a_getF (d := 79) fX4_27 k73 rfl r73_9 dX4_soonestBehind_17 ?_
      refine a_aload_n dX4_soonestBehind_20 rfl rfl ?_
      refine a_getF (d := 78) fX4_24 k73 rfl r73_8 dX4_soonestBehind_21 ?_
      refine a_iload dX4_soonestBehind_24 rfl ?_
      refine a_ild k78 n78 (by omega) (by omega) dX4_soonestBehind_26 ?_
      refine a_topI (y := K.getD n 0) hk.1 ?_
      refine a_ild k79 n79 (by omega) (by omega) dX4_soonestBehind_27 ?_
      refine a_topI (y := dpF ρ s (K.getD n 0)) hk.2.1 ?_
      refine a_iload_n dX4_soonestBehind_28 rfl rfl ?_
      refine a_icmp_le (tgt := 56) dX4_soonestBehind_29 (by decide) (inR_of (by omega) (by omega)) hm (fun c29 => ?_) (fun c29 => ?_)
      · refine a_iload_n dX4_soonestBehind_56 rfl rfl ?_
        exact a_iret rfl ⟨by rw [hV]; show _ = some (ai (if dpF ρ s (K.getD n 0) ≤ m then _ else _)); rw [if_pos (by omega)], rfl⟩ dX4_soonestBehind_57
      · refine a_iload_n dX4_soonestBehind_32 rfl rfl ?_
        refine a_aload_n dX4_soonestBehind_33 rfl rfl ?_
        refine a_sipush (x := 240) dX4_soonestBehind_34 (by decide) ?_
        refine a_aload_n dX4_soonestBehind_37 rfl rfl ?_
        refine a_getF (d := 78) fX4_24 k73 rfl r73_8 dX4_soonestBehind_38 ?_
        refine a_iload dX4_soonestBehind_41 rfl ?_
        refine a_ild k78 n78 (by omega) (by omega) dX4_soonestBehind_43 ?_
        refine a_topI (y := K.getD n 0) hk.1 ?_
        refine a_iadd dX4_soonestBehind_44 ?_
        refine a_ild (kR43 (by omega) (by omega)) (nR43 (by omega) (by omega)) (by omega) (by omega) dX4_soonestBehind_45 ?_
        refine a_topI (y := AR ρ t 4 (K.getD n 0)) (hOt.at4 (by omega) (by omega)) ?_
        refine a_mmin lm4_102 (inR_of (by omega) (by omega)) (inR_of (by omega) (by omega)) (Nat.le_of_ble_eq_true rfl) (Nat.le_of_ble_eq_true rfl) (Nat.le_of_ble_eq_true rfl) dX4_soonestBehind_46 ?_
        refine a_istore_n (ls' := [(3, ai (if AR ρ t 4 (K.getD n 0) < b then AR ρ t 4 (K.getD n 0) else b)), (4, ai (n : Int)), (0, ar 73), (1, ar (43 + t.toNat)), (2, ai m)]) dX4_soonestBehind_49 rfl (Nat.le_of_ble_eq_true rfl) rfl ?_
        refine a_iinc (y := (n : Int) + (-1)) (ls' := [(4, ai ((n : Int) + (-1))), (3, ai (if AR ρ t 4 (K.getD n 0) < b then AR ρ t 4 (K.getD n 0) else b)), (0, ar 73), (1, ar (43 + t.toNat)), (2, ai m)]) dX4_soonestBehind_50 rfl rfl (Nat.le_of_ble_eq_true rfl) rfl ?_
        refine a_goto (tgt := 11) dX4_soonestBehind_53 (by decide) ?_
        refine a_keep (ls' := [(4, ai ((n : Int) - 1)), (0, ar 73), (1, ar (43 + t.toNat)), (2, ai m), (3, ai (if AR ρ t 4 (K.getD n 0) < b then AR ρ t 4 (K.getD n 0) else b))]) (by simp; omega) (ih (if AR ρ t 4 (K.getD n 0) < b then AR ρ t 4 (K.getD n 0) else b) (by omega) (by split <;> omega) (by split <;> omega) (by rw [hV]; show (if dpF ρ s (K.getD n 0) ≤ m then _ else _) = _; rw [if_neg (by omega)]))

set_option maxRecDepth 20000 in
theorem c_soonestBehind (σ ρ : Sto) (hW : WV ρ) (s t : Int) (K : List Int) (ht0 : 0 ≤ t) (ht1 : t < gN ρ 155 0) (hOt : OtR σ ρ t 5) (hOr : OrR σ ρ s K) (hK : ∀ x ∈ K, (0 ≤ x ∧ x < gN ρ 155 3) ∧ 0 ≤ dpF ρ s x ∧ dpF ρ s x ≤ 4000) (hKl : (K.length : Int) ≤ 60) (m : Int) (hm : inR m) : MetI mX4_soonestBehind [ar 73, ar (43 + t.toNat), ai m] σ (sbF ρ s t K m K.length 1000000) σ := by
  refine a_entry (by decide) (Nat.le_of_ble_eq_true rfl) ?_
  refine a_ls (ls' := [(0, ar 73), (1, ar (43 + t.toNat)), (2, ai m)]) rfl ?_
  refine a_ldc (x := 1000000) cX4_87 (by decide) dX4_soonestBehind_0 ?_
  refine a_istore_n (ls' := [(3, ai 1000000), (0, ar 73), (1, ar (43 + t.toNat)), (2, ai m)]) dX4_soonestBehind_2 rfl (Nat.le_of_ble_eq_true rfl) rfl ?_
  refine a_aload_n dX4_soonestBehind_3 rfl rfl ?_
  refine a_getI (J := 7) fX4_43 k73 rfl rfl dX4_soonestBehind_4 ?_
  refine a_topI (y := (K.length : Int)) hOr.1 ?_
  refine a_iconst dX4_soonestBehind_7 ?_
  refine a_isub dX4_soonestBehind_8 ?_
  refine a_istore (ls' := [(4, ai ((K.length : Int) - 1)), (3, ai 1000000), (0, ar 73), (1, ar (43 + t.toNat)), (2, ai m)]) dX4_soonestBehind_9 (Nat.le_of_ble_eq_true rfl) rfl ?_
  exact a_keep (by simp) (c_sb_l σ ρ hW s t K ht0 ht1 hOt hOr hK hKl m _ hm K.length 1000000 (Nat.le_refl _) (by omega) (by omega) rfl)

set_option maxRecDepth 20000 in
theorem c_mw_i (σ ρ : Sto) (hW : WV ρ) (s t : Int) (K : List Int) (ht0 : 0 ≤ t) (ht1 : t < gN ρ 155 0) (hOt : OtR σ ρ t 5) (hOr : OrR σ ρ s K) (hK : ∀ x ∈ K, (0 ≤ x ∧ x < gN ρ 155 3) ∧ 0 ≤ dpF ρ s x ∧ dpF ρ s x ≤ 4000) (hKl : (K.length : Int) ≤ 60) (Q : Option Av → Sto → Prop) (wk a e m sum mi : Int) (Z : Nat × Int) (hm0 : 0 ≤ m) (hm1 : m ≤ 1440) (hx : RunA mX4_meanWay Q 78 [(0, ar 73), (1, ar (43 + t.toNat)), (2, ai wk), (3, ai a), (4, ai e), (9, ai m), (7, ai sum), (8, ai mi), (5, ai Z.2), (6, ai ((Z.1 : Int) - 1))] [] σ) : ∀ (n : Nat) (b : Int), n ≤ K.length → -1000 ≤ b → b ≤ 1000000 → Z = mwI ρ s t K m n b → RunA mX4_meanWay Q 30 [(6, ai ((n : Int) - 1)), (0, ar 73), (1, ar (43 + t.toNat)), (2, ai wk), (3, ai a), (4, ai e), (9, ai m), (7, ai sum), (8, ai mi), (5, ai b)] [] σ := by
  have hR := hW.R
  have hS := hW.S
  intro n
  induction n with
  | zero =>
    intro b hn hb0 hb1 hV
    refine a_iload dX4_meanWay_30 rfl ?_
    refine a_if_lt (tgt := 78) dX4_meanWay_32 (by decide) (inR_of (by omega) (by omega)) (fun c32 => ?_) (fun c32 => ?_)
    · have hV2 : Z = (0, b) := hV
      rw [hV2] at hx
      exact a_keep (by simp) hx
    · exfalso; omega
  | succ n ih =>
    intro b hn hb0 hb1 hV
    refine a_keep (ls' := [(6, ai (n : Int)), (0, ar 73), (1, ar (43 + t.toNat)), (2, ai wk), (3, ai a), (4, ai e), (9, ai m), (7, ai sum), (8, ai mi), (5, ai b)]) (by simp) ?_
    refine a_iload dX4_meanWay_30 rfl ?_
    refine a_if_lt (tgt := 78) dX4_meanWay_32 (by decide) (inR_of (by omega) (by omega)) (fun c32 => ?_) (fun c32 => ?_)
    · exfalso; omega
    · have hk := hOr.at (k := (n : Int)) (by omega) (by omega)
      rw [show ((n : Int)).toNat = n from Int.toNat_natCast n] at hk
      have bk := hK _ hk.2.2
      have ba := AR_rng hW ht0 ht1 4 (r := K.getD n 0) (by omega) (by omega)
      refine a_aload_n dX4_meanWay_35 rfl rfl ?_
      refine a_getF (d := 79) fX4_27 k73 rfl r73_9 dX4_meanWay_36 ?_
      refine a_aload_n dX4_meanWay_39 rfl rfl ?_
      refine a_getF (d := 78) fX4_24 k73 rfl r73_8 dX4_meanWay_40 ?_
      refine a_iload dX4_meanWay_43 rfl ?_
      refine a_ild k78 n78 (by omega) (by omega) dX4_meanWay_45 ?_
      refine a_topI (y := K.getD n 0) hk.1 ?_
      refine a_ild k79 n79 (by omega) (by omega) dX4_meanWay_46 ?_
      refine a_topI (y := dpF ρ s (K.getD n 0)) hk.2.1 ?_
      refine a_iload dX4_meanWay_47 rfl ?_
      refine a_icmp_lt (tgt := 78) dX4_meanWay_49 (by decide) (inR_of (by omega) (by omega)) (inR_of (by omega) (by omega)) (fun c49 => ?_) (fun c49 => ?_)
      · have hV2 : Z = (n + 1, b) := by rw [hV]; show (if dpF ρ s (K.getD n 0) < m then _ else _) = _; rw [if_pos (by omega)]
        rw [hV2] at hx
        exact a_keep (by simp) hx
      · refine a_iload dX4_meanWay_52 rfl ?_
        refine a_aload_n dX4_meanWay_54 rfl rfl ?_
        refine a_sipush (x := 240) dX4_meanWay_55 (by decide) ?_
        refine a_aload_n dX4_meanWay_58 rfl rfl ?_
        refine a_getF (d := 78) fX4_24 k73 rfl r73_8 dX4_meanWay_59 ?_
        refine a_iload dX4_meanWay_62 rfl ?_
        refine a_ild k78 n78 (by omega) (by omega) dX4_meanWay_64 ?_
        refine a_topI (y := K.getD n 0) hk.1 ?_
        refine a_iadd dX4_meanWay_65 ?_
        refine a_ild (kR43 (by omega) (by omega)) (nR43 (by omega) (by omega)) (by omega) (by omega) dX4_meanWay_66 ?_
        refine a_topI (y := AR ρ t 4 (K.getD n 0)) (hOt.at4 (by omega) (by omega)) ?_
        refine a_mmin lm4_102 (inR_of (by omega) (by omega)) (inR_of (by omega) (by omega)) (Nat.le_of_ble_eq_true rfl) (Nat.le_of_ble_eq_true rfl) (Nat.le_of_ble_eq_true rfl) dX4_meanWay_67 ?_
        refine a_istore (ls' := [(5, ai (if AR ρ t 4 (K.getD n 0) < b then AR ρ t 4 (K.getD n 0) else b)), (6, ai (n : Int)), (0, ar 73), (1, ar (43 + t.toNat)), (2, ai wk), (3, ai a), (4, ai e), (9, ai m), (7, ai sum), (8, ai mi)]) dX4_meanWay_70 (Nat.le_of_ble_eq_true rfl) rfl ?_
        refine a_iinc (y := (n : Int) + (-1)) (ls' := [(6, ai ((n : Int) + (-1))), (5, ai (if AR ρ t 4 (K.getD n 0) < b then AR ρ t 4 (K.getD n 0) else b)), (0, ar 73), (1, ar (43 + t.toNat)), (2, ai wk), (3, ai a), (4, ai e), (9, ai m), (7, ai sum), (8, ai mi)]) dX4_meanWay_72 rfl rfl (Nat.le_of_ble_eq_true rfl) rfl ?_
        refine a_goto (tgt := 30) dX4_meanWay_75 (by decide) ?_
        refine a_keep (ls' := [(6, ai ((n : Int) - 1)), (0, ar 73), (1, ar (43 + t.toNat)), (2, ai wk), (3, ai a), (4, ai e), (9, ai m), (7, ai sum), (8, ai mi), (5, ai (if AR ρ t 4 (K.getD n 0) < b then AR ρ t 4 (K.getD n 0) else b))]) (by simp; omega) (ih (if AR ρ t 4 (K.getD n 0) < b then AR ρ t 4 (K.getD n 0) else b) (by omega) (by split <;> omega) (by split <;> omega) (by rw [hV]; show (if dpF ρ s (K.getD n 0) < m then _ else _) = _; rw [if_neg (by omega)]))

theorem mwI_rng {ρ : Sto} (hW : WV ρ) {s t : Int} {K : List Int} (ht0 : 0 ≤ t) (ht1 : t < gN ρ 155 0) (hK : ∀ x ∈ K, 0 ≤ x ∧ x < gN ρ 155 3) {m : Int} : ∀ (n : Nat) (b : Int), n ≤ K.length → -1000 ≤ b → b ≤ 1000000 → (mwI ρ s t K m n b).1 ≤ n ∧ -1000 ≤ (mwI ρ s t K m n b).2 ∧ (mwI ρ s t K m n b).2 ≤ 1000000
  | 0, b, _, h0, h1 => ⟨Nat.le_refl 0, h0, h1⟩
  | n + 1, b, h, h0, h1 => by
    have hk := hK (K.getD n 0) (by rw [List.getD_eq_getElem?_getD, List.getElem?_eq_getElem (by omega)]; exact List.getElem_mem _)
    have ba := AR_rng hW ht0 ht1 4 hk.1 hk.2
    unfold mwI
    split
    · exact ⟨Nat.le_refl _, h0, h1⟩
    · have := mwI_rng hW (s := s) (m := m) ht0 ht1 hK n (if AR ρ t 4 (K.getD n 0) < b then AR ρ t 4 (K.getD n 0) else b) (by omega) (by split <;> omega) (by split <;> omega)
      exact ⟨by omega, this.2⟩

set_option maxRecDepth 20000 in
theorem c_mw_o (σ ρ : Sto) (hW : WV ρ) (s t : Int) (K : List Int) (ht0 : 0 ≤ t) (ht1 : t < gN ρ 155 0) (hOt : OtR σ ρ t 5) (hOr : OrR σ ρ s K) (hK : ∀ x ∈ K, (0 ≤ x ∧ x < gN ρ 155 3) ∧ 0 ≤ dpF ρ s x ∧ dpF ρ s x ≤ 4000) (hKl : (K.length : Int) ≤ 60) (wk a e V : Int) (hw0 : 0 ≤ wk) (hw1 : wk ≤ 1000000) (ha0 : 0 ≤ a) (ha1 : a ≤ 1440) : ∀ (d : Nat) (m : Int) (n : Nat) (b sum mi : Int), n ≤ K.length → -1000 ≤ b → b ≤ 1000000 → a - 1 ≤ m → m ≤ 1439 → d = (m - a + 1).toNat → (0 ≤ mi ∧ mi ≤ 1439 - m) → V = mwR (mwF ρ s t wk K d m (n, b, sum, mi)) → RunA mX4_meanWay (qI V σ) 24 [(9, ai m), (6, ai ((n : Int) - 1)), (5, ai b), (7, ai sum), (8, ai mi), (0, ar 73), (1, ar (43 + t.toNat)), (2, ai wk), (3, ai a), (4, ai e)] [] σ := by
  have hR := hW.R
  have hS := hW.S
  intro d
  induction d with
  | zero =>
    intro m n b sum mi hn hb0 hb1 hm0 hm1 hd hmi hV
    refine a_iload dX4_meanWay_24 rfl ?_
    refine a_iload_n dX4_meanWay_26 rfl rfl ?_
    refine a_icmp_lt (tgt := 115) dX4_meanWay_27 (by decide) (inR_of (by omega) (by omega)) (inR_of (by omega) (by omega)) (fun c27 => ?_) (fun c27 => ?_)
    · refine a_iload dX4_meanWay_115 rfl ?_
      refine a_if_ne (tgt := 125) dX4_meanWay_117 (by decide) (inR_of (by omega) (by omega)) (fun c117 => ?_) (fun c117 => ?_)
      · refine a_iload dX4_meanWay_125 rfl ?_
        refine a_iload dX4_meanWay_127 rfl ?_
        refine a_idiv (z := (Int32.ofInt sum / Int32.ofInt mi).toInt) dX4_meanWay_129 (by intro z; have z2 := congrArg Int32.toInt z; rw [toInt_of_inR (inR_of (by omega) (by omega))] at z2; exact absurd z2 (by show ¬ mi = 0; omega)) (Int32.ofInt_toInt _).symm ?_
        exact a_iret rfl ⟨by rw [hV]; show _ = some (ai (mwR (n, b, sum, mi))); unfold mwR; dsimp only; rw [if_neg (by omega)], rfl⟩ dX4_meanWay_130
      · refine a_bipush (x := (-2)) dX4_meanWay_120 (by decide) ?_
        refine a_goto (tgt := 130) dX4_meanWay_122 (by decide) ?_
        exact a_iret rfl ⟨by rw [hV]; show _ = some (ai (mwR (n, b, sum, mi))); unfold mwR; dsimp only; rw [if_pos (by omega)], rfl⟩ dX4_meanWay_130
    · exfalso; omega
  | succ d ih =>
    intro m n b sum mi hn hb0 hb1 hm0 hm1 hd hmi hV
    refine a_iload dX4_meanWay_24 rfl ?_
    refine a_iload_n dX4_meanWay_26 rfl rfl ?_
    refine a_icmp_lt (tgt := 115) dX4_meanWay_27 (by decide) (inR_of (by omega) (by omega)) (inR_of (by omega) (by omega)) (fun c27 => ?_) (fun c27 => ?_)
    · exfalso; omega
    · have hz := mwI_rng hW (s := s) (m := m) ht0 ht1 (fun x hx => (hK x hx).1) n b hn hb0 hb1
      refine a_keep (ls' := [(6, ai ((n : Int) - 1)), (0, ar 73), (1, ar (43 + t.toNat)), (2, ai wk), (3, ai a), (4, ai e), (9, ai m), (7, ai sum), (8, ai mi), (5, ai b)]) (by simp) ?_
      refine c_mw_i σ ρ hW s t K ht0 ht1 hOt hOr hK hKl _ wk a e m sum mi (mwI ρ s t K m n b) (by omega) (by omega) ?_ n b hn hb0 hb1 rfl
      refine a_iload dX4_meanWay_78 rfl ?_
      refine a_iload dX4_meanWay_80 rfl ?_
      refine a_isub dX4_meanWay_82 ?_
      refine a_iload_n dX4_meanWay_83 rfl rfl ?_
      refine a_mmin lm4_102 (inR_of (by omega) (by omega)) (inR_of (by omega) (by omega)) (Nat.le_of_ble_eq_true rfl) (Nat.le_of_ble_eq_true rfl) (Nat.le_of_ble_eq_true rfl) dX4_meanWay_84 ?_
      refine a_topI (y := mwW wk m (mwI ρ s t K m n b).2) (by unfold mwW; rfl) ?_
      have hww : -3000 ≤ mwW wk m (mwI ρ s t K m n b).2 ∧ mwW wk m (mwI ρ s t K m n b).2 ≤ 1000000 := by unfold mwW; split <;> omega
      refine a_istore (ls' := [(10, ai (mwW wk m (mwI ρ s t K m n b).2)), (0, ar 73), (1, ar (43 + t.toNat)), (2, ai wk), (3, ai a), (4, ai e), (9, ai m), (7, ai sum), (8, ai mi), (5, ai ((mwI ρ s t K m n b).2)), (6, ai (((mwI ρ s t K m n b).1 : Int) - 1))]) dX4_meanWay_87 (Nat.le_of_ble_eq_true rfl) rfl ?_
      refine a_iload dX4_meanWay_89 rfl ?_
      refine a_iload dX4_meanWay_91 rfl ?_
      refine a_iadd dX4_meanWay_93 ?_
      refine a_ldc (x := 1000000) cX4_87 (by decide) dX4_meanWay_94 ?_
      refine a_icmp_ge (tgt := 109) dX4_meanWay_96 (by decide) (inR_of (by omega) (by omega)) (inR_of (by omega) (by omega)) (fun c96 => ?_) (fun c96 => ?_)
      · refine a_iinc (y := m + (-1)) (ls' := [(9, ai (m + (-1))), (10, ai (mwW wk m (mwI ρ s t K m n b).2)), (0, ar 73), (1, ar (43 + t.toNat)), (2, ai wk), (3, ai a), (4, ai e), (7, ai sum), (8, ai mi), (5, ai ((mwI ρ s t K m n b).2)), (6, ai (((mwI ρ s t K m n b).1 : Int) - 1))]) dX4_meanWay_109 rfl rfl (Nat.le_of_ble_eq_true rfl) rfl ?_
        refine a_goto (tgt := 24) dX4_meanWay_112 (by decide) ?_
        have eS : mwS ρ s t wk K m (n, b, sum, mi) = ((mwI ρ s t K m n b).1, (mwI ρ s t K m n b).2, sum, mi) := if_neg (by dsimp only; omega)
        refine a_keep (ls' := [(9, ai (m - 1)), (6, ai (((mwI ρ s t K m n b).1 : Int) - 1)), (5, ai ((mwI ρ s t K m n b).2)), (7, ai sum), (8, ai mi), (0, ar 73), (1, ar (43 + t.toNat)), (2, ai wk), (3, ai a), (4, ai e)]) (by simp; omega) (ih (m - 1) (mwI ρ s t K m n b).1 (mwI ρ s t K m n b).2 (sum) (mi) (by omega) (by omega) (by omega) (by omega) (by omega) (by omega) (by omega) (by rw [hV]; show mwR (mwF ρ s t wk K d (m - 1) (mwS ρ s t wk K m (n, b, sum, mi))) = _; rw [eS]))
      · refine a_iload dX4_meanWay_99 rfl ?_
        refine a_iload dX4_meanWay_101 rfl ?_
        refine a_iadd dX4_meanWay_103 ?_
        refine a_istore (ls' := [(7, ai (sum + (mwW wk m (mwI ρ s t K m n b).2))), (10, ai (mwW wk m (mwI ρ s t K m n b).2)), (0, ar 73), (1, ar (43 + t.toNat)), (2, ai wk), (3, ai a), (4, ai e), (9, ai m), (8, ai mi), (5, ai ((mwI ρ s t K m n b).2)), (6, ai (((mwI ρ s t K m n b).1 : Int) - 1))]) dX4_meanWay_104 (Nat.le_of_ble_eq_true rfl) rfl ?_
        refine a_iinc (y := mi + 1) (ls' := [(8, ai (mi + 1)), (7, ai (sum + (mwW wk m (mwI ρ s t K m n b).2))), (10, ai (mwW wk m (mwI ρ s t K m n b).2)), (0, ar 73), (1, ar (43 + t.toNat)), (2, ai wk), (3, ai a), (4, ai e), (9, ai m), (5, ai ((mwI ρ s t K m n b).2)), (6, ai (((mwI ρ s t K m n b).1 : Int) - 1))]) dX4_meanWay_106 rfl rfl (Nat.le_of_ble_eq_true rfl) rfl ?_
        refine a_iinc (y := m + (-1)) (ls' := [(9, ai (m + (-1))), (8, ai (mi + 1)), (7, ai (sum + (mwW wk m (mwI ρ s t K m n b).2))), (10, ai (mwW wk m (mwI ρ s t K m n b).2)), (0, ar 73), (1, ar (43 + t.toNat)), (2, ai wk), (3, ai a), (4, ai e), (5, ai ((mwI ρ s t K m n b).2)), (6, ai (((mwI ρ s t K m n b).1 : Int) - 1))]) dX4_meanWay_109 rfl rfl (Nat.le_of_ble_eq_true rfl) rfl ?_
        refine a_goto (tgt := 24) dX4_meanWay_112 (by decide) ?_
        have eS : mwS ρ s t wk K m (n, b, sum, mi) = ((mwI ρ s t K m n b).1, (mwI ρ s t K m n b).2, sum + (mwW wk m (mwI ρ s t K m n b).2), mi + 1) := if_pos (by dsimp only; omega)
        refine a_keep (ls' := [(9, ai (m - 1)), (6, ai (((mwI ρ s t K m n b).1 : Int) - 1)), (5, ai ((mwI ρ s t K m n b).2)), (7, ai (sum + (mwW wk m (mwI ρ s t K m n b).2))), (8, ai (mi + 1)), (0, ar 73), (1, ar (43 + t.toNat)), (2, ai wk), (3, ai a), (4, ai e)]) (by simp; omega) (ih (m - 1) (mwI ρ s t K m n b).1 (mwI ρ s t K m n b).2 (sum + (mwW wk m (mwI ρ s t K m n b).2)) (mi + 1) (by omega) (by omega) (by omega) (by omega) (by omega) (by omega) (by omega) (by rw [hV]; show mwR (mwF ρ s t wk K d (m - 1) (mwS ρ s t wk K m (n, b, sum, mi))) = _; rw [eS]))

set_option maxRecDepth 20000 in
theorem c_meanWay (σ ρ : Sto) (hW : WV ρ) (s t : Int) (K : List Int) (ht0 : 0 ≤ t) (ht1 : t < gN ρ 155 0) (hOt : OtR σ ρ t 5) (hOr : OrR σ ρ s K) (hK : ∀ x ∈ K, (0 ≤ x ∧ x < gN ρ 155 3) ∧ 0 ≤ dpF ρ s x ∧ dpF ρ s x ≤ 4000) (hKl : (K.length : Int) ≤ 60) (wk a e : Int) (hw0 : 0 ≤ wk) (hw1 : wk ≤ 1000000) (ha0 : 0 ≤ a) (hae : a < e) (he : e ≤ 1440) : MetI mX4_meanWay [ar 73, ar (43 + t.toNat), ai wk, ai a, ai e] σ (mwR (mwF ρ s t wk K (e - a).toNat (e - 1) (K.length, 1000000, 0, 0))) σ := by
  refine a_entry (by decide) (Nat.le_of_ble_eq_true rfl) ?_
  refine a_ls (ls' := [(0, ar 73), (1, ar (43 + t.toNat)), (2, ai wk), (3, ai a), (4, ai e)]) rfl ?_
  refine a_ldc (x := 1000000) cX4_87 (by decide) dX4_meanWay_0 ?_
  refine a_istore (ls' := [(5, ai 1000000), (0, ar 73), (1, ar (43 + t.toNat)), (2, ai wk), (3, ai a), (4, ai e)]) dX4_meanWay_2 (Nat.le_of_ble_eq_true rfl) rfl ?_
  refine a_aload_n dX4_meanWay_4 rfl rfl ?_
  refine a_getI (J := 7) fX4_43 k73 rfl rfl dX4_meanWay_5 ?_
  refine a_topI (y := (K.length : Int)) hOr.1 ?_
  refine a_iconst dX4_meanWay_8 ?_
  refine a_isub dX4_meanWay_9 ?_
  refine a_istore (ls' := [(6, ai ((K.length : Int) - 1)), (5, ai 1000000), (0, ar 73), (1, ar (43 + t.toNat)), (2, ai wk), (3, ai a), (4, ai e)]) dX4_meanWay_10 (Nat.le_of_ble_eq_true rfl) rfl ?_
  refine a_iconst dX4_meanWay_12 ?_
  refine a_istore (ls' := [(7, ai 0), (6, ai ((K.length : Int) - 1)), (5, ai 1000000), (0, ar 73), (1, ar (43 + t.toNat)), (2, ai wk), (3, ai a), (4, ai e)]) dX4_meanWay_13 (Nat.le_of_ble_eq_true rfl) rfl ?_
  refine a_iconst dX4_meanWay_15 ?_
  refine a_istore (ls' := [(8, ai 0), (7, ai 0), (6, ai ((K.length : Int) - 1)), (5, ai 1000000), (0, ar 73), (1, ar (43 + t.toNat)), (2, ai wk), (3, ai a), (4, ai e)]) dX4_meanWay_16 (Nat.le_of_ble_eq_true rfl) rfl ?_
  refine a_iload dX4_meanWay_18 rfl ?_
  refine a_iconst dX4_meanWay_20 ?_
  refine a_isub dX4_meanWay_21 ?_
  refine a_istore (ls' := [(9, ai (e - 1)), (8, ai 0), (7, ai 0), (6, ai ((K.length : Int) - 1)), (5, ai 1000000), (0, ar 73), (1, ar (43 + t.toNat)), (2, ai wk), (3, ai a), (4, ai e)]) dX4_meanWay_22 (Nat.le_of_ble_eq_true rfl) rfl ?_
  exact a_keep (by simp) (c_mw_o σ ρ hW s t K ht0 ht1 hOt hOr hK hKl wk a e _ hw0 hw1 ha0 (by omega) (e - a).toNat (e - 1) K.length 1000000 0 0 (Nat.le_refl _) (by omega) (by omega) (by omega) (by omega) (by omega) (by omega) rfl)

