theorem joinR {P : Sto → Prop} {ls' : List (Nat × Av)} {st' : List Av} {pc' : Nat} {M : Mth} {Q : Option Av → Sto → Prop} {pc : Nat} {ls : List (Nat × Av)} {st : List Av} {σ : Sto} (k : ∀ υ : Sto, P υ → RunA M Q pc' ls' st' υ) (h : (∀ υ : Sto, P υ → RunA M Q pc' ls' st' υ) → RunA M Q pc ls st σ) : RunA M Q pc ls st σ := h k
theorem joinV {α : Type} {P : Sto → α → Prop} {ls' : α → List (Nat × Av)} {st' : α → List Av} {pc' : Nat} {M : Mth} {Q : Option Av → Sto → Prop} {pc : Nat} {ls : List (Nat × Av)} {st : List Av} {σ : Sto} (k : ∀ (υ : Sto) (x : α), P υ x → RunA M Q pc' (ls' x) (st' x) υ) (h : (∀ (υ : Sto) (x : α), P υ x → RunA M Q pc' (ls' x) (st' x) υ) → RunA M Q pc ls st σ) : RunA M Q pc ls st σ := h k

theorem RD.px {σ u : Sto} {q : RS} (h : RD σ u q) {k : Int} (hk : inR k) : RD σ (sN (sN u 153 12 k) 153 13 q.pl) (q.wX k q.pl) := by
  refine ⟨(h.F.sN (Or.inr (Or.inr ⟨rfl, by omega, by omega⟩))).sN (Or.inr (Or.inr ⟨rfl, by omega, by omega⟩)), ?_, ?_, ?_, ?_, ?_, ?_, ?_, ?_, ?_⟩
  · rw [gN_sN, if_neg (by omega), gN_sN, if_neg (by omega)]; exact h.at_
  · rw [gN_sN, if_neg (by omega), gN_sN, if_neg (by omega)]; exact h.pl
  · rw [gN_sN, if_neg (by omega), gN_sN, if_neg (by omega)]; exact h.so
  · rw [gN_sN, if_neg (by omega), gN_sN, if_neg (by omega)]; exact h.va
  · rw [gN_sN, if_neg (by omega), gN_sN, if_neg (by omega)]; exact h.wo
  · rw [gN_sN, if_neg (by omega), gN_sN, if_pos ⟨rfl, rfl⟩, nrm_of hk]; rfl
  · rw [gN_sN, if_pos ⟨rfl, rfl⟩, nrm_of h.ipl]; rfl
  · intro j h0 h1; rw [gN_sN, if_neg (by omega), gN_sN, if_neg (by omega)]; exact h.f j h0 h1
  · intro j h0 h1; rw [gN_sN, if_neg (by omega), gN_sN, if_neg (by omega)]; exact h.nm j h0 h1
theorem nmd_rng {σ : Sto} {q : RS} (hO : ROK σ q) : -1 ≤ nmdF q ∧ nmdF q < 10 ∧ nmdF q < q.f 0 ∨ nmdF q = -1 := by
  have h : ∀ (n : Nat) (k : Int), 0 ≤ k → k + n = q.f 0 → (-1 ≤ fs2 (fun k => decide (q.nm k = q.wo)) (-1) n k ∧ fs2 (fun k => decide (q.nm k = q.wo)) (-1) n k < q.f 0) ∨ fs2 (fun k => decide (q.nm k = q.wo)) (-1) n k = -1 := by
    intro n
    induction n with
    | zero => intro k _ _; right; rfl
    | succ n ih =>
      intro k h0 h1
      unfold fs2
      split
      · left; omega
      · exact ih (k + 1) (by omega) (by omega)
  have a := hO.f0
  have b := h (q.f 0).toNat 0 (by omega) (by omega)
  unfold nmdF
  omega
theorem RD.tk7 {σ u : Sto} {q : RS} (h : RD σ u q) : (gN u 153 7, gN u 153 8, gN u 153 9, gN u 153 10, gN u 153 11) = q.tk := by
  rw [h.at_, h.pl, h.so, h.va, h.wo]
  rfl
theorem RD.tokd {σ u v : Sto} {q : RS} (h : RD σ u q) (hF : Fr pTk u v) (hk : TkIs v (tokF (fun j => gN u 154 j) (gN u 153 6) (gN u 153 7, gN u 153 8, gN u 153 9, gN u 153 10, gN u 153 11))) : RD σ v (tkS σ q) := by
  rw [h.tk7, show gN u 153 6 = gN σ 153 6 from h.F.1 153 6 (by unfold pRd; omega), show (fun j => gN u 154 j) = fun j => gN σ 154 j from funext fun j => h.F.1 154 j (by unfold pRd; omega)] at hk
  exact ⟨h.F.trans (hF.mono fun c j z => by unfold pTk at z; unfold pRd; omega), hk.1, hk.2.1, hk.2.2.1, hk.2.2.2.1, hk.2.2.2.2, (hF.1 153 12 (by unfold pTk; omega)).trans h.fa, (hF.1 153 13 (by unfold pTk; omega)).trans h.fp, fun j h0 h1 => (hF.1 156 j (by unfold pTk; omega)).trans (h.f j h0 h1), fun j h0 h1 => (hF.1 157 j (by unfold pTk; omega)).trans (h.nm j h0 h1)⟩

set_option maxRecDepth 20000 in
theorem t_wrong (σ τ : Sto) (q : RS) (k : Int) (hk : inR k) (hD : RD σ τ q) : MetA mX9_wrong [ar 153, ai k] τ (fun r u => r = none ∧ RD σ u (wrongF k q)) := by
  refine a_entry (by decide) (Nat.le_of_ble_eq_true rfl) ?_
  refine a_aload_n dX9_wrong_0 rfl rfl ?_
  refine a_getI (J := 12) fX9_132 k153 rfl rfl dX9_wrong_1 ?_
  refine a_topI (y := q.fa) hD.fa ?_
  refine a_if_eq (tgt := 8) dX9_wrong_4 (by decide) hD.ifa (fun c4 => ?_) (fun c4 => ?_)
  · refine a_aload_n dX9_wrong_8 rfl rfl ?_
    refine a_iload_n dX9_wrong_9 rfl rfl ?_
    refine a_putI (J := 12) fX9_132 k153 rfl rfl rfl dX9_wrong_10 ?_
    refine a_aload_n dX9_wrong_13 rfl rfl ?_
    refine a_aload_n dX9_wrong_14 rfl rfl ?_
    refine a_getI (J := 8) fX9_101 k153 rfl rfl dX9_wrong_15 ?_
    refine a_topI (y := q.pl) (by rw [gN_sN, if_neg (by omega)]; exact hD.pl) ?_
    refine a_putI (J := 13) fX9_135 k153 rfl rfl rfl dX9_wrong_18 ?_
    exact a_vret rfl ⟨rfl, by unfold wrongF; rw [if_pos (by omega)]; exact hD.px hk⟩ dX9_wrong_21
  · exact a_vret rfl ⟨rfl, by unfold wrongF; rw [if_neg (by omega)]; exact hD⟩ dX9_wrong_7

set_option maxRecDepth 20000 in
theorem t_goOn (σ τ : Sto) (q : RS) (hD : RD σ τ q) (hT : TpOK σ) (hs0 : 0 ≤ gN σ 153 6) (hs1 : gN σ 153 6 ≤ 900) (hO : ROK σ q) : MetA mX9_goOn [ar 153] τ (fun r u => r = none ∧ RD σ u (gnF σ q)) := by
  refine a_entry (by decide) (Nat.le_of_ble_eq_true rfl) ?_
  refine a_aload_n dX9_goOn_0 rfl rfl ?_
  refine a_getI (J := 12) fX9_132 k153 rfl rfl dX9_goOn_1 ?_
  refine a_topI (y := q.fa) hD.fa ?_
  refine a_if_ne (tgt := 11) dX9_goOn_4 (by decide) hD.ifa (fun c4 => ?_) (fun c4 => ?_)
  · exact a_vret rfl ⟨rfl, by unfold gnF; rw [if_neg (by omega)]; exact hD⟩ dX9_goOn_11
  · refine a_aload_n dX9_goOn_7 rfl rfl ?_
    refine a_callV (c := 153) (as := []) (rest := []) (t_token τ (fun j => by rw [hD.F.1 154 j (by unfold pRd; omega)]; exact hT j) (by rw [hD.F.1 153 6 (by unfold pRd; omega)]; exact hs0) (by rw [hD.F.1 153 6 (by unfold pRd; omega)]; exact hs1) (by rw [hD.at_]; exact hO.a.1) (by rw [hD.at_, hD.F.1 153 6 (by unfold pRd; omega)]; exact hO.a.2)) mvX9_token lX9_138 k153 (by decide) rfl rfl rfl rfl (Nat.le_of_ble_eq_true rfl) (Nat.le_of_ble_eq_true rfl) (Nat.le_of_ble_eq_true rfl) dX9_goOn_8 (fun υ hu => ?_)
    obtain ⟨-, hFu, hku⟩ := hu
    exact a_vret rfl ⟨rfl, by unfold gnF; rw [if_pos (by omega)]; exact hD.tokd hFu hku⟩ dX9_goOn_11

set_option maxRecDepth 20000 in
theorem t_isOther (σ τ : Sto) (q : RS) (hD : RD σ τ q) : MetI mX9_isOther [ar 153] τ (if othF q then 1 else 0) τ := by
  refine a_entry (by decide) (Nat.le_of_ble_eq_true rfl) ?_
  refine a_aload_n dX9_isOther_0 rfl rfl ?_
  refine a_getI (J := 9) fX9_104 k153 rfl rfl dX9_isOther_1 ?_
  refine a_topI (y := q.so) hD.so ?_
  refine a_if_ne (tgt := 19) dX9_isOther_4 (by decide) hD.iso (fun c4 => ?_) (fun c4 => ?_)
  · refine a_iconst dX9_isOther_19 ?_
    exact a_zret rfl (by omega) ⟨by unfold othF; grind, rfl⟩ dX9_isOther_20
  · refine a_aload_n dX9_isOther_7 rfl rfl ?_
    refine a_getI (J := 10) fX9_117 k153 rfl rfl dX9_isOther_8 ?_
    refine a_topI (y := q.va) hD.va ?_
    refine a_iconst dX9_isOther_11 ?_
    refine a_icmp_ne (tgt := 19) dX9_isOther_12 (by decide) hD.iva (inR_of (by omega) (by omega)) (fun c12 => ?_) (fun c12 => ?_)
    · refine a_iconst dX9_isOther_19 ?_
      exact a_zret rfl (by omega) ⟨by unfold othF; grind, rfl⟩ dX9_isOther_20
    · refine a_iconst dX9_isOther_15 ?_
      refine a_goto (tgt := 20) dX9_isOther_16 (by decide) ?_
      exact a_zret rfl (by omega) ⟨by unfold othF; grind, rfl⟩ dX9_isOther_20

set_option maxRecDepth 20000 in
theorem t_sNm_k (σ τ : Sto) (q : RS) (hD : RD σ τ q) (hO : ROK σ q) (V : Int) : ∀ (n : Nat) (k : Int), 0 ≤ k → k ≤ q.f 0 → n = (q.f 0 - k).toNat → V = fs2 (fun k => decide (q.nm k = q.wo)) (-1) n k → RunA mX9_stopNamed (qI V τ) 2 [(1, ai k), (0, ar 153)] [] τ := by
  have hf0 := hO.f0
  intro n
  induction n with
  | zero =>
    intro k h0 h5 hn hE
    refine a_iload_n dX9_stopNamed_2 rfl rfl ?_
    refine a_aload_n dX9_stopNamed_3 rfl rfl ?_
    refine a_getF (d := 156) fX9_16 k153 rfl r153_4 dX9_stopNamed_4 ?_
    refine a_iconst dX9_stopNamed_7 ?_
    refine a_ild k156 n156 (by omega) (by omega) dX9_stopNamed_8 ?_
    refine a_topI (y := q.f 0) (hD.f 0 (by omega) (by omega)) ?_
    refine a_icmp_ge (tgt := 33) dX9_stopNamed_9 (by decide) (inR_of (by omega) (by omega)) (inR_of (by omega) (by omega)) (fun c9 => ?_) (fun c9 => ?_)
    · refine a_iconst dX9_stopNamed_33 ?_
      exact a_iret rfl ⟨by rw [hE]; rfl, rfl⟩ dX9_stopNamed_34
    · exfalso; omega
  | succ n ih =>
    intro k h0 h5 hn hE
    refine a_iload_n dX9_stopNamed_2 rfl rfl ?_
    refine a_aload_n dX9_stopNamed_3 rfl rfl ?_
    refine a_getF (d := 156) fX9_16 k153 rfl r153_4 dX9_stopNamed_4 ?_
    refine a_iconst dX9_stopNamed_7 ?_
    refine a_ild k156 n156 (by omega) (by omega) dX9_stopNamed_8 ?_
    refine a_topI (y := q.f 0) (hD.f 0 (by omega) (by omega)) ?_
    refine a_icmp_ge (tgt := 33) dX9_stopNamed_9 (by decide) (inR_of (by omega) (by omega)) (inR_of (by omega) (by omega)) (fun c9 => ?_) (fun c9 => ?_)
    · exfalso; omega
    · refine a_aload_n dX9_stopNamed_12 rfl rfl ?_
      refine a_getF (d := 157) fX9_19 k153 rfl r153_5 dX9_stopNamed_13 ?_
      refine a_iload_n dX9_stopNamed_16 rfl rfl ?_
      refine a_ild k157 n157 (by omega) (by omega) dX9_stopNamed_17 ?_
      refine a_topI (y := q.nm k) (hD.nm k (by omega) (by omega)) ?_
      refine a_aload_n dX9_stopNamed_18 rfl rfl ?_
      refine a_getI (J := 11) fX9_111 k153 rfl rfl dX9_stopNamed_19 ?_
      refine a_topI (y := q.wo) hD.wo ?_
      refine a_icmp_ne (tgt := 27) dX9_stopNamed_22 (by decide) (hD.inm (by omega) (by omega)) hD.iwo (fun c22 => ?_) (fun c22 => ?_)
      · refine a_iinc (y := k + 1) (ls' := [(1, ai (k + 1)), (0, ar 153)]) dX9_stopNamed_27 rfl rfl (Nat.le_of_ble_eq_true rfl) rfl ?_
        refine a_goto (tgt := 2) dX9_stopNamed_30 (by decide) ?_
        exact a_keep (by simp) (ih (k + 1) (by omega) (by omega) (by omega) (by rw [hE, fs2_no (show (fun k => decide (q.nm k = q.wo)) k = false from decide_eq_false c22)]))
      · refine a_iload_n dX9_stopNamed_25 rfl rfl ?_
        exact a_iret rfl ⟨by rw [hE, fs2_yes (show (fun k => decide (q.nm k = q.wo)) k = true from decide_eq_true (by omega))], rfl⟩ dX9_stopNamed_26

set_option maxRecDepth 20000 in
theorem t_stopNamed (σ τ : Sto) (q : RS) (hD : RD σ τ q) (hO : ROK σ q) : MetI mX9_stopNamed [ar 153] τ (nmdF q) τ := by
  refine a_entry (by decide) (Nat.le_of_ble_eq_true rfl) ?_
  refine a_iconst dX9_stopNamed_0 ?_
  refine a_istore_n (ls' := [(1, ai 0), (0, ar 153)]) dX9_stopNamed_1 rfl (Nat.le_of_ble_eq_true rfl) rfl ?_
  exact a_keep (by simp) (t_sNm_k σ τ q hD hO _ _ 0 (by omega) hO.f0.1 rfl (by unfold nmdF; rw [show q.f 0 - 0 = q.f 0 by omega]))

set_option maxRecDepth 20000 in
theorem t_numberHere (σ τ : Sto) (q : RS) (lo hi : Int) (hlo : inR lo) (hhi : inR hi) (hD : RD σ τ q) (hT : TpOK σ) (hs0 : 0 ≤ gN σ 153 6) (hs1 : gN σ 153 6 ≤ 900) (hO : ROK σ q) : MetA mX9_numberHere [ar 153, ai lo, ai hi] τ (fun r u => r = some (ai (nhV lo hi q)) ∧ RD σ u (nhF lo hi q)) := by
  refine a_entry (by decide) (Nat.le_of_ble_eq_true rfl) ?_
  refine a_ls (ls' := [(0, ar 153), (1, ai lo), (2, ai hi)]) rfl ?_
  refine joinR (P := fun υ => RD σ υ (nh1 q)) (pc' := 20) (ls' := [(0, ar 153), (1, ai lo), (2, ai hi)]) (st' := []) (fun υ1 hD1 => ?_) (fun J => ?_)
  · obtain ⟨q1, eq1⟩ : ∃ x, x = nh1 q := ⟨_, rfl⟩
    rw [← eq1] at hD1
    have hO1 : ROK σ q1 := eq1 ▸ (ite_ok (wrong_ok 1 hO) hO)
    refine joinR (P := fun υ => RD σ υ (nh2 lo hi q1)) (pc' := 48) (ls' := [(0, ar 153), (1, ai lo), (2, ai hi)]) (st' := []) (fun υ2 hD2 => ?_) (fun J => ?_)
    · obtain ⟨q2, eq2⟩ : ∃ x, x = nh2 lo hi q1 := ⟨_, rfl⟩
      rw [← eq2] at hD2
      have hO2 : ROK σ q2 := eq2 ▸ (ite_ok (wrong_ok 2 hO1) hO1)
      refine a_aload_n dX9_numberHere_48 rfl rfl ?_
      refine a_getI (J := 12) fX9_132 k153 rfl rfl dX9_numberHere_49 ?_
      refine a_topI (y := q2.fa) hD2.fa ?_
      refine a_if_ne (tgt := 62) dX9_numberHere_52 (by decide) hD2.ifa (fun c52 => ?_) (fun c52 => ?_)
      · refine a_iload_n dX9_numberHere_62 rfl rfl ?_
        exact a_iret rfl ⟨by unfold nhV nhF; subst_vars; grind, by unfold nhF; subst_vars; assumption⟩ dX9_numberHere_63
      · refine a_aload_n dX9_numberHere_55 rfl rfl ?_
        refine a_getI (J := 10) fX9_117 k153 rfl rfl dX9_numberHere_56 ?_
        refine a_topI (y := q2.va) hD2.va ?_
        refine a_goto (tgt := 63) dX9_numberHere_59 (by decide) ?_
        exact a_iret rfl ⟨by unfold nhV nhF; subst_vars; grind, by unfold nhF; subst_vars; assumption⟩ dX9_numberHere_63
    · refine a_aload_n dX9_numberHere_20 rfl rfl ?_
      refine a_getI (J := 12) fX9_132 k153 rfl rfl dX9_numberHere_21 ?_
      refine a_topI (y := q1.fa) hD1.fa ?_
      refine a_if_ne (tgt := 48) dX9_numberHere_24 (by decide) hD1.ifa (fun c24 => ?_) (fun c24 => ?_)
      · have e : nh2 lo hi q1 = q1 := by unfold nh2; grind
        exact a_keep (by simp) (J _ (by rw [e]; exact hD1))
      · refine a_aload_n dX9_numberHere_27 rfl rfl ?_
        refine a_getI (J := 10) fX9_117 k153 rfl rfl dX9_numberHere_28 ?_
        refine a_topI (y := q1.va) hD1.va ?_
        refine a_iload_n dX9_numberHere_31 rfl rfl ?_
        refine a_icmp_lt (tgt := 43) dX9_numberHere_32 (by decide) hD1.iva hlo (fun c32 => ?_) (fun c32 => ?_)
        · refine a_aload_n dX9_numberHere_43 rfl rfl ?_
          refine a_iconst dX9_numberHere_44 ?_
          refine a_callV (c := 153) (as := [ai 2]) (rest := []) (t_wrong σ υ1 q1 2 (inR_of (by omega) (by omega)) hD1) mvX9_wrong lX9_141 k153 (by decide) rfl rfl rfl rfl (Nat.le_of_ble_eq_true rfl) (Nat.le_of_ble_eq_true rfl) (Nat.le_of_ble_eq_true rfl) dX9_numberHere_45 (fun υ3 hu => ?_)
          obtain ⟨-, hD3⟩ := hu
          have e : nh2 lo hi q1 = wrongF 2 q1 := by unfold nh2; grind
          exact a_keep (by simp) (J _ (by rw [e]; exact hD3))
        · refine a_aload_n dX9_numberHere_35 rfl rfl ?_
          refine a_getI (J := 10) fX9_117 k153 rfl rfl dX9_numberHere_36 ?_
          refine a_topI (y := q1.va) hD1.va ?_
          refine a_iload_n dX9_numberHere_39 rfl rfl ?_
          refine a_icmp_le (tgt := 48) dX9_numberHere_40 (by decide) hD1.iva hhi (fun c40 => ?_) (fun c40 => ?_)
          · have e : nh2 lo hi q1 = q1 := by unfold nh2; grind
            exact a_keep (by simp) (J _ (by rw [e]; exact hD1))
          · refine a_aload_n dX9_numberHere_43 rfl rfl ?_
            refine a_iconst dX9_numberHere_44 ?_
            refine a_callV (c := 153) (as := [ai 2]) (rest := []) (t_wrong σ υ1 q1 2 (inR_of (by omega) (by omega)) hD1) mvX9_wrong lX9_141 k153 (by decide) rfl rfl rfl rfl (Nat.le_of_ble_eq_true rfl) (Nat.le_of_ble_eq_true rfl) (Nat.le_of_ble_eq_true rfl) dX9_numberHere_45 (fun υ4 hu => ?_)
            obtain ⟨-, hD4⟩ := hu
            have e : nh2 lo hi q1 = wrongF 2 q1 := by unfold nh2; grind
            exact a_keep (by simp) (J _ (by rw [e]; exact hD4))
  · refine a_aload_n dX9_numberHere_0 rfl rfl ?_
    refine a_getI (J := 12) fX9_132 k153 rfl rfl dX9_numberHere_1 ?_
    refine a_topI (y := q.fa) hD.fa ?_
    refine a_if_ne (tgt := 20) dX9_numberHere_4 (by decide) hD.ifa (fun c4 => ?_) (fun c4 => ?_)
    · have e : nh1 q = q := by unfold nh1; grind
      exact a_keep (by simp) (J _ (by rw [e]; exact hD))
    · refine a_aload_n dX9_numberHere_7 rfl rfl ?_
      refine a_getI (J := 9) fX9_104 k153 rfl rfl dX9_numberHere_8 ?_
      refine a_topI (y := q.so) hD.so ?_
      refine a_iconst dX9_numberHere_11 ?_
      refine a_icmp_eq (tgt := 20) dX9_numberHere_12 (by decide) hD.iso (inR_of (by omega) (by omega)) (fun c12 => ?_) (fun c12 => ?_)
      · have e : nh1 q = q := by unfold nh1; grind
        exact a_keep (by simp) (J _ (by rw [e]; exact hD))
      · refine a_aload_n dX9_numberHere_15 rfl rfl ?_
        refine a_iconst dX9_numberHere_16 ?_
        refine a_callV (c := 153) (as := [ai 1]) (rest := []) (t_wrong σ τ q 1 (inR_of (by omega) (by omega)) hD) mvX9_wrong lX9_141 k153 (by decide) rfl rfl rfl rfl (Nat.le_of_ble_eq_true rfl) (Nat.le_of_ble_eq_true rfl) (Nat.le_of_ble_eq_true rfl) dX9_numberHere_17 (fun υ5 hu => ?_)
        obtain ⟨-, hD5⟩ := hu
        have e : nh1 q = wrongF 1 q := by unfold nh1; grind
        exact a_keep (by simp) (J _ (by rw [e]; exact hD5))

set_option maxRecDepth 20000 in
theorem t_number (σ τ : Sto) (q : RS) (lo hi : Int) (hlo : inR lo) (hhi : inR hi) (hD : RD σ τ q) (hT : TpOK σ) (hs0 : 0 ≤ gN σ 153 6) (hs1 : gN σ 153 6 ≤ 900) (hO : ROK σ q) : MetA mX9_number [ar 153, ai lo, ai hi] τ (fun r u => r = some (ai (nhV lo hi q)) ∧ RD σ u (gnF σ (nhF lo hi q))) := by
  refine a_entry (by decide) (Nat.le_of_ble_eq_true rfl) ?_
  refine a_aload_n dX9_number_0 rfl rfl ?_
  refine a_iload_n dX9_number_1 rfl rfl ?_
  refine a_iload_n dX9_number_2 rfl rfl ?_
  refine a_callI (c := 153) (as := [ai lo, ai hi]) (rest := []) (t_numberHere σ τ q lo hi hlo hhi hD hT hs0 hs1 hO) mvX9_numberHere lX9_145 k153 (by decide) rfl rfl rfl rfl (Nat.le_of_ble_eq_true rfl) (Nat.le_of_ble_eq_true rfl) (Nat.le_of_ble_eq_true rfl) dX9_number_3 (fun x υ6 hu => ?_)
  obtain ⟨hx, hD6⟩ := hu
  cases hx
  refine a_istore_n (ls' := [(3, ai (nhV lo hi q)), (0, ar 153), (1, ai lo), (2, ai hi)]) dX9_number_6 rfl (Nat.le_of_ble_eq_true rfl) rfl ?_
  refine a_aload_n dX9_number_7 rfl rfl ?_
  refine a_callV (c := 153) (as := []) (rest := []) (t_goOn σ υ6 (nhF lo hi q)   hD6 hT hs0 hs1 (nh_ok lo hi hO)) mvX9_goOn lX9_149 k153 (by decide) rfl rfl rfl rfl (Nat.le_of_ble_eq_true rfl) (Nat.le_of_ble_eq_true rfl) (Nat.le_of_ble_eq_true rfl) dX9_number_8 (fun υ7 hu => ?_)
  obtain ⟨-, hD7⟩ := hu
  refine a_iload_n dX9_number_11 rfl rfl ?_
  exact a_iret rfl ⟨rfl, by assumption⟩ dX9_number_12

