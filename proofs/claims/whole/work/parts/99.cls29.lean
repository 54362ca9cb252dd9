/-! The class's reader and the reference's, side by side. -/
/-- the network that is read, and what the reference has read -/
def CNt (u : Sto) (N : Nat) (q : RS) (k : Int) : Prop := (gN u N 0 = q.f 0 ∧ gN u N 1 = q.f 1 ∧ gN u N 2 = q.f 2 + k ∧ gN u N 3 = q.f 3) ∧
  (∀ s : Int, 0 ≤ s → s < q.f 0 → NmR (gN u (N + 1) s) (q.nm s) ∧ gN u (N + 2) s = q.f (5 + s)) ∧ NwIs u N q.f ∧
  (∀ i : Int, 0 ≤ i → i < q.f 3 → gN u (N + 6) i = q.f (115 + 5 * i + 0) ∧ gN u (N + 7) i = q.f (115 + 5 * i + 1) ∧ gN u (N + 8) i = q.f (115 + 5 * i + 2) ∧ gN u (N + 9) i = q.f (115 + 5 * i + 3) ∧ gN u (N + 10) i = q.f (115 + 5 * i + 4)) ∧
  (gN u (N + 5) 0 = 0 ∧ (q.f 2 + k = 0 → q.f 3 = 0) ∧ gN u (N + 5) (q.f 2 + k) = q.f 3) ∧
  ∀ t : Int, 0 ≤ t → t < q.f 2 + k → (0 ≤ gN u (N + 5) t ∧ gN u (N + 5) t ≤ gN u (N + 5) (t + 1) ∧ gN u (N + 5) (t + 1) ≤ q.f 3) ∧ (t < q.f 2 → gN u (N + 5) t < gN u (N + 5) (t + 1)) ∧ ∀ i : Int, gN u (N + 5) t ≤ i → i < gN u (N + 5) (t + 1) → q.f (115 + 5 * i + 0) = t
/-- what holds of what the reference has read -/
def QW (q : RS) : Prop := ∀ a b : Int, 0 ≤ a → a < 10 → 0 ≤ b → b < 10 → (a = b → q.f (15 + 10 * a + b) = 0) ∧ (a ≠ b → q.f (15 + 10 * a + b) = 1000000 ∨ (1 ≤ q.f (15 + 10 * a + b) ∧ q.f (15 + 10 * a + b) ≤ 240 ∧ a < q.f 0 ∧ b < q.f 0)) ∧ q.f (15 + 10 * a + b) = q.f (15 + 10 * b + a)
def QR_ (q : RS) (k : Int) : Prop := (∀ i : Int, 0 ≤ i → i < q.f 3 → (0 ≤ q.f (115 + 5 * i + 0) ∧ q.f (115 + 5 * i + 0) < q.f 2 + k) ∧ (0 ≤ q.f (115 + 5 * i + 1) ∧ q.f (115 + 5 * i + 1) < q.f 0) ∧ (0 ≤ q.f (115 + 5 * i + 2) ∧ q.f (115 + 5 * i + 2) < q.f 0) ∧ (0 ≤ q.f (115 + 5 * i + 3) ∧ q.f (115 + 5 * i + 3) < q.f (115 + 5 * i + 4) ∧ q.f (115 + 5 * i + 4) < 1440)) ∧
  ∀ i : Int, 0 ≤ i → i + 1 < q.f 3 → q.f (115 + 5 * i + 0) ≤ q.f (115 + 5 * (i + 1) + 0) ∧ (q.f (115 + 5 * (i + 1) + 0) = q.f (115 + 5 * i + 0) → q.f (115 + 5 * i + 4) ≤ q.f (115 + 5 * (i + 1) + 3))
def QC_ (q : RS) : Prop := (∀ s : Int, 0 ≤ s → s < 10 → 0 ≤ q.f (5 + s) ∧ q.f (5 + s) ≤ 60) ∧ ∀ i : Int, 0 ≤ i → i < 60 → (0 ≤ q.f (115 + 5 * i + 0) ∧ q.f (115 + 5 * i + 0) < 20) ∧ (0 ≤ q.f (115 + 5 * i + 1) ∧ q.f (115 + 5 * i + 1) < 10) ∧ (0 ≤ q.f (115 + 5 * i + 2) ∧ q.f (115 + 5 * i + 2) < 10) ∧ (0 ≤ q.f (115 + 5 * i + 3) ∧ q.f (115 + 5 * i + 3) < 1440) ∧ (0 ≤ q.f (115 + 5 * i + 4) ∧ q.f (115 + 5 * i + 4) < 1440)
abbrev pRc (N : Nat) (c : Nat) (_ : Int) : Prop := c = 2 ∨ (N ≤ c ∧ c ≤ N + 30)
def CRa (ω σ u : Sto) (N : Nat) (q : RS) (k : Int) : Prop := (Fg (pRc N) σ u ∧ RdI u (fun j => gN ω 154 j) (gN ω 153 6) ∧ gR u 2 5 = some N ∧ (gN u 2 0 = 0 ∧ gN u 2 1 = -1 ∧ gN u 2 2 = q.f 4) ∧ gN u 2 7 = q.at_) ∧ CNt u N q k ∧ (QW q ∧ QR_ q k ∧ QC_ q) ∧ ROK ω q ∧ q.fa = 0
def CTk (u : Sto) (q : RS) : Prop := gN u 2 6 = q.pl ∧ TkR q.so q.va q.wo (gN u 2 8) (gN u 2 9)
def CRd (ω σ u : Sto) (N : Nat) (q : RS) (k : Int) : Prop := CRa ω σ u N q k ∧ CTk u q
theorem CRa.F {ω σ u : Sto} {N : Nat} {q : RS} {k : Int} (h : CRa ω σ u N q k) : Fg (pRc N) σ u := h.1.1
theorem CRa.I {ω σ u : Sto} {N : Nat} {q : RS} {k : Int} (h : CRa ω σ u N q k) : RdI u (fun j => gN ω 154 j) (gN ω 153 6) := h.1.2.1
theorem CRa.net {ω σ u : Sto} {N : Nat} {q : RS} {k : Int} (h : CRa ω σ u N q k) : gR u 2 5 = some N := h.1.2.2.1
theorem CRa.at_ {ω σ u : Sto} {N : Nat} {q : RS} {k : Int} (h : CRa ω σ u N q k) : gN u 2 7 = q.at_ := h.1.2.2.2.2
theorem CRa.C {ω σ u : Sto} {N : Nat} {q : RS} {k : Int} (h : CRa ω σ u N q k) : CNt u N q k := h.2.1
theorem CRa.Q {ω σ u : Sto} {N : Nat} {q : RS} {k : Int} (h : CRa ω σ u N q k) : QW q ∧ QR_ q k ∧ QC_ q := h.2.2.1
theorem CRa.O {ω σ u : Sto} {N : Nat} {q : RS} {k : Int} (h : CRa ω σ u N q k) : ROK ω q := h.2.2.2.1
theorem CRa.fa {ω σ u : Sto} {N : Nat} {q : RS} {k : Int} (h : CRa ω σ u N q k) : q.fa = 0 := h.2.2.2.2
theorem CNt.fr {u v : Sto} {N : Nat} {q : RS} {k : Int} (h : CNt u N q k) (hv : ∀ (c : Nat) (j : Int), N ≤ c → c ≤ N + 30 → gN v c j = gN u c j) : CNt v N q k := by
  obtain ⟨h1, h2, h3, h4, h5, h6⟩ := h
  refine ⟨?_, fun s s0 s1 => ?_, fun a b a0 a1 b0 b1 => ?_, fun i i0 i1 => ?_, ?_, fun t t0 t1 => ?_⟩
  · rw [hv _ _ (by omega) (by omega), hv _ _ (by omega) (by omega), hv _ _ (by omega) (by omega), hv _ _ (by omega) (by omega)]; exact h1
  · rw [hv _ _ (by omega) (by omega), hv _ _ (by omega) (by omega)]; exact h2 s s0 s1
  · rw [hv _ _ (by omega) (by omega)]; exact h3 a b a0 a1 b0 b1
  · rw [hv _ _ (by omega) (by omega), hv _ _ (by omega) (by omega), hv _ _ (by omega) (by omega), hv _ _ (by omega) (by omega), hv _ _ (by omega) (by omega)]; exact h4 i i0 i1
  · rw [hv _ _ (by omega) (by omega), hv _ _ (by omega) (by omega)]; exact h5
  · rw [hv (N + 5) t (by omega) (by omega), hv (N + 5) (t + 1) (by omega) (by omega)]; exact h6 t t0 t1
/-- what a failure leaves -/
def CFl (σ u : Sto) (N : Nat) (q : RS) : Prop := Fg (pRc N) σ u ∧ gN u 2 0 = q.fa ∧ gN u 2 1 = q.fp ∧ q.fa ≠ 0 ∧ gN u (N + 5) 0 = 0
def RdQ (ω σ : Sto) (N : Nat) (q : RS) (k : Int) : Option Av → Sto → Prop := fun r u => (r = some (ai 1) ∧ q.fa = 0 ∧ CRd ω σ u N q k) ∨ (r = some (ai 0) ∧ CFl σ u N q)
theorem adv_ok {ω σ u v : Sto} {N : Nat} {q : RS} {k : Int} (hN : Nok N) (h : CRa ω σ u N q k) (hP : AdP u v (fun j => gN ω 154 j) (gN ω 153 6) (adP (fun j => gN ω 154 j) (gN ω 153 6) q.at_)) : CRd ω σ v N (tkS ω q) k := by
  have hF := hP.1
  have ha := h.O.a
  have tr := tok_rel (T := fun j => gN ω 154 j) h.I.2.2.2.2 (n := gN ω 153 6) q.tk ha.1 ha.2
  have e1 : (tkS ω q).pl = adP (fun j => gN ω 154 j) (gN ω 153 6) q.at_ := tr.1
  have e2 : (tkS ω q).at_ = adE (fun j => gN ω 154 j) (gN ω 153 6) (adP (fun j => gN ω 154 j) (gN ω 153 6) q.at_) := tr.2.1
  have b := h.1.2.2.2.1
  refine ⟨⟨⟨h.F.trans (hF.mono (fun c j z => by unfold pAd at z; omega)), h.I.fr hF, (hF.r (by unfold pAd; omega)).trans h.net, ⟨(hF.n (by unfold pAd; omega)).trans b.1, (hF.n (by unfold pAd; omega)).trans b.2.1, (hF.n (by unfold pAd; omega)).trans b.2.2⟩, by rw [e2]; exact hP.2.2.1⟩, h.C.fr (fun c j c0 c1 => hF.n (by unfold pAd; omega)), h.Q, tkS_ok h.O, h.fa⟩, by rw [e1]; exact hP.2.1, ?_⟩
  rw [hP.2.2.2.1, hP.2.2.2.2]
  exact tr.2.2
theorem CTk.k {u : Sto} {q : RS} (h : CTk u q) : gN u 2 8 = kcF q.so := h.2.1
theorem kc_rng (so : Int) : 0 ≤ kcF so ∧ kcF so ≤ 5 := by unfold kcF; (repeat' split) <;> omega
theorem kc1 {so : Int} : kcF so = 1 ↔ so = 0 := by unfold kcF; (repeat' split) <;> omega
theorem kc2 {so : Int} : kcF so = 2 ↔ so = 1 := by unfold kcF; (repeat' split) <;> omega
theorem kc3 {so : Int} : kcF so = 3 ↔ so = 2 := by unfold kcF; (repeat' split) <;> omega
theorem kc0 {so : Int} (h0 : 0 ≤ so) (h4 : so ≤ 4) : kcF so = 0 ↔ so = 3 := by unfold kcF; (repeat' split) <;> omega
theorem fail_ok {ω σ u : Sto} {N : Nat} {q : RS} {k x : Int} (hN : Nok N) (h : CRd ω σ u N q k) (h1 : 1 ≤ x) (h2 : x ≤ 4) : CFl σ (sN (sN u 2 0 x) 2 1 (gN u 2 6)) N (q.wX x q.pl) := by
  refine ⟨(h.1.F.sN (Or.inl rfl)).sN (Or.inl rfl), ?_, ?_, wX_ne (by omega), ?_⟩
  · rw [gN_sN, if_neg (by omega), gN_sN, if_pos ⟨rfl, rfl⟩, nrm_of (inR_of (by omega) (by omega))]; rfl
  · rw [gN_sN, if_pos ⟨rfl, rfl⟩, nrm_of (inR_gN _ _ _)]; exact h.2.1
  · rw [gN_sN, if_neg (by omega), gN_sN, if_neg (by omega)]; exact h.1.C.2.2.2.2.1.1

set_option maxRecDepth 20000 in
theorem c_fail (u : Sto) (k : Int) : MetI mX5_fail [ar 2, ai k] u 0 (sN (sN u 2 0 k) 2 1 (gN u 2 6)) := by
  refine a_entry (by decide) (Nat.le_of_ble_eq_true rfl) ?_
  refine a_ls (ls' := [(0, ar 2), (1, ai k)]) rfl ?_
  refine a_aload_n dX5_fail_0 rfl rfl ?_
  refine a_iload_n dX5_fail_1 rfl rfl ?_
  refine a_putI (J := 0) fX5_37 k2 rfl rfl rfl dX5_fail_2 ?_
  refine a_aload_n dX5_fail_5 rfl rfl ?_
  refine a_aload_n dX5_fail_6 rfl rfl ?_
  refine a_getI (J := 6) fX5_139 k2 rfl rfl dX5_fail_7 ?_
  refine a_topI (y := gN u 2 6) (by rw [gN_sN, if_neg (by omega)]) ?_
  refine a_putI (J := 1) fX5_9 k2 rfl rfl rfl dX5_fail_10 ?_
  refine a_iconst dX5_fail_13 ?_
  exact a_zret rfl (Or.inl rfl) ⟨rfl, rfl⟩ dX5_fail_14

set_option maxRecDepth 20000 in
theorem c_failNumber (ω σ u : Sto) (N : Nat) (hNk : Nok N) (q : RS) (k : Int) (hC : CRd ω σ u N q k) : MetI mX5_failNumber [ar 2] u 0 (sN (sN u 2 0 (if q.so = 1 then 2 else 1)) 2 1 (gN u 2 6)) := by
  refine a_entry (by decide) (Nat.le_of_ble_eq_true rfl) ?_
  refine a_ls (ls' := [(0, ar 2)]) rfl ?_
  refine a_aload_n dX5_failNumber_0 rfl rfl ?_
  refine a_aload_n dX5_failNumber_1 rfl rfl ?_
  refine a_getI (J := 8) fX5_49 k2 rfl rfl dX5_failNumber_2 ?_
  refine a_topI (y := kcF q.so) hC.2.k ?_
  have hb110 := kc_rng q.so
  have hb111 := @kc1 q.so
  have hb112 := @kc2 q.so
  have hb113 := @kc3 q.so
  refine a_iconst dX5_failNumber_5 ?_
  refine a_icmp_ne (tgt := 13) dX5_failNumber_6 (by decide) (inR_of (by omega) (by omega)) (inR_of (by omega) (by omega)) (fun c6 => ?_) (fun c6 => ?_)
  · refine a_iconst dX5_failNumber_13 ?_
    refine a_cI (c := 2) (as := [ai 1]) (rest := []) (c_fail u 1) mvX5_fail lX5_77 k2 (by decide) rfl rfl rfl rfl (Nat.le_of_ble_eq_true rfl) (Nat.le_of_ble_eq_true rfl) (Nat.le_of_ble_eq_true rfl) dX5_failNumber_14 ?_
    exact a_zret rfl (by omega) ⟨rfl, by rw [if_neg (by omega)]⟩ dX5_failNumber_17
  · refine a_iconst dX5_failNumber_9 ?_
    refine a_goto (tgt := 14) dX5_failNumber_10 (by decide) ?_
    refine a_cI (c := 2) (as := [ai 2]) (rest := []) (c_fail u 2) mvX5_fail lX5_77 k2 (by decide) rfl rfl rfl rfl (Nat.le_of_ble_eq_true rfl) (Nat.le_of_ble_eq_true rfl) (Nat.le_of_ble_eq_true rfl) dX5_failNumber_14 ?_
    exact a_zret rfl (by omega) ⟨rfl, by rw [if_pos (by omega)]⟩ dX5_failNumber_17

set_option maxRecDepth 20000 in
theorem c_isName (ω σ u : Sto) (N : Nat) (hNk : Nok N) (q : RS) (k : Int) (hC : CRd ω σ u N q k) : MetI mX5_isName [ar 2] u (if othF q then 1 else 0) u := by
  have hT := hC.2.2
  refine a_entry (by decide) (Nat.le_of_ble_eq_true rfl) ?_
  refine a_ls (ls' := [(0, ar 2)]) rfl ?_
  refine a_aload_n dX5_isName_0 rfl rfl ?_
  refine a_getI (J := 8) fX5_49 k2 rfl rfl dX5_isName_1 ?_
  refine a_topI (y := kcF q.so) hC.2.k ?_
  have hb114 := kc_rng q.so
  have hb115 := @kc1 q.so
  have hb116 := @kc2 q.so
  have hb117 := @kc3 q.so
  refine a_iconst dX5_isName_4 ?_
  refine a_icmp_ne (tgt := 39) dX5_isName_5 (by decide) (inR_of (by omega) (by omega)) (inR_of (by omega) (by omega)) (fun c5 => ?_) (fun c5 => ?_)
  · refine a_iconst dX5_isName_39 ?_
    exact a_zret rfl (by omega) ⟨by rw [if_neg (show ¬ othF q from fun y => by unfold othF at y; have z := hT.2.2.1 (by omega); omega)], rfl⟩ dX5_isName_40
  · refine a_aload_n dX5_isName_8 rfl rfl ?_
    refine a_getI (J := 9) fX5_62 k2 rfl rfl dX5_isName_9 ?_
    refine a_ldc (x := 388978) cX5_65 (by decide) dX5_isName_12 ?_
    refine a_icmp_eq (tgt := 39) dX5_isName_14 (by decide) (inR_gN _ _ _) (inR_of (by omega) (by omega)) (fun c14 => ?_) (fun c14 => ?_)
    · refine a_iconst dX5_isName_39 ?_
      exact a_zret rfl (by omega) ⟨by rw [if_neg (show ¬ othF q from fun y => by unfold othF at y; have z := hT.2.2.1 (by omega); omega)], rfl⟩ dX5_isName_40
    · refine a_aload_n dX5_isName_17 rfl rfl ?_
      refine a_getI (J := 9) fX5_62 k2 rfl rfl dX5_isName_18 ?_
      refine a_ldc (x := 453773) cX5_69 (by decide) dX5_isName_21 ?_
      refine a_icmp_eq (tgt := 39) dX5_isName_23 (by decide) (inR_gN _ _ _) (inR_of (by omega) (by omega)) (fun c23 => ?_) (fun c23 => ?_)
      · refine a_iconst dX5_isName_39 ?_
        exact a_zret rfl (by omega) ⟨by rw [if_neg (show ¬ othF q from fun y => by unfold othF at y; have z := hT.2.2.1 (by omega); omega)], rfl⟩ dX5_isName_40
      · refine a_aload_n dX5_isName_26 rfl rfl ?_
        refine a_getI (J := 9) fX5_62 k2 rfl rfl dX5_isName_27 ?_
        refine a_ldc (x := 407041) cX5_73 (by decide) dX5_isName_30 ?_
        refine a_icmp_eq (tgt := 39) dX5_isName_32 (by decide) (inR_gN _ _ _) (inR_of (by omega) (by omega)) (fun c32 => ?_) (fun c32 => ?_)
        · refine a_iconst dX5_isName_39 ?_
          exact a_zret rfl (by omega) ⟨by rw [if_neg (show ¬ othF q from fun y => by unfold othF at y; have z := hT.2.2.1 (by omega); omega)], rfl⟩ dX5_isName_40
        · refine a_iconst dX5_isName_35 ?_
          refine a_goto (tgt := 40) dX5_isName_36 (by decide) ?_
          exact a_zret rfl (by omega) ⟨by rw [if_pos (show othF q from by have z := hT.2.2.1 (by omega); unfold othF; omega)], rfl⟩ dX5_isName_40

set_option maxRecDepth 20000 in
theorem c_isNumber (ω σ u : Sto) (N : Nat) (hNk : Nok N) (q : RS) (k : Int) (hC : CRd ω σ u N q k) (lo hi : Int) (hlo : inR lo) (hhi : inR hi) (h0 : 0 ≤ lo) (h1 : hi < 100000) : MetI mX5_isNumber [ar 2, ai lo, ai hi] u (if q.so = 1 ∧ lo ≤ q.va ∧ q.va ≤ hi then 1 else 0) u := by
  have hT := hC.2.2
  refine a_entry (by decide) (Nat.le_of_ble_eq_true rfl) ?_
  refine a_ls (ls' := [(0, ar 2), (1, ai lo), (2, ai hi)]) rfl ?_
  refine a_aload_n dX5_isNumber_0 rfl rfl ?_
  refine a_getI (J := 8) fX5_49 k2 rfl rfl dX5_isNumber_1 ?_
  refine a_topI (y := kcF q.so) hC.2.k ?_
  have hb118 := kc_rng q.so
  have hb119 := @kc1 q.so
  have hb120 := @kc2 q.so
  have hb121 := @kc3 q.so
  refine a_iconst dX5_isNumber_4 ?_
  refine a_icmp_ne (tgt := 24) dX5_isNumber_5 (by decide) (inR_of (by omega) (by omega)) (inR_of (by omega) (by omega)) (fun c5 => ?_) (fun c5 => ?_)
  · refine a_iconst dX5_isNumber_24 ?_
    exact a_zret rfl (by omega) ⟨by rw [if_neg (show ¬ (q.so = 1 ∧ lo ≤ q.va ∧ q.va ≤ hi) from fun y => by have z := hT.2.2.2 (by omega); unfold NuR at z; omega)], rfl⟩ dX5_isNumber_25
  · refine a_aload_n dX5_isNumber_8 rfl rfl ?_
    refine a_getI (J := 9) fX5_62 k2 rfl rfl dX5_isNumber_9 ?_
    refine a_iload_n dX5_isNumber_12 rfl rfl ?_
    refine a_iload_n dX5_isNumber_13 rfl rfl ?_
    refine a_sI (as := [ai (gN u 2 9), ai lo, ai hi]) (rest := []) (c_within u (gN u 2 9) lo hi (inR_gN _ _ _) hlo hhi) mvX8_within lX5_142 rfl rfl rfl (Nat.le_of_ble_eq_true rfl) (Nat.le_of_ble_eq_true rfl) (Nat.le_of_ble_eq_true rfl) dX5_isNumber_14 ?_
    refine a_ifb_eq (tgt := 24) dX5_isNumber_17 (by decide) (fun c17 => ?_) (fun c17 => ?_)
    · refine a_iconst dX5_isNumber_24 ?_
      exact a_zret rfl (by omega) ⟨by rw [if_neg (show ¬ (q.so = 1 ∧ lo ≤ q.va ∧ q.va ≤ hi) from fun y => by have z := hT.2.2.2 (by omega); unfold NuR at z; omega)], rfl⟩ dX5_isNumber_25
    · refine a_iconst dX5_isNumber_20 ?_
      refine a_goto (tgt := 25) dX5_isNumber_21 (by decide) ?_
      exact a_zret rfl (by omega) ⟨by rw [if_pos (show q.so = 1 ∧ lo ≤ q.va ∧ q.va ≤ hi from by have z := hT.2.2.2 (by omega); unfold NuR at z; omega)], rfl⟩ dX5_isNumber_25

theorem nmd_rel {ω σ u : Sto} {N : Nat} {q : RS} {k x w : Int} (h : CRa ω σ u N q k) (hx : NmR x w) : fs2 (fun k => decide (gN u (N + 1) k = x)) (-1) (q.f 0).toNat 0 = fs2 (fun k => decide (q.nm k = w)) (-1) (q.f 0).toNat 0 := by
  have b := h.O.f0
  refine fs2_congr _ _ (fun j j0 j1 => ?_)
  rw [decide_eq_decide]
  exact ((h.C.2.1 j j0 (by omega)).1).iff hx

set_option maxRecDepth 20000 in
theorem c_stopHere (ω σ u : Sto) (N : Nat) (hNk : Nok N) (q : RS) (k : Int) (hC : CRd ω σ u N q k) : MetI mX5_stopHere [ar 2] u (if othF q then nmdF q else -1) u := by
  refine a_entry (by decide) (Nat.le_of_ble_eq_true rfl) ?_
  refine a_ls (ls' := [(0, ar 2)]) rfl ?_
  refine a_aload_n dX5_stopHere_0 rfl rfl ?_
  refine a_cI (c := 2) (as := []) (rest := []) (c_isName ω σ u N hNk q k hC) mvX5_isName lX5_87 k2 (by decide) rfl rfl rfl rfl (Nat.le_of_ble_eq_true rfl) (Nat.le_of_ble_eq_true rfl) (Nat.le_of_ble_eq_true rfl) dX5_stopHere_1 ?_
  refine a_ifb_eq (tgt := 21) dX5_stopHere_4 (by decide) (fun c4 => ?_) (fun c4 => ?_)
  · refine a_iconst dX5_stopHere_21 ?_
    exact a_iret rfl ⟨by rw [if_neg (by assumption)], rfl⟩ dX5_stopHere_22
  · have hot : othF q := (by assumption)
    have hot1 := hot.1
    refine a_aload_n dX5_stopHere_7 rfl rfl ?_
    refine a_getR (d := N) (J := 5) fX5_28 k2 rfl q2_5 rfl hC.1.net dX5_stopHere_8 ?_
    refine a_aload_n dX5_stopHere_11 rfl rfl ?_
    refine a_getI (J := 9) fX5_62 k2 rfl rfl dX5_stopHere_12 ?_
    refine a_cI (c := N) (as := [ai (gN u 2 9)]) (rest := []) (c_nStopNamed u N hNk (q.f 0) hC.1.C.1.1 hC.1.O.f0.1 hC.1.O.f0.2 (gN u 2 9) (inR_gN _ _ _)) mvX2_stopNamed lX5_90 (kN hNk) (by decide) rfl rfl rfl rfl (Nat.le_of_ble_eq_true rfl) (Nat.le_of_ble_eq_true rfl) (Nat.le_of_ble_eq_true rfl) dX5_stopHere_15 ?_
    refine a_topI (y := nmdF q) (nmd_rel hC.1 ((hC.2.2.2.2.1 (by unfold othF at *; omega)).1)) ?_
    refine a_goto (tgt := 22) dX5_stopHere_18 (by decide) ?_
    exact a_iret rfl ⟨by rw [if_pos (by assumption)], rfl⟩ dX5_stopHere_22

theorem rsE0 {w c : Int} {q : RS} (h : q.fa = 0) : rsE w c q = (((q.wN (up1 q.nm (q.f 0) w)).wF (up1 q.f (5 + q.f 0) c))).wF (up1 (up1 q.f (5 + q.f 0) c) 0 (up1 q.f (5 + q.f 0) c 0 + 1)) := if_pos h
theorem rsE_tk {ω : Sto} {w c : Int} {q : RS} (h : q.fa = 0) : rsE w c (tkS ω q) = tkS ω (rsE w c q) := by
  rw [rsE0 h, rsE0 (q := tkS ω q) h]
  rfl
theorem addStop_ok {ω σ u : Sto} {N : Nat} {q : RS} {x w m : Int} (hN : Nok N) (h : CRa ω σ u N q 0) (hS : q.f 0 < 10) (hx : NmR x w) (h0 : 0 ≤ m) (h1 : m ≤ 60) : CRa ω σ (sN (sN (sN u (N + 1) (q.f 0) x) (N + 2) (q.f 0) m) N 0 (q.f 0 + 1)) N (rsE w m q) 0 := by
  have hO := h.O
  have b0 := hO.f0
  have b3 := hO.f3
  have b2 := hO.f2
  have hb := h.1.2.2.2.1
  have hxr := hx.rng
  obtain ⟨c1, c2, c3, c4, c5, c6⟩ := h.C
  obtain ⟨d1, d2, d3⟩ := h.Q
  have ef : ∀ j : Int, (rsE w m q).f j = if j = 0 then q.f 0 + 1 else if j = 5 + q.f 0 then m else q.f j := by
    intro j
    rw [rsE0 h.fa]
    show up1 (up1 q.f (5 + q.f 0) m) 0 (up1 q.f (5 + q.f 0) m 0 + 1) j = _
    unfold up1
    by_cases e : j = 0
    · rw [if_pos e, if_pos e, if_neg (by omega)]
    · rw [if_neg e, if_neg e]
  have en : ∀ j : Int, (rsE w m q).nm j = if j = q.f 0 then w else q.nm j := by
    intro j
    rw [rsE0 h.fa]
    rfl
  have e0 : (rsE w m q).f 0 = q.f 0 + 1 := by rw [ef, if_pos rfl]
  have e1 : ∀ j : Int, j ≠ 0 → j ≠ 5 + q.f 0 → (rsE w m q).f j = q.f j := fun j a b => by rw [ef, if_neg a, if_neg b]
  have hr : ∀ (i z : Int), 0 ≤ i → 0 ≤ z → (rsE w m q).f (115 + 5 * i + z) = q.f (115 + 5 * i + z) := fun i z i0 z0 => e1 _ (by omega) (by omega)
  have E1 := e1 1 (by omega) (by omega)
  have E2 := e1 2 (by omega) (by omega)
  have E3 := e1 3 (by omega) (by omega)
  have E4 := e1 4 (by omega) (by omega)
  have g : ∀ (c : Nat) (j : Int), c ≠ N + 1 → c ≠ N + 2 → (c = N → j ≠ 0) → gN (sN (sN (sN u (N + 1) (q.f 0) x) (N + 2) (q.f 0) m) N 0 (q.f 0 + 1)) c j = gN u c j := fun c j a b d => by
    rw [gN_sN, if_neg (by omega), gN_sN, if_neg (by omega), gN_sN, if_neg (by omega)]
  refine ⟨⟨((h.F.sN (by omega)).sN (by omega)).sN (by omega), ⟨h.I.1, by rw [g _ _ (by omega) (by omega) (by omega)]; exact h.I.2.1, h.I.2.2.1, fun j j0 j1 => by rw [g _ _ (by omega) (by omega) (by omega)]; exact h.I.2.2.2.1 j j0 j1, h.I.2.2.2.2⟩, h.net, ⟨by rw [g _ _ (by omega) (by omega) (by omega)]; exact hb.1, by rw [g _ _ (by omega) (by omega) (by omega)]; exact hb.2.1, by rw [g _ _ (by omega) (by omega) (by omega), E4]; exact hb.2.2⟩, by rw [g _ _ (by omega) (by omega) (by omega), rsE0 h.fa]; exact h.at_⟩, ⟨⟨?_, ?_, ?_, ?_⟩, fun s s0 s1 => ?_, fun a b a0 a1 b0' b1' => ?_, fun i i0 i1 => ?_, ⟨?_, ?_, ?_⟩, fun t t0 t1 => ?_⟩, ⟨fun a b a0 a1 b0' b1' => ?_, ⟨fun i i0 i1 => ?_, fun i i0 i1 => ?_⟩, ⟨fun s s0 s1 => ?_, fun i i0 i1 => ?_⟩⟩, rsE_ok hO (fun _ => by omega), by rw [rsE0 h.fa]; exact h.fa⟩
  · rw [gN_sN, if_pos ⟨rfl, rfl⟩, nrm_of (inR_of (by omega) (by omega)), e0]
  · rw [g _ _ (by omega) (by omega) (by omega), E1]; exact c1.2.1
  · rw [g _ _ (by omega) (by omega) (by omega), E2]; exact c1.2.2.1
  · rw [g _ _ (by omega) (by omega) (by omega), E3]; exact c1.2.2.2
  · rw [e0] at s1
    rw [en]
    by_cases e : s = q.f 0
    · rw [if_pos e, e, gN_sN, if_neg (by omega), gN_sN, if_neg (by omega), gN_sN, if_pos ⟨rfl, rfl⟩, nrm_of (inR_of (by omega) (by omega)), gN_sN, if_neg (by omega), gN_sN, if_pos ⟨rfl, rfl⟩, nrm_of (inR_of (by omega) (by omega)), ef, if_neg (by omega), if_pos rfl]
      exact ⟨hx, rfl⟩
    · rw [if_neg e, gN_sN, if_neg (by omega), gN_sN, if_neg (by omega), gN_sN, if_neg (by omega), gN_sN, if_neg (by omega), gN_sN, if_neg (by omega), gN_sN, if_neg (by omega), e1 _ (by omega) (by omega)]
      exact c2 s s0 (by omega)
  · rw [g _ _ (by omega) (by omega) (by omega), e1 _ (by omega) (by omega)]
    exact c3 a b a0 a1 b0' b1'
  · rw [E3] at i1
    rw [g _ _ (by omega) (by omega) (by omega), g _ _ (by omega) (by omega) (by omega), g _ _ (by omega) (by omega) (by omega), g _ _ (by omega) (by omega) (by omega), g _ _ (by omega) (by omega) (by omega), hr i 0 i0 (by omega), hr i 1 i0 (by omega), hr i 2 i0 (by omega), hr i 3 i0 (by omega), hr i 4 i0 (by omega)]
    exact c4 i i0 i1
  · rw [g _ _ (by omega) (by omega) (by omega)]; exact c5.1
  · rw [E2, E3]; exact c5.2.1
  · rw [g _ _ (by omega) (by omega) (by omega), E2, E3]; exact c5.2.2
  · rw [E2] at t1
    rw [g _ t (by omega) (by omega) (by omega), g _ (t + 1) (by omega) (by omega) (by omega), E2, E3]
    have z := c6 t t0 t1
    exact ⟨z.1, z.2.1, fun i i0 i1 => by rw [hr i 0 (by omega) (by omega)]; exact z.2.2 i i0 i1⟩
  · rw [e1 _ (by omega) (by omega), e1 (15 + 10 * b + a) (by omega) (by omega), e0]
    have z := d1 a b a0 a1 b0' b1'
    exact ⟨z.1, fun y => (z.2.1 y).elim Or.inl (fun p => Or.inr ⟨p.1, p.2.1, by omega, by omega⟩), z.2.2⟩
  · rw [E3] at i1
    rw [hr i 0 i0 (by omega), hr i 1 i0 (by omega), hr i 2 i0 (by omega), hr i 3 i0 (by omega), hr i 4 i0 (by omega), E2, e0]
    have z := d2.1 i i0 i1
    omega
  · rw [E3] at i1
    rw [hr i 0 i0 (by omega), hr (i + 1) 0 (by omega) (by omega), hr i 4 i0 (by omega), hr (i + 1) 3 (by omega) (by omega)]
    exact d2.2 i i0 i1
  · rw [ef, if_neg (by omega)]
    by_cases e : s = q.f 0
    · rw [if_pos (by omega)]; exact ⟨h0, h1⟩
    · rw [if_neg (by omega)]; exact d3.1 s s0 s1
  · rw [hr i 0 i0 (by omega), hr i 1 i0 (by omega), hr i 2 i0 (by omega), hr i 3 i0 (by omega), hr i 4 i0 (by omega)]
    exact d3.2 i i0 i1
theorem rwE_tk {ω : Sto} {a b n : Int} {q : RS} (h : q.fa = 0) : rwE a b n (tkS ω q) = tkS ω (rwE a b n q) := by
  unfold rwE
  rw [if_pos h, if_pos (show (tkS ω q).fa = 0 from h)]
  dsimp only
  by_cases c : n < (q.wF (up1 q.f 1 (q.f 1 + 1))).f (15 + 10 * a + b)
  · rw [if_pos c, if_pos (show n < ((tkS ω q).wF (up1 (tkS ω q).f 1 ((tkS ω q).f 1 + 1))).f (15 + 10 * a + b) from c)]
    rfl
  · rw [if_neg c, if_neg (show ¬ n < ((tkS ω q).wF (up1 (tkS ω q).f 1 ((tkS ω q).f 1 + 1))).f (15 + 10 * a + b) from c)]
    rfl
theorem rwE_f {a b n : Int} {q : RS} (h : q.fa = 0) (ha0 : 0 ≤ a) (ha1 : a < 10) (hb0 : 0 ≤ b) (hb1 : b < 10) : (∀ j : Int, (rwE a b n q).f j = if j = 1 then q.f 1 + 1 else if n < q.f (15 + 10 * a + b) ∧ (j = 15 + 10 * a + b ∨ j = 15 + 10 * b + a) then n else q.f j) ∧ (rwE a b n q).nm = q.nm ∧ (rwE a b n q).tk = q.tk ∧ (rwE a b n q).fa = 0 := by
  unfold rwE
  rw [if_pos h]
  dsimp only
  have e : (q.wF (up1 q.f 1 (q.f 1 + 1))).f (15 + 10 * a + b) = q.f (15 + 10 * a + b) := up_neg (by omega)
  rw [e]
  by_cases c : n < q.f (15 + 10 * a + b)
  · rw [if_pos c]
    refine ⟨fun j => ?_, rfl, rfl, h⟩
    show up1 (up1 (up1 q.f 1 (q.f 1 + 1)) (15 + 10 * a + b) n) (15 + 10 * b + a) n j = _
    unfold up1
    by_cases e1 : j = 1
    · rw [if_neg (by omega), if_neg (by omega), if_pos e1, if_pos e1]
    · rw [if_neg e1, if_neg e1]
      by_cases e2 : j = 15 + 10 * b + a
      · rw [if_pos e2, if_pos ⟨c, Or.inr e2⟩]
      · rw [if_neg e2]
        by_cases e3 : j = 15 + 10 * a + b
        · rw [if_pos e3, if_pos ⟨c, Or.inl e3⟩]
        · rw [if_neg e3, if_neg (by omega)]
  · rw [if_neg c]
    refine ⟨fun j => ?_, rfl, rfl, h⟩
    show up1 q.f 1 (q.f 1 + 1) j = _
    unfold up1
    by_cases e1 : j = 1
    · rw [if_pos e1, if_pos e1]
    · rw [if_neg e1, if_neg e1, if_neg (fun z => c z.1)]
theorem addWalk_ok {ω σ u v : Sto} {N : Nat} {q : RS} {a b n : Int} (hN : Nok N) (h : CRa ω σ u N q 0) (hW : q.f 1 < 12) (ha0 : 0 ≤ a) (ha1 : a < q.f 0) (hb0 : 0 ≤ b) (hb1 : b < q.f 0) (hab : a ≠ b) (h0 : 1 ≤ n) (h1 : n ≤ 240) (hP : AwP u v N (q.f 1) a b n) : CRa ω σ v N (rwE a b n q) 0 := by
  have hO := h.O
  have b0 := hO.f0
  have bb1 := hO.f1
  have b3 := hO.f3
  have b2 := hO.f2
  have hb := h.1.2.2.2.1
  obtain ⟨c1, c2, c3, c4, c5, c6⟩ := h.C
  obtain ⟨d1, d2, d3⟩ := h.Q
  obtain ⟨ef, en, et, efa⟩ := rwE_f (n := n) h.fa ha0 (by omega : a < 10) hb0 (by omega : b < 10)
  have hF := hP.1
  have e1 : ∀ j : Int, j ≠ 1 → (j < 15 ∨ 115 ≤ j) → (rwE a b n q).f j = q.f j := fun j x y => by rw [ef, if_neg x, if_neg (by omega)]
  have hr : ∀ (i z : Int), 0 ≤ i → 0 ≤ z → (rwE a b n q).f (115 + 5 * i + z) = q.f (115 + 5 * i + z) := fun i z i0 z0 => e1 _ (by omega) (by omega)
  have E0 := e1 0 (by omega) (by omega)
  have E2 := e1 2 (by omega) (by omega)
  have E3 := e1 3 (by omega) (by omega)
  have E4 := e1 4 (by omega) (by omega)
  have E1 : (rwE a b n q).f 1 = q.f 1 + 1 := by rw [ef, if_pos rfl]
  have hk : (rwE a b n q).at_ = q.at_ := by unfold RS.at_; rw [et]
  have ew : ∀ x y : Int, 0 ≤ x → x < 10 → 0 ≤ y → y < 10 → (rwE a b n q).f (15 + 10 * x + y) = if n < q.f (15 + 10 * a + b) ∧ ((x = a ∧ y = b) ∨ (x = b ∧ y = a)) then n else q.f (15 + 10 * x + y) := fun x y x0 x1 y0 y1 => by
    rw [ef, if_neg (by omega)]
    by_cases e : n < q.f (15 + 10 * a + b) ∧ ((x = a ∧ y = b) ∨ (x = b ∧ y = a))
    · rw [if_pos e, if_pos ⟨e.1, by omega⟩]
    · rw [if_neg e, if_neg (by omega)]
  have hwab := c3 a b ha0 (by omega) hb0 (by omega)
  refine ⟨⟨h.F.trans (hF.mono (fun c j z => by omega)), ⟨(hF.r (by omega)).trans h.I.1, (hF.n (by omega)).trans h.I.2.1, h.I.2.2.1, fun j j0 j1 => (hF.n (by omega)).trans (h.I.2.2.2.1 j j0 j1), h.I.2.2.2.2⟩, (hF.r (by omega)).trans h.net, ⟨(hF.n (by omega)).trans hb.1, (hF.n (by omega)).trans hb.2.1, by rw [hF.n (by omega), E4]; exact hb.2.2⟩, by rw [hF.n (by omega), hk]; exact h.at_⟩, ⟨⟨?_, ?_, ?_, ?_⟩, fun s s0 s1 => ?_, fun x y x0 x1 y0 y1 => ?_, fun i i0 i1 => ?_, ⟨?_, ?_, ?_⟩, fun t t0 t1 => ?_⟩, ⟨fun x y x0 x1 y0 y1 => ?_, ⟨fun i i0 i1 => ?_, fun i i0 i1 => ?_⟩, ⟨fun s s0 s1 => ?_, fun i i0 i1 => ?_⟩⟩, ⟨by rw [hk]; exact hO.a, by rw [E0]; exact hO.f0, by rw [E1]; omega, by rw [E2]; exact hO.f2, by rw [E3]; exact hO.f3⟩, efa⟩
  · rw [hF.n (by omega), E0]; exact c1.1
  · rw [E1]; exact hP.2.1
  · rw [hF.n (by omega), E2]; exact c1.2.2.1
  · rw [hF.n (by omega), E3]; exact c1.2.2.2
  · rw [E0] at s1
    rw [hF.n (by omega), hF.n (by omega), en, e1 _ (by omega) (by omega)]
    exact c2 s s0 s1
  · rw [hP.2.2 x y x0 x1 y0 y1, ew x y x0 x1 y0 y1, hwab]
    have sy := (d1 a b ha0 (by omega) hb0 (by omega)).2.2
    have cxy := c3 x y x0 x1 y0 y1
    by_cases e : (x = a ∧ y = b) ∨ (x = b ∧ y = a)
    · rw [if_pos e]
      by_cases z : n < q.f (15 + 10 * a + b)
      · rw [if_pos z, if_pos ⟨z, e⟩]
      · rw [if_neg z, if_neg (fun y => z y.1)]
        rcases e with e | e
        · rw [e.1, e.2]
        · rw [e.1, e.2, sy]
    · rw [if_neg e, if_neg (fun y => e y.2), cxy]
  · rw [E3] at i1
    rw [hF.n (by omega), hF.n (by omega), hF.n (by omega), hF.n (by omega), hF.n (by omega), hr i 0 i0 (by omega), hr i 1 i0 (by omega), hr i 2 i0 (by omega), hr i 3 i0 (by omega), hr i 4 i0 (by omega)]
    exact c4 i i0 i1
  · rw [hF.n (by omega)]; exact c5.1
  · rw [E2, E3]; exact c5.2.1
  · rw [hF.n (by omega), E2, E3]; exact c5.2.2
  · rw [E2] at t1
    rw [hF.n (c := N + 5) (j := t) (by omega), hF.n (c := N + 5) (j := t + 1) (by omega), E2, E3]
    have z := c6 t t0 t1
    exact ⟨z.1, z.2.1, fun i i0 i1 => by rw [hr i 0 (by omega) (by omega)]; exact z.2.2 i i0 i1⟩
  · rw [ew x y x0 x1 y0 y1, ew y x y0 y1 x0 x1, E0]
    have z := d1 x y x0 x1 y0 y1
    by_cases e : n < q.f (15 + 10 * a + b) ∧ ((x = a ∧ y = b) ∨ (x = b ∧ y = a))
    · rw [if_pos e, if_pos ⟨e.1, by omega⟩]
      exact ⟨fun y => by omega, fun y => Or.inr ⟨h0, h1, by omega, by omega⟩, rfl⟩
    · rw [if_neg e, if_neg (by omega)]
      exact z
  · rw [E3] at i1
    rw [hr i 0 i0 (by omega), hr i 1 i0 (by omega), hr i 2 i0 (by omega), hr i 3 i0 (by omega), hr i 4 i0 (by omega), E2, E0]
    exact d2.1 i i0 i1
  · rw [E3] at i1
    rw [hr i 0 i0 (by omega), hr (i + 1) 0 (by omega) (by omega), hr i 4 i0 (by omega), hr (i + 1) 3 (by omega) (by omega)]
    exact d2.2 i i0 i1
  · rw [e1 _ (by omega) (by omega)]
    exact d3.1 s s0 s1
  · rw [hr i 0 i0 (by omega), hr i 1 i0 (by omega), hr i 2 i0 (by omega), hr i 3 i0 (by omega), hr i 4 i0 (by omega)]
    exact d3.2 i i0 i1

