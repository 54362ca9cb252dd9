/-! The class's reader: a whole text. -/
/-- a text is read -/
def FinT (ω σ v : Sto) (N : Nat) (q : RS) : Prop := (Fg (pRc N) σ v ∧ (gN v 2 0 = 0 ∧ gN v 2 1 = -1 ∧ gN v 2 2 = q.f 4) ∧ (gN v N 0 = q.f 0 ∧ gN v N 1 = q.f 1 ∧ gN v N 2 = q.f 2 ∧ gN v N 3 = q.f 3)) ∧ (∀ s : Int, 0 ≤ s → s < q.f 0 → gN v (N + 2) s = q.f (5 + s)) ∧
  (∀ a b : Int, 0 ≤ a → a < q.f 0 → 0 ≤ b → b < q.f 0 → gN v (N + 11 + a.toNat) b = closeF q.f (15 + 10 * a + b) ∧ gN v (N + 21 + a.toNat) b = if a = b then q.f (5 + a) else closeF q.f (15 + 10 * a + b)) ∧
  (∀ i : Int, 0 ≤ i → i < q.f 3 → gN v (N + 6) i = q.f (115 + 5 * i + 0) ∧ gN v (N + 7) i = q.f (115 + 5 * i + 1) ∧ gN v (N + 8) i = q.f (115 + 5 * i + 2) ∧ gN v (N + 9) i = q.f (115 + 5 * i + 3) ∧ gN v (N + 10) i = q.f (115 + 5 * i + 4)) ∧
  (gN v (N + 5) 0 = 0 ∧ (q.f 2 = 0 → q.f 3 = 0) ∧ gN v (N + 5) (q.f 2) = q.f 3) ∧
  (∀ t : Int, 0 ≤ t → t < q.f 2 → 0 ≤ gN v (N + 5) t ∧ gN v (N + 5) t < gN v (N + 5) (t + 1) ∧ gN v (N + 5) (t + 1) ≤ q.f 3 ∧ ∀ i : Int, gN v (N + 5) t ≤ i → i < gN v (N + 5) (t + 1) → q.f (115 + 5 * i + 0) = t) ∧
  (QW q ∧ QR_ q 0 ∧ QC_ q) ∧ ROK ω q ∧ q.fa = 0
def RfQ (ω σ : Sto) (N : Nat) (q : RS) : Option Av → Sto → Prop := fun r u => (r = some (ai 1) ∧ q.fa = 0 ∧ FinT ω σ u N q) ∨ (r = some (ai 0) ∧ CFl σ u N q)
theorem QW.p {q : RS} (h : QW q) : Wp q.f (q.f 0) 240 := fun a b a0 a1 b0 b1 => by
  have z := h a b a0 a1 b0 b1
  exact ⟨z.1, fun e => (z.2.1 e).elim Or.inl (fun y => Or.inr ⟨by omega, y.2.1, y.2.2.1, y.2.2.2⟩)⟩
theorem Wp.WB {w : Int → Int} {S B : Int} (h : Wp w S B) (hB : B ≤ 1000000) : WlkB w := fun j j0 j1 => by
  have z := h.rng hB (a := (j - 15) / 10) (b := (j - 15) % 10) (by omega) (by omega) (by omega) (by omega)
  rw [show 15 + 10 * ((j - 15) / 10) + (j - 15) % 10 = j by omega] at z
  exact z
theorem fin_ok {ω σ u y v : Sto} {N : Nat} {q : RS} (hN : Nok N) (h : CRd ω σ u N q 0) (h1 : Fg (fun c _ => N + 11 ≤ c ∧ c ≤ N + 20) u y) (h2 : NwIs y N (cjF (q.f 0).toNat q.f)) (h3 : Fg (fun c _ => N + 21 ≤ c ∧ c ≤ N + 30) y v) (h4 : ∀ x z : Int, 0 ≤ x → x < q.f 0 → 0 ≤ z → z < q.f 0 → StP v y N x z) : FinT ω σ v N q := by
  have hO := h.1.O
  have b0 := hO.f0
  have b2 := hO.f2
  have b3 := hO.f3
  have hb := h.1.1.2.2.2.1
  obtain ⟨c1, c2, c3, c4, c5, c6⟩ := h.1.C
  have g : ∀ (c : Nat) (j : Int), ¬ (N + 11 ≤ c ∧ c ≤ N + 30) → gN v c j = gN u c j := fun c j z => (h3.n (by omega)).trans (h1.n (by omega))
  have cl := close_all (S := (q.f 0).toNat) (w := q.f) (by omega) (by rw [show (((q.f 0).toNat : Nat) : Int) = q.f 0 by omega]; exact h.1.Q.1.p)
  have hw : ∀ a b : Int, 0 ≤ a → a < q.f 0 → 0 ≤ b → b < q.f 0 → gN v (N + 11 + a.toNat) b = closeF q.f (15 + 10 * a + b) := fun a b a0 a1 p0 p1 => by
    rw [h3.n (by omega), h2 a b a0 (by omega) p0 (by omega)]
    exact cl.2.1 a b a0 (by omega) p0 (by omega)
  refine ⟨⟨h.1.F.trans ((h1.mono (fun c j z => by omega)).trans (h3.mono (fun c j z => by omega))), ⟨(g _ _ (by omega)).trans hb.1, (g _ _ (by omega)).trans hb.2.1, (g _ _ (by omega)).trans hb.2.2⟩, ⟨(g _ _ (by omega)).trans c1.1, (g _ _ (by omega)).trans c1.2.1, by rw [g _ _ (by omega), c1.2.2.1]; omega, (g _ _ (by omega)).trans c1.2.2.2⟩⟩, fun s s0 s1 => (g _ _ (by omega)).trans (c2 s s0 s1).2, fun a b a0 a1 p0 p1 => ⟨hw a b a0 a1 p0 p1, ?_⟩, fun i i0 i1 => ?_, ⟨(g _ _ (by omega)).trans c5.1, fun z => c5.2.1 (by omega), ?_⟩, fun t t0 t1 => ?_, h.1.Q, hO, h.1.fa⟩
  · have z := h4 a b a0 a1 p0 p1
    unfold StP at z
    rw [z]
    by_cases e : a = b
    · rw [if_pos e, if_pos e, h1.n (by omega)]
      exact (c2 a a0 a1).2
    · rw [if_neg e, if_neg e, ← hw a b a0 a1 p0 p1, h3.n (by omega)]
  · rw [g _ _ (by omega), g _ _ (by omega), g _ _ (by omega), g _ _ (by omega), g _ _ (by omega)]
    exact c4 i i0 i1
  · rw [g _ _ (by omega)]
    have z := c5.2.2
    rw [show q.f 2 + 0 = q.f 2 by omega] at z
    exact z
  · rw [g (N + 5) t (by omega), g (N + 5) (t + 1) (by omega)]
    have z := c6 t t0 (by omega)
    exact ⟨z.1.1, z.2.1 t1, z.1.2.2, z.2.2⟩
theorem line_rd {ω σ u : Sto} {N : Nat} {q : RS} (hN : Nok N) (h : CRd ω σ u N q 0) : CRd ω σ (sN u 2 2 (gN u 2 2 + 1)) N (q.wF (up1 q.f 4 (nrm (q.f 4 + 1)))) 0 := by
  have hO := h.1.O
  have b0 := hO.f0
  have b1 := hO.f1
  have b2 := hO.f2
  have b3 := hO.f3
  have hb := h.1.1.2.2.2.1
  obtain ⟨q', eq'⟩ : ∃ z, z = q.wF (up1 q.f 4 (nrm (q.f 4 + 1))) := ⟨_, rfl⟩
  have e4 : q'.f 4 = nrm (q.f 4 + 1) := by rw [eq']; exact wF_pos
  have e1 : ∀ j : Int, j ≠ 4 → q'.f j = q.f j := fun j a => by rw [eq']; exact wF_neg a
  have enm : q'.nm = q.nm := by rw [eq']; rfl
  have etk : q'.tk = q.tk := by rw [eq']; rfl
  have efa : q'.fa = q.fa := by rw [eq']; rfl
  obtain ⟨c1, c2, c3, c4, c5, c6⟩ := h.1.C
  obtain ⟨d1, d2, d3⟩ := h.1.Q
  rw [← eq']
  have g : ∀ (c : Nat) (j : Int), ¬ (c = 2 ∧ j = 2) → gN (sN u 2 2 (gN u 2 2 + 1)) c j = gN u c j := fun c j z => by rw [gN_sN, if_neg z]
  have hat : q'.at_ = q.at_ := by unfold RS.at_; rw [etk]
  have hpl : q'.pl = q.pl := by unfold RS.pl; rw [etk]
  have hso : q'.so = q.so := by unfold RS.so; rw [etk]
  have hva : q'.va = q.va := by unfold RS.va; rw [etk]
  have hwo : q'.wo = q.wo := by unfold RS.wo; rw [etk]
  have E0 := e1 0 (by omega)
  have E1 := e1 1 (by omega)
  have E2 := e1 2 (by omega)
  have E3 := e1 3 (by omega)
  refine ⟨⟨⟨h.1.F.sN (Or.inl rfl), ⟨h.1.I.1, by rw [g _ _ (by omega)]; exact h.1.I.2.1, h.1.I.2.2.1, fun j j0 j1 => by rw [g _ _ (by omega)]; exact h.1.I.2.2.2.1 j j0 j1, h.1.I.2.2.2.2⟩, h.1.net, ⟨(g _ _ (by omega)).trans hb.1, (g _ _ (by omega)).trans hb.2.1, by rw [gN_sN, if_pos ⟨rfl, rfl⟩, e4, hb.2.2]⟩, by rw [g _ _ (by omega), hat]; exact h.1.at_⟩, ⟨⟨?_, ?_, ?_, ?_⟩, fun s s0 s1 => ?_, fun a b a0 a1 p0 p1 => ?_, fun i i0 i1 => ?_, ⟨?_, ?_, ?_⟩, fun t t0 t1 => ?_⟩, ⟨fun a b a0 a1 p0 p1 => ?_, ⟨fun i i0 i1 => ?_, fun i i0 i1 => ?_⟩, ⟨fun s s0 s1 => ?_, fun i i0 i1 => ?_⟩⟩, ⟨by rw [hat]; exact hO.a, by rw [E0]; exact b0, by rw [E1]; exact b1, by rw [E2]; exact b2, by rw [E3]; exact b3⟩, by rw [efa]; exact h.1.fa⟩, ?_, ?_⟩
  · rw [g _ _ (by omega), E0]; exact c1.1
  · rw [g _ _ (by omega), E1]; exact c1.2.1
  · rw [g _ _ (by omega), E2]; exact c1.2.2.1
  · rw [g _ _ (by omega), E3]; exact c1.2.2.2
  · rw [E0] at s1
    rw [g _ _ (by omega), g _ _ (by omega), enm, e1 _ (by omega)]; exact c2 s s0 s1
  · rw [g _ _ (by omega), e1 _ (by omega)]; exact c3 a b a0 a1 p0 p1
  · rw [E3] at i1
    rw [g _ _ (by omega), g _ _ (by omega), g _ _ (by omega), g _ _ (by omega), g _ _ (by omega), e1 (115 + 5 * i + 0) (by omega), e1 (115 + 5 * i + 1) (by omega), e1 (115 + 5 * i + 2) (by omega), e1 (115 + 5 * i + 3) (by omega), e1 (115 + 5 * i + 4) (by omega)]; exact c4 i i0 i1
  · rw [g _ _ (by omega)]; exact c5.1
  · rw [E2, E3]; exact c5.2.1
  · rw [g _ _ (by omega), E2, E3]; exact c5.2.2
  · rw [E2] at t1
    rw [g (N + 5) t (by omega), g (N + 5) (t + 1) (by omega), E2, E3]
    have z := c6 t t0 t1
    exact ⟨z.1, z.2.1, fun i i0 i1 => by rw [e1 _ (by omega)]; exact z.2.2 i i0 i1⟩
  · rw [e1 _ (by omega), e1 (15 + 10 * b + a) (by omega), E0]; exact d1 a b a0 a1 p0 p1
  · rw [E3] at i1
    rw [e1 (115 + 5 * i + 0) (by omega), e1 (115 + 5 * i + 1) (by omega), e1 (115 + 5 * i + 2) (by omega), e1 (115 + 5 * i + 3) (by omega), e1 (115 + 5 * i + 4) (by omega), E0, E2]; exact d2.1 i i0 i1
  · rw [E3] at i1
    rw [e1 (115 + 5 * i + 0) (by omega), e1 (115 + 5 * (i + 1) + 0) (by omega), e1 (115 + 5 * i + 4) (by omega), e1 (115 + 5 * (i + 1) + 3) (by omega)]; exact d2.2 i i0 i1
  · rw [e1 _ (by omega)]; exact d3.1 s s0 s1
  · rw [e1 (115 + 5 * i + 0) (by omega), e1 (115 + 5 * i + 1) (by omega), e1 (115 + 5 * i + 2) (by omega), e1 (115 + 5 * i + 3) (by omega), e1 (115 + 5 * i + 4) (by omega)]; exact d3.2 i i0 i1
  · rw [g _ _ (by omega), hpl]; exact h.2.1
  · rw [g _ _ (by omega), g _ _ (by omega), hso, hva, hwo]; exact h.2.2
theorem fr_cl : ∀ a b : Fin 10, frF (15 + 10 * (a : Int) + b) = cl0 a b := by decide +kernel
theorem fr_cl' {a b : Int} (a0 : 0 ≤ a) (a1 : a < 10) (b0 : 0 ≤ b) (b1 : b < 10) : frF (15 + 10 * a + b) = cl0 a b := by
  have z := fr_cl ⟨a.toNat, by omega⟩ ⟨b.toNat, by omega⟩
  rw [show (((⟨a.toNat, by omega⟩ : Fin 10) : Nat) : Int) = a from by simp; omega, show (((⟨b.toNat, by omega⟩ : Fin 10) : Nat) : Int) = b from by simp; omega] at z
  exact z
theorem fr_0 {j : Int} (h : j < 15 ∨ 115 ≤ j) : frF j = 0 := by unfold frF; rw [if_neg (by omega)]
theorem start_ok {ω σ z : Sto} {N : Nat} {pl so va wo fp : Int} {nm : Int → Int} (hF : Fg (pRc N) σ z) (hI : RdI z (fun j => gN ω 154 j) (gN ω 153 6)) (hn : gR z 2 5 = some N) (h0 : gN z 2 0 = 0) (h1 : gN z 2 1 = -1) (h2 : gN z 2 2 = 0) (h7 : gN z 2 7 = 0) (n0 : gN z N 0 = 0) (n1 : gN z N 1 = 0) (n2 : gN z N 2 = 0) (n3 : gN z N 3 = 0) (hw : ∀ a b : Int, 0 ≤ a → a < 10 → 0 ≤ b → b < 10 → gN z (N + 11 + a.toNat) b = cl0 a b) (h5 : gN z (N + 5) 0 = 0) : CRa ω σ z N (mkR (0, pl, so, va, wo) 0 fp frF nm) 0 := by
  have hn0 := hI.2.2.1
  obtain ⟨q, eq⟩ : ∃ q, q = mkR (0, pl, so, va, wo) 0 fp frF nm := ⟨_, rfl⟩
  have ef : q.f = frF := by rw [eq]; rfl
  have eat : q.at_ = 0 := by rw [eq]; rfl
  have efa : q.fa = 0 := by rw [eq]; rfl
  have F0 : q.f 0 = 0 := by rw [ef]; exact fr_0 (by omega)
  have F1 : q.f 1 = 0 := by rw [ef]; exact fr_0 (by omega)
  have F2 : q.f 2 = 0 := by rw [ef]; exact fr_0 (by omega)
  have F3 : q.f 3 = 0 := by rw [ef]; exact fr_0 (by omega)
  have F4 : q.f 4 = 0 := by rw [ef]; exact fr_0 (by omega)
  rw [← eq]
  refine ⟨⟨hF, hI, hn, ⟨h0, h1, by rw [F4]; exact h2⟩, by rw [eat]; exact h7⟩, ⟨⟨by rw [F0]; exact n0, by rw [F1]; exact n1, by rw [F2]; exact n2, by rw [F3]; exact n3⟩, fun s s0 s1 => by omega, fun a b a0 a1 b0 b1 => by rw [hw a b a0 a1 b0 b1, ef, fr_cl' a0 a1 b0 b1], fun i i0 i1 => by omega, ⟨h5, fun _ => F3, by rw [F2, F3]; exact h5⟩, fun t t0 t1 => by omega⟩, ⟨fun a b a0 a1 b0 b1 => ?_, ⟨fun i i0 i1 => by omega, fun i i0 i1 => by omega⟩, ⟨fun s s0 s1 => by rw [ef, fr_0 (by omega)]; omega, fun i i0 i1 => by rw [ef, fr_0 (by omega), fr_0 (by omega), fr_0 (by omega), fr_0 (by omega), fr_0 (by omega)]; omega⟩⟩, ⟨by rw [eat]; exact ⟨by omega, hn0.1⟩, by omega, by omega, by omega, by omega⟩, efa⟩
  rw [ef, fr_cl' a0 a1 b0 b1, fr_cl' b0 b1 a0 a1]
  unfold cl0
  refine ⟨fun e => if_pos e, fun e => Or.inl (if_neg e), ?_⟩
  by_cases e : a = b
  · rw [if_pos e, if_pos e.symm]
  · rw [if_neg e, if_neg (fun z => e z.symm)]

set_option maxRecDepth 20000 in
theorem c_rd_fin (ω σ u : Sto) (N : Nat) (hNk : Nok N) (q : RS) (hC : CRd ω σ u N q 0) : RunA mX5_read (RfQ ω σ N q) 95 [(0, ar 2)] [] u := by
  have b0 := hC.1.O.f0
  refine a_aload_n dX5_read_95 rfl rfl ?_
  refine a_getR (d := N) (J := 5) fX5_28 k2 rfl q2_5 rfl hC.1.net dX5_read_96 ?_
  refine a_callV (c := N) (as := []) (rest := []) (c_joinWalks u N hNk (q.f 0) hC.1.C.1.1 b0.1 b0.2 q.f hC.1.C.2.2.1 (hC.1.Q.1.p.WB (by omega))) mvX2_joinWalks lX5_56 (kN hNk) (by decide) rfl rfl rfl rfl (Nat.le_of_ble_eq_true rfl) (Nat.le_of_ble_eq_true rfl) (Nat.le_of_ble_eq_true rfl) dX5_read_99 (fun y hy => ?_)
  obtain ⟨-, h1, h2, -⟩ := hy
  refine a_aload_n dX5_read_102 rfl rfl ?_
  refine a_getR (d := N) (J := 5) fX5_28 k2 rfl q2_5 rfl ((h1.r (by omega)).trans hC.1.net) dX5_read_103 ?_
  refine a_callV (c := N) (as := []) (rest := []) (c_settle y N hNk (q.f 0) ((h1.n (by omega)).trans hC.1.C.1.1) b0.1 b0.2) mvX2_settleTransfers lX5_59 (kN hNk) (by decide) rfl rfl rfl rfl (Nat.le_of_ble_eq_true rfl) (Nat.le_of_ble_eq_true rfl) (Nat.le_of_ble_eq_true rfl) dX5_read_106 (fun v hv => ?_)
  obtain ⟨-, h3, h4⟩ := hv
  refine a_iconst dX5_read_109 ?_
  exact a_zret rfl (Or.inr rfl) (Or.inl ⟨rfl, hC.1.fa, fin_ok hNk hC h1 h2 h3 h4⟩) dX5_read_110

theorem lines_x {ω : Sto} {q : RS} (h : q.fa ≠ 0) : ∀ {d : Nat}, linesF ω d q = q := fun {d} => by
  cases d with
  | zero => rfl
  | succ d => exact if_neg (fun z => h z.1)

set_option maxRecDepth 20000 in
theorem c_rl_l (ω σ : Sto) (N : Nat) (hNk : Nok N) : ∀ (d : Nat) (b : Int) (q : RS) (u : Sto) (F : RS), 0 ≤ b → b + d = gN ω 153 6 + 1 → CRd ω σ u N q 0 → F = linesF ω d q → RunA mX5_read (RfQ ω σ N F) 54 [(4, ai b), (0, ar 2)] [] u := by
  intro d
  induction d with
  | zero =>
    intro b q u F h0 hd hC hF
    have hTq := hC.2.2
    have hOq := hC.1.O
    have hfa := hC.1.fa
    have b0 := hOq.f0
    have b1 := hOq.f1
    have b2 := hOq.f2
    have b3 := hOq.f3
    have hn0 := hC.1.I.2.2.1
    have hkc := @kc0 q.so hTq.2.1.1 hTq.2.1.2
    refine a_iload dX5_read_54 rfl ?_
    refine a_aload_n dX5_read_56 rfl rfl ?_
    refine a_getI (J := 4) fX5_25 k2 rfl rfl dX5_read_57 ?_
    refine a_topI (y := gN ω 153 6) hC.1.I.2.1 ?_
    refine a_icmp_gt (tgt := 95) dX5_read_60 (by decide) (inR_of (by omega) (by omega)) (inR_gN _ _ _) (fun c60 => ?_) (fun c60 => ?_)
    · have eF : F = q := hF
      rw [eF]
      exact a_keep (by simp) (c_rd_fin ω σ u N hNk q hC)
    · exfalso; omega
  | succ d ih =>
    intro b q u F h0 hd hC hF
    have hTq := hC.2.2
    have hOq := hC.1.O
    have hfa := hC.1.fa
    have b0 := hOq.f0
    have b1 := hOq.f1
    have b2 := hOq.f2
    have b3 := hOq.f3
    have hn0 := hC.1.I.2.2.1
    have hkc := @kc0 q.so hTq.2.1.1 hTq.2.1.2
    refine a_iload dX5_read_54 rfl ?_
    refine a_aload_n dX5_read_56 rfl rfl ?_
    refine a_getI (J := 4) fX5_25 k2 rfl rfl dX5_read_57 ?_
    refine a_topI (y := gN ω 153 6) hC.1.I.2.1 ?_
    refine a_icmp_gt (tgt := 95) dX5_read_60 (by decide) (inR_of (by omega) (by omega)) (inR_gN _ _ _) (fun c60 => ?_) (fun c60 => ?_)
    · exfalso; omega
    · refine a_aload_n dX5_read_63 rfl rfl ?_
      refine a_getI (J := 8) fX5_49 k2 rfl rfl dX5_read_64 ?_
      refine a_topI (y := kcF q.so) hC.2.k ?_
      have hb134 := kc_rng q.so
      have hb135 := @kc1 q.so
      have hb136 := @kc2 q.so
      have hb137 := @kc3 q.so
      refine a_if_eq (tgt := 95) dX5_read_67 (by decide) (inR_of (by omega) (by omega)) (fun c67 => ?_) (fun c67 => ?_)
      · have eF : F = q := by rw [hF]; exact if_neg (fun z => z.2 (by omega))
        rw [eF]
        exact a_keep (by simp) (c_rd_fin ω σ u N hNk q hC)
      · refine a_aload_n dX5_read_70 rfl rfl ?_
        refine a_callI (c := 2) (as := []) (rest := []) (c_readLine ω σ u N hNk q hC) mvX5_readLine lX5_52 k2 (by decide) rfl rfl rfl rfl (Nat.le_of_ble_eq_true rfl) (Nat.le_of_ble_eq_true rfl) (Nat.le_of_ble_eq_true rfl) dX5_read_71 (fun x v hv => ?_)
        have eF : F = linesF ω d (lineF ω q) := by rw [hF]; exact if_pos ⟨hfa, by omega⟩
        rcases hv with ⟨hx, hz, hC1⟩ | ⟨hx, hF1⟩
        · cases hx
          refine a_if_ne (tgt := 79) dX5_read_74 (by decide) (inR_of (by omega) (by omega)) (fun c74 => ?_) (fun c74 => ?_)
          · refine a_aload_n dX5_read_79 rfl rfl ?_
            refine a_dup dX5_read_80 rfl ?_
            refine a_getI (J := 2) fX5_40 k2 rfl rfl dX5_read_81 ?_
            refine a_iconst dX5_read_84 ?_
            refine a_iadd dX5_read_85 ?_
            refine a_putI (J := 2) fX5_40 k2 rfl rfl rfl dX5_read_86 ?_
            refine a_iinc (y := b + 1) (ls' := [(4, ai (b + 1)), (0, ar 2)]) dX5_read_89 rfl rfl (Nat.le_of_ble_eq_true rfl) rfl ?_
            refine a_goto (tgt := 54) dX5_read_92 (by decide) ?_
            have hL := line_rd hNk hC1
            rw [← line_nf] at hL
            exact a_keep (by simp) (ih (b + 1) (lineF ω q) _ F (by omega) (by omega) hL eF)
          · exact absurd c74 (by decide)
        · cases hx
          refine a_if_ne (tgt := 79) dX5_read_74 (by decide) (inR_of (by omega) (by omega)) (fun c74 => ?_) (fun c74 => ?_)
          · exact absurd c74 (by decide)
          · refine a_iconst dX5_read_77 ?_
            exact a_zret rfl (by omega) (by have e1 : (lineF ω q).fa = (lineS ω q).fa := (by rw [line_nf]; rfl); have e2 : (lineF ω q).fp = (lineS ω q).fp := (by rw [line_nf]; rfl); have e3 : F = lineF ω q := (by rw [eF]; exact lines_x (by rw [e1]; exact hF1.2.2.2.1)); rw [e3]; exact Or.inr ⟨rfl, hF1.1, by rw [e1]; exact hF1.2.1, by rw [e2]; exact hF1.2.2.1, by rw [e1]; exact hF1.2.2.2.1, hF1.2.2.2.2⟩) dX5_read_78

set_option maxRecDepth 20000 in
theorem c_read (ω σ : Sto) (N : Nat) (hNk : Nok N) (n : Int) (hn : gN ω 153 6 = n) (hn0 : 0 ≤ n) (hn1 : n ≤ 900) (hT : ∀ j : Int, 0 ≤ gN ω 154 j ∧ gN ω 154 j ≤ 255) (hB : ∀ j : Int, 0 ≤ j → j < n → gN σ 1 j = sgB (gN ω 154 j)) (h5 : gN σ (N + 5) 0 = 0) (pl so va wo fp : Int) (nm : Int → Int) : MetA mX5_read [ar 2, ar 1, ai n, ar N] σ (RfQ ω σ N (linesF ω (n + 1).toNat (tkS ω (mkR (0, pl, so, va, wo) 0 fp frF nm)))) := by
  refine a_entry (by decide) (Nat.le_of_ble_eq_true rfl) ?_
  refine a_keep (ls' := [(0, ar 2), (1, ar 1), (2, ai n), (3, ar N)]) (by simp [argL, isLg]) ?_
  refine a_aload_n dX5_read_0 rfl rfl ?_
  refine a_aload_n dX5_read_1 rfl rfl ?_
  refine a_putR (J := 3) fX5_15 k2 rfl q2_3 rfl (fun _ => rfl) (fun _ => rfl) rfl dX5_read_2 ?_
  refine a_aload_n dX5_read_5 rfl rfl ?_
  refine a_iload_n dX5_read_6 rfl rfl ?_
  refine a_aload_n dX5_read_7 rfl rfl ?_
  refine a_alen (n := 900) k1 (by decide) (by rw [n1]; rfl) dX5_read_8 ?_
  refine a_mmin lm5_19 (inR_of (by omega) (by omega)) (inR_of (by omega) (by omega)) (Nat.le_of_ble_eq_true rfl) (Nat.le_of_ble_eq_true rfl) (Nat.le_of_ble_eq_true rfl) dX5_read_9 ?_
  refine a_topI (y := n) (by split <;> omega) ?_
  refine a_putI (J := 4) fX5_25 k2 rfl rfl rfl dX5_read_12 ?_
  refine a_aload_n dX5_read_15 rfl rfl ?_
  refine a_aload_n dX5_read_16 rfl rfl ?_
  refine a_putR (J := 5) fX5_28 k2 rfl q2_5 rfl (fun _ => rfl) (fun _ => rfl) rfl dX5_read_17 ?_
  have hx1 : Fg (pRc N) σ (sR (sN (sR σ 2 3 (some 1)) 2 4 n) 2 5 (some N)) := ((Fg.rfl.sR (Or.inl rfl)).sN (Or.inl rfl)).sR (Or.inl rfl)
  have hx2 : gR (sR (sN (sR σ 2 3 (some 1)) 2 4 n) 2 5 (some N)) 2 5 = some N := by rw [gR_sR0, if_pos ⟨rfl, rfl⟩]
  have hx3 : gR (sR (sN (sR σ 2 3 (some 1)) 2 4 n) 2 5 (some N)) 2 3 = some 1 := by rw [gR_sR0, if_neg (by omega), gR_sN, gR_sR0, if_pos ⟨rfl, rfl⟩]
  have hx4 : gN (sR (sN (sR σ 2 3 (some 1)) 2 4 n) 2 5 (some N)) 2 4 = n := by rw [gN_sR, gN_sN, if_pos ⟨rfl, rfl⟩, nrm_of (inR_of (by omega) (by omega))]
  have hx5 : gN (sR (sN (sR σ 2 3 (some 1)) 2 4 n) 2 5 (some N)) (N + 5) 0 = 0 := by rw [gN_sR, gN_sN, if_neg (by omega), gN_sR]; exact h5
  generalize (sR (sN (sR σ 2 3 (some 1)) 2 4 n) 2 5 (some N)) = x at hx1 hx2 hx3 hx4 hx5 ⊢
  refine a_aload_n dX5_read_20 rfl rfl ?_
  refine a_getR (d := N) (J := 5) fX5_28 k2 rfl q2_5 rfl hx2 dX5_read_21 ?_
  refine a_callV (c := N) (as := []) (rest := []) (c_nClear x N hNk) mvX2_clear lX5_32 (kN hNk) (by decide) rfl rfl rfl rfl (Nat.le_of_ble_eq_true rfl) (Nat.le_of_ble_eq_true rfl) (Nat.le_of_ble_eq_true rfl) dX5_read_24 (fun y hy => ?_)
  obtain ⟨-, hy⟩ := hy
  have hyF := hy.1
  refine a_aload_n dX5_read_27 rfl rfl ?_
  refine a_iconst dX5_read_28 ?_
  refine a_putI (J := 0) fX5_37 k2 rfl rfl rfl dX5_read_29 ?_
  refine a_aload_n dX5_read_32 rfl rfl ?_
  refine a_iconst dX5_read_33 ?_
  refine a_putI (J := 1) fX5_9 k2 rfl rfl rfl dX5_read_34 ?_
  refine a_aload_n dX5_read_37 rfl rfl ?_
  refine a_iconst dX5_read_38 ?_
  refine a_putI (J := 2) fX5_40 k2 rfl rfl rfl dX5_read_39 ?_
  refine a_aload_n dX5_read_42 rfl rfl ?_
  refine a_iconst dX5_read_43 ?_
  refine a_putI (J := 7) fX5_43 k2 rfl rfl rfl dX5_read_44 ?_
  have g : ∀ (c : Nat) (j : Int), c ≠ 2 → gN (sN (sN (sN (sN y 2 0 0) 2 1 (-1)) 2 2 0) 2 7 0) c j = gN y c j := fun c j e => by rw [gN_sN, if_neg (by omega), gN_sN, if_neg (by omega), gN_sN, if_neg (by omega), gN_sN, if_neg (by omega)]
  have hA : CRa ω σ (sN (sN (sN (sN y 2 0 0) 2 1 (-1)) 2 2 0) 2 7 0) N (mkR (0, pl, so, va, wo) 0 fp frF nm) 0 := by
    refine start_ok ((((hx1.trans (hyF.mono (fun c j z => by unfold pNw at z; omega))).sN (Or.inl rfl)).sN (Or.inl rfl)).sN (Or.inl rfl) |>.sN (Or.inl rfl)) ⟨?_, ?_, by rw [hn]; exact ⟨hn0, hn1⟩, fun j j0 j1 => ?_, hT⟩ ?_ ?_ ?_ ?_ ?_ ?_ ?_ ?_ ?_ (fun a b a0 a1 b0 b1 => ?_) ?_
    · show gR y 2 3 = some 1; rw [hyF.r (by unfold pNw; omega)]; exact hx3
    · rw [hn, gN_sN, if_neg (by omega), gN_sN, if_neg (by omega), gN_sN, if_neg (by omega), gN_sN, if_neg (by omega), hyF.n (by unfold pNw; omega)]; exact hx4
    · rw [hn] at j1
      rw [g _ _ (by omega), hyF.n (by unfold pNw; omega), hx1.n (by omega)]; exact hB j j0 j1
    · show gR y 2 5 = some N; rw [hyF.r (by unfold pNw; omega)]; exact hx2
    · rw [gN_sN, if_neg (by omega), gN_sN, if_neg (by omega), gN_sN, if_neg (by omega), gN_sN, if_pos ⟨rfl, rfl⟩]; rfl
    · rw [gN_sN, if_neg (by omega), gN_sN, if_neg (by omega), gN_sN, if_pos ⟨rfl, rfl⟩]; rfl
    · rw [gN_sN, if_neg (by omega), gN_sN, if_pos ⟨rfl, rfl⟩]; rfl
    · rw [gN_sN, if_pos ⟨rfl, rfl⟩]; rfl
    · rw [g _ _ (by omega)]; exact hy.2.1
    · rw [g _ _ (by omega)]; exact hy.2.2.1
    · rw [g _ _ (by omega)]; exact hy.2.2.2.1
    · rw [g _ _ (by omega)]; exact hy.2.2.2.2.1
    · rw [g _ _ (by omega)]; exact hy.2.2.2.2.2 a b a0 a1 b0 b1
    · rw [g _ _ (by omega), hyF.n (by unfold pNw; omega)]; exact hx5
  generalize (sN (sN (sN (sN y 2 0 0) 2 1 (-1)) 2 2 0) 2 7 0) = z at hA ⊢
  refine a_aload_n dX5_read_47 rfl rfl ?_
  refine a_callV (c := 2) (as := []) (rest := []) (c_advance z (fun j => gN ω 154 j) (gN ω 153 6) hA.I _ hA.at_ hA.O.a.1 hA.O.a.2) mvX5_advance lX5_46 k2 (by decide) rfl rfl rfl rfl (Nat.le_of_ble_eq_true rfl) (Nat.le_of_ble_eq_true rfl) (Nat.le_of_ble_eq_true rfl) dX5_read_48 (fun v hv => ?_)
  refine a_iconst dX5_read_51 ?_
  refine a_istore (ls' := [(4, ai 0), (0, ar 2), (1, ar 1), (2, ai n), (3, ar N)]) dX5_read_52 (Nat.le_of_ble_eq_true rfl) rfl ?_
  exact a_keep (by simp) (c_rl_l ω σ N hNk (n + 1).toNat 0 _ v _ (by omega) (by omega) (adv_ok hNk hA hv.2) rfl)

