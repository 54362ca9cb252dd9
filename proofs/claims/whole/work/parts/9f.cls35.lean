/-! Worlds that are looked at; the class's text. -/
theorem WX.of {σ u : Sto} (h : ∀ j, gN u 155 j = gN σ 155 j) (hX : WX σ) : WX u := by
  unfold WX nxt at *
  simp only [h]
  exact hX
theorem look_WV {x : Sto} (hW : WOK x) (hX : WX x) (hT : TrOK x) {trip later gone : Int} (h2 : -60 ≤ later) (h3 : later ≤ 240) : WV (look x trip later gone) := by
  have hR := hW.1
  refine ⟨look_W hW _ _ _, hX.of (look155 x trip later gone), hT.of (look155 x trip later gone), look_T hW h2 h3, fun i i0 i1 => ?_⟩
  rw [look155] at i1
  rw [look163]
  unfold lkH
  rw [look155]
  refine itr_congr _ _ _ (fun k k0 k1 c => ?_)
  unfold lkHf
  dsimp only
  rw [btw_eq (look155 x trip later gone), look23]
  simp only [(look161 hW (trip := trip) (gone := gone) k0 (by omega) h2 h3).1, (look161 hW (trip := trip) (gone := gone) i0 (by omega) h2 h3).2]
/-- a base of the world that a text tells -/
def bsQ (f : Int → Int) : Sto := (fun c j => if c = 155 then closeF f j else 0, fun _ _ => 0, fun _ _ => none)
/-- the pure facts of what was read -/
def QAll (ω : Sto) (q : RS) : Prop := (QW q ∧ QR_ q 0 ∧ QC_ q) ∧ ROK ω q ∧ inR (q.f 4) ∧ ∀ t : Int, 0 ≤ t → t < q.f 2 → ∃ i : Int, 0 ≤ i ∧ i < q.f 3 ∧ q.f (115 + 5 * i + 0) = t
theorem FinT.all {ω σ v : Sto} {N : Nat} {q : RS} (h : FinT ω σ v N q) : QAll ω q := by
  obtain ⟨h1, h2, h3, h4, h5, h6, h7, h8, h9⟩ := h
  refine ⟨h7, h8, h1.2.1.2.2 ▸ inR_gN _ _ _, fun t t0 t1 => ?_⟩
  have z := h6 t t0 t1
  exact ⟨gN v (N + 5) t, z.1, by omega, z.2.2.2 _ (by omega) z.2.1⟩
theorem QAll.cl {ω : Sto} {q : RS} (h : QAll ω q) : Wp (closeF q.f) (q.f 0) 245760 ∧ ∀ j : Int, j < 15 ∨ 115 ≤ j → closeF q.f j = q.f j := by
  have b0 := h.2.1.f0
  have cl := close_all (S := (q.f 0).toNat) (w := q.f) (by omega) (by rw [show (((q.f 0).toNat : Nat) : Int) = q.f 0 by omega]; exact h.1.1.p)
  rw [show (((q.f 0).toNat : Nat) : Int) = q.f 0 by omega] at cl
  exact ⟨cl.1, cl.2.2⟩
theorem QAll.inR {ω : Sto} {q : RS} (h : QAll ω q) {j : Int} (h0 : 0 ≤ j) (h1 : j < 415) : inR (closeF q.f j) := by
  obtain ⟨c1, c2⟩ := h.cl
  have b0 := h.2.1.f0
  have b1 := h.2.1.f1
  have b2 := h.2.1.f2
  have b3 := h.2.1.f3
  by_cases e : j < 15 ∨ 115 ≤ j
  · rw [c2 j e]
    by_cases e4 : j < 5
    · have : j = 0 ∨ j = 1 ∨ j = 2 ∨ j = 3 ∨ j = 4 := by omega
      rcases this with e | e | e | e | e <;> rw [e]
      · exact inR_of (by omega) (by omega)
      · exact inR_of (by omega) (by omega)
      · exact inR_of (by omega) (by omega)
      · exact inR_of (by omega) (by omega)
      · exact h.2.2.1
    · by_cases e5 : j < 15
      · have z := h.1.2.2.1 (j - 5) (by omega) (by omega)
        rw [show 5 + (j - 5) = j by omega] at z
        exact inR_of (by omega) (by omega)
      · have z := h.1.2.2.2 ((j - 115) / 5) (by omega) (by omega)
        have m : (j - 115) % 5 = 0 ∨ (j - 115) % 5 = 1 ∨ (j - 115) % 5 = 2 ∨ (j - 115) % 5 = 3 ∨ (j - 115) % 5 = 4 := by omega
        rcases m with m | m | m | m | m
        · rw [show j = 115 + 5 * ((j - 115) / 5) + 0 by omega]; exact inR_of (by omega) (by omega)
        · rw [show j = 115 + 5 * ((j - 115) / 5) + 1 by omega]; exact inR_of (by omega) (by omega)
        · rw [show j = 115 + 5 * ((j - 115) / 5) + 2 by omega]; exact inR_of (by omega) (by omega)
        · rw [show j = 115 + 5 * ((j - 115) / 5) + 3 by omega]; exact inR_of (by omega) (by omega)
        · rw [show j = 115 + 5 * ((j - 115) / 5) + 4 by omega]; exact inR_of (by omega) (by omega)
  · have z := (c1.WB (by omega)) j (by omega) (by omega)
    exact inR_of (by omega) (by omega)
/-- a store whose told world is what was read -/
def TldQ (b : Sto) (q : RS) : Prop := (∀ j : Int, 0 ≤ j → j < 415 → gN b 155 j = closeF q.f j) ∧ ∀ i : Int, 0 ≤ i → i < 60 → gN b 158 i = 0
theorem TldQ.f {b : Sto} {ω : Sto} {q : RS} (h : TldQ b q) (hq : QAll ω q) {j : Int} (h0 : 0 ≤ j) (h1 : j < 415) (h2 : j < 15 ∨ 115 ≤ j) : gN b 155 j = q.f j := by
  rw [h.1 j h0 h1]
  exact hq.cl.2 j h2
theorem TldQ.ok {b : Sto} {ω : Sto} {q : RS} (h : TldQ b q) (hq : QAll ω q) : WOK b ∧ WX b ∧ TrOK b := by
  have b0 := hq.2.1.f0
  have b1 := hq.2.1.f1
  have b2 := hq.2.1.f2
  have b3 := hq.2.1.f3
  have F0 := h.f hq (j := 0) (by omega) (by omega) (by omega)
  have F1 := h.f hq (j := 1) (by omega) (by omega) (by omega)
  have F2 := h.f hq (j := 2) (by omega) (by omega) (by omega)
  have F3 := h.f hq (j := 3) (by omega) (by omega) (by omega)
  have hr : ∀ (i z : Int), 0 ≤ i → i < 60 → 0 ≤ z → z ≤ 4 → gN b 155 (115 + 5 * i + z) = q.f (115 + 5 * i + z) := fun i z i0 i1 z0 z1 => h.f hq (by omega) (by omega) (by omega)
  have hw : ∀ a c : Int, 0 ≤ a → a < 10 → 0 ≤ c → c < 10 → gN b 155 (15 + 10 * a + c) = closeF q.f (15 + 10 * a + c) := fun a c a0 a1 c0 c1 => h.1 _ (by omega) (by omega)
  obtain ⟨c1, -⟩ := hq.cl
  have hc : ∀ s : Int, 0 ≤ s → s < 10 → gN b 155 (5 + s) = q.f (5 + s) := fun s s0 s1 => h.f hq (by omega) (by omega) (by omega)
  obtain ⟨⟨d1, d2, d3⟩, -, -, d4⟩ := hq
  refine ⟨⟨by rw [F3]; exact b3, by rw [F0]; exact b0, by rw [F2]; exact b2, fun i i0 i1 => ?_, fun a c a0 a1 c0 c1' => ?_, fun a a0 a1 => ?_, fun i i0 i1 => by rw [h.2 i i0 i1]; omega⟩, ⟨fun i i0 i1 => ?_, fun a c a0 a1 c0 c1' => ?_, fun a a0 a1 => ?_, fun i i0 i1 => ?_, by rw [F1]; exact b1⟩, fun t ht => ?_, fun i i0 i1 => ?_⟩
  · rw [hr i 0 i0 i1 (by omega) (by omega), hr i 1 i0 i1 (by omega) (by omega), hr i 2 i0 i1 (by omega) (by omega), hr i 3 i0 i1 (by omega) (by omega), hr i 4 i0 i1 (by omega) (by omega)]
    exact d3.2 i i0 i1
  · rw [hw a c a0 a1 c0 c1']
    exact c1.rng (by omega) a0 a1 c0 c1'
  · rw [hc a a0 a1]
    exact d3.1 a a0 a1
  · rw [F3] at i1
    rw [hr i 0 i0 (by omega) (by omega) (by omega), hr i 1 i0 (by omega) (by omega) (by omega), hr i 2 i0 (by omega) (by omega) (by omega), hr i 3 i0 (by omega) (by omega) (by omega), hr i 4 i0 (by omega) (by omega) (by omega), F2, F0]
    have z := d2.1 i i0 i1
    omega
  · rw [hw a c a0 a1 c0 c1']
    have z := c1 a c a0 a1 c0 c1'
    by_cases e : a = c
    · have := z.1 e; omega
    · have := z.2 e; omega
  · rw [hw a a a0 a1 a0 a1]
    exact (c1 a a a0 a1 a0 a1).1 rfl
  · unfold nxt at i1
    rw [F3] at i1
    rw [hr i 0 i0 (by omega) (by omega) (by omega), hr (i + 1) 0 (by omega) (by omega) (by omega) (by omega)] at i1
    rw [hr i 4 i0 (by omega) (by omega) (by omega), hr (i + 1) 3 (by omega) (by omega) (by omega) (by omega)]
    exact (d2.2 i i0 i1.1).2 i1.2
  · unfold trp at ht
    rw [F2] at ht
    obtain ⟨i, i0, i1, i2⟩ := d4 t ht.1 ht.2
    refine ⟨i, ⟨i0, by rw [F3]; exact i1⟩, ?_⟩
    rw [hr i 0 i0 (by omega) (by omega) (by omega)]
    exact i2
  · rw [F3] at i1
    rw [hr i 0 i0 (by omega) (by omega) (by omega), hr (i + 1) 0 (by omega) (by omega) (by omega) (by omega)]
    exact (d2.2 i i0 i1).1
theorem bsQ_T {ω : Sto} {q : RS} (hq : QAll ω q) : TldQ (bsQ q.f) q := by
  refine ⟨fun j j0 j1 => ?_, fun i _ _ => ?_⟩
  · show nrm (if 155 = 155 then closeF q.f j else 0) = _
    rw [if_pos rfl, nrm_of (hq.inR j0 j1)]
  · show nrm (if 158 = 155 then closeF q.f i else 0) = 0
    rw [if_neg (by decide)]
    rfl
/-- the network as read is that of the told world -/
theorem FinT.net {ω σ v b : Sto} {N : Nat} {q : RS} (hN : Nok N) (h : FinT ω σ v N q) (hb : TldQ b q) : NetR v N b := by
  have hq := h.all
  have ok := hb.ok hq
  have b0 := hq.2.1.f0
  have b2 := hq.2.1.f2
  have b3 := hq.2.1.f3
  have F0 := hb.f hq (j := 0) (by omega) (by omega) (by omega)
  have F1 := hb.f hq (j := 1) (by omega) (by omega) (by omega)
  have F2 := hb.f hq (j := 2) (by omega) (by omega) (by omega)
  have F3 := hb.f hq (j := 3) (by omega) (by omega) (by omega)
  have hr : ∀ (i z : Int), 0 ≤ i → i < 60 → 0 ≤ z → z ≤ 4 → gN b 155 (115 + 5 * i + z) = q.f (115 + 5 * i + z) := fun i z i0 i1 z0 z1 => hb.f hq (by omega) (by omega) (by omega)
  have hw : ∀ a c : Int, 0 ≤ a → a < 10 → 0 ≤ c → c < 10 → gN b 155 (15 + 10 * a + c) = closeF q.f (15 + 10 * a + c) := fun a c a0 a1 c0 c1 => hb.1 _ (by omega) (by omega)
  have hc : ∀ s : Int, 0 ≤ s → s < 10 → gN b 155 (5 + s) = q.f (5 + s) := fun s s0 s1 => hb.f hq (by omega) (by omega) (by omega)
  obtain ⟨h1, h2, h3, h4, h5, h6, -⟩ := h
  refine ⟨hN, fun j j0 j1 => ?_, fun s s0 s1 => ?_, fun a c a0 a1 c0 c1 => ?_, fun i i0 i1 => ?_, fun t t0 t1 => ?_⟩
  · have : j = 0 ∨ j = 1 ∨ j = 2 ∨ j = 3 := by omega
    rcases this with e | e | e | e <;> rw [e]
    · rw [F0]; exact h1.2.2.1
    · rw [F1]; exact h1.2.2.2.1
    · rw [F2]; exact h1.2.2.2.2.1
    · rw [F3]; exact h1.2.2.2.2.2
  · rw [F0] at s1
    rw [hc s s0 (by omega)]
    exact h2 s s0 s1
  · rw [F0] at a1 c1
    have z := h3 a c a0 a1 c0 c1
    refine ⟨by rw [hw a c a0 (by omega) c0 (by omega)]; exact z.1, ?_⟩
    unfold tfF
    rw [hw a c a0 (by omega) c0 (by omega), hc a a0 (by omega)]
    exact z.2
  · rw [F3] at i1
    rw [hr i 0 i0 (by omega) (by omega) (by omega), hr i 1 i0 (by omega) (by omega) (by omega), hr i 2 i0 (by omega) (by omega) (by omega), hr i 3 i0 (by omega) (by omega) (by omega), hr i 4 i0 (by omega) (by omega) (by omega)]
    exact h4 i i0 i1
  · rw [F2] at t1
    unfold f1F
    by_cases e : t < q.f 2
    · rw [if_pos (by rw [F2]; exact e)]
      have lo : ∀ (n : Nat) (i : Int), (n : Int) ≤ q.f 2 → 0 ≤ i → i < gN v (N + 5) n → q.f (115 + 5 * i + 0) < n := by
        intro n
        induction n with
        | zero => intro i _ i0 i1; rw [show ((0 : Nat) : Int) = 0 from rfl, h5.1] at i1; omega
        | succ n ih =>
          intro i hn i0 i1
          have z := h6 n (by omega) (by omega)
          rw [show ((n + 1 : Nat) : Int) = (n : Int) + 1 by omega] at i1 ⊢
          by_cases c : i < gN v (N + 5) n
          · have := ih i (by omega) i0 c
            omega
          · have := z.2.2.2 i (by omega) i1
            omega
      have z := h6 t t0 e
      have tp : q.f (115 + 5 * gN v (N + 5) t + 0) = t := z.2.2.2 _ (by omega) z.2.1
      have fo := fo_ok ok.2.2 (trip := t) ⟨t0, by rw [F2]; exact e⟩
      have ff := fo_first (ρ := b) (trip := t) (i := gN v (N + 5) t) z.1 (by rw [F3]; omega) (by rw [hr _ 0 z.1 (by omega) (by omega) (by omega)]; exact tp)
      rw [F3] at fo
      rw [hr _ 0 fo.1 (by omega) (by omega) (by omega)] at fo
      by_cases c : foF b t < gN v (N + 5) t
      · have := lo t.toNat (foF b t) (by omega) fo.1 (by rw [show ((t.toNat : Nat) : Int) = t by omega]; exact c)
        omega
      · omega
    · rw [if_neg (by rw [F2]; exact e), F3, show t = q.f 2 by omega]
      exact h5.2.2

/-- a text that was read: what the class has then -/
def TxOk (ω σ u : Sto) (N N' : Nat) (q : RS) : Prop := QAll ω q ∧ NetR u N' (lkN (bsQ q.f)) ∧ (gR u 0 12 = some N' ∧ gR u 0 13 = some N ∧ gN u 0 14 = 0 ∧ gN u 2 0 = 0 ∧ gN u 2 1 = -1 ∧ gN u 15 0 = 0 ∧ gN u 86 0 = 0 ∧ gN u (N' + 5) 0 = 0) ∧ (∀ t : Int, 0 ≤ t → t < 10 → gN u 42 t = 0) ∧ BgP u (lkN (bsQ q.f)) N' 3 ∧ BgP u (lkN (bsQ q.f)) N' 7 ∧ Fg (fun c j => pRc N' c j ∨ c = 0 ∨ (3 ≤ c ∧ c ≤ 9) ∨ (c = 15 ∧ j = 0) ∨ (c = 86 ∧ j = 0) ∨ c = 42) σ u
def TxNo (σ u : Sto) (N' : Nat) (q : RS) : Prop := Fg (fun c j => pRc N' c j ∨ (c = 0 ∧ j = 14)) σ u ∧ gN u 0 14 = 0 ∧ gN u 2 0 = q.fa ∧ gN u 2 1 = q.fp ∧ q.fa ≠ 0 ∧ gN u (N' + 5) 0 = 0
set_option maxRecDepth 20000 in
theorem c_text (ω σ : Sto) (N N' : Nat) (hNk : Nok N) (hNk' : Nok N') (hNN : N ≠ N') (k n : Int) (hn : inR n) (hk : gN σ 0 14 = k) (hk0 : 0 ≤ k) (hk1 : k ≤ 900) (h12 : gR σ 0 12 = some N) (h13 : gR σ 0 13 = some N') (hω : 0 ≤ n → n ≤ k → gN ω 153 6 = n) (hT : ∀ j : Int, 0 ≤ gN ω 154 j ∧ gN ω 154 j ≤ 255) (hB : ∀ j : Int, 0 ≤ j → j < k → gN σ 1 j = sgB (gN ω 154 j)) (h5 : gN σ (N' + 5) 0 = 0) (pl so va wo fp : Int) (nm : Int → Int) : MetA mX8_text [ar 0, ai n] σ (fun r u => if n < 0 ∨ k < n then r = some (ai (-2)) ∧ u = σ else ((linesF ω (n + 1).toNat (tkS ω (mkR (0, pl, so, va, wo) 0 fp frF nm))).fa = 0 ∧ r = some (ai ((linesF ω (n + 1).toNat (tkS ω (mkR (0, pl, so, va, wo) 0 fp frF nm))).f 4)) ∧ TxOk ω σ u N N' (linesF ω (n + 1).toNat (tkS ω (mkR (0, pl, so, va, wo) 0 fp frF nm)))) ∨ (r = some (ai (-1)) ∧ TxNo σ u N' (linesF ω (n + 1).toNat (tkS ω (mkR (0, pl, so, va, wo) 0 fp frF nm))))) := by
  obtain ⟨Q, eQ⟩ : ∃ Q, Q = linesF ω (n + 1).toNat (tkS ω (mkR (0, pl, so, va, wo) 0 fp frF nm)) := ⟨_, rfl⟩
  rw [← eQ]
  refine a_entry (by decide) (Nat.le_of_ble_eq_true rfl) ?_
  refine a_keep (ls' := [(0, ar 0), (1, ai n)]) (by simp [argL, isLg]) ?_
  refine a_iload_n dX8_text_0 rfl rfl ?_
  refine a_if_lt (tgt := 12) dX8_text_1 (by decide) hn (fun c1 => ?_) (fun c1 => ?_)
  · refine a_bipush (x := (-2)) dX8_text_12 (by decide) ?_
    exact a_iret rfl (by rw [if_pos (Or.inl c1)]; exact ⟨rfl, rfl⟩) dX8_text_14
  refine a_iload_n dX8_text_4 rfl rfl ?_
  refine a_aload_n dX8_text_5 rfl rfl ?_
  refine a_getI (J := 14) fX8_87 k0 rfl rfl dX8_text_6 ?_
  refine a_topI (y := k) hk ?_
  refine a_icmp_le (tgt := 15) dX8_text_9 (by decide) hn (inR_of (by omega) (by omega)) (fun c2 => ?_) (fun c2 => ?_)
  case refine_2 =>
    refine a_bipush (x := (-2)) dX8_text_12 (by decide) ?_
    exact a_iret rfl (by rw [if_pos (by omega)]; exact ⟨rfl, rfl⟩) dX8_text_14
  refine RunA.mono (Q := fun r u => (Q.fa = 0 ∧ r = some (ai (Q.f 4)) ∧ TxOk ω σ u N N' Q) ∨ (r = some (ai (-1)) ∧ TxNo σ u N' Q)) ?_ (fun r u hu => by rw [if_neg (by omega)]; exact hu)
  refine a_aload_n dX8_text_15 rfl rfl ?_
  refine a_iconst dX8_text_16 ?_
  refine a_putI (J := 14) fX8_87 k0 rfl rfl rfl dX8_text_17 ?_
  refine a_aload_n dX8_text_20 rfl rfl ?_
  refine a_getF (d := 2) fX8_16 k0 rfl r0_1 dX8_text_21 ?_
  refine a_aload_n dX8_text_24 rfl rfl ?_
  refine a_getF (d := 1) fX8_9 k0 rfl r0_0 dX8_text_25 ?_
  refine a_iload_n dX8_text_28 rfl rfl ?_
  refine a_aload_n dX8_text_29 rfl rfl ?_
  refine a_getR (d := N') (J := 13) fX8_69 k0 rfl q0_13 rfl (by rw [gR_sN]; exact h13) dX8_text_30 ?_
  refine a_callI (c := 2) (as := [ar 1, ai n, ar N']) (rest := []) (c_read ω (sN σ 0 14 0) N' hNk' n (hω (by omega) c2) (by omega) (by omega) hT (fun j j0 j1 => by rw [gN_sN, if_neg (by omega)]; exact hB j j0 (by omega)) (by rw [gN_sN, if_neg (by omega)]; exact h5) pl so va wo fp nm) mvX5_read lX8_95 k2 (by decide) rfl rfl rfl rfl (Nat.le_of_ble_eq_true rfl) (Nat.le_of_ble_eq_true rfl) (Nat.le_of_ble_eq_true rfl) dX8_text_33 (fun x v hv => ?_)
  rw [← eQ] at hv
  rcases hv with ⟨hx, hz, hF⟩ | ⟨hx, hF⟩
  case inr =>
    cases hx
    refine a_if_ne (tgt := 41) dX8_text_36 (by decide) (inR_of (by omega) (by omega)) (fun h => absurd h (by decide)) (fun _ => ?_)
    refine a_iconst dX8_text_39 ?_
    refine a_iret rfl (Or.inr ⟨rfl, (Fg.rfl.sN (by omega)).trans (hF.1.mono (fun c j z => Or.inl z)), ?_, hF.2.1, hF.2.2.1, hF.2.2.2.1, hF.2.2.2.2⟩) dX8_text_40
    rw [hF.1.n (by omega), gN_sN, if_pos ⟨rfl, rfl⟩]; rfl
  cases hx
  have hq := hF.all
  have hb := bsQ_T hq
  have hok := hb.ok hq
  have hWV : WV (lkN (bsQ Q.f)) := look_WV hok.1 hok.2.1 hok.2.2 (by omega) (by omega)
  have hnt : NetR v N' (lkN (bsQ Q.f)) := (hF.net hNk' hb).w (fun j => look155 _ _ _ _ j)
  have hS := hWV.S
  have hR := hWV.R
  have e12 : gR v 0 12 = some N := by rw [hF.1.1.r (by omega), gR_sN]; exact h12
  have e13 : gR v 0 13 = some N' := by rw [hF.1.1.r (by omega), gR_sN]; exact h13
  have e14 : gN v 0 14 = 0 := by rw [hF.1.1.n (by omega), gN_sN, if_pos ⟨rfl, rfl⟩]; rfl
  refine a_if_ne (tgt := 41) dX8_text_36 (by decide) (inR_of (by omega) (by omega)) (fun _ => ?_) (fun h => absurd h (by decide))
  refine a_aload_n dX8_text_41 rfl rfl ?_
  refine a_getR (d := N) (J := 12) fX8_65 k0 rfl q0_12 rfl e12 dX8_text_42 ?_
  refine a_astore_n (ls' := [(2, ar N), (0, ar 0), (1, ai n)]) dX8_text_45 rfl (Nat.le_of_ble_eq_true rfl) rfl ?_
  refine a_aload_n dX8_text_46 rfl rfl ?_
  refine a_aload_n dX8_text_47 rfl rfl ?_
  refine a_getR (d := N') (J := 13) fX8_69 k0 rfl q0_13 rfl e13 dX8_text_48 ?_
  refine a_putR (J := 12) fX8_65 k0 rfl q0_12 rfl (fun _ => rfl) (fun _ => rfl) rfl dX8_text_51 ?_
  refine a_aload_n dX8_text_54 rfl rfl ?_
  refine a_aload_n dX8_text_55 rfl rfl ?_
  refine a_putR (J := 13) fX8_69 k0 rfl q0_13 rfl (fun _ => rfl) (fun _ => rfl) rfl dX8_text_56 ?_
  have x1 : Fg (fun c _ => c = 0) v (sR (sR v 0 12 (some N')) 0 13 (some N)) := (Fg.rfl.sR rfl).sR rfl
  have x2 : gR (sR (sR v 0 12 (some N')) 0 13 (some N)) 0 12 = some N' := by rw [gR_sR0, if_neg (by omega), gR_sR0, if_pos ⟨rfl, rfl⟩]
  have x3 : gR (sR (sR v 0 12 (some N')) 0 13 (some N)) 0 13 = some N := by rw [gR_sR0, if_pos ⟨rfl, rfl⟩]
  have x4 : ∀ c j, gN (sR (sR v 0 12 (some N')) 0 13 (some N)) c j = gN v c j := fun c j => rfl
  generalize (sR (sR v 0 12 (some N')) 0 13 (some N)) = a at x1 x2 x3 x4 ⊢
  have hna : NetR a N' (lkN (bsQ Q.f)) := hnt.of hS.2 (fun c j _ _ => x4 c j)
  refine a_aload_n dX8_text_59 rfl rfl ?_
  refine a_getF (d := 3) fX8_77 k0 rfl r0_2 dX8_text_60 ?_
  refine a_aload_n dX8_text_63 rfl rfl ?_
  refine a_getR (d := N') (J := 12) fX8_65 k0 rfl q0_12 rfl x2 dX8_text_64 ?_
  refine a_callV (c := 3) (as := [ar N']) (rest := []) (c_begin a (lkN (bsQ Q.f)) N' 3 hWV hna (by decide)) mvX6_begin lX8_99 k3 (by decide) rfl rfl rfl rfl (Nat.le_of_ble_eq_true rfl) (Nat.le_of_ble_eq_true rfl) (Nat.le_of_ble_eq_true rfl) dX8_text_67 (fun b hb3 => ?_)
  obtain ⟨-, f3, g3⟩ := hb3
  have hnb : NetR b N' (lkN (bsQ Q.f)) := hna.of hS.2 (fun c j _ _ => f3.n (by unfold pTm; omega))
  refine a_aload_n dX8_text_70 rfl rfl ?_
  refine a_getF (d := 7) fX8_81 k0 rfl r0_3 dX8_text_71 ?_
  refine a_aload_n dX8_text_74 rfl rfl ?_
  refine a_getR (d := N') (J := 12) fX8_65 k0 rfl q0_12 rfl ((f3.r (by unfold pTm; omega)).trans x2) dX8_text_75 ?_
  refine a_callV (c := 7) (as := [ar N']) (rest := []) (c_begin b (lkN (bsQ Q.f)) N' 7 hWV hnb (by decide)) mvX6_begin lX8_99 k7 (by decide) rfl rfl rfl rfl (Nat.le_of_ble_eq_true rfl) (Nat.le_of_ble_eq_true rfl) (Nat.le_of_ble_eq_true rfl) dX8_text_78 (fun c hb7 => ?_)
  obtain ⟨-, f7, g7⟩ := hb7
  refine a_aload_n dX8_text_81 rfl rfl ?_
  refine a_getF (d := 15) fX8_23 k0 rfl r0_5 dX8_text_82 ?_
  refine a_cV (c := 15) (as := []) (rest := []) (c_udClear c) mvX7_clear lX8_102 k15 (by decide) rfl rfl rfl rfl (Nat.le_of_ble_eq_true rfl) (Nat.le_of_ble_eq_true rfl) (Nat.le_of_ble_eq_true rfl) dX8_text_85 ?_
  refine a_aload_n dX8_text_88 rfl rfl ?_
  refine a_getF (d := 86) fX8_48 k0 rfl r0_9 dX8_text_89 ?_
  refine a_cV (c := 86) (as := []) (rest := []) (c_lgClear (sN c 15 0 0) 86 (Or.inr rfl)) mvX1_clear lX8_105 k86 (by decide) rfl rfl rfl rfl (Nat.le_of_ble_eq_true rfl) (Nat.le_of_ble_eq_true rfl) (Nat.le_of_ble_eq_true rfl) dX8_text_92 ?_
  refine a_aload_n dX8_text_95 rfl rfl ?_
  refine a_getF (d := 38) fX8_30 k0 rfl r0_6 dX8_text_96 ?_
  have y1 : Fg (fun c j => (c = 15 ∧ j = 0) ∨ (c = 86 ∧ j = 0)) c (sN (sN c 15 0 0) 86 0 0) := (Fg.rfl.sN (by omega)).sN (by omega)
  have y2 : gN (sN (sN c 15 0 0) 86 0 0) 15 0 = 0 := by rw [gN_sN, if_neg (by omega), gN_sN, if_pos ⟨rfl, rfl⟩]; rfl
  have y3 : gN (sN (sN c 15 0 0) 86 0 0) 86 0 = 0 := by rw [gN_sN, if_pos ⟨rfl, rfl⟩]; rfl
  generalize (sN (sN c 15 0 0) 86 0 0) = d at y1 y2 y3 ⊢
  refine a_callV (c := 38) (as := []) (rest := []) (c_forget d) mvX3_forget lX8_106 k38 (by decide) rfl rfl rfl rfl (Nat.le_of_ble_eq_true rfl) (Nat.le_of_ble_eq_true rfl) (Nat.le_of_ble_eq_true rfl) dX8_text_99 (fun u hu => ?_)
  obtain ⟨-, z1, z2⟩ := hu
  refine a_aload_n dX8_text_102 rfl rfl ?_
  refine a_getF (d := 2) fX8_16 k0 rfl r0_1 dX8_text_103 ?_
  refine a_getI (J := 2) fX8_109 k2 rfl rfl dX8_text_106 ?_
  have gn : ∀ (p : Nat) (j : Int), ¬ (3 ≤ p ∧ p ≤ 9) → ¬ (p = 15 ∧ j = 0) → ¬ (p = 86 ∧ j = 0) → p ≠ 42 → gN u p j = gN v p j := fun p j e1 e2 e3 e4 => by
    rw [z1.n (by omega), y1.n (by omega), f7.n (by unfold pTm; omega), f3.n (by unfold pTm; omega), x4]
  refine a_topI (y := Q.f 4) ((gn 2 2 (by omega) (by omega) (by omega) (by omega)).trans hF.1.2.1.2.2) ?_
  have gb : ∀ T : Nat, T = 3 ∨ T = 7 → (T = 3 → BgP b (lkN (bsQ Q.f)) N' T) → (T = 7 → BgP c (lkN (bsQ Q.f)) N' T) → BgP u (lkN (bsQ Q.f)) N' T := by
    intro T hT e3 e7
    rcases hT with e | e
    · have z := e3 e
      subst e
      refine ⟨?_, ?_, ?_, fun i i0 i1 => ?_⟩
      · rw [z1.r (by omega), y1.r (by omega), f7.r (by unfold pTm; omega)]; exact z.1
      · rw [z1.l (by omega), y1.l (by omega), f7.l (by unfold pTm; omega)]; exact z.2.1
      · rw [z1.n (by omega), y1.n (by omega), f7.n (by unfold pTm; omega)]; exact z.2.2.1
      · rw [z1.n (by omega), y1.n (by omega), f7.n (by unfold pTm; omega), z1.n (by omega), y1.n (by omega), f7.n (by unfold pTm; omega)]; exact z.2.2.2 i i0 i1
    · have z := e7 e
      subst e
      refine ⟨?_, ?_, ?_, fun i i0 i1 => ?_⟩
      · rw [z1.r (by omega), y1.r (by omega)]; exact z.1
      · rw [z1.l (by omega), y1.l (by omega)]; exact z.2.1
      · rw [z1.n (by omega), y1.n (by omega)]; exact z.2.2.1
      · rw [z1.n (by omega), y1.n (by omega), z1.n (by omega), y1.n (by omega)]; exact z.2.2.2 i i0 i1
  refine a_iret rfl (Or.inl ⟨hz, rfl, hq, hnt.of hS.2 (fun p j p0 p1 => gn p j (by omega) (by omega) (by omega) (by omega)), ⟨?_, ?_, (gn 0 14 (by omega) (by omega) (by omega) (by omega)).trans e14, (gn 2 0 (by omega) (by omega) (by omega) (by omega)).trans hF.1.2.1.1, (gn 2 1 (by omega) (by omega) (by omega) (by omega)).trans hF.1.2.1.2.1, ?_, ?_, (gn _ _ (by omega) (by omega) (by omega) (by omega)).trans hF.2.2.2.2.1.1⟩, z2, gb 3 (Or.inl rfl) (fun _ => g3) (fun e => absurd e (by decide)), gb 7 (Or.inr rfl) (fun e => absurd e (by decide)) (fun _ => g7), ?_⟩) dX8_text_109
  · rw [z1.r (by omega), y1.r (by omega), f7.r (by unfold pTm; omega), f3.r (by unfold pTm; omega)]; exact x2
  · rw [z1.r (by omega), y1.r (by omega), f7.r (by unfold pTm; omega), f3.r (by unfold pTm; omega)]; exact x3
  · rw [z1.n (by omega)]; exact y2
  · rw [z1.n (by omega)]; exact y3
  · exact ((((((Fg.rfl.sN (by omega)).trans (hF.1.1.mono (fun c j z => Or.inl z))).trans (x1.mono (fun c j z => by omega))).trans (f3.mono (fun c j z => by unfold pTm at z; omega))).trans (f7.mono (fun c j z => by unfold pTm at z; omega))).trans (y1.mono (fun c j z => by omega))).trans (z1.mono (fun c j z => by omega))

