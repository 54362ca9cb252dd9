/-! A text is read: of both, the same answer, and INV again. -/
theorem f1_to {ρ ρ' : Sto} (hW : WOK ρ) (e : ∀ j : Int, 0 ≤ j → j < 415 → gN ρ' 155 j = gN ρ 155 j) (t : Int) : f1F ρ' t = f1F ρ t := by
  have hR := hW.1
  unfold f1F foF
  rw [e 2 (by omega) (by omega), e 3 (by omega) (by omega)]
  have z : fs2 (fun i => decide (gN ρ' 155 (115 + 5 * i + 0) = t)) (-1) (gN ρ 155 3).toNat 0 = fs2 (fun i => decide (gN ρ 155 (115 + 5 * i + 0) = t)) (-1) (gN ρ 155 3).toNat 0 := fs2_congr _ _ (fun x x0 x1 => by
    show decide (gN ρ' 155 (115 + 5 * x + 0) = t) = decide (gN ρ 155 (115 + 5 * x + 0) = t)
    rw [e (115 + 5 * x + 0) (by omega) (by omega)])
  rw [z]
theorem NetR.to {σ ρ ρ' : Sto} {N : Nat} (h : NetR σ N ρ) (hW : WOK ρ) (e : ∀ j : Int, 0 ≤ j → j < 415 → gN ρ' 155 j = gN ρ 155 j) : NetR σ N ρ' := by
  have hR := hW.1
  have hS := hW.2.1
  have e0 := e 0 (by omega) (by omega)
  have e2 := e 2 (by omega) (by omega)
  have e3 := e 3 (by omega) (by omega)
  refine ⟨h.1, fun j a b => ?_, fun s a b => ?_, fun a b q0 q1 q2 q3 => ?_, fun i a b => ?_, fun t a b => ?_⟩
  · rw [e j a (by omega)]; exact h.2.1 j a b
  · rw [e0] at b
    rw [e _ (by omega) (by omega)]; exact h.2.2.1 s a b
  · rw [e0] at q1 q3
    have z := h.2.2.2.1 a b q0 q1 q2 q3
    unfold tfF at z ⊢
    rw [e (15 + 10 * a + b) (by omega) (by omega), e (5 + a) (by omega) (by omega)]
    exact z
  · rw [e3] at b
    rw [e _ (by omega) (by omega), e _ (by omega) (by omega), e _ (by omega) (by omega), e _ (by omega) (by omega), e _ (by omega) (by omega)]
    exact h.2.2.2.2.1 i a b
  · rw [e2] at b
    rw [f1_to hW e]; exact h.2.2.2.2.2 t a b
theorem LW.told {w : Sto} (hW : WOK w) (hX : WX w) (hT : TrOK w) (h0 : ∀ i : Int, 0 ≤ i → i < 60 → gN w 158 i = 0) : LW w := by
  have hR := hW.1
  have tv : ∀ i : Int, 0 ≤ i → i < gN w 155 3 → gN (lkN w) 161 i = gN w 155 (115 + 5 * i + 3) ∧ gN (lkN w) 162 i = gN w 155 (115 + 5 * i + 4) := fun i i0 i1 => by
    have t := lkN_t hW i0 i1
    have z := h0 i i0 (by omega)
    omega
  refine ⟨hW, hX, hT, ⟨fun i i0 i1 => ?_, fun i i0 n => ?_⟩, fun i i0 i1 => ?_⟩
  · have i1 : i < gN w 155 3 := i1
    rw [(tv i i0 i1).1, (tv i i0 i1).2]
    exact (hX.1 i i0 i1).2.2.2
  · have n' : nxt w i := n
    have n1 := n'.1
    rw [(tv i i0 (by omega)).2, (tv (i + 1) (by omega) n1).1]
    exact hX.2.2.2.1 i i0 n'
  · rw [(tv i i0 i1).1]
    exact (hW.2.2.2.1 i i0 (by omega)).2.2.2.1.1
theorem w_text {σ : Sto} (h : INV σ) (n : Int) (h_n : inR n) : Two mX8_text mX9_text [ai n] σ := by
  obtain ⟨N, N', L, hA, hB, hC, hD, hE⟩ := h
  obtain ⟨hQ, hT3, h13, hN', hne, h5N, h5N'⟩ := id hA
  have hN := hQ.n.k
  have k0 := hC.1
  have w6 : gN (sN σ 153 6 n) 153 6 = n := by rw [gN_sN, if_pos ⟨rfl, rfl⟩]; exact nrm_of h_n
  have hct := c_text (sN σ 153 6 n) σ N N' hN hN' hne (gN σ 153 2) n h_n hC.2.1 k0.1 k0.2 hQ.c h13 (fun _ _ => w6) hB.2.2.2.2.1 hC.2.2.1 h5N' (gN σ 153 8) (gN σ 153 9) (gN σ 153 10) (gN σ 153 11) (gN σ 153 13) (fun j => gN σ 157 j)
  obtain ⟨q, hq⟩ : ∃ q, q = linesF (sN σ 153 6 n) (n + 1).toNat (tkS (sN σ 153 6 n) (mkR (0, gN σ 153 8, gN σ 153 9, gN σ 153 10, gN σ 153 11) 0 (gN σ 153 13) frF (fun j => gN σ 157 j))) := ⟨_, rfl⟩
  rw [← hq] at hct
  refine ⟨_, hct, fun x u hu => ?_⟩
  by_cases hn : n < 0 ∨ gN σ 153 2 < n
  · rw [if_pos hn] at hu
    obtain ⟨hu1, hu2⟩ := hu
    subst hu2
    refine ⟨_, t_text u n h_n hB.2.2.2.2.1 k0.1 k0.2, fun y w hw => ?_⟩
    unfold TxPost at hw
    rw [if_pos hn] at hw
    refine ⟨by rw [sai hu1, sai hw.1], ?_⟩
    rw [hw.2]
    exact INV.th hA hB hC hD hE
  · rw [if_neg hn] at hu
    have kr : Kr σ u := by
      rcases hu with ⟨_, _, hu⟩ | ⟨_, hu⟩
      · exact kr_fg hu.2.2.2.2.2.2 (fun c j q => by unfold pRc at q; omega)
      · exact kr_fg hu.1 (fun c j q => by unfold pRc at q; omega)
    refine ⟨_, MetA.mix kr (t_text (mix σ u) n h_n hB.2.2.2.2.1 k0.1 k0.2), fun y w hw => ?_⟩
    have hn' : ¬ (n < 0 ∨ gN (mix σ u) 153 2 < n) := hn
    unfold TxPost at hw
    rw [if_neg hn'] at hw
    obtain ⟨s1, a1, a2, hw1, hw2, hw3, hw4, hw5, hw6, hw7⟩ := hw
    have eq : txQ (mix σ u) s1 n = q := by
      have t1 : ∀ j, gN s1 154 j = gN (sN σ 153 6 n) 154 j := fun j => a1 j
      have t2 : gN s1 153 6 = gN (sN σ 153 6 n) 153 6 := a2.trans w6.symm
      unfold txQ tx0
      rw [lines_co t1 t2, tk_co t1 t2, hq]
      rfl
    rw [eq] at hw1 hw5 hw6 hw7
    have kcw : Kc u w := fun c j hc => by
      have z := kc_fr hw2 (fun c j q => by unfold pTx at q; omega) c j hc
      have y := Kc.mix σ u c j hc
      exact ⟨z.1.trans y.1, z.2.1.trans y.2.1, z.2.2.trans y.2.2⟩
    have krw : ∀ (c : Nat) (j : Int), ¬ c < 153 → ¬ pTx c j → gN w c j = gN σ c j ∧ gL w c j = gL σ c j := fun c j hc q => by
      have y := Kr.mix σ u c j hc
      exact ⟨(hw2.1 c j q).trans y.1, (hw2.2.1 c j q).trans y.2.1⟩
    have hTw : TOK w := fun i i0 i1 => by
      rw [(krw 161 i (by omega) (by unfold pTx; omega)).1, (krw 162 i (by omega) (by unfold pTx; omega)).1]
      exact hB.2.1 i i0 i1
    have hTp : TpOK w := fun j => by
      rw [(krw 154 j (by omega) (by unfold pTx; omega)).1]
      exact hB.2.2.2.2.1 j
    rcases hu with ⟨hf, hu1, hq1, hq2, ⟨r12, r13, r14, r20, r21, r15, r86, r5⟩, r42, b3, b7, hG⟩ | ⟨hu1, hG, r14, r20, r21, hf, r5⟩
    · rw [if_pos hf] at hw1 hw6 hw7
      obtain ⟨rw_, z158, z17, z20, z38⟩ := hw7
      have c4 := hq1.cl.2 4 (by omega)
      refine ⟨by rw [sai hu1, sai hw1, c4], ?_⟩
      have hTl : TldQ w q := ⟨rw_, z158⟩
      have ok := hTl.ok hq1
      have bT := bsQ_T hq1
      have bok := bT.ok hq1
      have hLW : LW w := LW.told ok.1 ok.2.1 ok.2.2 z158
      have e415 : ∀ j : Int, 0 ≤ j → j < 415 → gN (lkN w) 155 j = gN (lkN (bsQ q.f)) 155 j := fun j j0 j1 => (rw_ j j0 j1).trans (bT.1 j j0 j1).symm
      have hR := ok.1.1
      have hS := ok.1.2.1
      have e3 : gN (lkN (bsQ q.f)) 155 3 = gN w 155 3 := (e415 3 (by omega) (by omega)).symm
      have tm : ∀ i : Int, 0 ≤ i → i < gN w 155 3 → gN (lkN w) 161 i = LE_ (lkN (bsQ q.f)) i ∧ gN (lkN w) 162 i = CO_ (lkN (bsQ q.f)) i := fun i i0 i1 => by
        have t := lkN_t ok.1 i0 i1
        have z := z158 i i0 (by omega)
        have a := e415 (115 + 5 * i + 3) (by omega) (by omega)
        have b := e415 (115 + 5 * i + 4) (by omega) (by omega)
        have a' : gN w 155 (115 + 5 * i + 3) = gN (lkN (bsQ q.f)) 155 (115 + 5 * i + 3) := a
        have b' : gN w 155 (115 + 5 * i + 4) = gN (lkN (bsQ q.f)) 155 (115 + 5 * i + 4) := b
        unfold LE_ CO_
        omega
      have td : ∀ i : Int, 0 ≤ i → i < gN w 155 3 → gN (tdW w) 161 i = LE_ (lkN (bsQ q.f)) i ∧ gN (tdW w) 162 i = CO_ (lkN (bsQ q.f)) i := fun i i0 i1 => by
        have t := lkN_t (td_W ok.1) i0 i1
        have z := td158 w i
        have a := e415 (115 + 5 * i + 3) (by omega) (by omega)
        have b := e415 (115 + 5 * i + 4) (by omega) (by omega)
        have a' : gN (tdB w) 155 (115 + 5 * i + 3) = gN (lkN (bsQ q.f)) 155 (115 + 5 * i + 3) := a
        have b' : gN (tdB w) 155 (115 + 5 * i + 4) = gN (lkN (bsQ q.f)) 155 (115 + 5 * i + 4) := b
        have t1 : gN (tdW w) 161 i = gN (tdB w) 155 (115 + 5 * i + 3) + gN (tdB w) 158 i := t.1
        have t2 : gN (tdW w) 162 i = gN (tdB w) 155 (115 + 5 * i + 4) + gN (tdB w) 158 i := t.2
        unfold LE_ CO_
        omega
      have w72 : gN w 7 2 = 0 := (kcw 7 2 (by omega)).1.trans b7.2.2.1
      have w32 : gN w 3 2 = 0 := (kcw 3 2 (by omega)).1.trans b3.2.2.1
      have hNet : NetR w N' (lkN w) := (hq2.to (look_W bok.1 (-1) 0 0) e415).of hS.2 (fun c j q0 q1 => (kcw c j (by omega)).1)
      have z23 : gL (lkN w) 153 23 = 0 := (look23_0 w (-1) 0).trans z17
      have y23 : gL (tdW w) 153 23 = 0 := (look23_0 (tdB w) (-1) 0).trans (td17 w)
      have hD' : ID w [] := ⟨PlR.nil z38, ⟨(kcw 86 0 (by omega)).1.trans r86, fun l x hl => by simp at hl⟩, fun z hz => absurd hz List.not_mem_nil, by show ((0 : Nat) : Int) ≤ 6; omega⟩
      have c15 := hE.1.2.1
      refine ⟨N', N, [], ⟨⟨(kcw 0 12 (by omega)).2.2.trans r12, hNet, ⟨hQ.t.k, (kcw 7 0 (by omega)).2.2.trans b7.1, by rw [z23, (kcw 7 1 (by omega)).2.1]; exact b7.2.1, fun i i0 i1 => ?_, Or.inl w72⟩, fun x => by omega, fun t t0 t1 => ?_⟩, ⟨hT3.k, (kcw 3 0 (by omega)).2.2.trans b3.1, by rw [y23, (kcw 3 1 (by omega)).2.1]; exact b3.2.1, fun i i0 i1 => ?_, Or.inl w32⟩, (kcw 0 13 (by omega)).2.2.trans r13, hN, fun z => hne z.symm, (kcw _ _ (by omega)).1.trans r5, ?_⟩, ⟨hLW, hTw, ⟨by omega, fun k i k0 k1 => by omega⟩, PlOK.id hD', hTp, fun i i0 i1 => by rw [z17]; exact bt_0 i⟩, ⟨by omega, by rw [hw4, (kcw 0 14 (by omega)).1]; exact r14, fun j j0 j1 => by omega, by rw [hw5, hf, (kcw 2 0 (by omega)).1]; exact r20, by rw [hw6, (kcw 2 1 (by omega)).1]; exact r21⟩, hD', ⟨by rw [z20, (kcw 15 0 (by omega)).1]; exact r15, ?_, fun k k0 k1 => by omega⟩, fun k k0 k1 => by omega⟩
      · have i1' : i < gN w 155 3 := i1
        have b := b7.2.2.2 i i0 (by rw [e3]; exact i1')
        have t := tm i i0 i1'
        exact ⟨(kcw 8 i (by omega)).1.trans (b.1.trans t.1.symm), (kcw 9 i (by omega)).1.trans (b.2.trans t.2.symm)⟩
      · have z := (kcw 42 t (by omega)).1.trans (r42 t t0 t1)
        exact ⟨Or.inl z, fun _ y => by omega⟩
      · have i1' : i < gN w 155 3 := i1
        have b := b3.2.2.2 i i0 (by rw [e3]; exact i1')
        have t := td i i0 i1'
        exact ⟨(kcw 4 i (by omega)).1.trans (b.1.trans t.1.symm), (kcw 5 i (by omega)).1.trans (b.2.trans t.2.symm)⟩
      · exact (kcw _ _ (by omega)).1.trans ((hG _ _ (by unfold pRc; omega)).1.trans h5N)
      · rw [(kcw 15 1 (by omega)).1, (hG 15 1 (by unfold pRc; omega)).1]
        exact c15
    · rw [if_neg hf] at hw1 hw6 hw7
      obtain ⟨e155, e158, e17, e20, e38⟩ := hw7
      refine ⟨by rw [sai hu1, sai hw1], ?_⟩
      have e155 : ∀ j, gN w 155 j = gN σ 155 j := e155
      have e158 : ∀ j, gN w 158 j = gN σ 158 j := e158
      have e17 : gL w 153 17 = gL σ 153 17 := e17
      have e20 : gN w 153 20 = gN σ 153 20 := e20
      have e38 : gN w 153 38 = gN σ 153 38 := e38
      have kex : KEx N' σ w := fun c j hc q => by
        have x := kcw c j hc
        have y := hG c j (by unfold pEx at q; unfold pRc; omega)
        exact ⟨x.1.trans y.1, x.2.1.trans y.2.1, x.2.2.trans y.2.2⟩
      have e159 : ∀ j, gN w 159 j = gN σ 159 j := fun j => (krw 159 j (by omega) (by unfold pTx; omega)).1
      have hD' : ID w L := hD.ex hN' kex e155 e38 (fun j => (krw 173 j (by omega) (by unfold pTx; omega)).1) (fun j => (krw 174 j (by omega) (by unfold pTx; omega)).1)
      refine ⟨N, N', L, hA.ex hB.1 kex e155 e158 e17 ((kcw _ _ (by omega)).1.trans r5), ⟨hB.1.of e155 (fun i _ _ => e158 i), hTw, hB.2.2.1.of e20 e159, PlOK.id hD', hTp, fun i i0 i1 => ?_⟩, ⟨by omega, by rw [hw4, (kcw 0 14 (by omega)).1]; exact r14, fun j j0 j1 => by omega, by rw [hw5, (kcw 2 0 (by omega)).1]; exact r20, by rw [hw6, (kcw 2 1 (by omega)).1]; exact r21⟩, hD', hE.ex hN' kex e20 e159 (fun j => (krw 160 j (by omega) (by unfold pTx; omega)).2) e155⟩
      rw [e155] at i0
      rw [e17]
      exact hB.2.2.2.2.2 i i0 i1
