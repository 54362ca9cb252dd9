/-! Cancelled rides, what is undone, what is fed: of both, the same answer, and INV again. -/
theorem cc_mix (ρ u : Sto) (trip j n b : Int) : cCancel (mix ρ u) trip j n b = cCancel ρ trip j n b := by
  have a : ∀ t, f1F (mix ρ u) t = f1F ρ t := fun _ => rfl
  have z : cnC (mix ρ u) b = cnC ρ b := rfl
  unfold cCancel
  refine ite_congr (by unfold ofT; rw [a, a]; rfl) (fun _ => rfl) (fun _ => ?_)
  unfold cnE
  rw [a, a, z]
theorem e_cancel {σ : Sto} (h : LW σ) (u : Sto) (trip j n b : Int) (hb : b = 0 ∨ b = 1) : cancelF (mix σ u) trip j n b = cancelF σ trip j n b := by
  refine (q_cancel (h.mix u) trip j n b hb).symm.trans (Eq.trans ?_ (q_cancel h trip j n b hb))
  rw [lkN_mix]
  exact cc_mix _ _ _ _ _ _
theorem ofT_mix {ρ : Sto} {trip j : Int} (u : Sto) (hk : ofT ρ trip j) : ofT (mix ρ u) trip j := by
  have a : ∀ t, f1F (mix ρ u) t = f1F ρ t := fun _ => rfl
  unfold ofT
  rw [a, a]
  exact hk
theorem cb_mix (ρ u : Sto) (trip j n b : Int) : cnB (mix ρ u) b (f1F (mix ρ u) trip + j) (cnE (mix ρ u) trip (f1F (mix ρ u) trip + j) n) = cnB ρ b (f1F ρ trip + j) (cnE ρ trip (f1F ρ trip + j) n) := by
  have a : ∀ t, f1F (mix ρ u) t = f1F ρ t := fun _ => rfl
  have z : gL (mix ρ u) 153 23 = gL ρ 153 23 := (Kr.mix ρ u 153 23 (by omega)).2.1
  unfold cnE cnB
  rw [a, a, z]
theorem cnV_mix {σ : Sto} (h : LW σ) (u : Sto) {trip j n b : Int} (hk : ofT (lkN σ) trip j) (hn : 1 ≤ n) : cnV (mix σ u) trip j n b = cnV σ trip j n b := by
  have hk' : ofT (lkN (mix σ u)) trip j := by rw [lkN_mix]; exact ofT_mix u hk
  have e1 := cnB_eq (b := b) (h.mix u) hk' hn
  have e2 := cnB_eq (b := b) h hk hn
  rw [lkN_mix, cb_mix] at e1
  exact e1.symm.trans e2
theorem w_cancel {σ : Sto} (h : INV σ) (trip j n b : Int) (h_trip : inR trip) (h_j : inR j) (h_n : inR n) (hb : b = 0 ∨ b = 1) : Two mX8_cancel mX9_cancel [ai trip, ai j, ai n, ai b] σ := by
  obtain ⟨N, N', L, hA, hB, hC, hD, hE⟩ := h
  have tp := hE.1.2.1
  have s20 := hE.1.1
  have u20 := hB.2.2.1.1
  have q := q_cancel hB.1 trip j n b hb
  have e := e_cancel hB.1
  have h_b : inR b := by unfold inR; omega
  have nn : cancelF σ trip j n b = -1 ∨ 0 ≤ cancelF σ trip j n b := by
    unfold cancelF
    split
    · exact Or.inl rfl
    · rw [bitC_eq]; exact Or.inr (by omega)
  refine ⟨_, c_cancel σ (lkN σ) N hB.1.V hA.1 (gN σ 15 1) (gN σ 15 0) rfl rfl tp.1 tp.2 (by omega) (by omega) trip j n b h_trip h_j h_n h_b, fun x u hu => ?_⟩
  obtain ⟨hu1, hu2⟩ := hu
  have a := sai hu1
  by_cases hp : 0 < cCancel (lkN σ) trip j n b
  · rw [if_pos hp] at hu2
    obtain ⟨g1, g2, g3, g4⟩ := hu2
    have kr : Kr σ u := kr_fg g1 (fun c j q => by unfold pCn pUk at q; omega)
    refine ⟨_, MetA.mix kr (t_cancel (mix σ u) trip j n b h_trip h_j h_n h_b hB.1.1 hB.1.2.2.1 hB.2.2.1), fun y w hw => ?_⟩
    obtain ⟨hw1, hw2⟩ := hw
    have b1 := sai hw1
    rw [e _ _ _ _ _ hb] at b1
    refine ⟨by rw [a, b1, q], ?_⟩
    unfold CnPost at hw2
    rw [e _ _ _ _ _ hb, if_neg (by omega)] at hw2
    obtain ⟨y1, d1, d2⟩ := hw2
    have hv : ofT (lkN σ) trip j ∧ 1 ≤ n := by
      unfold cCancel at hp
      split at hp
      · omega
      · rename_i c1
        exact ⟨Classical.byContradiction fun z => c1 (Or.inl z), by omega⟩
    rw [cnV_mix hB.1 u hv.1 hv.2] at d2
    rw [cnB_eq hB.1 hv.1 hv.2] at g3
    have hyw : Fg (fun c j => c = 158 ∨ (c = 153 ∧ j = 17)) y1 w := by rw [d2]; exact Fg.rfl.sL (by omega)
    have m1 := d1.mx.1
    have e155 : ∀ j, gN w 155 j = gN σ 155 j := fun j => (hyw 155 j (by omega)).1.trans (m1.1 155 j (by unfold pUd; omega))
    have e158 : ∀ j, gN w 158 j = gN σ 158 j := fun j => by
      rw [d2, gN_sL]
      exact m1.1 158 j (by unfold pUd; omega)
    have e17 : gL w 153 17 = cnV σ trip j n b := by rw [d2, gL_sL, if_pos ⟨rfl, rfl⟩]
    have hLW : LW w := hB.1.of e155 (fun i _ _ => e158 i)
    have rg : f1F (lkN σ) (trip + 1) ≤ gN σ 155 3 := (hB.1.V.f1 (trip + 1) (by omega)).2
    have hR := hB.1.1.1
    refine INV.push hA hB hC hD hE d1 hyw (g1.mono (fun c j q => by unfold pCn at q; rcases q with q | q | q; exact Or.inl q; exact Or.inr (Or.inr (Or.inr (Or.inl q))); exact Or.inr (Or.inr (Or.inr (Or.inr q))))) g2 g4 hLW (fun i i0 i1 => ?_) (by rw [g3, e17]) (fun i i0 i1 => ?_)
    · rw [e155] at i0
      have z := (cnE_rng (ρ := lkN σ) (trip := trip) (fi := f1F (lkN σ) trip + j) (n := n) (by omega) hv.2).2
      rw [e17, cn_all hB.1 hv.1 hv.2 (by omega) i1, if_neg (by omega)]
      exact hB.2.2.2.2.2 i i0 i1
    · have t := lkN_t hLW.1 i0 (by rw [e155]; exact i1)
      have t0 := lkN_t hB.1.1 i0 i1
      rw [t.1, t.2, e155, e155, e158, ← t0.1, ← t0.2, (g1 8 i (by unfold pCn pUk; omega)).1, (g1 9 i (by unfold pCn pUk; omega)).1]
      exact ⟨hA.1.t.lv i0 i1, hA.1.t.cm i0 i1⟩
  · rw [if_neg hp] at hu2
    subst hu2
    refine ⟨_, t_cancel u trip j n b h_trip h_j h_n h_b hB.1.1 hB.1.2.2.1 hB.2.2.1, fun y w hw => ?_⟩
    obtain ⟨hw1, hw2⟩ := hw
    have b1 := sai hw1
    refine ⟨by rw [a, b1, q], ?_⟩
    unfold CnPost at hw2
    rw [if_pos (by omega)] at hw2
    rw [hw2]
    exact INV.th hA hB hC hD hE
theorem w_undo {σ : Sto} (h : INV σ) : Two mX8_undo mX9_undo [] σ := by
  obtain ⟨N, N', L, hA, hB, hC, hD, hE⟩ := h
  have tp := hE.1.2.1
  have s20 := hE.1.1
  have hU := hB.2.2.1
  have u20 := hU.1
  have hR := hB.1.1.1
  have top : 0 < gN σ 153 20 → gL σ 17 (tbT (gN σ 15 1)) = gL σ 160 (gN σ 153 20 - 1) ∧ ∀ i : Int, 0 ≤ i → i < gN σ 155 3 → gN σ (18 + (tbT (gN σ 15 1)).toNat) i = gN σ 159 (60 * (gN σ 153 20 - 1) + i) := fun hp => by
    have z := hE.1.2.2 (gN σ 153 20 - 1) (by omega) (by omega)
    rw [rg_top tp.1 tp.2] at z
    exact z
  refine ⟨_, c_undo σ (lkN σ) N hB.1.V hA.1 (gN σ 15 1) (gN σ 15 0) rfl rfl tp.1 tp.2 (by omega) (by omega) (fun hz i i0 i1 => ?_), fun x u hu => ?_⟩
  · have i1' : i < gN σ 155 3 := i1
    rw [(top (by omega)).2 i i0 i1']
    exact hU.2 _ i (by omega) (by omega) i0 (by omega)
  obtain ⟨hu1, hu2⟩ := hu
  have a := sai hu1
  have q := q_undo (σ := σ) s20
  by_cases hz : gN σ 15 0 = 0
  · rw [if_pos hz] at hu2
    subst hu2
    refine ⟨_, t_undo u hU, fun y w hw => ?_⟩
    obtain ⟨hw1, hw2⟩ := hw
    have b1 := sai hw1
    refine ⟨by rw [a, b1, q], ?_⟩
    unfold UdPost at hw2
    rw [if_pos (by omega)] at hw2
    rw [hw2]
    exact INV.th hA hB hC hD hE
  · rw [if_neg hz] at hu2
    obtain ⟨g1, g2, g3, g4, g5, g6⟩ := hu2
    have huS : Fg pSt σ u := g1.mono (fun c j q => by unfold pUu pTb at q; unfold pSt; omega)
    have kr : Kr σ u := kr_fg g1 (fun c j q => by unfold pUu pTb at q; omega)
    refine ⟨_, MetA.mix kr (t_undo (mix σ u) hU), fun y w hw => ?_⟩
    obtain ⟨hw1, hw2⟩ := hw
    have b1 := sai hw1
    have b2 : y = undoF σ := b1
    refine ⟨by rw [a, b2, q], ?_⟩
    have hw3 : if gN σ 153 20 = 0 then w = sN (mix σ u) 153 0 0 else Fr pUo (mix σ u) w ∧ gN w 153 20 = gN σ 153 20 - 1 ∧ (∀ i : Int, 0 ≤ i → i < 60 → gN w 158 i = gN σ 159 (60 * (gN σ 153 20 - 1) + i)) ∧ gL w 153 17 = gL σ 160 (gN σ 153 20 - 1) := hw2
    rw [if_neg (by omega)] at hw3
    obtain ⟨d1, d2, d3, d4⟩ := hw3
    have pos : 0 < gN σ 153 20 := by omega
    have kcw : Kc u w := fun c j hc => by
      have z := kc_fr d1 (fun c j q => by unfold pUo at q; omega) c j hc
      have y := Kc.mix σ u c j hc
      exact ⟨z.1.trans y.1, z.2.1.trans y.2.1, z.2.2.trans y.2.2⟩
    have krw : ∀ (c : Nat) (j : Int), ¬ c < 153 → ¬ pUo c j → gN w c j = gN σ c j ∧ gL w c j = gL σ c j := fun c j hc q => by
      have y := Kr.mix σ u c j hc
      exact ⟨(d1.1 c j q).trans y.1, (d1.2.1 c j q).trans y.2.1⟩
    have e155 : ∀ j, gN w 155 j = gN σ 155 j := fun j => (krw 155 j (by omega) (by unfold pUo; omega)).1
    have row := hE.2 (gN σ 153 20 - 1) (by omega) (by omega)
    have hLW : LW w := row.1.of (fun q => e155 q) (fun i i0 i1 => by rw [kr158]; exact d3 i i0 i1)
    have hOf : OfE w := fun i i0 i1 => by
      rw [e155] at i0
      rw [d4]
      exact row.2 i i0 i1
    have hD' : ID w L := hD.set kcw huS e155 (krw 153 38 (by omega) (by unfold pUo; omega)).1 (fun j => (krw 173 j (by omega) (by unfold pUo; omega)).1) (fun j => (krw 174 j (by omega) (by unfold pUo; omega)).1)
    refine ⟨N, N', L, hA.set hB kcw huS e155 g6 (by rw [g4, d4]; exact (top pos).1) (fun i i0 i1 => ?_), ⟨hLW, fun i i0 i1 => ?_, ⟨by omega, fun k i k0 k1 i0 i1 => ?_⟩, PlOK.id hD', fun j => ?_, hOf⟩, hC.set kcw huS (krw 153 2 (by omega) (by unfold pUo; omega)).1 (fun j => (krw 154 j (by omega) (by unfold pUo; omega)).1) (krw 153 14 (by omega) (by unfold pUo; omega)).1 (krw 153 15 (by omega) (by unfold pUo; omega)).1, hD', ?_, fun k k0 k1 => ?_⟩
    · have t := lkN_t hLW.1 i0 (by rw [e155]; exact i1)
      rw [t.1, t.2, e155, e155, d3 i i0 (by omega), (g5 i i0 i1).1, (g5 i i0 i1).2, (top pos).2 i i0 i1]
      exact ⟨rfl, rfl⟩
    · rw [(krw 161 i (by omega) (by unfold pUo; omega)).1, (krw 162 i (by omega) (by unfold pUo; omega)).1]
      exact hB.2.1 i i0 i1
    · rw [(krw 159 _ (by omega) (by unfold pUo; omega)).1]
      exact hU.2 k i k0 (by omega) i0 i1
    · rw [(krw 154 j (by omega) (by unfold pUo; omega)).1]
      exact hB.2.2.2.2.1 j
    · exact hE.1.pop hU pos (e155 3) ((kcw 15 0 (by omega)).1.trans g2) ((kcw 15 1 (by omega)).1.trans g3) (fun k => (kcw 17 k (by omega)).2.1.trans (g1 17 k (by unfold pUu pTb; omega)).2.1) (fun k k0 k1 i => (kcw _ i (by omega)).1.trans (g1 _ i (by unfold pUu pTb; omega)).1) d2 (fun j => (krw 159 j (by omega) (by unfold pUo; omega)).1) (fun k => (krw 160 k (by omega) (by unfold pUo; omega)).2)
    · have e := hE.2 k k0 (by omega)
      refine ⟨e.1.of (fun q => e155 q) (fun i i0 i1 => ?_), fun i i0 i1 => ?_⟩
      · rw [kr158, kr158, (krw 159 _ (by omega) (by unfold pUo; omega)).1]
      · rw [e155] at i0
        rw [(krw 160 k (by omega) (by unfold pUo; omega)).2]
        exact e.2 i i0 i1
/-- the class's cells that neither the plan nor the times know -/
abbrev pEx (N' : Nat) (c : Nat) (j : Int) : Prop := c = 1 ∨ c = 2 ∨ (c = 0 ∧ j = 14) ∨ (N' ≤ c ∧ c ≤ N' + 30)
def KEx (N' : Nat) (σ w : Sto) : Prop := ∀ (c : Nat) (j : Int), c < 153 → ¬ pEx N' c j → gN w c j = gN σ c j ∧ gL w c j = gL σ c j ∧ gR w c j = gR σ c j
theorem CQ.ex {σ u ρ : Sto} {N N' : Nat} (h : CQ σ ρ N) (hS : gN ρ 155 0 ≤ 10) (hR : gN ρ 155 3 ≤ 60) (hN' : Nok N') (hne : N ≠ N') (k : KEx N' σ u) : CQ u ρ N := by
  have hN := h.n.k
  refine ⟨(k 0 12 (by omega) (by unfold pEx; omega)).2.2.trans h.c, h.n.of hS (fun c j h1 h2 => (k c j (by omega) (by unfold pEx; omega)).1), h.t.of (k 7 0 (by omega) (by unfold pEx; omega)).2.2 (k 7 1 (by omega) (by unfold pEx; omega)).2.1 (fun j => (k 8 j (by omega) (by unfold pEx; omega)).1) (fun j => (k 9 j (by omega) (by unfold pEx; omega)).1) (Or.inl (k 7 2 (by omega) (by unfold pEx; omega)).1), fun x i i0 i1 => ?_, fun t t0 t1 => ?_⟩
  · rw [(k 7 2 (by omega) (by unfold pEx; omega)).1] at x
    exact ((k 10 i (by omega) (by unfold pEx; omega)).2.1).trans (h.m x i i0 i1)
  · rw [(k 42 t (by omega) (by unfold pEx; omega)).1]
    refine ⟨(h.o t t0 t1).1, fun x y => ?_⟩
    exact ((h.o t t0 t1).2 x y).of (fun c j q _ => (k c j (by omega) (by unfold pEx; omega)).1) hR
theorem IA.ex {σ w : Sto} {N N' : Nat} (hA : IA σ N N') (hL : LW σ) (k : KEx N' σ w) (e155 : ∀ j, gN w 155 j = gN σ 155 j) (e158 : ∀ j, gN w 158 j = gN σ 158 j) (e17 : gL w 153 17 = gL σ 153 17) (h5' : gN w (N' + 5) 0 = 0) : IA w N N' := by
  obtain ⟨h1, h2, h3, h4, h5, h6, h7⟩ := hA
  have hN := h1.n.k
  have R := hL.1.1
  have S := hL.1.2.1
  refine ⟨(h1.ex S.2 R.2 h4 h5 k).rq R.1 (lk_rq e155 e158 e17), ?_, (k 0 13 (by omega) (by unfold pEx; omega)).2.2.trans h3, h4, h5, (k _ _ (by omega) (by unfold pEx; omega)).1.trans h6, h5'⟩
  exact (h2.of (k 3 0 (by omega) (by unfold pEx; omega)).2.2 (k 3 1 (by omega) (by unfold pEx; omega)).2.1 (fun j => (k 4 j (by omega) (by unfold pEx; omega)).1) (fun j => (k 5 j (by omega) (by unfold pEx; omega)).1) (Or.inl (k 3 2 (by omega) (by unfold pEx; omega)).1)).rq (td_rq e155)
theorem ID.ex {σ w : Sto} {N' : Nat} {L : List (Int × Int)} (h : ID σ L) (hN' : Nok N') (k : KEx N' σ w) (e155 : ∀ j, gN w 155 j = gN σ 155 j) (e38 : gN w 153 38 = gN σ 153 38) (e173 : ∀ j, gN w 173 j = gN σ 173 j) (e174 : ∀ j, gN w 174 j = gN σ 174 j) : ID w L := by
  obtain ⟨h1, h2, h3, h4⟩ := h
  refine ⟨h1.of e38 (fun l => ⟨e173 l, e174 l⟩), h2.of (fun c j q0 q1 => (k c j (by omega) (by unfold pEx; omega)).1), fun q hq => ?_, h4⟩
  show lgOK (gN w 155 3) q
  rw [e155]
  exact h3 q hq
theorem IE.ex {σ w : Sto} {N' : Nat} (h : IE σ) (hN' : Nok N') (k : KEx N' σ w) (e20 : gN w 153 20 = gN σ 153 20) (e159 : ∀ j, gN w 159 j = gN σ 159 j) (e160 : ∀ j, gL w 160 j = gL σ 160 j) (e155 : ∀ j, gN w 155 j = gN σ 155 j) : IE w :=
  h.of (k 15 0 (by omega) (by unfold pEx; omega)).1 (k 15 1 (by omega) (by unfold pEx; omega)).1 e20 (fun j => (k 17 j (by omega) (by unfold pEx; omega)).2.1) (fun c j q0 q1 => (k c j (by omega) (by unfold pEx; omega)).1) e159 e160 e155
theorem fdV_rng (a b c d e k : Int) : 0 ≤ fdV a b c d e k ∧ fdV a b c d e k ≤ 255 := by
  unfold fdV andI
  rw [and255]
  omega
theorem w_feed {σ : Sto} (h : INV σ) (a b c d e : Int) : Two mX8_feed mX9_feed [ai a, ai b, ai c, ai d, ai e] σ := by
  obtain ⟨N, N', L, hA, hB, hC, hD, hE⟩ := h
  have k0 := hC.1
  refine ⟨_, c_feed σ a b c d e (gN σ 153 2) hC.2.1 k0.1 k0.2, fun x u hu => ?_⟩
  obtain ⟨hu1, hu2⟩ := hu
  have a1 := sai hu1
  have q := q_feed (σ := σ) (k := gN σ 153 2) rfl
  by_cases hz : 900 < gN σ 153 2 + 20
  · rw [if_pos hz] at hu2
    subst hu2
    refine ⟨_, t_feed u a b c d e k0.1, fun y w hw => ?_⟩
    obtain ⟨hw1, hw2⟩ := hw
    have b1 := sai hw1
    refine ⟨by rw [a1, b1, q], ?_⟩
    unfold FdPost at hw2
    rw [if_pos (by omega)] at hw2
    rw [hw2]
    exact INV.th hA hB hC hD hE
  · rw [if_neg hz] at hu2
    obtain ⟨g1, g2, g3⟩ := hu2
    have kr : Kr σ u := kr_fg g1 (fun c j q => by unfold pAp at q; omega)
    refine ⟨_, MetA.mix kr (t_feed (mix σ u) a b c d e k0.1), fun y w hw => ?_⟩
    obtain ⟨hw1, hw2⟩ := hw
    have b1 := sai hw1
    have b2 : y = feedF σ := b1
    refine ⟨by rw [a1, b2, q], ?_⟩
    have hw3 : if 880 < gN σ 153 2 then w = sN (mix σ u) 153 0 0 else Fr pFd (mix σ u) w ∧ gN w 153 2 = gN σ 153 2 + 20 ∧ ∀ j : Int, gN w 154 j = if gN σ 153 2 ≤ j ∧ j < gN σ 153 2 + 20 then fdV a b c d e (j - gN σ 153 2) else gN σ 154 j := hw2
    rw [if_neg (by omega)] at hw3
    obtain ⟨d1, d2, d3⟩ := hw3
    have kcw : Kc u w := fun c j hc => by
      have z := kc_fr d1 (fun c j q => by unfold pFd at q; omega) c j hc
      have y := Kc.mix σ u c j hc
      exact ⟨z.1.trans y.1, z.2.1.trans y.2.1, z.2.2.trans y.2.2⟩
    have krw : ∀ (c : Nat) (j : Int), ¬ c < 153 → ¬ pFd c j → gN w c j = gN σ c j ∧ gL w c j = gL σ c j := fun c j hc q => by
      have y := Kr.mix σ u c j hc
      exact ⟨(d1.1 c j q).trans y.1, (d1.2.1 c j q).trans y.2.1⟩
    have kex : KEx N' σ w := fun c j hc q => by
      have x := kcw c j hc
      have y := g1 c j (by unfold pEx at q; unfold pAp; omega)
      exact ⟨x.1.trans y.1, x.2.1.trans y.2.1, x.2.2.trans y.2.2⟩
    have hN' := hA.2.2.2.1
    have e155 : ∀ j, gN w 155 j = gN σ 155 j := fun j => (krw 155 j (by omega) (by unfold pFd; omega)).1
    have e158 : ∀ j, gN w 158 j = gN σ 158 j := fun j => (krw 158 j (by omega) (by unfold pFd; omega)).1
    have e17 : gL w 153 17 = gL σ 153 17 := (krw 153 17 (by omega) (by unfold pFd; omega)).2
    have e20 : gN w 153 20 = gN σ 153 20 := (krw 153 20 (by omega) (by unfold pFd; omega)).1
    have e159 : ∀ j, gN w 159 j = gN σ 159 j := fun j => (krw 159 j (by omega) (by unfold pFd; omega)).1
    have hD' : ID w L := hD.ex hN' kex e155 (krw 153 38 (by omega) (by unfold pFd; omega)).1 (fun j => (krw 173 j (by omega) (by unfold pFd; omega)).1) (fun j => (krw 174 j (by omega) (by unfold pFd; omega)).1)
    refine ⟨N, N', L, hA.ex hB.1 kex e155 e158 e17 ?_, ⟨hB.1.of e155 (fun i _ _ => e158 i), fun i i0 i1 => ?_, hB.2.2.1.of e20 e159, PlOK.id hD', fun j => ?_, fun i i0 i1 => ?_⟩, ⟨by omega, ?_, fun j j0 j1 => ?_, ?_, ?_⟩, hD', hE.ex hN' kex e20 e159 (fun j => (krw 160 j (by omega) (by unfold pFd; omega)).2) e155⟩
    · exact (kcw _ _ (by omega)).1.trans ((g1 _ _ (by unfold pAp; omega)).1.trans hA.2.2.2.2.2.2)
    · rw [(krw 161 i (by omega) (by unfold pFd; omega)).1, (krw 162 i (by omega) (by unfold pFd; omega)).1]
      exact hB.2.1 i i0 i1
    · rw [d3]
      split
      · exact fdV_rng a b c d e _
      · exact hB.2.2.2.2.1 j
    · rw [e155] at i0
      rw [e17]
      exact hB.2.2.2.2.2 i i0 i1
    · rw [(kcw 0 14 (by omega)).1, g2, d2]
    · rw [(kcw 1 j (by omega)).1, g3, d3]
      by_cases z : gN σ 153 2 ≤ j ∧ j < gN σ 153 2 + 20
      · rw [if_pos z, if_pos z]
        exact fd_eq (by omega) (by omega)
      · rw [if_neg z, if_neg z]
        exact hC.2.2.1 j j0 (by omega)
    · rw [(kcw 2 0 (by omega)).1, (g1 2 0 (by unfold pAp; omega)).1, (krw 153 14 (by omega) (by unfold pFd; omega)).1]
      exact hC.2.2.2.1
    · rw [(kcw 2 1 (by omega)).1, (g1 2 1 (by unfold pAp; omega)).1, (krw 153 15 (by omega) (by unfold pFd; omega)).1]
      exact hC.2.2.2.2
