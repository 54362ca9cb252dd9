/-! Reading a trip: what holds where nothing was wrong. -/
theorem rt0 {σ : Sto} {fr ah : Int} {q : RS} (h : (rtQ3 σ fr ah q).fa = 0) :
    (q.fa = 0 ∧ q.so = 1 ∧ q.f 3 ≠ 60 ∧ 0 ≤ q.va ∧ q.va ≤ 1439 ∧ rtL q = q.va ∧ ah ≤ q.va) ∧ (rtQ1 σ ah q = tkS σ q ∧ (tkS σ q).so = 1 ∧ 0 ≤ (tkS σ q).va ∧ (tkS σ q).va ≤ 1439 ∧ rtM σ ah q = (tkS σ q).va ∧ q.va < (tkS σ q).va) ∧
    (rtQ2 σ ah q = tkS σ (tkS σ q) ∧ rtQ3 σ fr ah q = tkS σ (tkS σ (tkS σ q)) ∧ othF (tkS σ (tkS σ q)) ∧ nmdF (tkS σ (tkS σ q)) ≠ -1 ∧ rtT σ ah q = nmdF (tkS σ (tkS σ q)) ∧ rtT σ ah q ≠ fr) := by
  have a := stp0 (show (stpF σ fr (rtQ2 σ ah q)).fa = 0 from h)
  have b : (rtC (nhV 0 1439 (rtQ1 σ ah q)) (rtL q) (nhF 0 1439 (rtQ1 σ ah q))).fa = 0 := by
    rw [← gn_fa (σ := σ)]; exact a.1
  have c := ck0 (by decide) (show (if nhV 0 1439 (rtQ1 σ ah q) ≤ rtL q then wrongF 4 (nhF 0 1439 (rtQ1 σ ah q)) else nhF 0 1439 (rtQ1 σ ah q)).fa = 0 from b)
  have d := nh0 c.2.2
  have e : (rtB (nhV 0 1439 (rtA q)) ah (nhF 0 1439 (rtA q))).fa = 0 := by
    rw [← gn_fa (σ := σ)]; exact d.2.1
  have g := ck0 (by decide) (show (if nhV 0 1439 (rtA q) < ah then wrongF 4 (nhF 0 1439 (rtA q)) else nhF 0 1439 (rtA q)).fa = 0 from e)
  have i := nh0 g.2.2
  have j := ck0 (by decide) (show (if q.so = 1 ∧ q.f 3 = 60 then wrongF 2 q else q).fa = 0 from i.2.1)
  have eA : rtA q = q := j.2.1
  have i3 := i.2.2
  have iv := nhV0 g.2.2
  have g1 := g.1
  rw [iv] at g1
  rw [eA] at i3 iv g1
  have eL : rtL q = q.va := by unfold rtL; rw [eA, ← iv]
  have e1 : rtQ1 σ ah q = tkS σ q := by
    have z : rtB (nhV 0 1439 (rtA q)) ah (nhF 0 1439 (rtA q)) = nhF 0 1439 (rtA q) := g.2.1
    unfold rtQ1
    rw [z, i.1, eA]
    exact gn0 j.2.2
  have c1 := c.1
  have cv := nhV0 c.2.2
  have d2 := d.2.2
  rw [cv, eL] at c1
  rw [e1] at d2 cv c1
  have eM : rtM σ ah q = (tkS σ q).va := by unfold rtM; rw [e1, ← cv]
  have e2 : rtQ2 σ ah q = tkS σ (tkS σ q) := by
    have z : rtC (nhV 0 1439 (rtQ1 σ ah q)) (rtL q) (nhF 0 1439 (rtQ1 σ ah q)) = nhF 0 1439 (rtQ1 σ ah q) := c.2.1
    unfold rtQ2
    rw [z, d.1, gn0 d.2.1, e1]
  have a2 := a.2
  rw [e2] at a2
  refine ⟨⟨j.2.2, i3.1, ?_, i3.2.1, i3.2.2, eL, by omega⟩, ⟨e1, d2.1, d2.2.1, d2.2.2, eM, by omega⟩, ⟨e2, ?_, a2.2.1, a2.2.2.1, ?_, ?_⟩⟩
  · intro z; exact j.1 ⟨i3.1, z⟩
  · unfold rtQ3; rw [e2]; exact a2.1
  · unfold rtT; rw [e2]; exact a2.2.2.2.1
  · unfold rtT; rw [e2]; exact a2.2.2.2.2
theorem rtQ1_f {σ : Sto} {ah : Int} {q : RS} : (rtQ1 σ ah q).f = q.f := by unfold rtQ1; rw [gn_f, rtB_f, nh_f, rtA_f]
theorem rtQ2_f {σ : Sto} {ah : Int} {q : RS} : (rtQ2 σ ah q).f = q.f := by unfold rtQ2; rw [gn_f, rtC_f, nh_f, rtQ1_f]
theorem rtQ3_f {σ : Sto} {fr ah : Int} {q : RS} : (rtQ3 σ fr ah q).f = q.f := by unfold rtQ3; rw [stp_f, rtQ2_f]
theorem rtA_ok {σ : Sto} {q : RS} (h : ROK σ q) : ROK σ (rtA q) := ite_ok (wrong_ok 2 h) h
theorem rtB_ok {σ : Sto} {q : RS} {x y : Int} (h : ROK σ q) : ROK σ (rtB x y q) := ite_ok (wrong_ok 4 h) h
theorem rtC_ok {σ : Sto} {q : RS} {x y : Int} (h : ROK σ q) : ROK σ (rtC x y q) := ite_ok (wrong_ok 4 h) h
theorem rtQ1_ok {σ : Sto} {ah : Int} {q : RS} (h : ROK σ q) : ROK σ (rtQ1 σ ah q) := gn_ok (rtB_ok (nh_ok _ _ (rtA_ok h)))
theorem rtQ2_ok {σ : Sto} {ah : Int} {q : RS} (h : ROK σ q) : ROK σ (rtQ2 σ ah q) := gn_ok (rtC_ok (nh_ok _ _ (rtQ1_ok h)))
theorem rtQ3_ok {σ : Sto} {fr ah : Int} {q : RS} (h : ROK σ q) : ROK σ (rtQ3 σ fr ah q) := stp_ok _ (rtQ2_ok h)
theorem rtT_rng {σ : Sto} {fr ah : Int} {q : RS} (h : ROK σ q) (z : (rtQ3 σ fr ah q).fa = 0) : 0 ≤ rtT σ ah q ∧ rtT σ ah q < q.f 0 := by
  have a := stV_lt (rtQ2_ok (ah := ah) h) (show (stpF σ fr (rtQ2 σ ah q)).fa = 0 from z)
  rw [rtQ2_f] at a
  exact a
theorem rtE_f {r fr to lv cm : Int} {q : RS} {k : Int} (hr : 115 ≤ r) (hk : k < 115) : (rtE r fr to lv cm q).f k = if k = 3 then q.f 3 + 1 else q.f k := by
  have x : ∀ j : Int, 115 ≤ j → ∀ (g : Int → Int) (v : Int) (i : Int), i < 115 → up1 g j v i = g i := fun j hj g v i hi => up_neg (by omega)
  show up1 (up1 (up1 (up1 (up1 (up1 q.f r (q.f 2)) (r + 1) fr) (r + 2) to) (r + 3) lv) (r + 4) cm) 3 (up1 (up1 (up1 (up1 (up1 q.f r (q.f 2)) (r + 1) fr) (r + 2) to) (r + 3) lv) (r + 4) cm 3 + 1) k = _
  split
  · rename_i e
    rw [e, up_pos, x _ (by omega) _ _ _ (by omega), x _ (by omega) _ _ _ (by omega), x _ (by omega) _ _ _ (by omega), x _ (by omega) _ _ _ (by omega), x _ (by omega) _ _ _ (by omega)]
  · rename_i e
    rw [up_neg e, x _ (by omega) _ _ _ hk, x _ (by omega) _ _ _ hk, x _ (by omega) _ _ _ hk, x _ (by omega) _ _ _ hk, x _ (by omega) _ _ _ hk]
theorem rtE_tk {r fr to lv cm : Int} {q : RS} : (rtE r fr to lv cm q).tk = q.tk := rfl
theorem rtE_fa {r fr to lv cm : Int} {q : RS} : (rtE r fr to lv cm q).fa = q.fa := rfl
theorem rtE_nm {r fr to lv cm : Int} {q : RS} : (rtE r fr to lv cm q).nm = q.nm := rfl
theorem rtR_f {σ : Sto} {fr ah : Int} {q : RS} (h : ROK σ q) {k : Int} (hk : k < 115) : (rtR σ fr ah q).f k = if k = 3 then q.f 3 + 1 else q.f k := by
  unfold rtR
  rw [rtE_f (by have := h.f3; omega) hk, rtQ3_f]
theorem rtR_ok {σ : Sto} {fr ah : Int} {q : RS} (h : ROK σ q) (z : (rtQ3 σ fr ah q).fa = 0) : ROK σ (rtR σ fr ah q) := by
  have a := rt0 z
  refine ⟨(rtQ3_ok (fr := fr) (ah := ah) h).a, ?_, ?_, ?_, ?_⟩ <;> rw [rtR_f h (by omega)]
  · exact h.f0
  · exact h.f1
  · exact h.f2
  · have := h.f3; have := a.1.2.2.1; rw [if_pos rfl]; omega
theorem wF2_ok {σ : Sto} {q : RS} (h : ROK σ q) (h2 : q.f 2 ≠ 20) : ROK σ (q.wF (up1 q.f 2 (q.f 2 + 1))) := by
  have x2 := h.f2
  refine ⟨h.a, ?_, ?_, ?_, ?_⟩
  · rw [wF_neg (by omega)]; exact h.f0
  · rw [wF_neg (by omega)]; exact h.f1
  · rw [wF_pos]; omega
  · rw [wF_neg (by omega)]; exact h.f3
theorem rtF_ok {σ : Sto} : ∀ (d : Nat) (fr ah : Int) (q : RS), ROK σ q → q.f 2 ≠ 20 → ROK σ (rtF σ d fr ah q) := by
  intro d
  induction d with
  | zero => intro fr ah q h _; exact h
  | succ d ih =>
    intro fr ah q h h2
    unfold rtF
    split
    · rename_i z
      have a := rtR_ok h z
      have e2 : (rtR σ fr ah q).f 2 = q.f 2 := by rw [rtR_f h (by omega)]; rfl
      split
      · exact ih _ _ _ a (by rw [e2]; exact h2)
      · exact wF2_ok a (by rw [e2]; exact h2)
    · exact rtQ3_ok h
theorem rdTrip_ok {σ : Sto} {q : RS} (h : ROK σ q) : ROK σ (rdTrip σ q) := by
  unfold rdTrip
  dsimp only
  have a : ROK σ (gnF σ (rt1 q)) := gn_ok (ite_ok (wrong_ok 2 h) h)
  have b := stp_ok (-1) a
  split
  · rename_i z
    have c := (stp0 z).1
    rw [gn_fa] at c
    have d := ck0 (by decide) (show (if q.f 2 = 20 then wrongF 2 q else q).fa = 0 from c)
    exact rtF_ok _ _ _ _ b (by rw [stp_f, gn_f, rt1_f]; exact d.1)
  · exact b
theorem rsE_ok {σ : Sto} {q : RS} {w c : Int} (b : ROK σ q) (hz : q.fa = 0 → q.f 0 ≠ 10) : ROK σ (rsE w c q) := by
  unfold rsE
  split
  · rename_i z
    have hcz := hz z
    have x0 := b.f0
    have n5 : ∀ i : Int, i < 5 → i ≠ 5 + q.f 0 := fun i hi => by omega
    refine ⟨b.a, ?_, ?_, ?_, ?_⟩
    · show 0 ≤ up1 (up1 q.f (5 + q.f 0) c) 0 (up1 q.f (5 + q.f 0) c 0 + 1) 0 ∧ up1 (up1 q.f (5 + q.f 0) c) 0 (up1 q.f (5 + q.f 0) c 0 + 1) 0 ≤ 10
      rw [up_pos, up_neg (n5 0 (by omega))]
      omega
    · show 0 ≤ up1 (up1 q.f (5 + q.f 0) c) 0 (up1 q.f (5 + q.f 0) c 0 + 1) 1 ∧ up1 (up1 q.f (5 + q.f 0) c) 0 (up1 q.f (5 + q.f 0) c 0 + 1) 1 ≤ 12
      rw [up_neg (by omega), up_neg (n5 1 (by omega))]; exact b.f1
    · show 0 ≤ up1 (up1 q.f (5 + q.f 0) c) 0 (up1 q.f (5 + q.f 0) c 0 + 1) 2 ∧ up1 (up1 q.f (5 + q.f 0) c) 0 (up1 q.f (5 + q.f 0) c 0 + 1) 2 ≤ 20
      rw [up_neg (by omega), up_neg (n5 2 (by omega))]; exact b.f2
    · show 0 ≤ up1 (up1 q.f (5 + q.f 0) c) 0 (up1 q.f (5 + q.f 0) c 0 + 1) 3 ∧ up1 (up1 q.f (5 + q.f 0) c) 0 (up1 q.f (5 + q.f 0) c 0 + 1) 3 ≤ 60
      rw [up_neg (by omega), up_neg (n5 3 (by omega))]; exact b.f3
  · exact b
theorem rdStop_ok {σ : Sto} {q : RS} (h : ROK σ q) : ROK σ (rdStop σ q) := by
  have a : ROK σ (rs3 (rs2 (gnF σ (rs1 q)))) := ite_ok (wrong_ok 3 (ite_ok (wrong_ok 1 (gn_ok (ite_ok (wrong_ok 2 h) h))) (gn_ok (ite_ok (wrong_ok 2 h) h)))) (ite_ok (wrong_ok 1 (gn_ok (ite_ok (wrong_ok 2 h) h))) (gn_ok (ite_ok (wrong_ok 2 h) h)))
  have b : ROK σ (gnF σ (nhF 0 60 (gnF σ (rs3 (rs2 (gnF σ (rs1 q))))))) := gn_ok (nh_ok _ _ (gn_ok a))
  refine rsE_ok b (fun z => ?_)
  have c := rdStop_z z
  simp only [gn_f, nh_f, rs3_f, rs2_f, rs1_f]
  exact c
theorem rdWalk_ok {σ : Sto} {q : RS} (h : ROK σ q) : ROK σ (rdWalk σ q) := by
  have a : ROK σ (gnF σ (rw1 q)) := gn_ok (ite_ok (wrong_ok 2 h) h)
  have b := stp_ok (-1) a
  have c := stp_ok (stV (gnF σ (rw1 q))) b
  have d := gn_ok (nh_ok 1 240 c)
  have va := stV_rng a
  have vb := stV_rng b
  unfold rdWalk rwE
  dsimp only
  split
  · rename_i z
    have y := rdWalk_z z
    have ua := stV_lt a y.2.2
    have ub := stV_lt b y.2.1
    have e1 : (gnF σ (nhF 1 240 (stpF σ (stV (gnF σ (rw1 q))) (stpF σ (-1) (gnF σ (rw1 q)))))).f 1 = q.f 1 := by simp only [gn_f, nh_f, stp_f, rw1_f]
    have x : ROK σ ((gnF σ (nhF 1 240 (stpF σ (stV (gnF σ (rw1 q))) (stpF σ (-1) (gnF σ (rw1 q)))))).wF (up1 (gnF σ (nhF 1 240 (stpF σ (stV (gnF σ (rw1 q))) (stpF σ (-1) (gnF σ (rw1 q)))))).f 1 ((gnF σ (nhF 1 240 (stpF σ (stV (gnF σ (rw1 q))) (stpF σ (-1) (gnF σ (rw1 q)))))).f 1 + 1))) := by
      have x1 := d.f1
      refine ⟨d.a, ?_, ?_, ?_, ?_⟩
      · rw [wF_neg (by omega)]; exact d.f0
      · rw [wF_pos, e1]; have := h.f1; have := y.1; omega
      · rw [wF_neg (by omega)]; exact d.f2
      · rw [wF_neg (by omega)]; exact d.f3
    split
    · refine ⟨x.a, ?_, ?_, ?_, ?_⟩
      · rw [wF_neg (by omega), wF_neg (by omega)]; exact x.f0
      · rw [wF_neg (by omega), wF_neg (by omega)]; exact x.f1
      · rw [wF_neg (by omega), wF_neg (by omega)]; exact x.f2
      · rw [wF_neg (by omega), wF_neg (by omega)]; exact x.f3
    · exact x
  · exact d
theorem rl1_ok {σ : Sto} {q : RS} (h : ROK σ q) : ROK σ (rl1 σ q) := by
  unfold rl1
  split
  · exact rdStop_ok h
  · split
    · exact rdWalk_ok h
    · split
      · exact rdTrip_ok h
      · exact wrong_ok 1 h
theorem lineF_ok {σ : Sto} {q : RS} (h : ROK σ q) : ROK σ (lineF σ q) := by
  have a : ROK σ (gnF σ (rl2 (rl1 σ q))) := gn_ok (ite_ok (wrong_ok 1 (rl1_ok h)) (rl1_ok h))
  unfold lineF
  dsimp only
  refine ⟨a.a, ?_, ?_, ?_, ?_⟩
  · rw [wF_neg (by omega)]; exact a.f0
  · rw [wF_neg (by omega)]; exact a.f1
  · rw [wF_neg (by omega)]; exact a.f2
  · rw [wF_neg (by omega)]; exact a.f3
theorem RD.pfn {σ u : Sto} {q : RS} (h : RD σ u q) {j v : Int} : RD σ (sN u 156 j v) (q.wF (up1 q.f j (nrm v))) :=
  ⟨h.F.sN (Or.inl rfl), by rw [gN_sN, if_neg (by omega)]; exact h.at_, by rw [gN_sN, if_neg (by omega)]; exact h.pl, by rw [gN_sN, if_neg (by omega)]; exact h.so, by rw [gN_sN, if_neg (by omega)]; exact h.va, by rw [gN_sN, if_neg (by omega)]; exact h.wo, by rw [gN_sN, if_neg (by omega)]; exact h.fa, by rw [gN_sN, if_neg (by omega)]; exact h.fp,
   fun i h0 h1 => by
    show _ = up1 q.f j (nrm v) i
    unfold up1
    rw [gN_sN]
    by_cases e : i = j
    · rw [if_pos ⟨rfl, e⟩, if_pos e]
    · rw [if_neg (by omega), if_neg e]; exact h.f i h0 h1, fun i h0 h1 => by rw [gN_sN, if_neg (by omega)]; exact h.nm i h0 h1⟩
