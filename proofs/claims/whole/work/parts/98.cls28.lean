/-! Reading a text: the reference's steps, each told by where it goes wrong. -/
theorem wX_fa {q : RS} {k p : Int} : (q.wX k p).fa = k := rfl
theorem wX_ne {q : RS} {k p : Int} (hk : k ≠ 0) : (q.wX k p).fa ≠ 0 := hk
theorem wrong0 {k : Int} {q : RS} (h : q.fa = 0) : wrongF k q = q.wX k q.pl := if_pos h
theorem gn1 {ω : Sto} {q : RS} (h : q.fa ≠ 0) : gnF ω q = q := if_neg h
theorem ck1 {p : Prop} [Decidable p] {k : Int} {q : RS} (h : q.fa ≠ 0) : (if p then wrongF k q else q) = q := by
  split
  · exact if_neg h
  · rfl
theorem nh_x {lo hi : Int} {q : RS} (h : q.fa ≠ 0) : nhF lo hi q = q := by
  have e : nh1 q = q := if_neg (fun z => h z.1)
  unfold nhF
  rw [e]
  exact if_neg (fun z => h z.1)
theorem nh_nf {lo hi : Int} {q : RS} (h : q.fa = 0) : nhF lo hi q = if q.so ≠ 1 then q.wX 1 q.pl else if q.va < lo ∨ hi < q.va then q.wX 2 q.pl else q := by
  unfold nhF nh1
  by_cases c : q.so ≠ 1
  · rw [if_pos ⟨h, c⟩, if_pos c, wrong0 h]
    unfold nh2
    rw [if_neg (fun z => absurd z.1 (wX_ne (by decide)))]
  · rw [if_neg (fun z => c z.2), if_neg c]
    unfold nh2
    by_cases d : q.va < lo ∨ hi < q.va
    · rw [if_pos ⟨h, d⟩, if_pos d, wrong0 h]
    · rw [if_neg (fun z => d z.2), if_neg d]
theorem tk_fa {ω : Sto} {q : RS} : (tkS ω q).fa = q.fa := rfl
theorem tk_f {ω : Sto} {q : RS} : (tkS ω q).f = q.f := rfl
theorem tk_nm {ω : Sto} {q : RS} : (tkS ω q).nm = q.nm := rfl
abbrev noS (q : RS) : Prop := ¬ othF q ∨ nmdF q = -1
theorem sn1_nf {q : RS} (h : q.fa = 0) : sn1 q = if noS q then q.wX 1 q.pl else q := by
  unfold sn1
  by_cases c : noS q
  · rw [if_pos ⟨h, c⟩, if_pos c, wrong0 h]
  · rw [if_neg (fun z => c z.2), if_neg c]
theorem stV_nf {q : RS} (h : q.fa = 0) (c : ¬ noS q) : stV q = nmdF q := by
  unfold stV
  rw [sn1_nf h, if_neg c, if_pos h]
theorem stp_nf {ω : Sto} {b : Int} {q : RS} (h : q.fa = 0) : stpF ω b q = if noS q then q.wX 1 q.pl else if nmdF q = b then q.wX 3 q.pl else tkS ω q := by
  unfold stpF
  by_cases c : noS q
  · rw [sn1_nf h, if_pos c, if_pos c]
    have hz : (q.wX 1 q.pl).fa ≠ 0 := wX_ne (by decide)
    unfold sn3
    rw [if_neg (fun z => hz z.1), gn1 hz]
  · rw [stV_nf h c, sn1_nf h, if_neg c, if_neg c]
    unfold sn3
    by_cases d : nmdF q = b
    · rw [if_pos ⟨h, d⟩, if_pos d, wrong0 h, gn1 (wX_ne (by decide))]
    · rw [if_neg (fun z => d z.2), if_neg d, gn0 h]
theorem stp_x {ω : Sto} {b : Int} {q : RS} (h : q.fa ≠ 0) : stpF ω b q = q := by
  have e : sn1 q = q := if_neg (fun z => h z.1)
  unfold stpF
  rw [e]
  have e3 : sn3 b (stV q) q = q := if_neg (fun z => h z.1)
  rw [e3, gn1 h]
theorem rsE_x {w c : Int} {q : RS} (h : q.fa ≠ 0) : rsE w c q = q := if_neg h
theorem rwE_x {a b n : Int} {q : RS} (h : q.fa ≠ 0) : rwE a b n q = q := if_neg h
def stopS (ω : Sto) (q : RS) : RS :=
  if q.f 0 = 10 then q.wX 2 q.pl else if ¬ othF (tkS ω q) then (tkS ω q).wX 1 (tkS ω q).pl else if nmdF (tkS ω q) ≠ -1 then (tkS ω q).wX 3 (tkS ω q).pl else
  if (tkS ω (tkS ω q)).so ≠ 1 then (tkS ω (tkS ω q)).wX 1 (tkS ω (tkS ω q)).pl else if (tkS ω (tkS ω q)).va < 0 ∨ 60 < (tkS ω (tkS ω q)).va then (tkS ω (tkS ω q)).wX 2 (tkS ω (tkS ω q)).pl else rsE (tkS ω q).wo (tkS ω (tkS ω q)).va (tkS ω (tkS ω (tkS ω q)))
theorem rdStop_nf {ω : Sto} {q : RS} (h : q.fa = 0) : rdStop ω q = stopS ω q := by
  unfold rdStop stopS
  dsimp only
  by_cases c1 : q.f 0 = 10
  · have e1 : rs1 q = q.wX 2 q.pl := by unfold rs1; rw [if_pos c1, wrong0 h]
    have hz : (q.wX 2 q.pl).fa ≠ 0 := wX_ne (by decide)
    rw [if_pos c1, e1, gn1 hz]
    unfold rs2 rs3
    rw [if_neg (fun z => hz z.1), if_neg (fun z => hz z.1), gn1 hz, nh_x hz, gn1 hz, rsE_x hz]
  · have e1 : rs1 q = q := by unfold rs1; rw [if_neg c1]
    rw [if_neg c1, e1, gn0 h]
    have h1 : (tkS ω q).fa = 0 := h
    by_cases c2 : ¬ othF (tkS ω q)
    · have e2 : rs2 (tkS ω q) = (tkS ω q).wX 1 (tkS ω q).pl := by unfold rs2; rw [if_pos ⟨h1, c2⟩, wrong0 h1]
      have hz : ((tkS ω q).wX 1 (tkS ω q).pl).fa ≠ 0 := wX_ne (by decide)
      rw [if_pos c2, e2]
      unfold rs3
      rw [if_neg (fun z => hz z.1), gn1 hz, nh_x hz, gn1 hz, rsE_x hz]
    · have e2 : rs2 (tkS ω q) = tkS ω q := by unfold rs2; rw [if_neg (fun z => c2 z.2)]
      rw [if_neg c2, e2]
      by_cases c3 : nmdF (tkS ω q) ≠ -1
      · have e3 : rs3 (tkS ω q) = (tkS ω q).wX 3 (tkS ω q).pl := by unfold rs3; rw [if_pos ⟨h1, c3⟩, wrong0 h1]
        have hz : ((tkS ω q).wX 3 (tkS ω q).pl).fa ≠ 0 := wX_ne (by decide)
        rw [if_pos c3, e3, gn1 hz, nh_x hz, gn1 hz, rsE_x hz]
      · have e3 : rs3 (tkS ω q) = tkS ω q := by unfold rs3; rw [if_neg (fun z => c3 z.2)]
        have h2 : (tkS ω (tkS ω q)).fa = 0 := h
        rw [if_neg c3, e3, gn0 h1]
        unfold nhV
        rw [nh_nf h2]
        by_cases c4 : (tkS ω (tkS ω q)).so ≠ 1
        · have hz : ((tkS ω (tkS ω q)).wX 1 (tkS ω (tkS ω q)).pl).fa ≠ 0 := wX_ne (by decide)
          rw [if_pos c4, if_pos c4, gn1 hz, rsE_x hz]
        · rw [if_neg c4, if_neg c4]
          by_cases c5 : (tkS ω (tkS ω q)).va < 0 ∨ 60 < (tkS ω (tkS ω q)).va
          · have hz : ((tkS ω (tkS ω q)).wX 2 (tkS ω (tkS ω q)).pl).fa ≠ 0 := wX_ne (by decide)
            rw [if_pos c5, if_pos c5, gn1 hz, rsE_x hz]
          · rw [if_neg c5, if_neg c5, if_pos h2, gn0 h2]
def walkS (ω : Sto) (q : RS) : RS :=
  let q1 := tkS ω q
  let q2 := tkS ω q1
  let q3 := tkS ω q2
  if q.f 1 = 12 then q.wX 2 q.pl else if noS q1 then q1.wX 1 q1.pl else if noS q2 then q2.wX 1 q2.pl else if nmdF q2 = nmdF q1 then q2.wX 3 q2.pl else
  if q3.so ≠ 1 then q3.wX 1 q3.pl else if q3.va < 1 ∨ 240 < q3.va then q3.wX 2 q3.pl else rwE (nmdF q1) (nmdF q2) q3.va (tkS ω q3)
theorem rdWalk_nf {ω : Sto} {q : RS} (h : q.fa = 0) : rdWalk ω q = walkS ω q := by
  unfold rdWalk walkS
  dsimp only
  by_cases c1 : q.f 1 = 12
  · have e1 : rw1 q = q.wX 2 q.pl := by unfold rw1; rw [if_pos c1, wrong0 h]
    have hz : (q.wX 2 q.pl).fa ≠ 0 := wX_ne (by decide)
    rw [if_pos c1, e1, gn1 hz, stp_x hz, stp_x hz, nh_x hz, gn1 hz, rwE_x hz]
  · have e1 : rw1 q = q := by unfold rw1; rw [if_neg c1]
    rw [if_neg c1, e1, gn0 h]
    have h1 : (tkS ω q).fa = 0 := h
    rw [stp_nf (b := -1) h1]
    by_cases c2 : noS (tkS ω q)
    · have hz : ((tkS ω q).wX 1 (tkS ω q).pl).fa ≠ 0 := wX_ne (by decide)
      rw [if_pos c2, if_pos c2, stp_x hz, nh_x hz, gn1 hz, rwE_x hz]
    · have c3 : ¬ nmdF (tkS ω q) = -1 := fun z => c2 (Or.inr z)
      rw [if_neg c2, if_neg c2, if_neg c3, stV_nf h1 c2]
      have h2 : (tkS ω (tkS ω q)).fa = 0 := h
      rw [stp_nf h2]
      by_cases c4 : noS (tkS ω (tkS ω q))
      · have hz : ((tkS ω (tkS ω q)).wX 1 (tkS ω (tkS ω q)).pl).fa ≠ 0 := wX_ne (by decide)
        rw [if_pos c4, if_pos c4, nh_x hz, gn1 hz, rwE_x hz]
      · rw [if_neg c4, if_neg c4, stV_nf h2 c4]
        by_cases c5 : nmdF (tkS ω (tkS ω q)) = nmdF (tkS ω q)
        · have hz : ((tkS ω (tkS ω q)).wX 3 (tkS ω (tkS ω q)).pl).fa ≠ 0 := wX_ne (by decide)
          rw [if_pos c5, if_pos c5, nh_x hz, gn1 hz, rwE_x hz]
        · rw [if_neg c5, if_neg c5]
          have h3 : (tkS ω (tkS ω (tkS ω q))).fa = 0 := h
          unfold nhV
          rw [nh_nf h3]
          by_cases c6 : (tkS ω (tkS ω (tkS ω q))).so ≠ 1
          · have hz : ((tkS ω (tkS ω (tkS ω q))).wX 1 (tkS ω (tkS ω (tkS ω q))).pl).fa ≠ 0 := wX_ne (by decide)
            rw [if_pos c6, if_pos c6, gn1 hz, rwE_x hz]
          · rw [if_neg c6, if_neg c6]
            by_cases c7 : (tkS ω (tkS ω (tkS ω q))).va < 1 ∨ 240 < (tkS ω (tkS ω (tkS ω q))).va
            · have hz : ((tkS ω (tkS ω (tkS ω q))).wX 2 (tkS ω (tkS ω (tkS ω q))).pl).fa ≠ 0 := wX_ne (by decide)
              rw [if_pos c7, if_pos c7, gn1 hz, rwE_x hz]
            · rw [if_neg c7, if_neg c7, if_pos h3, gn0 h3]
/-- a ride: where it goes wrong; else the state behind it -/
def rideS (ω : Sto) (fr ah : Int) (q : RS) : RS :=
  let q1 := tkS ω q
  let q2 := tkS ω q1
  if q.so ≠ 1 then q.wX 1 q.pl else if q.f 3 = 60 ∨ q.va < 0 ∨ 1439 < q.va then q.wX 2 q.pl else if q.va < ah then q.wX 4 q.pl else
  if q1.so ≠ 1 then q1.wX 1 q1.pl else if q1.va < 0 ∨ 1439 < q1.va then q1.wX 2 q1.pl else if q1.va ≤ q.va then q1.wX 4 q1.pl else
  if noS q2 then q2.wX 1 q2.pl else if nmdF q2 = fr then q2.wX 3 q2.pl else tkS ω q2
theorem rtC_x {x y : Int} {q : RS} (h : q.fa ≠ 0) : rtC x y q = q := ck1 h
theorem rtB_x {x y : Int} {q : RS} (h : q.fa ≠ 0) : rtB x y q = q := ck1 h
theorem rt_x2 {ω : Sto} {fr ah : Int} {q : RS} (h : (rtQ1 ω ah q).fa ≠ 0) : rtQ3 ω fr ah q = rtQ1 ω ah q := by
  unfold rtQ3 rtQ2
  rw [nh_x h, rtC_x h, gn1 h, stp_x h]
theorem rt_x3 {ω : Sto} {fr ah : Int} {q : RS} (h : (rtQ2 ω ah q).fa ≠ 0) : rtQ3 ω fr ah q = rtQ2 ω ah q := by
  unfold rtQ3
  rw [stp_x h]
theorem rtQ1_nf {ω : Sto} {ah : Int} {q : RS} (h : q.fa = 0) : rtQ1 ω ah q = if q.so ≠ 1 then q.wX 1 q.pl else if q.f 3 = 60 ∨ q.va < 0 ∨ 1439 < q.va then q.wX 2 q.pl else if q.va < ah then q.wX 4 q.pl else tkS ω q := by
  unfold rtQ1
  by_cases c1 : q.so ≠ 1
  · have e1 : rtA q = q := by unfold rtA; rw [if_neg (fun z => c1 z.1)]
    have hz : (q.wX 1 q.pl).fa ≠ 0 := wX_ne (by decide)
    rw [if_pos c1, e1, nh_nf h, if_pos c1, rtB_x hz, gn1 hz]
  · rw [if_neg c1]
    by_cases c2 : q.f 3 = 60
    · have e1 : rtA q = q.wX 2 q.pl := by unfold rtA; rw [if_pos ⟨by omega, c2⟩, wrong0 h]
      have hz : (q.wX 2 q.pl).fa ≠ 0 := wX_ne (by decide)
      rw [if_pos (Or.inl c2), e1, nh_x hz, rtB_x hz, gn1 hz]
    · have e1 : rtA q = q := by unfold rtA; rw [if_neg (fun z => c2 z.2)]
      rw [e1]
      by_cases c3 : q.va < 0 ∨ 1439 < q.va
      · have hz : (q.wX 2 q.pl).fa ≠ 0 := wX_ne (by decide)
        rw [if_pos (Or.inr c3), nh_nf h, if_neg c1, if_pos c3, rtB_x hz, gn1 hz]
      · have e2 : nhF 0 1439 q = q := by rw [nh_nf h, if_neg c1, if_neg c3]
        have e3 : nhV 0 1439 q = q.va := by unfold nhV; rw [e2, if_pos h]
        rw [if_neg (by omega), e3, e2]
        unfold rtB
        by_cases c4 : q.va < ah
        · have hz : (q.wX 4 q.pl).fa ≠ 0 := wX_ne (by decide)
          rw [if_pos c4, if_pos c4, wrong0 h, gn1 hz]
        · rw [if_neg c4, if_neg c4, gn0 h]
theorem rtL_nf {q : RS} (h : q.fa = 0) (c1 : q.so = 1) (c2 : q.f 3 ≠ 60) (c3 : 0 ≤ q.va) (c4 : q.va ≤ 1439) : rtL q = q.va := by
  have e1 : rtA q = q := by unfold rtA; rw [if_neg (fun z => c2 z.2)]
  have e2 : nhF 0 1439 q = q := by rw [nh_nf h, if_neg (show ¬ q.so ≠ 1 by omega), if_neg (show ¬ (q.va < 0 ∨ 1439 < q.va) by omega)]
  unfold rtL nhV
  rw [e1, e2, if_pos h]
theorem ride_nf {ω : Sto} {fr ah : Int} {q : RS} (h : q.fa = 0) : rtQ3 ω fr ah q = rideS ω fr ah q ∧ ((rideS ω fr ah q).fa = 0 → rtL q = q.va ∧ rtM ω ah q = (tkS ω q).va ∧ rtT ω ah q = nmdF (tkS ω (tkS ω q))) := by
  unfold rideS
  dsimp only
  have n1 := rtQ1_nf (ω := ω) (ah := ah) h
  by_cases c1 : q.so ≠ 1
  · rw [if_pos c1] at n1 ⊢
    exact ⟨by rw [rt_x2 (by rw [n1]; exact wX_ne (by decide)), n1], fun z => absurd z (wX_ne (by decide))⟩
  · rw [if_neg c1] at n1 ⊢
    by_cases c2 : q.f 3 = 60 ∨ q.va < 0 ∨ 1439 < q.va
    · rw [if_pos c2] at n1 ⊢
      exact ⟨by rw [rt_x2 (by rw [n1]; exact wX_ne (by decide)), n1], fun z => absurd z (wX_ne (by decide))⟩
    · rw [if_neg c2] at n1 ⊢
      by_cases c3 : q.va < ah
      · rw [if_pos c3] at n1 ⊢
        exact ⟨by rw [rt_x2 (by rw [n1]; exact wX_ne (by decide)), n1], fun z => absurd z (wX_ne (by decide))⟩
      · rw [if_neg c3] at n1 ⊢
        have h1 : (tkS ω q).fa = 0 := h
        have eL := rtL_nf h (by omega) (fun z => c2 (Or.inl z)) (by omega) (by omega)
        have n2 : rtQ2 ω ah q = if (tkS ω q).so ≠ 1 then (tkS ω q).wX 1 (tkS ω q).pl else if (tkS ω q).va < 0 ∨ 1439 < (tkS ω q).va then (tkS ω q).wX 2 (tkS ω q).pl else if (tkS ω q).va ≤ q.va then (tkS ω q).wX 4 (tkS ω q).pl else tkS ω (tkS ω q) := by
          unfold rtQ2
          rw [n1, eL, nh_nf h1]
          by_cases d1 : (tkS ω q).so ≠ 1
          · rw [if_pos d1, if_pos d1, rtC_x (wX_ne (by decide)), gn1 (wX_ne (by decide))]
          · rw [if_neg d1, if_neg d1]
            by_cases d2 : (tkS ω q).va < 0 ∨ 1439 < (tkS ω q).va
            · rw [if_pos d2, if_pos d2, rtC_x (wX_ne (by decide)), gn1 (wX_ne (by decide))]
            · rw [if_neg d2, if_neg d2]
              have e3 : nhV 0 1439 (tkS ω q) = (tkS ω q).va := by unfold nhV; rw [nh_nf h1, if_neg d1, if_neg d2, if_pos h1]
              rw [e3]
              unfold rtC
              by_cases d3 : (tkS ω q).va ≤ q.va
              · rw [if_pos d3, if_pos d3, wrong0 h1, gn1 (wX_ne (by decide))]
              · rw [if_neg d3, if_neg d3, gn0 h1]
        by_cases d1 : (tkS ω q).so ≠ 1
        · rw [if_pos d1] at n2 ⊢
          exact ⟨by rw [rt_x3 (by rw [n2]; exact wX_ne (by decide)), n2], fun z => absurd z (wX_ne (by decide))⟩
        · rw [if_neg d1] at n2 ⊢
          by_cases d2 : (tkS ω q).va < 0 ∨ 1439 < (tkS ω q).va
          · rw [if_pos d2] at n2 ⊢
            exact ⟨by rw [rt_x3 (by rw [n2]; exact wX_ne (by decide)), n2], fun z => absurd z (wX_ne (by decide))⟩
          · rw [if_neg d2] at n2 ⊢
            by_cases d3 : (tkS ω q).va ≤ q.va
            · rw [if_pos d3] at n2 ⊢
              exact ⟨by rw [rt_x3 (by rw [n2]; exact wX_ne (by decide)), n2], fun z => absurd z (wX_ne (by decide))⟩
            · rw [if_neg d3] at n2 ⊢
              have h2 : (tkS ω (tkS ω q)).fa = 0 := h
              have eM : rtM ω ah q = (tkS ω q).va := by unfold rtM nhV; rw [n1, nh_nf h1, if_neg d1, if_neg d2, if_pos h1]
              have e3 : rtQ3 ω fr ah q = if noS (tkS ω (tkS ω q)) then (tkS ω (tkS ω q)).wX 1 (tkS ω (tkS ω q)).pl else if nmdF (tkS ω (tkS ω q)) = fr then (tkS ω (tkS ω q)).wX 3 (tkS ω (tkS ω q)).pl else tkS ω (tkS ω (tkS ω q)) := by
                unfold rtQ3
                rw [n2, stp_nf h2]
              refine ⟨e3, fun z => ⟨eL, eM, ?_⟩⟩
              by_cases f1 : noS (tkS ω (tkS ω q))
              · rw [if_pos f1] at z; exact absurd z (wX_ne (by decide))
              · unfold rtT
                rw [n2, stV_nf h2 f1]
def tripS (ω : Sto) (q : RS) : RS := if q.f 2 = 20 then q.wX 2 q.pl else if noS (tkS ω q) then (tkS ω q).wX 1 (tkS ω q).pl else rtF ω 61 (nmdF (tkS ω q)) 0 (tkS ω (tkS ω q))
theorem rdTrip_nf {ω : Sto} {q : RS} (h : q.fa = 0) : rdTrip ω q = tripS ω q := by
  unfold rdTrip tripS
  dsimp only
  by_cases c1 : q.f 2 = 20
  · have e1 : rt1 q = q.wX 2 q.pl := by unfold rt1; rw [if_pos c1, wrong0 h]
    have hz : (q.wX 2 q.pl).fa ≠ 0 := wX_ne (by decide)
    rw [if_pos c1, e1, gn1 hz, stp_x hz, if_neg hz]
  · have e1 : rt1 q = q := by unfold rt1; rw [if_neg c1]
    rw [if_neg c1, e1, gn0 h]
    have h1 : (tkS ω q).fa = 0 := h
    rw [stp_nf (b := -1) h1]
    by_cases c2 : noS (tkS ω q)
    · have hz : ((tkS ω q).wX 1 (tkS ω q).pl).fa ≠ 0 := wX_ne (by decide)
      rw [if_pos c2, if_pos c2, if_neg hz]
    · have c3 : ¬ nmdF (tkS ω q) = -1 := fun z => c2 (Or.inr z)
      have h2 : (tkS ω (tkS ω q)).fa = 0 := h
      rw [if_neg c2, if_neg c2, if_neg c3, if_pos h2, stV_nf h1 c2]
/-- a line, ahead of its counting -/
def lineS (ω : Sto) (q : RS) : RS := if (rl1 ω q).fa ≠ 0 then rl1 ω q else if (rl1 ω q).so ≠ 2 then (rl1 ω q).wX 1 (rl1 ω q).pl else tkS ω (rl1 ω q)
theorem line_nf {ω : Sto} {q : RS} : lineF ω q = (lineS ω q).wF (up1 (lineS ω q).f 4 (nrm ((lineS ω q).f 4 + 1))) := by
  have e : gnF ω (rl2 (rl1 ω q)) = lineS ω q := by
    unfold lineS rl2
    by_cases c1 : (rl1 ω q).fa ≠ 0
    · rw [if_neg (fun z => c1 z.1), if_pos c1, gn1 c1]
    · have h : (rl1 ω q).fa = 0 := by omega
      rw [if_neg c1]
      by_cases c2 : (rl1 ω q).so ≠ 2
      · rw [if_pos ⟨h, c2⟩, if_pos c2, wrong0 h, gn1 (wX_ne (by decide))]
      · rw [if_neg (fun z => c2 z.2), if_neg c2, gn0 h]
  unfold lineF
  dsimp only
  rw [e]

