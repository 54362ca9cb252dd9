/-! Reading goes forward; what a text makes. -/
theorem ck_tk {p : Prop} [Decidable p] {k : Int} {q : RS} : (if p then wrongF k q else q).tk = q.tk := by split <;> first | exact wr_tk | rfl
theorem at_tk {q q' : RS} (h : q'.tk = q.tk) : q'.at_ = q.at_ := by unfold RS.at_; rw [h]
theorem tk_fwd {σ : Sto} {q : RS} (h : ROK σ q) : q.at_ ≤ (tkS σ q).pl ∧ (tkS σ q).pl ≤ (tkS σ q).at_ ∧ ((tkS σ q).so = 3 ∨ (tkS σ q).pl < (tkS σ q).at_) := by
  have a := tok_at (fun j => gN σ 154 j) (gN σ 153 6) q.tk h.a.1 h.a.2
  exact ⟨a.1, a.2.1, a.2.2.2⟩
theorem gn_at {σ : Sto} {q : RS} (h : ROK σ q) : q.at_ ≤ (gnF σ q).at_ := by
  unfold gnF
  split
  · have := tk_fwd h; omega
  · exact Int.le_refl _
theorem nh_tk {lo hi : Int} {q : RS} : (nhF lo hi q).tk = q.tk := by unfold nhF nh2 nh1; rw [ck_tk, ck_tk]
theorem stp_at {σ : Sto} {b : Int} {q : RS} (h : ROK σ q) : q.at_ ≤ (stpF σ b q).at_ := by
  have a := gn_at (st3_ok b (stV q) (st1_ok h))
  rw [at_tk (show (sn3 b (stV q) (sn1 q)).tk = q.tk from by unfold sn3 sn1; rw [ck_tk, ck_tk])] at a
  exact a
theorem rtQ3_at {σ : Sto} {fr ah : Int} {q : RS} (h : ROK σ q) : q.at_ ≤ (rtQ3 σ fr ah q).at_ := by
  have a := gn_at (rtB_ok (x := nhV 0 1439 (rtA q)) (y := ah) (nh_ok 0 1439 (rtA_ok h)))
  rw [at_tk (show (rtB (nhV 0 1439 (rtA q)) ah (nhF 0 1439 (rtA q))).tk = q.tk from by unfold rtB; rw [ck_tk, nh_tk]; unfold rtA; rw [ck_tk])] at a
  have b := gn_at (rtC_ok (x := nhV 0 1439 (rtQ1 σ ah q)) (y := rtL q) (nh_ok 0 1439 (rtQ1_ok (ah := ah) h)))
  rw [at_tk (show (rtC (nhV 0 1439 (rtQ1 σ ah q)) (rtL q) (nhF 0 1439 (rtQ1 σ ah q))).tk = (rtQ1 σ ah q).tk from by unfold rtC; rw [ck_tk, nh_tk])] at b
  have c := stp_at (b := fr) (rtQ2_ok (ah := ah) h)
  exact Int.le_trans a (Int.le_trans b c)
theorem rtF_at {σ : Sto} : ∀ (d : Nat) (fr ah : Int) (q : RS), ROK σ q → q.at_ ≤ (rtF σ d fr ah q).at_ := by
  intro d
  induction d with
  | zero => intro fr ah q _; exact Int.le_refl _
  | succ d ih =>
    intro fr ah q h
    have a := rtQ3_at (fr := fr) (ah := ah) h
    unfold rtF
    split
    · rename_i z
      split
      · exact Int.le_trans a (ih _ _ _ (rtR_ok h z))
      · exact a
    · exact a
theorem rl1_at {σ : Sto} {q : RS} (h : ROK σ q) : q.at_ ≤ (rl1 σ q).at_ := by
  unfold rl1
  split
  · unfold rdStop
    dsimp only
    have h1 : ROK σ (rs1 q) := ite_ok (wrong_ok 2 h) h
    have a := gn_at h1
    rw [at_tk (show (rs1 q).tk = q.tk from ck_tk)] at a
    have h2 : ROK σ (rs2 (gnF σ (rs1 q))) := ite_ok (wrong_ok 1 (gn_ok h1)) (gn_ok h1)
    have h3 : ROK σ (rs3 (rs2 (gnF σ (rs1 q)))) := ite_ok (wrong_ok 3 h2) h2
    have b := gn_at h3
    rw [at_tk (show (rs3 (rs2 (gnF σ (rs1 q)))).tk = (gnF σ (rs1 q)).tk from by unfold rs3 rs2; rw [ck_tk, ck_tk])] at b
    have c := gn_at (nh_ok 0 60 (gn_ok h3))
    rw [at_tk (nh_tk (lo := 0) (hi := 60) (q := gnF σ (rs3 (rs2 (gnF σ (rs1 q))))))] at c
    have e : ∀ (w c : Int) (q : RS), (rsE w c q).at_ = q.at_ := fun w c q => by unfold rsE; split <;> rfl
    rw [e]
    omega
  · split
    · unfold rdWalk
      dsimp only
      have h1 : ROK σ (rw1 q) := ite_ok (wrong_ok 2 h) h
      have a := gn_at h1
      rw [at_tk (show (rw1 q).tk = q.tk from ck_tk)] at a
      have b := stp_at (b := -1) (gn_ok h1)
      have c := stp_at (b := stV (gnF σ (rw1 q))) (stp_ok (-1) (gn_ok h1))
      have d := gn_at (nh_ok 1 240 (stp_ok (stV (gnF σ (rw1 q))) (stp_ok (-1) (gn_ok h1))))
      rw [at_tk (nh_tk (lo := 1) (hi := 240))] at d
      have e : ∀ (a b n : Int) (q : RS), (rwE a b n q).at_ = q.at_ := fun a b n q => by
        unfold rwE
        dsimp only
        split
        · split <;> rfl
        · rfl
      rw [e]
      omega
    · split
      · unfold rdTrip
        dsimp only
        have h1 : ROK σ (rt1 q) := ite_ok (wrong_ok 2 h) h
        have a := gn_at h1
        rw [at_tk (show (rt1 q).tk = q.tk from ck_tk)] at a
        have b := stp_at (b := -1) (gn_ok h1)
        have c := rtF_at 61 (stV (gnF σ (rt1 q))) 0 _ (stp_ok (-1) (gn_ok h1))
        split <;> omega
      · rw [at_tk wr_tk]; exact Int.le_refl _
/-- how far one is, at a token -/
def Adv (q : RS) : Prop := q.pl ≤ q.at_ ∧ (q.so = 3 ∨ q.pl < q.at_)
theorem line_adv {σ : Sto} {q : RS} (h : ROK σ q) (hA : Adv q) (hs : q.so ≠ 3) (z : (lineF σ q).fa = 0) : Adv (lineF σ q) ∧ q.pl < (lineF σ q).pl := by
  have z1 : (rl2 (rl1 σ q)).fa = 0 := by rw [← gn_fa (σ := σ)]; exact z
  have o2 : ROK σ (rl2 (rl1 σ q)) := ite_ok (wrong_ok 1 (rl1_ok h)) (rl1_ok h)
  have a := tk_fwd o2
  rw [← gn0 z1, at_tk (show (rl2 (rl1 σ q)).tk = (rl1 σ q).tk from ck_tk)] at a
  have b := rl1_at h
  refine ⟨a.2, ?_⟩
  show q.pl < (gnF σ (rl2 (rl1 σ q))).pl
  have := hA.2
  omega
/-- the walks' bounds of a text -/
theorem line_W {σ : Sto} {q : RS} (h : ROK σ q) (hB : WlkB q.f) : WlkB (lineF σ q).f := by
  have x : WlkB (rl1 σ q).f := by
    unfold rl1
    split
    · unfold rdStop rsE
      dsimp only
      have e : ∀ q : RS, (gnF σ (nhF 0 60 (gnF σ (rs3 (rs2 (gnF σ (rs1 q))))))).f = q.f := fun q => by simp only [gn_f, nh_f, rs3_f, rs2_f, rs1_f]
      split
      · rename_i z
        have c := rdStop_z z
        have d := h.f0
        have e2 := e q
        generalize gnF σ (nhF 0 60 (gnF σ (rs3 (rs2 (gnF σ (rs1 q)))))) = qq at e2
        intro j h0 h1
        have e3 : qq.f 0 = q.f 0 := by rw [e2]
        show 0 ≤ up1 (up1 qq.f (5 + qq.f 0) _) 0 (up1 qq.f (5 + qq.f 0) _ 0 + 1) j ∧ up1 (up1 qq.f (5 + qq.f 0) _) 0 (up1 qq.f (5 + qq.f 0) _ 0 + 1) j ≤ 1000000
        rw [up_neg (by omega), up_neg (by omega), e2]
        exact hB j h0 h1
      · rw [e]; exact hB
    · split
      · unfold rdWalk rwE
        dsimp only
        have e : (gnF σ (nhF 1 240 (stpF σ (stV (gnF σ (rw1 q))) (stpF σ (-1) (gnF σ (rw1 q)))))).f = q.f := by simp only [gn_f, nh_f, stp_f, rw1_f]
        split
        · split
          · have n := nhV_rng (q := stpF σ (stV (gnF σ (rw1 q))) (stpF σ (-1) (gnF σ (rw1 q)))) (show (1 : Int) ≤ 240 by decide)
            intro j h0 h1
            have := hB j h0 h1
            show 0 ≤ up1 (up1 (up1 (gnF σ _).f 1 _) _ _) _ _ j ∧ up1 (up1 (up1 (gnF σ _).f 1 _) _ _) _ _ j ≤ 1000000
            unfold up1
            rw [e]
            split
            · omega
            · split
              · omega
              · rw [if_neg (by omega)]; omega
          · intro j h0 h1
            show 0 ≤ up1 (gnF σ _).f 1 _ j ∧ up1 (gnF σ _).f 1 _ j ≤ 1000000
            rw [up_neg (by omega), e]
            exact hB j h0 h1
        · rw [e]; exact hB
      · split
        · have t : ∀ (d : Nat) (fr ah : Int) (q : RS), ROK σ q → WlkB q.f → WlkB (rtF σ d fr ah q).f := by
            intro d
            induction d with
            | zero => intro fr ah q _ hB; exact hB
            | succ d ih =>
              intro fr ah q h hB
              unfold rtF
              have r : WlkB (rtR σ fr ah q).f := fun j h0 h1 => by rw [rtR_f h h1, if_neg (by omega)]; exact hB j h0 h1
              split
              · rename_i z
                split
                · exact ih _ _ _ (rtR_ok h z) r
                · intro j h0 h1
                  rw [wF_neg (by omega)]
                  exact r j h0 h1
              · rw [rtQ3_f]; exact hB
          unfold rdTrip
          dsimp only
          have o1 : ROK σ (stpF σ (-1) (gnF σ (rt1 q))) := stp_ok (-1) (gn_ok (ite_ok (wrong_ok 2 h) h))
          have e : (stpF σ (-1) (gnF σ (rt1 q))).f = q.f := by rw [stp_f, gn_f, rt1_f]
          split
          · exact t _ _ _ _ o1 (by rw [e]; exact hB)
          · rw [e]; exact hB
        · rw [wr_f]; exact hB
  intro j h0 h1
  unfold lineF
  dsimp only
  rw [wF_neg (by omega), gn_f, show (rl2 (rl1 σ q)).f = (rl1 σ q).f from ckf]
  exact x j h0 h1
theorem lines_W {σ : Sto} : ∀ (d : Nat) (q : RS), ROK σ q → WlkB q.f → ROK σ (linesF σ d q) ∧ WlkB (linesF σ d q).f := by
  intro d
  induction d with
  | zero => intro q h k; exact ⟨h, k⟩
  | succ d ih =>
    intro q h k
    unfold linesF
    split
    · exact ih _ (lineF_ok h) (line_W h k)
    · exact ⟨h, k⟩
theorem fr_W : WlkB frF := fun j h0 h1 => by
  unfold frF
  rw [if_pos ⟨h0, h1⟩]
  split <;> omega
abbrev pTx (c : Nat) (j : Int) : Prop := c = 155 ∨ c = 156 ∨ c = 157 ∨ c = 158 ∨ (c = 153 ∧ (j = 0 ∨ j = 2 ∨ (6 ≤ j ∧ j ≤ 15) ∨ j = 17 ∨ j = 20 ∨ j = 38))
/-- the state at a text's first token -/
def tx0 (σ σ1 : Sto) : RS := tkS σ1 (mkR (0, gN σ 153 8, gN σ 153 9, gN σ 153 10, gN σ 153 11) 0 (gN σ 153 13) frF (fun j => gN σ 157 j))
def txQ (σ σ1 : Sto) (n : Int) : RS := linesF σ1 (n + 1).toNat (tx0 σ σ1)
def TxPost (σ : Sto) (n : Int) (r : Option Av) (u : Sto) : Prop :=
  if n < 0 ∨ gN σ 153 2 < n then r = some (ai (-2)) ∧ u = sN σ 153 0 0
  else ∃ σ1 : Sto, (∀ j, gN σ1 154 j = gN σ 154 j) ∧ gN σ1 153 6 = n ∧ r = some (ai (if (txQ σ σ1 n).fa = 0 then closeF (txQ σ σ1 n).f 4 else -1)) ∧ Fr pTx σ u ∧ gN u 153 0 = 0 ∧ gN u 153 2 = 0 ∧ gN u 153 14 = (txQ σ σ1 n).fa ∧ gN u 153 15 = (if (txQ σ σ1 n).fa = 0 then -1 else (txQ σ σ1 n).fp) ∧
    if (txQ σ σ1 n).fa = 0 then RowIs u 155 (closeF (txQ σ σ1 n).f) ∧ (∀ i : Int, 0 ≤ i → i < 60 → gN u 158 i = 0) ∧ gL u 153 17 = 0 ∧ gN u 153 20 = 0 ∧ gN u 153 38 = 0
    else (∀ j, gN u 155 j = gN σ 155 j) ∧ (∀ j, gN u 158 j = gN σ 158 j) ∧ gL u 153 17 = gL σ 153 17 ∧ gN u 153 20 = gN σ 153 20 ∧ gN u 153 38 = gN σ 153 38
