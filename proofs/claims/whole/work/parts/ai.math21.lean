/-! What is read depends on the tape and its length alone. -/
theorem tk_co {σ τ : Sto} (h : ∀ j, gN τ 154 j = gN σ 154 j) (h6 : gN τ 153 6 = gN σ 153 6) : tkS τ = tkS σ := by
  funext q
  unfold tkS
  rw [show (fun j => gN τ 154 j) = (fun j => gN σ 154 j) from funext h, h6]
theorem gn_co {σ τ : Sto} (e : tkS τ = tkS σ) : gnF τ = gnF σ := by funext q; unfold gnF; rw [e]
theorem stp_co {σ τ : Sto} (e : gnF τ = gnF σ) : stpF τ = stpF σ := by funext b q; unfold stpF; rw [e]
theorem rds_co {σ τ : Sto} (e : gnF τ = gnF σ) : rdStop τ = rdStop σ := by funext q; unfold rdStop; rw [e]
theorem rdw_co {σ τ : Sto} (e : gnF τ = gnF σ) : rdWalk τ = rdWalk σ := by funext q; unfold rdWalk; rw [e, stp_co e]
theorem rq1_co {σ τ : Sto} (e : gnF τ = gnF σ) : rtQ1 τ = rtQ1 σ := by funext a q; unfold rtQ1; rw [e]
theorem rq2_co {σ τ : Sto} (e : gnF τ = gnF σ) : rtQ2 τ = rtQ2 σ := by funext a q; unfold rtQ2; rw [e, rq1_co e]
theorem rm_co {σ τ : Sto} (e : gnF τ = gnF σ) : rtM τ = rtM σ := by funext a q; unfold rtM; rw [rq1_co e]
theorem rq3_co {σ τ : Sto} (e : gnF τ = gnF σ) : rtQ3 τ = rtQ3 σ := by funext f a q; unfold rtQ3; rw [stp_co e, rq2_co e]
theorem rt_co {σ τ : Sto} (e : gnF τ = gnF σ) : rtT τ = rtT σ := by funext a q; unfold rtT; rw [rq2_co e]
theorem rr_co {σ τ : Sto} (e : gnF τ = gnF σ) : rtR τ = rtR σ := by funext f a q; unfold rtR; rw [rt_co e, rm_co e, rq3_co e]
theorem rf_co {σ τ : Sto} (e : gnF τ = gnF σ) : ∀ (d : Nat) (f a : Int) (q : RS), rtF τ d f a q = rtF σ d f a q
  | 0, _, _, _ => rfl
  | d + 1, f, a, q => by
    unfold rtF
    rw [rq3_co e, rr_co e, rt_co e, rm_co e]
    simp only [rf_co e d]
theorem rdt_co {σ τ : Sto} (e : gnF τ = gnF σ) : rdTrip τ = rdTrip σ := by
  funext q
  unfold rdTrip
  rw [e, stp_co e]
  simp only [rf_co e]
theorem rl1_co {σ τ : Sto} (e : gnF τ = gnF σ) : rl1 τ = rl1 σ := by funext q; unfold rl1; rw [rds_co e, rdw_co e, rdt_co e]
theorem line_co {σ τ : Sto} (e : gnF τ = gnF σ) : lineF τ = lineF σ := by
  funext q
  unfold lineF
  rw [rl1_co e, e]
theorem lines_co {σ τ : Sto} (h : ∀ j, gN τ 154 j = gN σ 154 j) (h6 : gN τ 153 6 = gN σ 153 6) : ∀ (d : Nat) (q : RS), linesF τ d q = linesF σ d q
  | 0, _ => rfl
  | d + 1, q => by
    unfold linesF
    rw [line_co (gn_co (tk_co h h6))]
    simp only [lines_co h h6 d]
