/-! More calls of both: those that look at the plan, or change it; late, ifLate, board; count, fault. -/
theorem brkF_mix (σ u : Sto) (s t m aT : Int) : ∀ (n : Nat) (l : Int), brkF (mix σ u) s t m aT n l = brkF σ s t m aT n l
  | 0, _ => rfl
  | n + 1, l => by
    have e := brkF_mix σ u s t m aT n (l + 1)
    show (if aT = 0 ∧ anyZ (fun i => decide (ofB (mix σ u) i)) (gN (mix σ u) 174 l - gN (mix σ u) 173 l + 1).toNat (gN (mix σ u) 173 l) = true then (1, l) else if lvA (mix σ u) l aT < rdy (mix σ u) l s m aT then (2, l) else brkF (mix σ u) s t m aT n (l + 1)) = (if aT = 0 ∧ anyZ (fun i => decide (ofB σ i)) (gN σ 174 l - gN σ 173 l + 1).toNat (gN σ 173 l) = true then (1, l) else if lvA σ l aT < rdy σ l s m aT then (2, l) else brkF σ s t m aT n (l + 1))
    rw [e]
    rfl
theorem brk_mix (σ u : Sto) (s t m aT : Int) : brk (mix σ u) s t m aT = brk σ s t m aT := brkF_mix σ u s t m aT _ _
theorem e_checked (σ u : Sto) (s t m aT what : Int) : checkedF (mix σ u) s t m aT what = checkedF σ s t m aT what := by
  unfold checkedF
  simp only [brk_mix]
  rfl
theorem cauL_mix (σ u : Sto) (b : Int) : ∀ (n : Nat) (l : Int), causeL (mix σ u) b n l = causeL σ b n l
  | 0, _ => rfl
  | n + 1, l => by
    have e := cauL_mix σ u b n (l - 1)
    unfold causeL
    rw [e]
    rfl
theorem e_cause (σ u : Sto) (s t m : Int) : causeF (mix σ u) s t m = causeF σ s t m := by
  unfold causeF
  simp only [brk_mix, cauL_mix]
  rfl
theorem e_tooLate (σ u : Sto) (s t m : Int) : tooLateF (mix σ u) s t m = tooLateF σ s t m := by
  unfold tooLateF
  simp only [brk_mix]
  rfl
theorem e_spare (σ u : Sto) (s t m : Int) : spareF (mix σ u) s t m = spareF σ s t m := by
  unfold spareF
  simp only [brk_mix]
  rfl
theorem w_late {σ : Sto} (h : INV σ) (trip s t m : Int) (h_trip : inR trip) (h_s : inR s) (h_t : inR t) (h_m : inR m) : Two mX8_late mX9_late [ai trip, ai s, ai t, ai m] σ := by
  obtain ⟨N, N', L, hA, hB, hC, hD, hE⟩ := h
  exact two_q hA hB hC hD hE (v := lateF σ trip s t m) (by
    rw [← q_late hB.1]
    exact c_late σ (lkN σ) N hB.1.V hA.1 trip s t m h_trip h_s h_t h_m (fun d => look σ trip d 0) (fun _ => look_0 σ trip) (fun _ d d0 d1 => ⟨hB.1.vl trip d 0 (by omega) d1, fun _ => rfl⟩) (fun _ d d0 d1 => by
      have z := look_Sh hB.1 (trip := trip) (d := d - 1) (e := d) (by omega) (by omega) (by omega) (by omega)
      rw [show d - (d - 1) = 1 by omega] at z
      exact z)) (fun u => by have z := t_late (mix σ u) trip s t m h_trip h_s h_t h_m hB.1.1 hB.2.1; rw [e_late] at z; exact z)
theorem w_ifLate {σ : Sto} (h : INV σ) (trip d s t m : Int) (h_trip : inR trip) (h_d : inR d) (h_s : inR s) (h_t : inR t) (h_m : inR m) : Two mX8_ifLate mX9_ifLate [ai trip, ai d, ai s, ai t, ai m] σ := by
  obtain ⟨N, N', L, hA, hB, hC, hD, hE⟩ := h
  exact two_q hA hB hC hD hE (v := ifLateF σ trip d s t m) (by
    rw [← q_ifLate hB.1]
    exact c_ifLate σ (lkN σ) N hB.1.V hA.1 trip d s t m h_trip h_d h_s h_t h_m (look σ trip d 0) (fun _ d0 d1 => ⟨hB.1.vl trip d 0 d0 d1, by
      have z := look_Sh hB.1 (trip := trip) (d := 0) (e := d) (by omega) (by omega) d0 d1
      rw [look_0, Int.sub_zero] at z
      exact z⟩)) (fun u => by have z := t_ifLate (mix σ u) trip d s t m h_trip h_d h_s h_t h_m hB.1.1 hB.2.1; rw [e_ifLate] at z; exact z)
theorem w_board {σ : Sto} (h : INV σ) (stop m co i : Int) (h_stop : inR stop) (h_m : inR m) (h_co : co = 0 ∨ co = 1) (h_i : inR i) : Two mX8_board mX9_board [ai stop, ai m, ai co, ai i] σ := by
  obtain ⟨N, N', L, hA, hB, hC, hD, hE⟩ := h
  exact two_q hA hB hC hD hE (v := boardF σ stop m co i) (by rw [← q_board hB.1]; exact c_board σ (lkN σ) N hB.1.V hA.1 stop m co i h_stop h_m (by unfold inR; omega) h_i h_co) (fun u => t_board (mix σ u) stop m co i h_stop h_m h_co h_i hB.1.1 hB.2.1)
theorem w_checked {σ : Sto} (h : INV σ) (s t m aT what : Int) (h_s : inR s) (h_t : inR t) (h_m : inR m) (h_a : aT = 0 ∨ aT = 1) (h_what : inR what) : Two mX8_checked mX9_checked [ai s, ai t, ai m, ai aT, ai what] σ := by
  obtain ⟨N, N', L, hA, hB, hC, hD, hE⟩ := h
  exact two_q hA hB hC hD hE (v := checkedF σ s t m aT what) (by
    have z := c_checked σ (lkN σ) N hB.1.V hA.1 L hD.2 s t m aT what h_s h_t h_m (by unfold inR; omega) h_what (tdW σ) (tdW_V hB.1) (fun _ => rfl) hA.2.1 h_a
    have e : cChecked (lkN σ) (if aT = 0 then lkN σ else tdW σ) L s t m what = checkedF σ s t m aT what := by
      rcases h_a with rfl | rfl
      · exact q_checked hB.1.V (PlW.now hB.1) hD.1 hD.2.2.1 s t m what
      · exact q_checked (tdW_V hB.1) (PlW.told hB.1) hD.1 hD.2.2.1 s t m what
    rw [e] at z
    exact z) (fun u => by have z := t_checked (mix σ u) s t m aT what h_s h_t h_m h_what h_a hB.1.1 hB.2.1 hB.2.2.2.1; rw [e_checked] at z; exact z)
theorem w_cause {σ : Sto} (h : INV σ) (s t m : Int) (h_s : inR s) (h_t : inR t) (h_m : inR m) : Two mX8_cause mX9_cause [ai s, ai t, ai m] σ := by
  obtain ⟨N, N', L, hA, hB, hC, hD, hE⟩ := h
  exact two_q hA hB hC hD hE (v := causeF σ s t m) (by rw [← q_cause hB.1 (tdW_V hB.1) (PlW.told hB.1) hD.1 hD.2.2.1]; exact c_cause σ (lkN σ) N hB.1.V hA.1 L hD.2 s t m h_s h_t h_m (tdW σ) (tdW_V hB.1) (fun _ => rfl) hA.2.1) (fun u => by have z := t_cause (mix σ u) s t m h_s h_t h_m hB.1.1 hB.2.1 hB.2.2.2.1; rw [e_cause] at z; exact z)
theorem w_tooLate {σ : Sto} (h : INV σ) (s t m : Int) (h_s : inR s) (h_t : inR t) (h_m : inR m) : Two mX8_tooLate mX9_tooLate [ai s, ai t, ai m] σ := by
  obtain ⟨N, N', L, hA, hB, hC, hD, hE⟩ := h
  exact two_q hA hB hC hD hE (v := tooLateF σ s t m) (by rw [← q_tooLate hB.1 hD.1 hD.2.2.1]; exact c_tooLate σ (lkN σ) N hB.1.V hA.1 L hD.2 s t m h_s h_t h_m) (fun u => by have z := t_tooLate (mix σ u) s t m h_s h_t h_m hB.1.1 hB.2.1 hB.2.2.2.1; rw [e_tooLate] at z; exact z)
theorem w_spare {σ : Sto} (h : INV σ) (s t m : Int) (h_s : inR s) (h_t : inR t) (h_m : inR m) : Two mX8_spare mX9_spare [ai s, ai t, ai m] σ := by
  obtain ⟨N, N', L, hA, hB, hC, hD, hE⟩ := h
  exact two_q hA hB hC hD hE (v := spareF σ s t m) (by rw [← q_spare hB.1 hD.1 hD.2.2.1]; exact c_spare σ (lkN σ) N hB.1.V hA.1 L hD.2 s t m h_s h_t h_m) (fun u => by have z := t_spare (mix σ u) s t m h_s h_t h_m hB.1.1 hB.2.1 hB.2.2.2.1; rw [e_spare] at z; exact z)
theorem kc_fr {σ w : Sto} {p : Nat → Int → Prop} (hF : Fr p σ w) (hp : ∀ c j, p c j → ¬ c < 153) : Kc σ w := fun c j hc => ⟨hF.1 c j (fun z => hp c j z hc), hF.2.1 c j (fun z => hp c j z hc), hF.2.2 c j⟩
/-- a query of the reference alone, behind nothing -/
theorem INV.ref {σ w : Sto} {N N' : Nat} {L : List (Int × Int)} (hA : IA σ N N') (hB : IB σ) (hC : IC σ) (hD : ID σ L) (hE : IE σ) (hF : Fr pQ σ w) (hT : TOK w) : INV w :=
  INV.qq hA hB hC hD hE (hF.g.mono (fun c j q => Or.inr q)) (hA.1.kc hB.1.1.2.1.2 hB.1.1.1.2 (kc_fr hF (fun c j q => by unfold pQ at q; omega))) hT
theorem INV.th {σ : Sto} {N N' : Nat} {L : List (Int × Int)} (hA : IA σ N N') (hB : IB σ) (hC : IC σ) (hD : ID σ L) (hE : IE σ) : INV (sN σ 153 0 0) :=
  INV.ref hA hB hC hD hE (Fr.rfl.sN (by unfold pQ; omega)) hB.2.1
theorem sai {x y : Int} (h : some (ai x) = some (ai y)) : x = y := by
  injection h with h
  injection h
theorem w_count {σ : Sto} (h : INV σ) (what : Int) (h_what : inR what) : Two mX8_count mX9_count [ai what] σ := by
  obtain ⟨N, N', L, hA, hB, hC, hD, hE⟩ := h
  refine ⟨_, c_count σ (lkN σ) N hB.1.V hA.1 L hD.2 what h_what, fun x u hu => ?_⟩
  obtain ⟨hu, rfl⟩ := hu
  refine ⟨_, t_count u what h_what hB.1.1, fun y w hw => ?_⟩
  have e := q_count (τ := u) hB.1 hB.2.2.2.2.2 hD.1 hE.1.1 hC.2.1 what
  have a := sai hu
  have b := sai hw.1
  refine ⟨by rw [a, b, e], ?_⟩
  rw [hw.2]
  exact INV.th hA hB hC hD hE
theorem w_fault {σ : Sto} (h : INV σ) (what : Int) (h_what : inR what) : Two mX8_fault mX9_fault [ai what] σ := by
  obtain ⟨N, N', L, hA, hB, hC, hD, hE⟩ := h
  refine ⟨_, c_fault σ what h_what, fun x u hu => ?_⟩
  obtain ⟨hu, rfl⟩ := hu
  refine ⟨_, t_fault u what h_what hB.1.1 hB.2.1, fun y w hw => ?_⟩
  have a := sai hu
  have b := sai hw.1
  refine ⟨?_, INV.ref hA hB hC hD hE hw.2.1 hw.2.2⟩
  rw [a, b]
  unfold cFault faultF
  rw [hC.2.2.2.1, hC.2.2.2.2]
/-- the class's cells of the mix -/
theorem kr_fg {σ u : Sto} {p : Nat → Int → Prop} (hF : Fg p σ u) (hp : ∀ c j, p c j → c < 153) : Kr σ u := fun c j hc => hF c j (fun z => hc (hp c j z))
theorem w_plan {σ : Sto} (h : INV σ) (on e : Int) (h_on : inR on) (h_e : inR e) : Two mX8_plan mX9_plan [ai on, ai e] σ := by
  obtain ⟨N, N', L, hA, hB, hC, hD, hE⟩ := h
  have hS := hB.1.1.2.1
  have hR := hB.1.1.1
  refine ⟨_, c_plan σ (lkN σ) N hB.1.V hA.1 L hD.2 on e h_on h_e, fun x u hu => ⟨_, MetA.mix (kr_fg hu.2.1 (fun c j q => by unfold pPl at q; omega)) (t_plan (mix σ u) on e h_on h_e hB.1.1 hB.2.2.2.1), fun y w hw => ?_⟩⟩
  obtain ⟨hu1, hu2, hu3⟩ := hu
  obtain ⟨hw1, hw2⟩ := hw
  have q := q_plan hD.1 hD.2.2.2 on e
  have a := sai hu1
  have b := sai hw1
  have b' : y = planF σ on e := b
  refine ⟨by rw [a, b', q], ?_⟩
  have hQu : CQ u (lkN σ) N := hA.1.pl hS.2 hR.2 hu2
  rw [q] at hu3
  have kcm := Kc.mix σ u
  have krm := Kr.mix σ u
  have hw2' : w = if 0 < planF σ on e then sN (sN (sN (sN (mix σ u) 153 0 0) 173 (gN σ 153 38) on) 174 (gN σ 153 38) e) 153 38 (gN σ 153 38 + 1) else sN (mix σ u) 153 0 0 := hw2
  by_cases hp : 0 < planF σ on e
  · rw [if_pos hp] at hw2' hu3
    have v : planF σ on e = gN σ 153 38 + 1 ∧ (rid σ on ∧ rid σ e) ∧ on ≤ e ∧ gN σ 153 38 ≠ 6 := by
      unfold planF at hp ⊢
      split at hp
      · omega
      · split at hp
        · omega
        · split at hp
          · omega
          · rename_i c1 c2 c3
            rw [if_neg c1, if_neg c2, if_neg c3]
            refine ⟨rfl, ⟨?_, ?_⟩, by omega, c3⟩
            · exact Classical.byContradiction fun z => c1 (Or.inl z)
            · exact Classical.byContradiction fun z => c1 (Or.inr z)
    have p6 := hB.2.2.2.1.1
    have hl6 := hD.2.2.2
    have e38 := hD.1.1
    have hF : Fr (fun c j => c = 173 ∨ c = 174 ∨ (c = 153 ∧ (j = 0 ∨ j = 38))) (mix σ u) w := by
      rw [hw2']
      exact (((Fr.rfl.sN (by omega)).sN (by omega)).sN (by omega)).sN (by omega)
    have kcw : Kc u w := fun c j hc => by
      have z := kc_fr hF (fun c j q => by omega) c j hc
      have y := kcm c j hc
      exact ⟨z.1.trans y.1, z.2.1.trans y.2.1, z.2.2.trans y.2.2⟩
    have hG : Fg pB σ w := fun c j z => by
      by_cases hc : c < 153
      · have y := kcw c j hc
        have x := hu2 c j (fun t => z (Or.inr (Or.inr (Or.inl t))))
        exact ⟨y.1.trans x.1, y.2.1.trans x.2.1, y.2.2.trans x.2.2⟩
      · have y := krm c j hc
        have hn : ¬ (c = 173 ∨ c = 174 ∨ (c = 153 ∧ (j = 0 ∨ j = 38))) := by unfold pB pQ at z; omega
        exact ⟨(hF.1 c j hn).trans y.1, (hF.2.1 c j hn).trans y.2.1, (hF.2.2 c j).trans y.2.2⟩
    have w38 : gN w 153 38 = gN σ 153 38 + 1 := by
      rw [hw2', gN_sN, if_pos ⟨rfl, rfl⟩]
      exact nrm_of (by unfold inR; omega)
    have e155 : gN w 155 3 = gN σ 155 3 := (hF.1 155 3 (by omega)).trans (krm 155 3 (by omega)).1
    refine INV.pp (L := L ++ [(on, e)]) hA hB hC hE hG (hQu.kc hS.2 hR.2 kcw) (by rw [hw2']; exact hB.2.1) ⟨?_, ?_, ?_, ?_⟩
    · refine hD.1.push w38 (fun l l0 l1 => ⟨?_, ?_⟩) ⟨?_, ?_⟩
      · rw [hw2', gN_sN, if_neg (by omega), gN_sN, if_neg (by omega), gN_sN, if_neg (by omega)]; rfl
      · rw [hw2', gN_sN, if_neg (by omega), gN_sN, if_neg (by omega), gN_sN, if_neg (by omega)]; rfl
      · rw [hw2', gN_sN, if_neg (by omega), gN_sN, if_neg (by omega), gN_sN, if_pos ⟨rfl, rfl⟩]; exact nrm_of h_on
      · rw [hw2', gN_sN, if_neg (by omega), gN_sN, if_pos ⟨rfl, rfl⟩]; exact nrm_of h_e
    · exact hu3.of (fun c j q0 q1 => (kcw c j (by omega)).1)
    · intro z hz
      show lgOK (gN w 155 3) z
      rw [e155]
      rcases List.mem_append.mp hz with t | t
      · exact hD.2.2.1 z t
      · rw [List.mem_singleton.mp t]
        exact ⟨v.2.1.1.1, v.2.2.1, v.2.1.2.2⟩
    · rw [List.length_append]
      show ((L.length + 1 : Nat) : Int) ≤ 6
      omega
  · rw [if_neg hp] at hw2' hu3
    have hF : Fr pQ (mix σ u) w := by rw [hw2']; exact Fr.rfl.sN (by unfold pQ; omega)
    have kcw : Kc u w := fun c j hc => by
      have z := kc_fr hF (fun c j q => by unfold pQ at q; omega) c j hc
      have y := kcm c j hc
      exact ⟨z.1.trans y.1, z.2.1.trans y.2.1, z.2.2.trans y.2.2⟩
    have hG : Fg pB σ w := fun c j z => by
      by_cases hc : c < 153
      · have y := kcw c j hc
        have x := hu2 c j (fun t => z (Or.inr (Or.inr (Or.inl t))))
        exact ⟨y.1.trans x.1, y.2.1.trans x.2.1, y.2.2.trans x.2.2⟩
      · have y := krm c j hc
        have hn : ¬ pQ c j := fun t => z (Or.inr (Or.inl t))
        exact ⟨(hF.1 c j hn).trans y.1, (hF.2.1 c j hn).trans y.2.1, (hF.2.2 c j).trans y.2.2⟩
    have e155 : gN w 155 3 = gN σ 155 3 := (hF.1 155 3 (by unfold pQ; omega)).trans (krm 155 3 (by omega)).1
    refine INV.pp (L := L) hA hB hC hE hG (hQu.kc hS.2 hR.2 kcw) (by rw [hw2']; exact hB.2.1) ⟨hD.1.of ((hF.1 153 38 (by unfold pQ; omega)).trans (krm 153 38 (by omega)).1) (fun l => ⟨(hF.1 173 l (by unfold pQ; omega)).trans (krm 173 l (by omega)).1, (hF.1 174 l (by unfold pQ; omega)).trans (krm 174 l (by omega)).1⟩), hu3.of (fun c j q0 q1 => (kcw c j (by omega)).1), ?_, hD.2.2.2⟩
    intro z hz
    show lgOK (gN w 155 3) z
    rw [e155]
    exact hD.2.2.1 z hz
theorem w_planAnew {σ : Sto} (h : INV σ) : Two mX8_planAnew mX9_planAnew [] σ := by
  obtain ⟨N, N', L, hA, hB, hC, hD, hE⟩ := h
  have hS := hB.1.1.2.1
  have hR := hB.1.1.1
  refine ⟨_, c_planAnew σ (lkN σ) N hB.1.V hA.1 L hD.2, fun x u hu => ⟨_, MetA.mix (kr_fg hu.2.1 (fun c j q => by unfold pPl at q; omega)) (t_planAnew (mix σ u)), fun y w hw => ?_⟩⟩
  obtain ⟨hu1, hu2, hu3⟩ := hu
  have a := sai hu1
  have b := sai hw.1
  have b' : y = gN σ 153 38 := b
  have hw2 := hw.2
  refine ⟨by rw [a, b']; exact hD.1.1, ?_⟩
  have hQu : CQ u (lkN σ) N := hA.1.pl hS.2 hR.2 hu2
  have kcm := Kc.mix σ u
  have krm := Kr.mix σ u
  have hF : Fr (fun c j => c = 153 ∧ (j = 0 ∨ j = 38)) (mix σ u) w := by
    rw [hw2]
    exact (Fr.rfl.sN (by omega)).sN (by omega)
  have kcw : Kc u w := fun c j hc => by
    have z := kc_fr hF (fun c j q => by omega) c j hc
    have y := kcm c j hc
    exact ⟨z.1.trans y.1, z.2.1.trans y.2.1, z.2.2.trans y.2.2⟩
  have hG : Fg pB σ w := fun c j z => by
    by_cases hc : c < 153
    · have y := kcw c j hc
      have x := hu2 c j (fun t => z (Or.inr (Or.inr (Or.inl t))))
      exact ⟨y.1.trans x.1, y.2.1.trans x.2.1, y.2.2.trans x.2.2⟩
    · have y := krm c j hc
      have hn : ¬ (c = 153 ∧ (j = 0 ∨ j = 38)) := by unfold pB pQ at z; omega
      exact ⟨(hF.1 c j hn).trans y.1, (hF.2.1 c j hn).trans y.2.1, (hF.2.2 c j).trans y.2.2⟩
  refine INV.pp (L := []) hA hB hC hE hG (hQu.kc hS.2 hR.2 kcw) (by rw [hw2]; exact hB.2.1) ⟨PlR.nil (by rw [hw2, gN_sN, if_pos ⟨rfl, rfl⟩]; rfl), hu3.of (fun c j q0 q1 => (kcw c j (by omega)).1), fun z hz => absurd hz List.not_mem_nil, by show ((0 : Nat) : Int) ≤ 6; omega⟩
theorem lgl_5 {σ : Sto} (h : LW σ) {s t i : Int} (hs : stp σ s) (ht : stp σ t) (h0 : 0 ≤ i) (h1 : i < (pfK σ s t).length) : (lgL σ s t (kx σ s t i)).length ≤ 5 := by
  have o := lgl_ok h hs ht h0 h1
  have r := row_cd h hs ht h0 h1
  have q := row_rng4 h.V hs.1 hs.2 ht.1 ht.2 h0 (show i < ((MK (lkN σ) s t).length : Int) by rw [mk_len h hs ht]; exact h1)
  have z : (cd (pfL σ s t) (kx σ s t i)).2.2 ≤ 4 := by rw [← r]; exact q.2.2.1.2
  omega
theorem e_planAs (σ u : Sto) (s t i : Int) : planAsF (mix σ u) s t i = planAsF σ s t i := by
  unfold planAsF
  simp only [pf_mix, pk_mix, kx_mix]
  rfl
theorem w_planAs {σ : Sto} (h : INV σ) (s t i : Int) (h_s : inR s) (h_t : inR t) (h_i : inR i) : Two mX8_planAs mX9_planAs [ai s, ai t, ai i] σ := by
  obtain ⟨N, N', L, hA, hB, hC, hD, hE⟩ := h
  have hS := hB.1.1.2.1
  have hR := hB.1.1.1
  refine ⟨_, c_planAs σ (lkN σ) N hB.1.V hA.1 L hD.2 s t i h_s h_t h_i, fun x u hu => ⟨_, MetA.mix (kr_fg hu.2.2.1 (fun c j q => by unfold pCq pPl at q; omega)) (t_planAs (mix σ u) s t i h_s h_t h_i hB.1.1 hB.2.1), fun y w hw => ?_⟩⟩
  obtain ⟨hu1, hQu, hu2, hu3⟩ := hu
  obtain ⟨hw1, hw2⟩ := hw
  have q := q_planAs hB.1 s t i
  have a := sai hu1
  have b := sai hw1
  have b' : y = planAsF σ s t i := by rw [b, e_planAs]
  refine ⟨by rw [a, b', q], ?_⟩
  rw [q] at hu3
  have kcm := Kc.mix σ u
  have krm := Kr.mix σ u
  have hw2' : if 0 < planAsF σ s t i then (∃ ω, Fr pQ (mix σ u) ω ∧ TOK ω ∧ Fr (fun c j => c = 173 ∨ c = 174 ∨ (c = 153 ∧ j = 38)) ω w ∧ gN w 153 38 = (lgL σ s t (kx σ s t i)).length ∧ ∀ l : Int, 0 ≤ l → l < (lgL σ s t (kx σ s t i)).length → gN w 173 l = (lg (lgL σ s t (kx σ s t i)) l).1 ∧ gN w 174 l = (lg (lgL σ s t (kx σ s t i)) l).2) else Fr pQ (mix σ u) w ∧ TOK w := by
    unfold PsPost at hw2
    simp only [e_planAs, lg_mix, kx_mix] at hw2
    exact hw2
  by_cases hp : 0 < planAsF σ s t i
  · rw [if_pos hp] at hw2' hu3
    obtain ⟨ω, g1, g2, g3, g4, g5⟩ := hw2'
    have v : (stp σ s ∧ stp σ t) ∧ 0 ≤ i ∧ i < (pfK σ s t).length := by
      unfold planAsF at hp
      split at hp
      · omega
      · rename_i c1
        split at hp
        · omega
        · rename_i c2
          have c3 : two σ s t := Classical.byContradiction fun z => c1 (Or.inl z)
          exact ⟨⟨⟨by omega, by omega⟩, ⟨by omega, by omega⟩⟩, by omega, by omega⟩
    have ok := lgl_ok hB.1 v.1.1 v.1.2 v.2.1 v.2.2
    have o5 := lgl_5 hB.1 v.1.1 v.1.2 v.2.1 v.2.2
    rw [ul_lg hB.1 v.1.1 v.1.2 v.2.1 v.2.2] at hu3
    have hF : Fr (fun c j => pQ c j ∨ c = 173 ∨ c = 174 ∨ (c = 153 ∧ j = 38)) (mix σ u) w := (g1.mono (fun c j z => Or.inl z)).trans (g3.mono (fun c j z => Or.inr z))
    have kcw : Kc u w := fun c j hc => by
      have z := kc_fr hF (fun c j q => by unfold pQ at q; omega) c j hc
      have y := kcm c j hc
      exact ⟨z.1.trans y.1, z.2.1.trans y.2.1, z.2.2.trans y.2.2⟩
    have hG : Fg pB σ w := fun c j z => by
      by_cases hc : c < 153
      · have y := kcw c j hc
        have x := hu2 c j (fun t => z (by rcases t with t | t; exact Or.inl t; exact Or.inr (Or.inr (Or.inl t))))
        exact ⟨y.1.trans x.1, y.2.1.trans x.2.1, y.2.2.trans x.2.2⟩
      · have y := krm c j hc
        have hn : ¬ (pQ c j ∨ c = 173 ∨ c = 174 ∨ (c = 153 ∧ j = 38)) := by unfold pB at z; unfold pQ at z ⊢; omega
        exact ⟨(hF.1 c j hn).trans y.1, (hF.2.1 c j hn).trans y.2.1, (hF.2.2 c j).trans y.2.2⟩
    have e155 : gN w 155 3 = gN σ 155 3 := (hF.1 155 3 (by unfold pQ; omega)).trans (krm 155 3 (by omega)).1
    have hTw : TOK w := fun k k0 k1 => by
      rw [g3.1 161 k (by omega), g3.1 162 k (by omega)]
      exact g2 k k0 k1
    refine INV.pp (L := lgL σ s t (kx σ s t i)) hA hB hC hE hG (hQu.kc hS.2 hR.2 kcw) hTw ⟨⟨g4, g5⟩, hu3.of (fun c j q0 q1 => (kcw c j (by omega)).1), ?_, by omega⟩
    intro z hz
    show lgOK (gN w 155 3) z
    rw [e155]
    exact ok.2.2 z hz
  · rw [if_neg hp] at hw2' hu3
    have hF := hw2'.1
    have kcw : Kc u w := fun c j hc => by
      have z := kc_fr hF (fun c j q => by unfold pQ at q; omega) c j hc
      have y := kcm c j hc
      exact ⟨z.1.trans y.1, z.2.1.trans y.2.1, z.2.2.trans y.2.2⟩
    have hG : Fg pB σ w := fun c j z => by
      by_cases hc : c < 153
      · have y := kcw c j hc
        have x := hu2 c j (fun t => z (by rcases t with t | t; exact Or.inl t; exact Or.inr (Or.inr (Or.inl t))))
        exact ⟨y.1.trans x.1, y.2.1.trans x.2.1, y.2.2.trans x.2.2⟩
      · have y := krm c j hc
        have hn : ¬ pQ c j := fun t => z (Or.inr (Or.inl t))
        exact ⟨(hF.1 c j hn).trans y.1, (hF.2.1 c j hn).trans y.2.1, (hF.2.2 c j).trans y.2.2⟩
    have e155 : gN w 155 3 = gN σ 155 3 := (hF.1 155 3 (by unfold pQ; omega)).trans (krm 155 3 (by omega)).1
    refine INV.pp (L := L) hA hB hC hE hG (hQu.kc hS.2 hR.2 kcw) hw2'.2 ⟨hD.1.of ((hF.1 153 38 (by unfold pQ; omega)).trans (krm 153 38 (by omega)).1) (fun l => ⟨(hF.1 173 l (by unfold pQ; omega)).trans (krm 173 l (by omega)).1, (hF.1 174 l (by unfold pQ; omega)).trans (krm 174 l (by omega)).1⟩), hu3.of (fun c j q0 q1 => (kcw c j (by omega)).1), ?_, hD.2.2.2⟩
    intro z hz
    show lgOK (gN w 155 3) z
    rw [e155]
    exact hD.2.2.1 z hz
