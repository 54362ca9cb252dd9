/-! Class and reference answer alike: the plan. -/
/-- the class's plan is the reference's -/
def PlR (σ : Sto) (L : List (Int × Int)) : Prop := gN σ 153 38 = L.length ∧ ∀ l : Int, 0 ≤ l → l < L.length → gN σ 173 l = (lg L l).1 ∧ gN σ 174 l = (lg L l).2
/-- the world that a plan is held against: now, or as told -/
def PlW (σ ρ : Sto) (aT : Int) : Prop := (∀ j, gN ρ 155 j = gN σ 155 j) ∧ ∀ i : Int, 0 ≤ i → i < gN σ 155 3 → gN ρ 161 i = gN σ 155 (115 + 5 * i + 3) + (if aT = 0 then gN σ 158 i else 0) ∧ gN ρ 162 i = gN σ 155 (115 + 5 * i + 4) + (if aT = 0 then gN σ 158 i else 0) ∧ (cnc ρ i ↔ aT = 0 ∧ ofB σ i)
theorem PlW.now {σ : Sto} (h : LW σ) : PlW σ (lkN σ) 0 := ⟨fun _ => rfl, fun i h0 h1 => by
  have a := lkN_t h.1 h0 h1
  rw [if_pos rfl]
  exact ⟨a.1, a.2, by rw [cnc_ofB]; exact ⟨fun x => ⟨rfl, x⟩, fun x => x.2⟩⟩⟩
theorem pl_leg {σ : Sto} {L : List (Int × Int)} (hP : PlR σ L) (hL : ∀ q ∈ L, lgOK (gN σ 155 3) q) {l : Int} (h0 : 0 ≤ l) (h1 : l < L.length) : gN σ 173 l = (lg L l).1 ∧ gN σ 174 l = (lg L l).2 ∧ 0 ≤ (lg L l).1 ∧ (lg L l).1 ≤ (lg L l).2 ∧ (lg L l).2 < gN σ 155 3 := by
  have a := hP.2 l h0 h1
  have b := hL _ (lg_mem h0 h1)
  exact ⟨a.1, a.2, b.1, b.2.1, b.2.2⟩
/-- ready, and when it leaves -/
theorem sp_rdy {σ ρ : Sto} {aT : Int} (hW : WV ρ) (hx : PlW σ ρ aT) {L : List (Int × Int)} (hP : PlR σ L) (hL : ∀ q ∈ L, lgOK (gN σ 155 3) q) {s m l : Int} (hs : stp σ s) (hm : mnt m) (h0 : 0 ≤ l) (h1 : l < L.length) : lvA σ l aT = gN ρ 161 (lg L l).1 ∧ rdW σ l s = wyT ρ L l s ∧ (0 ≤ rdW σ l s ∧ (rdW σ l s ≤ 250000 ∨ rdW σ l s = 1000000)) ∧ (rdW σ l s < 1000000 → rdy σ l s m aT = gN ρ 161 (lg L l).1 - spT ρ L l s m ∧ rdy σ l s m aT < 1000000) ∧ (¬ rdW σ l s < 1000000 → rdy σ l s m aT = 1000000 ∧ spT ρ L l s m < 0) ∧ (-1000 ≤ gN ρ 161 (lg L l).1 ∧ gN ρ 161 (lg L l).1 ≤ 4000) := by
  have a := pl_leg hP hL h0 h1
  have e155 := hx.1
  have r := hW.ride (lg L l).1 a.2.2.1 (by rw [e155]; omega)
  have tr := hW.tm (lg L l).1 a.2.2.1 (by rw [e155]; omega)
  have x := hx.2 (lg L l).1 a.2.2.1 (by omega)
  have e1 : lvA σ l aT = gN ρ 161 (lg L l).1 := by unfold lvA; rw [a.1, x.1]
  by_cases z : l = 0
  · subst z
    have e2 : rdW σ 0 s = wyT ρ L 0 s := by unfold rdW wyT; rw [if_pos rfl, if_pos rfl, a.1]; simp only [e155]
    have w := hW.walk s (gN ρ 155 (115 + 5 * (lg L 0).1 + 1)) hs.1 (by rw [e155]; exact hs.2) r.2.1.1 r.2.1.2
    have e3 : wyT ρ L 0 s = gN ρ 155 (15 + 10 * s + gN ρ 155 (115 + 5 * (lg L 0).1 + 1)) := by unfold wyT; rw [if_pos rfl]
    refine ⟨e1, e2, by rw [e2, e3]; exact w, fun c => ?_, fun c => ?_, tr.1⟩
    · unfold rdy spT
      rw [if_neg (by omega), if_pos rfl, if_pos rfl, e2]
      rw [e2] at c
      exact ⟨by omega, by omega⟩
    · unfold rdy spT
      rw [if_pos (by omega), if_pos rfl, ← e2]
      exact ⟨rfl, by omega⟩
  · have b := pl_leg hP hL (l := l - 1) (by omega) (by omega)
    have y := hx.2 (lg L (l - 1)).2 (by omega) (by omega)
    have r2 := hW.ride (lg L (l - 1)).2 (by omega) (by rw [e155]; omega)
    have t2 := hW.tm (lg L (l - 1)).2 (by omega) (by rw [e155]; omega)
    have w := hW.tf _ _ r2.2.2.1.1 r2.2.2.1.2 r.2.1.1 r.2.1.2
    rw [← btw_tf] at w
    have e2 : rdW σ l s = wyT ρ L l s := by unfold rdW wyT; rw [if_neg z, if_neg z, a.1, b.2.1, btw_eq (τ := ρ) (σ := σ) e155]
    have e3 : wyT ρ L l s = btw ρ (lg L (l - 1)).2 (lg L l).1 := by unfold wyT; rw [if_neg z]
    refine ⟨e1, e2, by rw [e2, e3]; exact w, fun c => ?_, fun c => ?_, tr.1⟩
    · unfold rdy spT
      rw [if_neg (by omega), if_neg z, if_neg z, e2, b.2.1, ← y.2.1]
      rw [e2] at c
      refine ⟨by omega, ?_⟩
      rw [e3] at c ⊢
      omega
    · unfold rdy spT
      rw [if_pos (by omega), if_neg z, ← e2]
      exact ⟨rfl, by omega⟩
theorem sp_lt {σ ρ : Sto} {aT : Int} (hW : WV ρ) (hx : PlW σ ρ aT) {L : List (Int × Int)} (hP : PlR σ L) (hL : ∀ q ∈ L, lgOK (gN σ 155 3) q) {s m l : Int} (hs : stp σ s) (hm : mnt m) (h0 : 0 ≤ l) (h1 : l < L.length) : spT ρ L l s m < 0 ↔ lvA σ l aT < rdy σ l s m aT := by
  have a := sp_rdy hW hx hP hL hs hm h0 h1
  rw [a.1]
  by_cases c : rdW σ l s < 1000000
  · have := (a.2.2.2.1 c).1; omega
  · have := a.2.2.2.2.1 c; have := a.2.2.2.2.2; omega
theorem ck_brk {σ ρ : Sto} {aT : Int} (hW : WV ρ) (hx : PlW σ ρ aT) {L : List (Int × Int)} (hP : PlR σ L) (hL : ∀ q ∈ L, lgOK (gN σ 155 3) q) (hL1 : 1 ≤ (L.length : Int)) {s t m : Int} (hs : stp σ s) (hm : mnt m) : ∀ (n : Nat) (l b : Int), 0 ≤ l → l + n = L.length → ((ckF ρ L s t m n l b).1, (ckF ρ L s t m n l b).2.1) = brkF σ s t m aT n l
  | 0, l, b, h0, h1 => by
    have a := pl_leg hP hL (l := (L.length : Int) - 1) (by omega) (by omega)
    show ((if 1000000 ≤ ckW ρ L t then 3 else 0 : Int), l) = (if 1000000 ≤ gN σ 155 (15 + 10 * gN σ 155 (115 + 5 * gN σ 174 (gN σ 153 38 - 1) + 2) + t) then 3 else 0, gN σ 153 38)
    rw [hP.1, a.2.1, show l = (L.length : Int) by omega]
    unfold ckW ckE
    simp only [hx.1]
  | n + 1, l, b, h0, h1 => by
    have a := pl_leg hP hL (l := l) (by omega) (by omega)
    have lt := sp_lt hW hx hP hL hs hm (l := l) h0 (by omega)
    have any : anyZ (cnP ρ) ((lg L l).2 - (lg L l).1 + 1).toNat (lg L l).1 = true ↔ aT = 0 ∧ anyZ (fun i => decide (ofB σ i)) (gN σ 174 l - gN σ 173 l + 1).toNat (gN σ 173 l) = true := by
      rw [anyZ_iff, anyZ_iff, a.1, a.2.1]
      constructor
      · rintro ⟨i, i0, i1, c⟩
        unfold cnP at c
        rw [decide_eq_true_iff, (hx.2 i (by omega) (by omega)).2.2] at c
        exact ⟨c.1, i, i0, i1, decide_eq_true c.2⟩
      · rintro ⟨z, i, i0, i1, c⟩
        refine ⟨i, i0, i1, ?_⟩
        unfold cnP
        rw [decide_eq_true_iff, (hx.2 i (by omega) (by omega)).2.2]
        exact ⟨z, of_decide_eq_true c⟩
    have ih := fun b' => ck_brk hW hx hP hL hL1 (t := t) hs hm n (l + 1) b' (by omega) (by omega)
    unfold ckF brkF
    by_cases c : anyZ (cnP ρ) ((lg L l).2 - (lg L l).1 + 1).toNat (lg L l).1 = true
    · rw [if_pos c, if_pos (any.mp c)]
    · rw [if_neg c, if_neg (fun x => c (any.mpr x))]
      by_cases d : spT ρ L l s m < 0
      · rw [if_pos d, if_pos (lt.mp d)]
      · rw [if_neg d, if_neg (fun x => d (lt.mpr x))]
        exact ih _
theorem ckT_brk {σ ρ : Sto} {aT : Int} (hW : WV ρ) (hx : PlW σ ρ aT) {L : List (Int × Int)} (hP : PlR σ L) (hL : ∀ q ∈ L, lgOK (gN σ 155 3) q) (hL1 : 1 ≤ (L.length : Int)) {s t m : Int} (hs : stp σ s) (hm : mnt m) : (ckT ρ L s t m).1 = (brk σ s t m aT).1 ∧ (ckT ρ L s t m).2.1 = (brk σ s t m aT).2 := by
  have a := ck_brk hW hx hP hL hL1 (t := t) hs hm L.length 0 1000000 (by omega) (by omega)
  unfold ckT brk
  rw [show (gN σ 153 38).toNat = L.length by rw [hP.1]; omega, ← a]
  exact ⟨rfl, rfl⟩
theorem brk_in {σ : Sto} {s t m aT : Int} : ∀ (n : Nat) (l : Int), (brkF σ s t m aT n l).1 = 2 → l ≤ (brkF σ s t m aT n l).2 ∧ (brkF σ s t m aT n l).2 < l + n
  | 0, l, h => by
    exfalso
    unfold brkF at h
    dsimp only at h
    split at h <;> omega
  | n + 1, l, h => by
    unfold brkF at h ⊢
    by_cases c : aT = 0 ∧ anyZ (fun i => decide (ofB σ i)) (gN σ 174 l - gN σ 173 l + 1).toNat (gN σ 173 l) = true
    · rw [if_pos c] at h; exact absurd h (by show ¬ (1 : Int) = 2; decide)
    · rw [if_neg c] at h ⊢
      by_cases d : lvA σ l aT < rdy σ l s m aT
      · rw [if_pos d]; exact ⟨Int.le_refl _, by omega⟩
      · rw [if_neg d] at h ⊢
        have := brk_in n (l + 1) h
        omega
theorem q_checked {σ ρ : Sto} {aT : Int} (hW : WV ρ) (hx : PlW σ ρ aT) {L : List (Int × Int)} (hP : PlR σ L) (hL : ∀ q ∈ L, lgOK (gN σ 155 3) q) (s t m what : Int) : cChecked (lkN σ) ρ L s t m what = checkedF σ s t m aT what := by
  unfold cChecked checkedF
  refine ite_congr rfl (fun _ => rfl) (fun c => ?_)
  have e := hP.1
  by_cases z : L.length = 0
  · rw [if_pos z, if_pos (by omega)]
  · rw [if_neg z, if_neg (by omega)]
    have k := ckT_brk hW hx hP hL (by omega) (s := s) (t := t) (m := m) ⟨by omega, by omega⟩ ⟨by omega, by omega⟩
    have a := pl_leg hP hL (l := (L.length : Int) - 1) (by omega) (by omega)
    have y := hx.2 (lg L ((L.length : Int) - 1)).2 (by omega) (by omega)
    unfold ckC ckW ckE
    rw [k.1, k.2, e, a.2.1, y.2.1]
    simp only [hx.1]
theorem q_tooLate {σ : Sto} (h : LW σ) {L : List (Int × Int)} (hP : PlR σ L) (hL : ∀ q ∈ L, lgOK (gN σ 155 3) q) (s t m : Int) : cTooLate (lkN σ) L s t m = tooLateF σ s t m := by
  unfold cTooLate tooLateF
  refine ite_congr rfl (fun _ => rfl) (fun c => ?_)
  have e := hP.1
  by_cases z : L.length = 0
  · rw [if_pos (Or.inl z), if_pos (Or.inl (by omega))]
  · have hs : stp σ s := ⟨by omega, by omega⟩
    have hm : mnt m := ⟨by omega, by omega⟩
    have hx := PlW.now h
    have k := ckT_brk h.V hx hP hL (by omega) (s := s) (t := t) (m := m) hs hm
    rw [k.1, k.2]
    by_cases y : (brk σ s t m 0).1 = 2
    · rw [if_neg (show ¬ (L.length = 0 ∨ (brk σ s t m 0).1 ≠ 2) by omega), if_neg (show ¬ (gN σ 153 38 = 0 ∨ (brk σ s t m 0).1 ≠ 2) by omega)]
      have i := brk_in (σ := σ) (s := s) (t := t) (m := m) (aT := 0) (gN σ 153 38).toNat 0 y
      have i1 : 0 ≤ (brk σ s t m 0).2 := i.1
      have i2 : (brk σ s t m 0).2 < 0 + ((gN σ 153 38).toNat : Int) := i.2
      have r := sp_rdy h.V hx hP hL hs hm (l := (brk σ s t m 0).2) i1 (by omega)
      rw [← r.2.1, r.1]
      by_cases w : rdW σ (brk σ s t m 0).2 s < 1000000
      · have v := r.2.2.2.1 w
        rw [if_neg (by omega), if_neg (by omega), v.1]
        omega
      · have v := r.2.2.2.2.1 w
        rw [if_pos (by omega), if_pos (by omega)]
    · rw [if_pos (Or.inr y), if_pos (Or.inr y)]
theorem ck_min {ρ : Sto} {L : List (Int × Int)} {s t m : Int} : ∀ (n : Nat) (l b : Int), (ckF ρ L s t m n l b).1 = 0 → (ckF ρ L s t m n l b).2.2 = itr (fun l b => if spT ρ L l s m < b then spT ρ L l s m else b) n l b ∧ ∀ k, l ≤ k → k < l + n → ¬ spT ρ L k s m < 0
  | 0, l, b, _ => ⟨rfl, fun k k0 k1 => by omega⟩
  | n + 1, l, b, h => by
    unfold ckF at h ⊢
    by_cases c : anyZ (cnP ρ) ((lg L l).2 - (lg L l).1 + 1).toNat (lg L l).1 = true
    · rw [if_pos c] at h; exact absurd h (by show ¬ (1 : Int) = 0; decide)
    · rw [if_neg c] at h ⊢
      by_cases d : spT ρ L l s m < 0
      · rw [if_pos d] at h; exact absurd h (by show ¬ (2 : Int) = 0; decide)
      · rw [if_neg d] at h ⊢
        have z := ck_min n (l + 1) _ h
        refine ⟨z.1, fun k k0 k1 => ?_⟩
        by_cases y : k = l
        · rw [y]; exact d
        · exact z.2 k (by omega) (by omega)
theorem q_spare {σ : Sto} (h : LW σ) {L : List (Int × Int)} (hP : PlR σ L) (hL : ∀ q ∈ L, lgOK (gN σ 155 3) q) (s t m : Int) : cSpare (lkN σ) L s t m = spareF σ s t m := by
  unfold cSpare spareF
  refine ite_congr rfl (fun _ => rfl) (fun c => ?_)
  have e := hP.1
  by_cases z : L.length = 0
  · rw [if_pos (Or.inl z), if_pos (Or.inl (by omega))]
  · have hs : stp σ s := ⟨by omega, by omega⟩
    have hm : mnt m := ⟨by omega, by omega⟩
    have hx := PlW.now h
    have k := ckT_brk h.V hx hP hL (by omega) (s := s) (t := t) (m := m) hs hm
    by_cases y : (brk σ s t m 0).1 = 0
    · have mn := ck_min (ρ := lkN σ) (L := L) (s := s) (t := t) (m := m) L.length 0 1000000 (k.1.trans y)
      rw [if_neg (show ¬ (L.length = 0 ∨ (ckT (lkN σ) L s t m).1 ≠ 0) by have := k.1; omega), if_neg (show ¬ (gN σ 153 38 = 0 ∨ (brk σ s t m 0).1 ≠ 0) by omega)]
      unfold ckT
      rw [mn.1, show (gN σ 153 38).toNat = L.length by omega]
      refine itr_congr _ _ _ (fun l l0 l1 b => ?_)
      have r := sp_rdy h.V hx hP hL hs hm (l := l) l0 (by omega)
      have w : rdW σ l s < 1000000 := by
        by_cases q : rdW σ l s < 1000000
        · exact q
        · exact absurd (r.2.2.2.2.1 q).2 (mn.2 l l0 (by omega))
      have v := (r.2.2.2.1 w).1
      unfold spF
      rw [v, r.1, show gN (lkN σ) 161 (lg L l).1 - (gN (lkN σ) 161 (lg L l).1 - spT (lkN σ) L l s m) = spT (lkN σ) L l s m by omega]
    · rw [if_pos (Or.inr (by omega)), if_pos (Or.inr y)]
theorem ca_eq {σ : Sto} (h : LW σ) {L : List (Int × Int)} (hP : PlR σ L) (hL : ∀ q ∈ L, lgOK (gN σ 155 3) q) {b : Int} : ∀ (n : Nat) (l : Int), l < L.length → n = (l + 1).toNat → caL (lkN σ) L b n l = causeL σ b n l
  | 0, _, _, _ => rfl
  | n + 1, l, h1, hn => by
    have a := pl_leg hP hL (l := l) (by omega) h1
    have y := lkN_t h.1 (i := (lg L l).2) (by omega) (by omega)
    unfold caL causeL
    rw [a.2.1, y.1, show gN (lkN σ) 155 (115 + 5 * (lg L l).2 + 3) = gN σ 155 (115 + 5 * (lg L l).2 + 3) from rfl, ca_eq h hP hL n (l - 1) (by omega) (by omega)]
    refine ite_congr (propext ?_) (fun _ => rfl) (fun _ => rfl)
    omega
theorem q_cause {σ ρt : Sto} (h : LW σ) (hWt : WV ρt) (hxt : PlW σ ρt 1) {L : List (Int × Int)} (hP : PlR σ L) (hL : ∀ q ∈ L, lgOK (gN σ 155 3) q) (s t m : Int) : cCause (lkN σ) ρt L s t m = causeF σ s t m := by
  unfold cCause causeF
  refine ite_congr rfl (fun _ => rfl) (fun c => ?_)
  have e := hP.1
  by_cases z : L.length = 0
  · rw [if_pos (Or.inl z), if_pos (Or.inl (by omega))]
  · have hs : stp σ s := ⟨by omega, by omega⟩
    have hm : mnt m := ⟨by omega, by omega⟩
    have hx := PlW.now h
    have k := ckT_brk h.V hx hP hL (by omega) (s := s) (t := t) (m := m) hs hm
    rw [k.1, k.2]
    by_cases y : (brk σ s t m 0).1 = 2
    · rw [if_neg (show ¬ (L.length = 0 ∨ (brk σ s t m 0).1 ≠ 2) by omega), if_neg (show ¬ (gN σ 153 38 = 0 ∨ (brk σ s t m 0).1 ≠ 2) by omega)]
      have i := brk_in (σ := σ) (s := s) (t := t) (m := m) (aT := 0) (gN σ 153 38).toNat 0 y
      have i1 : 0 ≤ (brk σ s t m 0).2 := i.1
      have i2 : (brk σ s t m 0).2 < 0 + ((gN σ 153 38).toNat : Int) := i.2
      have lt := sp_lt hWt hxt hP hL hs hm (l := (brk σ s t m 0).2) i1 (by omega)
      refine ite_congr (propext lt) (fun _ => rfl) (fun _ => ?_)
      exact ca_eq h hP hL _ _ (by omega) (by omega)
    · rw [if_pos (Or.inr y), if_pos (Or.inr y)]
theorem q_plan {σ : Sto} {L : List (Int × Int)} (hP : PlR σ L) (hP6 : (L.length : Int) ≤ 6) (on e : Int) : cPlan (lkN σ) L on e = planF σ on e := by
  unfold cPlan planF
  refine ite_congr rfl (fun _ => rfl) (fun c => ite_congr rfl (fun _ => rfl) (fun d => ?_))
  have k := hP.1
  rw [k]
  refine ite_congr (propext ?_) (fun _ => rfl) (fun _ => rfl)
  omega
theorem q_planAs {σ : Sto} (h : LW σ) (s t i : Int) : cPlanAs (lkN σ) s t i = planAsF σ s t i := by
  unfold cPlanAs planAsF
  refine ite_congr rfl (fun _ => rfl) (fun c => ?_)
  have hs : stp σ s := ⟨by omega, by omega⟩
  have ht : stp σ t := ⟨by omega, by omega⟩
  rw [mk_len h hs ht]
  refine ite_congr rfl (fun _ => rfl) (fun z => ?_)
  have o := lgl_ok h hs ht (i := i) (by omega) (by omega)
  rw [ul_lg h hs ht (by omega) (by omega), o.1]
  omega
