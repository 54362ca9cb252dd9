/-! What is laid and unfolded depends on the reference's cells alone. -/
theorem lkN_mix (σ u : Sto) : lkN (mix σ u) = mix (lkN σ) u := by
  have e := look_eq (σ := σ) (u := mix σ u) (fun _ => rfl) (fun _ => rfl) rfl (-1) 0 0
  have e1 : (lkN (mix σ u)).1 = (mix (lkN σ) u).1 := by
    funext c j
    show (if c = 161 then lkL (mix σ u) (-1) 0 j else if c = 162 then lkC (mix σ u) (-1) 0 j else (if c < 153 then u.1 c j else σ.1 c j)) = if c < 153 then u.1 c j else (if c = 161 then lkL σ (-1) 0 j else if c = 162 then lkC σ (-1) 0 j else σ.1 c j)
    rw [e.1, e.2.1]
    by_cases h1 : c = 161
    · rw [if_pos h1, if_neg (by omega), if_pos h1]
    · by_cases h2 : c = 162
      · rw [if_neg h1, if_pos h2, if_neg (by omega), if_neg h1, if_pos h2]
      · rw [if_neg h1, if_neg h2, if_neg h1, if_neg h2]
  have e2 : (lkN (mix σ u)).2.1 = (mix (lkN σ) u).2.1 := by
    funext c j
    show (if c = 163 then lkH (mix σ u) (-1) 0 0 j else if c = 153 ∧ j = 23 then lkO (mix σ u) (-1) 0 else (if c < 153 then u.2.1 c j else σ.2.1 c j)) = if c < 153 then u.2.1 c j else (if c = 163 then lkH σ (-1) 0 0 j else if c = 153 ∧ j = 23 then lkO σ (-1) 0 else σ.2.1 c j)
    rw [e.2.2.1, e.2.2.2]
    by_cases h1 : c = 163
    · rw [if_pos h1, if_neg (by omega), if_pos h1]
    · by_cases h2 : c = 153 ∧ j = 23
      · rw [if_neg h1, if_pos h2, if_neg (by omega), if_neg h1, if_pos h2]
      · rw [if_neg h1, if_neg h2, if_neg h1, if_neg h2]
  exact Prod.ext e1 (Prod.ext e2 rfl)
theorem me_mix (ρ u : Sto) (f : Int → Bool) : ∀ (d : Nat) (i : Int), meF (mix ρ u) f d i = meF ρ f d i
  | 0, _ => rfl
  | d + 1, i => by
    show (f i || (nxB (mix ρ u) i && meF (mix ρ u) f d (i + 1))) = (f i || (nxB ρ i && meF ρ f d (i + 1)))
    rw [me_mix ρ u f d (i + 1)]
    rfl
theorem en_mix (ρ u : Sto) (t arr : Int) : ∀ (n : Nat), enF (mix ρ u) t arr n = enF ρ t arr n
  | 0 => rfl
  | n + 1 => by
    funext i
    show anyZ (fun k => lkB (mix ρ u) i k && meF (mix ρ u) (enF (mix ρ u) t arr n) (gN (mix ρ u) 155 3 - k).toNat k) (gN (mix ρ u) 155 3).toNat 0 = anyZ (fun k => lkB ρ i k && meF ρ (enF ρ t arr n) (gN ρ 155 3 - k).toNat k) (gN ρ 155 3).toNat 0
    simp only [me_mix, en_mix ρ u t arr n]
    rfl
theorem mt_mix (ρ u : Sto) (t arr : Int) (n : Nat) (i : Int) : mtB (mix ρ u) t arr n i = mtB ρ t arr n i := by
  unfold mtB
  rw [me_mix, en_mix]
  rfl
theorem off_mix (ρ u : Sto) (t arr : Int) (n : Nat) (on : Int) : offF (mix ρ u) t arr n on = offF ρ t arr n on := by
  unfold offF
  rw [en_mix]
  rfl
theorem on_mix (ρ u : Sto) (t arr : Int) (n : Nat) (e : Int) : onF (mix ρ u) t arr n e = onF ρ t arr n e := by
  unfold onF
  simp only [mt_mix]
  rfl
theorem legs_mix (ρ u : Sto) (t arr : Int) : ∀ (n : Nat) (on : Int), legsF (mix ρ u) t arr n on = legsF ρ t arr n on
  | 0, on => by
    show [(on, offF (mix ρ u) t arr 0 on)] = [(on, offF ρ t arr 0 on)]
    rw [off_mix]
  | n + 1, on => by
    show (on, offF (mix ρ u) t arr (n + 1) on) :: legsF (mix ρ u) t arr n (onF (mix ρ u) t arr n (offF (mix ρ u) t arr (n + 1) on)) = (on, offF ρ t arr (n + 1) on) :: legsF ρ t arr n (onF ρ t arr n (offF ρ t arr (n + 1) on))
    rw [off_mix, on_mix, legs_mix ρ u t arr n]
theorem n0_mix (ρ u : Sto) (s t : Int) (q : Cd) : on0 (mix ρ u) s t q = on0 ρ s t q := by
  unfold on0
  simp only [mt_mix]
  rfl
theorem lgC_mix (ρ u : Sto) (s t : Int) (q : Cd) : lgC (mix ρ u) s t q = lgC ρ s t q := by
  unfold lgC
  rw [legs_mix, n0_mix]
theorem pf_mix (σ u : Sto) (s t : Int) : pfL (mix σ u) s t = pfL σ s t := by
  unfold pfL
  exact (lk_rq (σ := σ) (w := mix σ u) (fun _ => rfl) (fun _ => rfl) rfl).cand s t
theorem pk_mix (σ u : Sto) (s t : Int) : pfK (mix σ u) s t = pfK σ s t := by
  unfold pfK
  rw [pf_mix]
  rfl
theorem kx_mix (σ u : Sto) (s t i : Int) : kx (mix σ u) s t i = kx σ s t i := by
  unfold kx
  rw [pk_mix]
theorem lg_mix (σ u : Sto) (s t x : Int) : lgL (mix σ u) s t x = lgL σ s t x := by
  unfold lgL
  rw [lkN_mix, pf_mix, lgC_mix]
theorem e_leg (σ u : Sto) (s t i l what : Int) : legQ (mix σ u) s t i l what = legQ σ s t i l what := by
  unfold legQ
  simp only [lg_mix, pf_mix, pk_mix, kx_mix]
  rfl
theorem e_waits (σ u : Sto) (s t i what : Int) : waitsF (mix σ u) s t i what = waitsF σ s t i what := by
  unfold waitsF
  simp only [lg_mix, pf_mix, pk_mix, kx_mix]
  have a : ∀ P s t, movesF (mix σ u) P s t = movesF σ P s t := fun _ _ _ => rfl
  have b : ∀ P, slackF (mix σ u) P = slackF σ P := fun _ => rfl
  simp only [a, b]
  rfl
theorem e_travels (σ u : Sto) (s t i what : Int) : travelsF (mix σ u) s t i what = travelsF σ s t i what := by
  unfold travelsF
  simp only [lg_mix, pf_mix, pk_mix, kx_mix]
  have a : ∀ P, trF (mix σ u) P = trF σ P := fun _ => rfl
  have b : ∀ P s t what q, trR (mix σ u) P s t what q = trR σ P s t what q := fun _ _ _ _ _ => rfl
  simp only [a, b]
  rfl
theorem e_uses (σ u : Sto) (trip t : Int) : usesF (mix σ u) trip t = usesF σ trip t := by
  have a : ∀ P trip, usF (mix σ u) P trip = usF σ P trip := fun _ _ => rfl
  have b : ∀ s, usI (mix σ u) trip s t = usI σ trip s t := fun s => by
    funext i many
    unfold usI
    simp only [lg_mix, kx_mix, a]
  have c : usS (mix σ u) trip t = usS σ trip t := by
    funext s many
    unfold usS
    simp only [pk_mix, b]
  unfold usesF
  rw [c]
  rfl
theorem e_breaks (σ u : Sto) (trip d t : Int) : breaksQ (mix σ u) trip d t = breaksQ σ trip d t := by
  have a : ∀ P trip d, wbP (mix σ u) P trip d = wbP σ P trip d := fun _ _ _ => rfl
  have b : ∀ s, brI (mix σ u) trip d s t = brI σ trip d s t := fun s => by
    funext i many
    unfold brI
    simp only [lg_mix, kx_mix, a]
  have c : brS (mix σ u) trip d t = brS σ trip d t := by
    funext s many
    unfold brS
    simp only [pk_mix, b]
  unfold breaksQ
  rw [c]
  rfl
theorem e_hub (σ u : Sto) (what : Int) : hubF (mix σ u) what = hubF σ what := by
  have a : ∀ P, edL (mix σ u) P = edL σ P := fun _ => rfl
  have b : ∀ s t, edI (mix σ u) s t = edI σ s t := fun s t => by
    funext i E
    unfold edI
    simp only [lg_mix, kx_mix, a]
  have c : ∀ s t, edF (mix σ u) s t = edF σ s t := fun s t => by
    funext E
    unfold edF
    simp only [pk_mix, b]
  have d : ∀ s, edT (mix σ u) s = edT σ s := fun s => by
    funext t E
    unfold edT
    simp only [c]
  have e : edS (mix σ u) = edS σ := by
    funext s E
    unfold edS
    rw [d]
    rfl
  have f : hubE (mix σ u) = hubE σ := by
    unfold hubE
    rw [e]
    rfl
  unfold hubF
  rw [f]
  rfl
