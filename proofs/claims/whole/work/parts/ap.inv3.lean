/-! Queries of both: the class, then the reference: the same answer, and INV again. -/
theorem lkg_rq (σ u : Sto) (trip d g : Int) : Rq (look σ trip d g) (look (mix σ u) trip d g) := by
  have e := look_eq (σ := σ) (u := mix σ u) (fun _ => rfl) (fun _ => rfl) rfl trip d g
  refine ⟨fun j => rfl, fun j => rfl, fun j _ _ => ⟨?_, ?_, ?_⟩, ?_, ?_⟩
  · show nrm (lkL (mix σ u) trip d j) = nrm (lkL σ trip d j); rw [e.1]
  · show nrm (lkC (mix σ u) trip d j) = nrm (lkC σ trip d j); rw [e.2.1]
  · show lkH (mix σ u) trip d g j = lkH σ trip d g j; rw [e.2.2.2]
  · show lkO (mix σ u) trip g = lkO σ trip g; rw [e.2.2.1]
  · exact (look17 (mix σ u) trip d g).trans (look17 σ trip d g).symm
theorem el_mix (σ u : Sto) (trip d g s t m k : Int) : earliestF (look (mix σ u) trip d g) s t m k = earliestF (look σ trip d g) s t m k := (lkg_rq σ u trip d g).earliest s t m k
theorem ea_mix (σ u : Sto) (s t m k : Int) : earliestF (lkN (mix σ u)) s t m k = earliestF (lkN σ) s t m k := (lkg_rq σ u (-1) 0 0).earliest s t m k
theorem la_mix (σ u : Sto) (s t m : Int) : latF (mix σ u) s t m = latF σ s t m := by
  unfold latF
  simp only [pf_mix]
  rfl
theorem e_reached (σ u : Sto) (s m n : Int) : reachedF (mix σ u) s m n = reachedF σ s m n := by
  have a : rchF (mix σ u) s m n = rchF σ s m n := by funext t st; unfold rchF; simp only [EA, ea_mix]
  unfold reachedF
  rw [a]
  rfl
theorem e_mean (σ u : Sto) (s t a b : Int) : meanF (mix σ u) s t a b = meanF σ s t a b := by
  have z : mnF (mix σ u) s t = mnF σ s t := by funext m q; unfold mnF; simp only [EA, ea_mix]
  unfold meanF
  rw [z]
  rfl
theorem e_meet (σ u : Sto) (a b m what : Int) : meetF (mix σ u) a b m what = meetF σ a b m what := by
  have z : mtF (mix σ u) a b m = mtF σ a b m := by funext t q; unfold mtF comesF; simp only [ea_mix]
  unfold meetF
  rw [z]
  rfl
theorem e_missed (σ u : Sto) (s t m what : Int) : missedF (mix σ u) s t m what = missedF σ s t m what := by
  have y : ∀ trip, goF (mix σ u) trip = goF σ trip := fun _ => rfl
  have x : gN (mix σ u) 155 3 = gN σ 155 3 := rfl
  have z : msF (mix σ u) s t m = msF σ s t m := by funext trip q; unfold msF; simp only [el_mix, y, x]
  unfold missedF
  rw [z]
  simp only [EA, ea_mix]
  rfl
theorem e_gap (σ u : Sto) (s t : Int) : gapF (mix σ u) s t = gapF σ s t := by
  have z : gpF (mix σ u) s t = gpF σ s t := by funext i q; unfold gpF; simp only [pf_mix, kx_mix]
  unfold gapF
  rw [z]
  simp only [pk_mix]
  rfl
theorem e_quickest (σ u : Sto) (s t what : Int) : quickestF (mix σ u) s t what = quickestF σ s t what := by
  have z : qkF (mix σ u) s t = qkF σ s t := by funext i q; unfold qkF; simp only [pf_mix, kx_mix]
  unfold quickestF
  rw [z]
  simp only [pk_mix]
  rfl
theorem e_via (σ u : Sto) (s v t m : Int) : viaF (mix σ u) s v t m = viaF σ s v t m := by
  unfold viaF comesF
  simp only [ea_mix]
  rfl
theorem e_late (σ u : Sto) (trip s t m : Int) : lateF (mix σ u) trip s t m = lateF σ trip s t m := by
  unfold lateF
  simp only [EA, ea_mix, el_mix]
  rfl
theorem e_ifLate (σ u : Sto) (trip d s t m : Int) : ifLateF (mix σ u) trip d s t m = ifLateF σ trip d s t m := by
  unfold ifLateF
  simp only [el_mix]
  rfl
theorem e_profile (σ u : Sto) (s t : Int) : profileF (mix σ u) s t = profileF σ s t := by
  unfold profileF
  simp only [EA, ea_mix, pf_mix, pk_mix, la_mix]
  rfl
theorem e_at (σ u : Sto) (s t i what : Int) : atF (mix σ u) s t i what = atF σ s t i what := by
  unfold atF
  simp only [EA, ea_mix, pf_mix, pk_mix, la_mix]
  rfl
theorem e_earliest (σ u : Sto) (s t m k : Int) : earliestQ (mix σ u) s t m k = earliestQ σ s t m k := by
  unfold earliestQ
  simp only [EA, ea_mix, pf_mix, pk_mix, la_mix]
  rfl
theorem e_latest (σ u : Sto) (s t m : Int) : latestQ (mix σ u) s t m = latestQ σ s t m := by
  unfold latestQ
  simp only [EA, ea_mix, pf_mix, pk_mix, la_mix]
  rfl
theorem e_stay (σ u : Sto) (s t m z : Int) : stayF (mix σ u) s t m z = stayF σ s t m z := by
  unfold stayF
  simp only [EA, ea_mix, pf_mix, pk_mix, la_mix]
  rfl
theorem e_costOfFewer (σ u : Sto) (s t m k : Int) : costF (mix σ u) s t m k = costF σ s t m k := by
  unfold costF
  simp only [EA, ea_mix, pf_mix, pk_mix, la_mix]
  rfl
theorem e_fewest (σ u : Sto) (s t m z : Int) : fewestF (mix σ u) s t m z = fewestF σ s t m z := by
  unfold fewestF
  simp only [EA, ea_mix, pf_mix, pk_mix, la_mix]
  rfl
theorem e_next (σ u : Sto) (s t m : Int) : nextF (mix σ u) s t m = nextF σ s t m := by
  unfold nextF
  simp only [EA, ea_mix, pf_mix, pk_mix, la_mix]
  rfl
theorem e_profileBy (σ u : Sto) (s t k : Int) : profileByF (mix σ u) s t k = profileByF σ s t k := by
  unfold profileByF
  simp only [EA, ea_mix, pf_mix, pk_mix, la_mix]
  rfl
theorem e_atBy (σ u : Sto) (s t k i what : Int) : atByF (mix σ u) s t k i what = atByF σ s t k i what := by
  unfold atByF
  simp only [EA, ea_mix, pf_mix, pk_mix, la_mix]
  rfl
theorem w_walk {σ : Sto} (h : INV σ) (a b : Int) (h_a : inR a) (h_b : inR b) : Two mX8_walk mX9_walk [ai a, ai b] σ := by
  obtain ⟨N, N', L, hA, hB, hC, hD, hE⟩ := h
  exact two_q hA hB hC hD hE (v := walkF σ a b) (by rw [← q_walk σ]; exact c_walk σ (lkN σ) N hB.1.V hA.1 a b h_a h_b) (fun u => t_walk (mix σ u) a b h_a h_b hB.1.1 hB.2.1)
theorem w_change {σ : Sto} (h : INV σ) (a : Int) (h_a : inR a) : Two mX8_change mX9_change [ai a] σ := by
  obtain ⟨N, N', L, hA, hB, hC, hD, hE⟩ := h
  exact two_q hA hB hC hD hE (v := changeF σ a) (by rw [← q_change σ]; exact c_change σ (lkN σ) N hB.1.V hA.1 a h_a) (fun u => t_change (mix σ u) a h_a hB.1.1 hB.2.1)
theorem w_slack {σ : Sto} (h : INV σ) (e on : Int) (h_e : inR e) (h_on : inR on) : Two mX8_slack mX9_slack_ [ai e, ai on] σ := by
  obtain ⟨N, N', L, hA, hB, hC, hD, hE⟩ := h
  exact two_q hA hB hC hD hE (v := slackQ σ e on) (by rw [← q_slack σ]; exact c_slack σ (lkN σ) N hB.1.V hA.1 e on h_e h_on) (fun u => t_slackQ (mix σ u) e on h_e h_on hB.1.1 hB.2.1)
theorem w_profile {σ : Sto} (h : INV σ) (s t : Int) (h_s : inR s) (h_t : inR t) : Two mX8_profile mX9_profile [ai s, ai t] σ := by
  obtain ⟨N, N', L, hA, hB, hC, hD, hE⟩ := h
  exact two_q hA hB hC hD hE (v := profileF σ s t) (by rw [← q_profile hB.1]; exact c_profile σ (lkN σ) N hB.1.V hA.1 s t h_s h_t) (fun u => by have z := t_profile (mix σ u) s t h_s h_t hB.1.1 hB.2.1; rw [e_profile] at z; exact z)
theorem w_at {σ : Sto} (h : INV σ) (s t i what : Int) (h_s : inR s) (h_t : inR t) (h_i : inR i) (h_what : inR what) : Two mX8_at mX9_at [ai s, ai t, ai i, ai what] σ := by
  obtain ⟨N, N', L, hA, hB, hC, hD, hE⟩ := h
  exact two_q hA hB hC hD hE (v := atF σ s t i what) (by rw [← q_at hB.1]; exact c_at σ (lkN σ) N hB.1.V hA.1 s t i what h_s h_t h_i h_what) (fun u => by have z := t_at (mix σ u) s t i what h_s h_t h_i h_what hB.1.1 hB.2.1; rw [e_at] at z; exact z)
theorem w_leg {σ : Sto} (h : INV σ) (s t i l what : Int) (h_s : inR s) (h_t : inR t) (h_i : inR i) (h_l : inR l) (h_what : inR what) : Two mX8_leg mX9_leg [ai s, ai t, ai i, ai l, ai what] σ := by
  obtain ⟨N, N', L, hA, hB, hC, hD, hE⟩ := h
  exact two_q hA hB hC hD hE (v := legQ σ s t i l what) (by rw [← q_leg hB.1]; exact c_leg σ (lkN σ) N hB.1.V hA.1 s t i l what h_s h_t h_i h_l h_what) (fun u => by have z := t_leg (mix σ u) s t i l what h_s h_t h_i h_l h_what hB.1.1 hB.2.1; rw [e_leg] at z; exact z)
theorem w_earliest {σ : Sto} (h : INV σ) (s t m k : Int) (h_s : inR s) (h_t : inR t) (h_m : inR m) (h_k : inR k) : Two mX8_earliest mX9_earliest [ai s, ai t, ai m, ai k] σ := by
  obtain ⟨N, N', L, hA, hB, hC, hD, hE⟩ := h
  exact two_q hA hB hC hD hE (v := earliestQ σ s t m k) (by rw [← q_earliest hB.1]; exact c_earliest σ (lkN σ) N hB.1.V hA.1 s t m k h_s h_t h_m h_k) (fun u => by have z := t_earliest (mix σ u) s t m k h_s h_t h_m h_k hB.1.1 hB.2.1; rw [e_earliest] at z; exact z)
theorem w_latest {σ : Sto} (h : INV σ) (s t m : Int) (h_s : inR s) (h_t : inR t) (h_m : inR m) : Two mX8_latest mX9_latest [ai s, ai t, ai m] σ := by
  obtain ⟨N, N', L, hA, hB, hC, hD, hE⟩ := h
  exact two_q hA hB hC hD hE (v := latestQ σ s t m) (by rw [← q_latest hB.1]; exact c_latest σ (lkN σ) N hB.1.V hA.1 s t m h_s h_t h_m) (fun u => by have z := t_latest (mix σ u) s t m h_s h_t h_m hB.1.1 hB.2.1; rw [e_latest] at z; exact z)
theorem w_reached {σ : Sto} (h : INV σ) (s m n : Int) (h_s : inR s) (h_m : inR m) (h_n : inR n) : Two mX8_reached mX9_reached [ai s, ai m, ai n] σ := by
  obtain ⟨N, N', L, hA, hB, hC, hD, hE⟩ := h
  exact two_q hA hB hC hD hE (v := reachedF σ s m n) (by rw [← q_reached hB.1]; exact c_reached σ (lkN σ) N hB.1.V hA.1 s m n h_s h_m h_n) (fun u => by have z := t_reached (mix σ u) s m n h_s h_m h_n hB.1.1 hB.2.1; rw [e_reached] at z; exact z)
theorem w_costOfFewer {σ : Sto} (h : INV σ) (s t m k : Int) (h_s : inR s) (h_t : inR t) (h_m : inR m) (h_k : inR k) : Two mX8_costOfFewer mX9_costOfFewer [ai s, ai t, ai m, ai k] σ := by
  obtain ⟨N, N', L, hA, hB, hC, hD, hE⟩ := h
  exact two_q hA hB hC hD hE (v := costF σ s t m k) (by rw [← q_cost hB.1]; exact c_cost σ (lkN σ) N hB.1.V hA.1 s t m k h_s h_t h_m h_k) (fun u => by have z := t_costOfFewer (mix σ u) s t m k h_s h_t h_m h_k hB.1.1 hB.2.1; rw [e_costOfFewer] at z; exact z)
theorem w_mean {σ : Sto} (h : INV σ) (s t a b : Int) (h_s : inR s) (h_t : inR t) (h_a : inR a) (h_b : inR b) : Two mX8_mean mX9_mean [ai s, ai t, ai a, ai b] σ := by
  obtain ⟨N, N', L, hA, hB, hC, hD, hE⟩ := h
  exact two_q hA hB hC hD hE (v := meanF σ s t a b) (by rw [← q_mean hB.1]; exact c_mean σ (lkN σ) N hB.1.V hA.1 s t a b h_s h_t h_a h_b) (fun u => by have z := t_mean (mix σ u) s t a b h_s h_t h_a h_b hB.1.1 hB.2.1; rw [e_mean] at z; exact z)
theorem w_missed {σ : Sto} (h : INV σ) (s t m what : Int) (h_s : inR s) (h_t : inR t) (h_m : inR m) (h_what : inR what) : Two mX8_missed mX9_missed [ai s, ai t, ai m, ai what] σ := by
  obtain ⟨N, N', L, hA, hB, hC, hD, hE⟩ := h
  exact two_q hA hB hC hD hE (v := missedF σ s t m what) (by rw [← q_missed hB.1]; exact c_missed σ (lkN σ) N hB.1.V hA.1 s t m what h_s h_t h_m h_what) (fun u => by have z := t_missed (mix σ u) s t m what h_s h_t h_m h_what hB.1.1 hB.2.1; rw [e_missed] at z; exact z)
theorem w_uses {σ : Sto} (h : INV σ) (trip t : Int) (h_trip : inR trip) (h_t : inR t) : Two mX8_uses mX9_uses [ai trip, ai t] σ := by
  obtain ⟨N, N', L, hA, hB, hC, hD, hE⟩ := h
  exact two_q hA hB hC hD hE (v := usesF σ trip t) (by rw [← q_uses hB.1]; exact c_uses σ (lkN σ) N hB.1.V hA.1 trip t h_trip h_t) (fun u => by have z := t_uses (mix σ u) trip t h_trip h_t hB.1.1 hB.2.1; rw [e_uses] at z; exact z)
theorem w_profileBy {σ : Sto} (h : INV σ) (s t k : Int) (h_s : inR s) (h_t : inR t) (h_k : inR k) : Two mX8_profileBy mX9_profileBy [ai s, ai t, ai k] σ := by
  obtain ⟨N, N', L, hA, hB, hC, hD, hE⟩ := h
  exact two_q hA hB hC hD hE (v := profileByF σ s t k) (by rw [← q_profileBy hB.1]; exact c_profileBy σ (lkN σ) N hB.1.V hA.1 s t k h_s h_t h_k) (fun u => by have z := t_profileBy (mix σ u) s t k h_s h_t h_k hB.1.1 hB.2.1; rw [e_profileBy] at z; exact z)
theorem w_atBy {σ : Sto} (h : INV σ) (s t k i what : Int) (h_s : inR s) (h_t : inR t) (h_k : inR k) (h_i : inR i) (h_what : inR what) : Two mX8_atBy mX9_atBy [ai s, ai t, ai k, ai i, ai what] σ := by
  obtain ⟨N, N', L, hA, hB, hC, hD, hE⟩ := h
  exact two_q hA hB hC hD hE (v := atByF σ s t k i what) (by rw [← q_atBy hB.1]; exact c_atBy σ (lkN σ) N hB.1.V hA.1 s t k i what h_s h_t h_k h_i h_what) (fun u => by have z := t_atBy (mix σ u) s t k i what h_s h_t h_k h_i h_what hB.1.1 hB.2.1; rw [e_atBy] at z; exact z)
theorem w_waits {σ : Sto} (h : INV σ) (s t i what : Int) (h_s : inR s) (h_t : inR t) (h_i : inR i) (h_what : inR what) : Two mX8_waits mX9_waits [ai s, ai t, ai i, ai what] σ := by
  obtain ⟨N, N', L, hA, hB, hC, hD, hE⟩ := h
  exact two_q hA hB hC hD hE (v := waitsF σ s t i what) (by rw [← q_waits hB.1]; exact c_waits σ (lkN σ) N hB.1.V hA.1 s t i what h_s h_t h_i h_what) (fun u => by have z := t_waits (mix σ u) s t i what h_s h_t h_i h_what hB.1.1 hB.2.1; rw [e_waits] at z; exact z)
theorem w_hub {σ : Sto} (h : INV σ) (what : Int) (h_what : inR what) : Two mX8_hub mX9_hub [ai what] σ := by
  obtain ⟨N, N', L, hA, hB, hC, hD, hE⟩ := h
  exact two_q hA hB hC hD hE (v := hubF σ what) (by rw [← q_hub hB.1]; exact c_hub σ (lkN σ) N hB.1.V hA.1 what h_what) (fun u => by have z := t_hub (mix σ u) what h_what hB.1.1 hB.2.1; rw [e_hub] at z; exact z)
theorem w_gap {σ : Sto} (h : INV σ) (s t : Int) (h_s : inR s) (h_t : inR t) : Two mX8_gap mX9_gap [ai s, ai t] σ := by
  obtain ⟨N, N', L, hA, hB, hC, hD, hE⟩ := h
  exact two_q hA hB hC hD hE (v := gapF σ s t) (by rw [← q_gap hB.1]; exact c_gap σ (lkN σ) N hB.1.V hA.1 s t h_s h_t) (fun u => by have z := t_gap (mix σ u) s t h_s h_t hB.1.1 hB.2.1; rw [e_gap] at z; exact z)
theorem w_meet {σ : Sto} (h : INV σ) (a b m what : Int) (h_a : inR a) (h_b : inR b) (h_m : inR m) (h_what : inR what) : Two mX8_meet mX9_meet [ai a, ai b, ai m, ai what] σ := by
  obtain ⟨N, N', L, hA, hB, hC, hD, hE⟩ := h
  exact two_q hA hB hC hD hE (v := meetF σ a b m what) (by rw [← q_meet hB.1]; exact c_meet σ (lkN σ) N hB.1.V hA.1 a b m what h_a h_b h_m h_what) (fun u => by have z := t_meet (mix σ u) a b m what h_a h_b h_m h_what hB.1.1 hB.2.1; rw [e_meet] at z; exact z)
theorem w_via {σ : Sto} (h : INV σ) (s v t m : Int) (h_s : inR s) (h_v : inR v) (h_t : inR t) (h_m : inR m) : Two mX8_via mX9_via [ai s, ai v, ai t, ai m] σ := by
  obtain ⟨N, N', L, hA, hB, hC, hD, hE⟩ := h
  exact two_q hA hB hC hD hE (v := viaF σ s v t m) (by rw [← q_via hB.1]; exact c_via σ (lkN σ) N hB.1.V hA.1 s v t m h_s h_v h_t h_m hB.1.c0) (fun u => by have z := t_via (mix σ u) s v t m h_s h_v h_t h_m hB.1.1 hB.2.1; rw [e_via] at z; exact z)
theorem w_stay {σ : Sto} (h : INV σ) (s t m z : Int) (h_s : inR s) (h_t : inR t) (h_m : inR m) (h_z : inR z) : Two mX8_stay mX9_stay [ai s, ai t, ai m, ai z] σ := by
  obtain ⟨N, N', L, hA, hB, hC, hD, hE⟩ := h
  exact two_q hA hB hC hD hE (v := stayF σ s t m z) (by rw [← q_stay hB.1]; exact c_stay σ (lkN σ) N hB.1.V hA.1 s t m z h_s h_t h_m h_z) (fun u => by have z := t_stay (mix σ u) s t m z h_s h_t h_m h_z hB.1.1 hB.2.1; rw [e_stay] at z; exact z)
theorem w_fewest {σ : Sto} (h : INV σ) (s t m z : Int) (h_s : inR s) (h_t : inR t) (h_m : inR m) (h_z : inR z) : Two mX8_fewest mX9_fewest [ai s, ai t, ai m, ai z] σ := by
  obtain ⟨N, N', L, hA, hB, hC, hD, hE⟩ := h
  exact two_q hA hB hC hD hE (v := fewestF σ s t m z) (by rw [← q_fewest hB.1]; exact c_fewest σ (lkN σ) N hB.1.V hA.1 s t m z h_s h_t h_m h_z) (fun u => by have z := t_fewest (mix σ u) s t m z h_s h_t h_m h_z hB.1.1 hB.2.1; rw [e_fewest] at z; exact z)
theorem w_quickest {σ : Sto} (h : INV σ) (s t what : Int) (h_s : inR s) (h_t : inR t) (h_what : inR what) : Two mX8_quickest mX9_quickest [ai s, ai t, ai what] σ := by
  obtain ⟨N, N', L, hA, hB, hC, hD, hE⟩ := h
  exact two_q hA hB hC hD hE (v := quickestF σ s t what) (by rw [← q_quickest hB.1]; exact c_quickest σ (lkN σ) N hB.1.V hA.1 s t what h_s h_t h_what) (fun u => by have z := t_quickest (mix σ u) s t what h_s h_t h_what hB.1.1 hB.2.1; rw [e_quickest] at z; exact z)
theorem w_next {σ : Sto} (h : INV σ) (s t m : Int) (h_s : inR s) (h_t : inR t) (h_m : inR m) : Two mX8_next mX9_next [ai s, ai t, ai m] σ := by
  obtain ⟨N, N', L, hA, hB, hC, hD, hE⟩ := h
  exact two_q hA hB hC hD hE (v := nextF σ s t m) (by rw [← q_next hB.1]; exact c_next σ (lkN σ) N hB.1.V hA.1 s t m h_s h_t h_m) (fun u => by have z := t_next (mix σ u) s t m h_s h_t h_m hB.1.1 hB.2.1; rw [e_next] at z; exact z)
theorem w_breaks {σ : Sto} (h : INV σ) (trip d t : Int) (h_trip : inR trip) (h_d : inR d) (h_t : inR t) : Two mX8_breaks mX9_breaks_ [ai trip, ai d, ai t] σ := by
  obtain ⟨N, N', L, hA, hB, hC, hD, hE⟩ := h
  exact two_q hA hB hC hD hE (v := breaksQ σ trip d t) (by rw [← q_breaks hB.1]; exact c_breaks σ (lkN σ) N hB.1.V hA.1 trip d t h_trip h_d h_t) (fun u => by have z := t_breaksQ (mix σ u) trip d t h_trip h_d h_t hB.1.1 hB.2.1; rw [e_breaks] at z; exact z)
theorem w_travels {σ : Sto} (h : INV σ) (s t i what : Int) (h_s : inR s) (h_t : inR t) (h_i : inR i) (h_what : inR what) : Two mX8_travels mX9_travels [ai s, ai t, ai i, ai what] σ := by
  obtain ⟨N, N', L, hA, hB, hC, hD, hE⟩ := h
  exact two_q hA hB hC hD hE (v := travelsF σ s t i what) (by rw [← q_travels hB.1]; exact c_travels σ (lkN σ) N hB.1.V hA.1 s t i what h_s h_t h_i h_what) (fun u => by have z := t_travels (mix σ u) s t i what h_s h_t h_i h_what hB.1.1 hB.2.1; rw [e_travels] at z; exact z)
