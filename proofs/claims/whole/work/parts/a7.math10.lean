/-! Class and reference answer alike: the queries by profiles. -/
theorem btN {σ : Sto} {i k : Int} : btw (lkN σ) i k = btw σ i k := btw_eq (fun j => rfl) i k
theorem mk_len {σ : Sto} (h : LW σ) {s t : Int} (hs : stp σ s) (ht : stp σ t) : (MK (lkN σ) s t).length = (pfK σ s t).length := by
  have e := congrArg List.length (rows_eq4 h.V hs.1 hs.2 ht.1 ht.2)
  unfold kpR at e
  rw [List.length_map, List.length_map] at e
  exact e
theorem map_getD {α β : Type} {f : α → β} {g : Int → β} {A : List α} {B : List Int} (e : A.map f = B.map g) {n : Nat} (hn : n < A.length) (d : α) (d' : Int) : f (A.getD n d) = g (B.getD n d') := by
  have l : A.length = B.length := by have := congrArg List.length e; rwa [List.length_map, List.length_map] at this
  have a : (A.map f)[n]? = (B.map g)[n]? := by rw [e]
  rw [List.getElem?_map, List.getElem?_map, List.getElem?_eq_getElem hn, List.getElem?_eq_getElem (l ▸ hn)] at a
  rw [List.getD_eq_getElem?_getD, List.getD_eq_getElem?_getD, List.getElem?_eq_getElem hn, List.getElem?_eq_getElem (l ▸ hn)]
  exact Option.some.inj a
theorem row_cd {σ : Sto} (h : LW σ) {s t i : Int} (hs : stp σ s) (ht : stp σ t) (h0 : 0 ≤ i) (h1 : i < (pfK σ s t).length) : rwC (row (MK (lkN σ) s t) i) = cd (pfL σ s t) (kx σ s t i) :=
  map_getD (rows_eq4 h.V hs.1 hs.2 ht.1 ht.2) (by have := mk_len h hs ht; omega) _ _
theorem ul_lg {σ : Sto} (h : LW σ) {s t i : Int} (hs : stp σ s) (ht : stp σ t) (h0 : 0 ≤ i) (h1 : i < (pfK σ s t).length) : UL (lkN σ) s t i = lgL σ s t (kx σ s t i) := by
  have m := row_mem (L := MK (lkN σ) s t) h0 (by have := mk_len h hs ht; omega)
  have r := ((mkF_rows h.V (s := s) (t := t) (most := 4) (by omega)).2 _).mp m
  unfold UL lgL
  rw [UL_eq h.V hs.1 hs.2 ht.1 ht.2 r.1 r.2.1, row_cd h hs ht h0 h1]
theorem kx_in {σ : Sto} (h : LW σ) {s t i : Int} (hs : stp σ s) (ht : stp σ t) (h0 : 0 ≤ i) (h1 : i < (pfK σ s t).length) : 0 ≤ kx σ s t i ∧ kx σ s t i < (pfL σ s t).length := by
  have hS := h.1.2.1
  exact kx_ok h.1 hs.1 (by omega) ht.1 (by omega) h0 h1
theorem lgl_ok {σ : Sto} (h : LW σ) {s t i : Int} (hs : stp σ s) (ht : stp σ t) (h0 : 0 ≤ i) (h1 : i < (pfK σ s t).length) : (lgL σ s t (kx σ s t i)).length = (cd (pfL σ s t) (kx σ s t i)).2.2.toNat + 1 ∧ 0 ≤ (cd (pfL σ s t) (kx σ s t i)).2.2 ∧ ∀ q ∈ lgL σ s t (kx σ s t i), lgOK (gN σ 155 3) q := by
  have k := kx_in h hs ht h0 h1
  have l := lg_ok h.1 k.1 k.2
  have r := row_cd h hs ht h0 h1
  have q := row_rng4 h.V hs.1 hs.2 ht.1 ht.2 h0 (show i < ((MK (lkN σ) s t).length : Int) by rw [mk_len h hs ht]; exact h1)
  refine ⟨l.1, ?_, l.2⟩
  rw [← r]
  exact q.2.2.1.1
theorem kp_nn {L : List Cd} {w : Int} : ∀ x ∈ keptL L w, 0 ≤ x := fun x hx => by
  have z := kp_sorted (L := L) (w := w) L.length 0 [] (by omega) (by omega) List.Pairwise.nil (fun x hx => by simp at hx)
  rcases (z.2 x).mp hx with h | ⟨h0, h1, h2⟩
  · simp at h
  · exact h0
theorem by_map {σ : Sto} (h : LW σ) {s t k : Int} (hs : stp σ s) (ht : stp σ t) (hk0 : 0 ≤ k) (hk1 : k ≤ 4) : (mkF (lkN σ) s t k).map rwC = (byK (pfL σ s t) (pfK σ s t) k).map (cd (pfL σ s t)) := by
  rw [rows_eq h.V hs.1 hs.2 ht.1 ht.2 hk0 hk1]
  unfold kpR byK
  rw [List.filter_map]
  rfl
theorem q_profileBy {σ : Sto} (h : LW σ) (s t k : Int) : cProfileBy (lkN σ) s t k = profileByF σ s t k := by
  unfold cProfileBy profileByF
  refine ite_congr rfl (fun _ => rfl) (fun c => ?_)
  have e := congrArg List.length (by_map h (s := s) (t := t) (k := k) ⟨by omega, by omega⟩ ⟨by omega, by omega⟩ (by omega) (by omega))
  rw [List.length_map, List.length_map] at e
  rw [e]
theorem rwW_cd (x : Rw) (what : Int) : rwW x what = cdW (rwC x) what := rfl
theorem q_atBy {σ : Sto} (h : LW σ) (s t k i what : Int) : cAtBy (lkN σ) s t k i what = atByF σ s t k i what := by
  unfold cAtBy atByF
  refine ite_congr rfl (fun _ => rfl) (fun c => ?_)
  have m := by_map h (s := s) (t := t) (k := k) ⟨by omega, by omega⟩ ⟨by omega, by omega⟩ (by omega) (by omega)
  have e := congrArg List.length m
  rw [List.length_map, List.length_map] at e
  unfold atByR
  by_cases z : ((mkF (lkN σ) s t k).length : Int) ≤ i
  · rw [if_pos z, if_pos]
    rw [List.getD_eq_getElem?_getD, List.getElem?_eq_none (by omega)]
    rfl
  · have d := map_getD m (n := i.toNat) (by omega) (0, 0, 0, 0) (-1)
    have mem : (byK (pfL σ s t) (pfK σ s t) k).getD i.toNat (-1) ∈ byK (pfL σ s t) (pfK σ s t) k := by
      rw [List.getD_eq_getElem?_getD, List.getElem?_eq_getElem (by omega)]
      exact List.getElem_mem _
    have nn := kp_nn _ (List.mem_filter.mp mem).1
    rw [if_neg z, if_neg (by omega), rwW_cd]
    unfold row
    rw [d]
theorem q_profile {σ : Sto} (h : LW σ) (s t : Int) : cProfileBy (lkN σ) s t 4 = profileF σ s t := by
  unfold cProfileBy profileF
  by_cases c : two σ s t
  · rw [if_pos c, if_neg (by rintro (x | x | x); exact x c; omega; omega)]
    show ((MK (lkN σ) s t).length : Int) = _
    rw [mk_len h c.1 c.2.1]
  · rw [if_neg c, if_pos (Or.inl (show ¬ two (lkN σ) s t from c))]
theorem q_at {σ : Sto} (h : LW σ) (s t i what : Int) : cAtBy (lkN σ) s t 4 i what = atF σ s t i what := by
  unfold cAtBy atF
  by_cases c : ¬ two σ s t ∨ i < 0 ∨ what < 0 ∨ 2 < what
  · rw [if_pos c, if_pos (c.elim (fun x => Or.inl (show ¬ two (lkN σ) s t from x)) (fun x => Or.inr (Or.inr (Or.inr x))))]
  · have hs : stp σ s := ⟨by omega, by omega⟩
    have ht : stp σ t := ⟨by omega, by omega⟩
    rw [if_neg c, if_neg (fun x => x.elim (fun y => c (Or.inl y)) (fun y => y.elim (fun z => by omega) (fun y => y.elim (fun z => by omega) (fun z => c (Or.inr z)))))]
    show (if ((MK (lkN σ) s t).length : Int) ≤ i then -2 else rwW (row (MK (lkN σ) s t) i) what) = _
    rw [mk_len h hs ht]
    refine ite_congr rfl (fun _ => rfl) (fun d => ?_)
    rw [rwW_cd, row_cd h hs ht (by omega) (by omega)]
    rfl
theorem q_leg {σ : Sto} (h : LW σ) (s t i l what : Int) : cLeg (lkN σ) s t i l what = legQ σ s t i l what := by
  unfold cLeg legQ
  refine ite_congr rfl (fun _ => rfl) (fun c => ?_)
  have hs : stp σ s := ⟨by omega, by omega⟩
  have ht : stp σ t := ⟨by omega, by omega⟩
  rw [mk_len h hs ht]
  by_cases z : ((pfK σ s t).length : Int) ≤ i
  · rw [if_pos (Or.inl z), if_pos (Or.inl z)]
  · have o := lgl_ok h hs ht (i := i) (by omega) (by omega)
    rw [ul_lg h hs ht (by omega) (by omega)]
    refine ite_congr ?_ (fun _ => rfl) (fun _ => rfl)
    rw [o.1]
    exact propext ⟨fun x => x.elim Or.inl (fun y => Or.inr (by omega)), fun x => x.elim Or.inl (fun y => Or.inr (by omega))⟩
/-- on board and walking, together -/
theorem mv_sum {σ : Sto} {Q : List (Int × Int)} : ∀ (n : Nat) (l a b w : Int), 1 ≤ l → itr (mvF σ Q) n l a = a + (itr (onF_ (lkN σ) Q) n l b - b) + ((itr (wkF_ (lkN σ) Q) n l (w, gN σ 155 (115 + 5 * (lg Q (l - 1)).2 + 2))).1 - w) ∧ (itr (wkF_ (lkN σ) Q) n l (w, gN σ 155 (115 + 5 * (lg Q (l - 1)).2 + 2))).2 = gN σ 155 (115 + 5 * (lg Q (l + n - 1)).2 + 2)
  | 0, l, a, b, w, _ => ⟨by show a = a + (b - b) + (w - w); omega, by show gN σ 155 (115 + 5 * (lg Q (l - 1)).2 + 2) = gN σ 155 (115 + 5 * (lg Q (l + (0 : Nat) - 1)).2 + 2); rw [show l + ((0 : Nat) : Int) - 1 = l - 1 by omega]⟩
  | n + 1, l, a, b, w, h => by
    rw [itr_s, itr_s, itr_s]
    have e1 : mvF σ Q l a = a + (CM σ (lg Q l).2 - LV σ (lg Q l).1) + gN σ 155 (15 + 10 * gN σ 155 (115 + 5 * (lg Q (l - 1)).2 + 2) + gN σ 155 (115 + 5 * (lg Q l).1 + 1)) := by unfold mvF; rw [if_pos (by omega)]
    have e2 : wkF_ (lkN σ) Q l (w, gN σ 155 (115 + 5 * (lg Q (l - 1)).2 + 2)) = (w + gN σ 155 (15 + 10 * gN σ 155 (115 + 5 * (lg Q (l - 1)).2 + 2) + gN σ 155 (115 + 5 * (lg Q l).1 + 1)), gN σ 155 (115 + 5 * (lg Q (l + 1 - 1)).2 + 2)) := by
      unfold wkF_
      rw [show l + 1 - 1 = l by omega]
      rfl
    have e3 : onF_ (lkN σ) Q l b = b + (CM σ (lg Q l).2 - LV σ (lg Q l).1) := rfl
    rw [e1, e2, e3]
    have z := mv_sum (σ := σ) (Q := Q) n (l + 1) (a + (CM σ (lg Q l).2 - LV σ (lg Q l).1) + gN σ 155 (15 + 10 * gN σ 155 (115 + 5 * (lg Q (l - 1)).2 + 2) + gN σ 155 (115 + 5 * (lg Q l).1 + 1))) (b + (CM σ (lg Q l).2 - LV σ (lg Q l).1)) (w + gN σ 155 (15 + 10 * gN σ 155 (115 + 5 * (lg Q (l - 1)).2 + 2) + gN σ 155 (115 + 5 * (lg Q l).1 + 1))) (by omega)
    refine ⟨by rw [z.1]; omega, ?_⟩
    rw [z.2, show l + 1 + (n : Int) - 1 = l + ((n + 1 : Nat) : Int) - 1 by omega]
theorem moves_eq {σ : Sto} {Q : List (Int × Int)} {s t : Int} (hQ : 1 ≤ Q.length) : movesF σ Q s t = onT (lkN σ) Q + wkT (lkN σ) Q s t := by
  obtain ⟨n, hn⟩ : ∃ n, Q.length = n + 1 := ⟨Q.length - 1, by omega⟩
  unfold movesF onT wkT
  rw [hn, itr_s, itr_s, itr_s]
  have e1 : ∀ a, mvF σ Q 0 a = a + (CM σ (lg Q 0).2 - LV σ (lg Q 0).1) := fun a => by unfold mvF; rw [if_neg (by omega)]
  have e2 : wkF_ (lkN σ) Q 0 (0, s) = (0 + gN σ 155 (15 + 10 * s + gN σ 155 (115 + 5 * (lg Q 0).1 + 1)), gN σ 155 (115 + 5 * (lg Q (0 + 1 - 1)).2 + 2)) := rfl
  have e3 : onF_ (lkN σ) Q 0 0 = 0 + (CM σ (lg Q 0).2 - LV σ (lg Q 0).1) := rfl
  rw [e1, e2, e3]
  have z := mv_sum (σ := σ) (Q := Q) n (0 + 1) (gN σ 155 (15 + 10 * s + gN σ 155 (115 + 5 * (lg Q 0).1 + 1)) + gN σ 155 (15 + 10 * gN σ 155 (115 + 5 * (lg Q (((n + 1 : Nat) : Int) - 1)).2 + 2) + t) + (CM σ (lg Q 0).2 - LV σ (lg Q 0).1)) (0 + (CM σ (lg Q 0).2 - LV σ (lg Q 0).1)) (0 + gN σ 155 (15 + 10 * s + gN σ 155 (115 + 5 * (lg Q 0).1 + 1))) (by omega)
  unfold wkR
  rw [z.1, z.2, show (0 : Int) + 1 + (n : Int) - 1 = ((n + 1 : Nat) : Int) - 1 by omega]
  rw [show gN (lkN σ) 155 (15 + 10 * gN σ 155 (115 + 5 * (lg Q (((n + 1 : Nat) : Int) - 1)).2 + 2) + t) = gN σ 155 (15 + 10 * gN σ 155 (115 + 5 * (lg Q (((n + 1 : Nat) : Int) - 1)).2 + 2) + t) from rfl]
  omega
theorem min_le {f : Int → Int} {g : Int → Int → Int} (hg : ∀ l x, g l x = if f l < x then f l else x) : ∀ (n : Nat) (l x : Int), itr g n l x ≤ x ∧ (0 < n → itr g n l x ≤ f l)
  | 0, _, _ => ⟨Int.le_refl _, fun h => absurd h (by omega)⟩
  | n + 1, l, x => by
    rw [itr_s]
    have z := min_le hg n (l + 1) (g l x)
    have e := hg l x
    split at e <;> exact ⟨by omega, fun _ => by omega⟩
theorem lg_mem {Q : List (Int × Int)} {l : Int} (h0 : 0 ≤ l) (h1 : l < Q.length) : lg Q l ∈ Q := by
  unfold lg
  rw [List.getD_eq_getElem?_getD, List.getElem?_eq_getElem (by omega)]
  exact List.getElem_mem _
theorem sk_eq (σ : Sto) (Q : List (Int × Int)) : skF (lkN σ) Q = slF σ Q := by
  funext l x
  unfold skF slF
  have e : skL (lkN σ) Q l = slk σ Q l := by
    unfold skL slk
    rw [btN]
  rw [e]
theorem slack_eq {σ : Sto} (h : LW σ) {Q : List (Int × Int)} (hQ : ∀ q ∈ Q, lgOK (gN σ 155 3) q) : slackF σ Q = if (Q.length : Int) < 2 then -2 else skT (lkN σ) Q := by
  unfold slackF skT
  rw [sk_eq]
  by_cases c : (Q.length : Int) < 2
  · rw [if_pos c, show Q.length - 1 = 0 by omega, if_pos (by show (1000000 : Int) ≤ 1000000; omega)]
  · rw [if_neg c]
    have z := (min_le (f := slk σ Q) (g := slF σ Q) (fun l x => rfl) (Q.length - 1) 1 1000000).2 (by omega)
    have a := hQ _ (lg_mem (Q := Q) (l := 1) (by omega) (by omega))
    have b := hQ _ (lg_mem (Q := Q) (l := 1 - 1) (by omega) (by omega))
    have x := h.V.tm _ a.1 (show (lg Q 1).1 < gN σ 155 3 by have := a.2; omega)
    have y := h.V.tm (lg Q (1 - 1)).2 (by have := b.2; have := b.1; omega) (show (lg Q (1 - 1)).2 < gN σ 155 3 by exact b.2.2)
    have r1 := h.V.ride (lg Q (1 - 1)).2 (by have := b.2; have := b.1; omega) (show (lg Q (1 - 1)).2 < gN σ 155 3 by exact b.2.2)
    have r2 := h.V.ride (lg Q 1).1 a.1 (show (lg Q 1).1 < gN σ 155 3 by have := a.2; omega)
    have w := h.V.tf _ _ r1.2.2.1.1 r1.2.2.1.2 r2.2.1.1 r2.2.1.2
    rw [← btw_tf, btN] at w
    unfold slk LV CM at z
    rw [if_neg (by omega)]
theorem q_waits {σ : Sto} (h : LW σ) (s t i what : Int) : cWaits (lkN σ) s t i what = waitsF σ s t i what := by
  unfold cWaits waitsF
  refine ite_congr rfl (fun _ => rfl) (fun c => ?_)
  have hs : stp σ s := ⟨by omega, by omega⟩
  have ht : stp σ t := ⟨by omega, by omega⟩
  rw [mk_len h hs ht]
  refine ite_congr rfl (fun _ => rfl) (fun z => ?_)
  have o := lgl_ok h hs ht (i := i) (by omega) (by omega)
  have r := row_cd h hs ht (i := i) (by omega) (by omega)
  rw [ul_lg h hs ht (by omega) (by omega)]
  by_cases w : what = 0
  · rw [if_pos w, if_neg (by omega), moves_eq (by omega), ← r]
    show (row (MK (lkN σ) s t) i).2.1 - (row (MK (lkN σ) s t) i).1 - _ - _ = (row (MK (lkN σ) s t) i).2.1 - (row (MK (lkN σ) s t) i).1 - _
    omega
  · rw [if_neg w, if_pos (by omega), slack_eq h o.2.2]
theorem tr_sum {σ : Sto} {Q : List (Int × Int)} : ∀ (n : Nat) (l : Int) (q : Int × Int), itr (trF σ Q) n l q = (itr (onF_ (lkN σ) Q) n l q.1, itr (rdF Q) n l q.2)
  | 0, _, _ => rfl
  | n + 1, l, q => by rw [itr_s, itr_s, itr_s]; exact tr_sum n (l + 1) _
theorem q_travels {σ : Sto} (h : LW σ) (s t i what : Int) : cTravels (lkN σ) s t i what = travelsF σ s t i what := by
  unfold cTravels travelsF
  refine ite_congr rfl (fun _ => rfl) (fun c => ?_)
  have hs : stp σ s := ⟨by omega, by omega⟩
  have ht : stp σ t := ⟨by omega, by omega⟩
  rw [mk_len h hs ht]
  refine ite_congr rfl (fun _ => rfl) (fun z => ?_)
  have o := lgl_ok h hs ht (i := i) (by omega) (by omega)
  rw [ul_lg h hs ht (by omega) (by omega), tr_sum]
  unfold trR
  dsimp only
  refine ite_congr rfl (fun _ => rfl) (fun _ => ite_congr rfl (fun _ => ?_) (fun _ => rfl))
  rw [moves_eq (by omega)]
  show _ = onT (lkN σ) _ + _ - onT (lkN σ) _
  omega
theorem gp_eq {σ : Sto} (h : LW σ) {s t : Int} (hs : stp σ s) (ht : stp σ t) : ∀ (n : Nat) (i a b : Int), 1 ≤ i → i + n ≤ (pfK σ s t).length → ((a = 0 ∧ b = -2) ∨ (0 < a ∧ b = a)) → (itr (gpC (lkN σ) s t) n i a = 0 ∧ itr (gpF σ s t) n i b = -2) ∨ (0 < itr (gpC (lkN σ) s t) n i a ∧ itr (gpF σ s t) n i b = itr (gpC (lkN σ) s t) n i a)
  | 0, _, _, _, _, _, hq => hq
  | n + 1, i, a, b, h0, h1, hq => by
    rw [itr_s, itr_s]
    refine gp_eq h hs ht n (i + 1) _ _ (by omega) (by omega) ?_
    have r := row_cd h hs ht (i := i) (by omega) (by omega)
    have r' := row_cd h hs ht (i := i - 1) (by omega) (by omega)
    unfold gpF gpC mxI
    rw [← r, ← r']
    show (((if a < (row (MK (lkN σ) s t) i).1 - (row (MK (lkN σ) s t) (i - 1)).1 then _ else _) = (0 : Int)) ∧ ((if 0 < (row (MK (lkN σ) s t) i).1 - (row (MK (lkN σ) s t) (i - 1)).1 ∧ b < (row (MK (lkN σ) s t) i).1 - (row (MK (lkN σ) s t) (i - 1)).1 then (row (MK (lkN σ) s t) i).1 - (row (MK (lkN σ) s t) (i - 1)).1 else b) = -2)) ∨ (0 < (if a < (row (MK (lkN σ) s t) i).1 - (row (MK (lkN σ) s t) (i - 1)).1 then _ else _)) ∧ ((if 0 < (row (MK (lkN σ) s t) i).1 - (row (MK (lkN σ) s t) (i - 1)).1 ∧ b < (row (MK (lkN σ) s t) i).1 - (row (MK (lkN σ) s t) (i - 1)).1 then (row (MK (lkN σ) s t) i).1 - (row (MK (lkN σ) s t) (i - 1)).1 else b) = _)
    generalize (row (MK (lkN σ) s t) i).1 - (row (MK (lkN σ) s t) (i - 1)).1 = d
    split <;> split <;> omega
theorem q_gap {σ : Sto} (h : LW σ) (s t : Int) : cGap (lkN σ) s t = gapF σ s t := by
  unfold cGap gapF
  by_cases c : two σ s t
  · rw [if_pos c, if_neg (fun x => x c), mk_len h c.1 c.2.1]
    by_cases z : 1 ≤ (pfK σ s t).length
    · rcases gp_eq h c.1 c.2.1 ((pfK σ s t).length - 1) 1 0 (-2) (by omega) (by omega) (Or.inl ⟨rfl, rfl⟩) with x | x
      · rw [if_pos x.1, x.2]
      · rw [if_neg (by omega), x.2]
    · rw [show (pfK σ s t).length - 1 = 0 by omega]
      rfl
  · rw [if_neg c, if_pos (show ¬ two (lkN σ) s t from c)]
theorem qk_eq {σ : Sto} (h : LW σ) {s t : Int} (hs : stp σ s) (ht : stp σ t) : ∀ (n : Nat) (i : Int) (q : Int × Int), 0 ≤ i → i + n ≤ (pfK σ s t).length → (q.1 = -2 ∨ 0 ≤ q.1) → itr (qkC (lkN σ) s t) n i q = itr (qkF σ s t) n i q ∧ ((itr (qkF σ s t) n i q).1 = -2 ∨ 0 ≤ (itr (qkF σ s t) n i q).1)
  | 0, _, _, _, _, hq => ⟨rfl, hq⟩
  | n + 1, i, q, h0, h1, hq => by
    have r := row_cd h hs ht (i := i) h0 (by omega)
    have e : qkC (lkN σ) s t i q = qkF σ s t i q := by
      unfold qkC qkF
      rw [← r]
      rfl
    rw [itr_s, itr_s, e]
    refine qk_eq h hs ht n (i + 1) _ (by omega) (by omega) ?_
    unfold qkF
    split
    · exact Or.inr h0
    · exact hq
theorem meR_eq {q : Int × Int} {what : Int} (h : q.1 = -2 ∨ 0 ≤ q.1) : meR q what = meetR q what := by
  unfold meR meetR
  split <;> split <;> (try split) <;> omega
theorem q_quickest {σ : Sto} (h : LW σ) (s t what : Int) : cQuickest (lkN σ) s t what = quickestF σ s t what := by
  unfold cQuickest quickestF
  refine ite_congr rfl (fun _ => rfl) (fun c => ?_)
  have hs : stp σ s := ⟨by omega, by omega⟩
  have ht : stp σ t := ⟨by omega, by omega⟩
  have e := qk_eq h hs ht (pfK σ s t).length 0 (-2, 1000000) (by omega) (by omega) (Or.inl rfl)
  rw [mk_len h hs ht, e.1, meR_eq e.2]
theorem us_any {σ : Sto} {Q : List (Int × Int)} {trip : Int} : ∀ (n : Nat) (l is : Int), (is = 0 ∨ is = 1) → (itr (usF σ Q trip) n l is = 0 ↔ is = 0 ∧ ¬ anyZ (aoP (lkN σ) Q trip) n l = true)
  | 0, _, is, _ => ⟨fun h => ⟨h, fun x => by rw [anyZ_iff] at x; obtain ⟨y, y0, y1, _⟩ := x; omega⟩, fun h => h.1⟩
  | n + 1, l, is, hi => by
    rw [itr_s, us_any n (l + 1) _ (by unfold usF; exact orI_01 hi (by split <;> omega))]
    have e : usF σ Q trip l is = 0 ↔ is = 0 ∧ ¬ aoP (lkN σ) Q trip l = true := by
      have d : aoP (lkN σ) Q trip l = decide (gN σ 155 (115 + 5 * (lg Q l).1 + 0) = trip) := rfl
      rw [d, decide_eq_true_eq]
      unfold usF
      by_cases c : gN σ 155 (115 + 5 * (lg Q l).1 + 0) = trip
      · rw [if_pos c]
        rcases hi with x | x <;> rw [x]
        · exact ⟨fun y => absurd y (by decide), fun y => absurd c y.2⟩
        · exact ⟨fun y => absurd y (by decide), fun y => absurd c y.2⟩
      · rw [if_neg c]
        rcases hi with x | x <;> rw [x]
        · exact ⟨fun _ => ⟨rfl, c⟩, fun _ => by decide⟩
        · exact ⟨fun y => absurd y (by decide), fun y => absurd y.1 (by decide)⟩
    rw [e, anyZ_iff, anyZ_iff]
    constructor
    · rintro ⟨⟨a, b⟩, c⟩
      refine ⟨a, fun ⟨y, y0, y1, y2⟩ => ?_⟩
      by_cases z : y = l
      · rw [z] at y2; exact b y2
      · exact c ⟨y, by omega, by omega, y2⟩
    · rintro ⟨a, b⟩
      exact ⟨⟨a, fun y => b ⟨l, by omega, by omega, y⟩⟩, fun ⟨y, y0, y1, y2⟩ => b ⟨y, by omega, by omega, y2⟩⟩
theorem q_uses {σ : Sto} (h : LW σ) (trip t : Int) : cUses (lkN σ) trip t = usesF σ trip t := by
  unfold cUses usesF ctoT
  refine ite_congr rfl (fun _ => rfl) (fun c => ?_)
  have hS := h.1.2.1
  refine itr_congr _ _ _ (fun s s0 s1 n => ?_)
  rw [show gN (lkN σ) 155 0 = gN σ 155 0 from rfl] at s1
  have hs : stp σ s := ⟨s0, by omega⟩
  have ht : stp σ t := ⟨by omega, by omega⟩
  unfold csF usS
  refine ite_congr rfl (fun _ => rfl) (fun d => ?_)
  rw [mk_len h hs ht]
  refine itr_congr _ _ _ (fun i i0 i1 m => ?_)
  unfold ciF usI
  rw [if_pos rfl, ul_lg h hs ht i0 (by omega)]
  have z := us_any (σ := σ) (Q := lgL σ s t (kx σ s t i)) (trip := trip) (lgL σ s t (kx σ s t i)).length 0 0 (Or.inl rfl)
  by_cases y : anyZ (aoP (lkN σ) (lgL σ s t (kx σ s t i)) trip) (lgL σ s t (kx σ s t i)).length 0 = true
  · rw [if_pos y, if_neg (fun x => (z.mp x).2 y)]
  · rw [if_neg y, if_pos (z.mpr ⟨rfl, y⟩)]; omega
theorem bb_eq {σ : Sto} {Q : List (Int × Int)} {trip d : Int} : bbP (lkN σ) Q trip d = wbP σ Q trip d := by
  funext l
  unfold bbP wbP skL
  rw [btN]
  refine decide_eq_decide.mpr ?_
  show LV σ _ - CM σ _ - _ + (if gN σ 155 (115 + 5 * (lg Q l).1 + 0) = trip then d else 0) - (if gN σ 155 (115 + 5 * (lg Q (l - 1)).2 + 0) = trip then d else 0) < 0 ↔ _
  omega
theorem q_breaks {σ : Sto} (h : LW σ) (trip d t : Int) : cBreaks (lkN σ) trip d t = breaksQ σ trip d t := by
  unfold cBreaks breaksQ ctoT
  refine ite_congr rfl (fun _ => rfl) (fun c => ?_)
  have hS := h.1.2.1
  refine itr_congr _ _ _ (fun s s0 s1 n => ?_)
  rw [show gN (lkN σ) 155 0 = gN σ 155 0 from rfl] at s1
  have hs : stp σ s := ⟨s0, by omega⟩
  have ht : stp σ t := ⟨by omega, by omega⟩
  unfold csF brS
  refine ite_congr rfl (fun _ => rfl) (fun e => ?_)
  rw [mk_len h hs ht]
  refine itr_congr _ _ _ (fun i i0 i1 m => ?_)
  unfold ciF brI
  rw [if_neg (by omega), ul_lg h hs ht i0 (by omega), bb_eq]
  split
  · rfl
  · omega
