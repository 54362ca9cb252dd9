/-! The store as it is looked at, told by σ alone; readers that look only at the rides there are. -/
theorem itr_congr {α : Type} {f g : Int → α → α} : ∀ (n : Nat) (i : Int) (a : α), (∀ k, i ≤ k → k < i + n → ∀ x, f k x = g k x) → itr f n i a = itr g n i a
  | 0, _, _, _ => rfl
  | n + 1, i, a, h => by
    rw [itr_s, itr_s, h i (by omega) (by omega), itr_congr n (i + 1) (g i a) (fun k q0 q1 => h k (by omega) (by omega))]
def Rq (σ τ : Sto) : Prop := (∀ j, gN τ 155 j = gN σ 155 j) ∧ (∀ j, gN τ 158 j = gN σ 158 j) ∧ (∀ j, 0 ≤ j → j < gN σ 155 3 → gN τ 161 j = gN σ 161 j ∧ gN τ 162 j = gN σ 162 j ∧ gL τ 163 j = gL σ 163 j) ∧ gL τ 153 23 = gL σ 153 23 ∧ gL τ 153 17 = gL σ 153 17
theorem Rd.q {σ τ : Sto} (h : Rd σ τ) : Rq σ τ := ⟨h.1, h.2.1, fun j _ _ => ⟨h.2.2.1 j, h.2.2.2.1 j, h.2.2.2.2.1 j⟩, h.2.2.2.2.2.1, h.2.2.2.2.2.2⟩
theorem Rq.trans {σ τ υ : Sto} (h : Rq σ τ) (k : Rq τ υ) : Rq σ υ := ⟨fun j => (k.1 j).trans (h.1 j), fun j => (k.2.1 j).trans (h.2.1 j), fun j q0 q1 => by
  have a := h.2.2.1 j q0 q1
  have b := k.2.2.1 j q0 (by rw [h.1]; exact q1)
  exact ⟨b.1.trans a.1, b.2.1.trans a.2.1, b.2.2.trans a.2.2⟩, k.2.2.2.1.trans h.2.2.2.1, k.2.2.2.2.trans h.2.2.2.2⟩
theorem Rq.lf {σ τ : Sto} (h : Rq σ τ) (s : Int) {i : Int} (h0 : 0 ≤ i) (h1 : i < gN σ 155 3) : lfF τ s i = lfF σ s i := by unfold lfF; simp only [h.1, (h.2.2.1 i h0 h1).1, h.2.2.2.1]
theorem Rq.stays {σ τ : Sto} (h : Rq σ τ) (x : Int64) : staysF τ x = staysF σ x := by
  have e : stF τ = stF σ := by funext i a; unfold stF; simp only [h.1, h.2.2.2.1]
  unfold staysF; rw [e, h.1]
theorem Rq.changed {σ τ : Sto} (h : Rq σ τ) (x : Int64) : changedF τ x = changedF σ x := by
  unfold changedF
  rw [h.stays, h.1, itr_congr _ _ _ (fun k q0 q1 y => show chF τ x k y = chF σ x k y by unfold chF; rw [(h.2.2.1 k q0 (by omega)).2.2])]
theorem Rq.arrives {σ τ : Sto} (h : Rq σ τ) (x : Int64) (t : Int) : arrivesF τ x t = arrivesF σ x t := by
  unfold arrivesF
  rw [h.1, itr_congr _ _ _ (fun k q0 q1 y => show arF τ x t k y = arF σ x t k y by unfold arF; simp only [h.1, (h.2.2.1 k q0 (by omega)).2.1])]
theorem Rq.btw {σ τ : Sto} (h : Rq σ τ) (i k : Int) : btw τ i k = btw σ i k := btw_eq h.1 i k
theorem Rq.earliest {σ τ : Sto} (h : Rq σ τ) (s t m k : Int) : earliestF τ s t m k = earliestF σ s t m k := by
  have e : e1F τ t = e1F σ t := by funext i q; unfold e1F; simp only [h.arrives, h.changed]
  unfold earliestF
  rw [e, h.1, h.1, h.stays, itr_congr _ _ _ (fun k q0 q1 y => show e0F τ s m k y = e0F σ s m k y by unfold e0F; rw [h.lf s q0 (by omega)])]
theorem Rq.cand {σ τ : Sto} (h : Rq σ τ) (s t : Int) : candL τ s t = candL σ s t := by
  unfold candL
  rw [h.1]
  refine itr_congr _ _ _ (fun k q0 q1 y => ?_)
  unfold caF
  rw [h.lf s q0 (by omega), h.stays]
  have e : ∀ dep, cdF τ t dep = cdF σ t dep := by intro dep; funext i q; unfold cdF; simp only [h.arrives, h.changed]
  rw [e]
/-- the store as it is looked at -/
def look (σ : Sto) (trip later gone : Int) : Sto := (fun c j => if c = 161 then lkL σ trip later j else if c = 162 then lkC σ trip later j else σ.1 c j, fun c j => if c = 163 then lkH σ trip later gone j else if c = 153 ∧ j = 23 then lkO σ trip gone else σ.2.1 c j, σ.2.2)
theorem look155 (σ : Sto) (trip later gone j : Int) : gN (look σ trip later gone) 155 j = gN σ 155 j := rfl
theorem look158 (σ : Sto) (trip later gone j : Int) : gN (look σ trip later gone) 158 j = gN σ 158 j := rfl
theorem look161 {σ : Sto} (hW : WOK σ) {trip later gone j : Int} (h0 : 0 ≤ j) (h1 : j < 60) (h2 : -60 ≤ later) (h3 : later ≤ 240) : gN (look σ trip later gone) 161 j = lkL σ trip later j ∧ gN (look σ trip later gone) 162 j = lkC σ trip later j := by
  have := lkL_rng hW (trip := trip) h0 h1 h2 h3
  exact ⟨nrm_of (x := lkL σ trip later j) (inR_of (by omega) (by omega)), nrm_of (x := lkC σ trip later j) (inR_of (by omega) (by omega))⟩
theorem look163 (σ : Sto) (trip later gone j : Int) : gL (look σ trip later gone) 163 j = lkH σ trip later gone j := rfl
theorem look23 (σ : Sto) (trip later gone : Int) : gL (look σ trip later gone) 153 23 = lkO σ trip gone := rfl
theorem look17 (σ : Sto) (trip later gone : Int) : gL (look σ trip later gone) 153 17 = gL σ 153 17 := by
  unfold gL look
  simp
theorem look_W {σ : Sto} (hW : WOK σ) (trip later gone : Int) : WOK (look σ trip later gone) := hW.of (look155 σ trip later gone) (look158 σ trip later gone)
theorem look_T {σ : Sto} (hW : WOK σ) {trip later gone : Int} (h2 : -60 ≤ later) (h3 : later ≤ 240) : TOK (look σ trip later gone) := fun i h0 h1 => by
  have := lkL_rng hW (trip := trip) h0 h1 h2 h3
  rw [(look161 hW h0 h1 h2 h3).1, (look161 hW h0 h1 h2 h3).2]
  omega
theorem Lkd.q {σ u : Sto} {trip later gone : Int} (hW : WOK σ) (h2 : -60 ≤ later) (h3 : later ≤ 240) (h : Lkd σ u trip later gone) : Rq (look σ trip later gone) u := by
  have hR := hW.1
  refine ⟨fun j => Lk155 h.1 j, fun j => Lk158 h.1 j, fun j q0 q1 => ?_, h.2.2.2, (Lk17 h.1).trans (look17 σ trip later gone).symm⟩
  rw [look155] at q1
  have a := h.2.2.1 j q0 q1
  have b := look161 hW (trip := trip) (gone := gone) q0 (by omega) h2 h3
  exact ⟨a.1.trans b.1.symm, a.2.1.trans b.2.symm, a.2.2⟩
/-- what a query of the reference may change -/
abbrev pQ (c : Nat) (j : Int) : Prop := (161 ≤ c ∧ c ≤ 172) ∨ (c = 153 ∧ (j = 0 ∨ j = 23 ∨ j = 28 ∨ j = 30 ∨ j = 39))
abbrev qQ (σ : Sto) (v : Int) : Option Av → Sto → Prop := fun r u => r = some (ai v) ∧ Fr pQ σ u ∧ TOK u
theorem pLk_Q {c : Nat} {j : Int} (h : pLk c j) : pQ c j := by unfold pLk at h; unfold pQ; omega
theorem pPr_Q {c : Nat} {j : Int} (h : pPr c j) : pQ c j := by unfold pPr at h; unfold pQ; omega
theorem Q155 {σ u : Sto} (h : Fr pQ σ u) (j : Int) : gN u 155 j = gN σ 155 j := h.1 155 j (by unfold pQ; omega)
theorem Q158 {σ u : Sto} (h : Fr pQ σ u) (j : Int) : gN u 158 j = gN σ 158 j := h.1 158 j (by unfold pQ; omega)
theorem Q17 {σ u : Sto} (h : Fr pQ σ u) : gL u 153 17 = gL σ 153 17 := h.2.1 153 17 (by unfold pQ; omega)
theorem Q_W {σ u : Sto} (h : Fr pQ σ u) (hW : WOK σ) : WOK u := hW.of (Q155 h) (Q158 h)
theorem look_eq {σ u : Sto} (h1 : ∀ j, gN u 155 j = gN σ 155 j) (h2 : ∀ j, gN u 158 j = gN σ 158 j) (h3 : gL u 153 17 = gL σ 153 17) (trip later gone : Int) : lkL u trip later = lkL σ trip later ∧ lkC u trip later = lkC σ trip later ∧ lkO u trip gone = lkO σ trip gone ∧ lkH u trip later gone = lkH σ trip later gone := by
  have a : lkL u trip later = lkL σ trip later := by funext j; unfold lkL; simp only [h1, h2]
  have b : lkC u trip later = lkC σ trip later := by funext j; unfold lkC; simp only [h1, h2]
  have c0 : lkOf u trip gone = lkOf σ trip gone := by funext j x; unfold lkOf; simp only [h1]
  have c : lkO u trip gone = lkO σ trip gone := by unfold lkO; rw [c0, h1, h3]
  refine ⟨a, b, c, ?_⟩
  funext i
  unfold lkH
  rw [a, b, c, h1]
  have d : ∀ lv cm out, lkHf u lv cm out i = lkHf σ lv cm out i := by intro lv cm out; funext k x; unfold lkHf; simp only [btw_eq h1]
  rw [d]
/-- looked at now -/
def lkN (σ : Sto) : Sto := look σ (-1) 0 0
theorem look_Rq {σ u : Sto} (hW : WOK σ) (h : Fr pQ σ u) {trip later gone : Int} (h2 : -60 ≤ later) (h3 : later ≤ 240) : Rq (look σ trip later gone) (look u trip later gone) := by
  have e := look_eq (Q155 h) (Q158 h) (Q17 h) trip later gone
  have hR := hW.1
  refine ⟨fun j => Q155 h j, fun j => Q158 h j, fun j q0 q1 => ?_, ?_, (look17 u trip later gone).trans ((Q17 h).trans (look17 σ trip later gone).symm)⟩
  · rw [look155] at q1
    rw [(look161 hW q0 (by omega) h2 h3).1, (look161 hW q0 (by omega) h2 h3).2, (look161 (Q_W h hW) q0 (by omega) h2 h3).1, (look161 (Q_W h hW) q0 (by omega) h2 h3).2, look163, look163, e.1, e.2.1, e.2.2.2]
    exact ⟨rfl, rfl, rfl⟩
  · rw [look23, look23, e.2.2.1]
