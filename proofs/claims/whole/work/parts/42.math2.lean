/-! Legs in stores that the readers can't tell apart. -/
theorem anyZ_congr {p q : Int → Bool} : ∀ (n : Nat) (k : Int), (∀ x, k ≤ x → x < k + n → p x = q x) → anyZ p n k = anyZ q n k
  | 0, _, _ => rfl
  | n + 1, k, h => by unfold anyZ; rw [h k (by omega) (by omega), anyZ_congr n (k + 1) (fun x a b => h x (by omega) (by omega))]
theorem fs2_congr {p q : Int → Bool} {e : Int} : ∀ (n : Nat) (k : Int), (∀ x, k ≤ x → x < k + n → p x = q x) → fs2 p e n k = fs2 q e n k
  | 0, _, _ => rfl
  | n + 1, k, h => by unfold fs2; rw [h k (by omega) (by omega), fs2_congr n (k + 1) (fun x a b => h x (by omega) (by omega))]
theorem meF_congr {σ τ : Sto} (hn : nxB τ = nxB σ) {p q : Int → Bool} : ∀ (n : Nat) (k : Int), (∀ x, k ≤ x → x < k + n → p x = q x) → meF τ p n k = meF σ q n k
  | 0, _, _ => rfl
  | n + 1, k, h => by unfold meF; rw [h k (by omega) (by omega), hn, meF_congr hn n (k + 1) (fun x a b => h x (by omega) (by omega))]
theorem Rq.nx {σ τ : Sto} (h : Rq σ τ) : nxB τ = nxB σ := by funext i; unfold nxB; simp only [h.1, h.2.2.2.1]
theorem Rq.en {σ τ : Sto} (h : Rq σ τ) (t arr : Int) : ∀ (n : Nat) (i : Int), 0 ≤ i → i < gN σ 155 3 → enF τ t arr n i = enF σ t arr n i
  | 0, i, h0, h1 => by unfold enF; simp only [h.1, (h.2.2.1 i h0 h1).2.1]
  | n + 1, i, h0, h1 => by
    unfold enF
    rw [h.1]
    refine anyZ_congr _ _ (fun k a b => ?_)
    have e1 : lkB τ i k = lkB σ i k := by unfold lkB; rw [(h.2.2.1 i h0 h1).2.2]
    rw [e1]
    congr 1
    exact meF_congr h.nx _ _ (fun x c d => h.en t arr n x (by omega) (by omega))
theorem Rq.mt {σ τ : Sto} (h : Rq σ τ) (t arr : Int) (n : Nat) {i : Int} (h0 : 0 ≤ i) : mtB τ t arr n i = mtB σ t arr n i := by
  unfold mtB
  rw [h.1]
  exact meF_congr h.nx _ _ (fun x c d => h.en t arr n x (by omega) (by omega))
theorem Rq.off {σ τ : Sto} (h : Rq σ τ) (t arr : Int) (n : Nat) {on : Int} (h0 : 0 ≤ on) : offF τ t arr n on = offF σ t arr n on := by
  unfold offF
  rw [h.1]
  exact fs2_congr _ _ (fun x c d => h.en t arr n x (by omega) (by omega))
theorem Rq.on {σ τ : Sto} (h : Rq σ τ) (t arr : Int) (n : Nat) {e : Int} (h0 : 0 ≤ e) (h1 : e < gN σ 155 3) : onF τ t arr n e = onF σ t arr n e := by
  unfold onF
  rw [h.1]
  refine fs2_congr _ _ (fun x c d => ?_)
  have e1 : lkB τ e x = lkB σ e x := by unfold lkB; rw [(h.2.2.1 e h0 h1).2.2]
  rw [e1, h.mt t arr n (by omega)]
theorem Rq.legs {σ τ : Sto} (h : Rq σ τ) (t arr : Int) : ∀ (n : Nat) (on : Int), 0 ≤ on → on < gN σ 155 3 → mtB σ t arr n on = true → legsF τ t arr n on = legsF σ t arr n on
  | 0, on, h0, h1, hm => by unfold legsF; rw [h.off t arr 0 h0]
  | n + 1, on, h0, h1, hm => by
    have ho := offF_ok h1 hm
    have hn := onF_ok ho.2.2
    unfold legsF
    rw [h.off t arr (n + 1) h0, h.on t arr n (by omega) ho.2.1, h.legs t arr n _ hn.1 hn.2.1 hn.2.2.2]
def lgOK (R : Int) (q : Int × Int) : Prop := 0 ≤ q.1 ∧ q.1 ≤ q.2 ∧ q.2 < R
theorem legs_ok {σ : Sto} {t arr : Int} : ∀ (n : Nat) (on : Int), 0 ≤ on → on < gN σ 155 3 → mtB σ t arr n on = true → (legsF σ t arr n on).length = n + 1 ∧ ∀ q ∈ legsF σ t arr n on, lgOK (gN σ 155 3) q
  | 0, on, h0, h1, hm => by
    have ho := offF_ok h1 hm
    refine ⟨rfl, fun q hq => ?_⟩
    unfold legsF at hq
    simp only [List.mem_cons, List.mem_nil_iff, or_false] at hq
    subst hq
    exact ⟨h0, ho.1, ho.2.1⟩
  | n + 1, on, h0, h1, hm => by
    have ho := offF_ok h1 hm
    have hn := onF_ok ho.2.2
    have ih := legs_ok n _ hn.1 hn.2.1 hn.2.2.2
    unfold legsF
    refine ⟨by rw [List.length_cons, ih.1], fun q hq => ?_⟩
    rcases List.mem_cons.mp hq with z | z
    · subst z
      exact ⟨h0, ho.1, ho.2.1⟩
    · exact ih.2 q z
/-- which ride a candidate begins with -/
def on0 (σ : Sto) (s t : Int) (q : Cd) : Int := fs2 (fun k => decide (lfF σ s k = q.1) && mtB σ t q.2.1 q.2.2.toNat k) (-1) (gN σ 155 3).toNat 0
def lgC (σ : Sto) (s t : Int) (q : Cd) : List (Int × Int) := legsF σ t q.2.1 q.2.2.toNat (on0 σ s t q)
theorem on0_ok {σ : Sto} {s t : Int} {q : Cd} (h : unfOK σ s t q) : 0 ≤ on0 σ s t q ∧ on0 σ s t q < gN σ 155 3 ∧ lfF σ s (on0 σ s t q) = q.1 ∧ mtB σ t q.2.1 q.2.2.toNat (on0 σ s t q) = true := by
  obtain ⟨x, x0, x1, x2, x3⟩ := h
  have := fs2_spec (p := fun k => decide (lfF σ s k = q.1) && mtB σ t q.2.1 q.2.2.toNat k) (e := -1) (gN σ 155 3).toNat 0 x x0 (by omega) (Bool.and_eq_true_iff.mpr ⟨decide_eq_true x2, x3⟩)
  have h2 := Bool.and_eq_true_iff.mp this.2.2
  exact ⟨this.1, by unfold on0; omega, of_decide_eq_true h2.1, h2.2⟩
theorem Rq.n0 {σ τ : Sto} (h : Rq σ τ) (s t : Int) (q : Cd) : on0 τ s t q = on0 σ s t q := by
  unfold on0
  rw [h.1]
  exact fs2_congr _ _ (fun x c d => by rw [h.lf s c (by omega), h.mt _ _ _ c])
theorem Rq.lg {σ τ : Sto} (h : Rq σ τ) (s t : Int) {q : Cd} (hu : unfOK σ s t q) : lgC τ s t q = lgC σ s t q := by
  have ho := on0_ok hu
  unfold lgC
  rw [h.n0, h.legs _ _ _ _ ho.1 ho.2.1 ho.2.2.2]
theorem unf_Rq {σ τ : Sto} (h : Rq σ τ) {s t : Int} {q : Cd} (hu : unfOK σ s t q) : unfOK τ s t q := by
  obtain ⟨x, x0, x1, x2, x3⟩ := hu
  exact ⟨x, x0, by rw [h.1]; exact x1, by rw [h.lf s x0 x1]; exact x2, by rw [h.mt _ _ _ x0]; exact x3⟩
/-- the legs of one of the profile, told by σ -/
def lgL (σ : Sto) (s t x : Int) : List (Int × Int) := lgC (lkN σ) s t (cd (pfL σ s t) x)
theorem cd_mem {L : List Cd} {k : Int} (h0 : 0 ≤ k) (h1 : k < L.length) : cd L k ∈ L := by
  unfold cd
  rw [List.getD_eq_getElem?_getD, List.getElem?_eq_getElem (by omega)]
  exact List.getElem_mem _
theorem pf_unf {σ : Sto} (hW : WOK σ) {s t x : Int} (h0 : 0 ≤ x) (h1 : x < (pfL σ s t).length) : unfOK (lkN σ) s t (cd (pfL σ s t) x) := cand_un (look_W hW (-1) 0 0) s t _ (cd_mem h0 h1)
theorem lg_ok {σ : Sto} (hW : WOK σ) {s t x : Int} (h0 : 0 ≤ x) (h1 : x < (pfL σ s t).length) : (lgL σ s t x).length = (cd (pfL σ s t) x).2.2.toNat + 1 ∧ ∀ q ∈ lgL σ s t x, lgOK (gN σ 155 3) q := by
  have ho := on0_ok (pf_unf hW h0 h1)
  exact legs_ok _ _ ho.1 ho.2.1 ho.2.2.2
theorem un_fin {σ v w : Sto} {s t x : Int} (hW : WOK σ) (hF : Fr pQ σ v) (hT : TOK v) (hR : Rq (lkN σ) v) (h0 : 0 ≤ x) (h1 : x < (pfL σ s t).length) (h : Fr pUn v w ∧ RoIs w (lgC v s t (cd (pfL σ s t) x))) : Fr pQ σ w ∧ TOK w ∧ Rq (lkN σ) w ∧ RoIs w (lgL σ s t x) := by
  have r := pUn_Rd h.1
  have h2 := h.2
  rw [hR.lg s t (pf_unf hW h0 h1)] at h2
  exact ⟨hF.trans (h.1.mono (fun c j q => by unfold pUn at q; unfold pQ; omega)), r.T hT, hR.trans r.q, h2⟩
def lg (P : List (Int × Int)) (l : Int) : Int × Int := P.getD l.toNat (0, 0)
theorem RoIs.at {v : Sto} {P : List (Int × Int)} (h : RoIs v P) {l : Int} (h0 : 0 ≤ l) (h1 : l < P.length) : gN v 170 l = (lg P l).1 ∧ gN v 171 l = (lg P l).2 ∧ lg P l ∈ P := by
  have e : ((l.toNat : Nat) : Int) = l := by omega
  have hk : l.toNat < P.length := by omega
  have := h l.toNat (P[l.toNat]) (List.getElem?_eq_getElem hk)
  rw [e] at this
  unfold lg
  rw [List.getD_eq_getElem?_getD, List.getElem?_eq_getElem hk]
  exact ⟨this.1, this.2, List.getElem_mem _⟩
abbrev LV (σ : Sto) (x : Int) : Int := gN (lkN σ) 161 x
abbrev CM (σ : Sto) (x : Int) : Int := gN (lkN σ) 162 x
theorem LV_rng {σ : Sto} (hW : WOK σ) {x : Int} (h0 : 0 ≤ x) (h1 : x < 60) : -1000 ≤ LV σ x ∧ LV σ x ≤ 4000 ∧ -1000 ≤ CM σ x ∧ CM σ x ≤ 4000 := by
  have := look_T hW (trip := -1) (later := 0) (gone := 0) (by omega) (by omega) x h0 h1
  exact ⟨this.1.1, this.1.2, this.2.1, this.2.2⟩
def mvF (σ : Sto) (P : List (Int × Int)) (l sum : Int) : Int := if 0 < l then sum + (CM σ (lg P l).2 - LV σ (lg P l).1) + gN σ 155 (15 + 10 * gN σ 155 (115 + 5 * (lg P (l - 1)).2 + 2) + gN σ 155 (115 + 5 * (lg P l).1 + 1)) else sum + (CM σ (lg P l).2 - LV σ (lg P l).1)
def movesF (σ : Sto) (P : List (Int × Int)) (s t : Int) : Int := itr (mvF σ P) P.length 0 (gN σ 155 (15 + 10 * s + gN σ 155 (115 + 5 * (lg P 0).1 + 1)) + gN σ 155 (15 + 10 * gN σ 155 (115 + 5 * (lg P ((P.length : Int) - 1)).2 + 2) + t))
def slk (σ : Sto) (P : List (Int × Int)) (l : Int) : Int := LV σ (lg P l).1 - CM σ (lg P (l - 1)).2 - btw σ (lg P (l - 1)).2 (lg P l).1
def slF (σ : Sto) (P : List (Int × Int)) (l least : Int) : Int := if slk σ P l < least then slk σ P l else least
def slackF (σ : Sto) (P : List (Int × Int)) : Int := if 1000000 ≤ itr (slF σ P) (P.length - 1) 1 1000000 then -2 else itr (slF σ P) (P.length - 1) 1 1000000
def kx (σ : Sto) (s t i : Int) : Int := (pfK σ s t).getD i.toNat 0
def legQ (σ : Sto) (s t i l what : Int) : Int := if ¬ two σ s t ∨ i < 0 ∨ l < 0 ∨ what < 0 ∨ 1 < what then -1 else if (pfK σ s t).length ≤ i ∨ (cd (pfL σ s t) (kx σ s t i)).2.2 < l then -2 else if what = 0 then (lg (lgL σ s t (kx σ s t i)) l).1 else (lg (lgL σ s t (kx σ s t i)) l).2
def waitsF (σ : Sto) (s t i what : Int) : Int := if ¬ two σ s t ∨ i < 0 ∨ what < 0 ∨ 1 < what then -1 else if (pfK σ s t).length ≤ i then -2 else if what = 0 then (cd (pfL σ s t) (kx σ s t i)).2.1 - (cd (pfL σ s t) (kx σ s t i)).1 - movesF σ (lgL σ s t (kx σ s t i)) s t else slackF σ (lgL σ s t (kx σ s t i))
def gpF (σ : Sto) (s t i most : Int) : Int := if 0 < (cd (pfL σ s t) (kx σ s t i)).1 - (cd (pfL σ s t) (kx σ s t (i - 1))).1 ∧ most < (cd (pfL σ s t) (kx σ s t i)).1 - (cd (pfL σ s t) (kx σ s t (i - 1))).1 then (cd (pfL σ s t) (kx σ s t i)).1 - (cd (pfL σ s t) (kx σ s t (i - 1))).1 else most
def gapF (σ : Sto) (s t : Int) : Int := if two σ s t then itr (gpF σ s t) ((pfK σ s t).length - 1) 1 (-2) else -1
def qkF (σ : Sto) (s t i : Int) (q : Int × Int) : Int × Int := if (cd (pfL σ s t) (kx σ s t i)).2.1 - (cd (pfL σ s t) (kx σ s t i)).1 < q.2 then (i, (cd (pfL σ s t) (kx σ s t i)).2.1 - (cd (pfL σ s t) (kx σ s t i)).1) else q
def quickestF (σ : Sto) (s t what : Int) : Int := if ¬ two σ s t ∨ what < 0 ∨ 1 < what then -1 else meetR (itr (qkF σ s t) (pfK σ s t).length 0 (-2, 1000000)) what
