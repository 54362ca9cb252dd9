/-! Class and reference answer alike: the queries by minutes. -/
theorem Rq.sym {σ τ : Sto} (h : Rq σ τ) : Rq τ σ := ⟨fun j => (h.1 j).symm, fun j => (h.2.1 j).symm, fun j q0 q1 => by
  rw [h.1] at q1
  have a := h.2.2.1 j q0 q1
  exact ⟨a.1.symm, a.2.1.symm, a.2.2.symm⟩, h.2.2.2.1.symm, h.2.2.2.2.symm⟩
theorem Rq.w0 {σ τ : Sto} (h : Rq σ τ) (t : Int) {i : Int} (h0 : 0 ≤ i) (h1 : i < gN σ 155 3) : w0F τ t i = w0F σ t i := by
  unfold w0F
  simp only [h.1, (h.2.2.1 i h0 h1).2.1]
theorem Rq.bo {σ τ : Sto} (h : Rq σ τ) {A B : Int → Int} (hP : ∀ k, 0 ≤ k → k < gN σ 155 3 → A k = B k) {i w : Int} (h0 : 0 ≤ i) (h1 : i < gN σ 155 3) : boN τ A i w = boN σ B i w := by
  unfold boN
  rw [h.1, itr_congr (g := boF σ B i)]
  intro k k0 k1 x
  unfold boF
  rw [(h.2.2.1 i h0 h1).2.2, hP k k0 (by omega)]
theorem Rq.alv {σ τ : Sto} (h : Rq σ τ) (t : Int) {A B on on' : Int → Int} (hP : ∀ k, 0 ≤ k → k < gN σ 155 3 → A k = B k) (ho : ∀ i, 0 ≤ i → i < gN σ 155 3 → on' i = on i) (hr : ∀ i, 0 ≤ on i → on i < gN σ 155 3) : ∀ (d : Nat) (i : Int), 0 ≤ i → i + d ≤ gN σ 155 3 → alvF τ t A on' d i = alvF σ t B on d i
  | 0, _, _, _ => rfl
  | d + 1, i, h0, h1 => by
    have e := Rq.alv h t hP ho hr d (i + 1) (by omega) (by omega)
    have o : ovB A (on' i) (w0F τ t i) = ovB B (on i) (w0F σ t i) := by
      rw [ho i h0 (by omega), h.w0 t h0 (by omega)]
      unfold ovB
      by_cases c : 0 ≤ on i
      · rw [if_pos c, if_pos c]; exact hP _ c (hr i c)
      · rw [if_neg c, if_neg c]
    unfold alvF
    simp only [e, o, cnc, stO, nxt, h.1, h.2.2.2.1]
theorem Rq.lv {σ τ : Sto} (h : Rq σ τ) (hR : 0 ≤ gN σ 155 3) (t : Int) : ∀ (c : Nat) (i : Int), 0 ≤ i → i < gN σ 155 3 → lvF τ t c i = lvF σ t c i
  | 0, i, h0, h1 => by
    unfold lvF
    rw [h.1]
    exact h.alv t (fun _ _ _ => rfl) (fun _ _ _ => rfl) (fun _ x => absurd x (by show ¬ (0 : Int) ≤ -1; omega)) _ i h0 (by omega)
  | c + 1, i, h0, h1 => by
    unfold lvF
    rw [h.1]
    have e : ∀ k, 0 ≤ k → k < gN σ 155 3 → (lvF τ t c k).1 = (lvF σ t c k).1 := fun k k0 k1 => by rw [Rq.lv h hR t c k k0 k1]
    refine h.alv t e (fun j j0 j1 => ?_) (fun j x => (boN_rng hR).2 x) _ i h0 (by omega)
    rw [h.w0 t j0 j1]
    exact h.bo e j0 j1
theorem Rq.on_ {σ τ : Sto} (h : Rq σ τ) (hR : 0 ≤ gN σ 155 3) (t : Int) (c : Nat) {i : Int} (h0 : 0 ≤ i) (h1 : i < gN σ 155 3) : onS τ t c i = onS σ t c i := by
  have e : onL τ t c i = onL σ t c i := by
    cases c with
    | zero => rfl
    | succ c =>
      show boN τ (prvL τ t (c + 1)) i (w0F τ t i) = boN σ (prvL σ t (c + 1)) i (w0F σ t i)
      rw [h.w0 t h0 h1]
      refine h.bo (fun k k0 k1 => ?_) h0 h1
      show arL τ t c k = arL σ t c k
      unfold arL
      rw [h.lv hR t c k k0 k1]
  unfold onS
  simp only [e, cnc, h.2.2.2.1]
theorem Rq.bet {σ τ : Sto} (h : Rq σ τ) (hR : 0 ≤ gN σ 155 3) (t : Int) (c : Nat) : betF τ t c ↔ betF σ t c := by
  unfold betF
  cases c with
  | zero => simp
  | succ c =>
    have : ∀ r, 0 ≤ r → r < gN σ 155 3 → (arL τ t (c + 1) r < prvL τ t (c + 1) r ↔ arL σ t (c + 1) r < prvL σ t (c + 1) r) := by
      intro r r0 r1
      show arL τ t (c + 1) r < arL τ t c r ↔ arL σ t (c + 1) r < arL σ t c r
      unfold arL
      rw [h.lv hR t _ r r0 r1, h.lv hR t _ r r0 r1]
    rw [anyZ_iff, anyZ_iff, h.1]
    simp only [decide_eq_true_eq]
    constructor
    · rintro (x | ⟨r, r0, r1, x⟩)
      · exact Or.inl x
      · exact Or.inr ⟨r, r0, r1, (this r r0 (by omega)).mp x⟩
    · rintro (x | ⟨r, r0, r1, x⟩)
      · exact Or.inl x
      · exact Or.inr ⟨r, r0, r1, (this r r0 (by omega)).mpr x⟩
theorem NetR.rq {σ ρ τ : Sto} {N : Nat} (h : NetR σ N ρ) (r : ∀ j, gN τ 155 j = gN ρ 155 j) : NetR σ N τ := by
  have tf : ∀ a b, tfF τ a b = tfF ρ a b := by intro a b; unfold tfF; simp only [r]
  have f1 : ∀ a, f1F τ a = f1F ρ a := by intro a; unfold f1F; rw [foF_eq r]; simp only [r]
  unfold NetR at h ⊢
  simp only [r, tf, f1]
  exact h
/-- what the class holds is told of the world looked at -/
theorem CQ.rq {σ ρ τ : Sto} {N : Nat} (h : CQ σ ρ N) (hR : 0 ≤ gN ρ 155 3) (r : Rq ρ τ) : CQ σ τ N := by
  obtain ⟨h1, h2, h3, h4, h5⟩ := h
  refine ⟨h1, h2.rq r.1, ?_, ?_, ?_⟩
  · obtain ⟨a, b, c, d, e⟩ := h3
    refine ⟨a, b, c.trans r.2.2.2.1.symm, fun i i0 i1 => ?_, e⟩
    rw [r.1] at i1
    have y := r.2.2.1 i i0 i1
    rw [y.1, y.2.1]
    exact d i i0 i1
  · intro x i i0 i1
    rw [r.1] at i1
    rw [(r.2.2.1 i i0 i1).2.2]
    exact h4 x i i0 i1
  · intro t t0 t1
    refine ⟨(h5 t t0 t1).1, fun x y c i c0 i0 i1 => ?_⟩
    rw [r.1] at x i1
    have z := (h5 t t0 t1).2 x y c i c0 i0 i1
    have e := r.lv hR t c i i0 i1
    unfold arL ofL
    rw [e, r.on_ hR t c i0 i1]
    exact ⟨z.1, fun w => z.2 (fun x x0 => (r.bet hR t x).mp (w x x0))⟩
/-- a world as it is told and shifted: in bounds, its times in order and not below 0 -/
def LW (σ : Sto) : Prop := WOK σ ∧ WX σ ∧ TrOK σ ∧ OrdT (lkN σ) ∧ ∀ i : Int, 0 ≤ i → i < gN σ 155 3 → 0 ≤ gN (lkN σ) 161 i
theorem LW.V {σ : Sto} (h : LW σ) : WV (lkN σ) := look_WV h.1 h.2.1 h.2.2.1 (by omega) (by omega)
theorem LW.vl {σ : Sto} (h : LW σ) (trip d gone : Int) (h2 : -60 ≤ d) (h3 : d ≤ 240) : WV (look σ trip d gone) := look_WV h.1 h.2.1 h.2.2.1 h2 h3
theorem lkN_t {σ : Sto} (hW : WOK σ) {i : Int} (h0 : 0 ≤ i) (h1 : i < gN σ 155 3) : gN (lkN σ) 161 i = gN σ 155 (115 + 5 * i + 3) + gN σ 158 i ∧ gN (lkN σ) 162 i = gN σ 155 (115 + 5 * i + 4) + gN σ 158 i := by
  have hR := hW.1
  have a := look161 hW (trip := -1) (later := 0) (gone := 0) h0 (by omega) (by omega) (by omega)
  unfold lkN
  rw [a.1, a.2]
  unfold lkL lkC
  constructor <;> (split <;> omega)
theorem look_t {σ : Sto} (hW : WOK σ) {trip d gone i : Int} (h2 : -60 ≤ d) (h3 : d ≤ 240) (h0 : 0 ≤ i) (h1 : i < gN σ 155 3) : gN (look σ trip d gone) 161 i = gN (lkN σ) 161 i + (if gN σ 155 (115 + 5 * i + 0) = trip then d else 0) ∧ gN (look σ trip d gone) 162 i = gN (lkN σ) 162 i + (if gN σ 155 (115 + 5 * i + 0) = trip then d else 0) := by
  have hR := hW.1
  have a := look161 hW (trip := trip) (later := d) (gone := gone) h0 (by omega) h2 h3
  have b := lkN_t hW h0 h1
  rw [a.1, a.2, b.1, b.2]
  unfold lkL lkC
  omega
theorem LW.ol {σ : Sto} (h : LW σ) (trip d gone : Int) (h2 : -60 ≤ d) (h3 : d ≤ 240) : OrdT (look σ trip d gone) := by
  have hO := h.2.2.2.1
  refine ⟨fun i i0 i1 => ?_, fun i i0 i1 => ?_⟩
  · have a := look_t h.1 (trip := trip) (gone := gone) h2 h3 i0 i1
    have b := hO.1 i i0 i1
    rw [a.1, a.2]
    omega
  · have n1 : i + 1 < gN σ 155 3 := i1.1
    have n2 : gN σ 155 (115 + 5 * (i + 1) + 0) = gN σ 155 (115 + 5 * i + 0) := i1.2
    have a := look_t h.1 (trip := trip) (gone := gone) h2 h3 i0 (by omega)
    have c := look_t h.1 (trip := trip) (gone := gone) h2 h3 (i := i + 1) (by omega) n1
    have b := hO.2 i i0 i1
    rw [a.2, c.1, n2]
    omega
theorem LW.O {σ : Sto} (h : LW σ) : OrdT (lkN σ) := h.2.2.2.1
theorem LW.c0 {σ : Sto} (h : LW σ) : ∀ i : Int, 0 ≤ i → i < gN (lkN σ) 155 3 → 0 ≤ gN (lkN σ) 162 i := fun i h0 h1 => by
  have a := h.2.2.2.2 i h0 h1
  have b := h.O.1 i h0 h1
  omega
theorem itr_id {α : Type} {f : Int → α → α} (h : ∀ k x, f k x = x) : ∀ (n : Nat) (i : Int) (a : α), itr f n i a = a
  | 0, _, _ => rfl
  | n + 1, i, a => by rw [itr_s, h]; exact itr_id h n (i + 1) a
theorem look23_0 (σ : Sto) (trip d : Int) : gL (look σ trip d 0) 153 23 = gL σ 153 17 := by
  rw [look23]
  unfold lkO
  exact itr_id (fun k x => by unfold lkOf; rw [if_neg (by omega)]) _ _ _
theorem and1_ne (x : Int64) : x &&& 1 ≠ 0 ↔ x &&& 1 = 1 := by
  rw [Ne, ← Int64.toBitVec_inj, ← Int64.toBitVec_inj, Int64.toBitVec_and]
  show ¬ (x.toBitVec &&& 1#64 = 0#64) ↔ x.toBitVec &&& 1#64 = 1#64
  rw [and_one]
  cases x.toBitVec.getLsbD 0 <;> decide
theorem cnc_ofB {σ : Sto} {i : Int} : cnc (lkN σ) i ↔ ofB σ i := by
  have e : gL (lkN σ) 153 23 = gL σ 153 17 := look23_0 σ (-1) 0
  unfold cnc ofB
  rw [e]
  exact and1_ne _
theorem SO_comes {σ : Sto} (h : LW σ) {s t m : Int} (hs : stp σ s) (ht : stp σ t) (hm : 0 ≤ m) (hm1 : m ≤ 700000) : SO (lkN σ) s t m 4 0 = comesF (lkN σ) s t m := by
  unfold comesF
  by_cases c : s = t
  · subst c
    rw [if_pos rfl]
    exact SO_self h.V h.O hs.1 hs.2 hm hm1 (by omega)
  · rw [if_neg c]
    exact SO_eq h.V h.O hs.1 hs.2 ht.1 ht.2 hm hm1 (by omega)
theorem q_earliest {σ : Sto} (h : LW σ) (s t m k : Int) : cEarliest (lkN σ) s t m k = earliestQ σ s t m k := by
  unfold cEarliest earliestQ
  refine ite_congr rfl (fun _ => rfl) (fun c => ?_)
  by_cases e : s = t
  · subst e
    rw [if_pos rfl, SO_self h.V h.O (show 0 ≤ s by omega) (show s < gN σ 155 0 by omega) (by omega) (by omega) (by omega)]
    show (if (1000000 : Int) ≤ m then -2 else m) = m
    rw [if_neg (by omega)]
  · rw [if_neg e, SO_eq h.V h.O (show 0 ≤ s by omega) (show s < gN σ 155 0 by omega) (show 0 ≤ t by omega) (show t < gN σ 155 0 by omega) (by omega) (by omega) (by omega)]
theorem q_cost {σ : Sto} (h : LW σ) (s t m k : Int) : cCost (lkN σ) s t m k = costF σ s t m k := by
  unfold cCost costF
  refine ite_congr rfl (fun _ => rfl) (fun c => ?_)
  rw [SO_eq h.V h.O (show 0 ≤ s by omega) (show s < gN σ 155 0 by omega) (show 0 ≤ t by omega) (show t < gN σ 155 0 by omega) (by omega) (by omega) (by omega), SO_eq h.V h.O (show 0 ≤ s by omega) (show s < gN σ 155 0 by omega) (show 0 ≤ t by omega) (show t < gN σ 155 0 by omega) (by omega) (by omega) (by omega)]
theorem q_fewest {σ : Sto} (h : LW σ) (s t m z : Int) : cFewest (lkN σ) s t m z = fewestF σ s t m z := by
  unfold cFewest fewestF
  refine ite_congr rfl (fun _ => rfl) (fun c => ?_)
  refine fs2_congr _ _ (fun k k0 k1 => ?_)
  rw [SO_eq h.V h.O (show 0 ≤ s by omega) (show s < gN σ 155 0 by omega) (show 0 ≤ t by omega) (show t < gN σ 155 0 by omega) (by omega) (by omega) k0]
theorem earl_fin {ρ : Sto} (hW : WV ρ) {s t m : Int} {k : Nat} (hs0 : 0 ≤ s) (hs1 : s < gN ρ 155 0) (ht0 : 0 ≤ t) (ht1 : t < gN ρ 155 0) (hm : 0 ≤ m) (hm1 : m ≤ 400000) (h : earliestF ρ s t m k < 1000000) : earliestF ρ s t m k ≤ 650000 := by
  rcases (earl_le hW (t := t) (k := k) hs0 hs1 hm (v := earliestF ρ s t m k) h).mp (by omega) with ⟨a, b⟩ | ⟨a, j, a0, j0, j1, r, w, c⟩
  · have z := hW.walk s t hs0 hs1 ht0 ht1
    exact (earl_le hW (t := t) (k := k) hs0 hs1 hm (by omega)).mpr (Or.inl ⟨a, by omega⟩)
  · have y := hW.ride j j0 j1
    have z := hW.walk _ t y.2.2.1.1 y.2.2.1.2 ht0 ht1
    have x := hW.tm j j0 j1
    refine (earl_le hW (t := t) (k := k) hs0 hs1 hm (by omega)).mpr (Or.inr ⟨a, j, a0, j0, j1, r, w, ?_⟩)
    unfold wkO at w
    unfold cmT
    omega
theorem q_via {σ : Sto} (h : LW σ) (s v t m : Int) : cVia (lkN σ) s v t m = viaF σ s v t m := by
  unfold cVia viaF
  refine ite_congr rfl (fun _ => rfl) (fun c => ?_)
  have hs : stp σ s := ⟨by omega, by omega⟩
  have hv : stp σ v := ⟨by omega, by omega⟩
  have ht : stp σ t := ⟨by omega, by omega⟩
  rw [← SO_comes h hs hv (by omega) (by omega)]
  by_cases z : 1000000 ≤ SO (lkN σ) s v m 4 0
  · rw [if_pos z, if_pos z]
  · rw [if_neg z, if_neg z]
    have n0 : 0 ≤ SO (lkN σ) s v m 4 0 := soon_nn h.V h.c0 hs.1 hs.2 hv.1 hv.2 (by omega)
    have n1 : SO (lkN σ) s v m 4 0 ≤ 650000 := by
      rw [SO_eq h.V h.O hs.1 hs.2 hv.1 hv.2 (by omega) (by omega) (by omega)] at z ⊢
      exact earl_fin (k := 4) h.V hs.1 hs.2 hv.1 hv.2 (by omega) (by omega) (show earliestF (lkN σ) s v m 4 < 1000000 by omega)
    rw [SO_comes h hv ht n0 (by omega)]
theorem orI_rng (x y : Int) : inR (orI x y) := by
  unfold orI inR
  have a := Int32.toInt_lt (Int32.ofInt x ||| Int32.ofInt y)
  have b := Int32.le_toInt (Int32.ofInt x ||| Int32.ofInt y)
  omega
theorem orI_0 {x : Int} (h : inR x) : orI x 0 = x := by
  unfold orI
  rw [show Int32.ofInt 0 = 0 from rfl, Int32.or_zero]
  exact Int32.toInt_ofInt_of_le (by unfold inR at h; omega) (by unfold inR at h; omega)
theorem rc_eq {σ : Sto} (h : LW σ) {s m n : Int} (hs : stp σ s) (hm : mnt m) (hn : 0 ≤ n) : ∀ (k : Nat) (t st : Int), inR st → 0 ≤ t → t + k ≤ gN σ 155 0 → itr (rcF (lkN σ) s m n (riddenF (lkN σ) s m 4 0)) k t st = itr (rchF σ s m n) k t st
  | 0, _, _, _, _, _ => rfl
  | k + 1, t, st, hi, h0, h1 => by
    have e : rcF (lkN σ) s m n (riddenF (lkN σ) s m 4 0) t st = rchF σ s m n t st := by
      have q := SO_comes h hs (t := t) ⟨h0, by omega⟩ (m := m) (by omega) (by omega)
      unfold comesF at q
      unfold rcF rchF
      rw [show soonF (lkN σ) (riddenF (lkN σ) s m 4 0) s t m = _ from q]
      by_cases c : s = t
      · rw [if_pos c, if_pos (by omega), if_pos (Or.inl c.symm)]
      · rw [if_neg c]
        by_cases d : earliestF (lkN σ) s t m 4 ≤ m + n
        · rw [if_pos d, if_pos (Or.inr d)]
        · rw [if_neg d, if_neg (fun x => x.elim (fun y => c y.symm) d), orI_0 hi]
    rw [itr_s, itr_s, e]
    exact rc_eq h hs hm hn k (t + 1) _ (orI_rng _ _) (by omega) (by omega)
theorem q_reached {σ : Sto} (h : LW σ) (s m n : Int) : cReached (lkN σ) s m n = reachedF σ s m n := by
  unfold cReached reachedF
  refine ite_congr rfl (fun _ => rfl) (fun c => ?_)
  have hS := h.1.2.1
  rw [show gN (lkN σ) 155 0 = gN σ 155 0 from rfl]
  exact rc_eq h ⟨by omega, by omega⟩ ⟨by omega, by omega⟩ (by omega) _ 0 0 (inR_of (by omega) (by omega)) (by omega) (by omega)
theorem me_eq {σ : Sto} (h : LW σ) {a b m : Int} (ha : stp σ a) (hb : stp σ b) (hm : mnt m) : ∀ (k : Nat) (t : Int) (q : Int × Int), 0 ≤ t → t + k ≤ gN σ 155 0 → (q.1 = -2 ∨ 0 ≤ q.1) → itr (meF_ (lkN σ) a b m) k t q = itr (mtF σ a b m) k t q ∧ ((itr (mtF σ a b m) k t q).1 = -2 ∨ 0 ≤ (itr (mtF σ a b m) k t q).1)
  | 0, _, _, _, _, hq => ⟨rfl, hq⟩
  | k + 1, t, q, h0, h1, hq => by
    have x := SO_comes h ha (t := t) ⟨h0, by omega⟩ (m := m) (by omega) (by omega)
    have y := SO_comes h hb (t := t) ⟨h0, by omega⟩ (m := m) (by omega) (by omega)
    have e : meF_ (lkN σ) a b m t q = mtF σ a b m t q := by
      unfold meF_ mtF
      rw [show soonF (lkN σ) (riddenF (lkN σ) a m 4 0) a t m = _ from x, show soonF (lkN σ) (riddenF (lkN σ) b m 4 0) b t m = _ from y]
      have z : mxI (comesF (lkN σ) a t m) (comesF (lkN σ) b t m) = if comesF (lkN σ) b t m < comesF (lkN σ) a t m then comesF (lkN σ) a t m else comesF (lkN σ) b t m := by
        unfold mxI
        omega
      rw [z]
    rw [itr_s, itr_s, e]
    refine me_eq h ha hb hm k (t + 1) _ (by omega) (by omega) ?_
    unfold mtF
    generalize (if comesF (lkN σ) b t m < comesF (lkN σ) a t m then comesF (lkN σ) a t m else comesF (lkN σ) b t m) = z
    split
    · exact Or.inr h0
    · exact hq
theorem q_meet {σ : Sto} (h : LW σ) (a b m what : Int) : cMeet (lkN σ) a b m what = meetF σ a b m what := by
  unfold cMeet meetF
  refine ite_congr rfl (fun _ => rfl) (fun c => ?_)
  have hS := h.1.2.1
  have e := me_eq h (a := a) (b := b) (m := m) ⟨by omega, by omega⟩ ⟨by omega, by omega⟩ ⟨by omega, by omega⟩ (gN σ 155 0).toNat 0 (-2, 1000000) (by omega) (by omega) (Or.inl rfl)
  rw [show gN (lkN σ) 155 0 = gN σ 155 0 from rfl, e.1]
  generalize itr (mtF σ a b m) (gN σ 155 0).toNat 0 (-2, 1000000) = q at e ⊢
  have := e.2
  unfold meR meetR
  split <;> split <;> (try split) <;> omega
theorem q_walk (σ : Sto) (a b : Int) : cWalk (lkN σ) a b = walkF σ a b := rfl
theorem q_change (σ : Sto) (a : Int) : cChange (lkN σ) a = changeF σ a := rfl
theorem q_slack (σ : Sto) (e on : Int) : cSlack (lkN σ) e on = slackQ σ e on := by
  unfold cSlack slackQ
  have b : btw (lkN σ) e on = btw σ e on := btw_eq (fun j => rfl) e on
  rw [b]
  simp only [cnc_ofB]
  rfl
