/-! How a ride unfolds: the class's legs are the reference's. -/
theorem own_le {ρ : Sto} (hW : WV ρ) {t v : Int} (ht0 : 0 ≤ t) (ht1 : t < gN ρ 155 0) (hv : v < 1000000) (c : Nat) {i : Int} (i0 : 0 ≤ i) (i1 : i < gN ρ 155 3) : ownL ρ t c i ≤ v ↔ ∃ n, n ≤ c ∧ FE ρ t v n i := by
  have hR := hW.R
  cases c with
  | zero =>
    rw [own_zero, w0_le hv]
    exact ⟨fun h => ⟨0, by omega, h⟩, fun ⟨n, n0, h⟩ => by rw [show n = 0 by omega] at h; exact h⟩
  | succ c =>
    have b := own_all hR.1 t c i
    have hk : ∀ k, 0 ≤ k → k < gN ρ 155 3 → bt (gL ρ 163 i) k = true → (prvL ρ t (c + 1) k ≤ v ↔ ∃ n, n ≤ c ∧ FM ρ t v n k) := by
      intro k k0 k1 hl
      have l := lk_in hW i0 i1 k0 (by omega) hl
      show arL ρ t c k ≤ v ↔ _
      rw [arL_le hW ht0 ht1 hv c (gN ρ 155 3 - k).toNat k k0 (by omega) (by omega)]
      have : ¬ cnc ρ k := by rw [cnc_iff k0 (by omega), l.2.1]; decide
      exact ⟨fun y => y.2, fun y => ⟨this, y⟩⟩
    have comb : ownL ρ t (c + 1) i ≤ v ↔ w0F ρ t i ≤ v ∨ ∃ k, 0 ≤ k ∧ k < gN ρ 155 3 ∧ bt (gL ρ 163 i) k = true ∧ prvL ρ t (c + 1) k ≤ v := by
      rcases b with ⟨b1, b2, b3⟩ | ⟨b1, b2, b3, b4, b5, b6, b7⟩
      · dsimp only at b2
        rw [b2]
        exact ⟨Or.inl, fun h => h.elim id (fun ⟨k, k0, k1, hl, hp⟩ => by have := b3 k k0 k1 hl; omega)⟩
      · dsimp only at b1 b2 b3 b4 b5 b6
        constructor
        · intro h
          exact Or.inr ⟨_, b1, b2, b3, by rw [b4]; exact h⟩
        · rintro (h | ⟨k, k0, k1, hl, hp⟩)
          · omega
          · have := b6 k k0 k1 hl; omega
    rw [comb, w0_le hv]
    constructor
    · rintro (h | ⟨k, k0, k1, hl, hp⟩)
      · exact ⟨0, by omega, h⟩
      · obtain ⟨n, n0, a, a0, a1, hc, hf⟩ := (hk k k0 k1 hl).mp hp
        exact ⟨n + 1, by omega, k, a, ⟨k0, hl⟩, a0, a1, hc, hf⟩
    · rintro ⟨n, n0, h⟩
      cases n with
      | zero => exact Or.inl h
      | succ n =>
        obtain ⟨k, a, ⟨k0, hl⟩, a0, a1, hc, hf⟩ := h
        exact Or.inr ⟨k, k0, by omega, hl, (hk k k0 (by omega) hl).mpr ⟨n, by omega, a, a0, a1, hc, hf⟩⟩
theorem lkB_iff {ρ : Sto} {i k : Int} (h0 : 0 ≤ k) (h1 : k < 64) : lkB ρ i k = true ↔ bt (gL ρ 163 i) k = true := by
  unfold lkB
  rw [decide_eq_true_iff, bt_one h0 h1]
theorem meF_iff {ρ : Sto} {e : Int → Bool} : ∀ (d : Nat) (i : Int), meF ρ e d i = true ↔ ∃ a, i ≤ a ∧ a < i + d ∧ chain ρ i a ∧ e a = true
  | 0, i => ⟨fun h => absurd h (by simp [meF]), fun ⟨a, a0, a1, _⟩ => by omega⟩
  | d + 1, i => by
    unfold meF
    rw [Bool.or_eq_true, Bool.and_eq_true, meF_iff d (i + 1)]
    constructor
    · rintro (h | ⟨h, a, a0, a1, hc, he⟩)
      · exact ⟨i, by omega, by omega, fun m m0 m1 => by omega, h⟩
      · refine ⟨a, by omega, by omega, fun m m0 m1 => ?_, he⟩
        by_cases z : m = i
        · rw [z]; exact h
        · exact hc m (by omega) m1
    · rintro ⟨a, a0, a1, hc, he⟩
      by_cases z : a = i
      · rw [z] at he; exact Or.inl he
      · exact Or.inr ⟨hc i (by omega) (by omega), a, by omega, by omega, fun m m0 m1 => hc m (by omega) m1, he⟩
theorem mtB_iff {ρ : Sto} {t arr : Int} {n : Nat} {i : Int} : mtB ρ t arr n i = true ↔ ∃ a, i ≤ a ∧ a < gN ρ 155 3 ∧ chain ρ i a ∧ enF ρ t arr n a = true := by
  unfold mtB
  rw [meF_iff]
  constructor
  · rintro ⟨a, a0, a1, r⟩
    exact ⟨a, a0, by omega, r⟩
  · rintro ⟨a, a0, a1, r⟩
    exact ⟨a, a0, by omega, r⟩
theorem en_FE {ρ : Sto} (hR : gN ρ 155 3 ≤ 60) {t v : Int} : ∀ (n : Nat) (i : Int), (enF ρ t v n i = true → FE ρ t v n i) ∧ (FE ρ t v n i → ¬ FE ρ t (v - 1) n i → enF ρ t v n i = true)
  | 0, i => by
    unfold enF FE wkO cmT
    rw [decide_eq_true_iff]
    exact ⟨fun h => ⟨h.1, by omega⟩, fun h g => ⟨h.1, by omega⟩⟩
  | n + 1, i => by
    have e : enF ρ t v (n + 1) i = true ↔ ∃ k, 0 ≤ k ∧ k < gN ρ 155 3 ∧ bt (gL ρ 163 i) k = true ∧ mtB ρ t v n k = true := by
      show anyZ (fun k => lkB ρ i k && mtB ρ t v n k) (gN ρ 155 3).toNat 0 = true ↔ _
      rw [anyZ_iff]
      constructor
      · rintro ⟨k, k0, k1, h⟩
        rw [Bool.and_eq_true, lkB_iff k0 (by omega)] at h
        exact ⟨k, k0, by omega, h⟩
      · rintro ⟨k, k0, k1, h⟩
        refine ⟨k, k0, by omega, ?_⟩
        rw [Bool.and_eq_true, lkB_iff k0 (by omega)]
        exact h
    rw [e]
    constructor
    · rintro ⟨k, k0, k1, hl, hm⟩
      obtain ⟨a, a0, a1, hc, he⟩ := mtB_iff.mp hm
      exact ⟨k, a, ⟨k0, hl⟩, a0, a1, hc, (en_FE hR n a).1 he⟩
    · rintro ⟨k, a, ⟨k0, hl⟩, a0, a1, hc, hf⟩ g
      refine ⟨k, k0, by omega, hl, mtB_iff.mpr ⟨a, a0, a1, hc, (en_FE hR n a).2 hf (fun z => g ⟨k, a, ⟨k0, hl⟩, a0, a1, hc, z⟩)⟩⟩
/-- where the class gets off -/
theorem ofL_char {ρ : Sto} {t : Int} {c : Nat} : ∀ (d : Nat) (i : Int), 0 ≤ i → i + d = gN ρ 155 3 → 0 < d → ¬ cnc ρ i → i ≤ ofL ρ t c i ∧ ofL ρ t c i < gN ρ 155 3 ∧ chain ρ i (ofL ρ t c i) ∧ ownL ρ t c (ofL ρ t c i) = arL ρ t c i ∧ ¬ cnc ρ (ofL ρ t c i) ∧ ∀ e, i ≤ e → e < ofL ρ t c i → arL ρ t c i < ownL ρ t c e
  | 0, _, _, _, h, _ => by omega
  | d + 1, i, h0, h1, _, hc => by
    have hl := lv_s (ρ := ρ) (t := t) (c := c) (i := i) (by omega)
    rw [if_neg hc] at hl
    by_cases q : stO ρ i ∧ arL ρ t c (i + 1) < ownL ρ t c i
    · rw [if_pos q] at hl
      have z := q.1
      have ih := ofL_char (ρ := ρ) (t := t) (c := c) d (i + 1) (by omega) (by omega) (by have := z.1.1; omega) (fun y => y z.2)
      have e1 : ofL ρ t c i = ofL ρ t c (i + 1) := by unfold ofL; rw [hl]
      have e2 : arL ρ t c i = arL ρ t c (i + 1) := by unfold arL; rw [hl]
      rw [e1, e2]
      refine ⟨by omega, ih.2.1, fun m m0 m1 => ?_, ih.2.2.2.1, ih.2.2.2.2.1, fun e e0 e1 => ?_⟩
      · by_cases y : m = i
        · rw [y]; exact stO_iff.mp z
        · exact ih.2.2.1 m (by omega) m1
      · by_cases y : e = i
        · rw [y]; exact q.2
        · exact ih.2.2.2.2.2 e (by omega) e1
    · rw [if_neg q] at hl
      have e1 : ofL ρ t c i = i := by unfold ofL; rw [hl]
      have e2 : arL ρ t c i = ownL ρ t c i := by unfold arL; rw [hl]
      rw [e1, e2]
      exact ⟨by omega, by omega, fun m m0 m1 => by omega, rfl, hc, fun e e0 e1 => by omega⟩
theorem fs2_first {p : Int → Bool} {e : Int} {n : Nat} {k x : Int} (h0 : k ≤ x) (h1 : x < k + n) (h : p x = true) (hb : ∀ y, k ≤ y → y < x → ¬ p y = true) : fs2 p e n k = x := by
  have z := fs2_spec (p := p) (e := e) n k x h0 h1 h
  by_cases y : fs2 p e n k < x
  · exact absurd z.2.2 (hb _ z.1 y)
  · omega
/-- on ride r with c changes more one comes at a, by no fewer changes, no earlier -/
def ExA (ρ : Sto) (t a : Int) (c : Nat) (r : Int) : Prop := (0 ≤ r ∧ r < gN ρ 155 3) ∧ ¬ cnc ρ r ∧ arL ρ t c r = a ∧ ∀ n, n < c → ¬ FM ρ t a n r
theorem ex_off {ρ : Sto} (hW : WV ρ) {t a : Int} (ht0 : 0 ≤ t) (ht1 : t < gN ρ 155 0) (ha : a < 1000000) {c : Nat} {r : Int} (h : ExA ρ t a c r) : (enF ρ t a c (ofL ρ t c r) = true ∧ FE ρ t a c (ofL ρ t c r) ∧ ¬ FE ρ t (a - 1) c (ofL ρ t c r)) ∧ offF ρ t a c r = ofL ρ t c r ∧ mtB ρ t a c r = true := by
  have hR := hW.R
  obtain ⟨⟨r0, r1⟩, hc, he, hf⟩ := h
  obtain ⟨o1, o2, o3, o4, o5, o6⟩ := ofL_char (ρ := ρ) (t := t) (c := c) (gN ρ 155 3 - r).toNat r r0 (by omega) (by omega) hc
  obtain ⟨n, n0, hn⟩ := (own_le hW ht0 ht1 ha c (i := ofL ρ t c r) (by omega) o2).mp (by omega)
  have en : n = c := by
    by_cases y : n = c
    · exact y
    · exact absurd ⟨_, o1, o2, o3, hn⟩ (hf n (by omega))
  rw [en] at hn
  have nf : ¬ FE ρ t (a - 1) c (ofL ρ t c r) := fun z => by
    have := (own_le hW ht0 ht1 (v := a - 1) (by omega) c (i := ofL ρ t c r) (by omega) o2).mpr ⟨c, Nat.le_refl _, z⟩
    omega
  have ee := (en_FE hR.2 c _).2 hn nf
  refine ⟨⟨ee, hn, nf⟩, ?_, mtB_iff.mpr ⟨_, o1, o2, o3, ee⟩⟩
  unfold offF
  refine fs2_first o1 (by omega) ee (fun y y0 y1 z => ?_)
  have w := (own_le hW ht0 ht1 ha c (i := y) (by omega) (by omega)).mpr ⟨c, Nat.le_refl _, (en_FE hR.2 c y).1 z⟩
  have := o6 y y0 y1
  omega
theorem ex_on {ρ : Sto} (hW : WV ρ) {t a : Int} (ht0 : 0 ≤ t) (ht1 : t < gN ρ 155 0) (ha : a < 1000000) {c : Nat} {r : Int} (h : ExA ρ t a (c + 1) r) : onF ρ t a c (ofL ρ t (c + 1) r) = onS ρ t (c + 1) (ofL ρ t (c + 1) r) ∧ ExA ρ t a c (onS ρ t (c + 1) (ofL ρ t (c + 1) r)) := by
  have hR := hW.R
  have xo := ex_off hW ht0 ht1 ha h
  obtain ⟨⟨r0, r1⟩, hc, he, hf⟩ := h
  obtain ⟨o1, o2, o3, o4, o5, o6⟩ := ofL_char (ρ := ρ) (t := t) (c := c + 1) (gN ρ 155 3 - r).toNat r r0 (by omega) (by omega) hc
  have es : onS ρ t (c + 1) (ofL ρ t (c + 1) r) = onL ρ t (c + 1) (ofL ρ t (c + 1) r) := if_neg o5
  have b := own_all hR.1 t c (ofL ρ t (c + 1) r)
  rw [es]
  rcases b with ⟨b1, b2, b3⟩ | ⟨b1, b2, b3, b4, b5, b6, b7⟩
  · exfalso
    dsimp only at b2
    exact hf 0 (by omega) ⟨_, o1, o2, o3, (w0_le ha).mp (by omega)⟩
  · dsimp only at b1 b2 b3 b4 b5 b6 b7
    have hk : arL ρ t c (onL ρ t (c + 1) (ofL ρ t (c + 1) r)) = a := by
      have : prvL ρ t (c + 1) (onL ρ t (c + 1) (ofL ρ t (c + 1) r)) = arL ρ t c (onL ρ t (c + 1) (ofL ρ t (c + 1) r)) := rfl
      omega
    have hnc : ∀ k, 0 ≤ k → k < gN ρ 155 3 → bt (gL ρ 163 (ofL ρ t (c + 1) r)) k = true → ¬ cnc ρ k := fun k k0 k1 hl => by
      rw [cnc_iff k0 (by omega), (lk_in hW (by omega) o2 k0 (by omega) hl).2.1]; decide
    have hex : ExA ρ t a c (onL ρ t (c + 1) (ofL ρ t (c + 1) r)) := by
      refine ⟨⟨b1, b2⟩, hnc _ b1 b2 b3, hk, fun n n0 hm => ?_⟩
      obtain ⟨z, z0, z1, zc, zf⟩ := hm
      exact hf (n + 1) (by omega) ⟨_, o1, o2, o3, _, z, ⟨b1, b3⟩, z0, z1, zc, zf⟩
    refine ⟨?_, hex⟩
    unfold onF
    refine fs2_first b1 (by omega) ?_ (fun y y0 y1 z => ?_)
    · rw [Bool.and_eq_true, lkB_iff b1 (by omega)]
      exact ⟨b3, (ex_off hW ht0 ht1 ha hex).2.2⟩
    · rw [Bool.and_eq_true, lkB_iff y0 (by omega)] at z
      obtain ⟨w, w0, w1, wc, wf⟩ := mtB_iff.mp z.2
      have l := (arL_le hW ht0 ht1 ha c (gN ρ 155 3 - y).toNat y y0 (by omega) (by omega)).mpr ⟨hnc y y0 (by omega) z.1, c, Nat.le_refl _, w, w0, w1, wc, (en_FE hR.2 c w).1 wf⟩
      have m : prvL ρ t (c + 1) y = arL ρ t c y := rfl
      have := b7 y y0 y1 z.1
      omega
theorem unG_eq {ρ : Sto} (hW : WV ρ) {t a : Int} (ht0 : 0 ≤ t) (ht1 : t < gN ρ 155 0) (ha : a < 1000000) : ∀ (c : Nat) (r : Int), ExA ρ t a c r → unG ρ t (c + 1) r = legsF ρ t a c r
  | 0, r, h => by
    have xo := ex_off hW ht0 ht1 ha h
    show (if 0 ≤ r then (r, ofL ρ t 0 r) :: unG ρ t 0 _ else []) = [(r, offF ρ t a 0 r)]
    rw [if_pos h.1.1, xo.2.1]
    rfl
  | c + 1, r, h => by
    have xo := ex_off hW ht0 ht1 ha h
    have xn := ex_on hW ht0 ht1 ha h
    show (if 0 ≤ r then (r, ofL ρ t (c + 1) r) :: unG ρ t (c + 1) (onS ρ t (c + 1) (ofL ρ t (c + 1) r)) else []) = (r, offF ρ t a (c + 1) r) :: legsF ρ t a c (onF ρ t a c (offF ρ t a (c + 1) r))
    rw [if_pos h.1.1, xo.2.1, xn.1, unG_eq hW ht0 ht1 ha c _ xn.2]
/-- UNFOLDED -/
theorem UL_eq {ρ : Sto} (hW : WV ρ) {s t : Int} (hs0 : 0 ≤ s) (hs1 : s < gN ρ 155 0) (ht0 : 0 ≤ t) (ht1 : t < gN ρ 155 0) {x : Rw} {wk : Int} (hx : RowP ρ s t wk x) (hc0 : 0 ≤ x.2.2.1) : ULx ρ t x = lgC ρ s t (rwC x) := by
  have hR := hW.R
  obtain ⟨x1, ⟨x2, x3, x4⟩, x5, x6, x7, x8⟩ := hx
  have hex : ExA ρ t x.2.1 x.2.2.1.toNat x.2.2.2 := by
    refine ⟨x2.1, x2.2.2, x4, fun n n0 hm => ?_⟩
    have l := (arL_le hW ht0 ht1 x1 n (gN ρ 155 3 - x.2.2.2).toNat x.2.2.2 x2.1.1 (by omega) (by have := x2.1.2; omega)).mpr ⟨x2.2.2, n, Nat.le_refl _, hm⟩
    have y := x6 (n : Int) (by omega) (by omega) _ x2 x3
    have e : AR ρ t (n : Int) x.2.2.2 = arL ρ t n x.2.2.2 := by unfold AR; rw [show ((n : Int)).toNat = n by omega]
    omega
  have z := unG_eq hW ht0 ht1 x1 x.2.2.1.toNat x.2.2.2 hex
  have eo : on0 ρ s t (rwC x) = x.2.2.2 := by
    unfold on0
    have d := dp_lf hW hs0 hs1 x2.1.1 x2.1.2
    have hl := d.1.mpr x2.2
    refine fs2_first x2.1.1 (by have := x2.1.2; omega) ?_ (fun y y0 y1 w => ?_)
    · rw [Bool.and_eq_true, decide_eq_true_iff]
      refine ⟨by rw [d.2 hl]; exact x3, ?_⟩
      exact (ex_off hW ht0 ht1 x1 hex).2.2
    · rw [Bool.and_eq_true, decide_eq_true_iff] at w
      have yr : y < gN ρ 155 3 := by have := x2.1.2; omega
      have dy := dp_lf hW hs0 hs1 y0 yr
      have w1 : lfF ρ s y = x.1 := w.1
      have hx0 : 0 ≤ x.1 := by have := x2.2.1; omega
      have fy := dy.1.mp (by omega)
      have ey := dy.2 (by omega)
      obtain ⟨b, b0, b1, bc, bf⟩ := mtB_iff.mp w.2
      have l := (arL_le hW ht0 ht1 x1 x.2.2.1.toNat (gN ρ 155 3 - y).toNat y y0 (by omega) (by omega)).mpr ⟨fy.2, x.2.2.1.toNat, Nat.le_refl _, b, b0, b1, bc, (en_FE hR.2 _ b).1 bf⟩
      have f5 := x5 y ⟨⟨y0, yr⟩, fy⟩ (by omega)
      have := f5.2 (by have := f5.1; unfold AR at *; omega)
      omega
  unfold ULx lgC
  rw [eo]
  exact z
