/-! The outlook of the class: when one who is on a ride comes to t, by so many changes, and how. -/
theorem ushr_bv (x : Int64) : (ushrL x 1).toBitVec = x.toBitVec >>> 1 := by
  unfold ushrL
  rw [show ((Int32.ofInt 1).toInt64.toUInt64 &&& Int64.toUInt64 63) = 1 from by decide]
  rfl
theorem ushr_bt {x : Int64} {j : Int} (h0 : 0 ≤ j) : bt (ushrL x 1) j = bt x (j + 1) := by
  unfold bt
  rw [ushr_bv, BitVec.getLsbD_ushiftRight, show (j + 1).toNat = 1 + j.toNat by omega]
theorem and1_z (x : Int64) : x &&& 1 = 0 ↔ bt x 0 = false := by
  rw [← Int64.toBitVec_inj, Int64.toBitVec_and]
  show x.toBitVec &&& 1#64 = 0#64 ↔ x.toBitVec.getLsbD 0 = false
  rw [and_one]
  cases x.toBitVec.getLsbD 0 <;> decide
theorem bt_hi (x : Int64) {j : Int} (h : 64 ≤ j) : bt x j = false := by
  unfold bt
  exact BitVec.getLsbD_of_ge _ _ (by omega)
/-- when one comes to t who gets off ride i and walks -/
def w0F (ρ : Sto) (t i : Int) : Int := if 1000000 ≤ gN ρ 155 (15 + 10 * gN ρ 155 (115 + 5 * i + 2) + t) then 1000000 else gN ρ 162 i + gN ρ 155 (15 + 10 * gN ρ 155 (115 + 5 * i + 2) + t)
def boF (ρ : Sto) (P : Int → Int) (i k : Int) (q : Int × Int) : Int × Int := if bt (gL ρ 163 i) k = true ∧ P k < q.2 then (k, P k) else q
/-- the first ride to be on, off ride i, by which one comes earliest, if ahead of w -/
def boN (ρ : Sto) (P : Int → Int) (i w : Int) : Int := (itr (boF ρ P i) (gN ρ 155 3).toNat 0 (-1, w)).1
def ovB (P : Int → Int) (on w : Int) : Int := if 0 ≤ on then P on else w
/-- can one stay on -/
abbrev stO (ρ : Sto) (i : Int) : Prop := nxt ρ i ∧ shrL (gL ρ 153 23) (i + 1) &&& 1 = 0
abbrev cnc (ρ : Sto) (i : Int) : Prop := shrL (gL ρ 153 23) i &&& 1 ≠ 0
/-- the arrival at best, and where one gets off -/
def alvF (ρ : Sto) (t : Int) (P : Int → Int) (on : Int → Int) : Nat → Int → Int × Int
  | 0, i => (1000000, i)
  | d + 1, i => if cnc ρ i then (1000000, i) else if stO ρ i ∧ (alvF ρ t P on d (i + 1)).1 < ovB P (on i) (w0F ρ t i) then alvF ρ t P on d (i + 1) else (ovB P (on i) (w0F ρ t i), i)
def lvF (ρ : Sto) (t : Int) : Nat → Int → Int × Int
  | 0, i => alvF ρ t (fun _ => 0) (fun _ => -1) (gN ρ 155 3 - i).toNat i
  | c + 1, i => alvF ρ t (fun k => (lvF ρ t c k).1) (fun j => boN ρ (fun k => (lvF ρ t c k).1) j (w0F ρ t j)) (gN ρ 155 3 - i).toNat i
def arL (ρ : Sto) (t : Int) (c : Nat) (i : Int) : Int := (lvF ρ t c i).1
def ofL (ρ : Sto) (t : Int) (c : Nat) (i : Int) : Int := (lvF ρ t c i).2
def prvL (ρ : Sto) (t : Int) : Nat → Int → Int
  | 0, _ => 0
  | c + 1, i => arL ρ t c i
def onL (ρ : Sto) (t : Int) : Nat → Int → Int
  | 0, _ => -1
  | c + 1, i => boN ρ (prvL ρ t (c + 1)) i (w0F ρ t i)
def onS (ρ : Sto) (t : Int) (c : Nat) (i : Int) : Int := if cnc ρ i then -1 else onL ρ t c i
theorem onL_pos {ρ : Sto} {t : Int} {c : Nat} {i : Int} (h : 0 < (c : Int)) : onL ρ t c i = boN ρ (prvL ρ t c) i (w0F ρ t i) := by
  cases c with
  | zero => exact absurd h (by decide)
  | succ c => rfl
theorem onL_zero {ρ : Sto} {t : Int} {c : Nat} {i : Int} (h : (c : Int) ≤ 0) : onL ρ t c i = -1 := by
  cases c with
  | zero => rfl
  | succ c => omega
def ownL (ρ : Sto) (t : Int) (c : Nat) (i : Int) : Int := ovB (prvL ρ t c) (onL ρ t c i) (w0F ρ t i)
theorem lv_s {ρ : Sto} {t : Int} {c : Nat} {i : Int} (h1 : i < gN ρ 155 3) : lvF ρ t c i = if cnc ρ i then (1000000, i) else if stO ρ i ∧ arL ρ t c (i + 1) < ownL ρ t c i then lvF ρ t c (i + 1) else (ownL ρ t c i, i) := by
  have e : (gN ρ 155 3 - i).toNat = (gN ρ 155 3 - (i + 1)).toNat + 1 := by omega
  cases c with
  | zero =>
    unfold arL ownL lvF
    rw [e]
    rfl
  | succ c =>
    unfold arL ownL lvF
    rw [e]
    rfl
theorem w0_rng {ρ : Sto} (hW : WV ρ) {t i : Int} (ht0 : 0 ≤ t) (ht1 : t < gN ρ 155 0) (h0 : 0 ≤ i) (h1 : i < gN ρ 155 3) : -1000 ≤ w0F ρ t i ∧ w0F ρ t i ≤ 1000000 := by
  have a := hW.ride i h0 h1
  have b := hW.walk _ t a.2.2.1.1 a.2.2.1.2 ht0 ht1
  have c := hW.tm i h0 h1
  unfold w0F
  split <;> omega
theorem bo_rng {ρ : Sto} {P : Int → Int} {i : Int} : ∀ (n : Nat) (k : Int) (q : Int × Int), 0 ≤ k → -1 ≤ q.1 → (0 ≤ q.1 → q.1 < k) → -1 ≤ (itr (boF ρ P i) n k q).1 ∧ (0 ≤ (itr (boF ρ P i) n k q).1 → (itr (boF ρ P i) n k q).1 < k + n)
  | 0, k, q, h0, h1, h2 => ⟨h1, fun h => by have := h2 h; show q.1 < k + (0 : Nat); omega⟩
  | n + 1, k, q, h0, h1, h2 => by
    rw [itr_s]
    have := bo_rng (ρ := ρ) (P := P) (i := i) n (k + 1) (boF ρ P i k q) (by omega) (by unfold boF; split <;> (try dsimp only) <;> omega) (by unfold boF; split <;> (try dsimp only) <;> omega)
    exact ⟨this.1, fun h => by have := this.2 h; omega⟩
theorem boN_rng {ρ : Sto} (hR : 0 ≤ gN ρ 155 3) {P : Int → Int} {i w : Int} : -1 ≤ boN ρ P i w ∧ (0 ≤ boN ρ P i w → boN ρ P i w < gN ρ 155 3) := by
  have := bo_rng (ρ := ρ) (P := P) (i := i) (gN ρ 155 3).toNat 0 (-1, w) (by omega) (by dsimp only; omega) (by dsimp only; omega)
  unfold boN
  exact ⟨this.1, fun h => by have := this.2 h; omega⟩
theorem onL_rng {ρ : Sto} (hR : 0 ≤ gN ρ 155 3) {t : Int} {c : Nat} {i : Int} : -1 ≤ onL ρ t c i ∧ (0 ≤ onL ρ t c i → onL ρ t c i < gN ρ 155 3) := by
  cases c with
  | zero => exact ⟨by show (-1 : Int) ≤ -1; omega, fun h => absurd h (by show ¬ (0 : Int) ≤ -1; omega)⟩
  | succ c => exact boN_rng hR
theorem alv_rng {ρ : Sto} (hW : WV ρ) {t : Int} {P : Int → Int} {on : Int → Int} (ht0 : 0 ≤ t) (ht1 : t < gN ρ 155 0) (hP : ∀ i, 0 ≤ i → i < gN ρ 155 3 → 0 ≤ on i → -1000 ≤ P (on i) ∧ P (on i) ≤ 1000000) : ∀ (d : Nat) (i : Int), 0 ≤ i → i + d = gN ρ 155 3 → (-1000 ≤ (alvF ρ t P on d i).1 ∧ (alvF ρ t P on d i).1 ≤ 1000000) ∧ i ≤ (alvF ρ t P on d i).2 ∧ (0 < d → (alvF ρ t P on d i).2 < gN ρ 155 3)
  | 0, i, h0, h1 => ⟨⟨by show (-1000 : Int) ≤ 1000000; omega, by show (1000000 : Int) ≤ 1000000; omega⟩, Int.le_refl _, fun h => absurd h (by omega)⟩
  | d + 1, i, h0, h1 => by
    have ih := alv_rng hW (on := on) ht0 ht1 hP d (i + 1) (by omega) (by omega)
    have a := w0_rng hW ht0 ht1 h0 (show i < gN ρ 155 3 by omega)
    have b : -1000 ≤ ovB P (on i) (w0F ρ t i) ∧ ovB P (on i) (w0F ρ t i) ≤ 1000000 := by
      unfold ovB
      split
      · exact hP i h0 (by omega) (by assumption)
      · exact a
    unfold alvF
    split
    · dsimp only; omega
    · split
      · rename_i hc
        have h2 := hc.1.1.1
        exact ⟨ih.1, by omega, fun _ => ih.2.2 (by omega)⟩
      · dsimp only; omega
theorem lv_rng {ρ : Sto} (hW : WV ρ) {t : Int} (ht0 : 0 ≤ t) (ht1 : t < gN ρ 155 0) : ∀ (c : Nat) (i : Int), 0 ≤ i → i < gN ρ 155 3 → (-1000 ≤ arL ρ t c i ∧ arL ρ t c i ≤ 1000000) ∧ i ≤ ofL ρ t c i ∧ ofL ρ t c i < gN ρ 155 3
  | 0, i, h0, h1 => by
    have := alv_rng hW (P := fun _ => 0) (on := fun _ => -1) ht0 ht1 (fun j _ _ h => absurd h (by decide)) (gN ρ 155 3 - i).toNat i h0 (by omega)
    exact ⟨this.1, this.2.1, this.2.2 (by omega)⟩
  | c + 1, i, h0, h1 => by
    have hR := hW.R
    have ih := lv_rng hW ht0 ht1 c
    have := alv_rng hW (P := fun k => (lvF ρ t c k).1) (on := fun j => boN ρ (fun k => (lvF ρ t c k).1) j (w0F ρ t j)) ht0 ht1 (fun j _ _ h => (ih _ h ((boN_rng hR.1).2 h)).1) (gN ρ 155 3 - i).toNat i h0 (by omega)
    exact ⟨this.1, this.2.1, this.2.2 (by omega)⟩
theorem prv_rng {ρ : Sto} (hW : WV ρ) {t : Int} (ht0 : 0 ≤ t) (ht1 : t < gN ρ 155 0) {c : Nat} {i : Int} (h0 : 0 ≤ i) (h1 : i < gN ρ 155 3) : -1000 ≤ prvL ρ t c i ∧ prvL ρ t c i ≤ 1000000 := by
  cases c with
  | zero => exact ⟨by show (-1000 : Int) ≤ 0; omega, by show (0 : Int) ≤ 1000000; omega⟩
  | succ c => exact (lv_rng hW ht0 ht1 c i h0 h1).1
theorem own_rng {ρ : Sto} (hW : WV ρ) {t : Int} (ht0 : 0 ≤ t) (ht1 : t < gN ρ 155 0) {c : Nat} {i : Int} (h0 : 0 ≤ i) (h1 : i < gN ρ 155 3) : -1000 ≤ ownL ρ t c i ∧ ownL ρ t c i ≤ 1000000 := by
  have hR := hW.R
  unfold ownL ovB
  split
  · rename_i h
    exact prv_rng hW ht0 ht1 h ((onL_rng hR.1).2 h)
  · exact w0_rng hW ht0 ht1 h0 h1
/-- what bestOnward has found among the rides below k -/
def BoI (ρ : Sto) (P : Int → Int) (i w k : Int) (q : Int × Int) : Prop := (q.1 = -1 ∧ q.2 = w ∧ ∀ j, 0 ≤ j → j < k → bt (gL ρ 163 i) j = true → w ≤ P j) ∨ (0 ≤ q.1 ∧ q.1 < k ∧ bt (gL ρ 163 i) q.1 = true ∧ P q.1 = q.2 ∧ q.2 < w ∧ (∀ j, 0 ≤ j → j < k → bt (gL ρ 163 i) j = true → q.2 ≤ P j) ∧ ∀ j, 0 ≤ j → j < q.1 → bt (gL ρ 163 i) j = true → q.2 < P j)
theorem bo_step {ρ : Sto} {P : Int → Int} {i w k : Int} {q : Int × Int} (h0 : 0 ≤ k) (h : BoI ρ P i w k q) : BoI ρ P i w (k + 1) (boF ρ P i k q) := by
  unfold boF
  by_cases hc : bt (gL ρ 163 i) k = true ∧ P k < q.2
  · rw [if_pos hc]
    right
    refine ⟨h0, by dsimp only; omega, hc.1, rfl, ?_, fun j a b c => ?_, fun j a b c => ?_⟩
    · rcases h with h | h
      · dsimp only; omega
      · dsimp only; omega
    · dsimp only
      by_cases e : j = k
      · rw [e]; exact Int.le_refl _
      · rcases h with h | h
        · have := h.2.2 j a (by omega) c; omega
        · have := h.2.2.2.2.2.1 j a (by omega) c; omega
    · dsimp only at b ⊢
      rcases h with h | h
      · have := h.2.2 j a (by omega) c; omega
      · have := h.2.2.2.2.2.1 j a (by omega) c; omega
  · rw [if_neg hc]
    rcases h with h | h
    · left
      refine ⟨h.1, h.2.1, fun j a b c => ?_⟩
      by_cases e : j = k
      · subst e
        have : ¬ P j < q.2 := fun z => hc ⟨c, z⟩
        omega
      · exact h.2.2 j a (by omega) c
    · right
      refine ⟨h.1, by omega, h.2.2.1, h.2.2.2.1, h.2.2.2.2.1, fun j a b c => ?_, h.2.2.2.2.2.2⟩
      by_cases e : j = k
      · subst e
        have : ¬ P j < q.2 := fun z => hc ⟨c, z⟩
        omega
      · exact h.2.2.2.2.2.1 j a (by omega) c
theorem bo_inv {ρ : Sto} {P : Int → Int} {i w : Int} : ∀ (n : Nat) (k : Int) (q : Int × Int), 0 ≤ k → BoI ρ P i w k q → BoI ρ P i w (k + n) (itr (boF ρ P i) n k q)
  | 0, k, q, _, h => by rw [show k + ((0 : Nat) : Int) = k by omega]; exact h
  | n + 1, k, q, h0, h => by
    rw [itr_s, show k + ((n + 1 : Nat) : Int) = k + 1 + n by omega]
    exact bo_inv n (k + 1) _ (by omega) (bo_step h0 h)
theorem bo_all {ρ : Sto} (hR : 0 ≤ gN ρ 155 3) (P : Int → Int) (i w : Int) : BoI ρ P i w (gN ρ 155 3) (boN ρ P i w, ovB P (boN ρ P i w) w) := by
  have h := bo_inv (ρ := ρ) (P := P) (i := i) (w := w) (gN ρ 155 3).toNat 0 (-1, w) (by omega) (Or.inl ⟨rfl, rfl, fun j a b _ => by omega⟩)
  rw [show 0 + ((gN ρ 155 3).toNat : Int) = gN ρ 155 3 by omega] at h
  have e : itr (boF ρ P i) (gN ρ 155 3).toNat 0 (-1, w) = (boN ρ P i w, ovB P (boN ρ P i w) w) := by
    apply Prod.ext
    · rfl
    · show _ = ovB P (boN ρ P i w) w
      unfold ovB boN
      rcases h with h | h
      · rw [if_neg (by omega)]; exact h.2.1
      · rw [if_pos h.1]; exact h.2.2.2.1.symm
  rw [e] at h
  exact h
theorem own_all {ρ : Sto} (hR : 0 ≤ gN ρ 155 3) (t : Int) (c : Nat) (i : Int) : BoI ρ (prvL ρ t (c + 1)) i (w0F ρ t i) (gN ρ 155 3) (onL ρ t (c + 1) i, ownL ρ t (c + 1) i) := bo_all hR _ _ _
theorem own_zero {ρ : Sto} {t i : Int} : ownL ρ t 0 i = w0F ρ t i := by
  unfold ownL ovB
  exact if_neg (by show ¬ (0 : Int) ≤ -1; omega)
theorem own_w0 {ρ : Sto} (hR : 0 ≤ gN ρ 155 3) {t : Int} {c : Nat} {i : Int} : ownL ρ t c i ≤ w0F ρ t i := by
  cases c with
  | zero => rw [own_zero]; exact Int.le_refl _
  | succ c =>
    rcases own_all hR t c i with h | h
    · exact Int.le_of_eq h.2.1
    · exact Int.le_of_lt h.2.2.2.2.1
theorem own_bt {ρ : Sto} (hR : 0 ≤ gN ρ 155 3) {t : Int} {c : Nat} {i k : Int} (h0 : 0 ≤ k) (h1 : k < gN ρ 155 3) (hb : bt (gL ρ 163 i) k = true) : ownL ρ t (c + 1) i ≤ arL ρ t c k := by
  rcases own_all hR t c i with h | h
  · have := h.2.2 k h0 h1 hb
    have e : ownL ρ t (c + 1) i = w0F ρ t i := h.2.1
    rw [e]; exact this
  · exact h.2.2.2.2.2.1 k h0 h1 hb
theorem own_mono {ρ : Sto} (hR : 0 ≤ gN ρ 155 3) {t : Int} {c : Nat} {i : Int} (h : ∀ k, 0 ≤ k → k < gN ρ 155 3 → prvL ρ t (c + 2) k ≤ prvL ρ t (c + 1) k) : ownL ρ t (c + 2) i ≤ ownL ρ t (c + 1) i := by
  rcases own_all hR t c i with q | q
  · have e : ownL ρ t (c + 1) i = w0F ρ t i := q.2.1
    rw [e]; exact own_w0 hR
  · have a := own_bt (c := c + 1) (t := t) hR q.1 q.2.1 q.2.2.1
    have b := h _ q.1 q.2.1
    have e : prvL ρ t (c + 1) (onL ρ t (c + 1) i) = ownL ρ t (c + 1) i := q.2.2.2.1
    have e2 : arL ρ t (c + 1) (onL ρ t (c + 1) i) = prvL ρ t (c + 2) (onL ρ t (c + 1) i) := rfl
    dsimp only at a b
    show ownL ρ t (c + 1 + 1) i ≤ _
    omega
theorem bo_no {ρ : Sto} {P : Int → Int} {i : Int} : ∀ (n : Nat) (k : Int) (q : Int × Int), (∀ j, k ≤ j → j < k + n → bt (gL ρ 163 i) j = false) → itr (boF ρ P i) n k q = q
  | 0, _, _, _ => rfl
  | n + 1, k, q, h => by
    rw [itr_s, show boF ρ P i k q = q from if_neg (fun z => by have := h k (by omega) (by omega); rw [this] at z; exact absurd z.1 (by decide))]
    exact bo_no n (k + 1) q (fun j a b => h j (by omega) (by omega))
theorem boN_congr {ρ : Sto} {P P' : Int → Int} {i w : Int} (hR : 0 ≤ gN ρ 155 3) (h : ∀ k, 0 ≤ k → k < gN ρ 155 3 → P k = P' k) : boN ρ P i w = boN ρ P' i w := by
  unfold boN
  rw [itr_congr _ _ _ (fun k a b x => show boF ρ P i k x = boF ρ P' i k x by unfold boF; rw [h k a (by omega)])]
/-- was a change more of use to somebody -/
abbrev betF (ρ : Sto) (t : Int) (c : Nat) : Prop := c = 0 ∨ anyZ (fun r => decide (arL ρ t c r < prvL ρ t c r)) (gN ρ 155 3).toNat 0 = true
theorem anyZ_not {p : Int → Bool} : ∀ (n : Nat) (k : Int), anyZ p n k = false → ∀ x, k ≤ x → x < k + n → p x = false
  | 0, k, _, x, h0, h1 => by omega
  | n + 1, k, h, x, h0, h1 => by
    unfold anyZ at h
    rw [Bool.or_eq_false_iff] at h
    by_cases e : x = k
    · rw [e]; exact h.1
    · exact anyZ_not n (k + 1) h.2 x (by omega) (by omega)
theorem ar_le {ρ : Sto} (hW : WV ρ) {t : Int} : ∀ (c : Nat) (d : Nat) (i : Int), 0 ≤ i → i + d = gN ρ 155 3 → 0 < d → (∀ k, 0 ≤ k → k < gN ρ 155 3 → ownL ρ t (c + 1) k ≤ ownL ρ t c k) → arL ρ t (c + 1) i ≤ arL ρ t c i := by
  intro c d
  induction d with
  | zero => intro i _ _ h; exact absurd h (by omega)
  | succ d ih =>
    intro i h0 h1 _ hO
    have ho := hO i h0 (by omega)
    have l1 := lv_s (ρ := ρ) (t := t) (c := c + 1) (show i < gN ρ 155 3 by omega)
    have l0 := lv_s (ρ := ρ) (t := t) (c := c) (show i < gN ρ 155 3 by omega)
    unfold arL
    rw [l1, l0]
    by_cases hc : cnc ρ i
    · rw [if_pos hc, if_pos hc]; exact Int.le_refl _
    · rw [if_neg hc, if_neg hc]
      by_cases hs : stO ρ i
      · have h2 := hs.1.1
        have ihh := ih (i + 1) (by omega) (by omega) (by omega) hO
        by_cases a : arL ρ t (c + 1) (i + 1) < ownL ρ t (c + 1) i
        · rw [if_pos ⟨hs, a⟩]
          by_cases b : arL ρ t c (i + 1) < ownL ρ t c i
          · rw [if_pos ⟨hs, b⟩]; exact ihh
          · rw [if_neg (fun z => b z.2)]
            show arL ρ t (c + 1) (i + 1) ≤ ownL ρ t c i
            omega
        · rw [if_neg (fun z => a z.2)]
          by_cases b : arL ρ t c (i + 1) < ownL ρ t c i
          · rw [if_pos ⟨hs, b⟩]
            show ownL ρ t (c + 1) i ≤ arL ρ t c (i + 1)
            omega
          · rw [if_neg (fun z => b z.2)]; exact ho
      · rw [if_neg (fun z => hs z.1), if_neg (fun z => hs z.1)]; exact ho
theorem ar_mono {ρ : Sto} (hW : WV ρ) {t : Int} : ∀ (c : Nat) (i : Int), 0 ≤ i → i < gN ρ 155 3 → arL ρ t (c + 1) i ≤ arL ρ t c i
  | 0, i, h0, h1 => ar_le hW 0 (gN ρ 155 3 - i).toNat i h0 (by omega) (by omega) (fun k _ _ => by rw [own_zero]; exact own_w0 hW.R.1)
  | c + 1, i, h0, h1 => ar_le hW (c + 1) (gN ρ 155 3 - i).toNat i h0 (by omega) (by omega) (fun k _ _ => own_mono hW.R.1 (fun j a b => ar_mono hW c j a b))
/-- where a change more was of no use, all levels behind are alike -/
theorem lv_same {ρ : Sto} (hW : WV ρ) {t : Int} {c : Nat} (h : ∀ k, 0 ≤ k → k < gN ρ 155 3 → arL ρ t (c + 1) k = arL ρ t c k) : ∀ (d : Nat) (i : Int), 0 ≤ i → i + d = gN ρ 155 3 → 0 < d → lvF ρ t (c + 2) i = lvF ρ t (c + 1) i := by
  have hR := hW.R
  intro d
  induction d with
  | zero => intro i _ _ h; exact absurd h (by omega)
  | succ d ih =>
    intro i h0 h1 _
    have eo : ∀ j, onL ρ t (c + 2) j = onL ρ t (c + 1) j := fun j => boN_congr hR.1 h
    have ew : ownL ρ t (c + 2) i = ownL ρ t (c + 1) i := by
      unfold ownL ovB
      rw [eo]
      split
      · rename_i z
        exact h _ z ((onL_rng hR.1).2 z)
      · rfl
    rw [lv_s (c := c + 2) (show i < gN ρ 155 3 by omega), lv_s (c := c + 1) (show i < gN ρ 155 3 by omega), ew]
    by_cases hs : stO ρ i
    · have h2 := hs.1.1
      have e := ih (i + 1) (by omega) (by omega) (by omega)
      unfold arL
      rw [e]
    · rw [if_neg (fun z : stO ρ i ∧ _ => hs z.1), if_neg (fun z : stO ρ i ∧ _ => hs z.1)]
/-- the rows of t hold levels below m -/
def OtR (σ ρ : Sto) (t : Int) (m : Nat) : Prop := ∀ (c : Nat) (i : Int), c < m → 0 ≤ i → i < gN ρ 155 3 → gN σ (43 + t.toNat) ((c : Int) * 60 + i) = arL ρ t c i ∧ ((∀ x, x < c → betF ρ t x) → gN σ (53 + t.toNat) ((c : Int) * 60 + i) = ofL ρ t c i ∧ gN σ (63 + t.toNat) ((c : Int) * 60 + i) = onS ρ t c i)
theorem OtR.of {σ u ρ : Sto} {t : Int} {m : Nat} (h : OtR σ ρ t m) (h2 : ∀ (c : Nat) (j : Int), c = 43 + t.toNat ∨ c = 53 + t.toNat ∨ c = 63 + t.toNat → j < (m : Int) * 60 → gN u c j = gN σ c j) (hR : gN ρ 155 3 ≤ 60) : OtR u ρ t m := fun c i q0 q1 q2 => by
  rw [h2 _ _ (by omega) (by omega), h2 _ _ (by omega) (by omega), h2 _ _ (by omega) (by omega)]
  exact h c i q0 q1 q2
/-- what the class's queries rest on -/
def CQ (σ ρ : Sto) (N : Nat) : Prop := gR σ 0 12 = some N ∧ NetR σ N ρ ∧ TmR σ N 7 ρ ∧ (gN σ 7 2 = 1 → LkR σ 7 ρ) ∧ ∀ t : Int, 0 ≤ t → t < 10 → (gN σ 42 t = 0 ∨ gN σ 42 t = 1) ∧ (t < gN ρ 155 0 → gN σ 42 t = 1 → OtR σ ρ t 5)
theorem CQ.c {σ ρ : Sto} {N : Nat} (h : CQ σ ρ N) : gR σ 0 12 = some N := h.1
theorem CQ.n {σ ρ : Sto} {N : Nat} (h : CQ σ ρ N) : NetR σ N ρ := h.2.1
theorem CQ.t {σ ρ : Sto} {N : Nat} (h : CQ σ ρ N) : TmR σ N 7 ρ := h.2.2.1
theorem CQ.m {σ ρ : Sto} {N : Nat} (h : CQ σ ρ N) : gN σ 7 2 = 1 → LkR σ 7 ρ := h.2.2.2.1
theorem CQ.o {σ ρ : Sto} {N : Nat} (h : CQ σ ρ N) : ∀ t : Int, 0 ≤ t → t < 10 → (gN σ 42 t = 0 ∨ gN σ 42 t = 1) ∧ (t < gN ρ 155 0 → gN σ 42 t = 1 → OtR σ ρ t 5) := h.2.2.2.2
/-- what the class's queries may change -/
abbrev pCq (c : Nat) (j : Int) : Prop := (c = 7 ∧ j = 2) ∨ (10 ≤ c ∧ c ≤ 14) ∨ (42 ≤ c ∧ c ≤ 85) ∨ c = 89 ∨ c = 90
abbrev pLok (c : Nat) (j : Int) : Prop := (c = 7 ∧ j = 2) ∨ c = 10 ∨ (42 ≤ c ∧ c ≤ 72)
/-- cells of the profile, of legs, of a check and a count: no outlook, no links of now -/
abbrev pAft (c : Nat) (_ : Int) : Prop := (11 ≤ c ∧ c ≤ 14) ∨ (73 ≤ c ∧ c ≤ 85) ∨ c = 89 ∨ c = 90
theorem CQ.aft {σ u ρ : Sto} {N : Nat} (h : CQ σ ρ N) (hS : gN ρ 155 0 ≤ 10) (hR : gN ρ 155 3 ≤ 60) (hF : Fg pAft σ u) : CQ u ρ N := by
  have hk := h.n.k
  refine ⟨by rw [hF.r (by unfold pAft; omega)]; exact h.c, h.n.of hS (fun c j q0 q1 => hF.n (by unfold pAft; omega)), h.t.of (hF.r (by unfold pAft; omega)) (hF.l (by unfold pAft; omega)) (fun j => hF.n (by unfold pAft; omega)) (fun j => hF.n (by unfold pAft; omega)) (Or.inl (hF.n (by unfold pAft; omega))), fun q i a b => ?_, fun t a b => ?_⟩
  · rw [hF.l (by unfold pAft; omega)]
    exact h.m (by rw [← hF.n (c := 7) (j := 2) (by unfold pAft; omega)]; exact q) i a b
  · rw [hF.n (by unfold pAft; omega)]
    have o := h.o t a b
    exact ⟨o.1, fun z y => (o.2 z y).of (fun c j q _ => hF.n (by unfold pAft; omega)) hR⟩
theorem pLok_Q {c : Nat} {j : Int} (h : pLok c j) : pCq c j := by unfold pLok at h; unfold pCq; omega
theorem pAft_Q {c : Nat} {j : Int} (h : pAft c j) : pCq c j := by unfold pAft at h; unfold pCq; omega
