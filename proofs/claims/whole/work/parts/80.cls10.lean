/-! The class's profile: departures in their order, rows, legs. -/
def dpF (ρ : Sto) (s r : Int) : Int := gN ρ 161 r - gN ρ 155 (15 + 10 * s + gN ρ 155 (115 + 5 * r + 1))
theorem dp_rng {ρ : Sto} (hW : WV ρ) {s r : Int} (hs0 : 0 ≤ s) (hs1 : s < gN ρ 155 0) (h0 : 0 ≤ r) (h1 : r < gN ρ 155 3) : -1001000 ≤ dpF ρ s r ∧ dpF ρ s r ≤ 4000 := by
  have a := hW.ride r h0 h1
  have b := hW.walk s _ hs0 hs1 a.2.1.1 a.2.1.2
  have c := hW.tm r h0 h1
  unfold dpF
  omega
def oiF (ρ : Sto) (s r : Int) (K : List Int) : List Int := if 0 ≤ dpF ρ s r ∧ ¬ cnc ρ r then insK (fun y => decide (dpF ρ s r < dpF ρ s y)) r K else K
/-- the rides one from s can be on first, by when one has to leave -/
def ordL (ρ : Sto) (s : Int) : List Int := itr (oiF ρ s) (gN ρ 155 3).toNat 0 []
def OrR (u ρ : Sto) (s : Int) (K : List Int) : Prop := gN u 73 7 = K.length ∧ ∀ (k : Nat) (x : Int), K[k]? = some x → gN u 78 k = x ∧ gN u 79 x = dpF ρ s x
def OGap (u : Sto) (K : List Int) (k : Nat) : Prop := ∀ (j : Nat) (x : Int), K[j]? = some x → gN u 78 (if j < k then (j : Int) else j + 1) = x
abbrev pAr (c : Nat) (j : Int) : Prop := c = 78 ∨ c = 79 ∨ (c = 73 ∧ j = 7)
theorem OGap.step {u : Sto} {K : List Int} {n : Nat} {x : Int} (h : OGap u K (n + 1)) (hx : K[n]? = some x) (hi : inR x) : OGap (sN u 78 ((n : Int) + 1) x) K n := by
  intro j y hj
  rw [gN_sN]
  by_cases e : j = n
  · subst e
    rw [hx] at hj
    cases hj
    rw [if_neg (Nat.lt_irrefl _), if_pos ⟨rfl, rfl⟩, nrm_of hi]
  · have := h j y hj
    by_cases q : j < n
    · rw [if_pos q, if_neg (by omega)]
      rw [if_pos (by omega)] at this
      exact this
    · rw [if_neg q, if_neg (by omega)]
      rw [if_neg (by omega)] at this
      exact this
theorem OrR.fill {u ρ : Sto} {s : Int} {K : List Int} {n : Nat} {r m v : Int} (hG : OGap u K n) (hn : n ≤ K.length) (hL : ∀ (k : Nat) (x : Int), K[k]? = some x → gN u 79 x = dpF ρ s x ∧ x ≠ r) (hr : inR r) (hm : m = dpF ρ s r) (hmi : inR m) (hv : v = K.length + 1) (hK : (K.length : Int) ≤ 60) : OrR (sN (sN (sN u 78 (n : Int) r) 79 r m) 73 7 v) ρ s (K.take n ++ r :: K.drop n) := by
  refine ⟨?_, fun k x hk => ?_⟩
  · rw [gN_sN, if_pos ⟨rfl, rfl⟩, hv, nrm_of (inR_of (by omega) (by omega))]
    simp
    omega
  · have e78 : gN (sN (sN (sN u 78 (n : Int) r) 79 r m) 73 7 v) 78 k = if k = n then r else gN u 78 k := by
      rw [gN_sN, if_neg (by omega), gN_sN, if_neg (by omega), gN_sN]
      by_cases h : k = n
      · rw [if_pos ⟨rfl, by omega⟩, if_pos h, nrm_of hr]
      · rw [if_neg (by omega), if_neg h]
    have e79 : gN (sN (sN (sN u 78 (n : Int) r) 79 r m) 73 7 v) 79 x = if x = r then m else gN u 79 x := by
      rw [gN_sN, if_neg (by omega), gN_sN]
      by_cases h : x = r
      · rw [if_pos ⟨rfl, h⟩, if_pos h, nrm_of hmi]
      · rw [if_neg (by omega), if_neg h, gN_sN, if_neg (by omega)]
    rw [e78, e79]
    by_cases h : k = n
    · subst h
      rw [List.getElem?_append_right (by simp; omega)] at hk
      simp [Nat.min_eq_left hn] at hk
      rw [if_pos rfl, if_pos hk.symm, hm, hk]
      exact ⟨rfl, rfl⟩
    · rw [if_neg h]
      have hold : ∀ j, K[j]? = some x → (if x = r then m else gN u 79 x) = dpF ρ s x := fun j hj => by
        rw [if_neg (hL j x hj).2]
        exact (hL j x hj).1
      rcases Nat.lt_or_ge k n with q | q
      · rw [List.getElem?_append_left (by simp; omega), List.getElem?_take_of_lt q] at hk
        have := hG k x hk
        rw [if_pos q] at this
        exact ⟨this, hold k hk⟩
      · obtain ⟨d, rfl⟩ : ∃ d, k = n + 1 + d := ⟨k - n - 1, by omega⟩
        rw [List.getElem?_append_right (by simp; omega)] at hk
        simp only [List.length_take, Nat.min_eq_left hn] at hk
        rw [show n + 1 + d - n = d + 1 by omega, List.getElem?_cons_succ, List.getElem?_drop] at hk
        have := hG (n + d) x hk
        rw [if_neg (by omega)] at this
        rw [show ((n + 1 + d : Nat) : Int) = ((n + d : Nat) : Int) + 1 by omega]
        exact ⟨this, hold _ hk⟩
theorem OrR.of {u v ρ : Sto} {s : Int} {K : List Int} (h : OrR u ρ s K) (h1 : gN v 73 7 = gN u 73 7) (h2 : ∀ j, gN v 78 j = gN u 78 j) (h3 : ∀ j, gN v 79 j = gN u 79 j) : OrR v ρ s K := ⟨h1.trans h.1, fun k x hk => by rw [h2, h3]; exact h.2 k x hk⟩
theorem OrR.at {u ρ : Sto} {s : Int} {K : List Int} (h : OrR u ρ s K) {k : Int} (h0 : 0 ≤ k) (h1 : k < K.length) : gN u 78 k = K.getD k.toNat 0 ∧ gN u 79 (K.getD k.toNat 0) = dpF ρ s (K.getD k.toNat 0) ∧ K.getD k.toNat 0 ∈ K := by
  have hk : k.toNat < K.length := by omega
  have := h.2 k.toNat (K[k.toNat]) (List.getElem?_eq_getElem hk)
  rw [List.getD_eq_getElem?_getD, List.getElem?_eq_getElem hk]
  rw [show ((k.toNat : Nat) : Int) = k by omega] at this
  exact ⟨this.1, this.2, List.getElem_mem _⟩
theorem oi_ok {ρ : Sto} {s : Int} : ∀ (n : Nat) (r : Int) (K : List Int), 0 ≤ r → (∀ x ∈ K, (0 ≤ x ∧ x < r) ∧ 0 ≤ dpF ρ s x ∧ ¬ cnc ρ x) → (K.length : Int) ≤ r → (∀ x ∈ itr (oiF ρ s) n r K, (0 ≤ x ∧ x < r + n) ∧ 0 ≤ dpF ρ s x ∧ ¬ cnc ρ x) ∧ ((itr (oiF ρ s) n r K).length : Int) ≤ r + n
  | 0, r, K, h0, h1, h2 => ⟨fun x hx => by have := h1 x hx; exact ⟨by omega, this.2⟩, by show (K.length : Int) ≤ r + (0 : Nat); omega⟩
  | n + 1, r, K, h0, h1, h2 => by
    rw [itr_s]
    have := oi_ok (ρ := ρ) (s := s) n (r + 1) (oiF ρ s r K) (by omega) (fun x hx => by
      unfold oiF at hx
      split at hx
      · rename_i hc
        rcases insK_mem hx with q | q
        · rw [q]; exact ⟨by omega, hc⟩
        · have := h1 x q; exact ⟨by omega, this.2⟩
      · have := h1 x hx; exact ⟨by omega, this.2⟩) (by
      unfold oiF
      split
      · rw [insK_len]; omega
      · omega)
    exact ⟨fun x hx => by have := this.1 x hx; exact ⟨by omega, this.2⟩, by have := this.2; omega⟩
theorem ord_ok {ρ : Sto} (hR : 0 ≤ gN ρ 155 3) (s : Int) : (∀ x ∈ ordL ρ s, (0 ≤ x ∧ x < gN ρ 155 3) ∧ 0 ≤ dpF ρ s x ∧ ¬ cnc ρ x) ∧ ((ordL ρ s).length : Int) ≤ gN ρ 155 3 := by
  have := oi_ok (ρ := ρ) (s := s) (gN ρ 155 3).toNat 0 [] (by omega) (by simp) (by simp)
  exact ⟨fun x hx => by have := this.1 x hx; exact ⟨by omega, this.2⟩, by have := this.2; unfold ordL; omega⟩
/-- by how many changes, as a number -/
def AR (ρ : Sto) (t c r : Int) : Int := arL ρ t c.toNat r
theorem OtR.at {σ ρ : Sto} {t : Int} (h : OtR σ ρ t 5) {c r : Int} (h0 : 0 ≤ c) (h1 : c ≤ 4) (h2 : 0 ≤ r) (h3 : r < gN ρ 155 3) : gN σ (43 + t.toNat) (c * 60 + r) = AR ρ t c r := by
  have := (h c.toNat r (by omega) h2 h3).1
  rw [show ((c.toNat : Nat) : Int) = c by omega] at this
  exact this
theorem AR_rng {ρ : Sto} (hW : WV ρ) {t : Int} (ht0 : 0 ≤ t) (ht1 : t < gN ρ 155 0) (c : Int) {r : Int} (h0 : 0 ≤ r) (h1 : r < gN ρ 155 3) : -1000 ≤ AR ρ t c r ∧ AR ρ t c r ≤ 1000000 := (lv_rng hW ht0 ht1 c.toNat r h0 h1).1
/-- a row: departure, arrival, changes, the first ride -/
abbrev Rw : Type := Int × Int × Int × Int
def RwR (u : Sto) (L : List Rw) : Prop := gN u 73 2 = 300 - L.length ∧ ∀ (k : Nat) (q : Rw), L[k]? = some q → gN u 74 (300 - L.length + k) = q.1 ∧ gN u 75 (300 - L.length + k) = q.2.1 ∧ gN u 76 (300 - L.length + k) = q.2.2.1 ∧ gN u 77 (300 - L.length + k) = q.2.2.2
theorem RwR.of {u v : Sto} {L : List Rw} (h : RwR u L) (h1 : gN v 73 2 = gN u 73 2) (h2 : ∀ (c : Nat) (j : Int), 74 ≤ c → c ≤ 77 → gN v c j = gN u c j) : RwR v L := ⟨h1.trans h.1, fun k q hk => by rw [h2 74 _ (by omega) (by omega), h2 75 _ (by omega) (by omega), h2 76 _ (by omega) (by omega), h2 77 _ (by omega) (by omega)]; exact h.2 k q hk⟩
theorem RwR.put {u : Sto} {L : List Rw} {a b c d : Int} (h : RwR u L) (hl : (L.length : Int) < 300) (ha : inR a) (hb : inR b) (hc : inR c) (hd : inR d) : RwR (sN (sN (sN (sN (sN u 73 2 (gN u 73 2 - 1)) 74 (gN u 73 2 - 1) a) 75 (gN u 73 2 - 1) b) 76 (gN u 73 2 - 1) c) 77 (gN u 73 2 - 1) d) ((a, b, c, d) :: L) := by
  have h1 := h.1
  rw [h1]
  refine ⟨?_, fun k q hk => ?_⟩
  · rw [gN_sN, if_neg (by omega), gN_sN, if_neg (by omega), gN_sN, if_neg (by omega), gN_sN, if_neg (by omega), gN_sN, if_pos ⟨rfl, rfl⟩, nrm_of (inR_of (by omega) (by omega)), List.length_cons]
    omega
  · cases k with
    | zero =>
      cases hk
      rw [List.length_cons, show (300 : Int) - ((L.length + 1 : Nat) : Int) + ((0 : Nat) : Int) = 300 - L.length - 1 by omega]
      simp [gN_sN, nrm_of ha, nrm_of hb, nrm_of hc, nrm_of hd]
    | succ k =>
      have := h.2 k q (by simpa using hk)
      rw [List.length_cons, show (300 : Int) - ((L.length + 1 : Nat) : Int) + ((k + 1 : Nat) : Int) = 300 - L.length + k by omega]
      have e : ∀ (x : Nat), 74 ≤ x → x ≤ 77 → gN (sN (sN (sN (sN (sN u 73 2 (300 - ↑L.length - 1)) 74 (300 - ↑L.length - 1) a) 75 (300 - ↑L.length - 1) b) 76 (300 - ↑L.length - 1) c) 77 (300 - ↑L.length - 1) d) x (300 - L.length + k) = gN u x (300 - L.length + k) := fun x _ _ => by
        rw [gN_sN, if_neg (by omega), gN_sN, if_neg (by omega), gN_sN, if_neg (by omega), gN_sN, if_neg (by omega), gN_sN, if_neg (by omega)]
      rw [e 74 (by omega) (by omega), e 75 (by omega) (by omega), e 76 (by omega) (by omega), e 77 (by omega) (by omega)]
      exact this
/-- the least arrivals by changes of one departure, their rides, the least of all later ones, the rows -/
abbrev Mks : Type := (Int → Int) × (Int → Int) × (Int → Int) × List Rw
def prF (ls lt lr : Int → Int) (mi wk c : Int) (q : Int × List Rw) : Int × List Rw := (if ls c < q.1 then ls c else q.1, if ls c < q.1 ∧ ls c < lt c ∧ ls c - mi < wk then (mi, ls c, c, lr c) :: q.2 else q.2)
def gaS (ρ : Sto) (t r : Int) (q : Mks) : Mks := (fun c => if AR ρ t c r ≤ q.1 c then AR ρ t c r else q.1 c, fun c => if AR ρ t c r ≤ q.1 c then r else q.2.1 c, q.2.2.1, q.2.2.2)
def puS (most mi wk : Int) (q : Mks) : Mks := (fun _ => 1000000, q.2.1, fun c => if q.1 c < q.2.2.1 c then q.1 c else q.2.2.1 c, (itr (prF q.1 q.2.2.1 q.2.1 mi wk) (most + 1).toNat 0 (1000000, q.2.2.2)).2)
def mkS (ρ : Sto) (s t most wk : Int) (K : List Int) (n : Nat) (q : Mks) : Mks := if n = 0 ∨ dpF ρ s (K.getD (n - 1) 0) ≠ dpF ρ s (K.getD n 0) then puS most (dpF ρ s (K.getD n 0)) wk (gaS ρ t (K.getD n 0) q) else gaS ρ t (K.getD n 0) q
def mkT (ρ : Sto) (s t most wk : Int) (K : List Int) : Nat → Mks → Mks
  | 0, q => q
  | n + 1, q => mkT ρ s t most wk K n (mkS ρ s t most wk K n q)
def mk0 : Mks := (fun _ => 1000000, fun _ => 0, fun _ => 1000000, [])
/-- the rows of the profile by so many changes at most -/
def mkF (ρ : Sto) (s t most : Int) : List Rw := (mkT ρ s t most (gN ρ 155 (15 + 10 * s + t)) (ordL ρ s) (ordL ρ s).length mk0).2.2.2
def MsR (u : Sto) (most : Int) (q : Mks) : Prop := (∀ c : Int, 0 ≤ c → c ≤ most → (gN u 81 c = q.1 c ∧ gN u 80 c = q.2.2.1 c ∧ (q.1 c < 1000000 → gN u 82 c = q.2.1 c)) ∧ (-1000 ≤ q.1 c ∧ q.1 c ≤ 1000000) ∧ (-1000 ≤ q.2.2.1 c ∧ q.2.2.1 c ≤ 1000000)) ∧ RwR u q.2.2.2
/-- legs: which ride one is on, where one gets off -/
def LgR (u : Sto) (G : Nat) (P : List (Int × Int)) : Prop := gN u G 0 = P.length ∧ ∀ (l : Nat) (q : Int × Int), P[l]? = some q → gN u (G + 1) l = q.1 ∧ gN u (G + 2) l = q.2
theorem LgR.of {u v : Sto} {G : Nat} {P : List (Int × Int)} (h : LgR u G P) (h2 : ∀ (c : Nat) (j : Int), G ≤ c → c ≤ G + 2 → gN v c j = gN u c j) : LgR v G P := ⟨(h2 _ _ (by omega) (by omega)).trans h.1, fun l q hl => by rw [h2 _ _ (by omega) (by omega), h2 _ _ (by omega) (by omega)]; exact h.2 l q hl⟩
theorem LgR.at {v : Sto} {G : Nat} {P : List (Int × Int)} (h : LgR v G P) {l : Int} (h0 : 0 ≤ l) (h1 : l < P.length) : gN v (G + 1) l = (lg P l).1 ∧ gN v (G + 2) l = (lg P l).2 ∧ lg P l ∈ P := by
  have e : ((l.toNat : Nat) : Int) = l := by omega
  have hk : l.toNat < P.length := by omega
  have := h.2 l.toNat (P[l.toNat]) (List.getElem?_eq_getElem hk)
  rw [e] at this
  unfold lg
  rw [List.getD_eq_getElem?_getD, List.getElem?_eq_getElem hk]
  exact ⟨this.1, this.2, List.getElem_mem _⟩
theorem LgR.push {v : Sto} {G : Nat} {P : List (Int × Int)} {x y : Int} (h : LgR v G P) (hl : (P.length : Int) < 6) (hx : inR x) (hy : inR y) : LgR (sN (sN (sN v (G + 1) (gN v G 0) x) (G + 2) (gN v G 0) y) G 0 (gN v G 0 + 1)) G (P ++ [(x, y)]) := by
  have h1 := h.1
  rw [h1]
  refine ⟨?_, fun l q hl2 => ?_⟩
  · rw [gN_sN, if_pos ⟨rfl, rfl⟩, nrm_of (inR_of (by omega) (by omega))]
    simp
  · rcases Nat.lt_or_ge l P.length with z | z
    · rw [List.getElem?_append_left z] at hl2
      have := h.2 l q hl2
      rw [gN_sN, if_neg (by omega), gN_sN, if_neg (by omega), gN_sN, if_neg (by omega), gN_sN, if_neg (by omega), gN_sN, if_neg (by omega), gN_sN, if_neg (by omega)]
      exact this
    · rw [List.getElem?_append_right z] at hl2
      have hl0 : l - P.length = 0 := by
        rcases Nat.eq_zero_or_pos (l - P.length) with e | e
        · exact e
        · rw [List.getElem?_eq_none (by simp; omega)] at hl2
          cases hl2
      rw [hl0] at hl2
      cases hl2
      have e : l = P.length := by omega
      subst e
      simp [gN_sN, nrm_of hx, nrm_of hy]
def unG (ρ : Sto) (t : Int) : Nat → Int → List (Int × Int)
  | 0, _ => []
  | n + 1, r => if 0 ≤ r then (r, ofL ρ t n r) :: unG ρ t n (onS ρ t n (ofL ρ t n r)) else []
theorem unG_len {ρ : Sto} {t : Int} : ∀ (n : Nat) (r : Int), (unG ρ t n r).length ≤ n
  | 0, _ => Nat.le_refl 0
  | n + 1, r => by
    unfold unG
    split
    · rw [List.length_cons]; have := unG_len (ρ := ρ) (t := t) n (onS ρ t n (ofL ρ t n r)); omega
    · simp
theorem onS_rng {ρ : Sto} (hR : 0 ≤ gN ρ 155 3) {t : Int} {c : Nat} {i : Int} : -1 ≤ onS ρ t c i ∧ (0 ≤ onS ρ t c i → onS ρ t c i < gN ρ 155 3) := by
  have := onL_rng hR (t := t) (c := c) (i := i)
  unfold onS
  split
  · omega
  · exact this
