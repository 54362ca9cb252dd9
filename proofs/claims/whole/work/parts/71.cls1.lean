/-! The class's cells: networks, times and legs that stand at one of several places; what of them is the reference's. -/
/-- what a call leaves as it was, references too -/
def Fg (p : Nat → Int → Prop) (σ u : Sto) : Prop := ∀ (c : Nat) (j : Int), ¬ p c j → gN u c j = gN σ c j ∧ gL u c j = gL σ c j ∧ gR u c j = gR σ c j
theorem Fg.rfl {p : Nat → Int → Prop} {σ : Sto} : Fg p σ σ := fun _ _ _ => ⟨by rfl, by rfl, by rfl⟩
theorem Fg.trans {p : Nat → Int → Prop} {σ u v : Sto} (h : Fg p σ u) (k : Fg p u v) : Fg p σ v := fun c j q => ⟨(k c j q).1.trans (h c j q).1, (k c j q).2.1.trans (h c j q).2.1, (k c j q).2.2.trans (h c j q).2.2⟩
theorem Fg.mono {p q : Nat → Int → Prop} {σ u : Sto} (h : Fg p σ u) (hp : ∀ c j, p c j → q c j) : Fg q σ u := fun c j z => h c j (fun y => z (hp c j y))
theorem Fg.sN {p : Nat → Int → Prop} {σ u : Sto} {c : Nat} {j v : Int} (h : Fg p σ u) (hp : p c j) : Fg p σ (sN u c j v) := fun d i q => by
  rw [gN_sN, if_neg (show ¬ (d = c ∧ i = j) from fun z => q (by rw [z.1, z.2]; exact hp)), gL_sN, gR_sN]
  exact h d i q
theorem Fg.sL {p : Nat → Int → Prop} {σ u : Sto} {c : Nat} {j : Int} {v : Int64} (h : Fg p σ u) (hp : p c j) : Fg p σ (sL u c j v) := fun d i q => by
  rw [gL_sL, if_neg (show ¬ (d = c ∧ i = j) from fun z => q (by rw [z.1, z.2]; exact hp)), gN_sL, gR_sL]
  exact h d i q
theorem gR_sR0 {u : Sto} {c d : Nat} {j i : Int} {v : Option Nat} : gR (sR u c j v) d i = if d = c ∧ i = j then v else gR u d i := by
  unfold gR sR up2
  show (if d = c then (if i = j then v else u.2.2 d i) else u.2.2 d i) = _
  by_cases e : d = c <;> by_cases e2 : i = j <;> simp [e, e2]
theorem Fg.sR {p : Nat → Int → Prop} {σ u : Sto} {c : Nat} {j : Int} {v : Option Nat} (h : Fg p σ u) (hp : p c j) : Fg p σ (sR u c j v) := fun d i q => by
  rw [gR_sR0, if_neg (show ¬ (d = c ∧ i = j) from fun z => q (by rw [z.1, z.2]; exact hp))]
  exact h d i q
theorem Fg.n {p : Nat → Int → Prop} {σ u : Sto} (h : Fg p σ u) {c : Nat} {j : Int} (q : ¬ p c j) : gN u c j = gN σ c j := (h c j q).1
theorem Fg.l {p : Nat → Int → Prop} {σ u : Sto} (h : Fg p σ u) {c : Nat} {j : Int} (q : ¬ p c j) : gL u c j = gL σ c j := (h c j q).2.1
theorem Fg.r {p : Nat → Int → Prop} {σ u : Sto} (h : Fg p σ u) {c : Nat} {j : Int} (q : ¬ p c j) : gR u c j = gR σ c j := (h c j q).2.2
theorem Fr.g {p : Nat → Int → Prop} {σ u : Sto} (h : Fr p σ u) : Fg p σ u := fun c j q => ⟨h.1 c j q, h.2.1 c j q, h.2.2 c j⟩
abbrev Nok (N : Nat) : Prop := N = 91 ∨ N = 122
abbrev Tok (T : Nat) : Prop := T = 3 ∨ T = 7 ∨ T = 11
abbrev Gok (G : Nat) : Prop := G = 83 ∨ G = 86

theorem kN {N : Nat} (h : Nok N) : kd N = 2 := by
  rcases h with rfl | rfl <;> decide +kernel
theorem kN_1 {N : Nat} (h : Nok N) : kd (N + 1) = 11 := by
  rcases h with rfl | rfl <;> decide +kernel
theorem nN_1 {N : Nat} (h : Nok N) : ln (N + 1) = 10 := by
  rcases h with rfl | rfl <;> decide +kernel
theorem rN_4 {N : Nat} (h : Nok N) : rfs N (4 : Nat) = some (N + 1) := by
  rcases h with rfl | rfl <;> decide +kernel
theorem kN_2 {N : Nat} (h : Nok N) : kd (N + 2) = 11 := by
  rcases h with rfl | rfl <;> decide +kernel
theorem nN_2 {N : Nat} (h : Nok N) : ln (N + 2) = 10 := by
  rcases h with rfl | rfl <;> decide +kernel
theorem rN_5 {N : Nat} (h : Nok N) : rfs N (5 : Nat) = some (N + 2) := by
  rcases h with rfl | rfl <;> decide +kernel
theorem kN_3 {N : Nat} (h : Nok N) : kd (N + 3) = 14 := by
  rcases h with rfl | rfl <;> decide +kernel
theorem nN_3 {N : Nat} (h : Nok N) : ln (N + 3) = 10 := by
  rcases h with rfl | rfl <;> decide +kernel
theorem rN_6 {N : Nat} (h : Nok N) : rfs N (6 : Nat) = some (N + 3) := by
  rcases h with rfl | rfl <;> decide +kernel
theorem kN_4 {N : Nat} (h : Nok N) : kd (N + 4) = 14 := by
  rcases h with rfl | rfl <;> decide +kernel
theorem nN_4 {N : Nat} (h : Nok N) : ln (N + 4) = 10 := by
  rcases h with rfl | rfl <;> decide +kernel
theorem rN_7 {N : Nat} (h : Nok N) : rfs N (7 : Nat) = some (N + 4) := by
  rcases h with rfl | rfl <;> decide +kernel
theorem kN_5 {N : Nat} (h : Nok N) : kd (N + 5) = 11 := by
  rcases h with rfl | rfl <;> decide +kernel
theorem nN_5 {N : Nat} (h : Nok N) : ln (N + 5) = 21 := by
  rcases h with rfl | rfl <;> decide +kernel
theorem rN_8 {N : Nat} (h : Nok N) : rfs N (8 : Nat) = some (N + 5) := by
  rcases h with rfl | rfl <;> decide +kernel
theorem kN_6 {N : Nat} (h : Nok N) : kd (N + 6) = 11 := by
  rcases h with rfl | rfl <;> decide +kernel
theorem nN_6 {N : Nat} (h : Nok N) : ln (N + 6) = 60 := by
  rcases h with rfl | rfl <;> decide +kernel
theorem rN_9 {N : Nat} (h : Nok N) : rfs N (9 : Nat) = some (N + 6) := by
  rcases h with rfl | rfl <;> decide +kernel
theorem kN_7 {N : Nat} (h : Nok N) : kd (N + 7) = 11 := by
  rcases h with rfl | rfl <;> decide +kernel
theorem nN_7 {N : Nat} (h : Nok N) : ln (N + 7) = 60 := by
  rcases h with rfl | rfl <;> decide +kernel
theorem rN_10 {N : Nat} (h : Nok N) : rfs N (10 : Nat) = some (N + 7) := by
  rcases h with rfl | rfl <;> decide +kernel
theorem kN_8 {N : Nat} (h : Nok N) : kd (N + 8) = 11 := by
  rcases h with rfl | rfl <;> decide +kernel
theorem nN_8 {N : Nat} (h : Nok N) : ln (N + 8) = 60 := by
  rcases h with rfl | rfl <;> decide +kernel
theorem rN_11 {N : Nat} (h : Nok N) : rfs N (11 : Nat) = some (N + 8) := by
  rcases h with rfl | rfl <;> decide +kernel
theorem kN_9 {N : Nat} (h : Nok N) : kd (N + 9) = 11 := by
  rcases h with rfl | rfl <;> decide +kernel
theorem nN_9 {N : Nat} (h : Nok N) : ln (N + 9) = 60 := by
  rcases h with rfl | rfl <;> decide +kernel
theorem rN_12 {N : Nat} (h : Nok N) : rfs N (12 : Nat) = some (N + 9) := by
  rcases h with rfl | rfl <;> decide +kernel
theorem kN_10 {N : Nat} (h : Nok N) : kd (N + 10) = 11 := by
  rcases h with rfl | rfl <;> decide +kernel
theorem nN_10 {N : Nat} (h : Nok N) : ln (N + 10) = 60 := by
  rcases h with rfl | rfl <;> decide +kernel
theorem rN_13 {N : Nat} (h : Nok N) : rfs N (13 : Nat) = some (N + 10) := by
  rcases h with rfl | rfl <;> decide +kernel
theorem kd_rows : ∀ k : Nat, k < 20 → (kd (102 + k) = 11 ∧ ln (102 + k) = 10) ∧ (kd (133 + k) = 11 ∧ ln (133 + k) = 10) ∧ (kd (18 + k) = 11 ∧ ln (18 + k) = 60) := by decide +kernel
theorem kd_rows3 : ∀ k : Nat, k < 30 → kd (43 + k) = 11 ∧ ln (43 + k) = 300 := by decide +kernel
theorem kNw {N : Nat} (h : Nok N) {x : Int} (h0 : 0 ≤ x) (h1 : x < 10) : kd (N + 11 + x.toNat) = 11 := by
  have e := kd_rows x.toNat (by omega)
  rcases h with rfl | rfl
  · exact e.1.1
  · exact e.2.1.1
theorem nNw {N : Nat} (h : Nok N) {x : Int} (h0 : 0 ≤ x) (h1 : x < 10) : ln (N + 11 + x.toNat) = 10 := by
  have e := kd_rows x.toNat (by omega)
  rcases h with rfl | rfl
  · exact e.1.2
  · exact e.2.1.2
theorem kNt {N : Nat} (h : Nok N) {x : Int} (h0 : 0 ≤ x) (h1 : x < 10) : kd (N + 21 + x.toNat) = 11 := by
  have e := kd_rows (10 + x.toNat) (by omega)
  rcases h with rfl | rfl
  · have := e.1.1; rw [show 102 + (10 + x.toNat) = 91 + 21 + x.toNat by omega] at this; exact this
  · have := e.2.1.1; rw [show 133 + (10 + x.toNat) = 122 + 21 + x.toNat by omega] at this; exact this
theorem nNt {N : Nat} (h : Nok N) {x : Int} (h0 : 0 ≤ x) (h1 : x < 10) : ln (N + 21 + x.toNat) = 10 := by
  have e := kd_rows (10 + x.toNat) (by omega)
  rcases h with rfl | rfl
  · have := e.1.2; rw [show 102 + (10 + x.toNat) = 91 + 21 + x.toNat by omega] at this; exact this
  · have := e.2.1.2; rw [show 133 + (10 + x.toNat) = 122 + 21 + x.toNat by omega] at this; exact this
theorem rfs_row {c n b : Nat} (hf : rfR.find? (fun q => q.1 == c) = some (c, n, b)) {x : Int} (h0 : 0 ≤ x) (h1 : x < n) : rfs c x = some (b + x.toNat) := by
  unfold rfs
  rw [hf]
  show (if 0 ≤ x ∧ x < (n : Int) then some (b + x.toNat) else none) = _
  rw [if_pos ⟨h0, h1⟩]
theorem rowN_w {N : Nat} (h : Nok N) {x : Int} (h0 : 0 ≤ x) (h1 : x < 10) : rfs (N + 3) x = some (N + 11 + x.toNat) := by
  rcases h with rfl | rfl
  · exact rfs_row (c := 94) (n := 10) (b := 102) (by decide +kernel) h0 h1
  · exact rfs_row (c := 125) (n := 10) (b := 133) (by decide +kernel) h0 h1
theorem rowN_t {N : Nat} (h : Nok N) {x : Int} (h0 : 0 ≤ x) (h1 : x < 10) : rfs (N + 4) x = some (N + 21 + x.toNat) := by
  rcases h with rfl | rfl
  · exact rfs_row (c := 95) (n := 10) (b := 112) (by decide +kernel) h0 h1
  · exact rfs_row (c := 126) (n := 10) (b := 143) (by decide +kernel) h0 h1
theorem rowU {x : Int} (h0 : 0 ≤ x) (h1 : x < 20) : rfs 16 x = some (18 + x.toNat) := rfs_row (c := 16) (n := 20) (b := 18) (by decide +kernel) h0 h1
theorem kU {x : Int} (h0 : 0 ≤ x) (h1 : x < 20) : kd (18 + x.toNat) = 11 := (kd_rows x.toNat (by omega)).2.2.1
theorem nU {x : Int} (h0 : 0 ≤ x) (h1 : x < 20) : ln (18 + x.toNat) = 60 := (kd_rows x.toNat (by omega)).2.2.2

theorem row39 {x : Int} (h0 : 0 ≤ x) (h1 : x < 10) : rfs 39 x = some (43 + x.toNat) := rfs_row (c := 39) (n := 10) (b := 43) (by decide +kernel) h0 h1
theorem kR43 {x : Int} (h0 : 0 ≤ x) (h1 : x < 10) : kd (43 + x.toNat) = 11 := by
  have := (kd_rows3 (0 + x.toNat) (by omega)).1
  rw [show 43 + (0 + x.toNat) = 43 + x.toNat by omega] at this
  exact this
theorem nR43 {x : Int} (h0 : 0 ≤ x) (h1 : x < 10) : ln (43 + x.toNat) = 300 := by
  have := (kd_rows3 (0 + x.toNat) (by omega)).2
  rw [show 43 + (0 + x.toNat) = 43 + x.toNat by omega] at this
  exact this
theorem row40 {x : Int} (h0 : 0 ≤ x) (h1 : x < 10) : rfs 40 x = some (53 + x.toNat) := rfs_row (c := 40) (n := 10) (b := 53) (by decide +kernel) h0 h1
theorem kR53 {x : Int} (h0 : 0 ≤ x) (h1 : x < 10) : kd (53 + x.toNat) = 11 := by
  have := (kd_rows3 (10 + x.toNat) (by omega)).1
  rw [show 43 + (10 + x.toNat) = 53 + x.toNat by omega] at this
  exact this
theorem nR53 {x : Int} (h0 : 0 ≤ x) (h1 : x < 10) : ln (53 + x.toNat) = 300 := by
  have := (kd_rows3 (10 + x.toNat) (by omega)).2
  rw [show 43 + (10 + x.toNat) = 53 + x.toNat by omega] at this
  exact this
theorem row41 {x : Int} (h0 : 0 ≤ x) (h1 : x < 10) : rfs 41 x = some (63 + x.toNat) := rfs_row (c := 41) (n := 10) (b := 63) (by decide +kernel) h0 h1
theorem kR63 {x : Int} (h0 : 0 ≤ x) (h1 : x < 10) : kd (63 + x.toNat) = 11 := by
  have := (kd_rows3 (20 + x.toNat) (by omega)).1
  rw [show 43 + (20 + x.toNat) = 63 + x.toNat by omega] at this
  exact this
theorem nR63 {x : Int} (h0 : 0 ≤ x) (h1 : x < 10) : ln (63 + x.toNat) = 300 := by
  have := (kd_rows3 (20 + x.toNat) (by omega)).2
  rw [show 43 + (20 + x.toNat) = 63 + x.toNat by omega] at this
  exact this
theorem kT {T : Nat} (h : Tok T) : kd T = 6 := by
  rcases h with rfl | rfl | rfl <;> decide +kernel
theorem kT_1 {T : Nat} (h : Tok T) : kd (T + 1) = 11 := by
  rcases h with rfl | rfl | rfl <;> decide +kernel
theorem nT_1 {T : Nat} (h : Tok T) : ln (T + 1) = 60 := by
  rcases h with rfl | rfl | rfl <;> decide +kernel
theorem rT_3 {T : Nat} (h : Tok T) : rfs T (3 : Nat) = some (T + 1) := by
  rcases h with rfl | rfl | rfl <;> decide +kernel
theorem kT_2 {T : Nat} (h : Tok T) : kd (T + 2) = 11 := by
  rcases h with rfl | rfl | rfl <;> decide +kernel
theorem nT_2 {T : Nat} (h : Tok T) : ln (T + 2) = 60 := by
  rcases h with rfl | rfl | rfl <;> decide +kernel
theorem rT_4 {T : Nat} (h : Tok T) : rfs T (4 : Nat) = some (T + 2) := by
  rcases h with rfl | rfl | rfl <;> decide +kernel
theorem kT_3 {T : Nat} (h : Tok T) : kd (T + 3) = 12 := by
  rcases h with rfl | rfl | rfl <;> decide +kernel
theorem nT_3 {T : Nat} (h : Tok T) : ln (T + 3) = 60 := by
  rcases h with rfl | rfl | rfl <;> decide +kernel
theorem rT_5 {T : Nat} (h : Tok T) : rfs T (5 : Nat) = some (T + 3) := by
  rcases h with rfl | rfl | rfl <;> decide +kernel
theorem rT_0 {T : Nat} (h : Tok T) : rfs T (0 : Nat) = none := by
  rcases h with rfl | rfl | rfl <;> decide +kernel
theorem kG {G : Nat} (h : Gok G) : kd G = 1 := by
  rcases h with rfl | rfl <;> decide +kernel
theorem kG_1 {G : Nat} (h : Gok G) : kd (G + 1) = 11 := by
  rcases h with rfl | rfl <;> decide +kernel
theorem nG_1 {G : Nat} (h : Gok G) : ln (G + 1) = 6 := by
  rcases h with rfl | rfl <;> decide +kernel
theorem rG_1 {G : Nat} (h : Gok G) : rfs G (1 : Nat) = some (G + 1) := by
  rcases h with rfl | rfl <;> decide +kernel
theorem kG_2 {G : Nat} (h : Gok G) : kd (G + 2) = 11 := by
  rcases h with rfl | rfl <;> decide +kernel
theorem nG_2 {G : Nat} (h : Gok G) : ln (G + 2) = 6 := by
  rcases h with rfl | rfl <;> decide +kernel
theorem rG_2 {G : Nat} (h : Gok G) : rfs G (2 : Nat) = some (G + 2) := by
  rcases h with rfl | rfl <;> decide +kernel
theorem q0_12 : rfs 0 (12 : Nat) = none := by decide +kernel
theorem q0_13 : rfs 0 (13 : Nat) = none := by decide +kernel
theorem q2_3 : rfs 2 (3 : Nat) = none := by decide +kernel
theorem q2_5 : rfs 2 (5 : Nat) = none := by decide +kernel
/-- more of the told world: stops of rides, bounds of walks, times of a trip in order -/
def WX (ρ : Sto) : Prop := (∀ i : Int, 0 ≤ i → i < gN ρ 155 3 → gN ρ 155 (115 + 5 * i + 0) < gN ρ 155 2 ∧ gN ρ 155 (115 + 5 * i + 1) < gN ρ 155 0 ∧ gN ρ 155 (115 + 5 * i + 2) < gN ρ 155 0 ∧ gN ρ 155 (115 + 5 * i + 3) < gN ρ 155 (115 + 5 * i + 4)) ∧
  (∀ a b : Int, 0 ≤ a → a < 10 → 0 ≤ b → b < 10 → gN ρ 155 (15 + 10 * a + b) ≤ 250000 ∨ gN ρ 155 (15 + 10 * a + b) = 1000000) ∧ (∀ a : Int, 0 ≤ a → a < 10 → gN ρ 155 (15 + 10 * a + a) = 0) ∧
  (∀ i : Int, 0 ≤ i → nxt ρ i → gN ρ 155 (115 + 5 * i + 4) ≤ gN ρ 155 (115 + 5 * (i + 1) + 3)) ∧ (0 ≤ gN ρ 155 1 ∧ gN ρ 155 1 ≤ 12)
/-- a store that was looked at: whom one can change to -/
def Lkt (ρ : Sto) : Prop := TOK ρ ∧ ∀ i : Int, 0 ≤ i → i < gN ρ 155 3 → gL ρ 163 i = itr (lkHf ρ (fun k => gN ρ 161 k) (fun k => gN ρ 162 k) (gL ρ 153 23) i) (gN ρ 155 3).toNat 0 0
/-- all that is known of a world that is looked at -/
def WV (ρ : Sto) : Prop := WOK ρ ∧ WX ρ ∧ TrOK ρ ∧ Lkt ρ
theorem WV.R {ρ : Sto} (h : WV ρ) : 0 ≤ gN ρ 155 3 ∧ gN ρ 155 3 ≤ 60 := h.1.1
theorem WV.S {ρ : Sto} (h : WV ρ) : 0 ≤ gN ρ 155 0 ∧ gN ρ 155 0 ≤ 10 := h.1.2.1
theorem WV.T {ρ : Sto} (h : WV ρ) : 0 ≤ gN ρ 155 2 ∧ gN ρ 155 2 ≤ 20 := h.1.2.2.1
theorem WV.ride {ρ : Sto} (h : WV ρ) (i : Int) (h0 : 0 ≤ i) (h1 : i < gN ρ 155 3) : (0 ≤ gN ρ 155 (115 + 5 * i + 0) ∧ gN ρ 155 (115 + 5 * i + 0) < gN ρ 155 2) ∧ (0 ≤ gN ρ 155 (115 + 5 * i + 1) ∧ gN ρ 155 (115 + 5 * i + 1) < gN ρ 155 0) ∧ (0 ≤ gN ρ 155 (115 + 5 * i + 2) ∧ gN ρ 155 (115 + 5 * i + 2) < gN ρ 155 0) ∧ (0 ≤ gN ρ 155 (115 + 5 * i + 3) ∧ gN ρ 155 (115 + 5 * i + 3) < gN ρ 155 (115 + 5 * i + 4)) ∧ gN ρ 155 (115 + 5 * i + 4) < 1440 := by
  have a := h.1.2.2.2.1 i h0 (by have := h.R; omega)
  have b := h.2.1.1 i h0 h1
  omega
theorem WV.walk {ρ : Sto} (h : WV ρ) (a b : Int) (h0 : 0 ≤ a) (h1 : a < gN ρ 155 0) (h2 : 0 ≤ b) (h3 : b < gN ρ 155 0) : 0 ≤ gN ρ 155 (15 + 10 * a + b) ∧ (gN ρ 155 (15 + 10 * a + b) ≤ 250000 ∨ gN ρ 155 (15 + 10 * a + b) = 1000000) := by
  have hs := h.S
  have x := h.1.2.2.2.2.1 a b h0 (by omega) h2 (by omega)
  have y := h.2.1.2.1 a b h0 (by omega) h2 (by omega)
  exact ⟨x.1, y⟩
theorem WV.chg {ρ : Sto} (h : WV ρ) (s : Int) (h0 : 0 ≤ s) (h1 : s < gN ρ 155 0) : 0 ≤ gN ρ 155 (5 + s) ∧ gN ρ 155 (5 + s) ≤ 60 := by
  have hs := h.S
  exact h.1.2.2.2.2.2.1 s h0 (by omega)
theorem WV.tm {ρ : Sto} (h : WV ρ) (i : Int) (h0 : 0 ≤ i) (h1 : i < gN ρ 155 3) : (-1000 ≤ gN ρ 161 i ∧ gN ρ 161 i ≤ 4000) ∧ (-1000 ≤ gN ρ 162 i ∧ gN ρ 162 i ≤ 4000) := by
  have hs := h.R
  exact h.2.2.2.1 i h0 (by omega)
def f1F (σ : Sto) (trip : Int) : Int := if trip < gN σ 155 2 then foF σ trip else gN σ 155 3
def tfF (ρ : Sto) (a b : Int) : Int := if a = b then gN ρ 155 (5 + a) else gN ρ 155 (15 + 10 * a + b)
theorem btw_tf (ρ : Sto) (i k : Int) : btw ρ i k = tfF ρ (gN ρ 155 (115 + 5 * i + 2)) (gN ρ 155 (115 + 5 * k + 1)) := rfl
theorem WV.tf {ρ : Sto} (h : WV ρ) (a b : Int) (h0 : 0 ≤ a) (h1 : a < gN ρ 155 0) (h2 : 0 ≤ b) (h3 : b < gN ρ 155 0) : 0 ≤ tfF ρ a b ∧ (tfF ρ a b ≤ 250000 ∨ tfF ρ a b = 1000000) := by
  have x := h.walk a b h0 h1 h2 h3
  have y := h.chg a h0 h1
  unfold tfF
  split <;> omega
theorem WV.f1 {ρ : Sto} (h : WV ρ) (t : Int) (h0 : 0 ≤ t) : 0 ≤ f1F ρ t ∧ f1F ρ t ≤ gN ρ 155 3 := by
  have hr := h.R
  unfold f1F
  split
  · rename_i z
    have := fo_ok h.2.2.1 (trip := t) ⟨h0, z⟩
    omega
  · omega
def NetR (σ : Sto) (N : Nat) (ρ : Sto) : Prop := Nok N ∧ (∀ j : Int, 0 ≤ j → j < 4 → gN σ N j = gN ρ 155 j) ∧ (∀ s : Int, 0 ≤ s → s < gN ρ 155 0 → gN σ (N + 2) s = gN ρ 155 (5 + s)) ∧
  (∀ a b : Int, 0 ≤ a → a < gN ρ 155 0 → 0 ≤ b → b < gN ρ 155 0 → gN σ (N + 11 + a.toNat) b = gN ρ 155 (15 + 10 * a + b) ∧ gN σ (N + 21 + a.toNat) b = tfF ρ a b) ∧
  (∀ i : Int, 0 ≤ i → i < gN ρ 155 3 → gN σ (N + 6) i = gN ρ 155 (115 + 5 * i + 0) ∧ gN σ (N + 7) i = gN ρ 155 (115 + 5 * i + 1) ∧ gN σ (N + 8) i = gN ρ 155 (115 + 5 * i + 2) ∧ gN σ (N + 9) i = gN ρ 155 (115 + 5 * i + 3) ∧ gN σ (N + 10) i = gN ρ 155 (115 + 5 * i + 4)) ∧
  (∀ t : Int, 0 ≤ t → t ≤ gN ρ 155 2 → gN σ (N + 5) t = f1F ρ t)
theorem NetR.k {σ ρ : Sto} {N : Nat} (h : NetR σ N ρ) : Nok N := h.1
theorem NetR.ch {σ ρ : Sto} {N : Nat} (h : NetR σ N ρ) {s : Int} (h0 : 0 ≤ s) (h1 : s < gN ρ 155 0) : gN σ (N + 2) s = gN ρ 155 (5 + s) := h.2.2.1 s h0 h1
theorem NetR.wk {σ ρ : Sto} {N : Nat} (h : NetR σ N ρ) {a b : Int} (h0 : 0 ≤ a) (h1 : a < gN ρ 155 0) (h2 : 0 ≤ b) (h3 : b < gN ρ 155 0) : gN σ (N + 11 + a.toNat) b = gN ρ 155 (15 + 10 * a + b) := (h.2.2.2.1 a b h0 h1 h2 h3).1
theorem NetR.tf {σ ρ : Sto} {N : Nat} (h : NetR σ N ρ) {a b : Int} (h0 : 0 ≤ a) (h1 : a < gN ρ 155 0) (h2 : 0 ≤ b) (h3 : b < gN ρ 155 0) : gN σ (N + 21 + a.toNat) b = tfF ρ a b := (h.2.2.2.1 a b h0 h1 h2 h3).2
theorem NetR.f1 {σ ρ : Sto} {N : Nat} (h : NetR σ N ρ) {t : Int} (h0 : 0 ≤ t) (h1 : t ≤ gN ρ 155 2) : gN σ (N + 5) t = f1F ρ t := h.2.2.2.2.2 t h0 h1

theorem NetR.n0 {σ ρ : Sto} {N : Nat} (h : NetR σ N ρ) : gN σ N 0 = gN ρ 155 0 := h.2.1 0 (by omega) (by omega)
theorem NetR.n1 {σ ρ : Sto} {N : Nat} (h : NetR σ N ρ) : gN σ N 1 = gN ρ 155 1 := h.2.1 1 (by omega) (by omega)
theorem NetR.n2 {σ ρ : Sto} {N : Nat} (h : NetR σ N ρ) : gN σ N 2 = gN ρ 155 2 := h.2.1 2 (by omega) (by omega)
theorem NetR.n3 {σ ρ : Sto} {N : Nat} (h : NetR σ N ρ) : gN σ N 3 = gN ρ 155 3 := h.2.1 3 (by omega) (by omega)
theorem NetR.r0 {σ ρ : Sto} {N : Nat} (h : NetR σ N ρ) {i : Int} (h0 : 0 ≤ i) (h1 : i < gN ρ 155 3) : gN σ (N + 6) i = gN ρ 155 (115 + 5 * i + 0) := (h.2.2.2.2.1 i h0 h1).1
theorem NetR.r1 {σ ρ : Sto} {N : Nat} (h : NetR σ N ρ) {i : Int} (h0 : 0 ≤ i) (h1 : i < gN ρ 155 3) : gN σ (N + 7) i = gN ρ 155 (115 + 5 * i + 1) := (h.2.2.2.2.1 i h0 h1).2.1
theorem NetR.r2 {σ ρ : Sto} {N : Nat} (h : NetR σ N ρ) {i : Int} (h0 : 0 ≤ i) (h1 : i < gN ρ 155 3) : gN σ (N + 8) i = gN ρ 155 (115 + 5 * i + 2) := (h.2.2.2.2.1 i h0 h1).2.2.1
theorem NetR.r3 {σ ρ : Sto} {N : Nat} (h : NetR σ N ρ) {i : Int} (h0 : 0 ≤ i) (h1 : i < gN ρ 155 3) : gN σ (N + 9) i = gN ρ 155 (115 + 5 * i + 3) := (h.2.2.2.2.1 i h0 h1).2.2.2.1
theorem NetR.r4 {σ ρ : Sto} {N : Nat} (h : NetR σ N ρ) {i : Int} (h0 : 0 ≤ i) (h1 : i < gN ρ 155 3) : gN σ (N + 10) i = gN ρ 155 (115 + 5 * i + 4) := (h.2.2.2.2.1 i h0 h1).2.2.2.2
/-- the frame leaves the networks -/
theorem NetR.of {σ u ρ : Sto} {N : Nat} (h : NetR σ N ρ) (hS : gN ρ 155 0 ≤ 10) (h2 : ∀ (c : Nat) (j : Int), N ≤ c → c ≤ N + 30 → gN u c j = gN σ c j) : NetR u N ρ := by
  refine ⟨h.1, fun j a b => ?_, fun s a b => ?_, fun a b q0 q1 q2 q3 => ?_, fun i a b => ?_, fun t a b => ?_⟩
  · rw [h2 _ _ (by omega) (by omega)]; exact h.2.1 j a b
  · rw [h2 _ _ (by omega) (by omega)]; exact h.2.2.1 s a b
  · rw [h2 _ _ (by omega) (by omega), h2 _ _ (by omega) (by omega)]; exact h.2.2.2.1 a b q0 q1 q2 q3
  · simp only [h2 _ _ (show N ≤ N + 6 by omega) (show N + 6 ≤ N + 30 by omega), h2 _ _ (show N ≤ N + 7 by omega) (show N + 7 ≤ N + 30 by omega), h2 _ _ (show N ≤ N + 8 by omega) (show N + 8 ≤ N + 30 by omega), h2 _ _ (show N ≤ N + 9 by omega) (show N + 9 ≤ N + 30 by omega), h2 _ _ (show N ≤ N + 10 by omega) (show N + 10 ≤ N + 30 by omega)]; exact h.2.2.2.2.1 i a b
  · rw [h2 _ _ (by omega) (by omega)]; exact h.2.2.2.2.2 t a b
/-- the times at T are those of a store that is looked at -/
def TmR (σ : Sto) (N T : Nat) (ρ : Sto) : Prop := Tok T ∧ gR σ T 0 = some N ∧ gL σ T 1 = gL ρ 153 23 ∧ (∀ i : Int, 0 ≤ i → i < gN ρ 155 3 → gN σ (T + 1) i = gN ρ 161 i ∧ gN σ (T + 2) i = gN ρ 162 i) ∧ (gN σ T 2 = 0 ∨ gN σ T 2 = 1)
def LkR (σ : Sto) (T : Nat) (ρ : Sto) : Prop := ∀ i : Int, 0 ≤ i → i < gN ρ 155 3 → gL σ (T + 3) i = gL ρ 163 i
theorem TmR.k {σ : Sto} {N T : Nat} {ρ : Sto} (h : TmR σ N T ρ) : Tok T := h.1
theorem TmR.net {σ : Sto} {N T : Nat} {ρ : Sto} (h : TmR σ N T ρ) : gR σ T 0 = some N := h.2.1
theorem TmR.off {σ : Sto} {N T : Nat} {ρ : Sto} (h : TmR σ N T ρ) : gL σ T 1 = gL ρ 153 23 := h.2.2.1
theorem TmR.lv {σ : Sto} {N T : Nat} {ρ : Sto} (h : TmR σ N T ρ) {i : Int} (h0 : 0 ≤ i) (h1 : i < gN ρ 155 3) : gN σ (T + 1) i = gN ρ 161 i := (h.2.2.2.1 i h0 h1).1
theorem TmR.cm {σ : Sto} {N T : Nat} {ρ : Sto} (h : TmR σ N T ρ) {i : Int} (h0 : 0 ≤ i) (h1 : i < gN ρ 155 3) : gN σ (T + 2) i = gN ρ 162 i := (h.2.2.2.1 i h0 h1).2
theorem TmR.of {σ u : Sto} {N T : Nat} {ρ : Sto} (h : TmR σ N T ρ) (h2 : gR u T 0 = gR σ T 0) (h3 : gL u T 1 = gL σ T 1) (h4 : ∀ j, gN u (T + 1) j = gN σ (T + 1) j) (h5 : ∀ j, gN u (T + 2) j = gN σ (T + 2) j) (h6 : gN u T 2 = gN σ T 2 ∨ gN u T 2 = 0 ∨ gN u T 2 = 1) : TmR u N T ρ := by
  refine ⟨h.1, by rw [h2]; exact h.2.1, by rw [h3]; exact h.2.2.1, fun i a b => ?_, ?_⟩
  · rw [h4, h5]; exact h.2.2.2.1 i a b
  · have := h.2.2.2.2
    omega

