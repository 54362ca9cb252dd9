/-! Ranges of arrivals; what the queries by minutes answer. -/
theorem e1_rng {σ : Sto} (hW : WOK σ) (hT : TOK σ) {t : Int} (h0 : 0 ≤ t) (h1 : t < 10) : ∀ (n : Nat) (i : Int) (q : Int × Int64), -1000 ≤ q.1 → q.1 ≤ 2000000 → -1000 ≤ (itr (e1F σ t) n i q).1 ∧ (itr (e1F σ t) n i q).1 ≤ 2000000
  | 0, _, _, h2, h3 => ⟨h2, h3⟩
  | n + 1, i, q, h2, h3 => by
    have b := arrivesF_rng hW hT (set := q.2) h0 h1
    refine e1_rng hW hT h0 h1 n (i + 1) _ ?_ ?_ <;> unfold e1F <;> dsimp only <;> split <;> omega
theorem earliest_rng {σ : Sto} (hW : WOK σ) (hT : TOK σ) {s t m k : Int} (hs0 : 0 ≤ s) (hs1 : s < 10) (h0 : 0 ≤ t) (h1 : t < 10) (hm0 : -1000 ≤ m) (hm1 : m ≤ 1000000) : -1000 ≤ earliestF σ s t m k ∧ earliestF σ s t m k ≤ 2000000 := by
  have b := hW.2.2.2.2.1 s t hs0 hs1 h0 h1
  unfold earliestF
  refine e1_rng hW hT h0 h1 _ _ _ ?_ ?_ <;> dsimp only <;> split <;> omega
abbrev EA (σ : Sto) (s t m k : Int) : Int := earliestF (lkN σ) s t m k
theorem EA_rng {σ : Sto} (hW : WOK σ) {s t m k : Int} (hs0 : 0 ≤ s) (hs1 : s < 10) (h0 : 0 ≤ t) (h1 : t < 10) (hm0 : -1000 ≤ m) (hm1 : m ≤ 1000000) : -1000 ≤ EA σ s t m k ∧ EA σ s t m k ≤ 2000000 :=
  earliest_rng (look_W hW (-1) 0 0) (look_T hW (by omega) (by omega)) hs0 hs1 h0 h1 hm0 hm1
abbrev orN (x : Int) : Int := if 1000000 ≤ x then -2 else x
abbrev stp (σ : Sto) (s : Int) : Prop := 0 ≤ s ∧ s < gN σ 155 0
abbrev trp (σ : Sto) (t : Int) : Prop := 0 ≤ t ∧ t < gN σ 155 2
abbrev mnt (m : Int) : Prop := 0 ≤ m ∧ m < 1440
/-- the first k, of n, at which p holds; else e -/
def fs2 (p : Int → Bool) (e : Int) : Nat → Int → Int
  | 0, _ => e
  | n + 1, k => if p k = true then k else fs2 p e n (k + 1)
def orI (x y : Int) : Int := (Int32.ofInt x ||| Int32.ofInt y).toInt
def andI (x y : Int) : Int := (Int32.ofInt x &&& Int32.ofInt y).toInt
def shlI (x y : Int) : Int := (Int32.ofInt x <<< (Int32.ofInt y &&& 31)).toInt
def shrI (x y : Int) : Int := (Int32.ofInt x >>> (Int32.ofInt y &&& 31)).toInt
def comesF (σ : Sto) (s t m : Int) : Int := if s = t then m else earliestF σ s t m 4
def earliestQ (σ : Sto) (s t m k : Int) : Int := if ¬ stp σ s ∨ ¬ stp σ t ∨ ¬ mnt m ∨ k < 0 ∨ 4 < k then -1 else if s = t then m else orN (EA σ s t m k)
def mtF (σ : Sto) (a b m t : Int) (q : Int × Int) : Int × Int := if (if comesF (lkN σ) b t m < comesF (lkN σ) a t m then comesF (lkN σ) a t m else comesF (lkN σ) b t m) < q.2 then (t, if comesF (lkN σ) b t m < comesF (lkN σ) a t m then comesF (lkN σ) a t m else comesF (lkN σ) b t m) else q
def meetR (q : Int × Int) (what : Int) : Int := if q.1 = -2 ∨ what = 0 then q.1 else q.2
def meetF (σ : Sto) (a b m what : Int) : Int := if ¬ stp σ a ∨ ¬ stp σ b ∨ ¬ mnt m ∨ what < 0 ∨ 1 < what then -1 else meetR (itr (mtF σ a b m) (gN σ 155 0).toNat 0 (-2, 1000000)) what
def viaF (σ : Sto) (s v t m : Int) : Int := if ¬ stp σ s ∨ ¬ stp σ v ∨ ¬ stp σ t ∨ ¬ mnt m then -1 else if 1000000 ≤ comesF (lkN σ) s v m then -2 else orN (comesF (lkN σ) v t (comesF (lkN σ) s v m))
def laF (L : List Cd) (m k best : Int) : Int := if (cd L k).2.1 ≤ m ∧ best < (cd L k).1 then (cd L k).1 else best
def latF (σ : Sto) (s t m : Int) : Int := itr (laF (pfL σ s t) m) (pfL σ s t).length 0 (if gN σ 155 (15 + 10 * s + t) ≤ m then m - gN σ 155 (15 + 10 * s + t) else -2)
def latestQ (σ : Sto) (s t m : Int) : Int := if ¬ stp σ s ∨ ¬ stp σ t ∨ m < 0 ∨ 2000 < m then -1 else if s = t then m else latF σ s t m
def stayF (σ : Sto) (s t m z : Int) : Int := if ¬ two σ s t ∨ ¬ mnt m ∨ z < 0 ∨ 2000 < z then -1 else if 1000000 ≤ EA σ s t m 4 ∨ latF σ t s z = -2 then -2 else if latF σ t s z < EA σ s t m 4 then -3 else latF σ t s z - EA σ s t m 4
def rchF (σ : Sto) (s m n t set : Int) : Int := orI set (if t = s ∨ EA σ s t m 4 ≤ m + n then shlI 1 t else 0)
def reachedF (σ : Sto) (s m n : Int) : Int := if ¬ stp σ s ∨ ¬ mnt m ∨ n < 0 ∨ 2000 < n then -1 else itr (rchF σ s m n) (gN σ 155 0).toNat 0 0
def costF (σ : Sto) (s t m k : Int) : Int := if ¬ two σ s t ∨ ¬ mnt m ∨ k < 1 ∨ 4 < k then -1000 else if 1000000 ≤ EA σ s t m k then -1000 else if 1000000 ≤ EA σ s t m (k - 1) then 5000 else EA σ s t m (k - 1) - EA σ s t m k
def mnF (σ : Sto) (s t m : Int) (q : Int64 × Int) : Int64 × Int := if 1000000 ≤ EA σ s t m 4 then q else (q.1 + (Int32.ofInt (EA σ s t m 4 - m)).toInt64, q.2 + 1)
def mnR (q : Int64 × Int) : Int := if q.2 = 0 then -2 else (q.1 / (Int32.ofInt q.2).toInt64).toInt32.toInt
def meanF (σ : Sto) (s t a b : Int) : Int := if ¬ two σ s t ∨ a < 0 ∨ 1440 < b ∨ b ≤ a then -1 else mnR (itr (mnF σ s t) (b - a).toNat a (0, 0))
def lateF (σ : Sto) (trip s t m : Int) : Int := if ¬ trp σ trip ∨ ¬ two σ s t ∨ ¬ mnt m then -1 else if 1000000 ≤ EA σ s t m 4 then -3 else fs2 (fun d => decide (EA σ s t m 4 < earliestF (look σ trip d 0) s t m 4)) (-2) 240 1
def goF (σ : Sto) (trip i : Int) : Bool := decide (gN σ 155 (115 + 5 * i + 0) = trip ∧ ¬ shrL (gL σ 153 17) i &&& 1 = 1)
def msF (σ : Sto) (s t m trip : Int) (q : Int × Int) : Int × Int := if anyZ (goF σ trip) (gN σ 155 3).toNat 0 = true ∧ q.2 < earliestF (look σ trip 0 1) s t m 4 then (trip, earliestF (look σ trip 0 1) s t m 4) else q
def msR (q : Int × Int) (what : Int) : Int := if q.1 = -2 ∨ what = 0 then q.1 else if 1000000 ≤ q.2 then -3 else q.2
def missedF (σ : Sto) (s t m what : Int) : Int := if ¬ two σ s t ∨ ¬ mnt m ∨ what < 0 ∨ 1 < what then -1 else if 1000000 ≤ EA σ s t m 4 then -2 else msR (itr (msF σ s t m) (gN σ 155 2).toNat 0 (-2, -1)) what
def ifLateF (σ : Sto) (trip d s t m : Int) : Int := if ¬ trp σ trip ∨ d < -60 ∨ 240 < d ∨ ¬ stp σ s ∨ ¬ stp σ t ∨ ¬ mnt m then -1 else if s = t then m else orN (earliestF (look σ trip d 0) s t m 4)
def fewestF (σ : Sto) (s t m z : Int) : Int := if ¬ two σ s t ∨ ¬ mnt m ∨ z < 0 ∨ 2000 < z then -1 else fs2 (fun k => decide (EA σ s t m k ≤ z)) (-2) 5 0
def nx1F (L : List Cd) (m first k dep : Int) : Int := if m ≤ (cd L k).1 ∧ (cd L k).2.1 = first ∧ dep < (cd L k).1 then (cd L k).1 else dep
def nx2F (L : List Cd) (dep k best : Int) : Int := if dep < (cd L k).1 ∧ (cd L k).2.1 < best then (cd L k).2.1 else best
def nextR (L : List Cd) (dep : Int) : Int := if dep = -1 then -2 else orN (itr (nx2F L dep) L.length 0 1000000)
def nextF (σ : Sto) (s t m : Int) : Int := if ¬ two σ s t ∨ ¬ mnt m then -1 else nextR (pfL σ s t) (itr (nx1F (pfL σ s t) m (EA σ s t m 4)) (pfL σ s t).length 0 (-1))
