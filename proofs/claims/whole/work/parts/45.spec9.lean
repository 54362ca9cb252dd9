/-! travels, breaks, uses, hub of the reference. -/
def trF (σ : Sto) (P : List (Int × Int)) (l : Int) (q : Int × Int) : Int × Int := (q.1 + (CM σ (lg P l).2 - LV σ (lg P l).1), q.2 + ((lg P l).2 - (lg P l).1 + 1))
def trR (σ : Sto) (P : List (Int × Int)) (s t what : Int) (q : Int × Int) : Int := if what = 0 then q.1 else if what = 1 then movesF σ P s t - q.1 else q.2
def travelsF (σ : Sto) (s t i what : Int) : Int := if ¬ two σ s t ∨ i < 0 ∨ what < 0 ∨ 2 < what then -1 else if (pfK σ s t).length ≤ i then -2 else trR σ (lgL σ s t (kx σ s t i)) s t what (itr (trF σ (lgL σ s t (kx σ s t i))) (lgL σ s t (kx σ s t i)).length 0 (0, 0))
def wbP (σ : Sto) (P : List (Int × Int)) (trip d l : Int) : Bool := decide (LV σ (lg P l).1 + (if gN σ 155 (115 + 5 * (lg P l).1 + 0) = trip then d else 0) < CM σ (lg P (l - 1)).2 + (if gN σ 155 (115 + 5 * (lg P (l - 1)).2 + 0) = trip then d else 0) + btw σ (lg P (l - 1)).2 (lg P l).1)
def brI (σ : Sto) (trip d s t i many : Int) : Int := many + if anyZ (wbP σ (lgL σ s t (kx σ s t i)) trip d) ((lgL σ s t (kx σ s t i)).length - 1) 1 = true then 1 else 0
def brS (σ : Sto) (trip d t s many : Int) : Int := if s = t then many else itr (brI σ trip d s t) (pfK σ s t).length 0 many
def breaksQ (σ : Sto) (trip d t : Int) : Int := if ¬ trp σ trip ∨ d < 1 ∨ 240 < d ∨ ¬ stp σ t then -1 else itr (brS σ trip d t) (gN σ 155 0).toNat 0 0
def usF (σ : Sto) (P : List (Int × Int)) (trip l is : Int) : Int := orI is (if gN σ 155 (115 + 5 * (lg P l).1 + 0) = trip then 1 else 0)
def usI (σ : Sto) (trip s t i many : Int) : Int := many + if itr (usF σ (lgL σ s t (kx σ s t i)) trip) (lgL σ s t (kx σ s t i)).length 0 0 = 0 then 0 else 1
def usS (σ : Sto) (trip t s many : Int) : Int := if s = t then many else itr (usI σ trip s t) (pfK σ s t).length 0 many
def usesF (σ : Sto) (trip t : Int) : Int := if ¬ trp σ trip ∨ ¬ stp σ t then -1 else itr (usS σ trip t) (gN σ 155 0).toNat 0 0
def EnIs (u : Sto) (E : Int → Int) : Prop := ∀ a : Int, 0 ≤ a → a < 10 → gN u 172 a = E a
def edL (σ : Sto) (P : List (Int × Int)) (l : Int) (E : Int → Int) : Int → Int := fun a => if a = gN σ 155 (115 + 5 * (lg P l).2 + 2) then E a + 1 else E a
def edI (σ : Sto) (s t i : Int) (E : Int → Int) : Int → Int := itr (edL σ (lgL σ s t (kx σ s t i))) ((lgL σ s t (kx σ s t i)).length - 1) 0 E
def edF (σ : Sto) (s t : Int) (E : Int → Int) : Int → Int := itr (edI σ s t) (pfK σ s t).length 0 E
def edT (σ : Sto) (s t : Int) (E : Int → Int) : Int → Int := if s = t then E else edF σ s t E
def edS (σ : Sto) (s : Int) (E : Int → Int) : Int → Int := itr (edT σ s) (gN σ 155 0).toNat 0 E
def hbF (E : Int → Int) (s best : Int) : Int := if (if best = -2 then 0 else E best) < E s then s else best
def hubR (E : Int → Int) (best what : Int) : Int := if best = -2 ∨ what = 0 then best else E best
def hubE (σ : Sto) : Int → Int := itr (edS σ) (gN σ 155 0).toNat 0 (fun _ => 0)
def hubF (σ : Sto) (what : Int) : Int := if what < 0 ∨ 1 < what then -1 else hubR (hubE σ) (itr (hbF (hubE σ)) (gN σ 155 0).toNat 0 (-2)) what
theorem orI_01 {x y : Int} (hx : x = 0 ∨ x = 1) (hy : y = 0 ∨ y = 1) : orI x y = 0 ∨ orI x y = 1 := by
  rcases hx with h | h <;> rcases hy with k | k <;> subst h <;> subst k <;> decide
theorem kx_ok {σ : Sto} (hW : WOK σ) {s t i : Int} (hs0 : 0 ≤ s) (hs1 : s < 10) (ht0 : 0 ≤ t) (ht1 : t < 10) (h0 : 0 ≤ i) (h1 : i < (pfK σ s t).length) : 0 ≤ kx σ s t i ∧ kx σ s t i < (pfL σ s t).length := by
  have hok := pf_ok hW hs0 hs1 ht0 ht1
  refine hok.2.2.2 _ ?_
  unfold kx
  rw [List.getD_eq_getElem?_getD, List.getElem?_eq_getElem (by omega)]
  exact List.getElem_mem _
