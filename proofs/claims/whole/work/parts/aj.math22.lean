/-! The plans stay alike. -/
theorem lg_app {L : List (Int × Int)} {x : Int × Int} {l : Int} (h0 : 0 ≤ l) (h1 : l < L.length) : lg (L ++ [x]) l = lg L l := by
  unfold lg
  rw [List.getD_eq_getElem?_getD, List.getD_eq_getElem?_getD, List.getElem?_append_left (by omega)]
theorem lg_last {L : List (Int × Int)} {x : Int × Int} : lg (L ++ [x]) (L.length : Int) = x := by
  unfold lg
  rw [List.getD_eq_getElem?_getD, List.getElem?_append_right (by omega), show (L.length : Int).toNat - L.length = 0 by omega]
  rfl
theorem PlR.push {σ u : Sto} {L : List (Int × Int)} (h : PlR σ L) {on e : Int} (h38 : gN u 153 38 = gN σ 153 38 + 1) (ho : ∀ l : Int, 0 ≤ l → l < gN σ 153 38 → gN u 173 l = gN σ 173 l ∧ gN u 174 l = gN σ 174 l) (hn : gN u 173 (gN σ 153 38) = on ∧ gN u 174 (gN σ 153 38) = e) : PlR u (L ++ [(on, e)]) := by
  have k := h.1
  refine ⟨by rw [h38, k, List.length_append]; rfl, fun l l0 l1 => ?_⟩
  have l1 : l < ((L ++ [(on, e)]).length : Int) := l1
  rw [List.length_append, show [(on, e)].length = 1 from rfl] at l1
  by_cases z : l = L.length
  · subst z
    rw [lg_last, ← k]
    exact hn
  · rw [lg_app l0 (by omega), (ho l l0 (by omega)).1, (ho l l0 (by omega)).2]
    exact h.2 l l0 (by omega)
theorem PlR.nil {u : Sto} (h : gN u 153 38 = 0) : PlR u [] := ⟨by rw [h]; rfl, fun l l0 l1 => by have : l < 0 := l1; omega⟩
theorem PlR.of {σ u : Sto} {L : List (Int × Int)} (h : PlR σ L) (h38 : gN u 153 38 = gN σ 153 38) (ho : ∀ l : Int, gN u 173 l = gN σ 173 l ∧ gN u 174 l = gN σ 174 l) : PlR u L := ⟨h38.trans h.1, fun l l0 l1 => by rw [(ho l).1, (ho l).2]; exact h.2 l l0 l1⟩
/-- where the class keeps the k-th of the kept -/
def rgI (tp sz k : Int) : Int := (tp - sz + k + 20) % 20
theorem rg_top {tp sz : Int} (h0 : 0 ≤ tp) (h1 : tp < 20) : rgI tp sz (sz - 1) = tbT tp := by
  unfold rgI tbT
  split <;> omega
theorem rg_next {tp sz : Int} (h0 : 0 ≤ tp) (h1 : tp < 20) (s0 : 0 ≤ sz) (s1 : sz ≤ 20) : rgI (if tp + 1 < 20 then tp + 1 else 0) (if sz + 1 < 20 then sz + 1 else 20) (sz - (if sz = 20 then 1 else 0)) = tp := by
  unfold rgI
  split <;> split <;> split <;> omega
theorem rg_keep {tp sz k : Int} (h0 : 0 ≤ tp) (h1 : tp < 20) (s0 : 0 ≤ sz) (s1 : sz ≤ 20) (k0 : 0 ≤ k) (k1 : k < sz - (if sz = 20 then 1 else 0)) : rgI (if tp + 1 < 20 then tp + 1 else 0) (if sz + 1 < 20 then sz + 1 else 20) k = rgI tp sz (k + (if sz = 20 then 1 else 0)) ∧ rgI tp sz (k + (if sz = 20 then 1 else 0)) ≠ tp := by
  unfold rgI
  split at k1 <;> split <;> split <;> (constructor <;> omega)
theorem rg_less {tp sz k : Int} (h0 : 0 ≤ tp) (h1 : tp < 20) (s0 : 0 < sz) (s1 : sz ≤ 20) : rgI (tbT tp) (sz - 1) k = rgI tp sz k := by
  unfold rgI tbT
  split <;> omega
