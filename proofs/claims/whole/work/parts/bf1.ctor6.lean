/-! DayProfilesModel(), from its entry. -/
theorem grow9 {D : va_G} {n k : Nat} {x y : va_E} {xs : List va_E} {H : Heap} (hL : Lay D n ((x :: xs) ++ [y]) H) (hx : xs.length = k) : ∃ xs1 : List va_E, Lay D n (x :: xs1) H ∧ xs1.length = k + 1 ∧ xs1 = xs ++ [y] := ⟨xs ++ [y], hL, by rw [List.length_append, hx]; rfl, rfl⟩
theorem put9 {D : va_G} {n K j : Nat} {v : Value} {fs : List Value} {xs : List va_E} {H : Heap} (hL : Lay D n ((.inr (9, fs) :: xs).set 0 (.inr (9, fs.set j v))) H) (hf : fs.length = K) : ∃ fs1 : List Value, Lay D n (.inr (9, fs1) :: xs) H ∧ fs1.length = K ∧ fs1 = fs.set j v := ⟨fs.set j v, hL, by rw [List.length_set, hf], rfl⟩
theorem len9 {n k a : Nat} {x : va_E} {xs : List va_E} (hx : xs.length = k) (ha : n + (k + 1) = a) : n + (x :: xs).length = a := by rw [List.length_cons, hx, ha]
set_option maxRecDepth 40000 in
set_option maxHeartbeats 20000000 in
theorem ctX9 (l : Launch) (D : va_G) (cy : Nat → ClassId) (h a1 a2 a3 : Nat) : Met l yX9_init (WSI yX9_init cX9_init 1) (rmI 2 21 5032 80) (Ct9P D cy h a1 a2 a3) (Ct9Q D cy h a1 a2 a3) 21 5032 (fun q => h ≤ q) := by
  sorry
