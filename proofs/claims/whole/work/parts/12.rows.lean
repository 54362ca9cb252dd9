theorem a_iconst {M : Mth} {Q : Option Av → Sto → Prop} {pc : Nat} {ls : List (Nat × Av)} {rest : List Av} {σ : Sto} {n : Int} (hd : decode M.2.1 pc = .ok (.iconst n, 1)) (k : RunA M Q (pc + 1) ls (ai n :: rest) σ) : RunA M Q pc ls rest σ := by
  intro l p e s m args below meth c D ad cy A H locs hG hP hD hS lsC hl
  exact lv_iconst hG.1 hG.2.1 hd rfl (k l p e s m args below meth c D ad cy A H locs hG hP hD hS lsC hl)
theorem a_bipush {M : Mth} {Q : Option Av → Sto → Prop} {pc : Nat} {ls : List (Nat × Av)} {rest : List Av} {σ : Sto} {n x : Int} (hd : decode M.2.1 pc = .ok (.bipush n, 2)) (hv : (Int8.ofInt n).toInt32 = Int32.ofInt x) (k : RunA M Q (pc + 2) ls (ai x :: rest) σ) : RunA M Q pc ls rest σ := by
  intro l p e s m args below meth c D ad cy A H locs hG hP hD hS lsC hl
  exact lv_bipush hG.1 hG.2.1 hd hv (k l p e s m args below meth c D ad cy A H locs hG hP hD hS lsC hl)
theorem a_sipush {M : Mth} {Q : Option Av → Sto → Prop} {pc : Nat} {ls : List (Nat × Av)} {rest : List Av} {σ : Sto} {n x : Int} (hd : decode M.2.1 pc = .ok (.sipush n, 3)) (hv : (Int16.ofInt n).toInt32 = Int32.ofInt x) (k : RunA M Q (pc + 3) ls (ai x :: rest) σ) : RunA M Q pc ls rest σ := by
  intro l p e s m args below meth c D ad cy A H locs hG hP hD hS lsC hl
  exact lv_sipush hG.1 hG.2.1 hd hv (k l p e s m args below meth c D ad cy A H locs hG hP hD hS lsC hl)
theorem a_ldc {M : Mth} {Q : Option Av → Sto → Prop} {pc : Nat} {ls : List (Nat × Av)} {rest : List Av} {σ : Sto} {v : Int32} {x : Int} {idx : Nat} (hc : Cond.constant M.1.cls idx v ∈ Gw) (hv : v = Int32.ofInt x) (hd : decode M.2.1 pc = .ok (.ldc idx, 2)) (k : RunA M Q (pc + 2) ls (ai x :: rest) σ) : RunA M Q pc ls rest σ := by
  intro l p e s m args below meth c D ad cy A H locs hG hP hD hS lsC hl
  subst hv
  exact lv_ldc hG.1 hG.2.1 hG.2.2.2.2.1 (hG.2.2.2.2.2.1 _ (List.mem_cons_of_mem _ hc)) hd (k l p e s m args below meth c D ad cy A H locs hG hP hD hS lsC hl)
theorem a_ldc_w {M : Mth} {Q : Option Av → Sto → Prop} {pc : Nat} {ls : List (Nat × Av)} {rest : List Av} {σ : Sto} {v : Int32} {x : Int} {idx : Nat} (hc : Cond.constant M.1.cls idx v ∈ Gw) (hv : v = Int32.ofInt x) (hd : decode M.2.1 pc = .ok (.ldc_w idx, 3)) (k : RunA M Q (pc + 3) ls (ai x :: rest) σ) : RunA M Q pc ls rest σ := by
  intro l p e s m args below meth c D ad cy A H locs hG hP hD hS lsC hl
  subst hv
  exact lv_ldcw hG.1 hG.2.1 hG.2.2.2.2.1 (hG.2.2.2.2.2.1 _ (List.mem_cons_of_mem _ hc)) hd (k l p e s m args below meth c D ad cy A H locs hG hP hD hS lsC hl)
theorem a_ldc2 {M : Mth} {Q : Option Av → Sto → Prop} {pc : Nat} {ls : List (Nat × Av)} {rest : List Av} {σ : Sto} {v : Int64} {idx : Nat} (hc : Cond.constantLong M.1.cls idx v ∈ Gw) (hd : decode M.2.1 pc = .ok (.ldc2_w idx, 3)) (k : RunA M Q (pc + 3) ls (al v :: rest) σ) : RunA M Q pc ls rest σ := by
  intro l p e s m args below meth c D ad cy A H locs hG hP hD hS lsC hl
  exact lv_ldc2 hG.1 hG.2.1 hG.2.2.2.2.1 (hG.2.2.2.2.2.1 _ (List.mem_cons_of_mem _ hc)) hd (k l p e s m args below meth c D ad cy A H locs hG hP hD hS lsC hl)
theorem a_lconst {M : Mth} {Q : Option Av → Sto → Prop} {pc : Nat} {ls : List (Nat × Av)} {rest : List Av} {σ : Sto} {n : Fin 2} {v : Int64} (hd : decode M.2.1 pc = .ok (.lconst n, 1)) (hv : Int64.ofNat (n : Nat) = v) (k : RunA M Q (pc + 1) ls (al v :: rest) σ) : RunA M Q pc ls rest σ := by
  intro l p e s m args below meth c D ad cy A H locs hG hP hD hS lsC hl
  exact lv_lconst hG.1 hG.2.1 hd hv (k l p e s m args below meth c D ad cy A H locs hG hP hD hS lsC hl)
theorem a_iload_n {M : Mth} {Q : Option Av → Sto → Prop} {pc : Nat} {ls : List (Nat × Av)} {rest : List Av} {σ : Sto} {i : Fin 4} {j : Nat} {x : Int} (hd : decode M.2.1 pc = .ok (.iload_n i, 1)) (hi : (i : Nat) = j) (hx : lkA ls j = some (ai x)) (k : RunA M Q (pc + 1) ls (ai x :: rest) σ) : RunA M Q pc ls rest σ := by
  intro l p e s m args below meth c D ad cy A H locs hG hP hD hS lsC hl
  exact lv_iload_n hG.1 hG.2.1 hd hi (lk_at hl hx) (k l p e s m args below meth c D ad cy A H locs hG hP hD hS lsC hl)
theorem a_iload {M : Mth} {Q : Option Av → Sto → Prop} {pc : Nat} {ls : List (Nat × Av)} {rest : List Av} {σ : Sto} {i : Nat} {x : Int} (hd : decode M.2.1 pc = .ok (.iload i, 2)) (hx : lkA ls i = some (ai x)) (k : RunA M Q (pc + 2) ls (ai x :: rest) σ) : RunA M Q pc ls rest σ := by
  intro l p e s m args below meth c D ad cy A H locs hG hP hD hS lsC hl
  exact lv_iload hG.1 hG.2.1 hd (lk_at hl hx) (k l p e s m args below meth c D ad cy A H locs hG hP hD hS lsC hl)
theorem a_istore_n {M : Mth} {Q : Option Av → Sto → Prop} {pc : Nat} {ls : List (Nat × Av)} {rest : List Av} {σ : Sto} {i : Fin 4} {j : Nat} {x : Int} {ls' : List (Nat × Av)} (hd : decode M.2.1 pc = .ok (.istore_n i, 1)) (hi : (i : Nat) = j) (hn : j < M.2.2.1) (hs : stI j (ai x) ls = ls') (k : RunA M Q (pc + 1) ls' rest σ) : RunA M Q pc ls (ai x :: rest) σ := by
  intro l p e s m args below meth c D ad cy A H locs hG hP hD hS lsC hl
  subst hs
  exact lv_istore_n hG.1 hG.2.1 hd hi hl hn (cvl_stI ad j (ai x) ls) (fun lsC hl => k l p e s m args below meth c D ad cy A H locs hG hP hD hS lsC hl)
theorem a_istore {M : Mth} {Q : Option Av → Sto → Prop} {pc : Nat} {ls : List (Nat × Av)} {rest : List Av} {σ : Sto} {j : Nat} {x : Int} {ls' : List (Nat × Av)} (hd : decode M.2.1 pc = .ok (.istore j, 2)) (hn : j < M.2.2.1) (hs : stI j (ai x) ls = ls') (k : RunA M Q (pc + 2) ls' rest σ) : RunA M Q pc ls (ai x :: rest) σ := by
  intro l p e s m args below meth c D ad cy A H locs hG hP hD hS lsC hl
  subst hs
  exact lv_istore hG.1 hG.2.1 hd hl hn (cvl_stI ad j (ai x) ls) (fun lsC hl => k l p e s m args below meth c D ad cy A H locs hG hP hD hS lsC hl)
theorem a_lload_n {M : Mth} {Q : Option Av → Sto → Prop} {pc : Nat} {ls : List (Nat × Av)} {rest : List Av} {σ : Sto} {i : Fin 4} {j : Nat} {x : Int64} (hd : decode M.2.1 pc = .ok (.lload_n i, 1)) (hi : (i : Nat) = j) (hx : lkA ls j = some (al x)) (k : RunA M Q (pc + 1) ls (al x :: rest) σ) : RunA M Q pc ls rest σ := by
  intro l p e s m args below meth c D ad cy A H locs hG hP hD hS lsC hl
  exact lv_lload_n hG.1 hG.2.1 hd hi (lk_at hl hx) (k l p e s m args below meth c D ad cy A H locs hG hP hD hS lsC hl)
theorem a_lload {M : Mth} {Q : Option Av → Sto → Prop} {pc : Nat} {ls : List (Nat × Av)} {rest : List Av} {σ : Sto} {i : Nat} {x : Int64} (hd : decode M.2.1 pc = .ok (.lload i, 2)) (hx : lkA ls i = some (al x)) (k : RunA M Q (pc + 2) ls (al x :: rest) σ) : RunA M Q pc ls rest σ := by
  intro l p e s m args below meth c D ad cy A H locs hG hP hD hS lsC hl
  exact lv_lload hG.1 hG.2.1 hd (lk_at hl hx) (k l p e s m args below meth c D ad cy A H locs hG hP hD hS lsC hl)
theorem a_lstore_n {M : Mth} {Q : Option Av → Sto → Prop} {pc : Nat} {ls : List (Nat × Av)} {rest : List Av} {σ : Sto} {i : Fin 4} {j : Nat} {x : Int64} {ls' : List (Nat × Av)} (hd : decode M.2.1 pc = .ok (.lstore_n i, 1)) (hi : (i : Nat) = j) (hn : j + 1 < M.2.2.1) (hs : stL j (al x) ls = ls') (k : RunA M Q (pc + 1) ls' rest σ) : RunA M Q pc ls (al x :: rest) σ := by
  intro l p e s m args below meth c D ad cy A H locs hG hP hD hS lsC hl
  subst hs
  exact lv_lstore_n hG.1 hG.2.1 hd hi hl hn (cvl_stL ad j (al x) ls) (fun lsC hl => k l p e s m args below meth c D ad cy A H locs hG hP hD hS lsC hl)
theorem a_lstore {M : Mth} {Q : Option Av → Sto → Prop} {pc : Nat} {ls : List (Nat × Av)} {rest : List Av} {σ : Sto} {j : Nat} {x : Int64} {ls' : List (Nat × Av)} (hd : decode M.2.1 pc = .ok (.lstore j, 2)) (hn : j + 1 < M.2.2.1) (hs : stL j (al x) ls = ls') (k : RunA M Q (pc + 2) ls' rest σ) : RunA M Q pc ls (al x :: rest) σ := by
  intro l p e s m args below meth c D ad cy A H locs hG hP hD hS lsC hl
  subst hs
  exact lv_lstore hG.1 hG.2.1 hd hl hn (cvl_stL ad j (al x) ls) (fun lsC hl => k l p e s m args below meth c D ad cy A H locs hG hP hD hS lsC hl)
theorem a_aload_n {M : Mth} {Q : Option Av → Sto → Prop} {pc : Nat} {ls : List (Nat × Av)} {rest : List Av} {σ : Sto} {i : Fin 4} {j : Nat} {x : Nat} (hd : decode M.2.1 pc = .ok (.aload_n i, 1)) (hi : (i : Nat) = j) (hx : lkA ls j = some (ar x)) (k : RunA M Q (pc + 1) ls (ar x :: rest) σ) : RunA M Q pc ls rest σ := by
  intro l p e s m args below meth c D ad cy A H locs hG hP hD hS lsC hl
  exact lv_aload_n hG.1 hG.2.1 hd hi (lk_at hl hx) (k l p e s m args below meth c D ad cy A H locs hG hP hD hS lsC hl)
theorem a_aload {M : Mth} {Q : Option Av → Sto → Prop} {pc : Nat} {ls : List (Nat × Av)} {rest : List Av} {σ : Sto} {i : Nat} {x : Nat} (hd : decode M.2.1 pc = .ok (.aload i, 2)) (hx : lkA ls i = some (ar x)) (k : RunA M Q (pc + 2) ls (ar x :: rest) σ) : RunA M Q pc ls rest σ := by
  intro l p e s m args below meth c D ad cy A H locs hG hP hD hS lsC hl
  exact lv_aload hG.1 hG.2.1 hd (lk_at hl hx) (k l p e s m args below meth c D ad cy A H locs hG hP hD hS lsC hl)
theorem a_astore_n {M : Mth} {Q : Option Av → Sto → Prop} {pc : Nat} {ls : List (Nat × Av)} {rest : List Av} {σ : Sto} {i : Fin 4} {j : Nat} {x : Nat} {ls' : List (Nat × Av)} (hd : decode M.2.1 pc = .ok (.astore_n i, 1)) (hi : (i : Nat) = j) (hn : j < M.2.2.1) (hs : stI j (ar x) ls = ls') (k : RunA M Q (pc + 1) ls' rest σ) : RunA M Q pc ls (ar x :: rest) σ := by
  intro l p e s m args below meth c D ad cy A H locs hG hP hD hS lsC hl
  subst hs
  exact lv_astore_n hG.1 hG.2.1 hd hi hl hn (cvl_stI ad j (ar x) ls) (fun lsC hl => k l p e s m args below meth c D ad cy A H locs hG hP hD hS lsC hl)
theorem a_astore {M : Mth} {Q : Option Av → Sto → Prop} {pc : Nat} {ls : List (Nat × Av)} {rest : List Av} {σ : Sto} {j : Nat} {x : Nat} {ls' : List (Nat × Av)} (hd : decode M.2.1 pc = .ok (.astore j, 2)) (hn : j < M.2.2.1) (hs : stI j (ar x) ls = ls') (k : RunA M Q (pc + 2) ls' rest σ) : RunA M Q pc ls (ar x :: rest) σ := by
  intro l p e s m args below meth c D ad cy A H locs hG hP hD hS lsC hl
  subst hs
  exact lv_astore hG.1 hG.2.1 hd hl hn (cvl_stI ad j (ar x) ls) (fun lsC hl => k l p e s m args below meth c D ad cy A H locs hG hP hD hS lsC hl)
theorem cvl_get {ad : Nat → Nat} : ∀ {ls : List (Nat × Av)} {i : Nat} {v : Av}, lkA ls i = some v → ∃ k : Nat, (cvl ad ls)[k]? = some (i, cv ad v)
  | [], _, _, h => by cases h
  | q :: t, i, v, h => by
    unfold lkA at h
    by_cases hq : q.1 = i
    · rw [if_pos hq] at h
      cases h
      exact ⟨0, by rw [← hq]; rfl⟩
    · rw [if_neg hq] at h
      obtain ⟨k, hk⟩ := cvl_get (ad := ad) h
      exact ⟨k + 1, by exact hk⟩
theorem a_iinc {M : Mth} {Q : Option Av → Sto → Prop} {pc : Nat} {ls : List (Nat × Av)} {rest : List Av} {σ : Sto} {j : Nat} {n x y : Int} {ls' : List (Nat × Av)} (hd : decode M.2.1 pc = .ok (.iinc j n, 3)) (hx : lkA ls j = some (ai x)) (hy : x + n = y) (hn : j < M.2.2.1) (hs : stI j (ai y) ls = ls') (k : RunA M Q (pc + 3) ls' rest σ) : RunA M Q pc ls rest σ := by
  intro l p e s m args below meth c D ad cy A H locs hG hP hD hS lsC hl
  subst hs
  subst hy
  obtain ⟨k0, hk0⟩ := cvl_get (ad := ad) hx
  exact lv_iinc hG.1 hG.2.1 hd hl hk0 (by rw [Int32.ofInt_add]) hn (cvl_stI ad j (ai (x + n)) ls) (fun lsC hl => k l p e s m args below meth c D ad cy A H locs hG hP hD hS lsC hl)
theorem a_iadd {M : Mth} {Q : Option Av → Sto → Prop} {pc : Nat} {ls : List (Nat × Av)} {rest : List Av} {σ : Sto} {x y : Int} (hd : decode M.2.1 pc = .ok (.iadd, 1)) (k : RunA M Q (pc + 1) ls (ai (x + y) :: rest) σ) : RunA M Q pc ls (ai y :: ai x :: rest) σ := by
  intro l p e s m args below meth c D ad cy A H locs hG hP hD hS lsC hl
  refine lv_iadd hG.1 hG.2.1 hd ?_
  rw [← Int32.ofInt_add]
  exact k l p e s m args below meth c D ad cy A H locs hG hP hD hS lsC hl
theorem a_isub {M : Mth} {Q : Option Av → Sto → Prop} {pc : Nat} {ls : List (Nat × Av)} {rest : List Av} {σ : Sto} {x y : Int} (hd : decode M.2.1 pc = .ok (.isub, 1)) (k : RunA M Q (pc + 1) ls (ai (x - y) :: rest) σ) : RunA M Q pc ls (ai y :: ai x :: rest) σ := by
  intro l p e s m args below meth c D ad cy A H locs hG hP hD hS lsC hl
  refine lv_isub hG.1 hG.2.1 hd ?_
  rw [← Int32.ofInt_sub]
  exact k l p e s m args below meth c D ad cy A H locs hG hP hD hS lsC hl
theorem a_imul {M : Mth} {Q : Option Av → Sto → Prop} {pc : Nat} {ls : List (Nat × Av)} {rest : List Av} {σ : Sto} {x y : Int} (hd : decode M.2.1 pc = .ok (.imul, 1)) (k : RunA M Q (pc + 1) ls (ai (x * y) :: rest) σ) : RunA M Q pc ls (ai y :: ai x :: rest) σ := by
  intro l p e s m args below meth c D ad cy A H locs hG hP hD hS lsC hl
  refine lv_imul hG.1 hG.2.1 hd ?_
  rw [← Int32.ofInt_mul]
  exact k l p e s m args below meth c D ad cy A H locs hG hP hD hS lsC hl
theorem a_ineg {M : Mth} {Q : Option Av → Sto → Prop} {pc : Nat} {ls : List (Nat × Av)} {rest : List Av} {σ : Sto} {x : Int} (hd : decode M.2.1 pc = .ok (.ineg, 1)) (k : RunA M Q (pc + 1) ls (ai (-x) :: rest) σ) : RunA M Q pc ls (ai x :: rest) σ := by
  intro l p e s m args below meth c D ad cy A H locs hG hP hD hS lsC hl
  refine lv_ineg hG.1 hG.2.1 hd ?_
  rw [← Int32.ofInt_neg]
  exact k l p e s m args below meth c D ad cy A H locs hG hP hD hS lsC hl
theorem a_iand {M : Mth} {Q : Option Av → Sto → Prop} {pc : Nat} {ls : List (Nat × Av)} {rest : List Av} {σ : Sto} {x y z : Int} (hd : decode M.2.1 pc = .ok (.iand, 1)) (hz : Int32.ofInt x &&& Int32.ofInt y = Int32.ofInt z) (k : RunA M Q (pc + 1) ls (ai z :: rest) σ) : RunA M Q pc ls (ai y :: ai x :: rest) σ := by
  intro l p e s m args below meth c D ad cy A H locs hG hP hD hS lsC hl
  refine lv_iand hG.1 hG.2.1 hd ?_
  rw [hz]
  exact k l p e s m args below meth c D ad cy A H locs hG hP hD hS lsC hl
theorem a_ior {M : Mth} {Q : Option Av → Sto → Prop} {pc : Nat} {ls : List (Nat × Av)} {rest : List Av} {σ : Sto} {x y z : Int} (hd : decode M.2.1 pc = .ok (.ior, 1)) (hz : Int32.ofInt x ||| Int32.ofInt y = Int32.ofInt z) (k : RunA M Q (pc + 1) ls (ai z :: rest) σ) : RunA M Q pc ls (ai y :: ai x :: rest) σ := by
  intro l p e s m args below meth c D ad cy A H locs hG hP hD hS lsC hl
  refine lv_ior hG.1 hG.2.1 hd ?_
  rw [hz]
  exact k l p e s m args below meth c D ad cy A H locs hG hP hD hS lsC hl
theorem a_ixor {M : Mth} {Q : Option Av → Sto → Prop} {pc : Nat} {ls : List (Nat × Av)} {rest : List Av} {σ : Sto} {x y z : Int} (hd : decode M.2.1 pc = .ok (.ixor, 1)) (hz : Int32.ofInt x ^^^ Int32.ofInt y = Int32.ofInt z) (k : RunA M Q (pc + 1) ls (ai z :: rest) σ) : RunA M Q pc ls (ai y :: ai x :: rest) σ := by
  intro l p e s m args below meth c D ad cy A H locs hG hP hD hS lsC hl
  refine lv_ixor hG.1 hG.2.1 hd ?_
  rw [hz]
  exact k l p e s m args below meth c D ad cy A H locs hG hP hD hS lsC hl
theorem a_ishl {M : Mth} {Q : Option Av → Sto → Prop} {pc : Nat} {ls : List (Nat × Av)} {rest : List Av} {σ : Sto} {x y z : Int} (hd : decode M.2.1 pc = .ok (.ishl, 1)) (hz : Int32.ofInt x <<< (Int32.ofInt y &&& 31) = Int32.ofInt z) (k : RunA M Q (pc + 1) ls (ai z :: rest) σ) : RunA M Q pc ls (ai y :: ai x :: rest) σ := by
  intro l p e s m args below meth c D ad cy A H locs hG hP hD hS lsC hl
  refine lv_ishl hG.1 hG.2.1 hd ?_
  rw [hz]
  exact k l p e s m args below meth c D ad cy A H locs hG hP hD hS lsC hl
theorem a_ishr {M : Mth} {Q : Option Av → Sto → Prop} {pc : Nat} {ls : List (Nat × Av)} {rest : List Av} {σ : Sto} {x y z : Int} (hd : decode M.2.1 pc = .ok (.ishr, 1)) (hz : Int32.ofInt x >>> (Int32.ofInt y &&& 31) = Int32.ofInt z) (k : RunA M Q (pc + 1) ls (ai z :: rest) σ) : RunA M Q pc ls (ai y :: ai x :: rest) σ := by
  intro l p e s m args below meth c D ad cy A H locs hG hP hD hS lsC hl
  refine lv_ishr hG.1 hG.2.1 hd ?_
  rw [hz]
  exact k l p e s m args below meth c D ad cy A H locs hG hP hD hS lsC hl
theorem a_idiv {M : Mth} {Q : Option Av → Sto → Prop} {pc : Nat} {ls : List (Nat × Av)} {rest : List Av} {σ : Sto} {x y z : Int} (hd : decode M.2.1 pc = .ok (.idiv, 1)) (h0 : ¬ Int32.ofInt y = 0) (hz : Int32.ofInt x / Int32.ofInt y = Int32.ofInt z) (k : RunA M Q (pc + 1) ls (ai z :: rest) σ) : RunA M Q pc ls (ai y :: ai x :: rest) σ := by
  intro l p e s m args below meth c D ad cy A H locs hG hP hD hS lsC hl
  refine lv_idiv hG.1 hG.2.1 hd h0 ?_
  rw [hz]
  exact k l p e s m args below meth c D ad cy A H locs hG hP hD hS lsC hl
theorem a_irem {M : Mth} {Q : Option Av → Sto → Prop} {pc : Nat} {ls : List (Nat × Av)} {rest : List Av} {σ : Sto} {x y z : Int} (hd : decode M.2.1 pc = .ok (.irem, 1)) (h0 : ¬ Int32.ofInt y = 0) (hz : Int32.ofInt x - Int32.ofInt x / Int32.ofInt y * Int32.ofInt y = Int32.ofInt z) (k : RunA M Q (pc + 1) ls (ai z :: rest) σ) : RunA M Q pc ls (ai y :: ai x :: rest) σ := by
  intro l p e s m args below meth c D ad cy A H locs hG hP hD hS lsC hl
  refine lv_irem hG.1 hG.2.1 hd h0 ?_
  rw [hz]
  exact k l p e s m args below meth c D ad cy A H locs hG hP hD hS lsC hl
theorem a_ladd {M : Mth} {Q : Option Av → Sto → Prop} {pc : Nat} {ls : List (Nat × Av)} {rest : List Av} {σ : Sto} {x y : Int64} (hd : decode M.2.1 pc = .ok (.ladd, 1)) (k : RunA M Q (pc + 1) ls (al (x + y) :: rest) σ) : RunA M Q pc ls (al y :: al x :: rest) σ := by
  intro l p e s m args below meth c D ad cy A H locs hG hP hD hS lsC hl
  exact lv_ladd hG.1 hG.2.1 hd (k l p e s m args below meth c D ad cy A H locs hG hP hD hS lsC hl)
theorem a_land {M : Mth} {Q : Option Av → Sto → Prop} {pc : Nat} {ls : List (Nat × Av)} {rest : List Av} {σ : Sto} {x y : Int64} (hd : decode M.2.1 pc = .ok (.land, 1)) (k : RunA M Q (pc + 1) ls (al (x &&& y) :: rest) σ) : RunA M Q pc ls (al y :: al x :: rest) σ := by
  intro l p e s m args below meth c D ad cy A H locs hG hP hD hS lsC hl
  exact lv_land hG.1 hG.2.1 hd (k l p e s m args below meth c D ad cy A H locs hG hP hD hS lsC hl)
theorem a_lor {M : Mth} {Q : Option Av → Sto → Prop} {pc : Nat} {ls : List (Nat × Av)} {rest : List Av} {σ : Sto} {x y : Int64} (hd : decode M.2.1 pc = .ok (.lor, 1)) (k : RunA M Q (pc + 1) ls (al (x ||| y) :: rest) σ) : RunA M Q pc ls (al y :: al x :: rest) σ := by
  intro l p e s m args below meth c D ad cy A H locs hG hP hD hS lsC hl
  exact lv_lor hG.1 hG.2.1 hd (k l p e s m args below meth c D ad cy A H locs hG hP hD hS lsC hl)
theorem a_lxor {M : Mth} {Q : Option Av → Sto → Prop} {pc : Nat} {ls : List (Nat × Av)} {rest : List Av} {σ : Sto} {x y : Int64} (hd : decode M.2.1 pc = .ok (.lxor, 1)) (k : RunA M Q (pc + 1) ls (al (x ^^^ y) :: rest) σ) : RunA M Q pc ls (al y :: al x :: rest) σ := by
  intro l p e s m args below meth c D ad cy A H locs hG hP hD hS lsC hl
  exact lv_lxor hG.1 hG.2.1 hd (k l p e s m args below meth c D ad cy A H locs hG hP hD hS lsC hl)
theorem a_ldiv {M : Mth} {Q : Option Av → Sto → Prop} {pc : Nat} {ls : List (Nat × Av)} {rest : List Av} {σ : Sto} {x y : Int64} (hd : decode M.2.1 pc = .ok (.ldiv, 1)) (h0 : ¬ y = 0) (k : RunA M Q (pc + 1) ls (al (x / y) :: rest) σ) : RunA M Q pc ls (al y :: al x :: rest) σ := by
  intro l p e s m args below meth c D ad cy A H locs hG hP hD hS lsC hl
  exact lv_ldiv hG.1 hG.2.1 hd h0 (k l p e s m args below meth c D ad cy A H locs hG hP hD hS lsC hl)
def shlL (x : Int64) (i : Int) : Int64 := x <<< ((Int32.ofInt i).toInt64 &&& 63)
def shrL (x : Int64) (i : Int) : Int64 := x >>> ((Int32.ofInt i).toInt64 &&& 63)
def ushrL (x : Int64) (i : Int) : Int64 := (x.toUInt64 >>> ((Int32.ofInt i).toInt64.toUInt64 &&& Int64.toUInt64 63)).toInt64
theorem a_lshl {M : Mth} {Q : Option Av → Sto → Prop} {pc : Nat} {ls : List (Nat × Av)} {rest : List Av} {σ : Sto} {x : Int64} {y : Int} (hd : decode M.2.1 pc = .ok (.lshl, 1)) (k : RunA M Q (pc + 1) ls (al (shlL x y) :: rest) σ) : RunA M Q pc ls (ai y :: al x :: rest) σ := by
  intro l p e s m args below meth c D ad cy A H locs hG hP hD hS lsC hl
  exact lv_lshl hG.1 hG.2.1 hd rfl (k l p e s m args below meth c D ad cy A H locs hG hP hD hS lsC hl)
theorem a_lshr {M : Mth} {Q : Option Av → Sto → Prop} {pc : Nat} {ls : List (Nat × Av)} {rest : List Av} {σ : Sto} {x : Int64} {y : Int} (hd : decode M.2.1 pc = .ok (.lshr, 1)) (k : RunA M Q (pc + 1) ls (al (shrL x y) :: rest) σ) : RunA M Q pc ls (ai y :: al x :: rest) σ := by
  intro l p e s m args below meth c D ad cy A H locs hG hP hD hS lsC hl
  exact lv_lshr hG.1 hG.2.1 hd rfl (k l p e s m args below meth c D ad cy A H locs hG hP hD hS lsC hl)
theorem a_lushr {M : Mth} {Q : Option Av → Sto → Prop} {pc : Nat} {ls : List (Nat × Av)} {rest : List Av} {σ : Sto} {x : Int64} {y : Int} (hd : decode M.2.1 pc = .ok (.lushr, 1)) (k : RunA M Q (pc + 1) ls (al (ushrL x y) :: rest) σ) : RunA M Q pc ls (ai y :: al x :: rest) σ := by
  intro l p e s m args below meth c D ad cy A H locs hG hP hD hS lsC hl
  exact lv_lushr hG.1 hG.2.1 hd rfl (k l p e s m args below meth c D ad cy A H locs hG hP hD hS lsC hl)
theorem a_i2l {M : Mth} {Q : Option Av → Sto → Prop} {pc : Nat} {ls : List (Nat × Av)} {rest : List Av} {σ : Sto} {x : Int} (hd : decode M.2.1 pc = .ok (.i2l, 1)) (k : RunA M Q (pc + 1) ls (al (Int32.ofInt x).toInt64 :: rest) σ) : RunA M Q pc ls (ai x :: rest) σ := by
  intro l p e s m args below meth c D ad cy A H locs hG hP hD hS lsC hl
  exact lv_i2l hG.1 hG.2.1 hd rfl (k l p e s m args below meth c D ad cy A H locs hG hP hD hS lsC hl)
theorem a_l2i {M : Mth} {Q : Option Av → Sto → Prop} {pc : Nat} {ls : List (Nat × Av)} {rest : List Av} {σ : Sto} {x : Int64} {z : Int} (hd : decode M.2.1 pc = .ok (.l2i, 1)) (hz : x.toInt32 = Int32.ofInt z) (k : RunA M Q (pc + 1) ls (ai z :: rest) σ) : RunA M Q pc ls (al x :: rest) σ := by
  intro l p e s m args below meth c D ad cy A H locs hG hP hD hS lsC hl
  exact lv_l2i hG.1 hG.2.1 hd hz (k l p e s m args below meth c D ad cy A H locs hG hP hD hS lsC hl)
theorem a_i2b {M : Mth} {Q : Option Av → Sto → Prop} {pc : Nat} {ls : List (Nat × Av)} {rest : List Av} {σ : Sto} {x z : Int} (hd : decode M.2.1 pc = .ok (.i2b, 1)) (hz : (Int32.ofInt x).toInt8.toInt32 = Int32.ofInt z) (k : RunA M Q (pc + 1) ls (ai z :: rest) σ) : RunA M Q pc ls (ai x :: rest) σ := by
  intro l p e s m args below meth c D ad cy A H locs hG hP hD hS lsC hl
  exact lv_i2b hG.1 hG.2.1 hd hz (k l p e s m args below meth c D ad cy A H locs hG hP hD hS lsC hl)
theorem cv_c1 {ad : Nat → Nat} {v : Av} (h : isLg v = false) : (cv ad v).category = 1 := by
  rcases v with x | x | x
  · rfl
  · cases h
  · cases x <;> rfl
theorem a_dup {M : Mth} {Q : Option Av → Sto → Prop} {pc : Nat} {ls : List (Nat × Av)} {rest : List Av} {σ : Sto} {v : Av} (hd : decode M.2.1 pc = .ok (.dup, 1)) (hv : isLg v = false) (k : RunA M Q (pc + 1) ls (v :: v :: rest) σ) : RunA M Q pc ls (v :: rest) σ := by
  intro l p e s m args below meth c D ad cy A H locs hG hP hD hS lsC hl
  exact lv_dup hG.1 hG.2.1 hd (cv_c1 hv) (k l p e s m args below meth c D ad cy A H locs hG hP hD hS lsC hl)
theorem a_pop {M : Mth} {Q : Option Av → Sto → Prop} {pc : Nat} {ls : List (Nat × Av)} {rest : List Av} {σ : Sto} {v : Av} (hd : decode M.2.1 pc = .ok (.pop, 1)) (hv : isLg v = false) (k : RunA M Q (pc + 1) ls rest σ) : RunA M Q pc ls (v :: rest) σ := by
  intro l p e s m args below meth c D ad cy A H locs hG hP hD hS lsC hl
  exact lv_pop hG.1 hG.2.1 hd (cv_c1 hv) (k l p e s m args below meth c D ad cy A H locs hG hP hD hS lsC hl)
theorem a_dup_x1 {M : Mth} {Q : Option Av → Sto → Prop} {pc : Nat} {ls : List (Nat × Av)} {rest : List Av} {σ : Sto} {v w : Av} (hd : decode M.2.1 pc = .ok (.dup_x1, 1)) (hv : isLg v = false) (hw : isLg w = false) (k : RunA M Q (pc + 1) ls (v :: w :: v :: rest) σ) : RunA M Q pc ls (v :: w :: rest) σ := by
  intro l p e s m args below meth c D ad cy A H locs hG hP hD hS lsC hl
  exact lv_dup_x1 hG.1 hG.2.1 hd (cv_c1 hv) (cv_c1 hw) (k l p e s m args below meth c D ad cy A H locs hG hP hD hS lsC hl)
theorem a_dup2 {M : Mth} {Q : Option Av → Sto → Prop} {pc : Nat} {ls : List (Nat × Av)} {rest : List Av} {σ : Sto} {v w : Av} (hd : decode M.2.1 pc = .ok (.dup2, 1)) (hv : isLg v = false) (hw : isLg w = false) (k : RunA M Q (pc + 1) ls (v :: w :: v :: w :: rest) σ) : RunA M Q pc ls (v :: w :: rest) σ := by
  intro l p e s m args below meth c D ad cy A H locs hG hP hD hS lsC hl
  exact lv_dup2_11 hG.1 hG.2.1 hd (cv_c1 hv) (cv_c1 hw) (k l p e s m args below meth c D ad cy A H locs hG hP hD hS lsC hl)
theorem i_eq {x y : Int} (hx : inR x) (hy : inR y) : Int32.ofInt x = Int32.ofInt y ↔ x = y := ⟨fun h => by rw [← toInt_of_inR hx, ← toInt_of_inR hy, h], fun h => by rw [h]⟩
theorem i_le {x y : Int} (hx : inR x) (hy : inR y) : Int32.ofInt x ≤ Int32.ofInt y ↔ x ≤ y := by rw [Int32.le_iff_toInt_le, toInt_of_inR hx, toInt_of_inR hy]
theorem i_lt {x y : Int} (hx : inR x) (hy : inR y) : Int32.ofInt x < Int32.ofInt y ↔ x < y := by rw [Int32.lt_iff_toInt_lt, toInt_of_inR hx, toInt_of_inR hy]
theorem inR0 : inR 0 := by unfold inR; omega
theorem a_icmp_eq {M : Mth} {Q : Option Av → Sto → Prop} {pc : Nat} {ls : List (Nat × Av)} {rest : List Av} {σ : Sto} {x y : Int} {off : Int} {tgt : Nat} (hd : decode M.2.1 pc = .ok (.if_icmp .eq off, 3)) (ht : (pc : Int) + off = (tgt : Int)) (hx : inR x) (hy : inR y) (kt : x = y → RunA M Q tgt ls rest σ) (kf : ¬ x = y → RunA M Q (pc + 3) ls rest σ) : RunA M Q pc ls (ai y :: ai x :: rest) σ := by
  intro l p e s m args below meth c D ad cy A H locs hG hP hD hS lsC hl
  exact lv_icmp_eq hG.1 hG.2.1 hd ht (fun q => kt ((i_eq hx hy).mp q) l p e s m args below meth c D ad cy A H locs hG hP hD hS lsC hl) (fun q => kf (fun z => q ((i_eq hx hy).mpr z)) l p e s m args below meth c D ad cy A H locs hG hP hD hS lsC hl)
theorem a_if_eq {M : Mth} {Q : Option Av → Sto → Prop} {pc : Nat} {ls : List (Nat × Av)} {rest : List Av} {σ : Sto} {x : Int} {off : Int} {tgt : Nat} (hd : decode M.2.1 pc = .ok (.ifCond .eq off, 3)) (ht : (pc : Int) + off = (tgt : Int)) (hx : inR x) (kt : x = 0 → RunA M Q tgt ls rest σ) (kf : ¬ x = 0 → RunA M Q (pc + 3) ls rest σ) : RunA M Q pc ls (ai x :: rest) σ := by
  intro l p e s m args below meth c D ad cy A H locs hG hP hD hS lsC hl
  exact lv_if_eq hG.1 hG.2.1 hd ht (fun q => kt ((i_eq hx inR0).mp q) l p e s m args below meth c D ad cy A H locs hG hP hD hS lsC hl) (fun q => kf (fun z => q ((i_eq hx inR0).mpr z)) l p e s m args below meth c D ad cy A H locs hG hP hD hS lsC hl)
theorem a_icmp_ne {M : Mth} {Q : Option Av → Sto → Prop} {pc : Nat} {ls : List (Nat × Av)} {rest : List Av} {σ : Sto} {x y : Int} {off : Int} {tgt : Nat} (hd : decode M.2.1 pc = .ok (.if_icmp .ne off, 3)) (ht : (pc : Int) + off = (tgt : Int)) (hx : inR x) (hy : inR y) (kt : ¬ x = y → RunA M Q tgt ls rest σ) (kf : x = y → RunA M Q (pc + 3) ls rest σ) : RunA M Q pc ls (ai y :: ai x :: rest) σ := by
  intro l p e s m args below meth c D ad cy A H locs hG hP hD hS lsC hl
  exact lv_icmp_ne hG.1 hG.2.1 hd ht (fun q => kt (fun z => q ((i_eq hx hy).mpr z)) l p e s m args below meth c D ad cy A H locs hG hP hD hS lsC hl) (fun q => kf ((i_eq hx hy).mp q) l p e s m args below meth c D ad cy A H locs hG hP hD hS lsC hl)
theorem a_if_ne {M : Mth} {Q : Option Av → Sto → Prop} {pc : Nat} {ls : List (Nat × Av)} {rest : List Av} {σ : Sto} {x : Int} {off : Int} {tgt : Nat} (hd : decode M.2.1 pc = .ok (.ifCond .ne off, 3)) (ht : (pc : Int) + off = (tgt : Int)) (hx : inR x) (kt : ¬ x = 0 → RunA M Q tgt ls rest σ) (kf : x = 0 → RunA M Q (pc + 3) ls rest σ) : RunA M Q pc ls (ai x :: rest) σ := by
  intro l p e s m args below meth c D ad cy A H locs hG hP hD hS lsC hl
  exact lv_if_ne hG.1 hG.2.1 hd ht (fun q => kt (fun z => q ((i_eq hx inR0).mpr z)) l p e s m args below meth c D ad cy A H locs hG hP hD hS lsC hl) (fun q => kf ((i_eq hx inR0).mp q) l p e s m args below meth c D ad cy A H locs hG hP hD hS lsC hl)
theorem a_icmp_lt {M : Mth} {Q : Option Av → Sto → Prop} {pc : Nat} {ls : List (Nat × Av)} {rest : List Av} {σ : Sto} {x y : Int} {off : Int} {tgt : Nat} (hd : decode M.2.1 pc = .ok (.if_icmp .lt off, 3)) (ht : (pc : Int) + off = (tgt : Int)) (hx : inR x) (hy : inR y) (kt : x < y → RunA M Q tgt ls rest σ) (kf : ¬ x < y → RunA M Q (pc + 3) ls rest σ) : RunA M Q pc ls (ai y :: ai x :: rest) σ := by
  intro l p e s m args below meth c D ad cy A H locs hG hP hD hS lsC hl
  exact lv_icmp_lt hG.1 hG.2.1 hd ht (fun q => kt ((i_lt hx hy).mp q) l p e s m args below meth c D ad cy A H locs hG hP hD hS lsC hl) (fun q => kf (fun z => q ((i_lt hx hy).mpr z)) l p e s m args below meth c D ad cy A H locs hG hP hD hS lsC hl)
theorem a_if_lt {M : Mth} {Q : Option Av → Sto → Prop} {pc : Nat} {ls : List (Nat × Av)} {rest : List Av} {σ : Sto} {x : Int} {off : Int} {tgt : Nat} (hd : decode M.2.1 pc = .ok (.ifCond .lt off, 3)) (ht : (pc : Int) + off = (tgt : Int)) (hx : inR x) (kt : x < 0 → RunA M Q tgt ls rest σ) (kf : ¬ x < 0 → RunA M Q (pc + 3) ls rest σ) : RunA M Q pc ls (ai x :: rest) σ := by
  intro l p e s m args below meth c D ad cy A H locs hG hP hD hS lsC hl
  exact lv_if_lt hG.1 hG.2.1 hd ht (fun q => kt ((i_lt hx inR0).mp q) l p e s m args below meth c D ad cy A H locs hG hP hD hS lsC hl) (fun q => kf (fun z => q ((i_lt hx inR0).mpr z)) l p e s m args below meth c D ad cy A H locs hG hP hD hS lsC hl)
theorem a_icmp_ge {M : Mth} {Q : Option Av → Sto → Prop} {pc : Nat} {ls : List (Nat × Av)} {rest : List Av} {σ : Sto} {x y : Int} {off : Int} {tgt : Nat} (hd : decode M.2.1 pc = .ok (.if_icmp .ge off, 3)) (ht : (pc : Int) + off = (tgt : Int)) (hx : inR x) (hy : inR y) (kt : y ≤ x → RunA M Q tgt ls rest σ) (kf : ¬ y ≤ x → RunA M Q (pc + 3) ls rest σ) : RunA M Q pc ls (ai y :: ai x :: rest) σ := by
  intro l p e s m args below meth c D ad cy A H locs hG hP hD hS lsC hl
  exact lv_icmp_ge hG.1 hG.2.1 hd ht (fun q => kt ((i_le hy hx).mp q) l p e s m args below meth c D ad cy A H locs hG hP hD hS lsC hl) (fun q => kf (fun z => q ((i_le hy hx).mpr z)) l p e s m args below meth c D ad cy A H locs hG hP hD hS lsC hl)
theorem a_if_ge {M : Mth} {Q : Option Av → Sto → Prop} {pc : Nat} {ls : List (Nat × Av)} {rest : List Av} {σ : Sto} {x : Int} {off : Int} {tgt : Nat} (hd : decode M.2.1 pc = .ok (.ifCond .ge off, 3)) (ht : (pc : Int) + off = (tgt : Int)) (hx : inR x) (kt : 0 ≤ x → RunA M Q tgt ls rest σ) (kf : ¬ 0 ≤ x → RunA M Q (pc + 3) ls rest σ) : RunA M Q pc ls (ai x :: rest) σ := by
  intro l p e s m args below meth c D ad cy A H locs hG hP hD hS lsC hl
  exact lv_if_ge hG.1 hG.2.1 hd ht (fun q => kt ((i_le inR0 hx).mp q) l p e s m args below meth c D ad cy A H locs hG hP hD hS lsC hl) (fun q => kf (fun z => q ((i_le inR0 hx).mpr z)) l p e s m args below meth c D ad cy A H locs hG hP hD hS lsC hl)
theorem a_icmp_gt {M : Mth} {Q : Option Av → Sto → Prop} {pc : Nat} {ls : List (Nat × Av)} {rest : List Av} {σ : Sto} {x y : Int} {off : Int} {tgt : Nat} (hd : decode M.2.1 pc = .ok (.if_icmp .gt off, 3)) (ht : (pc : Int) + off = (tgt : Int)) (hx : inR x) (hy : inR y) (kt : y < x → RunA M Q tgt ls rest σ) (kf : ¬ y < x → RunA M Q (pc + 3) ls rest σ) : RunA M Q pc ls (ai y :: ai x :: rest) σ := by
  intro l p e s m args below meth c D ad cy A H locs hG hP hD hS lsC hl
  exact lv_icmp_gt hG.1 hG.2.1 hd ht (fun q => kt ((i_lt hy hx).mp q) l p e s m args below meth c D ad cy A H locs hG hP hD hS lsC hl) (fun q => kf (fun z => q ((i_lt hy hx).mpr z)) l p e s m args below meth c D ad cy A H locs hG hP hD hS lsC hl)
theorem a_if_gt {M : Mth} {Q : Option Av → Sto → Prop} {pc : Nat} {ls : List (Nat × Av)} {rest : List Av} {σ : Sto} {x : Int} {off : Int} {tgt : Nat} (hd : decode M.2.1 pc = .ok (.ifCond .gt off, 3)) (ht : (pc : Int) + off = (tgt : Int)) (hx : inR x) (kt : 0 < x → RunA M Q tgt ls rest σ) (kf : ¬ 0 < x → RunA M Q (pc + 3) ls rest σ) : RunA M Q pc ls (ai x :: rest) σ := by
  intro l p e s m args below meth c D ad cy A H locs hG hP hD hS lsC hl
  exact lv_if_gt hG.1 hG.2.1 hd ht (fun q => kt ((i_lt inR0 hx).mp q) l p e s m args below meth c D ad cy A H locs hG hP hD hS lsC hl) (fun q => kf (fun z => q ((i_lt inR0 hx).mpr z)) l p e s m args below meth c D ad cy A H locs hG hP hD hS lsC hl)
theorem a_icmp_le {M : Mth} {Q : Option Av → Sto → Prop} {pc : Nat} {ls : List (Nat × Av)} {rest : List Av} {σ : Sto} {x y : Int} {off : Int} {tgt : Nat} (hd : decode M.2.1 pc = .ok (.if_icmp .le off, 3)) (ht : (pc : Int) + off = (tgt : Int)) (hx : inR x) (hy : inR y) (kt : x ≤ y → RunA M Q tgt ls rest σ) (kf : ¬ x ≤ y → RunA M Q (pc + 3) ls rest σ) : RunA M Q pc ls (ai y :: ai x :: rest) σ := by
  intro l p e s m args below meth c D ad cy A H locs hG hP hD hS lsC hl
  exact lv_icmp_le hG.1 hG.2.1 hd ht (fun q => kt ((i_le hx hy).mp q) l p e s m args below meth c D ad cy A H locs hG hP hD hS lsC hl) (fun q => kf (fun z => q ((i_le hx hy).mpr z)) l p e s m args below meth c D ad cy A H locs hG hP hD hS lsC hl)
theorem a_if_le {M : Mth} {Q : Option Av → Sto → Prop} {pc : Nat} {ls : List (Nat × Av)} {rest : List Av} {σ : Sto} {x : Int} {off : Int} {tgt : Nat} (hd : decode M.2.1 pc = .ok (.ifCond .le off, 3)) (ht : (pc : Int) + off = (tgt : Int)) (hx : inR x) (kt : x ≤ 0 → RunA M Q tgt ls rest σ) (kf : ¬ x ≤ 0 → RunA M Q (pc + 3) ls rest σ) : RunA M Q pc ls (ai x :: rest) σ := by
  intro l p e s m args below meth c D ad cy A H locs hG hP hD hS lsC hl
  exact lv_if_le hG.1 hG.2.1 hd ht (fun q => kt ((i_le hx inR0).mp q) l p e s m args below meth c D ad cy A H locs hG hP hD hS lsC hl) (fun q => kf (fun z => q ((i_le hx inR0).mpr z)) l p e s m args below meth c D ad cy A H locs hG hP hD hS lsC hl)
theorem a_goto {M : Mth} {Q : Option Av → Sto → Prop} {pc : Nat} {ls : List (Nat × Av)} {rest : List Av} {σ : Sto} {off : Int} {tgt : Nat} (hd : decode M.2.1 pc = .ok (.goto off, 3)) (ht : (pc : Int) + off = (tgt : Int)) (k : RunA M Q tgt ls rest σ) : RunA M Q pc ls rest σ := by
  intro l p e s m args below meth c D ad cy A H locs hG hP hD hS lsC hl
  exact lv_goto hG.1 hG.2.1 hd ht (k l p e s m args below meth c D ad cy A H locs hG hP hD hS lsC hl)
theorem lgc0 {x y : Int64} : lg_cmp x y = 0 ↔ x = y := by
  unfold lg_cmp
  by_cases h1 : x > y
  · rw [if_pos h1]
    exact ⟨fun h => absurd h (by decide), fun h => absurd h1 (by rw [h]; exact Int64.lt_irrefl)⟩
  · rw [if_neg h1]
    by_cases h2 : x = y
    · rw [if_pos h2]
      exact ⟨fun _ => h2, fun _ => rfl⟩
    · rw [if_neg h2]
      exact ⟨fun h => absurd h (by decide), fun h => absurd h h2⟩
theorem a_lcmp_ne {M : Mth} {Q : Option Av → Sto → Prop} {pc : Nat} {ls : List (Nat × Av)} {rest : List Av} {σ : Sto} {x y : Int64} {off : Int} {tgt : Nat} (hd : decode M.2.1 pc = .ok (.lcmp, 1)) (hd2 : decode M.2.1 (pc + 1) = .ok (.ifCond .ne off, 3)) (ht : ((pc + 1 : Nat) : Int) + off = (tgt : Int)) (kt : ¬ x = y → RunA M Q tgt ls rest σ) (kf : x = y → RunA M Q (pc + 4) ls rest σ) : RunA M Q pc ls (al y :: al x :: rest) σ := by
  intro l p e s m args below meth c D ad cy A H locs hG hP hD hS lsC hl
  exact W.lcmp hG.1 hG.2.1 hd (lv_if_ne hG.1 hG.2.1 hd2 ht (fun q => kt (fun z => q (lgc0.mpr z)) l p e s m args below meth c D ad cy A H locs hG hP hD hS lsC hl) (fun q => kf (lgc0.mp q) l p e s m args below meth c D ad cy A H locs hG hP hD hS lsC hl))
theorem a_lcmp_eq {M : Mth} {Q : Option Av → Sto → Prop} {pc : Nat} {ls : List (Nat × Av)} {rest : List Av} {σ : Sto} {x y : Int64} {off : Int} {tgt : Nat} (hd : decode M.2.1 pc = .ok (.lcmp, 1)) (hd2 : decode M.2.1 (pc + 1) = .ok (.ifCond .eq off, 3)) (ht : ((pc + 1 : Nat) : Int) + off = (tgt : Int)) (kt : x = y → RunA M Q tgt ls rest σ) (kf : ¬ x = y → RunA M Q (pc + 4) ls rest σ) : RunA M Q pc ls (al y :: al x :: rest) σ := by
  intro l p e s m args below meth c D ad cy A H locs hG hP hD hS lsC hl
  exact W.lcmp hG.1 hG.2.1 hd (lv_if_eq hG.1 hG.2.1 hd2 ht (fun q => kt (lgc0.mp q) l p e s m args below meth c D ad cy A H locs hG hP hD hS lsC hl) (fun q => kf (fun z => q (lgc0.mpr z)) l p e s m args below meth c D ad cy A H locs hG hP hD hS lsC hl))
theorem a_tabIn {M : Mth} {Q : Option Av → Sto → Prop} {pc : Nat} {ls : List (Nat × Av)} {rest : List Av} {σ : Sto} {x dflt lo hi off : Int} {offs : Array Int} {len tgt : Nat} (hd : decode M.2.1 pc = .ok (.tableswitch dflt lo hi offs, len)) (hx : inR x) (h1 : lo ≤ x) (h2 : x ≤ hi) (ho : offs[(x - lo).toNat]? = some off) (ht : (pc : Int) + off = (tgt : Int)) (k : RunA M Q tgt ls rest σ) : RunA M Q pc ls (ai x :: rest) σ := by
  intro l p e s m args below meth c D ad cy A H locs hG hP hD hS lsC hl
  exact lv_tableIn hG.1 hG.2.1 hd (by rw [toInt_of_inR hx]; omega) (by rw [toInt_of_inR hx]; omega) (by rw [toInt_of_inR hx]; exact ho) ht (k l p e s m args below meth c D ad cy A H locs hG hP hD hS lsC hl)
theorem a_tabOut {M : Mth} {Q : Option Av → Sto → Prop} {pc : Nat} {ls : List (Nat × Av)} {rest : List Av} {σ : Sto} {x dflt lo hi : Int} {offs : Array Int} {len tgt : Nat} (hd : decode M.2.1 pc = .ok (.tableswitch dflt lo hi offs, len)) (hx : inR x) (h1 : x < lo ∨ hi < x) (ht : (pc : Int) + dflt = (tgt : Int)) (k : RunA M Q tgt ls rest σ) : RunA M Q pc ls (ai x :: rest) σ := by
  intro l p e s m args below meth c D ad cy A H locs hG hP hD hS lsC hl
  exact lv_tableOut hG.1 hG.2.1 hd (by rw [toInt_of_inR hx]; exact h1) ht (k l p e s m args below meth c D ad cy A H locs hG hP hD hS lsC hl)
