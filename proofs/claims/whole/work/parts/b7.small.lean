/-! The world without the law's own row: cells 0 to 174. What freshText, closes and becomes do there (they run before that row is made). Laid by gb7.py out of the parts before. -/
def zkdL : List Nat := kdL.take 175
def zkd (c : Nat) : Nat := zkdL.getD c 99
def zNC : Nat := 175
section
def zcellF (ad : Nat → Nat) (cy : Nat → ClassId) (c : Nat) (n : Int → Int) (l : Int → Int64) (r : Int → Option Nat) : va_E :=
  if zkd c < 10 then .inr (zkd c, (List.range (nsl (zkd c))).map fun j => slV ad (Tyn (zkd c) j) (n j) (l j) (rfv r c j))
  else if zkd c = 12 then .inl (cy 12, ln c, .inr (.inl fun j => l j))
  else if zkd c = 14 then .inl (cy 14, ln c, .inr (.inr (.inr (.inr fun j => (rfv r c j).map ad))))
  else .inl (cy (zkd c), ln c, .inl fun j => Int32.ofInt (n j))
def zcellE (ad : Nat → Nat) (cy : Nat → ClassId) (σ : Sto) (c : Nat) : va_E := zcellF ad cy c (σ.1 c) (σ.2.1 c) (σ.2.2 c)
def zwld (ad : Nat → Nat) (cy : Nat → ClassId) (σ : Sto) : va_W := (List.range zNC).map fun c => (ad c, zcellE ad cy σ c)
theorem zwld_get {ad : Nat → Nat} {cy : Nat → ClassId} {σ : Sto} {c : Nat} (h : c < zNC) : (zwld ad cy σ)[c]? = some (ad c, zcellE ad cy σ c) := by
  unfold zwld
  rw [List.getElem?_map, List.getElem?_range h]
  rfl
theorem zwld_len {ad : Nat → Nat} {cy : Nat → ClassId} {σ : Sto} : (zwld ad cy σ).length = zNC := by
  unfold zwld
  rw [List.length_map, List.length_range]
theorem zkd_lt {c : Nat} (h : zkd c < 15) : c < zNC := by
  rcases Nat.lt_or_ge c zNC with q | q
  · exact q
  · exfalso
    unfold zkd at h
    rw [List.getD_eq_getElem?_getD, List.getElem?_eq_none (by exact q)] at h
    exact absurd h (by decide)
theorem zwld_set {ad : Nat → Nat} {cy : Nat → ClassId} {σ σ' : Sto} {c : Nat} {e : va_E} (hc : c < zNC) (he : zcellE ad cy σ' c = e) (h : ∀ d, d ≠ c → zcellE ad cy σ' d = zcellE ad cy σ d) : (zwld ad cy σ).set c (ad c, e) = zwld ad cy σ' := by
  apply List.ext_getElem?
  intro k
  rw [List.getElem?_set]
  by_cases hk : c = k
  · subst hk
    rw [if_pos rfl, if_pos (by rw [zwld_len]; exact hc), zwld_get hc, he]
  · rw [if_neg hk]
    rcases Nat.lt_or_ge k zNC with q | q
    · rw [zwld_get q, zwld_get q, h k (fun z => hk z.symm)]
    · rw [List.getElem?_eq_none (by rw [zwld_len]; exact q), List.getElem?_eq_none (by rw [zwld_len]; exact q)]
def zBw (D : va_G) (ad : Nat → Nat) (cy : Nat → ClassId) (A : Nat → Prop) (u : Sto) (t : State) : Prop := va_P D vwCl (zwld ad cy u) t.heap ∧ va_K D vwCl (tysL cy) t ∧ va_D A (zwld ad cy u)
def zQcA (D : va_G) (ad : Nat → Nat) (cy : Nat → ClassId) (A : Nat → Prop) (rk : Nat) (Q : Option Av → Sto → Prop) : Array Value → State → Outcome → State → Prop :=
  if rk = 0 then va_Qv (fun u => Q none u) (zBw D ad cy A) A
  else if rk = 2 then va_Ql (fun r u => Q (some (al r)) u) (zBw D ad cy A) A
  else va_Qi (fun r u => ∃ x : Int, r = Int32.ofInt x ∧ Q (some (ai x)) u) (zBw D ad cy A) A
def zRunA (M : Mth) (Q : Option Av → Sto → Prop) (pc : Nat) (ls : List (Nat × Av)) (st : List Av) (σ : Sto) : Prop :=
  ∀ (l : Launch) (p : Program) (e : Env) (s : State) (m : MethodId) (args : Array Value) (below : List Frame) (meth : Method) (c : Code) (D : va_G) (ad : Nat → Nat) (cy : Nat → ClassId) (A : Nat → Prop) (H : Heap) (locs : List Loc), Stg M p s m args meth c D ad cy A → va_P D vwCl (zwld ad cy σ) H → va_D A (zwld ad cy σ) → va_S A s.heap H locs → ∀ lsC : Array Slot, lv_has lsC M.2.2.1 (cvl ad ls) →
    W p l e (rmM M) s m args below meth c H locs 0 0 (MQ below (zQcA D ad cy A (rkO M.2.2.2.1) Q) args s 0 0 A) (F0 m pc lsC (st.map (cv ad)))
def zMetA (M : Mth) (as : List Av) (σ : Sto) (Q : Option Av → Sto → Prop) : Prop :=
  ∀ (l : Launch) (D : va_G) (ad : Nat → Nat) (cy : Nat → ClassId) (sz : Nat), Met l M.1 (WS M) (rmM M) (va_Pc (as.map (cv ad)) (fun U => U.heap.size = sz ∧ va_P D vwCl (zwld ad cy σ) U.heap ∧ va_K D vwCl (tysL cy) U ∧ va_D (fun _ => True) (zwld ad cy σ) ∧ NWs U ∧ SK ad (va_A (zwld ad cy σ) sz) U)) (zQcA D ad cy (va_A (zwld ad cy σ) sz) (rkO M.2.2.2.1) Q) 0 0 (va_A (zwld ad cy σ) sz)
end
section
theorem za_iconst {M : Mth} {Q : Option Av → Sto → Prop} {pc : Nat} {ls : List (Nat × Av)} {rest : List Av} {σ : Sto} {n : Int} (hd : decode M.2.1 pc = .ok (.iconst n, 1)) (k : zRunA M Q (pc + 1) ls (ai n :: rest) σ) : zRunA M Q pc ls rest σ := by
  intro l p e s m args below meth c D ad cy A H locs hG hP hD hS lsC hl
  exact lv_iconst hG.1 hG.2.1 hd rfl (k l p e s m args below meth c D ad cy A H locs hG hP hD hS lsC hl)
theorem za_bipush {M : Mth} {Q : Option Av → Sto → Prop} {pc : Nat} {ls : List (Nat × Av)} {rest : List Av} {σ : Sto} {n x : Int} (hd : decode M.2.1 pc = .ok (.bipush n, 2)) (hv : (Int8.ofInt n).toInt32 = Int32.ofInt x) (k : zRunA M Q (pc + 2) ls (ai x :: rest) σ) : zRunA M Q pc ls rest σ := by
  intro l p e s m args below meth c D ad cy A H locs hG hP hD hS lsC hl
  exact lv_bipush hG.1 hG.2.1 hd hv (k l p e s m args below meth c D ad cy A H locs hG hP hD hS lsC hl)
theorem za_sipush {M : Mth} {Q : Option Av → Sto → Prop} {pc : Nat} {ls : List (Nat × Av)} {rest : List Av} {σ : Sto} {n x : Int} (hd : decode M.2.1 pc = .ok (.sipush n, 3)) (hv : (Int16.ofInt n).toInt32 = Int32.ofInt x) (k : zRunA M Q (pc + 3) ls (ai x :: rest) σ) : zRunA M Q pc ls rest σ := by
  intro l p e s m args below meth c D ad cy A H locs hG hP hD hS lsC hl
  exact lv_sipush hG.1 hG.2.1 hd hv (k l p e s m args below meth c D ad cy A H locs hG hP hD hS lsC hl)
theorem za_ldc {M : Mth} {Q : Option Av → Sto → Prop} {pc : Nat} {ls : List (Nat × Av)} {rest : List Av} {σ : Sto} {v : Int32} {x : Int} {idx : Nat} (hc : Cond.constant M.1.cls idx v ∈ Gw) (hv : v = Int32.ofInt x) (hd : decode M.2.1 pc = .ok (.ldc idx, 2)) (k : zRunA M Q (pc + 2) ls (ai x :: rest) σ) : zRunA M Q pc ls rest σ := by
  intro l p e s m args below meth c D ad cy A H locs hG hP hD hS lsC hl
  subst hv
  exact lv_ldc hG.1 hG.2.1 hG.2.2.2.2.1 (hG.2.2.2.2.2.1 _ (List.mem_cons_of_mem _ hc)) hd (k l p e s m args below meth c D ad cy A H locs hG hP hD hS lsC hl)
theorem za_lconst {M : Mth} {Q : Option Av → Sto → Prop} {pc : Nat} {ls : List (Nat × Av)} {rest : List Av} {σ : Sto} {n : Fin 2} {v : Int64} (hd : decode M.2.1 pc = .ok (.lconst n, 1)) (hv : Int64.ofNat (n : Nat) = v) (k : zRunA M Q (pc + 1) ls (al v :: rest) σ) : zRunA M Q pc ls rest σ := by
  intro l p e s m args below meth c D ad cy A H locs hG hP hD hS lsC hl
  exact lv_lconst hG.1 hG.2.1 hd hv (k l p e s m args below meth c D ad cy A H locs hG hP hD hS lsC hl)
theorem za_iload_n {M : Mth} {Q : Option Av → Sto → Prop} {pc : Nat} {ls : List (Nat × Av)} {rest : List Av} {σ : Sto} {i : Fin 4} {j : Nat} {x : Int} (hd : decode M.2.1 pc = .ok (.iload_n i, 1)) (hi : (i : Nat) = j) (hx : lkA ls j = some (ai x)) (k : zRunA M Q (pc + 1) ls (ai x :: rest) σ) : zRunA M Q pc ls rest σ := by
  intro l p e s m args below meth c D ad cy A H locs hG hP hD hS lsC hl
  exact lv_iload_n hG.1 hG.2.1 hd hi (lk_at hl hx) (k l p e s m args below meth c D ad cy A H locs hG hP hD hS lsC hl)
theorem za_iload {M : Mth} {Q : Option Av → Sto → Prop} {pc : Nat} {ls : List (Nat × Av)} {rest : List Av} {σ : Sto} {i : Nat} {x : Int} (hd : decode M.2.1 pc = .ok (.iload i, 2)) (hx : lkA ls i = some (ai x)) (k : zRunA M Q (pc + 2) ls (ai x :: rest) σ) : zRunA M Q pc ls rest σ := by
  intro l p e s m args below meth c D ad cy A H locs hG hP hD hS lsC hl
  exact lv_iload hG.1 hG.2.1 hd (lk_at hl hx) (k l p e s m args below meth c D ad cy A H locs hG hP hD hS lsC hl)
theorem za_istore_n {M : Mth} {Q : Option Av → Sto → Prop} {pc : Nat} {ls : List (Nat × Av)} {rest : List Av} {σ : Sto} {i : Fin 4} {j : Nat} {x : Int} {ls' : List (Nat × Av)} (hd : decode M.2.1 pc = .ok (.istore_n i, 1)) (hi : (i : Nat) = j) (hn : j < M.2.2.1) (hs : stI j (ai x) ls = ls') (k : zRunA M Q (pc + 1) ls' rest σ) : zRunA M Q pc ls (ai x :: rest) σ := by
  intro l p e s m args below meth c D ad cy A H locs hG hP hD hS lsC hl
  subst hs
  exact lv_istore_n hG.1 hG.2.1 hd hi hl hn (cvl_stI ad j (ai x) ls) (fun lsC hl => k l p e s m args below meth c D ad cy A H locs hG hP hD hS lsC hl)
theorem za_istore {M : Mth} {Q : Option Av → Sto → Prop} {pc : Nat} {ls : List (Nat × Av)} {rest : List Av} {σ : Sto} {j : Nat} {x : Int} {ls' : List (Nat × Av)} (hd : decode M.2.1 pc = .ok (.istore j, 2)) (hn : j < M.2.2.1) (hs : stI j (ai x) ls = ls') (k : zRunA M Q (pc + 2) ls' rest σ) : zRunA M Q pc ls (ai x :: rest) σ := by
  intro l p e s m args below meth c D ad cy A H locs hG hP hD hS lsC hl
  subst hs
  exact lv_istore hG.1 hG.2.1 hd hl hn (cvl_stI ad j (ai x) ls) (fun lsC hl => k l p e s m args below meth c D ad cy A H locs hG hP hD hS lsC hl)
theorem za_aload_n {M : Mth} {Q : Option Av → Sto → Prop} {pc : Nat} {ls : List (Nat × Av)} {rest : List Av} {σ : Sto} {i : Fin 4} {j : Nat} {x : Nat} (hd : decode M.2.1 pc = .ok (.aload_n i, 1)) (hi : (i : Nat) = j) (hx : lkA ls j = some (ar x)) (k : zRunA M Q (pc + 1) ls (ar x :: rest) σ) : zRunA M Q pc ls rest σ := by
  intro l p e s m args below meth c D ad cy A H locs hG hP hD hS lsC hl
  exact lv_aload_n hG.1 hG.2.1 hd hi (lk_at hl hx) (k l p e s m args below meth c D ad cy A H locs hG hP hD hS lsC hl)
theorem za_iinc {M : Mth} {Q : Option Av → Sto → Prop} {pc : Nat} {ls : List (Nat × Av)} {rest : List Av} {σ : Sto} {j : Nat} {n x y : Int} {ls' : List (Nat × Av)} (hd : decode M.2.1 pc = .ok (.iinc j n, 3)) (hx : lkA ls j = some (ai x)) (hy : x + n = y) (hn : j < M.2.2.1) (hs : stI j (ai y) ls = ls') (k : zRunA M Q (pc + 3) ls' rest σ) : zRunA M Q pc ls rest σ := by
  intro l p e s m args below meth c D ad cy A H locs hG hP hD hS lsC hl
  subst hs
  subst hy
  obtain ⟨zk0, hk0⟩ := cvl_get (ad := ad) hx
  exact lv_iinc hG.1 hG.2.1 hd hl hk0 (by rw [Int32.ofInt_add]) hn (cvl_stI ad j (ai (x + n)) ls) (fun lsC hl => k l p e s m args below meth c D ad cy A H locs hG hP hD hS lsC hl)
theorem za_iadd {M : Mth} {Q : Option Av → Sto → Prop} {pc : Nat} {ls : List (Nat × Av)} {rest : List Av} {σ : Sto} {x y : Int} (hd : decode M.2.1 pc = .ok (.iadd, 1)) (k : zRunA M Q (pc + 1) ls (ai (x + y) :: rest) σ) : zRunA M Q pc ls (ai y :: ai x :: rest) σ := by
  intro l p e s m args below meth c D ad cy A H locs hG hP hD hS lsC hl
  refine lv_iadd hG.1 hG.2.1 hd ?_
  rw [← Int32.ofInt_add]
  exact k l p e s m args below meth c D ad cy A H locs hG hP hD hS lsC hl
theorem za_imul {M : Mth} {Q : Option Av → Sto → Prop} {pc : Nat} {ls : List (Nat × Av)} {rest : List Av} {σ : Sto} {x y : Int} (hd : decode M.2.1 pc = .ok (.imul, 1)) (k : zRunA M Q (pc + 1) ls (ai (x * y) :: rest) σ) : zRunA M Q pc ls (ai y :: ai x :: rest) σ := by
  intro l p e s m args below meth c D ad cy A H locs hG hP hD hS lsC hl
  refine lv_imul hG.1 hG.2.1 hd ?_
  rw [← Int32.ofInt_mul]
  exact k l p e s m args below meth c D ad cy A H locs hG hP hD hS lsC hl
theorem za_irem {M : Mth} {Q : Option Av → Sto → Prop} {pc : Nat} {ls : List (Nat × Av)} {rest : List Av} {σ : Sto} {x y z : Int} (hd : decode M.2.1 pc = .ok (.irem, 1)) (h0 : ¬ Int32.ofInt y = 0) (hz : Int32.ofInt x - Int32.ofInt x / Int32.ofInt y * Int32.ofInt y = Int32.ofInt z) (k : zRunA M Q (pc + 1) ls (ai z :: rest) σ) : zRunA M Q pc ls (ai y :: ai x :: rest) σ := by
  intro l p e s m args below meth c D ad cy A H locs hG hP hD hS lsC hl
  refine lv_irem hG.1 hG.2.1 hd h0 ?_
  rw [hz]
  exact k l p e s m args below meth c D ad cy A H locs hG hP hD hS lsC hl
theorem za_if_ne {M : Mth} {Q : Option Av → Sto → Prop} {pc : Nat} {ls : List (Nat × Av)} {rest : List Av} {σ : Sto} {x : Int} {off : Int} {tgt : Nat} (hd : decode M.2.1 pc = .ok (.ifCond .ne off, 3)) (ht : (pc : Int) + off = (tgt : Int)) (hx : inR x) (kt : ¬ x = 0 → zRunA M Q tgt ls rest σ) (kf : x = 0 → zRunA M Q (pc + 3) ls rest σ) : zRunA M Q pc ls (ai x :: rest) σ := by
  intro l p e s m args below meth c D ad cy A H locs hG hP hD hS lsC hl
  exact lv_if_ne hG.1 hG.2.1 hd ht (fun q => kt (fun z => q ((i_eq hx inR0).mpr z)) l p e s m args below meth c D ad cy A H locs hG hP hD hS lsC hl) (fun q => kf ((i_eq hx inR0).mp q) l p e s m args below meth c D ad cy A H locs hG hP hD hS lsC hl)
theorem za_icmp_ge {M : Mth} {Q : Option Av → Sto → Prop} {pc : Nat} {ls : List (Nat × Av)} {rest : List Av} {σ : Sto} {x y : Int} {off : Int} {tgt : Nat} (hd : decode M.2.1 pc = .ok (.if_icmp .ge off, 3)) (ht : (pc : Int) + off = (tgt : Int)) (hx : inR x) (hy : inR y) (kt : y ≤ x → zRunA M Q tgt ls rest σ) (kf : ¬ y ≤ x → zRunA M Q (pc + 3) ls rest σ) : zRunA M Q pc ls (ai y :: ai x :: rest) σ := by
  intro l p e s m args below meth c D ad cy A H locs hG hP hD hS lsC hl
  exact lv_icmp_ge hG.1 hG.2.1 hd ht (fun q => kt ((i_le hy hx).mp q) l p e s m args below meth c D ad cy A H locs hG hP hD hS lsC hl) (fun q => kf (fun z => q ((i_le hy hx).mpr z)) l p e s m args below meth c D ad cy A H locs hG hP hD hS lsC hl)
theorem za_goto {M : Mth} {Q : Option Av → Sto → Prop} {pc : Nat} {ls : List (Nat × Av)} {rest : List Av} {σ : Sto} {off : Int} {tgt : Nat} (hd : decode M.2.1 pc = .ok (.goto off, 3)) (ht : (pc : Int) + off = (tgt : Int)) (k : zRunA M Q tgt ls rest σ) : zRunA M Q pc ls rest σ := by
  intro l p e s m args below meth c D ad cy A H locs hG hP hD hS lsC hl
  exact lv_goto hG.1 hG.2.1 hd ht (k l p e s m args below meth c D ad cy A H locs hG hP hD hS lsC hl)
end
section
theorem zcellE_obj {ad : Nat → Nat} {cy : Nat → ClassId} {σ : Sto} {c ci : Nat} (hk : zkd c = ci) (hc : ci < 10) : zcellE ad cy σ c = .inr (ci, (List.range (nsl ci)).map fun j => slV ad (Tyn ci j) (σ.1 c j) (σ.2.1 c j) (rfv (σ.2.2 c) c j)) := by
  subst hk
  unfold zcellE zcellF
  rw [if_pos hc]
theorem zcellE_int {ad : Nat → Nat} {cy : Nat → ClassId} {σ : Sto} {c t : Nat} (hk : zkd c = t) (h : t = 10 ∨ t = 11 ∨ t = 13) : zcellE ad cy σ c = .inl (cy t, ln c, .inl fun j => Int32.ofInt (σ.1 c j)) := by
  unfold zcellE zcellF
  rw [hk, if_neg (by omega), if_neg (by omega), if_neg (by omega)]
theorem zcellE_other {ad : Nat → Nat} {cy : Nat → ClassId} {σ σ' : Sto} {d : Nat} (h1 : σ'.1 d = σ.1 d) (h2 : σ'.2.1 d = σ.2.1 d) (h3 : σ'.2.2 d = σ.2.2 d) : zcellE ad cy σ' d = zcellE ad cy σ d := by
  unfold zcellE
  rw [h1, h2, h3]
theorem zcellE_sN {ad : Nat → Nat} {cy : Nat → ClassId} {σ : Sto} {c d : Nat} {j v : Int} (h : d ≠ c) : zcellE ad cy (sN σ c j v) d = zcellE ad cy σ d := zcellE_other (up2_row h) rfl rfl
theorem zcellE_sL {ad : Nat → Nat} {cy : Nat → ClassId} {σ : Sto} {c d : Nat} {j : Int} {v : Int64} (h : d ≠ c) : zcellE ad cy (sL σ c j v) d = zcellE ad cy σ d := zcellE_other rfl (up2_row h) rfl
theorem zobj_at {ad : Nat → Nat} {cy : Nat → ClassId} {σ : Sto} {c ci : Nat} (hk : zkd c = ci) (hc : ci < 10) : (zwld ad cy σ)[c]? = some (ad c, .inr (ci, (List.range (nsl ci)).map fun j => slV ad (Tyn ci j) (σ.1 c j) (σ.2.1 c j) (rfv (σ.2.2 c) c j))) := by
  rw [zwld_get (zkd_lt (by omega)), zcellE_obj hk hc]
section zAMH
variable {M : Mth} {Q : Option Av → Sto → Prop} {pc : Nat} {ls : List (Nat × Av)} {rest : List Av} {σ : Sto}
theorem za_get {c ci j idx : Nat} {v : Av} (hf : FL M.1.cls idx ci j) (hk : zkd c = ci) (hv : ∀ ad : Nat → Nat, slV ad (Tyn ci j) (σ.1 c j) (σ.2.1 c j) (rfv (σ.2.2 c) c j) = cv ad v) (hd : decode M.2.1 pc = .ok (.getfield idx, 3)) (k : zRunA M Q (pc + 3) ls (v :: rest) σ) : zRunA M Q pc ls (ar c :: rest) σ := by
  intro l p e s m args below meth co D ad cy A H locs hG hP hD hS lsC hl
  obtain ⟨h1, h2, h3⟩ := hf
  refine va_get (C := Cn ci) (T := Tn ci) (N := nsl ci) (ci := ci) hG.1 hG.2.1 hG.2.2.2.2.2.1 (fun w hw => List.mem_cons_of_mem _ (uws_in ci h1 w hw)) hG.2.2.2.2.1 hG.2.2.2.2.2.2.2.1 hP c (zobj_at hk h1) (cl_at ci h1) j h2 (hG.2.2.2.2.2.1 _ (List.mem_cons_of_mem _ h3)) (fun x hx => by rw [own_in ci h1 j h2] at hx; exact hx) (v := cv ad v) ?_ hd (k l p e s m args below meth co D ad cy A H locs hG hP hD hS lsC hl)
  rw [slot_at h2, hv ad]
theorem za_getF {c ci j idx d : Nat} (hf : FL M.1.cls idx ci j) (hk : zkd c = ci) (ht : isRf (Tyn ci j) = true) (hr : rfs c j = some d) (hd : decode M.2.1 pc = .ok (.getfield idx, 3)) (k : zRunA M Q (pc + 3) ls (ar d :: rest) σ) : zRunA M Q pc ls (ar c :: rest) σ :=
  za_get hf hk (fun ad => by rw [slV_ref ht]; unfold rfv; rw [hr]; rfl) hd k
theorem za_put {c ci j idx : Nat} {v : Av} {σ' : Sto} (hf : FL M.1.cls idx ci j) (hk : zkd c = ci) (hfin : (Tn ci j).2.2.2 = false) (hn : ∀ ad : Nat → Nat, narrow (Tyn ci j) (cv ad v) = cv ad v) (hfit : ∀ ad : Nat → Nat, fits (Tyn ci j) (cv ad v) = true)
    (ho : ∀ (ad : Nat → Nat) (cy : Nat → ClassId) (d : Nat), d ≠ c → zcellE ad cy σ' d = zcellE ad cy σ d) (hs : ∀ ad : Nat → Nat, slV ad (Tyn ci j) (σ'.1 c j) (σ'.2.1 c j) (rfv (σ'.2.2 c) c j) = cv ad v) (hs2 : ∀ (ad : Nat → Nat) (i : Nat), i ≠ j → slV ad (Tyn ci i) (σ'.1 c i) (σ'.2.1 c i) (rfv (σ'.2.2 c) c i) = slV ad (Tyn ci i) (σ.1 c i) (σ.2.1 c i) (rfv (σ.2.2 c) c i))
    (hd : decode M.2.1 pc = .ok (.putfield idx, 3)) (k : zRunA M Q (pc + 3) ls rest σ') : zRunA M Q pc ls (v :: ar c :: rest) σ := by
  intro l p e s m args below meth co D ad cy A H locs hG hP hD hS lsC hl
  obtain ⟨h1, h2, h3⟩ := hf
  have hw : (zwld ad cy σ).set c (ad c, .inr (ci, ((List.range (nsl ci)).map fun j : Nat => slV ad (Tyn ci j) (σ.1 c j) (σ.2.1 c j) (rfv (σ.2.2 c) c j)).set j (cv ad v))) = zwld ad cy σ' := by
    refine zwld_set (zkd_lt (by omega)) ?_ (ho ad cy)
    rw [zcellE_obj hk h1, rng_set (hs ad) (hs2 ad)]
  refine va_put (C := Cn ci) (T := Tn ci) (N := nsl ci) (ci := ci) hG.1 hG.2.1 hG.2.2.2.2.2.1 (fun w hw => List.mem_cons_of_mem _ (uws_in ci h1 w hw)) (Tyn ci) (tyn_ok ci h1) (nmn_ok ci h1) hG.2.2.2.2.1 hG.2.2.2.2.2.2.2.1 hP hD hS c (zobj_at hk h1) (cl_at ci h1) j h2 (hG.2.2.2.2.2.1 _ (List.mem_cons_of_mem _ h3)) (fun x hx => by rw [own_in ci h1 j h2] at hx; exact hx) hfin (tyn_ok ci h1 j h2) (hn ad) (hfit ad) (by rw [List.length_map, List.length_range]; exact h2) hd (fun H1 locs1 hP1 hD1 hS1 => ?_)
  rw [hw] at hP1 hD1
  exact k l p e s m args below meth co D ad cy A H1 locs1 hG hP1 hD1 hS1 lsC hl
theorem za_putI {c ci j idx : Nat} {J : Int} {x : Int} (hf : FL M.1.cls idx ci j) (hk : zkd c = ci) (ht : Tyn ci j = .int) (hfin : (Tn ci j).2.2.2 = false) (hJ : (j : Int) = J) (hd : decode M.2.1 pc = .ok (.putfield idx, 3)) (k : zRunA M Q (pc + 3) ls rest (sN σ c J x)) : zRunA M Q pc ls (ai x :: ar c :: rest) σ := by
  subst hJ
  exact za_put (σ' := sN σ c j x) hf hk hfin (fun ad => by rw [ht]; rfl) (fun ad => by rw [ht]; rfl) (fun ad cy d h => zcellE_sN h) (fun ad => by rw [ht]; show Value.int (Int32.ofInt (up2 σ.1 c j x c j)) = _; rw [up2_same]; rfl) (fun ad i h => by show slV ad _ (up2 σ.1 c j x c i) _ _ = _; rw [up2_nj (by omega)]; rfl) hd k
theorem za_putL {c ci j idx : Nat} {J : Int} {x : Int64} (hf : FL M.1.cls idx ci j) (hk : zkd c = ci) (ht : Tyn ci j = .long) (hfin : (Tn ci j).2.2.2 = false) (hJ : (j : Int) = J) (hd : decode M.2.1 pc = .ok (.putfield idx, 3)) (k : zRunA M Q (pc + 3) ls rest (sL σ c J x)) : zRunA M Q pc ls (al x :: ar c :: rest) σ := by
  subst hJ
  exact za_put (σ' := sL σ c j x) hf hk hfin (fun ad => by rw [ht]; rfl) (fun ad => by rw [ht]; rfl) (fun ad cy d h => zcellE_sL h) (fun ad => by rw [ht]; show Value.long (up2 σ.2.1 c j x c j) = _; rw [up2_same]; rfl) (fun ad i h => by show slV ad _ _ (up2 σ.2.1 c j x c i) _ = _; rw [up2_nj (by omega)]; rfl) hd k
theorem zarr_at {ad : Nat → Nat} {cy : Nat → ClassId} {c t : Nat} (hk : zkd c = t) (h : t = 10 ∨ t = 11 ∨ t = 13) : (zwld ad cy σ)[c]? = some (ad c, .inl (cy t, ln c, .inl fun j => Int32.ofInt (σ.1 c j))) := by
  rw [zwld_get (zkd_lt (by omega)), zcellE_int hk h]
theorem za_iald {c : Nat} {x : Int} (hk : zkd c = 11) (h0 : 0 ≤ x) (h1 : x < ln c) (hd : decode M.2.1 pc = .ok (.iaload, 1)) (k : zRunA M Q (pc + 1) ls (ai (gN σ c x) :: rest) σ) : zRunA M Q pc ls (ai x :: ar c :: rest) σ := by
  intro l p e s m args below meth co D ad cy A H locs hG hP hD hS lsC hl
  have hn := ln_lt c
  refine va_iald hG.1 hG.2.1 hG.2.2.2.2.2.2.2.1 hP c 1 (zarr_at hk (by omega)) rfl (in_of h0 h1 hn) hd ?_
  rw [clamp_of_in h0 (by omega), ← ofInt_nrm]
  exact k l p e s m args below meth co D ad cy A H locs hG hP hD hS lsC hl
theorem zset_arr {ad : Nat → Nat} {cy : Nat → ClassId} {c t : Nat} {x v : Int} (hk : zkd c = t) (h : t = 10 ∨ t = 11 ∨ t = 13) (h0 : 0 ≤ x) (h1 : x < 2147483648) : (zwld ad cy σ).set c (ad c, .inl (cy t, ln c, .inl (upd (fun j => Int32.ofInt (σ.1 c j)) (Int32.ofInt x).toNatClampNeg (Int32.ofInt v)))) = zwld ad cy (sN σ c x v) := by
  refine zwld_set (zkd_lt (by omega)) ?_ (fun d h => zcellE_sN h)
  rw [zcellE_int hk h]
  congr 4
  funext j
  have e := clamp_of_in h0 h1
  show Int32.ofInt (up2 σ.1 c x v c j) = upd _ _ _ j
  unfold upd
  by_cases hj : (j : Int) = x
  · rw [if_pos (by omega), hj, up2_same]
  · rw [if_neg (by omega), up2_nj hj]
theorem za_iast {c : Nat} {x v : Int} (hk : zkd c = 11) (h0 : 0 ≤ x) (h1 : x < ln c) (hd : decode M.2.1 pc = .ok (.iastore, 1)) (k : zRunA M Q (pc + 1) ls rest (sN σ c x v)) : zRunA M Q pc ls (ai v :: ai x :: ar c :: rest) σ := by
  intro l p e s m args below meth co D ad cy A H locs hG hP hD hS lsC hl
  have hn := ln_lt c
  refine va_iast hG.1 hG.2.1 hG.2.2.2.2.2.2.2.1 hP hD hS c 1 (zarr_at hk (by omega)) rfl (in_of h0 h1 hn) hd (fun H1 locs1 hP1 hD1 hS1 => ?_)
  rw [zset_arr hk (by omega) h0 (by omega)] at hP1 hD1
  exact k l p e s m args below meth co D ad cy A H1 locs1 hG hP1 hD1 hS1 lsC hl
end zAMH
end
section
section zAMC
variable {M : Mth} {Q : Option Av → Sto → Prop} {pc : Nat} {ls : List (Nat × Av)} {rest : List Av} {σ : Sto}
theorem za_vret (hr : M.2.2.2.1 = none) (hq : Q none σ) (hd : decode M.2.1 pc = .ok (.return_, 1)) : zRunA M Q pc ls [] σ := by
  intro l p e s m args below meth co D ad cy A H locs hG hP hD hS lsC hl
  have hR := hG.2.2.1
  rw [hr] at hR ⊢
  refine W.vret hG.1 hG.2.1 hR (fun t ht hW => ?_) hS.2.2 hd hG.2.2.2.2.2.2.1
  exact ⟨⟨σ, rfl, hq, by rw [ht]; exact hP, va_K.moved hW.alike hG.2.2.2.2.2.2.2.1, hD⟩, hS.F ht⟩
theorem za_entry {as : List Av} (hy : plainName M.1.cls = true) (hw : wdA as ≤ M.2.2.1) (k : zRunA M Q 0 (argL 0 as) [] σ) : zMetA M as σ Q := by
  intro l D ad cy sz
  refine Met.ofW (cc := M.2.1) (maxL := M.2.2.1) (ret := M.2.2.2.1) hy rfl ?_
  intro p e s m args below meth c s₁ B hml hv
  obtain ⟨rfl, hsz, hP, hK, hD0, hNW, hSK⟩ := hv
  subst hsz
  have hD := hD0.self (sz := s.heap.size)
  have hl := lv_entry (as.map (cv ad)) (n := M.2.2.1) (by rw [wdA_len]; exact hw)
  rw [lg_entry_eq]
  rw [argL_cv] at hl
  exact k l p e s m _ below meth c D ad cy _ s.heap [] ⟨B.exec, B.bytes, B.returns, hml, findClass_of_methodNamed B.named, atoms_spec (ws := WS M) B.pre, B.notSynchronized, hK, fun q h => Or.inr h, hNW, hSK⟩ hP hD va_S.rf _ hl
theorem zpre_blind {D : va_G} {ad : Nat → Nat} {cy : Nat → ClassId} {sz : Nat} {av : List Value} : FrameBlind (va_Pc av (fun U => U.heap.size = sz ∧ va_P D vwCl (zwld ad cy σ) U.heap ∧ va_K D vwCl (tysL cy) U ∧ va_D (fun _ => True) (zwld ad cy σ) ∧ NWs U ∧ SK ad (va_A (zwld ad cy σ) sz) U)) := by
  intro a U g mk q
  obtain ⟨q0, q1, qP, qK, qD, qN, qS⟩ := q
  exact ⟨q0, q1, qP, va_K.moved (u := U) (U := U.calling g mk a) (Vm.Alike.refl U.vm) qK, qD, NWs.same (s := U) (U := U.calling g mk a) rfl qN, qS.blind g mk a⟩
theorem zfree_of {ad : Nat → Nat} {cy : Nat → ClassId} {A : Nat → Prop} {s : State} {H : Heap} {locs : List Loc} (hD : va_D A (zwld ad cy σ)) (hS : va_S A s.heap H locs) (hA : ∀ q : Nat, s.heap.size ≤ q → A q) : ∀ q, va_A (zwld ad cy σ) H.size q → A q := by
  rintro q (⟨k, e, h⟩ | h)
  · exact hD.2 k _ h
  · exact hA q (Nat.le_trans hS.1 h)
/-- behind a call: the world that came back -/
theorem zback_w {p : Program} {l : Launch} {e : Env} {s : State} {m : MethodId} {args : Array Value} {below : List Frame} {meth : Method} {c : Code} {D : va_G} {ad : Nat → Nat} {cy : Nat → ClassId} {A : Nat → Prop} {H : Heap} {locs : List Loc} {lsC : Array Slot} {rk : Nat} {Q' : Option Av → Sto → Prop} {st0 rs : List Value} {a : Array Value}
    (hG : Stg M p s m args meth c D ad cy A) (hD : va_D A (zwld ad cy σ)) (hS : va_S A s.heap H locs) (hl : lv_has lsC M.2.2.1 (cvl ad ls)) (hrs : rs = rest.map (cv ad))
    (hr : va_Run p l e (rmM M) s m args below meth c H locs 0 0 0 0 (F0 m pc lsC st0) rs (zQcA D ad cy (va_A (zwld ad cy σ) H.size) rk Q' a) (va_A (zwld ad cy σ) H.size))
    (zk0 : rk = 0 → ∀ u, Q' none u → zRunA M Q (pc + 3) ls rest u) (zk2 : rk = 2 → ∀ x u, Q' (some (al x)) u → zRunA M Q (pc + 3) ls (al x :: rest) u) (zk1 : rk ≠ 0 → rk ≠ 2 → ∀ x u, Q' (some (ai x)) u → zRunA M Q (pc + 3) ls (ai x :: rest) u) :
    W p l e (rmM M) s m args below meth c H locs 0 0 (MQ below (zQcA D ad cy A (rkO M.2.2.2.1) Q) args s 0 0 A) (F0 m pc lsC st0) := by
  subst hrs
  have hF := zfree_of hD hS hG.2.2.2.2.2.2.2.2.1
  have hK := hG.2.2.2.2.2.2.2.1
  unfold zQcA at hr
  by_cases h0 : rk = 0
  · rw [if_pos h0] at hr
    refine va_callv hr hS (fun q _ h => hF q h) hF (fun u t H1 locs1 ht hvm hw hB hz1 hk1 hS1 => ?_)
    obtain ⟨hP1, hK1, hD1⟩ := hB
    rw [ht] at hP1
    exact zk0 h0 u hw l p e s m args below meth c D ad cy A H1 locs1 hG hP1 ⟨hD1.1, fun k q h => hF _ (hD1.2 k q h)⟩ hS1 lsC hl
  · rw [if_neg h0] at hr
    by_cases h2 : rk = 2
    · rw [if_pos h2] at hr
      refine va_calll hr hS (fun q _ h => hF q h) hF (fun r u t H1 locs1 ht hvm hw hB hz1 hk1 hS1 => ?_)
      obtain ⟨hP1, hK1, hD1⟩ := hB
      rw [ht] at hP1
      exact zk2 h2 r u hw l p e s m args below meth c D ad cy A H1 locs1 hG hP1 ⟨hD1.1, fun k q h => hF _ (hD1.2 k q h)⟩ hS1 lsC hl
    · rw [if_neg h2] at hr
      refine va_calli hr hS (fun q _ h => hF q h) hF (fun r u t H1 locs1 ht hvm hw hB hz1 hk1 hS1 => ?_)
      obtain ⟨x, rfl, hw⟩ := hw
      obtain ⟨hP1, hK1, hD1⟩ := hB
      rw [ht] at hP1
      exact zk1 h0 h2 x u hw l p e s m args below meth c D ad cy A H1 locs1 hG hP1 ⟨hD1.1, fun k q h => hF _ (hD1.2 k q h)⟩ hS1 lsC hl
theorem za_callG {M' : Mth} {as st : List Av} {c n idx ci : Nat} {Q' : Option Av → Sto → Prop} (hM : zMetA M' (ar c :: as) σ Q') (hV : MV M' n) (hlk : Cond.methodLink M.1.cls idx M'.1 ∈ Gw) (hk : zkd c = ci) (hc : ci < 10) (hcl : Cn ci = M'.1.cls) (hst : st = as.reverse ++ ar c :: rest) (hn : as.length = n) (h1 : M'.2.2.2.2.1 + 1 ≤ M.2.2.2.2.1) (h2 : 8 + (M'.2.2.1 + 11) + M'.2.2.2.2.2 ≤ M.2.2.2.2.2) (hw : wdA rest ≤ 8) (hd : decode M.2.1 pc = .ok (.invokevirtual idx, 3))
    (zk0 : rkO M'.2.2.2.1 = 0 → ∀ u, Q' none u → zRunA M Q (pc + 3) ls rest u) (zk2 : rkO M'.2.2.2.1 = 2 → ∀ x u, Q' (some (al x)) u → zRunA M Q (pc + 3) ls (al x :: rest) u) (zk1 : rkO M'.2.2.2.1 ≠ 0 → rkO M'.2.2.2.1 ≠ 2 → ∀ x u, Q' (some (ai x)) u → zRunA M Q (pc + 3) ls (ai x :: rest) u) : zRunA M Q pc ls st σ := by
  subst hst
  intro l p e s m args below meth co D ad cy A H locs hG hP hD hS lsC hl
  obtain ⟨hx, hb, hr, hml, hown, hts, hlocks, hK, hA, hNW, hSK⟩ := id hG
  obtain ⟨hI, hV1, hV2⟩ := hV
  have hgood : GoodIn (WS M) (wsV M.1.cls idx M'.1.cls M'.1 (WS M')) := by
    refine good_cons fun w hw => ?_
    rcases List.mem_append.mp hw with h | h
    · simp only [List.mem_cons, List.mem_nil_iff, or_false] at h
      rcases h with h | h | h | h <;> rw [h]
      · exact hlk
      · exact hV1
      · exact hV2
      · exact hI.2.1
    · exact WS_in hI w h
  refine zback_w (rs := rest.map (cv ad)) hG hD hS hl rfl (va_runV (C := M'.1.cls) (As := as.map (cv ad)) (b := ad c) ⟨hx, hb, hml, hown, hts⟩ (hM l D ad cy H.size) (cwV n hts hgood rfl rfl rfl ⟨rfl, hI.2.2.1, hI.2.2.2.1, hI.2.2.2.2⟩ (roomOK h1 h2)) ⟨zpre_blind, ?_, fun U hU hW => ⟨rfl, by rw [hU], by rw [hU]; exact hP, va_K.moved hW.alike hK, ⟨hD.1, fun _ _ _ => trivial⟩, NWs.warm hW hNW, hSK.call hW (fun a q0 q1 => by rw [hU]; exact hS.2.1 a q0 q1) (zfree_of hD hS hA)⟩⟩ rfl (by rw [List.length_map]; exact hn) hl.1 ?_ (lv_room (by rw [cat_sum]; exact hw)) hd ⟨Nat.le_refl _, Nat.le_refl _⟩) zk0 zk2 zk1
  · have h := va_recv hK hP (cl_at ci hc) (zobj_at hk hc)
    rw [hcl] at h
    exact h
  · show (as.reverse ++ ar c :: rest).map (cv ad) = (as.map (cv ad)).reverse ++ .ref (ad c) :: rest.map (cv ad)
    rw [List.map_append, List.map_reverse]
    rfl
theorem za_callV {M' : Mth} {as st : List Av} {c n idx ci : Nat} {Q' : Option Av → Sto → Prop} (hM : zMetA M' (ar c :: as) σ Q') (hV : MV M' n) (hlk : Cond.methodLink M.1.cls idx M'.1 ∈ Gw) (hk : zkd c = ci) (hc : ci < 10) (hcl : Cn ci = M'.1.cls) (hret : rkO M'.2.2.2.1 = 0) (hst : st = as.reverse ++ ar c :: rest) (hn : as.length = n) (h1 : M'.2.2.2.2.1 + 1 ≤ M.2.2.2.2.1) (h2 : 8 + (M'.2.2.1 + 11) + M'.2.2.2.2.2 ≤ M.2.2.2.2.2) (hw : wdA rest ≤ 8) (hd : decode M.2.1 pc = .ok (.invokevirtual idx, 3))
    (k : ∀ u, Q' none u → zRunA M Q (pc + 3) ls rest u) : zRunA M Q pc ls st σ :=
  za_callG hM hV hlk hk hc hcl hst hn h1 h2 hw hd (fun _ => k) (fun h => by rw [hret] at h; cases h) (fun h _ => absurd hret h)
end zAMC
end
section
theorem zk0 : zkd 0 = 8 := by decide +kernel
theorem zk1 : zkd 1 = 10 := by decide +kernel
theorem zk2 : zkd 2 = 5 := by decide +kernel
theorem zk153 : zkd 153 = 9 := by decide +kernel
theorem zk155 : zkd 155 = 11 := by decide +kernel
theorem zk156 : zkd 156 = 11 := by decide +kernel
theorem zk158 : zkd 158 = 11 := by decide +kernel
end
section
section zAMD
variable {M : Mth} {Q : Option Av → Sto → Prop} {pc : Nat} {ls : List (Nat × Av)} {rest : List Av} {σ : Sto}
theorem za_topI {x y : Int} (h : x = y) (k : zRunA M Q pc ls (ai y :: rest) σ) : zRunA M Q pc ls (ai x :: rest) σ := h ▸ k
/-- fewer locals, in any order -/
theorem za_keep {ls' : List (Nat × Av)} {st : List Av} (h : ∀ q ∈ ls', q ∈ ls) (k : zRunA M Q pc ls' st σ) : zRunA M Q pc ls st σ := by
  intro l p e s m args below meth c D ad cy A H locs hG hP hD hS lsC hl
  refine k l p e s m args below meth c D ad cy A H locs hG hP hD hS lsC ⟨hl.1, hl.2.1, fun q hq => ?_⟩
  obtain ⟨r, hr, rfl⟩ := List.mem_map.mp hq
  exact hl.2.2 _ (List.mem_map.mpr ⟨r, h r hr, rfl⟩)
theorem za_ild {c n : Nat} {x : Int} (hk : zkd c = 11) (hn : ln c = n) (h0 : 0 ≤ x) (h1 : x < n) (hd : decode M.2.1 pc = .ok (.iaload, 1)) (k : zRunA M Q (pc + 1) ls (ai (gN σ c x) :: rest) σ) : zRunA M Q pc ls (ai x :: ar c :: rest) σ := za_iald hk h0 (by rw [hn]; exact h1) hd k
theorem za_ist {c n : Nat} {x v : Int} (hk : zkd c = 11) (hn : ln c = n) (h0 : 0 ≤ x) (h1 : x < n) (hd : decode M.2.1 pc = .ok (.iastore, 1)) (k : zRunA M Q (pc + 1) ls rest (sN σ c x v)) : zRunA M Q pc ls (ai v :: ai x :: ar c :: rest) σ := za_iast hk h0 (by rw [hn]; exact h1) hd k
end zAMD
end
section
set_option maxRecDepth 20000 in
theorem zt_fresh_1 (σ : Sto) (hx : ∀ τ : Sto, Fr (fun c _ => c = 156) σ τ → RowIs τ 156 (fun _ => 0) → zRunA mX9_freshText (fun r u => r = none ∧ Fr (fun c _ => c = 156) σ u ∧ RowIs u 156 frF) 22 [(0, ar 153)] [] τ) : ∀ (n : Nat) (k : Int) (τ : Sto), 0 ≤ k → k ≤ 415 → n = (415 - k).toNat → Fr (fun c _ => c = 156) σ τ → (∀ j : Int, 0 ≤ j → j < k → gN τ 156 j = 0) → zRunA mX9_freshText (fun r u => r = none ∧ Fr (fun c _ => c = 156) σ u ∧ RowIs u 156 frF) 2 [(1, ai k), (0, ar 153)] [] τ := by
  intro n
  induction n with
  | zero =>
    intro k τ h0 h5 hn hF hZ
    refine za_iload_n dX9_freshText_2 rfl rfl ?_
    refine za_sipush (x := 415) dX9_freshText_3 (by decide) ?_
    refine za_icmp_ge (tgt := 22) dX9_freshText_6 (by decide) (inR_of (by omega) (by omega)) (inR_of (by omega) (by omega)) (fun c6 => ?_) (fun c6 => ?_)
    · exact za_keep (by simp) (hx τ hF (fun j q0 q1 => hZ j q0 (by omega)))
    · exfalso; omega
  | succ n ih =>
    intro k τ h0 h5 hn hF hZ
    refine za_iload_n dX9_freshText_2 rfl rfl ?_
    refine za_sipush (x := 415) dX9_freshText_3 (by decide) ?_
    refine za_icmp_ge (tgt := 22) dX9_freshText_6 (by decide) (inR_of (by omega) (by omega)) (inR_of (by omega) (by omega)) (fun c6 => ?_) (fun c6 => ?_)
    · exfalso; omega
    · refine za_aload_n dX9_freshText_9 rfl rfl ?_
      refine za_getF (d := 156) fX9_16 zk153 rfl r153_4 dX9_freshText_10 ?_
      refine za_iload_n dX9_freshText_13 rfl rfl ?_
      refine za_iconst dX9_freshText_14 ?_
      refine za_ist zk156 n156 (by omega) (by omega) dX9_freshText_15 ?_
      refine za_iinc (y := k + 1) (ls' := [(1, ai (k + 1)), (0, ar 153)]) dX9_freshText_16 rfl rfl (Nat.le_of_ble_eq_true rfl) rfl ?_
      refine za_goto (tgt := 2) dX9_freshText_19 (by decide) ?_
      exact za_keep (by simp) (ih (k + 1) (sN τ 156 k 0) (by omega) (by omega) (by omega) (hF.sN rfl) (fun j q0 q1 => by rw [gN_sN]; by_cases e : j = k; rw [if_pos ⟨rfl, e⟩]; rfl; rw [if_neg (by omega)]; exact hZ j q0 (by omega)))
set_option maxRecDepth 20000 in
theorem zt_fresh_2 (σ : Sto) : ∀ (n : Nat) (k : Int) (τ : Sto), 0 ≤ k → k ≤ 100 → n = (100 - k).toNat → Fr (fun c _ => c = 156) σ τ → (∀ j : Int, 0 ≤ j → j < 415 → gN τ 156 j = if j < 15 + k then frF j else 0) → zRunA mX9_freshText (fun r u => r = none ∧ Fr (fun c _ => c = 156) σ u ∧ RowIs u 156 frF) 24 [(1, ai k), (0, ar 153)] [] τ := by
  intro n
  induction n with
  | zero =>
    intro k τ h0 h5 hn hF hD
    refine za_iload_n dX9_freshText_24 rfl rfl ?_
    refine za_bipush (x := 100) dX9_freshText_25 (by decide) ?_
    refine za_icmp_ge (tgt := 58) dX9_freshText_27 (by decide) (inR_of (by omega) (by omega)) (inR_of (by omega) (by omega)) (fun c27 => ?_) (fun c27 => ?_)
    · exact za_vret rfl ⟨rfl, hF, fun j q0 q1 => by rw [hD j q0 q1]; unfold frF; grind⟩ dX9_freshText_58
    · exfalso; omega
  | succ n ih =>
    intro k τ h0 h5 hn hF hD
    refine za_iload_n dX9_freshText_24 rfl rfl ?_
    refine za_bipush (x := 100) dX9_freshText_25 (by decide) ?_
    refine za_icmp_ge (tgt := 58) dX9_freshText_27 (by decide) (inR_of (by omega) (by omega)) (inR_of (by omega) (by omega)) (fun c27 => ?_) (fun c27 => ?_)
    · exfalso; omega
    · refine za_aload_n dX9_freshText_30 rfl rfl ?_
      refine za_getF (d := 156) fX9_16 zk153 rfl r153_4 dX9_freshText_31 ?_
      refine za_bipush (x := 15) dX9_freshText_34 (by decide) ?_
      refine za_iload_n dX9_freshText_36 rfl rfl ?_
      refine za_iadd dX9_freshText_37 ?_
      refine za_iload_n dX9_freshText_38 rfl rfl ?_
      refine za_bipush (x := 11) dX9_freshText_39 (by decide) ?_
      refine za_irem (z := remI k 11) dX9_freshText_41 (by decide) (Int32.ofInt_toInt _).symm ?_
      refine za_if_ne (tgt := 49) dX9_freshText_42 (by decide) (inR32 _) (fun c42 => ?_) (fun c42 => ?_)
      · refine za_ldc (x := 1000000) cX9_175 (by decide) dX9_freshText_49 ?_
        refine za_ist zk156 n156 (by omega) (by omega) dX9_freshText_51 ?_
        refine za_iinc (y := k + 1) (ls' := [(1, ai (k + 1)), (0, ar 153)]) dX9_freshText_52 rfl rfl (Nat.le_of_ble_eq_true rfl) rfl ?_
        refine za_goto (tgt := 24) dX9_freshText_55 (by decide) ?_
        exact za_keep (by simp) (ih (k + 1) (sN τ 156 (15 + k) 1000000) (by omega) (by omega) (by omega) (hF.sN rfl) (fun j q0 q1 => by rw [gN_sN]; by_cases e : j = 15 + k; rw [if_pos ⟨rfl, e⟩, if_pos (by omega), nrm_of (inR_of (by omega) (by omega))]; unfold frF; rw [if_pos (by omega), show j - 15 = k by omega]; grind; rw [if_neg (by omega), hD j q0 q1]; grind))
      · refine za_iconst dX9_freshText_45 ?_
        refine za_goto (tgt := 51) dX9_freshText_46 (by decide) ?_
        refine za_ist zk156 n156 (by omega) (by omega) dX9_freshText_51 ?_
        refine za_iinc (y := k + 1) (ls' := [(1, ai (k + 1)), (0, ar 153)]) dX9_freshText_52 rfl rfl (Nat.le_of_ble_eq_true rfl) rfl ?_
        refine za_goto (tgt := 24) dX9_freshText_55 (by decide) ?_
        exact za_keep (by simp) (ih (k + 1) (sN τ 156 (15 + k) 0) (by omega) (by omega) (by omega) (hF.sN rfl) (fun j q0 q1 => by rw [gN_sN]; by_cases e : j = 15 + k; rw [if_pos ⟨rfl, e⟩, if_pos (by omega), nrm_of (inR_of (by omega) (by omega))]; unfold frF; rw [if_pos (by omega), show j - 15 = k by omega]; grind; rw [if_neg (by omega), hD j q0 q1]; grind))
set_option maxRecDepth 20000 in
theorem zt_freshText (σ : Sto) : zMetA mX9_freshText [ar 153] σ (fun r u => r = none ∧ Fr (fun c _ => c = 156) σ u ∧ RowIs u 156 frF) := by
  refine za_entry (by decide) (Nat.le_of_ble_eq_true rfl) ?_
  refine za_iconst dX9_freshText_0 ?_
  refine za_istore_n (ls' := [(1, ai 0), (0, ar 153)]) dX9_freshText_1 rfl (Nat.le_of_ble_eq_true rfl) rfl ?_
  refine za_keep (ls' := [(1, ai 0), (0, ar 153)]) (by simp) ?_
  refine zt_fresh_1 σ (fun τ hF hZ => ?_) 415 0 σ (by omega) (by omega) (by omega) Fr.rfl (fun j q0 q1 => by omega)
  refine za_iconst dX9_freshText_22 ?_
  refine za_istore_n (ls' := [(1, ai 0), (0, ar 153)]) dX9_freshText_23 rfl (Nat.le_of_ble_eq_true rfl) rfl ?_
  exact za_keep (by simp) (zt_fresh_2 σ 100 0 τ (by omega) (by omega) (by omega) hF (fun j q0 q1 => by rw [hZ j q0 q1]; unfold frF; grind))
end
section
set_option maxRecDepth 20000 in
theorem zt_cl_b (σ : Sto) (Z : Int → Int) (y a : Int) (hy0 : 0 ≤ y) (hy1 : y < 10) (ha0 : 0 ≤ a) (ha1 : a < 10) (Y : Int → Int) (hx : ∀ τ : Sto, Fr (fun c _ => c = 155) σ τ → RowIs τ 155 Y → WlkB Y → zRunA mX9_closes (fun r u => r = none ∧ Fr (fun c _ => c = 155) σ u ∧ RowIs u 155 Z) 96 [(2, ai a), (1, ai y), (0, ar 153)] [] τ) : ∀ (n : Nat) (b : Int) (τ : Sto) (w : Int → Int), 0 ≤ b → b ≤ 10 → n = (10 - b).toNat → Fr (fun c _ => c = 155) σ τ → RowIs τ 155 w → WlkB w → Y = itr (clB y a) n b w → zRunA mX9_closes (fun r u => r = none ∧ Fr (fun c _ => c = 155) σ u ∧ RowIs u 155 Z) 18 [(3, ai b), (2, ai a), (1, ai y), (0, ar 153)] [] τ := by
  intro n
  induction n with
  | zero =>
    intro b τ w h0 h5 hn hF hw hB hE
    refine za_iload_n dX9_closes_18 rfl rfl ?_
    refine za_bipush (x := 10) dX9_closes_19 (by decide) ?_
    refine za_icmp_ge (tgt := 96) dX9_closes_21 (by decide) (inR_of (by omega) (by omega)) (inR_of (by omega) (by omega)) (fun c21 => ?_) (fun c21 => ?_)
    · exact za_keep (by simp) (hx τ hF (by rw [hE]; exact hw) (by rw [hE]; exact hB))
    · exfalso; omega
  | succ n ih =>
    intro b τ w h0 h5 hn hF hw hB hE
    refine za_iload_n dX9_closes_18 rfl rfl ?_
    refine za_bipush (x := 10) dX9_closes_19 (by decide) ?_
    refine za_icmp_ge (tgt := 96) dX9_closes_21 (by decide) (inR_of (by omega) (by omega)) (inR_of (by omega) (by omega)) (fun c21 => ?_) (fun c21 => ?_)
    · exfalso; omega
    · have x1 := hB (15 + 10 * a + y) (by omega) (by omega)
      have x2 := hB (15 + 10 * y + b) (by omega) (by omega)
      have x3 := hB (15 + 10 * a + b) (by omega) (by omega)
      have r1 := hw (15 + 10 * a + y) (by omega) (by omega)
      have r2 := hw (15 + 10 * y + b) (by omega) (by omega)
      have r3 := hw (15 + 10 * a + b) (by omega) (by omega)
      refine za_aload_n dX9_closes_24 rfl rfl ?_
      refine za_getF (d := 155) fX9_13 zk153 rfl r153_3 dX9_closes_25 ?_
      refine za_bipush (x := 15) dX9_closes_28 (by decide) ?_
      refine za_bipush (x := 10) dX9_closes_30 (by decide) ?_
      refine za_iload_n dX9_closes_32 rfl rfl ?_
      refine za_imul dX9_closes_33 ?_
      refine za_iadd dX9_closes_34 ?_
      refine za_iload_n dX9_closes_35 rfl rfl ?_
      refine za_iadd dX9_closes_36 ?_
      refine za_ild zk155 n155 (by omega) (by omega) dX9_closes_37 ?_
      refine za_topI (y := w (15 + 10 * a + y)) r1 ?_
      refine za_aload_n dX9_closes_38 rfl rfl ?_
      refine za_getF (d := 155) fX9_13 zk153 rfl r153_3 dX9_closes_39 ?_
      refine za_bipush (x := 15) dX9_closes_42 (by decide) ?_
      refine za_bipush (x := 10) dX9_closes_44 (by decide) ?_
      refine za_iload_n dX9_closes_46 rfl rfl ?_
      refine za_imul dX9_closes_47 ?_
      refine za_iadd dX9_closes_48 ?_
      refine za_iload_n dX9_closes_49 rfl rfl ?_
      refine za_iadd dX9_closes_50 ?_
      refine za_ild zk155 n155 (by omega) (by omega) dX9_closes_51 ?_
      refine za_topI (y := w (15 + 10 * y + b)) r2 ?_
      refine za_iadd dX9_closes_52 ?_
      refine za_istore (ls' := [(4, ai (w (15 + 10 * a + y) + (w (15 + 10 * y + b)))), (3, ai b), (2, ai a), (1, ai y), (0, ar 153)]) dX9_closes_53 (Nat.le_of_ble_eq_true rfl) rfl ?_
      refine za_iload dX9_closes_55 rfl ?_
      refine za_aload_n dX9_closes_57 rfl rfl ?_
      refine za_getF (d := 155) fX9_13 zk153 rfl r153_3 dX9_closes_58 ?_
      refine za_bipush (x := 15) dX9_closes_61 (by decide) ?_
      refine za_bipush (x := 10) dX9_closes_63 (by decide) ?_
      refine za_iload_n dX9_closes_65 rfl rfl ?_
      refine za_imul dX9_closes_66 ?_
      refine za_iadd dX9_closes_67 ?_
      refine za_iload_n dX9_closes_68 rfl rfl ?_
      refine za_iadd dX9_closes_69 ?_
      refine za_ild zk155 n155 (by omega) (by omega) dX9_closes_70 ?_
      refine za_topI (y := w (15 + 10 * a + b)) r3 ?_
      refine za_icmp_ge (tgt := 90) dX9_closes_71 (by decide) (inR_of (by omega) (by omega)) (inR_of (by omega) (by omega)) (fun c71 => ?_) (fun c71 => ?_)
      · refine za_iinc (y := b + 1) (ls' := [(3, ai (b + 1)), (4, ai (w (15 + 10 * a + y) + (w (15 + 10 * y + b)))), (2, ai a), (1, ai y), (0, ar 153)]) dX9_closes_90 rfl rfl (Nat.le_of_ble_eq_true rfl) rfl ?_
        refine za_goto (tgt := 18) dX9_closes_93 (by decide) ?_
        have e : clB y a b w = w := by funext j; unfold clB; grind
        exact za_keep (by simp) (ih (b + 1) τ w (by omega) (by omega) (by omega) hF hw hB (by rw [hE, itr_s, e]))
      · refine za_aload_n dX9_closes_74 rfl rfl ?_
        refine za_getF (d := 155) fX9_13 zk153 rfl r153_3 dX9_closes_75 ?_
        refine za_bipush (x := 15) dX9_closes_78 (by decide) ?_
        refine za_bipush (x := 10) dX9_closes_80 (by decide) ?_
        refine za_iload_n dX9_closes_82 rfl rfl ?_
        refine za_imul dX9_closes_83 ?_
        refine za_iadd dX9_closes_84 ?_
        refine za_iload_n dX9_closes_85 rfl rfl ?_
        refine za_iadd dX9_closes_86 ?_
        refine za_iload dX9_closes_87 rfl ?_
        refine za_ist zk155 n155 (by omega) (by omega) dX9_closes_89 ?_
        refine za_iinc (y := b + 1) (ls' := [(3, ai (b + 1)), (4, ai (w (15 + 10 * a + y) + (w (15 + 10 * y + b)))), (2, ai a), (1, ai y), (0, ar 153)]) dX9_closes_90 rfl rfl (Nat.le_of_ble_eq_true rfl) rfl ?_
        refine za_goto (tgt := 18) dX9_closes_93 (by decide) ?_
        have e : clB y a b w = fun j => if j = 15 + 10 * a + b then w (15 + 10 * a + y) + w (15 + 10 * y + b) else w j := by funext j; unfold clB; grind
        exact za_keep (by simp) (ih (b + 1) (sN τ 155 (15 + (10 * a) + b) (w (15 + 10 * a + y) + (w (15 + 10 * y + b)))) (clB y a b w) (by omega) (by omega) (by omega) (hF.sN rfl) (by rw [e]; exact hw.put (inR_of (by omega) (by omega))) (clB_B hB (by omega) (by omega) (by omega) (by omega) (by omega) (by omega)) (by rw [hE, itr_s]))
set_option maxRecDepth 20000 in
theorem zt_cl_a (σ : Sto) (Z : Int → Int) (y : Int) (hy0 : 0 ≤ y) (hy1 : y < 10) (Y : Int → Int) (hx : ∀ τ : Sto, Fr (fun c _ => c = 155) σ τ → RowIs τ 155 Y → WlkB Y → zRunA mX9_closes (fun r u => r = none ∧ Fr (fun c _ => c = 155) σ u ∧ RowIs u 155 Z) 102 [(1, ai y), (0, ar 153)] [] τ) : ∀ (n : Nat) (a : Int) (τ : Sto) (w : Int → Int), 0 ≤ a → a ≤ 10 → n = (10 - a).toNat → Fr (fun c _ => c = 155) σ τ → RowIs τ 155 w → WlkB w → Y = itr (clA y) n a w → zRunA mX9_closes (fun r u => r = none ∧ Fr (fun c _ => c = 155) σ u ∧ RowIs u 155 Z) 10 [(2, ai a), (1, ai y), (0, ar 153)] [] τ := by
  intro n
  induction n with
  | zero =>
    intro a τ w h0 h5 hn hF hw hB hE
    refine za_iload_n dX9_closes_10 rfl rfl ?_
    refine za_bipush (x := 10) dX9_closes_11 (by decide) ?_
    refine za_icmp_ge (tgt := 102) dX9_closes_13 (by decide) (inR_of (by omega) (by omega)) (inR_of (by omega) (by omega)) (fun c13 => ?_) (fun c13 => ?_)
    · exact za_keep (by simp) (hx τ hF (by rw [hE]; exact hw) (by rw [hE]; exact hB))
    · exfalso; omega
  | succ n ih =>
    intro a τ w h0 h5 hn hF hw hB hE
    refine za_iload_n dX9_closes_10 rfl rfl ?_
    refine za_bipush (x := 10) dX9_closes_11 (by decide) ?_
    refine za_icmp_ge (tgt := 102) dX9_closes_13 (by decide) (inR_of (by omega) (by omega)) (inR_of (by omega) (by omega)) (fun c13 => ?_) (fun c13 => ?_)
    · exfalso; omega
    · refine za_iconst dX9_closes_16 ?_
      refine za_istore_n (ls' := [(3, ai 0), (2, ai a), (1, ai y), (0, ar 153)]) dX9_closes_17 rfl (Nat.le_of_ble_eq_true rfl) rfl ?_
      refine za_keep (ls' := [(3, ai 0), (2, ai a), (1, ai y), (0, ar 153)]) (by simp) ?_
      refine zt_cl_b σ Z y a hy0 hy1 (by omega) (by omega) (clA y a w) (fun υ a1 a2 a3 => ?_) 10 0 τ w (by omega) (by omega) (by omega) hF hw hB rfl
      refine za_iinc (y := a + 1) (ls' := [(2, ai (a + 1)), (1, ai y), (0, ar 153)]) dX9_closes_96 rfl rfl (Nat.le_of_ble_eq_true rfl) rfl ?_
      refine za_goto (tgt := 10) dX9_closes_99 (by decide) ?_
      exact ih (a + 1) υ (clA y a w) (by omega) (by omega) (by omega) a1 a2 a3 (by rw [hE, itr_s])
set_option maxRecDepth 20000 in
theorem zt_cl_y (σ : Sto) (Z : Int → Int) : ∀ (n : Nat) (y : Int) (τ : Sto) (w : Int → Int), 0 ≤ y → y ≤ 10 → n = (10 - y).toNat → Fr (fun c _ => c = 155) σ τ → RowIs τ 155 w → WlkB w → Z = itr clO n y w → zRunA mX9_closes (fun r u => r = none ∧ Fr (fun c _ => c = 155) σ u ∧ RowIs u 155 Z) 2 [(1, ai y), (0, ar 153)] [] τ := by
  intro n
  induction n with
  | zero =>
    intro y τ w h0 h5 hn hF hw hB hE
    refine za_iload_n dX9_closes_2 rfl rfl ?_
    refine za_bipush (x := 10) dX9_closes_3 (by decide) ?_
    refine za_icmp_ge (tgt := 108) dX9_closes_5 (by decide) (inR_of (by omega) (by omega)) (inR_of (by omega) (by omega)) (fun c5 => ?_) (fun c5 => ?_)
    · exact za_vret rfl ⟨rfl, hF, by rw [hE]; exact hw⟩ dX9_closes_108
    · exfalso; omega
  | succ n ih =>
    intro y τ w h0 h5 hn hF hw hB hE
    refine za_iload_n dX9_closes_2 rfl rfl ?_
    refine za_bipush (x := 10) dX9_closes_3 (by decide) ?_
    refine za_icmp_ge (tgt := 108) dX9_closes_5 (by decide) (inR_of (by omega) (by omega)) (inR_of (by omega) (by omega)) (fun c5 => ?_) (fun c5 => ?_)
    · exfalso; omega
    · refine za_iconst dX9_closes_8 ?_
      refine za_istore_n (ls' := [(2, ai 0), (1, ai y), (0, ar 153)]) dX9_closes_9 rfl (Nat.le_of_ble_eq_true rfl) rfl ?_
      refine za_keep (ls' := [(2, ai 0), (1, ai y), (0, ar 153)]) (by simp) ?_
      refine zt_cl_a σ Z y (by omega) (by omega) (clO y w) (fun υ a1 a2 a3 => ?_) 10 0 τ w (by omega) (by omega) (by omega) hF hw hB rfl
      refine za_iinc (y := y + 1) (ls' := [(1, ai (y + 1)), (0, ar 153)]) dX9_closes_102 rfl rfl (Nat.le_of_ble_eq_true rfl) rfl ?_
      refine za_goto (tgt := 2) dX9_closes_105 (by decide) ?_
      exact ih (y + 1) υ (clO y w) (by omega) (by omega) (by omega) a1 a2 a3 (by rw [hE, itr_s])
set_option maxRecDepth 20000 in
theorem zt_closes (σ : Sto) (w : Int → Int) (hw : RowIs σ 155 w) (hB : WlkB w) : zMetA mX9_closes [ar 153] σ (fun r u => r = none ∧ Fr (fun c _ => c = 155) σ u ∧ RowIs u 155 (closeF w)) := by
  refine za_entry (by decide) (Nat.le_of_ble_eq_true rfl) ?_
  refine za_iconst dX9_closes_0 ?_
  refine za_istore_n (ls' := [(1, ai 0), (0, ar 153)]) dX9_closes_1 rfl (Nat.le_of_ble_eq_true rfl) rfl ?_
  exact za_keep (by simp) (zt_cl_y σ (closeF w) 10 0 σ w (by omega) (by omega) (by omega) Fr.rfl hw hB rfl)
set_option maxRecDepth 20000 in
theorem zt_bec_1 (σ : Sto) (f : Int → Int) (hf : RowIs σ 156 f) (hx : ∀ τ : Sto, Fr pBe σ τ → RowIs τ 155 f → zRunA mX9_becomes (fun r u => r = none ∧ BePost σ u f) 27 [(0, ar 153)] [] τ) : ∀ (n : Nat) (k : Int) (τ : Sto), 0 ≤ k → k ≤ 415 → n = (415 - k).toNat → Fr pBe σ τ → (∀ j : Int, 0 ≤ j → j < k → gN τ 155 j = f j) → zRunA mX9_becomes (fun r u => r = none ∧ BePost σ u f) 2 [(1, ai k), (0, ar 153)] [] τ := by
  intro n
  induction n with
  | zero =>
    intro k τ h0 h5 hn hF hZ
    refine za_iload_n dX9_becomes_2 rfl rfl ?_
    refine za_sipush (x := 415) dX9_becomes_3 (by decide) ?_
    refine za_icmp_ge (tgt := 27) dX9_becomes_6 (by decide) (inR_of (by omega) (by omega)) (inR_of (by omega) (by omega)) (fun c6 => ?_) (fun c6 => ?_)
    · exact za_keep (by simp) (hx τ hF (fun j q0 q1 => hZ j q0 (by omega)))
    · exfalso; omega
  | succ n ih =>
    intro k τ h0 h5 hn hF hZ
    refine za_iload_n dX9_becomes_2 rfl rfl ?_
    refine za_sipush (x := 415) dX9_becomes_3 (by decide) ?_
    refine za_icmp_ge (tgt := 27) dX9_becomes_6 (by decide) (inR_of (by omega) (by omega)) (inR_of (by omega) (by omega)) (fun c6 => ?_) (fun c6 => ?_)
    · exfalso; omega
    · refine za_aload_n dX9_becomes_9 rfl rfl ?_
      refine za_getF (d := 155) fX9_13 zk153 rfl r153_3 dX9_becomes_10 ?_
      refine za_iload_n dX9_becomes_13 rfl rfl ?_
      refine za_aload_n dX9_becomes_14 rfl rfl ?_
      refine za_getF (d := 156) fX9_16 zk153 rfl r153_4 dX9_becomes_15 ?_
      refine za_iload_n dX9_becomes_18 rfl rfl ?_
      refine za_ild zk156 n156 (by omega) (by omega) dX9_becomes_19 ?_
      refine za_topI (y := f k) ((hF.1 156 k (by unfold pBe; omega)).trans (hf k h0 (by omega))) ?_
      refine za_ist zk155 n155 (by omega) (by omega) dX9_becomes_20 ?_
      refine za_iinc (y := k + 1) (ls' := [(1, ai (k + 1)), (0, ar 153)]) dX9_becomes_21 rfl rfl (Nat.le_of_ble_eq_true rfl) rfl ?_
      refine za_goto (tgt := 2) dX9_becomes_24 (by decide) ?_
      exact za_keep (by simp) (ih (k + 1) (sN τ 155 k (f k)) (by omega) (by omega) (by omega) (hF.sN (by unfold pBe; omega)) (fun j q0 q1 => by rw [gN_sN]; by_cases e : j = k; rw [if_pos ⟨rfl, e⟩, e, ← hf k h0 (by omega), nrm_of (inR_gN σ 156 k)]; rw [if_neg (by omega)]; exact hZ j q0 (by omega)))
set_option maxRecDepth 20000 in
theorem zt_bec_2 (σ : Sto) (f : Int → Int) : ∀ (n : Nat) (k : Int) (τ : Sto), 0 ≤ k → k ≤ 60 → n = (60 - k).toNat → Fr pBe σ τ → RowIs τ 155 (closeF f) → (∀ j : Int, 0 ≤ j → j < k → gN τ 158 j = 0) → zRunA mX9_becomes (fun r u => r = none ∧ BePost σ u f) 33 [(1, ai k), (0, ar 153)] [] τ := by
  intro n
  induction n with
  | zero =>
    intro k τ h0 h5 hn hF hw hZ
    refine za_iload_n dX9_becomes_33 rfl rfl ?_
    refine za_bipush (x := 60) dX9_becomes_34 (by decide) ?_
    refine za_icmp_ge (tgt := 52) dX9_becomes_36 (by decide) (inR_of (by omega) (by omega)) (inR_of (by omega) (by omega)) (fun c36 => ?_) (fun c36 => ?_)
    · refine za_aload_n dX9_becomes_52 rfl rfl ?_
      refine za_lconst (v := 0) dX9_becomes_53 rfl ?_
      refine za_putL (J := 17) fX9_179 zk153 rfl rfl rfl dX9_becomes_54 ?_
      refine za_aload_n dX9_becomes_57 rfl rfl ?_
      refine za_iconst dX9_becomes_58 ?_
      refine za_putI (J := 20) fX9_183 zk153 rfl rfl rfl dX9_becomes_59 ?_
      refine za_aload_n dX9_becomes_62 rfl rfl ?_
      refine za_iconst dX9_becomes_63 ?_
      refine za_putI (J := 38) fX9_186 zk153 rfl rfl rfl dX9_becomes_64 ?_
      exact za_vret rfl ⟨rfl, (((hF.sL (by unfold pBe; omega)).sN (by unfold pBe; omega)).sN (by unfold pBe; omega)), fun j q0 q1 => by rw [gN_sN, if_neg (by omega), gN_sN, if_neg (by omega), gN_sL]; exact hw j q0 q1, fun j q0 q1 => by rw [gN_sN, if_neg (by omega), gN_sN, if_neg (by omega), gN_sL]; exact hZ j q0 (by omega), by rw [gL_sN, gL_sN, gL_sL, if_pos ⟨rfl, rfl⟩], by rw [gN_sN, if_neg (by omega), gN_sN, if_pos ⟨rfl, rfl⟩]; rfl, by rw [gN_sN, if_pos ⟨rfl, rfl⟩]; rfl⟩ dX9_becomes_67
    · exfalso; omega
  | succ n ih =>
    intro k τ h0 h5 hn hF hw hZ
    refine za_iload_n dX9_becomes_33 rfl rfl ?_
    refine za_bipush (x := 60) dX9_becomes_34 (by decide) ?_
    refine za_icmp_ge (tgt := 52) dX9_becomes_36 (by decide) (inR_of (by omega) (by omega)) (inR_of (by omega) (by omega)) (fun c36 => ?_) (fun c36 => ?_)
    · exfalso; omega
    · refine za_aload_n dX9_becomes_39 rfl rfl ?_
      refine za_getF (d := 158) fX9_26 zk153 rfl r153_16 dX9_becomes_40 ?_
      refine za_iload_n dX9_becomes_43 rfl rfl ?_
      refine za_iconst dX9_becomes_44 ?_
      refine za_ist zk158 n158 (by omega) (by omega) dX9_becomes_45 ?_
      refine za_iinc (y := k + 1) (ls' := [(1, ai (k + 1)), (0, ar 153)]) dX9_becomes_46 rfl rfl (Nat.le_of_ble_eq_true rfl) rfl ?_
      refine za_goto (tgt := 33) dX9_becomes_49 (by decide) ?_
      exact za_keep (by simp) (ih (k + 1) (sN τ 158 k 0) (by omega) (by omega) (by omega) (hF.sN (by unfold pBe; omega)) (fun j q0 q1 => by rw [gN_sN, if_neg (by omega)]; exact hw j q0 q1) (fun j q0 q1 => by rw [gN_sN]; by_cases e : j = k; rw [if_pos ⟨rfl, e⟩]; rfl; rw [if_neg (by omega)]; exact hZ j q0 (by omega)))
set_option maxRecDepth 20000 in
theorem zt_becomes (σ : Sto) (f : Int → Int) (hf : RowIs σ 156 f) (hB : WlkB f) : zMetA mX9_becomes [ar 153] σ (fun r u => r = none ∧ BePost σ u f) := by
  refine za_entry (by decide) (Nat.le_of_ble_eq_true rfl) ?_
  refine za_iconst dX9_becomes_0 ?_
  refine za_istore_n (ls' := [(1, ai 0), (0, ar 153)]) dX9_becomes_1 rfl (Nat.le_of_ble_eq_true rfl) rfl ?_
  refine za_keep (ls' := [(1, ai 0), (0, ar 153)]) (by simp) ?_
  refine zt_bec_1 σ f hf (fun τ hF hw => ?_) 415 0 σ (by omega) (by omega) (by omega) Fr.rfl (fun j q0 q1 => by omega)
  refine za_aload_n dX9_becomes_27 rfl rfl ?_
  refine za_callV (c := 153) (as := []) (rest := []) (zt_closes τ f hw hB) mvX9_closes lX9_176 zk153 (by decide) rfl rfl rfl rfl (Nat.le_of_ble_eq_true rfl) (Nat.le_of_ble_eq_true rfl) (Nat.le_of_ble_eq_true rfl) dX9_becomes_28 (fun υ hυ => ?_)
  obtain ⟨-, hFu, hwu⟩ := hυ
  refine za_iconst dX9_becomes_31 ?_
  refine za_istore_n (ls' := [(1, ai 0), (0, ar 153)]) dX9_becomes_32 rfl (Nat.le_of_ble_eq_true rfl) rfl ?_
  exact za_keep (by simp) (zt_bec_2 σ f 60 0 υ (by omega) (by omega) (by omega) (hF.trans (hFu.mono (fun c j q => by unfold pBe; omega))) hwu (fun j q0 q1 => by omega))
end
