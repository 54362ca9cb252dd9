/-! Tokens of the class and of the reference are alike. -/
def vB (B : Int) : List Int → Int
  | [] => 0
  | d :: ds => vB B ds * B + d
def lets (ds : List Int) : Prop := ∀ d ∈ ds, 1 ≤ d ∧ d ≤ 26
theorem lets.tl {d : Int} {ds : List Int} (h : lets (d :: ds)) : (1 ≤ d ∧ d ≤ 26) ∧ lets ds := ⟨h d List.mem_cons_self, fun x hx => h x (List.mem_cons_of_mem _ hx)⟩
theorem lets.cons {d : Int} {ds : List Int} (h1 : 1 ≤ d) (h2 : d ≤ 26) (h : lets ds) : lets (d :: ds) := fun x hx => by
  rcases List.mem_cons.mp hx with e | e
  · rw [e]; exact ⟨h1, h2⟩
  · exact h x e
theorem lets.nil : lets [] := fun x hx => by cases hx

theorem vB27_nn : ∀ ds : List Int, lets ds → 0 ≤ vB 27 ds
  | [], _ => by unfold vB; omega
  | d :: ds, h => by
    have a := h.tl
    have b := vB27_nn ds a.2
    unfold vB
    omega
theorem vB27_inj : ∀ (a b : List Int), lets a → lets b → vB 27 a = vB 27 b → a = b
  | [], [], _, _, _ => rfl
  | [], d :: ds, _, h, e => by
    have a := h.tl
    have b := vB27_nn ds a.2
    unfold vB at e
    omega
  | d :: ds, [], h, _, e => by
    have a := h.tl
    have b := vB27_nn ds a.2
    unfold vB at e
    omega
  | d :: ds, x :: xs, h, k, e => by
    have a := h.tl
    have b := k.tl
    unfold vB at e
    have e1 : d = x := by omega
    have e2 : vB 27 ds = vB 27 xs := by omega
    rw [e1, vB27_inj ds xs a.2 b.2 e2]
theorem vB27_lt : ∀ (k : Nat) (ds : List Int), lets ds → ds.length ≤ k → vB 27 ds < 27 ^ k
  | 0, [], _, _ => by unfold vB; omega
  | 0, d :: ds, _, h => by simp at h
  | k + 1, [], _, _ => by
    have z := vB27_lt k [] lets.nil (by simp)
    unfold vB at z ⊢
    rw [Int.pow_succ]
    omega
  | k + 1, d :: ds, h, hl => by
    have a := h.tl
    have z := vB27_lt k ds a.2 (by simp at hl; omega)
    unfold vB
    rw [Int.pow_succ]
    omega

theorem vB32_nn : ∀ ds : List Int, lets ds → 0 ≤ vB 32 ds
  | [], _ => by unfold vB; omega
  | d :: ds, h => by
    have a := h.tl
    have b := vB32_nn ds a.2
    unfold vB
    omega
theorem vB32_inj : ∀ (a b : List Int), lets a → lets b → vB 32 a = vB 32 b → a = b
  | [], [], _, _, _ => rfl
  | [], d :: ds, _, h, e => by
    have a := h.tl
    have b := vB32_nn ds a.2
    unfold vB at e
    omega
  | d :: ds, [], h, _, e => by
    have a := h.tl
    have b := vB32_nn ds a.2
    unfold vB at e
    omega
  | d :: ds, x :: xs, h, k, e => by
    have a := h.tl
    have b := k.tl
    unfold vB at e
    have e1 : d = x := by omega
    have e2 : vB 32 ds = vB 32 xs := by omega
    rw [e1, vB32_inj ds xs a.2 b.2 e2]
theorem vB32_lt : ∀ (k : Nat) (ds : List Int), lets ds → ds.length ≤ k → vB 32 ds < 32 ^ k
  | 0, [], _, _ => by unfold vB; omega
  | 0, d :: ds, _, h => by simp at h
  | k + 1, [], _, _ => by
    have z := vB32_lt k [] lets.nil (by simp)
    unfold vB at z ⊢
    rw [Int.pow_succ]
    omega
  | k + 1, d :: ds, h, hl => by
    have a := h.tl
    have z := vB32_lt k ds a.2 (by simp at hl; omega)
    unfold vB
    rw [Int.pow_succ]
    omega

theorem orI5 {w d : Int} (h0 : 0 ≤ w) (h1 : w < 33554432) (h2 : 0 ≤ d) (h3 : d < 32) : orI (shlI w 5) d = w * 32 + d := by
  obtain ⟨a, rfl⟩ : ∃ a : Nat, w = (a : Int) := ⟨w.toNat, by omega⟩
  obtain ⟨b, rfl⟩ : ∃ b : Nat, d = (b : Int) := ⟨d.toNat, by omega⟩
  unfold orI shlI
  rw [Int32.ofInt_toInt]
  have e5 : (Int32.ofInt 5 &&& 31) = 5 := by decide
  rw [e5]
  have en : ((Int32.ofInt (a : Int) <<< (5 : Int32) ||| Int32.ofInt (b : Int)).toBitVec).toNat = a * 32 + b := by
    show ((BitVec.ofInt 32 (a : Int) <<< (5 : Nat)) ||| BitVec.ofInt 32 (b : Int)).toNat = a * 32 + b
    rw [BitVec.ofInt_natCast, BitVec.ofInt_natCast, BitVec.toNat_or, BitVec.toNat_shiftLeft, BitVec.toNat_ofNat, BitVec.toNat_ofNat, Nat.mod_eq_of_lt (by omega : a < 2 ^ 32), Nat.mod_eq_of_lt (by omega : b < 2 ^ 32), Nat.shiftLeft_eq, Nat.mod_eq_of_lt (by omega : a * 2 ^ 5 < 2 ^ 32), Nat.mul_comm a (2 ^ 5), ← Nat.two_pow_add_eq_or_of_lt (by omega : b < 2 ^ 5)]
  show ((Int32.ofInt (a : Int) <<< (5 : Int32) ||| Int32.ofInt (b : Int)).toBitVec).toInt = _
  rw [BitVec.toInt_eq_toNat_of_lt (by rw [en]; omega), en]
  omega
def dgs (T : Int → Int) : Nat → Int → List Int → List Int
  | 0, _, l => l
  | d + 1, p, l => dgs T d (p + 1) ((T p - 96) :: l)
theorem dgs_len {T : Int → Int} : ∀ (d : Nat) (p : Int) (l : List Int), (dgs T d p l).length = d + l.length
  | 0, _, l => by unfold dgs; omega
  | d + 1, p, l => by
    unfold dgs
    rw [dgs_len d (p + 1) _, List.length_cons]
    omega
theorem dgs_lets {T : Int → Int} : ∀ (d : Nat) (p : Int) (l : List Int), (∀ j, p ≤ j → j < p + d → 97 ≤ T j ∧ T j ≤ 122) → lets l → lets (dgs T d p l)
  | 0, _, _, _, h => h
  | d + 1, p, l, ht, h => by
    have a := ht p (by omega) (by omega)
    unfold dgs
    exact dgs_lets d (p + 1) _ (fun j j0 j1 => ht j (by omega) (by omega)) (h.cons (by omega) (by omega))
theorem lt_vB {T : Int → Int} : ∀ (d : Nat) (p : Int) (l : List Int), ltF T d p (vB 27 l) = vB 27 (dgs T d p l)
  | 0, _, _ => rfl
  | d + 1, p, l => by
    unfold ltF dgs
    rw [← lt_vB d (p + 1) ((T p - 96) :: l)]
    congr 1
    show vB 27 l * 27 + (T p - 97 + 1) = vB 27 l * 27 + (T p - 96)
    omega
theorem wd_vB {T : Int → Int} {n pl : Int} : ∀ (fu : Nat) (p : Int) (l : List Int), (l.length : Int) = p - pl → lets l → spn (isSm T n) fu p - pl ≤ 6 → wdF T n pl fu p (vB 32 l) = vB 32 (dgs T (spn (isSm T n) fu p - p).toNat p l)
  | 0, p, l, _, _, _ => by
    unfold wdF spn
    rw [Int.sub_self]
    rfl
  | fu + 1, p, l, hl, hs, h6 => by
    by_cases hi : isSm T n p = true
    · have hg := spn_ge (q := isSm T n) fu (p + 1)
      rw [spn_s1 hi] at h6 ⊢
      have hb : sml (hrF T n p) := of_decide_eq_true hi
      have hpn : p < n := by
        unfold hrF at hb
        split at hb <;> omega
      have eT : hrF T n p = T p := if_pos hpn
      rw [eT] at hb
      have b1 := vB32_lt 5 l hs (by omega)
      have b0 := vB32_nn l hs
      have e1 : wdF T n pl (fu + 1) p (vB 32 l) = wdF T n pl fu (p + 1) (vB 32 ((T p - 96) :: l)) := by
        show (if isSm T n p = true then wdF T n pl fu (p + 1) (if p - pl < 6 then orI (shlI (vB 32 l) 5) (hrF T n p - 97 + 1) else vB 32 l) else vB 32 l) = _
        rw [if_pos hi, if_pos (by omega), eT, orI5 b0 (by omega) (by omega) (by omega)]
        congr 1
        show _ = vB 32 l * 32 + (T p - 96)
        omega
      rw [e1, wd_vB fu (p + 1) _ (by rw [List.length_cons]; omega) (hs.cons (by omega) (by omega)) h6]
      rw [show (spn (isSm T n) fu (p + 1) - p).toNat = (spn (isSm T n) fu (p + 1) - (p + 1)).toNat + 1 by omega]
      rfl
    · have hf : isSm T n p = false := by cases z : isSm T n p <;> simp_all
      rw [spn_s0 hf, Int.sub_self]
      show (if isSm T n p = true then _ else vB 32 l) = _
      rw [if_neg hi]
      rfl
/-- a name, as the class and as the reference have it -/
def NmR (a b : Int) : Prop := ∃ ds : List Int, lets ds ∧ ds.length ≤ 6 ∧ a = vB 27 ds ∧ b = vB 32 ds
theorem NmR.iff {a b x y : Int} (h : NmR a b) (k : NmR x y) : a = x ↔ b = y := by
  obtain ⟨d, d1, d2, d3, d4⟩ := h
  obtain ⟨e, e1, e2, e3, e4⟩ := k
  rw [d3, d4, e3, e4]
  exact ⟨fun z => by rw [vB27_inj d e d1 e1 z], fun z => by rw [vB32_inj d e d1 e1 z]⟩
theorem NmR.rng {a b : Int} (h : NmR a b) : 0 ≤ a ∧ a < 387420489 := by
  obtain ⟨d, d1, d2, d3, d4⟩ := h
  have z := vB27_lt 6 d d1 d2
  have y := vB27_nn d d1
  rw [d3]
  omega

theorem wkB_0 (T : Int → Int) (p : Int) : wkB T p 0 = true ↔ T p = 115 ∧ T (p + 1) = 116 ∧ T (p + 2) = 111 ∧ T (p + 3) = 112 := by
  have e0 : wdC (5 * 0 + 0) = 115 := by decide +kernel
  have e1 : wdC (5 * 0 + (0 + 1)) = 116 := by decide +kernel
  have e2 : wdC (5 * 0 + (0 + 1 + 1)) = 111 := by decide +kernel
  have e3 : wdC (5 * 0 + (0 + 1 + 1 + 1)) = 112 := by decide +kernel
  have p0 : p + 0 = p := by omega
  have p1 : p + (0 + 1) = p + 1 := by omega
  have p2 : p + (0 + 1 + 1) = p + 2 := by omega
  have p3 : p + (0 + 1 + 1 + 1) = p + 3 := by omega
  have ei : itr (wkF T p 0) 4 0 1 = andI (andI (andI (andI 1 (if T p = 115 then 1 else 0)) (if T (p + 1) = 116 then 1 else 0)) (if T (p + 2) = 111 then 1 else 0)) (if T (p + 3) = 112 then 1 else 0) := by
    show wkF T p 0 (0 + 1 + 1 + 1) (wkF T p 0 (0 + 1 + 1) (wkF T p 0 (0 + 1) (wkF T p 0 0 1))) = _
    unfold wkF
    rw [e0, e1, e2, e3, p0, p1, p2, p3]
  unfold wkB
  rw [decide_eq_true_iff, ei]
  by_cases q0 : T p = 115 <;> by_cases q1 : T (p + 1) = 116 <;> by_cases q2 : T (p + 2) = 111 <;> by_cases q3 : T (p + 3) = 112 <;> simp only [q0, q1, q2, q3, if_true, if_false, and_true, and_false, true_and, false_and] <;> decide
theorem kw_0 {T : Int → Int} {p e : Int} (h0 : p ≤ e) (hs : ∀ j, p ≤ j → j < e → 97 ≤ T j ∧ T j ≤ 122) : ltF T (e - p).toNat p 0 = 388978 ↔ (e - p = 4 ∧ wkB T p 0 = true) := by
  have hl := lt_vB (T := T) (e - p).toNat p []
  have hd : lets (dgs T (e - p).toNat p []) := dgs_lets _ _ _ (fun j j0 j1 => hs j j0 (by omega)) lets.nil
  have hc : lets [16, 15, 20, 19] := fun x hx => by simp at hx; omega
  have ec : vB 27 [16, 15, 20, 19] = 388978 := by decide +kernel
  rw [wkB_0]
  rw [show vB 27 [] = 0 from rfl] at hl
  rw [hl]
  constructor
  · intro z
    have e1 := vB27_inj _ _ hd hc (z.trans ec.symm)
    have e2 := congrArg List.length e1
    rw [dgs_len] at e2
    simp at e2
    have e4 : (e - p).toNat = 4 := by omega
    rw [e4] at e1
    have e5 : dgs T 4 p [] = [T (p + 1 + 1 + 1) - 96, T (p + 1 + 1) - 96, T (p + 1) - 96, T p - 96] := rfl
    rw [e5] at e1
    simp only [List.cons.injEq, and_true] at e1
    rw [show p + 1 + 1 + 1 = p + 3 by omega, show p + 1 + 1 = p + 2 by omega] at e1
    omega
  · intro z
    rw [show (e - p).toNat = 4 by omega]
    show vB 27 [T (p + 1 + 1 + 1) - 96, T (p + 1 + 1) - 96, T (p + 1) - 96, T p - 96] = _
    rw [show p + 1 + 1 + 1 = p + 3 by omega, show p + 1 + 1 = p + 2 by omega]
    unfold vB vB vB vB vB
    omega

theorem wkB_1 (T : Int → Int) (p : Int) : wkB T p 1 = true ↔ T p = 119 ∧ T (p + 1) = 97 ∧ T (p + 2) = 108 ∧ T (p + 3) = 107 := by
  have e0 : wdC (5 * 1 + 0) = 119 := by decide +kernel
  have e1 : wdC (5 * 1 + (0 + 1)) = 97 := by decide +kernel
  have e2 : wdC (5 * 1 + (0 + 1 + 1)) = 108 := by decide +kernel
  have e3 : wdC (5 * 1 + (0 + 1 + 1 + 1)) = 107 := by decide +kernel
  have p0 : p + 0 = p := by omega
  have p1 : p + (0 + 1) = p + 1 := by omega
  have p2 : p + (0 + 1 + 1) = p + 2 := by omega
  have p3 : p + (0 + 1 + 1 + 1) = p + 3 := by omega
  have ei : itr (wkF T p 1) 4 0 1 = andI (andI (andI (andI 1 (if T p = 119 then 1 else 0)) (if T (p + 1) = 97 then 1 else 0)) (if T (p + 2) = 108 then 1 else 0)) (if T (p + 3) = 107 then 1 else 0) := by
    show wkF T p 1 (0 + 1 + 1 + 1) (wkF T p 1 (0 + 1 + 1) (wkF T p 1 (0 + 1) (wkF T p 1 0 1))) = _
    unfold wkF
    rw [e0, e1, e2, e3, p0, p1, p2, p3]
  unfold wkB
  rw [decide_eq_true_iff, ei]
  by_cases q0 : T p = 119 <;> by_cases q1 : T (p + 1) = 97 <;> by_cases q2 : T (p + 2) = 108 <;> by_cases q3 : T (p + 3) = 107 <;> simp only [q0, q1, q2, q3, if_true, if_false, and_true, and_false, true_and, false_and] <;> decide
theorem kw_1 {T : Int → Int} {p e : Int} (h0 : p ≤ e) (hs : ∀ j, p ≤ j → j < e → 97 ≤ T j ∧ T j ≤ 122) : ltF T (e - p).toNat p 0 = 453773 ↔ (e - p = 4 ∧ wkB T p 1 = true) := by
  have hl := lt_vB (T := T) (e - p).toNat p []
  have hd : lets (dgs T (e - p).toNat p []) := dgs_lets _ _ _ (fun j j0 j1 => hs j j0 (by omega)) lets.nil
  have hc : lets [11, 12, 1, 23] := fun x hx => by simp at hx; omega
  have ec : vB 27 [11, 12, 1, 23] = 453773 := by decide +kernel
  rw [wkB_1]
  rw [show vB 27 [] = 0 from rfl] at hl
  rw [hl]
  constructor
  · intro z
    have e1 := vB27_inj _ _ hd hc (z.trans ec.symm)
    have e2 := congrArg List.length e1
    rw [dgs_len] at e2
    simp at e2
    have e4 : (e - p).toNat = 4 := by omega
    rw [e4] at e1
    have e5 : dgs T 4 p [] = [T (p + 1 + 1 + 1) - 96, T (p + 1 + 1) - 96, T (p + 1) - 96, T p - 96] := rfl
    rw [e5] at e1
    simp only [List.cons.injEq, and_true] at e1
    rw [show p + 1 + 1 + 1 = p + 3 by omega, show p + 1 + 1 = p + 2 by omega] at e1
    omega
  · intro z
    rw [show (e - p).toNat = 4 by omega]
    show vB 27 [T (p + 1 + 1 + 1) - 96, T (p + 1 + 1) - 96, T (p + 1) - 96, T p - 96] = _
    rw [show p + 1 + 1 + 1 = p + 3 by omega, show p + 1 + 1 = p + 2 by omega]
    unfold vB vB vB vB vB
    omega

theorem wkB_2 (T : Int → Int) (p : Int) : wkB T p 2 = true ↔ T p = 116 ∧ T (p + 1) = 114 ∧ T (p + 2) = 105 ∧ T (p + 3) = 112 := by
  have e0 : wdC (5 * 2 + 0) = 116 := by decide +kernel
  have e1 : wdC (5 * 2 + (0 + 1)) = 114 := by decide +kernel
  have e2 : wdC (5 * 2 + (0 + 1 + 1)) = 105 := by decide +kernel
  have e3 : wdC (5 * 2 + (0 + 1 + 1 + 1)) = 112 := by decide +kernel
  have p0 : p + 0 = p := by omega
  have p1 : p + (0 + 1) = p + 1 := by omega
  have p2 : p + (0 + 1 + 1) = p + 2 := by omega
  have p3 : p + (0 + 1 + 1 + 1) = p + 3 := by omega
  have ei : itr (wkF T p 2) 4 0 1 = andI (andI (andI (andI 1 (if T p = 116 then 1 else 0)) (if T (p + 1) = 114 then 1 else 0)) (if T (p + 2) = 105 then 1 else 0)) (if T (p + 3) = 112 then 1 else 0) := by
    show wkF T p 2 (0 + 1 + 1 + 1) (wkF T p 2 (0 + 1 + 1) (wkF T p 2 (0 + 1) (wkF T p 2 0 1))) = _
    unfold wkF
    rw [e0, e1, e2, e3, p0, p1, p2, p3]
  unfold wkB
  rw [decide_eq_true_iff, ei]
  by_cases q0 : T p = 116 <;> by_cases q1 : T (p + 1) = 114 <;> by_cases q2 : T (p + 2) = 105 <;> by_cases q3 : T (p + 3) = 112 <;> simp only [q0, q1, q2, q3, if_true, if_false, and_true, and_false, true_and, false_and] <;> decide
theorem kw_2 {T : Int → Int} {p e : Int} (h0 : p ≤ e) (hs : ∀ j, p ≤ j → j < e → 97 ≤ T j ∧ T j ≤ 122) : ltF T (e - p).toNat p 0 = 407041 ↔ (e - p = 4 ∧ wkB T p 2 = true) := by
  have hl := lt_vB (T := T) (e - p).toNat p []
  have hd : lets (dgs T (e - p).toNat p []) := dgs_lets _ _ _ (fun j j0 j1 => hs j j0 (by omega)) lets.nil
  have hc : lets [16, 9, 18, 20] := fun x hx => by simp at hx; omega
  have ec : vB 27 [16, 9, 18, 20] = 407041 := by decide +kernel
  rw [wkB_2]
  rw [show vB 27 [] = 0 from rfl] at hl
  rw [hl]
  constructor
  · intro z
    have e1 := vB27_inj _ _ hd hc (z.trans ec.symm)
    have e2 := congrArg List.length e1
    rw [dgs_len] at e2
    simp at e2
    have e4 : (e - p).toNat = 4 := by omega
    rw [e4] at e1
    have e5 : dgs T 4 p [] = [T (p + 1 + 1 + 1) - 96, T (p + 1 + 1) - 96, T (p + 1) - 96, T p - 96] := rfl
    rw [e5] at e1
    simp only [List.cons.injEq, and_true] at e1
    rw [show p + 1 + 1 + 1 = p + 3 by omega, show p + 1 + 1 = p + 2 by omega] at e1
    omega
  · intro z
    rw [show (e - p).toNat = 4 by omega]
    show vB 27 [T (p + 1 + 1 + 1) - 96, T (p + 1 + 1) - 96, T (p + 1) - 96, T p - 96] = _
    rw [show p + 1 + 1 + 1 = p + 3 by omega, show p + 1 + 1 = p + 2 by omega]
    unfold vB vB vB vB vB
    omega

theorem wh_iff {T : Int → Int} {p e : Int} : (whF T p e = 0 ↔ (e - p = 4 ∧ wkB T p 0 = true)) ∧ (whF T p e = 1 ↔ (e - p = 4 ∧ wkB T p 1 = true)) ∧ (whF T p e = 2 ↔ (e - p = 4 ∧ wkB T p 2 = true)) ∧ -1 ≤ whF T p e ∧ whF T p e ≤ 2 := by
  have a0 := wkB_0 T p
  have a1 := wkB_1 T p
  have a2 := wkB_2 T p
  unfold whF
  by_cases h : e - p = 4
  · rw [if_pos h]
    have ef : fs2 (wkB T p) (-1) 3 0 = if wkB T p 0 = true then 0 else if wkB T p 1 = true then 1 else if wkB T p 2 = true then 2 else -1 := rfl
    rw [ef]
    by_cases b0 : wkB T p 0 = true
    · rw [if_pos b0]
      have c0 := a0.mp b0
      refine ⟨by simp [h, b0], ⟨fun z => by omega, fun z => ?_⟩, ⟨fun z => by omega, fun z => ?_⟩, by omega, by omega⟩
      · have := a1.mp z.2; omega
      · have := a2.mp z.2; omega
    · rw [if_neg b0]
      by_cases b1 : wkB T p 1 = true
      · rw [if_pos b1]
        have c1 := a1.mp b1
        refine ⟨⟨fun z => by omega, fun z => absurd z.2 b0⟩, by simp [h, b1], ⟨fun z => by omega, fun z => ?_⟩, by omega, by omega⟩
        have := a2.mp z.2; omega
      · rw [if_neg b1]
        by_cases b2 : wkB T p 2 = true
        · rw [if_pos b2]
          exact ⟨⟨fun z => by omega, fun z => absurd z.2 b0⟩, ⟨fun z => by omega, fun z => absurd z.2 b1⟩, by simp [h, b2], by omega, by omega⟩
        · rw [if_neg b2]
          exact ⟨⟨fun z => by omega, fun z => absurd z.2 b0⟩, ⟨fun z => by omega, fun z => absurd z.2 b1⟩, ⟨fun z => by omega, fun z => absurd z.2 b2⟩, by omega, by omega⟩
  · rw [if_neg h]
    exact ⟨⟨fun z => by omega, fun z => absurd z.1 h⟩, ⟨fun z => by omega, fun z => absurd z.1 h⟩, ⟨fun z => by omega, fun z => absurd z.1 h⟩, by omega, by omega⟩
/-- a number, as the class and as the reference have it -/
def NuR (a b : Int) : Prop := (a = b ∧ 0 ≤ a) ∨ (100000 ≤ a ∧ 100000 ≤ b)
theorem nm_big {T : Int → Int} {n : Int} : ∀ (fu : Nat) (p v : Int), 100000 ≤ v → nmF T n fu p v = v
  | 0, _, _, _ => rfl
  | fu + 1, p, v, h => by
    show (if isDg T n p = true then nmF T n fu (p + 1) (if 99999 < v then v else 10 * v + hrF T n p - 48) else v) = v
    rw [if_pos (show 99999 < v by omega)]
    split
    · exact nm_big fu (p + 1) v h
    · rfl
theorem dg_big {T : Int → Int} : ∀ (d : Nat) (p v : Int), (∀ j, p ≤ j → j < p + d → 48 ≤ T j ∧ T j ≤ 57) → 100000 ≤ v → 100000 ≤ dgF T d p v
  | 0, _, _, _, h => h
  | d + 1, p, v, ht, h => by
    have a := ht p (by omega) (by omega)
    unfold dgF
    split
    · exact dg_big d (p + 1) _ (fun j j0 j1 => ht j (by omega) (by omega)) (by omega)
    · exact h
theorem dg_rng {T : Int → Int} : ∀ (d : Nat) (p v : Int), (∀ j, p ≤ j → j < p + d → 48 ≤ T j ∧ T j ≤ 57) → 0 ≤ v → v ≤ 10000009 → 0 ≤ dgF T d p v ∧ dgF T d p v ≤ 10000009
  | 0, _, _, _, h, k => ⟨h, k⟩
  | d + 1, p, v, ht, h, k => by
    have a := ht p (by omega) (by omega)
    unfold dgF
    split
    · exact dg_rng d (p + 1) _ (fun j j0 j1 => ht j (by omega) (by omega)) (by omega) (by omega)
    · exact ⟨h, k⟩
theorem nu_rel {T : Int → Int} {n : Int} : ∀ (fu : Nat) (p v : Int), 0 ≤ v → v < 100000 → NuR (dgF T (spn (isDg T n) fu p - p).toNat p v) (nmF T n fu p v)
  | 0, p, v, h0, h1 => by
    unfold spn nmF
    rw [Int.sub_self]
    exact Or.inl ⟨rfl, h0⟩
  | fu + 1, p, v, h0, h1 => by
    by_cases hi : isDg T n p = true
    · have hg := spn_ge (q := isDg T n) fu (p + 1)
      have ha := spn_all (q := isDg T n) fu (p + 1)
      rw [spn_s1 hi]
      have hb : dig (hrF T n p) := of_decide_eq_true hi
      have hpn : p < n := by
        unfold hrF at hb
        split at hb <;> omega
      have eT : hrF T n p = T p := if_pos hpn
      rw [eT] at hb
      have e1 : nmF T n (fu + 1) p v = nmF T n fu (p + 1) (10 * v + T p - 48) := by
        show (if isDg T n p = true then nmF T n fu (p + 1) (if 99999 < v then v else 10 * v + hrF T n p - 48) else v) = _
        rw [if_pos hi, if_neg (by omega), eT]
      have e2 : dgF T (spn (isDg T n) fu (p + 1) - p).toNat p v = dgF T (spn (isDg T n) fu (p + 1) - (p + 1)).toNat (p + 1) (10 * v + T p - 48) := by
        rw [show (spn (isDg T n) fu (p + 1) - p).toNat = (spn (isDg T n) fu (p + 1) - (p + 1)).toNat + 1 by omega]
        show (if v < 1000000 then dgF T _ (p + 1) (v * 10 + (T p - 48)) else v) = _
        rw [if_pos (by omega)]
        congr 1
        omega
      rw [e1, e2]
      by_cases hv : 10 * v + T p - 48 < 100000
      · exact nu_rel fu (p + 1) _ (by omega) hv
      · rw [nm_big fu (p + 1) _ (by omega)]
        refine Or.inr ⟨dg_big _ _ _ (fun j j0 j1 => ?_) (by omega), by omega⟩
        have z := ha j j0 (by omega)
        have hz : dig (hrF T n j) := of_decide_eq_true z
        unfold hrF at hz
        split at hz
        · exact hz
        · omega
    · have hf : isDg T n p = false := by cases z : isDg T n p <;> simp_all
      rw [spn_s0 hf, Int.sub_self]
      show NuR v (if isDg T n p = true then _ else v)
      rw [if_neg hi]
      exact Or.inl ⟨rfl, h0⟩
theorem kd_bl {T : Int → Int} (hT : ∀ j : Int, 0 ≤ T j ∧ T j ≤ 255) (n : Int) : isBl T n = fun y => decide (kdF T n y = 4) := by
  funext y
  have := hT y
  unfold isBl hrF kdF
  rw [decide_eq_decide]
  by_cases h : y < n
  · rw [if_pos h, if_neg (by omega)]
    (repeat' split) <;> omega
  · rw [if_neg h, if_pos (by omega)]
    omega
theorem kd_sm {T : Int → Int} (hT : ∀ j : Int, 0 ≤ T j ∧ T j ≤ 255) (n : Int) : isSm T n = fun y => decide (kdF T n y = 1) := by
  funext y
  have := hT y
  unfold isSm hrF kdF
  rw [decide_eq_decide]
  by_cases h : y < n
  · rw [if_pos h, if_neg (by omega)]
    (repeat' split) <;> omega
  · rw [if_neg h, if_pos (by omega)]
    omega
theorem kd_dg {T : Int → Int} (hT : ∀ j : Int, 0 ≤ T j ∧ T j ≤ 255) (n : Int) : isDg T n = fun y => decide (kdF T n y = 2) := by
  funext y
  have := hT y
  unfold isDg hrF kdF
  rw [decide_eq_decide]
  by_cases h : y < n
  · rw [if_pos h, if_neg (by omega)]
    (repeat' split) <;> omega
  · rw [if_neg h, if_pos (by omega)]
    omega
theorem spn_stop {q : Int → Bool} : ∀ (d : Nat) (p : Int), spn q d p < p + d → q (spn q d p) = false
  | 0, p, h => by unfold spn at h; omega
  | d + 1, p, h => by
    by_cases hi : q p = true
    · rw [spn_s1 hi] at h ⊢
      exact spn_stop d (p + 1) (by omega)
    · have hf : q p = false := by cases z : q p <;> simp_all
      rw [spn_s0 hf]
      exact hf
def kcF (so : Int) : Int := if so = 0 then 1 else if so = 1 then 2 else if so = 2 then 3 else if so = 3 then 0 else 5
/-- a token: its sort, value, word in the reference; its kind and value in the class -/
def TkR (so va wo k v : Int) : Prop := k = kcF so ∧ (0 ≤ so ∧ so ≤ 4) ∧ (so = 0 → NmR v wo ∧ (v = 388978 ↔ va = 0) ∧ (v = 453773 ↔ va = 1) ∧ (v = 407041 ↔ va = 2) ∧ -1 ≤ va ∧ va ≤ 2) ∧ (so = 1 → NuR v va)
theorem tok_rel {T : Int → Int} (hT : ∀ j : Int, 0 ≤ T j ∧ T j ≤ 255) {n : Int} (tk : Tk) (h0 : 0 ≤ tk.1) (h1 : tk.1 ≤ n) : (tokF T n tk).2.1 = adP T n tk.1 ∧ (tokF T n tk).1 = adE T n (adP T n tk.1) ∧ TkR (tokF T n tk).2.2.1 (tokF T n tk).2.2.2.1 (tokF T n tk).2.2.2.2 (adK T n (adP T n tk.1)) (nrm (adV T n (adP T n tk.1))) := by
  have hr := ad_rng (T := T) h0 h1
  have ep : spn (isBl T n) (n - tk.1).toNat tk.1 = adP T n tk.1 := by rw [kd_bl hT]; rfl
  have hst : adP T n tk.1 < n → kdF T n (adP T n tk.1) ≠ 4 := by
    intro z
    have y := spn_stop (q := isBl T n) (n - tk.1).toNat tk.1 (by rw [ep]; omega)
    rw [ep, kd_bl hT] at y
    exact of_decide_eq_false y
  rw [tokF_T, ep]
  generalize adP T n tk.1 = p at *
  have hp := hT p
  have her := adE_rng (T := T) (n := n) (p := p) hr.2
  unfold tokT
  by_cases q0 : p < n
  · have eT : hrF T n p = T p := if_pos q0
    rw [eT, if_neg (by omega)]
    by_cases q1 : sml (T p)
    · have ek : kdF T n p = 1 := by unfold kdF; rw [if_neg (by omega), if_pos q1]
      have ee : spn (isSm T n) (n - p).toNat p = adE T n p := by unfold adE; rw [if_pos (Or.inl ek), ek, kd_sm hT]; rfl
      have hall : ∀ j, p ≤ j → j < adE T n p → 97 ≤ T j ∧ T j ≤ 122 := fun j a b => kd1 ((adE_all (Or.inl ek) j a b).trans ek)
      rw [if_pos q1, ee]
      refine ⟨rfl, rfl, ?_⟩
      dsimp only
      by_cases q6 : adE T n p - p ≤ 6
      · have ea : adK T n p = 1 := by unfold adK; rw [if_neg (by omega), ek]
        rw [if_pos q6, ea]
        have ev : adV T n p = ltF T (adE T n p - p).toNat p 0 := by unfold adV; rw [ea, if_pos rfl]
        have hw := wd_vB (T := T) (n := n) (pl := p) (n - p).toNat p [] (by simp) lets.nil (by rw [ee]; exact q6)
        rw [ee] at hw
        have hd : lets (dgs T (adE T n p - p).toNat p []) := dgs_lets _ _ _ (fun j j0 j1 => hall j j0 (by omega)) lets.nil
        have hN : NmR (ltF T (adE T n p - p).toNat p 0) (wdF T n p (n - p).toNat p 0) := ⟨dgs T (adE T n p - p).toNat p [], hd, by rw [dgs_len]; simp; omega, lt_vB _ _ [], hw⟩
        have hb := hN.rng
        have wi := wh_iff (T := T) (p := p) (e := adE T n p)
        rw [ev, nrm_of (inR_of (by omega) (by omega))]
        refine ⟨rfl, by omega, fun _ => ⟨hN, (kw_0 her.1 hall).trans wi.1.symm, (kw_1 her.1 hall).trans wi.2.1.symm, (kw_2 her.1 hall).trans wi.2.2.1.symm, wi.2.2.2⟩, fun z => by omega⟩
      · have ea : adK T n p = 5 := by unfold adK; rw [if_pos (by omega)]
        rw [if_neg q6, ea]
        exact ⟨rfl, by omega, fun z => by omega, fun z => by omega⟩
    · rw [if_neg q1]
      by_cases q2 : dig (T p)
      · have ek : kdF T n p = 2 := by unfold kdF; rw [if_neg (by omega), if_neg q1, if_pos q2]
        have ee : spn (isDg T n) (n - p).toNat p = adE T n p := by unfold adE; rw [if_pos (Or.inr ek), ek, kd_dg hT]; rfl
        have hall : ∀ j, p ≤ j → j < adE T n p → 48 ≤ T j ∧ T j ≤ 57 := fun j a b => kd2 ((adE_all (Or.inr ek) j a b).trans ek)
        rw [if_pos q2, ee]
        refine ⟨rfl, rfl, ?_⟩
        dsimp only
        have ea : adK T n p = 2 := by unfold adK; rw [if_neg (by omega), ek]
        have ev : adV T n p = dgF T (adE T n p - p).toNat p 0 := by unfold adV; rw [ea, if_neg (by decide), if_pos rfl]
        have hb := dg_rng (T := T) (adE T n p - p).toNat p 0 (fun j j0 j1 => hall j j0 (by omega)) (by omega) (by omega)
        have hn := nu_rel (T := T) (n := n) (n - p).toNat p 0 (by omega) (by omega)
        rw [ee] at hn
        rw [ea, ev, nrm_of (inR_of (by omega) (by omega))]
        exact ⟨rfl, by omega, fun z => by omega, fun _ => hn⟩
      · rw [if_neg q2]
        have hk4 := hst q0
        refine ⟨rfl, ?_, ?_⟩
        · dsimp only
          unfold adE
          rw [if_neg (by unfold kdF; rw [if_neg (by omega), if_neg q1, if_neg q2]; (repeat' split) <;> omega)]
          split <;> omega
        · dsimp only
          by_cases q3 : T p = 59
          · have ek : kdF T n p = 3 := by unfold kdF; rw [if_neg (by omega), if_neg q1, if_neg q2, if_pos q3]
            have ea : adK T n p = 3 := by unfold adK; rw [if_neg (by omega), ek]
            rw [if_pos q3, ea]
            exact ⟨rfl, by omega, fun z => by omega, fun z => by omega⟩
          · have ek : kdF T n p = 5 := by
              unfold kdF at hk4 ⊢
              rw [if_neg (by omega), if_neg q1, if_neg q2, if_neg q3] at hk4 ⊢
              split at hk4
              · omega
              · rw [if_neg (by assumption)]
            have ea : adK T n p = 5 := by unfold adK; rw [if_neg (by omega), ek]
            rw [if_neg q3, ea]
            exact ⟨rfl, by omega, fun z => by omega, fun z => by omega⟩
  · have eT : hrF T n p = -1 := if_neg q0
    rw [eT, if_pos rfl]
    have ek : kdF T n p = 0 := by unfold kdF; rw [if_pos (by omega)]
    have ea : adK T n p = 0 := by unfold adK; rw [if_neg (by omega), ek]
    rw [ea]
    refine ⟨rfl, ?_, rfl, by dsimp only; omega, fun z => by dsimp only at z; omega, fun z => by dsimp only at z; omega⟩
    dsimp only
    unfold adE
    rw [if_neg (by omega)]
    split <;> omega

