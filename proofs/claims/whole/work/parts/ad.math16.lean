/-! How many bits: the machine's count is the number of bits. -/
def vL : List Nat → Nat
  | [] => 0
  | a :: l => a + 256 * vL l
def rpM (m : Nat) : Nat → Nat
  | 0 => 0
  | n + 1 => m + 256 * rpM m n
theorem and_blk {a m x M : Nat} (ha : a < 256) (hm : m < 256) : (a + 256 * x) &&& (m + 256 * M) = (a &&& m) + 256 * (x &&& M) := by
  have d : ((a + 256 * x) &&& (m + 256 * M)) / 2 ^ 8 = x &&& M := by
    rw [Nat.and_div_two_pow, show (a + 256 * x) / 2 ^ 8 = x by omega, show (m + 256 * M) / 2 ^ 8 = M by omega]
  have r : ((a + 256 * x) &&& (m + 256 * M)) % 2 ^ 8 = a &&& m := by
    rw [Nat.and_mod_two_pow, show (a + 256 * x) % 2 ^ 8 = a by omega, show (m + 256 * M) % 2 ^ 8 = m by omega]
  omega
def p1 (a : Nat) : Nat := a - (a / 2 &&& 85)
def p2 (a : Nat) : Nat := (a &&& 51) + (a / 4 &&& 51)
def p3 (a : Nat) : Nat := (a + a / 16) &&& 15
theorem f1 : ∀ a, a < 256 → ∀ c, c < 2 → (a / 2 + 128 * c &&& 85) = (a / 2 &&& 85) := by decide +kernel
theorem f2 : ∀ a, a < 256 → ∀ c, c < 4 → (a / 4 + 64 * c &&& 51) = (a / 4 &&& 51) := by decide +kernel
theorem f3 : ∀ a, a < 256 → a % 16 ≤ 4 → a / 16 ≤ 4 → ∀ c, c < 5 → (a + a / 16 + 16 * c &&& 15) = ((a + a / 16) &&& 15) := by decide +kernel
theorem g2 : ∀ a, a < 256 → p1 a < 256 ∧ p2 (p1 a) < 256 ∧ p2 (p1 a) % 16 ≤ 4 ∧ p2 (p1 a) / 16 ≤ 4 ∧ p3 (p2 (p1 a)) = a % 2 + a / 2 % 2 + a / 4 % 2 + a / 8 % 2 + a / 16 % 2 + a / 32 % 2 + a / 64 % 2 + a / 128 % 2 := by decide +kernel
theorem b1 : ∀ l : List Nat, (∀ a ∈ l, a < 256) → vL l - (vL l / 2 &&& rpM 85 l.length) = vL (l.map p1)
  | [], _ => rfl
  | a :: l, h => by
    have ha := h a (List.mem_cons_self ..)
    have ih := b1 l (fun b hb => h b (List.mem_cons_of_mem _ hb))
    show (a + 256 * vL l) - ((a + 256 * vL l) / 2 &&& (85 + 256 * rpM 85 l.length)) = p1 a + 256 * vL (l.map p1)
    rw [← ih, show (a + 256 * vL l) / 2 = (a / 2 + 128 * (vL l % 2)) + 256 * (vL l / 2) by omega, and_blk (by omega) (by omega), f1 a ha _ (by omega)]
    have w1 : vL l / 2 &&& rpM 85 l.length ≤ vL l / 2 := Nat.and_le_left
    have w2 : a / 2 &&& 85 ≤ a / 2 := Nat.and_le_left
    unfold p1
    omega
theorem b2 : ∀ l : List Nat, (∀ a ∈ l, a < 256) → (vL l &&& rpM 51 l.length) + (vL l / 4 &&& rpM 51 l.length) = vL (l.map p2)
  | [], _ => rfl
  | a :: l, h => by
    have ha := h a (List.mem_cons_self ..)
    have ih := b2 l (fun b hb => h b (List.mem_cons_of_mem _ hb))
    show ((a + 256 * vL l) &&& (51 + 256 * rpM 51 l.length)) + ((a + 256 * vL l) / 4 &&& (51 + 256 * rpM 51 l.length)) = p2 a + 256 * vL (l.map p2)
    rw [← ih, show (a + 256 * vL l) / 4 = (a / 4 + 64 * (vL l % 4)) + 256 * (vL l / 4) by omega, and_blk (by omega) (by omega), and_blk (by omega) (by omega), f2 a ha _ (by omega)]
    unfold p2
    omega
theorem b3 : ∀ l : List Nat, (∀ a ∈ l, a < 256 ∧ a % 16 ≤ 4 ∧ a / 16 ≤ 4) → (vL l + vL l / 16 &&& rpM 15 l.length) = vL (l.map p3)
  | [], _ => rfl
  | a :: l, h => by
    have ha := h a (List.mem_cons_self ..)
    have ih := b3 l (fun b hb => h b (List.mem_cons_of_mem _ hb))
    have hv : vL l % 16 ≤ 4 := by
      cases l with
      | nil => show 0 % 16 ≤ 4; omega
      | cons b l =>
        have := h b (List.mem_cons_of_mem _ (List.mem_cons_self ..))
        show (b + 256 * vL l) % 16 ≤ 4
        omega
    show (a + 256 * vL l + (a + 256 * vL l) / 16 &&& (15 + 256 * rpM 15 l.length)) = p3 a + 256 * vL (l.map p3)
    rw [← ih, show a + 256 * vL l + (a + 256 * vL l) / 16 = (a + a / 16 + 16 * (vL l % 16)) + 256 * (vL l + vL l / 16) by omega, and_blk (by omega) (by omega), f3 a ha.1 ha.2.1 ha.2.2 _ (by omega)]
    rfl
def by8 (x : Nat) : List Nat := [x % 256, x / 256 % 256, x / 65536 % 256, x / 16777216 % 256, x / 4294967296 % 256, x / 1099511627776 % 256, x / 281474976710656 % 256, x / 72057594037927936 % 256]
theorem by8_v {x : Nat} (h : x < 18446744073709551616) : vL (by8 x) = x := by
  unfold by8
  simp only [vL]
  omega
theorem fin8 {a b c d e f g h : Nat} (ha : a ≤ 8) (hb : b ≤ 8) (hc : c ≤ 8) (hd : d ≤ 8) (he : e ≤ 8) (hf : f ≤ 8) (hg : g ≤ 8) (hh : h ≤ 8) (w s1 s2 s3 : Nat) (hw : w = a + 256 * (b + 256 * (c + 256 * (d + 256 * (e + 256 * (f + 256 * (g + 256 * h))))))) (h1 : s1 = w + w / 256) (h2 : s2 = s1 + s1 / 65536) (h3 : s3 = s2 + s2 / 4294967296) : s3 % 128 = a + b + c + d + e + f + g + h ∧ s1 < 18446744073709551616 ∧ s2 < 18446744073709551616 ∧ s3 < 18446744073709551616 := by
  have q1 : w / 256 = b + 256 * (c + 256 * (d + 256 * (e + 256 * (f + 256 * (g + 256 * h))))) := by clear h1 h2 h3; omega
  have e1 : s1 = (a + b) + 256 * (b + c) + 65536 * ((c + d) + 256 * (d + e) + 65536 * ((e + f) + 256 * (f + g) + 65536 * ((g + h) + 256 * h))) := by rw [h1, q1, hw]; clear h1 h2 h3 q1 hw; omega
  clear h1 q1 hw
  have z1 : s1 < 18446744073709551616 := by clear h2 h3; omega
  have q2 : s1 / 65536 = (c + d) + 256 * (d + e) + 65536 * ((e + f) + 256 * (f + g) + 65536 * ((g + h) + 256 * h)) := by clear h2 h3 z1; omega
  have e2 : s2 = (a + b + c + d) + 256 * (b + c + d + e) + 65536 * (((c + d) + (e + f)) + 256 * ((d + e) + (f + g))) + 4294967296 * (((e + f) + (g + h)) + 256 * ((f + g) + h) + 65536 * ((g + h) + 256 * h)) := by rw [h2, q2, e1]; clear h2 h3 q2 e1 z1; omega
  clear h2 q2 e1
  have z2 : s2 < 18446744073709551616 := by clear h3 z1; omega
  have q3 : s2 / 4294967296 = ((e + f) + (g + h)) + 256 * ((f + g) + h) + 65536 * ((g + h) + 256 * h) := by clear h3 z1 z2; omega
  have e3 : s3 = (a + b + c + d + e + f + g + h) + 128 * (2 * (b + c + d + e + f + g + h) + 512 * (((c + d) + (e + f)) + 256 * ((d + e) + (f + g)) + ((g + h) + 256 * h)) + 33554432 * (((e + f) + (g + h)) + 256 * ((f + g) + h) + 65536 * ((g + h) + 256 * h))) := by rw [h3, q3, e2]; clear h3 q3 e2 z1 z2; omega
  clear h3 q3 e2
  refine ⟨?_, z1, z2, ?_⟩
  · clear z1 z2; omega
  · clear z1 z2; omega
/-- the bits of a number, counted -/
def pcN : Nat → Nat → Nat
  | 0, _ => 0
  | n + 1, x => x % 2 + pcN n (x / 2)
def po8 (a : Nat) : Nat := a % 2 + a / 2 % 2 + a / 4 % 2 + a / 8 % 2 + a / 16 % 2 + a / 32 % 2 + a / 64 % 2 + a / 128 % 2
theorem pc_8 (n x : Nat) : pcN (n + 8) x = po8 (x % 256) + pcN n (x / 256) := by
  show x % 2 + (x / 2 % 2 + (x / 2 / 2 % 2 + (x / 2 / 2 / 2 % 2 + (x / 2 / 2 / 2 / 2 % 2 + (x / 2 / 2 / 2 / 2 / 2 % 2 + (x / 2 / 2 / 2 / 2 / 2 / 2 % 2 + (x / 2 / 2 / 2 / 2 / 2 / 2 / 2 % 2 + pcN n (x / 2 / 2 / 2 / 2 / 2 / 2 / 2 / 2)))))))) = _
  rw [show x / 2 / 2 / 2 / 2 / 2 / 2 / 2 / 2 = x / 256 by omega]
  unfold po8
  omega
abbrev nB (x : Int64) : Nat := x.toBitVec.toNat
theorem nB_and (x y : Int64) : nB (x &&& y) = (nB x &&& nB y) := by unfold nB; rw [Int64.toBitVec_and, BitVec.toNat_and]
theorem nB_add (x y : Int64) : nB (x + y) = (nB x + nB y) % 18446744073709551616 := by unfold nB; rw [Int64.toBitVec_add, BitVec.toNat_add]
theorem nB_sub (x y : Int64) : nB (x - y) = (18446744073709551616 - nB y + nB x) % 18446744073709551616 := by unfold nB; rw [Int64.toBitVec_sub, BitVec.toNat_sub]
theorem nB_lt (x : Int64) : nB x < 18446744073709551616 := x.toBitVec.isLt
theorem nB_sh {x : Int64} {i : Int} {k : Nat} (h : ((Int32.ofInt i).toInt64.toUInt64 &&& Int64.toUInt64 63).toBitVec % 64 = BitVec.ofNat 64 k) (hk : k < 64) : nB (ushrL x i) = nB x / 2 ^ k := by
  unfold nB ushrL
  show (x.toUInt64 >>> ((Int32.ofInt i).toInt64.toUInt64 &&& Int64.toUInt64 63)).toBitVec.toNat = _
  rw [UInt64.toBitVec_shiftRight, h]
  show (x.toBitVec >>> (BitVec.ofNat 64 k)).toNat = _
  rw [BitVec.ushiftRight_eq', BitVec.toNat_ushiftRight, BitVec.toNat_ofNat, Nat.mod_eq_of_lt (by omega), Nat.shiftRight_eq_div_pow]
theorem vLn {B : Nat} : ∀ l : List Nat, (∀ a ∈ l, a ≤ B) → vL l ≤ B * rpM 1 l.length
  | [], _ => Nat.zero_le _
  | a :: l, h => by
    have ha := h a (List.mem_cons_self ..)
    have ih := vLn l (fun b hb => h b (List.mem_cons_of_mem _ hb))
    show a + 256 * vL l ≤ B * (1 + 256 * rpM 1 l.length)
    rw [Nat.mul_add, Nat.mul_one, Nat.mul_left_comm]
    omega
theorem vL8 {l : List Nat} (hl : l.length = 8) (h : ∀ a ∈ l, a ≤ 68) : vL l ≤ 4919131752989213764 := by
  have a := vLn l h
  rw [hl, show rpM 1 8 = 72340172838076673 from by decide] at a
  omega
theorem low7 (y : Int64) : (y.toInt32 &&& Int32.ofInt 127).toBitVec.toNat = nB y % 128 := by
  have q : y.toInt32.toBitVec.toNat = nB y % 4294967296 := by
    rw [Int64.toBitVec_toInt32, BitVec.signExtend_eq_setWidth_of_le _ (by omega), BitVec.toNat_setWidth]
  have c : (Int32.ofInt 127).toBitVec.toNat = 2 ^ 7 - 1 := by decide
  rw [Int32.toBitVec_and, BitVec.toNat_and, q, c, Nat.and_two_pow_sub_one_eq_mod]
  omega
theorem low7i (y : Int64) : (y.toInt32 &&& Int32.ofInt 127).toInt = (nB y % 128 : Nat) := by
  have e := low7 y
  rw [← Int32.toInt_toBitVec, BitVec.toInt_eq_toNat_of_lt (by rw [e]; omega), e]
theorem bitC_eq (x : Int64) : bitC x = (pcN 64 (nB x) : Nat) := by
  have X := nB_lt x
  have v := by8_v X
  have lt : ∀ a ∈ by8 (nB x), a < 256 := by
    intro a ha
    unfold by8 at ha
    simp only [List.mem_cons, List.not_mem_nil, or_false] at ha
    omega
  have lt1 : ∀ a ∈ (by8 (nB x)).map p1, a < 256 := by
    intro a ha
    obtain ⟨b, hb, e⟩ := List.mem_map.mp ha
    rw [← e]
    exact (g2 b (lt b hb)).1
  have lt2 : ∀ a ∈ ((by8 (nB x)).map p1).map p2, a < 256 ∧ a % 16 ≤ 4 ∧ a / 16 ≤ 4 := by
    intro a ha
    obtain ⟨c, hc, e⟩ := List.mem_map.mp ha
    obtain ⟨b, hb, e'⟩ := List.mem_map.mp hc
    rw [← e, ← e']
    have := g2 b (lt b hb)
    exact ⟨this.2.1, this.2.2.1, this.2.2.2.1⟩
  have c2 : ∀ a ∈ (((by8 (nB x)).map p1).map p2), a ≤ 68 := fun a ha => by have := lt2 a ha; omega
  have e1 : nB (bc1 x) = vL ((by8 (nB x)).map p1) := by
    unfold bc1
    rw [nB_sub, nB_and, nB_sh (k := 1) (by decide) (by decide), show nB 6148914691236517205 = rpM 85 8 from by decide, ← b1 _ lt, v]
    show (18446744073709551616 - (nB x / 2 &&& rpM 85 8) + nB x) % 18446744073709551616 = nB x - (nB x / 2 &&& rpM 85 8)
    have w1 : nB x / 2 &&& rpM 85 8 ≤ nB x / 2 := Nat.and_le_left
    omega
  have e2 : nB (bc2 (bc1 x)) = vL (((by8 (nB x)).map p1).map p2) := by
    unfold bc2
    rw [nB_add, nB_and, nB_and, nB_sh (k := 2) (by decide) (by decide), show nB 3689348814741910323 = rpM 51 8 from by decide, e1, ← b2 _ lt1]
    have t2 := vL8 (show (((by8 (nB x)).map p1).map p2).length = 8 from rfl) c2
    rw [← b2 _ lt1] at t2
    exact Nat.mod_eq_of_lt (Nat.lt_of_le_of_lt t2 (by decide))
  have t2 := vL8 (show (((by8 (nB x)).map p1).map p2).length = 8 from rfl) c2
  have hb3 := b3 _ lt2
  have e3 : nB (bc3 (bc2 (bc1 x))) = vL ((((by8 (nB x)).map p1).map p2).map p3) := by
    unfold bc3
    rw [nB_and, nB_add, nB_sh (k := 4) (by decide) (by decide), show nB 1085102592571150095 = rpM 15 8 from by decide, e2, ← hb3]
    have s : vL (((by8 (nB x)).map p1).map p2) + vL (((by8 (nB x)).map p1).map p2) / 2 ^ 4 < 18446744073709551616 := by
      clear X v lt lt1 lt2 e1 e2 hb3 c2
      omega
    rw [Nat.mod_eq_of_lt s]
    rfl
  have k3 : (((by8 (nB x)).map p1).map p2).map p3 = [po8 (nB x % 256), po8 (nB x / 256 % 256), po8 (nB x / 65536 % 256), po8 (nB x / 16777216 % 256), po8 (nB x / 4294967296 % 256), po8 (nB x / 1099511627776 % 256), po8 (nB x / 281474976710656 % 256), po8 (nB x / 72057594037927936 % 256)] := by
    show [p3 (p2 (p1 (nB x % 256))), p3 (p2 (p1 (nB x / 256 % 256))), p3 (p2 (p1 (nB x / 65536 % 256))), p3 (p2 (p1 (nB x / 16777216 % 256))), p3 (p2 (p1 (nB x / 4294967296 % 256))), p3 (p2 (p1 (nB x / 1099511627776 % 256))), p3 (p2 (p1 (nB x / 281474976710656 % 256))), p3 (p2 (p1 (nB x / 72057594037927936 % 256)))] = _
    have q : ∀ a, a < 256 → p3 (p2 (p1 a)) = po8 a := fun a ha => (g2 a ha).2.2.2.2
    rw [q _ (by omega), q _ (by omega), q _ (by omega), q _ (by omega), q _ (by omega), q _ (by omega), q _ (by omega), q _ (by omega)]
  have p8 : ∀ a, po8 a ≤ 8 := fun a => by unfold po8; omega
  have pc : pcN 64 (nB x) = po8 (nB x % 256) + po8 (nB x / 256 % 256) + po8 (nB x / 65536 % 256) + po8 (nB x / 16777216 % 256) + po8 (nB x / 4294967296 % 256) + po8 (nB x / 1099511627776 % 256) + po8 (nB x / 281474976710656 % 256) + po8 (nB x / 72057594037927936 % 256) := by
    rw [show (64 : Nat) = 0 + 8 + 8 + 8 + 8 + 8 + 8 + 8 + 8 from rfl, pc_8, pc_8, pc_8, pc_8, pc_8, pc_8, pc_8, pc_8]
    rw [Nat.div_div_eq_div_mul, Nat.div_div_eq_div_mul, Nat.div_div_eq_div_mul, Nat.div_div_eq_div_mul, Nat.div_div_eq_div_mul, Nat.div_div_eq_div_mul, Nat.div_div_eq_div_mul]
    show _ + (_ + (_ + (_ + (_ + (_ + (_ + (_ + 0))))))) = _
    simp only [Nat.reduceMul]
    omega
  rw [k3] at e3
  clear k3 hb3 t2 e2 e1 c2 lt2 lt1 lt v
  have f := fin8 (p8 (nB x % 256)) (p8 (nB x / 256 % 256)) (p8 (nB x / 65536 % 256)) (p8 (nB x / 16777216 % 256)) (p8 (nB x / 4294967296 % 256)) (p8 (nB x / 1099511627776 % 256)) (p8 (nB x / 281474976710656 % 256)) (p8 (nB x / 72057594037927936 % 256)) _ _ _ _ rfl rfl rfl rfl
  rw [← pc] at f
  have e4 : nB (bcS 8 (bc3 (bc2 (bc1 x)))) = nB (bc3 (bc2 (bc1 x))) + nB (bc3 (bc2 (bc1 x))) / 256 := by
    unfold bcS
    rw [nB_add, nB_sh (k := 8) (by decide) (by decide), e3]
    exact Nat.mod_eq_of_lt f.2.1
  have e5 : nB (bcS 16 (bcS 8 (bc3 (bc2 (bc1 x))))) = nB (bcS 8 (bc3 (bc2 (bc1 x)))) + nB (bcS 8 (bc3 (bc2 (bc1 x)))) / 65536 := by
    rw [show bcS 16 (bcS 8 (bc3 (bc2 (bc1 x)))) = bcS 8 (bc3 (bc2 (bc1 x))) + ushrL (bcS 8 (bc3 (bc2 (bc1 x)))) 16 from rfl, nB_add, nB_sh (k := 16) (by decide) (by decide), e4, e3]
    exact Nat.mod_eq_of_lt f.2.2.1
  have e6 : nB (bcS 32 (bcS 16 (bcS 8 (bc3 (bc2 (bc1 x)))))) = nB (bcS 16 (bcS 8 (bc3 (bc2 (bc1 x))))) + nB (bcS 16 (bcS 8 (bc3 (bc2 (bc1 x))))) / 4294967296 := by
    rw [show bcS 32 (bcS 16 (bcS 8 (bc3 (bc2 (bc1 x))))) = bcS 16 (bcS 8 (bc3 (bc2 (bc1 x)))) + ushrL (bcS 16 (bcS 8 (bc3 (bc2 (bc1 x))))) 32 from rfl, nB_add, nB_sh (k := 32) (by decide) (by decide), e5, e4, e3]
    exact Nat.mod_eq_of_lt f.2.2.2
  have e7 : nB (bcS 32 (bcS 16 (bcS 8 (bc3 (bc2 (bc1 x)))))) % 128 = pcN 64 (nB x) := by
    rw [e6, e5, e4, e3]
    exact f.1
  unfold bitC bcF
  generalize bcS 32 (bcS 16 (bcS 8 (bc3 (bc2 (bc1 x))))) = y at e7 ⊢
  rw [Int32.ofInt_toInt, low7i, e7]
theorem sm_pc {x : Int64} : ∀ (n : Nat) (i : Nat), smZ (fun i => if bt x i = true then 1 else 0) n (i : Int) = (pcN n (nB x / 2 ^ i) : Nat)
  | 0, _ => rfl
  | n + 1, i => by
    show (if bt x (i : Int) = true then (1 : Int) else 0) + smZ _ n ((i : Int) + 1) = ((nB x / 2 ^ i % 2 + pcN n (nB x / 2 ^ i / 2) : Nat) : Int)
    rw [show (i : Int) + 1 = ((i + 1 : Nat) : Int) by omega, sm_pc n (i + 1), Nat.div_div_eq_div_mul, show 2 ^ i * 2 = 2 ^ (i + 1) from rfl]
    have e : (if bt x (i : Int) = true then (1 : Int) else 0) = ((nB x / 2 ^ i % 2 : Nat) : Int) := by
      have k : bt x (i : Int) = decide (nB x / 2 ^ i % 2 = 1) := by
        unfold bt
        rw [show ((i : Int)).toNat = i by omega, BitVec.getLsbD, Nat.testBit_eq_decide_div_mod_eq]
      rw [k]
      by_cases c : nB x / 2 ^ i % 2 = 1
      · rw [if_pos (decide_eq_true c), c]; rfl
      · rw [if_neg (by rw [decide_eq_true_iff]; exact c), show nB x / 2 ^ i % 2 = 0 by omega]; rfl
    rw [e]
    omega
/-- POPCOUNT -/
theorem bitC_sum (x : Int64) : bitC x = smZ (fun i => if bt x i = true then 1 else 0) 64 0 := by
  rw [bitC_eq]
  have := sm_pc (x := x) 64 0
  rw [show ((0 : Nat) : Int) = 0 from rfl, Nat.pow_zero, Nat.div_one] at this
  exact this.symm
theorem smZ_split (f : Int → Int) : ∀ (n m : Nat) (i : Int), smZ f (n + m) i = smZ f n i + smZ f m (i + n)
  | 0, m, i => by rw [show 0 + m = m by omega, show i + ((0 : Nat) : Int) = i by omega]; show smZ f m i = 0 + smZ f m i; omega
  | n + 1, m, i => by
    rw [show n + 1 + m = n + m + 1 by omega]
    show f i + smZ f (n + m) (i + 1) = f i + smZ f n (i + 1) + smZ f m (i + ((n + 1 : Nat) : Int))
    rw [smZ_split f n m (i + 1), show i + 1 + (n : Int) = i + ((n + 1 : Nat) : Int) by omega]
    omega
/-- as many as there are below n, if none is behind -/
theorem bitC_to {x : Int64} {n : Int} (h0 : 0 ≤ n) (h1 : n ≤ 64) (h : ∀ i : Int, n ≤ i → i < 64 → bt x i = false) : bitC x = smZ (fun i => if bt x i = true then 1 else 0) n.toNat 0 := by
  rw [bitC_sum, show (64 : Nat) = n.toNat + (64 - n.toNat) by omega, smZ_split]
  rw [smZ_congr (g := fun _ => 0) (64 - n.toNat) _ (fun k k0 k1 => by rw [h k (by omega) (by omega)]; rfl), smZ_0]
  omega
theorem itr_ct {p : Int → Prop} {f : Int → Int → Int} {g : Int → Int} : ∀ (n : Nat) (i a : Int), (∀ k, i ≤ k → k < i + n → ∀ x, f k x = x + g k) → itr f n i a = a + smZ g n i
  | 0, _, a, _ => by show a = a + 0; omega
  | n + 1, i, a, h => by
    rw [itr_s, h i (by omega) (by omega), itr_ct (p := p) n (i + 1) _ (fun k k0 k1 => h k (by omega) (by omega))]
    show a + g i + _ = a + (g i + _)
    omega
/-- no cancelled rides beyond the last -/
def OfE (σ : Sto) : Prop := ∀ i : Int, gN σ 155 3 ≤ i → i < 64 → bt (gL σ 153 17) i = false
theorem q_cancelled {σ : Sto} (h : LW σ) (hE : OfE σ) : ctT (lkN σ) = bitC (gL σ 153 17) := by
  have R := h.1.1
  rw [bitC_to (n := gN σ 155 3) (by omega) (by omega) hE]
  unfold ctT
  rw [show gN (lkN σ) 155 3 = gN σ 155 3 from rfl, itr_ct (p := fun _ => True) (g := fun i => if bt (gL σ 153 17) i = true then 1 else 0) _ _ _ (fun k k0 k1 x => ?_)]
  · omega
  · have e : cnc (lkN σ) k ↔ bt (gL σ 153 17) k = true := by rw [cnc_ofB]; exact bt_one k0 (by omega)
    unfold ctF
    by_cases c : bt (gL σ 153 17) k = true
    · rw [if_pos (e.mpr c), if_pos c]
    · rw [if_neg (fun y => c (e.mp y)), if_neg c]; omega
theorem q_others {σ : Sto} (h : LW σ) : sfT (lkN σ) = othersF σ := by
  have R := h.1.1
  unfold sfT othersF
  refine itr_congr _ _ _ (fun k k0 k1 x => ?_)
  have k1 : k < 0 + ((gN σ 155 3).toNat : Int) := k1
  have t := lkN_t h.1 (i := k) k0 (by omega)
  unfold sfF otF
  rw [t.1, show gN (lkN σ) 155 (115 + 5 * k + 3) = gN σ 155 (115 + 5 * k + 3) from rfl]
  by_cases c : gN σ 158 k = 0
  · rw [if_pos (by omega), if_pos c]; omega
  · rw [if_neg (by omega), if_neg c]
theorem q_count {σ τ : Sto} (h : LW σ) (hE : OfE σ) {L : List (Int × Int)} (hP : PlR σ L) (hU : gN τ 15 0 = gN σ 153 20) (hF : gN τ 0 14 = gN σ 153 2) (what : Int) : cCount τ (lkN σ) L what = countF σ what := by
  unfold cCount countF
  rw [q_cancelled h hE, q_others h, hU, hF, hP.1]
  rfl
