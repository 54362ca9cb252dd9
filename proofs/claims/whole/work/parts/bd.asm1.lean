/-! The cells in the order in which they are made, and the world that they are. -/
def ofC : List Nat := [0, 1, 2, 141, 142, 143, 144, 145, 146, 147, 148, 149, 150, 151, 152, 3, 4, 25, 5, 6, 7, 8, 9, 10, 11, 12, 13, 14, 15, 16, 17, 18, 19, 20, 21, 22, 23, 24, 26, 27, 38, 49, 60, 28, 29, 30, 31, 32, 33, 34, 35, 36, 37, 39, 40, 41, 42, 43, 44, 45, 46, 47, 48, 50, 51, 52, 53, 54, 55, 56, 57, 58, 59, 61, 62, 63, 64, 65, 66, 67, 68, 69, 70, 71, 72, 73, 74, 75, 76, 77, 78, 79, 80, 81, 82, 93, 104, 105, 106, 107, 108, 109, 83, 84, 85, 86, 87, 88, 89, 90, 91, 92, 94, 95, 96, 97, 98, 99, 100, 101, 102, 103, 110, 111, 112, 113, 124, 135, 136, 137, 138, 139, 140, 114, 115, 116, 117, 118, 119, 120, 121, 122, 123, 125, 126, 127, 128, 129, 130, 131, 132, 133, 134, 153, 154, 155, 156, 157, 158, 159, 160, 161, 162, 163, 164, 165, 166, 167, 168, 169, 170, 171, 172, 173, 174, 175]
def orL : List Nat := [0, 1, 2, 15, 16, 18, 19, 20, 21, 22, 23, 24, 25, 26, 27, 28, 29, 30, 31, 32, 33, 34, 35, 36, 37, 17, 38, 39, 43, 44, 45, 46, 47, 48, 49, 50, 51, 52, 40, 53, 54, 55, 56, 57, 58, 59, 60, 61, 62, 41, 63, 64, 65, 66, 67, 68, 69, 70, 71, 72, 42, 73, 74, 75, 76, 77, 78, 79, 80, 81, 82, 83, 84, 85, 86, 87, 88, 89, 90, 91, 92, 93, 94, 102, 103, 104, 105, 106, 107, 108, 109, 110, 111, 95, 112, 113, 114, 115, 116, 117, 118, 119, 120, 121, 96, 97, 98, 99, 100, 101, 122, 123, 124, 125, 133, 134, 135, 136, 137, 138, 139, 140, 141, 142, 126, 143, 144, 145, 146, 147, 148, 149, 150, 151, 152, 127, 128, 129, 130, 131, 132, 3, 4, 5, 6, 7, 8, 9, 10, 11, 12, 13, 14]
def adI (h a1 a2 a3 : Nat) : Nat → Nat := fun i => if i < 176 then h + ofC.getD i 0 else if i = 176 then a1 else if i = 177 then a2 else a3
def sg0 : Sto := (fun c j => if c = 2 then (if j = 1 then -1 else 0) else if c = 153 then (if j = 15 then -1 else 0) else 0, fun _ _ => 0, fun c j => if c = 0 then (if j = 12 then some 91 else if j = 13 then some 122 else none) else if c = 3 ∨ c = 7 ∨ c = 11 then (if j = 0 then some 91 else none) else none)
theorem or_of : ∀ c : Nat, c < 153 → orL[ofC.getD c 0]? = some c := by decide +kernel
theorem of_id : ∀ k : Nat, k < 23 → ofC.getD (153 + k) 0 = 153 + k := by decide +kernel
def eX9 (cy : Nat → ClassId) (n : Nat) : List va_E := .inr (9, ((((((((((((((((((((((zer 9).set 1 (.ref (n + 1))).set 3 (.ref (n + 2))).set 4 (.ref (n + 3))).set 5 (.ref (n + 4))).set 15 (.int (-1))).set 16 (.ref (n + 5))).set 18 (.ref (n + 6))).set 19 (.ref (n + 7))).set 21 (.ref (n + 8))).set 22 (.ref (n + 9))).set 24 (.ref (n + 10))).set 25 (.ref (n + 11))).set 26 (.ref (n + 12))).set 27 (.ref (n + 13))).set 29 (.ref (n + 14))).set 31 (.ref (n + 15))).set 32 (.ref (n + 16))).set 33 (.ref (n + 17))).set 34 (.ref (n + 18))).set 35 (.ref (n + 19))).set 36 (.ref (n + 20))).set 37 (.ref (n + 21))) :: ((((((((((((((((((((([] ++ [eI cy 900]) ++ [eI cy 415]) ++ [eI cy 415]) ++ [eI cy 10]) ++ [eI cy 60]) ++ [eI cy 1200]) ++ [eL cy 20]) ++ [eI cy 60]) ++ [eI cy 60]) ++ [eL cy 60]) ++ [eI cy 300]) ++ [eI cy 300]) ++ [eI cy 300]) ++ [eI cy 300]) ++ [eZ cy 300]) ++ [eZ cy 300]) ++ [eI cy 5]) ++ [eI cy 5]) ++ [eI cy 10]) ++ [eI cy 6]) ++ [eI cy 6])
section ASM
variable {h a1 a2 a3 : Nat} {cy : Nat → ClassId}
theorem zI {c N : Nat} (hk : zkd c = 11 ∧ ln c = N ∧ c ≠ 2 ∧ c ≠ 153) : zcellE (adI h a1 a2 a3) cy sg0 c = eI cy N := by
  obtain ⟨h1, h2, h3, h4⟩ := hk
  rw [zcellE_int h1 (by decide), h2]
  have e : (fun j : Nat => Int32.ofInt (sg0.1 c (j : Int))) = fun _ => 0 := funext fun j => by
    show Int32.ofInt (if c = 2 then _ else if c = 153 then _ else 0) = 0
    rw [if_neg h3, if_neg h4]; rfl
  rw [e]; rfl
theorem zT {c t N : Nat} (ht : t = 10 ∨ t = 11 ∨ t = 13) (hk : zkd c = t ∧ ln c = N ∧ c ≠ 2 ∧ c ≠ 153) : zcellE (adI h a1 a2 a3) cy sg0 c = .inl (cy t, N, .inl fun _ => 0) := by
  obtain ⟨h1, h2, h3, h4⟩ := hk
  rw [zcellE_int h1 ht, h2]
  have e : (fun j : Nat => Int32.ofInt (sg0.1 c (j : Int))) = fun _ => 0 := funext fun j => by
    show Int32.ofInt (if c = 2 then _ else if c = 153 then _ else 0) = 0
    rw [if_neg h3, if_neg h4]; rfl
  rw [e]
theorem zL {c N : Nat} (hk : zkd c = 12 ∧ ln c = N) : zcellE (adI h a1 a2 a3) cy sg0 c = eL cy N := by
  unfold zcellE zcellF
  rw [hk.1, hk.2, if_neg (by omega), if_pos rfl]
  rfl
theorem zR {c a N b : Nat} (hk : zkd c = 14 ∧ ln c = N) (hr : ∀ j : Nat, rfs c (j : Int) = if 0 ≤ (j : Int) ∧ (j : Int) < ((N : Nat) : Int) then some (b + (j : Int).toNat) else none) (h0 : ∀ j : Int, sg0.2.2 c j = none) (ha : ∀ j : Nat, j < N → adI h a1 a2 a3 (b + j) = a + 1 + j) : zcellE (adI h a1 a2 a3) cy sg0 c = eR cy a N := by
  unfold zcellE zcellF
  rw [hk.1, hk.2, if_neg (by omega), if_neg (by omega), if_pos rfl]
  have e : (fun j : Nat => (rfv (sg0.2.2 c) c (j : Int)).map (adI h a1 a2 a3)) = rwQ a N := funext fun j => by
    unfold rfv rwQ
    rw [hr j]
    by_cases hj : j < N
    · rw [if_pos ⟨by omega, by omega⟩, if_pos hj]
      show some (adI h a1 a2 a3 (b + (j : Int).toNat)) = _
      rw [Int.toNat_natCast, ha j hj]
    · rw [if_neg (by omega), if_neg hj]
      show (sg0.2.2 c (j : Int)).map _ = none
      rw [h0]; rfl
  rw [e]; rfl
set_option maxRecDepth 20000 in
set_option maxHeartbeats 8000000 in
theorem z_0 : zcellE (adI h a1 a2 a3) cy sg0 0 = .inr (8, ((((((((((((((zer 8).set 0 (.ref (h + 1))).set 1 (.ref (h + 2))).set 5 (.ref (h + 3))).set 6 (.ref (h + 26))).set 7 (.ref (h + 61))).set 8 (.ref (h + 71))).set 9 (.ref (h + 74))).set 10 (.ref (h + 77))).set 11 (.ref (h + 78))).set 12 (.ref (h + 79))).set 13 (.ref (h + 110))).set 2 (.ref (h + 141))).set 3 (.ref (h + 145))).set 4 (.ref (h + 149))) := by
  rw [zcellE_obj (ci := 8) (by decide +kernel) (by decide)]
  rfl
theorem z_1 : zcellE (adI h a1 a2 a3) cy sg0 1 = eB cy 900 := zT (t := 10) (by decide) (by decide +kernel)
set_option maxRecDepth 20000 in
set_option maxHeartbeats 8000000 in
theorem z_2 : zcellE (adI h a1 a2 a3) cy sg0 2 = .inr (5, (zer 5).set 1 (.int (-1))) := by
  rw [zcellE_obj (ci := 5) (by decide +kernel) (by decide)]
  rfl
set_option maxRecDepth 20000 in
set_option maxHeartbeats 8000000 in
theorem z_3 : zcellE (adI h a1 a2 a3) cy sg0 3 = .inr (6, ((((zer 6).set 3 (.ref (h + 141 + 1))).set 4 (.ref (h + 141 + 2))).set 5 (.ref (h + 141 + 3))).set 0 (.ref (h + 79))) := by
  rw [zcellE_obj (ci := 6) (by decide +kernel) (by decide)]
  rfl
theorem z_4 : zcellE (adI h a1 a2 a3) cy sg0 4 = eI cy 60 := zI (by decide +kernel)
theorem z_5 : zcellE (adI h a1 a2 a3) cy sg0 5 = eI cy 60 := zI (by decide +kernel)
theorem z_6 : zcellE (adI h a1 a2 a3) cy sg0 6 = eL cy 60 := zL (by decide +kernel)
set_option maxRecDepth 20000 in
set_option maxHeartbeats 8000000 in
theorem z_7 : zcellE (adI h a1 a2 a3) cy sg0 7 = .inr (6, ((((zer 6).set 3 (.ref (h + 145 + 1))).set 4 (.ref (h + 145 + 2))).set 5 (.ref (h + 145 + 3))).set 0 (.ref (h + 79))) := by
  rw [zcellE_obj (ci := 6) (by decide +kernel) (by decide)]
  rfl
theorem z_8 : zcellE (adI h a1 a2 a3) cy sg0 8 = eI cy 60 := zI (by decide +kernel)
theorem z_9 : zcellE (adI h a1 a2 a3) cy sg0 9 = eI cy 60 := zI (by decide +kernel)
theorem z_10 : zcellE (adI h a1 a2 a3) cy sg0 10 = eL cy 60 := zL (by decide +kernel)
set_option maxRecDepth 20000 in
set_option maxHeartbeats 8000000 in
theorem z_11 : zcellE (adI h a1 a2 a3) cy sg0 11 = .inr (6, ((((zer 6).set 3 (.ref (h + 149 + 1))).set 4 (.ref (h + 149 + 2))).set 5 (.ref (h + 149 + 3))).set 0 (.ref (h + 79))) := by
  rw [zcellE_obj (ci := 6) (by decide +kernel) (by decide)]
  rfl
theorem z_12 : zcellE (adI h a1 a2 a3) cy sg0 12 = eI cy 60 := zI (by decide +kernel)
theorem z_13 : zcellE (adI h a1 a2 a3) cy sg0 13 = eI cy 60 := zI (by decide +kernel)
theorem z_14 : zcellE (adI h a1 a2 a3) cy sg0 14 = eL cy 60 := zL (by decide +kernel)
set_option maxRecDepth 20000 in
set_option maxHeartbeats 8000000 in
theorem z_15 : zcellE (adI h a1 a2 a3) cy sg0 15 = .inr (7, ((zer 7).set 2 (.ref (h + 3 + 1))).set 3 (.ref (h + 3 + 22))) := by
  rw [zcellE_obj (ci := 7) (by decide +kernel) (by decide)]
  rfl
theorem z_16 : zcellE (adI h a1 a2 a3) cy sg0 16 = eR cy (h + 4) 20 := zR (b := 18) (by decide +kernel) (fun j => rfl) (fun j => rfl) (fun j hj => by
  unfold adI
  rw [if_pos (by omega), (by decide +kernel : ∀ j : Nat, j < 20 → ofC.getD (18 + j) 0 = 5 + j) j hj]
  omega)
theorem z_17 : zcellE (adI h a1 a2 a3) cy sg0 17 = eL cy 20 := zL (by decide +kernel)
theorem z_18 : zcellE (adI h a1 a2 a3) cy sg0 18 = eI cy 60 := zI (by decide +kernel)
theorem z_19 : zcellE (adI h a1 a2 a3) cy sg0 19 = eI cy 60 := zI (by decide +kernel)
theorem z_20 : zcellE (adI h a1 a2 a3) cy sg0 20 = eI cy 60 := zI (by decide +kernel)
theorem z_21 : zcellE (adI h a1 a2 a3) cy sg0 21 = eI cy 60 := zI (by decide +kernel)
theorem z_22 : zcellE (adI h a1 a2 a3) cy sg0 22 = eI cy 60 := zI (by decide +kernel)
theorem z_23 : zcellE (adI h a1 a2 a3) cy sg0 23 = eI cy 60 := zI (by decide +kernel)
theorem z_24 : zcellE (adI h a1 a2 a3) cy sg0 24 = eI cy 60 := zI (by decide +kernel)
theorem z_25 : zcellE (adI h a1 a2 a3) cy sg0 25 = eI cy 60 := zI (by decide +kernel)
theorem z_26 : zcellE (adI h a1 a2 a3) cy sg0 26 = eI cy 60 := zI (by decide +kernel)
theorem z_27 : zcellE (adI h a1 a2 a3) cy sg0 27 = eI cy 60 := zI (by decide +kernel)
theorem z_28 : zcellE (adI h a1 a2 a3) cy sg0 28 = eI cy 60 := zI (by decide +kernel)
theorem z_29 : zcellE (adI h a1 a2 a3) cy sg0 29 = eI cy 60 := zI (by decide +kernel)
theorem z_30 : zcellE (adI h a1 a2 a3) cy sg0 30 = eI cy 60 := zI (by decide +kernel)
theorem z_31 : zcellE (adI h a1 a2 a3) cy sg0 31 = eI cy 60 := zI (by decide +kernel)
theorem z_32 : zcellE (adI h a1 a2 a3) cy sg0 32 = eI cy 60 := zI (by decide +kernel)
theorem z_33 : zcellE (adI h a1 a2 a3) cy sg0 33 = eI cy 60 := zI (by decide +kernel)
theorem z_34 : zcellE (adI h a1 a2 a3) cy sg0 34 = eI cy 60 := zI (by decide +kernel)
theorem z_35 : zcellE (adI h a1 a2 a3) cy sg0 35 = eI cy 60 := zI (by decide +kernel)
theorem z_36 : zcellE (adI h a1 a2 a3) cy sg0 36 = eI cy 60 := zI (by decide +kernel)
theorem z_37 : zcellE (adI h a1 a2 a3) cy sg0 37 = eI cy 60 := zI (by decide +kernel)
set_option maxRecDepth 20000 in
set_option maxHeartbeats 8000000 in
theorem z_38 : zcellE (adI h a1 a2 a3) cy sg0 38 = .inr (3, ((((zer 3).set 0 (.ref (h + 26 + 1))).set 1 (.ref (h + 26 + 12))).set 2 (.ref (h + 26 + 23))).set 3 (.ref (h + 26 + 34))) := by
  rw [zcellE_obj (ci := 3) (by decide +kernel) (by decide)]
  rfl
theorem z_39 : zcellE (adI h a1 a2 a3) cy sg0 39 = eR cy (h + 27) 10 := zR (b := 43) (by decide +kernel) (fun j => rfl) (fun j => rfl) (fun j hj => by
  unfold adI
  rw [if_pos (by omega), (by decide +kernel : ∀ j : Nat, j < 10 → ofC.getD (43 + j) 0 = 28 + j) j hj]
  omega)
theorem z_40 : zcellE (adI h a1 a2 a3) cy sg0 40 = eR cy (h + 38) 10 := zR (b := 53) (by decide +kernel) (fun j => rfl) (fun j => rfl) (fun j hj => by
  unfold adI
  rw [if_pos (by omega), (by decide +kernel : ∀ j : Nat, j < 10 → ofC.getD (53 + j) 0 = 39 + j) j hj]
  omega)
theorem z_41 : zcellE (adI h a1 a2 a3) cy sg0 41 = eR cy (h + 49) 10 := zR (b := 63) (by decide +kernel) (fun j => rfl) (fun j => rfl) (fun j hj => by
  unfold adI
  rw [if_pos (by omega), (by decide +kernel : ∀ j : Nat, j < 10 → ofC.getD (63 + j) 0 = 50 + j) j hj]
  omega)
theorem z_42 : zcellE (adI h a1 a2 a3) cy sg0 42 = eZ cy 10 := zT (t := 13) (by decide) (by decide +kernel)
theorem z_43 : zcellE (adI h a1 a2 a3) cy sg0 43 = eI cy 300 := zI (by decide +kernel)
theorem z_44 : zcellE (adI h a1 a2 a3) cy sg0 44 = eI cy 300 := zI (by decide +kernel)
theorem z_45 : zcellE (adI h a1 a2 a3) cy sg0 45 = eI cy 300 := zI (by decide +kernel)
theorem z_46 : zcellE (adI h a1 a2 a3) cy sg0 46 = eI cy 300 := zI (by decide +kernel)
theorem z_47 : zcellE (adI h a1 a2 a3) cy sg0 47 = eI cy 300 := zI (by decide +kernel)
theorem z_48 : zcellE (adI h a1 a2 a3) cy sg0 48 = eI cy 300 := zI (by decide +kernel)
theorem z_49 : zcellE (adI h a1 a2 a3) cy sg0 49 = eI cy 300 := zI (by decide +kernel)
theorem z_50 : zcellE (adI h a1 a2 a3) cy sg0 50 = eI cy 300 := zI (by decide +kernel)
theorem z_51 : zcellE (adI h a1 a2 a3) cy sg0 51 = eI cy 300 := zI (by decide +kernel)
theorem z_52 : zcellE (adI h a1 a2 a3) cy sg0 52 = eI cy 300 := zI (by decide +kernel)
theorem z_53 : zcellE (adI h a1 a2 a3) cy sg0 53 = eI cy 300 := zI (by decide +kernel)
theorem z_54 : zcellE (adI h a1 a2 a3) cy sg0 54 = eI cy 300 := zI (by decide +kernel)
theorem z_55 : zcellE (adI h a1 a2 a3) cy sg0 55 = eI cy 300 := zI (by decide +kernel)
theorem z_56 : zcellE (adI h a1 a2 a3) cy sg0 56 = eI cy 300 := zI (by decide +kernel)
theorem z_57 : zcellE (adI h a1 a2 a3) cy sg0 57 = eI cy 300 := zI (by decide +kernel)
theorem z_58 : zcellE (adI h a1 a2 a3) cy sg0 58 = eI cy 300 := zI (by decide +kernel)
theorem z_59 : zcellE (adI h a1 a2 a3) cy sg0 59 = eI cy 300 := zI (by decide +kernel)
theorem z_60 : zcellE (adI h a1 a2 a3) cy sg0 60 = eI cy 300 := zI (by decide +kernel)
theorem z_61 : zcellE (adI h a1 a2 a3) cy sg0 61 = eI cy 300 := zI (by decide +kernel)
theorem z_62 : zcellE (adI h a1 a2 a3) cy sg0 62 = eI cy 300 := zI (by decide +kernel)
theorem z_63 : zcellE (adI h a1 a2 a3) cy sg0 63 = eI cy 300 := zI (by decide +kernel)
theorem z_64 : zcellE (adI h a1 a2 a3) cy sg0 64 = eI cy 300 := zI (by decide +kernel)
theorem z_65 : zcellE (adI h a1 a2 a3) cy sg0 65 = eI cy 300 := zI (by decide +kernel)
theorem z_66 : zcellE (adI h a1 a2 a3) cy sg0 66 = eI cy 300 := zI (by decide +kernel)
theorem z_67 : zcellE (adI h a1 a2 a3) cy sg0 67 = eI cy 300 := zI (by decide +kernel)
theorem z_68 : zcellE (adI h a1 a2 a3) cy sg0 68 = eI cy 300 := zI (by decide +kernel)
theorem z_69 : zcellE (adI h a1 a2 a3) cy sg0 69 = eI cy 300 := zI (by decide +kernel)
theorem z_70 : zcellE (adI h a1 a2 a3) cy sg0 70 = eI cy 300 := zI (by decide +kernel)
theorem z_71 : zcellE (adI h a1 a2 a3) cy sg0 71 = eI cy 300 := zI (by decide +kernel)
theorem z_72 : zcellE (adI h a1 a2 a3) cy sg0 72 = eI cy 300 := zI (by decide +kernel)
set_option maxRecDepth 20000 in
set_option maxHeartbeats 8000000 in
theorem z_73 : zcellE (adI h a1 a2 a3) cy sg0 73 = .inr (4, (((((((((zer 4).set 3 (.ref (h + 61 + 1))).set 4 (.ref (h + 61 + 2))).set 5 (.ref (h + 61 + 3))).set 6 (.ref (h + 61 + 4))).set 8 (.ref (h + 61 + 5))).set 9 (.ref (h + 61 + 6))).set 10 (.ref (h + 61 + 7))).set 11 (.ref (h + 61 + 8))).set 12 (.ref (h + 61 + 9))) := by
  rw [zcellE_obj (ci := 4) (by decide +kernel) (by decide)]
  rfl
theorem z_74 : zcellE (adI h a1 a2 a3) cy sg0 74 = eI cy 300 := zI (by decide +kernel)
theorem z_75 : zcellE (adI h a1 a2 a3) cy sg0 75 = eI cy 300 := zI (by decide +kernel)
theorem z_76 : zcellE (adI h a1 a2 a3) cy sg0 76 = eI cy 300 := zI (by decide +kernel)
theorem z_77 : zcellE (adI h a1 a2 a3) cy sg0 77 = eI cy 300 := zI (by decide +kernel)
theorem z_78 : zcellE (adI h a1 a2 a3) cy sg0 78 = eI cy 60 := zI (by decide +kernel)
theorem z_79 : zcellE (adI h a1 a2 a3) cy sg0 79 = eI cy 60 := zI (by decide +kernel)
theorem z_80 : zcellE (adI h a1 a2 a3) cy sg0 80 = eI cy 5 := zI (by decide +kernel)
theorem z_81 : zcellE (adI h a1 a2 a3) cy sg0 81 = eI cy 5 := zI (by decide +kernel)
theorem z_82 : zcellE (adI h a1 a2 a3) cy sg0 82 = eI cy 5 := zI (by decide +kernel)
set_option maxRecDepth 20000 in
set_option maxHeartbeats 8000000 in
theorem z_83 : zcellE (adI h a1 a2 a3) cy sg0 83 = .inr (1, ((zer 1).set 1 (.ref (h + 71 + 1))).set 2 (.ref (h + 71 + 2))) := by
  rw [zcellE_obj (ci := 1) (by decide +kernel) (by decide)]
  rfl
theorem z_84 : zcellE (adI h a1 a2 a3) cy sg0 84 = eI cy 6 := zI (by decide +kernel)
theorem z_85 : zcellE (adI h a1 a2 a3) cy sg0 85 = eI cy 6 := zI (by decide +kernel)
set_option maxRecDepth 20000 in
set_option maxHeartbeats 8000000 in
theorem z_86 : zcellE (adI h a1 a2 a3) cy sg0 86 = .inr (1, ((zer 1).set 1 (.ref (h + 74 + 1))).set 2 (.ref (h + 74 + 2))) := by
  rw [zcellE_obj (ci := 1) (by decide +kernel) (by decide)]
  rfl
theorem z_87 : zcellE (adI h a1 a2 a3) cy sg0 87 = eI cy 6 := zI (by decide +kernel)
theorem z_88 : zcellE (adI h a1 a2 a3) cy sg0 88 = eI cy 6 := zI (by decide +kernel)
set_option maxRecDepth 20000 in
set_option maxHeartbeats 8000000 in
theorem z_89 : zcellE (adI h a1 a2 a3) cy sg0 89 = .inr (0, zer 0) := by
  rw [zcellE_obj (ci := 0) (by decide +kernel) (by decide)]
  rfl
theorem z_90 : zcellE (adI h a1 a2 a3) cy sg0 90 = eI cy 10 := zI (by decide +kernel)
set_option maxRecDepth 20000 in
set_option maxHeartbeats 8000000 in
theorem z_91 : zcellE (adI h a1 a2 a3) cy sg0 91 = .inr (2, ((((((((((zer 2).set 4 (.ref (h + 79 + 1))).set 5 (.ref (h + 79 + 2))).set 6 (.ref (h + 79 + 3))).set 7 (.ref (h + 79 + 14))).set 8 (.ref (h + 79 + 25))).set 9 (.ref (h + 79 + 26))).set 10 (.ref (h + 79 + 27))).set 11 (.ref (h + 79 + 28))).set 12 (.ref (h + 79 + 29))).set 13 (.ref (h + 79 + 30))) := by
  rw [zcellE_obj (ci := 2) (by decide +kernel) (by decide)]
  rfl
theorem z_92 : zcellE (adI h a1 a2 a3) cy sg0 92 = eI cy 10 := zI (by decide +kernel)
theorem z_93 : zcellE (adI h a1 a2 a3) cy sg0 93 = eI cy 10 := zI (by decide +kernel)
theorem z_94 : zcellE (adI h a1 a2 a3) cy sg0 94 = eR cy (h + 82) 10 := zR (b := 102) (by decide +kernel) (fun j => rfl) (fun j => rfl) (fun j hj => by
  unfold adI
  rw [if_pos (by omega), (by decide +kernel : ∀ j : Nat, j < 10 → ofC.getD (102 + j) 0 = 83 + j) j hj]
  omega)
theorem z_95 : zcellE (adI h a1 a2 a3) cy sg0 95 = eR cy (h + 93) 10 := zR (b := 112) (by decide +kernel) (fun j => rfl) (fun j => rfl) (fun j hj => by
  unfold adI
  rw [if_pos (by omega), (by decide +kernel : ∀ j : Nat, j < 10 → ofC.getD (112 + j) 0 = 94 + j) j hj]
  omega)
theorem z_96 : zcellE (adI h a1 a2 a3) cy sg0 96 = eI cy 21 := zI (by decide +kernel)
theorem z_97 : zcellE (adI h a1 a2 a3) cy sg0 97 = eI cy 60 := zI (by decide +kernel)
theorem z_98 : zcellE (adI h a1 a2 a3) cy sg0 98 = eI cy 60 := zI (by decide +kernel)
theorem z_99 : zcellE (adI h a1 a2 a3) cy sg0 99 = eI cy 60 := zI (by decide +kernel)
theorem z_100 : zcellE (adI h a1 a2 a3) cy sg0 100 = eI cy 60 := zI (by decide +kernel)
theorem z_101 : zcellE (adI h a1 a2 a3) cy sg0 101 = eI cy 60 := zI (by decide +kernel)
theorem z_102 : zcellE (adI h a1 a2 a3) cy sg0 102 = eI cy 10 := zI (by decide +kernel)
theorem z_103 : zcellE (adI h a1 a2 a3) cy sg0 103 = eI cy 10 := zI (by decide +kernel)
theorem z_104 : zcellE (adI h a1 a2 a3) cy sg0 104 = eI cy 10 := zI (by decide +kernel)
theorem z_105 : zcellE (adI h a1 a2 a3) cy sg0 105 = eI cy 10 := zI (by decide +kernel)
theorem z_106 : zcellE (adI h a1 a2 a3) cy sg0 106 = eI cy 10 := zI (by decide +kernel)
theorem z_107 : zcellE (adI h a1 a2 a3) cy sg0 107 = eI cy 10 := zI (by decide +kernel)
theorem z_108 : zcellE (adI h a1 a2 a3) cy sg0 108 = eI cy 10 := zI (by decide +kernel)
theorem z_109 : zcellE (adI h a1 a2 a3) cy sg0 109 = eI cy 10 := zI (by decide +kernel)
theorem z_110 : zcellE (adI h a1 a2 a3) cy sg0 110 = eI cy 10 := zI (by decide +kernel)
theorem z_111 : zcellE (adI h a1 a2 a3) cy sg0 111 = eI cy 10 := zI (by decide +kernel)
theorem z_112 : zcellE (adI h a1 a2 a3) cy sg0 112 = eI cy 10 := zI (by decide +kernel)
theorem z_113 : zcellE (adI h a1 a2 a3) cy sg0 113 = eI cy 10 := zI (by decide +kernel)
theorem z_114 : zcellE (adI h a1 a2 a3) cy sg0 114 = eI cy 10 := zI (by decide +kernel)
theorem z_115 : zcellE (adI h a1 a2 a3) cy sg0 115 = eI cy 10 := zI (by decide +kernel)
theorem z_116 : zcellE (adI h a1 a2 a3) cy sg0 116 = eI cy 10 := zI (by decide +kernel)
theorem z_117 : zcellE (adI h a1 a2 a3) cy sg0 117 = eI cy 10 := zI (by decide +kernel)
theorem z_118 : zcellE (adI h a1 a2 a3) cy sg0 118 = eI cy 10 := zI (by decide +kernel)
theorem z_119 : zcellE (adI h a1 a2 a3) cy sg0 119 = eI cy 10 := zI (by decide +kernel)
theorem z_120 : zcellE (adI h a1 a2 a3) cy sg0 120 = eI cy 10 := zI (by decide +kernel)
theorem z_121 : zcellE (adI h a1 a2 a3) cy sg0 121 = eI cy 10 := zI (by decide +kernel)
set_option maxRecDepth 20000 in
set_option maxHeartbeats 8000000 in
theorem z_122 : zcellE (adI h a1 a2 a3) cy sg0 122 = .inr (2, ((((((((((zer 2).set 4 (.ref (h + 110 + 1))).set 5 (.ref (h + 110 + 2))).set 6 (.ref (h + 110 + 3))).set 7 (.ref (h + 110 + 14))).set 8 (.ref (h + 110 + 25))).set 9 (.ref (h + 110 + 26))).set 10 (.ref (h + 110 + 27))).set 11 (.ref (h + 110 + 28))).set 12 (.ref (h + 110 + 29))).set 13 (.ref (h + 110 + 30))) := by
  rw [zcellE_obj (ci := 2) (by decide +kernel) (by decide)]
  rfl
theorem z_123 : zcellE (adI h a1 a2 a3) cy sg0 123 = eI cy 10 := zI (by decide +kernel)
theorem z_124 : zcellE (adI h a1 a2 a3) cy sg0 124 = eI cy 10 := zI (by decide +kernel)
theorem z_125 : zcellE (adI h a1 a2 a3) cy sg0 125 = eR cy (h + 113) 10 := zR (b := 133) (by decide +kernel) (fun j => rfl) (fun j => rfl) (fun j hj => by
  unfold adI
  rw [if_pos (by omega), (by decide +kernel : ∀ j : Nat, j < 10 → ofC.getD (133 + j) 0 = 114 + j) j hj]
  omega)
theorem z_126 : zcellE (adI h a1 a2 a3) cy sg0 126 = eR cy (h + 124) 10 := zR (b := 143) (by decide +kernel) (fun j => rfl) (fun j => rfl) (fun j hj => by
  unfold adI
  rw [if_pos (by omega), (by decide +kernel : ∀ j : Nat, j < 10 → ofC.getD (143 + j) 0 = 125 + j) j hj]
  omega)
theorem z_127 : zcellE (adI h a1 a2 a3) cy sg0 127 = eI cy 21 := zI (by decide +kernel)
theorem z_128 : zcellE (adI h a1 a2 a3) cy sg0 128 = eI cy 60 := zI (by decide +kernel)
theorem z_129 : zcellE (adI h a1 a2 a3) cy sg0 129 = eI cy 60 := zI (by decide +kernel)
theorem z_130 : zcellE (adI h a1 a2 a3) cy sg0 130 = eI cy 60 := zI (by decide +kernel)
theorem z_131 : zcellE (adI h a1 a2 a3) cy sg0 131 = eI cy 60 := zI (by decide +kernel)
theorem z_132 : zcellE (adI h a1 a2 a3) cy sg0 132 = eI cy 60 := zI (by decide +kernel)
theorem z_133 : zcellE (adI h a1 a2 a3) cy sg0 133 = eI cy 10 := zI (by decide +kernel)
theorem z_134 : zcellE (adI h a1 a2 a3) cy sg0 134 = eI cy 10 := zI (by decide +kernel)
theorem z_135 : zcellE (adI h a1 a2 a3) cy sg0 135 = eI cy 10 := zI (by decide +kernel)
theorem z_136 : zcellE (adI h a1 a2 a3) cy sg0 136 = eI cy 10 := zI (by decide +kernel)
theorem z_137 : zcellE (adI h a1 a2 a3) cy sg0 137 = eI cy 10 := zI (by decide +kernel)
theorem z_138 : zcellE (adI h a1 a2 a3) cy sg0 138 = eI cy 10 := zI (by decide +kernel)
theorem z_139 : zcellE (adI h a1 a2 a3) cy sg0 139 = eI cy 10 := zI (by decide +kernel)
theorem z_140 : zcellE (adI h a1 a2 a3) cy sg0 140 = eI cy 10 := zI (by decide +kernel)
theorem z_141 : zcellE (adI h a1 a2 a3) cy sg0 141 = eI cy 10 := zI (by decide +kernel)
theorem z_142 : zcellE (adI h a1 a2 a3) cy sg0 142 = eI cy 10 := zI (by decide +kernel)
theorem z_143 : zcellE (adI h a1 a2 a3) cy sg0 143 = eI cy 10 := zI (by decide +kernel)
theorem z_144 : zcellE (adI h a1 a2 a3) cy sg0 144 = eI cy 10 := zI (by decide +kernel)
theorem z_145 : zcellE (adI h a1 a2 a3) cy sg0 145 = eI cy 10 := zI (by decide +kernel)
theorem z_146 : zcellE (adI h a1 a2 a3) cy sg0 146 = eI cy 10 := zI (by decide +kernel)
theorem z_147 : zcellE (adI h a1 a2 a3) cy sg0 147 = eI cy 10 := zI (by decide +kernel)
theorem z_148 : zcellE (adI h a1 a2 a3) cy sg0 148 = eI cy 10 := zI (by decide +kernel)
theorem z_149 : zcellE (adI h a1 a2 a3) cy sg0 149 = eI cy 10 := zI (by decide +kernel)
theorem z_150 : zcellE (adI h a1 a2 a3) cy sg0 150 = eI cy 10 := zI (by decide +kernel)
theorem z_151 : zcellE (adI h a1 a2 a3) cy sg0 151 = eI cy 10 := zI (by decide +kernel)
theorem z_152 : zcellE (adI h a1 a2 a3) cy sg0 152 = eI cy 10 := zI (by decide +kernel)
set_option maxRecDepth 20000 in
set_option maxHeartbeats 8000000 in
theorem z_153 : zcellE (adI h a1 a2 a3) cy sg0 153 = .inr (9, ((((((((((((((((((((((zer 9).set 1 (.ref (h + 153 + 1))).set 3 (.ref (h + 153 + 2))).set 4 (.ref (h + 153 + 3))).set 5 (.ref (h + 153 + 4))).set 15 (.int (-1))).set 16 (.ref (h + 153 + 5))).set 18 (.ref (h + 153 + 6))).set 19 (.ref (h + 153 + 7))).set 21 (.ref (h + 153 + 8))).set 22 (.ref (h + 153 + 9))).set 24 (.ref (h + 153 + 10))).set 25 (.ref (h + 153 + 11))).set 26 (.ref (h + 153 + 12))).set 27 (.ref (h + 153 + 13))).set 29 (.ref (h + 153 + 14))).set 31 (.ref (h + 153 + 15))).set 32 (.ref (h + 153 + 16))).set 33 (.ref (h + 153 + 17))).set 34 (.ref (h + 153 + 18))).set 35 (.ref (h + 153 + 19))).set 36 (.ref (h + 153 + 20))).set 37 (.ref (h + 153 + 21))) := by
  have e1 : rfv (sg0.2.2 153) 153 ((1 : Nat) : Int) = some 154 := by decide +kernel
  have e3 : rfv (sg0.2.2 153) 153 ((3 : Nat) : Int) = some 155 := by decide +kernel
  have e4 : rfv (sg0.2.2 153) 153 ((4 : Nat) : Int) = some 156 := by decide +kernel
  have e5 : rfv (sg0.2.2 153) 153 ((5 : Nat) : Int) = some 157 := by decide +kernel
  have e16 : rfv (sg0.2.2 153) 153 ((16 : Nat) : Int) = some 158 := by decide +kernel
  have e18 : rfv (sg0.2.2 153) 153 ((18 : Nat) : Int) = some 159 := by decide +kernel
  have e19 : rfv (sg0.2.2 153) 153 ((19 : Nat) : Int) = some 160 := by decide +kernel
  have e21 : rfv (sg0.2.2 153) 153 ((21 : Nat) : Int) = some 161 := by decide +kernel
  have e22 : rfv (sg0.2.2 153) 153 ((22 : Nat) : Int) = some 162 := by decide +kernel
  have e24 : rfv (sg0.2.2 153) 153 ((24 : Nat) : Int) = some 163 := by decide +kernel
  have e25 : rfv (sg0.2.2 153) 153 ((25 : Nat) : Int) = some 164 := by decide +kernel
  have e26 : rfv (sg0.2.2 153) 153 ((26 : Nat) : Int) = some 165 := by decide +kernel
  have e27 : rfv (sg0.2.2 153) 153 ((27 : Nat) : Int) = some 166 := by decide +kernel
  have e29 : rfv (sg0.2.2 153) 153 ((29 : Nat) : Int) = some 167 := by decide +kernel
  have e31 : rfv (sg0.2.2 153) 153 ((31 : Nat) : Int) = some 168 := by decide +kernel
  have e32 : rfv (sg0.2.2 153) 153 ((32 : Nat) : Int) = some 169 := by decide +kernel
  have e33 : rfv (sg0.2.2 153) 153 ((33 : Nat) : Int) = some 170 := by decide +kernel
  have e34 : rfv (sg0.2.2 153) 153 ((34 : Nat) : Int) = some 171 := by decide +kernel
  have e35 : rfv (sg0.2.2 153) 153 ((35 : Nat) : Int) = some 172 := by decide +kernel
  have e36 : rfv (sg0.2.2 153) 153 ((36 : Nat) : Int) = some 173 := by decide +kernel
  have e37 : rfv (sg0.2.2 153) 153 ((37 : Nat) : Int) = some 174 := by decide +kernel
  rw [zcellE_obj (ci := 9) (by decide +kernel) (by decide)]
  have er : List.range (nsl 9) = [0, 1, 2, 3, 4, 5, 6, 7, 8, 9, 10, 11, 12, 13, 14, 15, 16, 17, 18, 19, 20, 21, 22, 23, 24, 25, 26, 27, 28, 29, 30, 31, 32, 33, 34, 35, 36, 37, 38, 39] := by decide +kernel
  rw [er]
  have ez : zer 9 = [.int 0, .null, .int 0, .null, .null, .null, .int 0, .int 0, .int 0, .int 0, .int 0, .int 0, .int 0, .int 0, .int 0, .int 0, .null, .long 0, .null, .null, .int 0, .null, .null, .long 0, .null, .null, .null, .null, .int 0, .null, .int 0, .null, .null, .null, .null, .null, .null, .null, .int 0, .int 0] := rfl
  rw [ez]
  simp only [List.map_cons, List.map_nil, List.set_cons_succ, List.set_cons_zero, e1, e3, e4, e5, e16, e18, e19, e21, e22, e24, e25, e26, e27, e29, e31, e32, e33, e34, e35, e36, e37]
  refine congrArg (fun z => (Sum.inr (9, z) : va_E)) ?_
  simp only [List.cons.injEq, and_true]
  refine ⟨rfl, rfl, rfl, rfl, rfl, rfl, rfl, rfl, rfl, rfl, rfl, rfl, rfl, rfl, rfl, rfl, rfl, rfl, rfl, rfl, rfl, rfl, rfl, rfl, rfl, rfl, rfl, rfl, rfl, rfl, rfl, rfl, rfl, rfl, rfl, rfl, rfl, rfl, rfl, rfl⟩
theorem z_154 : zcellE (adI h a1 a2 a3) cy sg0 154 = eI cy 900 := zI (by decide +kernel)
theorem z_155 : zcellE (adI h a1 a2 a3) cy sg0 155 = eI cy 415 := zI (by decide +kernel)
theorem z_156 : zcellE (adI h a1 a2 a3) cy sg0 156 = eI cy 415 := zI (by decide +kernel)
theorem z_157 : zcellE (adI h a1 a2 a3) cy sg0 157 = eI cy 10 := zI (by decide +kernel)
theorem z_158 : zcellE (adI h a1 a2 a3) cy sg0 158 = eI cy 60 := zI (by decide +kernel)
theorem z_159 : zcellE (adI h a1 a2 a3) cy sg0 159 = eI cy 1200 := zI (by decide +kernel)
theorem z_160 : zcellE (adI h a1 a2 a3) cy sg0 160 = eL cy 20 := zL (by decide +kernel)
theorem z_161 : zcellE (adI h a1 a2 a3) cy sg0 161 = eI cy 60 := zI (by decide +kernel)
theorem z_162 : zcellE (adI h a1 a2 a3) cy sg0 162 = eI cy 60 := zI (by decide +kernel)
theorem z_163 : zcellE (adI h a1 a2 a3) cy sg0 163 = eL cy 60 := zL (by decide +kernel)
theorem z_164 : zcellE (adI h a1 a2 a3) cy sg0 164 = eI cy 300 := zI (by decide +kernel)
theorem z_165 : zcellE (adI h a1 a2 a3) cy sg0 165 = eI cy 300 := zI (by decide +kernel)
theorem z_166 : zcellE (adI h a1 a2 a3) cy sg0 166 = eI cy 300 := zI (by decide +kernel)
theorem z_167 : zcellE (adI h a1 a2 a3) cy sg0 167 = eI cy 300 := zI (by decide +kernel)
theorem z_168 : zcellE (adI h a1 a2 a3) cy sg0 168 = eZ cy 300 := zT (t := 13) (by decide) (by decide +kernel)
theorem z_169 : zcellE (adI h a1 a2 a3) cy sg0 169 = eZ cy 300 := zT (t := 13) (by decide) (by decide +kernel)
theorem z_170 : zcellE (adI h a1 a2 a3) cy sg0 170 = eI cy 5 := zI (by decide +kernel)
theorem z_171 : zcellE (adI h a1 a2 a3) cy sg0 171 = eI cy 5 := zI (by decide +kernel)
theorem z_172 : zcellE (adI h a1 a2 a3) cy sg0 172 = eI cy 10 := zI (by decide +kernel)
theorem z_173 : zcellE (adI h a1 a2 a3) cy sg0 173 = eI cy 6 := zI (by decide +kernel)
theorem z_174 : zcellE (adI h a1 a2 a3) cy sg0 174 = eI cy 6 := zI (by decide +kernel)
end ASM
