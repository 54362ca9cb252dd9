/-! The world that the two constructors leave. -/
def orA : List Nat := [0, 1, 2, 15, 16, 18, 19, 20, 21, 22, 23, 24, 25, 26, 27, 28, 29, 30, 31, 32, 33, 34, 35, 36, 37, 17, 38, 39, 43, 44, 45, 46, 47, 48, 49, 50, 51, 52, 40, 53, 54, 55, 56, 57, 58, 59, 60, 61, 62, 41, 63, 64, 65, 66, 67, 68, 69, 70, 71, 72, 42, 73, 74, 75, 76, 77, 78, 79, 80, 81, 82, 83, 84, 85, 86, 87, 88, 89, 90, 91, 92, 93, 94, 102, 103, 104, 105, 106, 107, 108, 109, 110, 111, 95, 112, 113, 114, 115, 116, 117, 118, 119, 120, 121, 96, 97, 98, 99, 100, 101, 122, 123, 124, 125, 133, 134, 135, 136, 137, 138, 139, 140, 141, 142, 126, 143, 144, 145, 146, 147, 148, 149, 150, 151, 152, 127, 128, 129, 130, 131, 132, 3, 4, 5, 6, 7, 8, 9, 10, 11, 12, 13, 14, 153, 154, 155, 156, 157, 158, 159, 160, 161, 162, 163, 164, 165, 166, 167, 168, 169, 170, 171, 172, 173, 174, 175]
def r9L : List Nat := [153, 154, 155, 156, 157, 158, 159, 160, 161, 162, 163, 164, 165, 166, 167, 168, 169, 170, 171, 172, 173, 174]
theorem or_all : ∀ c : Nat, c < 176 → orA[ofC.getD c 0]? = some c := by decide +kernel
theorem r9_at : ∀ k : Nat, k < 22 → r9L[k]? = some (153 + k) := by decide +kernel
theorem zc_eq : ∀ c : Nat, c < 175 → zkd c = kd c := by decide +kernel
section ASN
variable {h a1 a2 a3 : Nat} {cy : Nat → ClassId} {D : va_G} {H : Heap} {σ : Sto}
set_option maxRecDepth 40000 in
set_option maxHeartbeats 4000000 in
theorem e8_map : eX8 cy h = orL.map (zcellE (adI h a1 a2 a3) cy sg0) := by
  simp only [orL, List.map_cons, List.map_nil, z_0, z_1, z_2, z_3, z_4, z_5, z_6, z_7, z_8, z_9, z_10, z_11, z_12, z_13, z_14, z_15, z_16, z_17, z_18, z_19, z_20, z_21, z_22, z_23, z_24, z_25, z_26, z_27, z_28, z_29, z_30, z_31, z_32, z_33, z_34, z_35, z_36, z_37, z_38, z_39, z_40, z_41, z_42, z_43, z_44, z_45, z_46, z_47, z_48, z_49, z_50, z_51, z_52, z_53, z_54, z_55, z_56, z_57, z_58, z_59, z_60, z_61, z_62, z_63, z_64, z_65, z_66, z_67, z_68, z_69, z_70, z_71, z_72, z_73, z_74, z_75, z_76, z_77, z_78, z_79, z_80, z_81, z_82, z_83, z_84, z_85, z_86, z_87, z_88, z_89, z_90, z_91, z_92, z_93, z_94, z_95, z_96, z_97, z_98, z_99, z_100, z_101, z_102, z_103, z_104, z_105, z_106, z_107, z_108, z_109, z_110, z_111, z_112, z_113, z_114, z_115, z_116, z_117, z_118, z_119, z_120, z_121, z_122, z_123, z_124, z_125, z_126, z_127, z_128, z_129, z_130, z_131, z_132, z_133, z_134, z_135, z_136, z_137, z_138, z_139, z_140, z_141, z_142, z_143, z_144, z_145, z_146, z_147, z_148, z_149, z_150, z_151, z_152]
  rfl
set_option maxRecDepth 40000 in
theorem e9_map : eX9 cy (h + 153) = r9L.map (zcellE (adI h a1 a2 a3) cy sg0) := by
  simp only [eX9, List.nil_append, List.cons_append, List.append_assoc, r9L, List.map_cons, List.map_nil, z_153, z_154, z_155, z_156, z_157, z_158, z_159, z_160, z_161, z_162, z_163, z_164, z_165, z_166, z_167, z_168, z_169, z_170, z_171, z_172, z_173, z_174]
theorem e8_len : (eX8 cy h).length = 153 := by
  rw [e8_map (a1 := 0) (a2 := 0) (a3 := 0), List.length_map]
  rfl
theorem e9_len : (eX9 cy (h + 153)).length = 22 := by
  rw [e9_map (a1 := 0) (a2 := 0) (a3 := 0), List.length_map]
  rfl
theorem ad_eq {c : Nat} (hc : c < 176) : adI h a1 a2 a3 c = h + ofC.getD c 0 := by
  unfold adI
  rw [if_pos hc]
theorem ad_id {k : Nat} (hk : k < 23) : adI h a1 a2 a3 (153 + k) = h + 153 + k := by
  rw [ad_eq (by omega), of_id k hk, Nat.add_assoc]
theorem ad_inj {i j : Nat} (hi : i < 176) (hj : j < 176) (q : adI h a1 a2 a3 i = adI h a1 a2 a3 j) : i = j := by
  rw [ad_eq hi, ad_eq hj] at q
  have e1 := or_all i hi
  have e2 := or_all j hj
  have e3 : ofC.getD i 0 = ofC.getD j 0 := by omega
  rw [e3] at e1
  exact Option.some.inj (e1.symm.trans e2)
theorem asm_P (h8 : ∀ (k : Nat) (x : va_E), (eX8 cy h)[k]? = some x → va_at D vwCl (h + k, x) H) (h9 : ∀ (k : Nat) (x : va_E), (eX9 cy (h + 153))[k]? = some x → va_at D vwCl (h + 153 + k, x) H) : va_P D vwCl (zwld (adI h a1 a2 a3) cy sg0) H := by
  intro c q hq
  have hc : c < zNC := by
    have h0 := (List.getElem?_eq_some_iff.mp hq).1
    rw [zwld_len] at h0
    exact h0
  have hc2 : c < 175 := hc
  rw [zwld_get hc] at hq
  cases hq
  rcases Nat.lt_or_ge c 153 with q1 | q1
  · have g := h8 (ofC.getD c 0) (zcellE (adI h a1 a2 a3) cy sg0 c) (by rw [e8_map (a1 := a1) (a2 := a2) (a3 := a3), List.getElem?_map, or_of c q1]; rfl)
    rw [ad_eq (by omega)]
    exact g
  · obtain ⟨k, rfl⟩ : ∃ k, c = 153 + k := ⟨c - 153, by omega⟩
    have g := h9 k (zcellE (adI h a1 a2 a3) cy sg0 (153 + k)) (by rw [e9_map (a1 := a1) (a2 := a2) (a3 := a3), List.getElem?_map, r9_at k (by omega)]; rfl)
    rw [ad_id (by omega)]
    exact g
theorem asm_Dz : va_D (fun q => h ≤ q) (zwld (adI h a1 a2 a3) cy σ) := by
  have hlt : ∀ (k : Nat) (q : Nat × va_E), (zwld (adI h a1 a2 a3) cy σ)[k]? = some q → k < 175 ∧ q.1 = adI h a1 a2 a3 k := fun k q hk => by
    have h0 := (List.getElem?_eq_some_iff.mp hk).1
    rw [zwld_len] at h0
    rw [zwld_get h0] at hk
    cases hk
    exact ⟨h0, rfl⟩
  refine ⟨fun i j x y hi hj hxy => ?_, fun k q hk => ?_⟩
  · obtain ⟨i1, i2⟩ := hlt i x hi
    obtain ⟨j1, j2⟩ := hlt j y hj
    exact ad_inj (by omega) (by omega) (by rw [← i2, ← j2]; exact hxy)
  · obtain ⟨k1, k2⟩ := hlt k q hk
    rw [k2, ad_eq (by omega)]
    exact Nat.le_add_right _ _
theorem asm_Dw : va_D (fun q => h ≤ q) (wld (adI h a1 a2 a3) cy σ) := by
  have hlt : ∀ (k : Nat) (q : Nat × va_E), (wld (adI h a1 a2 a3) cy σ)[k]? = some q → k < 176 ∧ q.1 = adI h a1 a2 a3 k := fun k q hk => by
    have h0 := (List.getElem?_eq_some_iff.mp hk).1
    rw [wld_len] at h0
    rw [wld_get h0] at hk
    cases hk
    exact ⟨h0, rfl⟩
  refine ⟨fun i j x y hi hj hxy => ?_, fun k q hk => ?_⟩
  · obtain ⟨i1, i2⟩ := hlt i x hi
    obtain ⟨j1, j2⟩ := hlt j y hj
    exact ad_inj (by omega) (by omega) (by rw [← i2, ← j2]; exact hxy)
  · obtain ⟨k1, k2⟩ := hlt k q hk
    rw [k2, ad_eq (by omega)]
    exact Nat.le_add_right _ _
theorem wld_of {ad : Nat → Nat} (hP : va_P D vwCl (zwld ad cy σ) H) (h1 : va_at D vwCl (ad 175, cellE ad cy σ 175) H) : va_P D vwCl (wld ad cy σ) H := by
  intro c q hq
  have hc : c < NC := by
    have h0 := (List.getElem?_eq_some_iff.mp hq).1
    rw [wld_len] at h0
    exact h0
  have hc2 : c < 176 := hc
  rw [wld_get hc] at hq
  cases hq
  by_cases q1 : c = 175
  · subst q1
    exact h1
  · have hz : c < zNC := by show c < 175; omega
    have g := hP c _ (zwld_get hz)
    have e : zcellE ad cy σ c = cellE ad cy σ c := by
      unfold zcellE zcellF cellE cellF
      rw [zc_eq c hz]
    rw [e] at g
    exact g
end ASN
