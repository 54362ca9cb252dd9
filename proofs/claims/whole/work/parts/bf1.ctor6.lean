/-! DayProfilesModel(), from its entry. -/
theorem grow9 {D : va_G} {n k : Nat} {x y : va_E} {xs : List va_E} {H : Heap} (hL : Lay D n ((x :: xs) ++ [y]) H) (hx : xs.length = k) : ∃ xs1 : List va_E, Lay D n (x :: xs1) H ∧ xs1.length = k + 1 ∧ xs1 = xs ++ [y] := ⟨xs ++ [y], hL, by rw [List.length_append, hx]; rfl, rfl⟩
theorem put9 {D : va_G} {n K j : Nat} {v : Value} {fs : List Value} {xs : List va_E} {H : Heap} (hL : Lay D n ((.inr (9, fs) :: xs).set 0 (.inr (9, fs.set j v))) H) (hf : fs.length = K) : ∃ fs1 : List Value, Lay D n (.inr (9, fs1) :: xs) H ∧ fs1.length = K ∧ fs1 = fs.set j v := ⟨fs.set j v, hL, by rw [List.length_set, hf], rfl⟩
theorem len9 {n k a : Nat} {x : va_E} {xs : List va_E} (hx : xs.length = k) (ha : n + (k + 1) = a) : n + (x :: xs).length = a := by rw [List.length_cons, hx, ha]
set_option maxRecDepth 40000 in
set_option maxHeartbeats 20000000 in
theorem ctX9 (l : Launch) (D : va_G) (cy : Nat → ClassId) (h a1 a2 a3 : Nat) : Met l yX9_init (WSI yX9_init cX9_init 1) (rmI 2 21 5032 80) (Ct9P D cy h a1 a2 a3) (Ct9Q D cy h a1 a2 a3) 21 5032 (fun q => h ≤ q) := by
  refine Met.ofW (cc := cX9_init) (maxL := 1) (ret := none) (by decide) rfl ?_
  intro p e s m args below meth c s₁ B hml hv
  obtain ⟨rfl, hL, h8, hK, hAO, hNW, hSK⟩ := hv
  have hl := lv_entry ([.ref (h + 153)]) (n := 1) (Nat.le_of_ble_eq_true rfl)
  rw [lg_entry_eq]
  generalize (lg_sl ([.ref (h + 153)]) ++ List.replicate (1 - (lg_sl ([.ref (h + 153)])).length) Slot.unset).toArray = ls at hl ⊢
  have hl : lv_has ls 1 [(0, .ref (h + 153))] := hl
  have hr := B.returns
  have hlocks := B.notSynchronized
  have hin2 : meth.name = "<init>" := (name_of_methodNamed B.named B.method).1
  generalize hn : h + 153 = n at hL hl ⊢
  have hC : CtX p s m (List.toArray [.ref n]) c cX9_init 1 RX9 (WSI yX9_init cX9_init 1) D cy n := ⟨⟨B.exec, B.bytes, hml, findClass_of_methodNamed B.named, by rw [← hn]; exact atoms_spec (ws := WSI yX9_init cX9_init 1) B.pre⟩, fun w hw => List.mem_cons_of_mem _ hw, hK, hAO, by rw [hL.1]; exact Nat.le_add_right _ _⟩
  have hsz0 : s.heap.size = n + 1 := hL.1
  have hS : va_S (fun q => n ≤ q) s.heap s.heap [] := va_S.rf
  have hx0 : ([] : List va_E).length = 0 := rfl
  obtain ⟨fs0, hL, hf0, hF0⟩ : ∃ fs0 : List Value, Lay D n (.inr (9, fs0) :: []) s.heap ∧ fs0.length = nsl 9 ∧ fs0 = zer 9 := ⟨_, hL, by unfold zer; rw [List.length_map, List.length_range], rfl⟩
  show W p l e (rmI 2 21 5032 80) s m (List.toArray [.ref n]) below meth c s.heap [] 0 0 _ (F0 m 0 ls [])
  refine lv_aload_n hC.1.1 hC.1.2.1 dX9_init_0 rfl (lv_at hl 0 rfl) ?_
  refine rc_oi hC (inG5 rfl (List.mem_of_getElem? (i := 118) rfl)) hl.1 (Nat.le_of_ble_eq_true rfl) (Nat.le_of_ble_eq_true rfl) dX9_init_1 ?_
  refine lv_aload_n hC.1.1 hC.1.2.1 dX9_init_4 rfl (lv_at hl 0 rfl) ?_
  refine lv_sipush (v := 900) hC.1.1 hC.1.2.1 dX9_init_5 (by decide +kernel) ?_
  refine rc_int (N := 900) (n := n + 1) hC hL hS (by decide +kernel) (by decide +kernel) (by decide +kernel) (len9 hx0 rfl) (Nat.le_of_ble_eq_true rfl) (Nat.le_of_ble_eq_true rfl) dX9_init_8 (fun H hL hS => ?_)
  obtain ⟨xs1, hL, hx1, hX1⟩ := grow9 hL hx0
  refine rc_put (k := 0) (ci := 9) (fs := fs0) (v := .ref (n + 1)) hC hL hS hin2 rfl fX9_7 rfl rfl rfl (by rw [hf0]; decide) rfl dX9_init_10 (fun H locs hL hS => ?_)
  obtain ⟨fs1, hL, hf1, hF1⟩ := put9 hL hf0
  refine lv_aload_n hC.1.1 hC.1.2.1 dX9_init_13 rfl (lv_at hl 0 rfl) ?_
  refine lv_sipush (v := 415) hC.1.1 hC.1.2.1 dX9_init_14 (by decide +kernel) ?_
  refine rc_int (N := 415) (n := n + 2) hC hL hS (by decide +kernel) (by decide +kernel) (by decide +kernel) (len9 hx1 rfl) (Nat.le_of_ble_eq_true rfl) (Nat.le_of_ble_eq_true rfl) dX9_init_17 (fun H hL hS => ?_)
  obtain ⟨xs2, hL, hx2, hX2⟩ := grow9 hL hx1
  refine rc_put (k := 0) (ci := 9) (fs := fs1) (v := .ref (n + 2)) hC hL hS hin2 rfl fX9_13 rfl rfl rfl (by rw [hf1]; decide) rfl dX9_init_19 (fun H locs hL hS => ?_)
  obtain ⟨fs2, hL, hf2, hF2⟩ := put9 hL hf1
  refine lv_aload_n hC.1.1 hC.1.2.1 dX9_init_22 rfl (lv_at hl 0 rfl) ?_
  refine lv_sipush (v := 415) hC.1.1 hC.1.2.1 dX9_init_23 (by decide +kernel) ?_
  refine rc_int (N := 415) (n := n + 3) hC hL hS (by decide +kernel) (by decide +kernel) (by decide +kernel) (len9 hx2 rfl) (Nat.le_of_ble_eq_true rfl) (Nat.le_of_ble_eq_true rfl) dX9_init_26 (fun H hL hS => ?_)
  obtain ⟨xs3, hL, hx3, hX3⟩ := grow9 hL hx2
  refine rc_put (k := 0) (ci := 9) (fs := fs2) (v := .ref (n + 3)) hC hL hS hin2 rfl fX9_16 rfl rfl rfl (by rw [hf2]; decide) rfl dX9_init_28 (fun H locs hL hS => ?_)
  obtain ⟨fs3, hL, hf3, hF3⟩ := put9 hL hf2
  refine lv_aload_n hC.1.1 hC.1.2.1 dX9_init_31 rfl (lv_at hl 0 rfl) ?_
  refine lv_bipush (v := 10) hC.1.1 hC.1.2.1 dX9_init_32 (by decide +kernel) ?_
  refine rc_int (N := 10) (n := n + 4) hC hL hS (by decide +kernel) (by decide +kernel) (by decide +kernel) (len9 hx3 rfl) (Nat.le_of_ble_eq_true rfl) (Nat.le_of_ble_eq_true rfl) dX9_init_34 (fun H hL hS => ?_)
  obtain ⟨xs4, hL, hx4, hX4⟩ := grow9 hL hx3
  refine rc_put (k := 0) (ci := 9) (fs := fs3) (v := .ref (n + 4)) hC hL hS hin2 rfl fX9_19 rfl rfl rfl (by rw [hf3]; decide) rfl dX9_init_36 (fun H locs hL hS => ?_)
  obtain ⟨fs4, hL, hf4, hF4⟩ := put9 hL hf3
  refine lv_aload_n hC.1.1 hC.1.2.1 dX9_init_39 rfl (lv_at hl 0 rfl) ?_
  refine lv_iconst (v := (-1)) hC.1.1 hC.1.2.1 dX9_init_40 (by decide +kernel) ?_
  refine rc_put (k := 0) (ci := 9) (fs := fs4) (v := .int (-1)) hC hL hS hin2 rfl fX9_22 rfl rfl rfl (by rw [hf4]; decide) rfl dX9_init_41 (fun H locs hL hS => ?_)
  obtain ⟨fs5, hL, hf5, hF5⟩ := put9 hL hf4
  refine lv_aload_n hC.1.1 hC.1.2.1 dX9_init_44 rfl (lv_at hl 0 rfl) ?_
  refine lv_bipush (v := 60) hC.1.1 hC.1.2.1 dX9_init_45 (by decide +kernel) ?_
  refine rc_int (N := 60) (n := n + 5) hC hL hS (by decide +kernel) (by decide +kernel) (by decide +kernel) (len9 hx4 rfl) (Nat.le_of_ble_eq_true rfl) (Nat.le_of_ble_eq_true rfl) dX9_init_47 (fun H hL hS => ?_)
  obtain ⟨xs5, hL, hx5, hX5⟩ := grow9 hL hx4
  refine rc_put (k := 0) (ci := 9) (fs := fs5) (v := .ref (n + 5)) hC hL hS hin2 rfl fX9_26 rfl rfl rfl (by rw [hf5]; decide) rfl dX9_init_49 (fun H locs hL hS => ?_)
  obtain ⟨fs6, hL, hf6, hF6⟩ := put9 hL hf5
  refine lv_aload_n hC.1.1 hC.1.2.1 dX9_init_52 rfl (lv_at hl 0 rfl) ?_
  refine lv_sipush (v := 1200) hC.1.1 hC.1.2.1 dX9_init_53 (by decide +kernel) ?_
  refine rc_int (N := 1200) (n := n + 6) hC hL hS (by decide +kernel) (by decide +kernel) (by decide +kernel) (len9 hx5 rfl) (Nat.le_of_ble_eq_true rfl) (Nat.le_of_ble_eq_true rfl) dX9_init_56 (fun H hL hS => ?_)
  obtain ⟨xs6, hL, hx6, hX6⟩ := grow9 hL hx5
  refine rc_put (k := 0) (ci := 9) (fs := fs6) (v := .ref (n + 6)) hC hL hS hin2 rfl fX9_29 rfl rfl rfl (by rw [hf6]; decide) rfl dX9_init_58 (fun H locs hL hS => ?_)
  obtain ⟨fs7, hL, hf7, hF7⟩ := put9 hL hf6
  refine lv_aload_n hC.1.1 hC.1.2.1 dX9_init_61 rfl (lv_at hl 0 rfl) ?_
  refine lv_bipush (v := 20) hC.1.1 hC.1.2.1 dX9_init_62 (by decide +kernel) ?_
  refine rc_long (N := 20) (n := n + 7) hC hL hS (by decide +kernel) (by decide +kernel) (by decide +kernel) (len9 hx6 rfl) (Nat.le_of_ble_eq_true rfl) (Nat.le_of_ble_eq_true rfl) dX9_init_64 (fun H hL hS => ?_)
  obtain ⟨xs7, hL, hx7, hX7⟩ := grow9 hL hx6
  refine rc_put (k := 0) (ci := 9) (fs := fs7) (v := .ref (n + 7)) hC hL hS hin2 rfl fX9_32 rfl rfl rfl (by rw [hf7]; decide) rfl dX9_init_66 (fun H locs hL hS => ?_)
  obtain ⟨fs8, hL, hf8, hF8⟩ := put9 hL hf7
  refine lv_aload_n hC.1.1 hC.1.2.1 dX9_init_69 rfl (lv_at hl 0 rfl) ?_
  refine lv_bipush (v := 60) hC.1.1 hC.1.2.1 dX9_init_70 (by decide +kernel) ?_
  refine rc_int (N := 60) (n := n + 8) hC hL hS (by decide +kernel) (by decide +kernel) (by decide +kernel) (len9 hx7 rfl) (Nat.le_of_ble_eq_true rfl) (Nat.le_of_ble_eq_true rfl) dX9_init_72 (fun H hL hS => ?_)
  obtain ⟨xs8, hL, hx8, hX8⟩ := grow9 hL hx7
  refine rc_put (k := 0) (ci := 9) (fs := fs8) (v := .ref (n + 8)) hC hL hS hin2 rfl fX9_36 rfl rfl rfl (by rw [hf8]; decide) rfl dX9_init_74 (fun H locs hL hS => ?_)
  obtain ⟨fs9, hL, hf9, hF9⟩ := put9 hL hf8
  refine lv_aload_n hC.1.1 hC.1.2.1 dX9_init_77 rfl (lv_at hl 0 rfl) ?_
  refine lv_bipush (v := 60) hC.1.1 hC.1.2.1 dX9_init_78 (by decide +kernel) ?_
  refine rc_int (N := 60) (n := n + 9) hC hL hS (by decide +kernel) (by decide +kernel) (by decide +kernel) (len9 hx8 rfl) (Nat.le_of_ble_eq_true rfl) (Nat.le_of_ble_eq_true rfl) dX9_init_80 (fun H hL hS => ?_)
  obtain ⟨xs9, hL, hx9, hX9⟩ := grow9 hL hx8
  refine rc_put (k := 0) (ci := 9) (fs := fs9) (v := .ref (n + 9)) hC hL hS hin2 rfl fX9_39 rfl rfl rfl (by rw [hf9]; decide) rfl dX9_init_82 (fun H locs hL hS => ?_)
  obtain ⟨fs10, hL, hf10, hF10⟩ := put9 hL hf9
  refine lv_aload_n hC.1.1 hC.1.2.1 dX9_init_85 rfl (lv_at hl 0 rfl) ?_
  refine lv_bipush (v := 60) hC.1.1 hC.1.2.1 dX9_init_86 (by decide +kernel) ?_
  refine rc_long (N := 60) (n := n + 10) hC hL hS (by decide +kernel) (by decide +kernel) (by decide +kernel) (len9 hx9 rfl) (Nat.le_of_ble_eq_true rfl) (Nat.le_of_ble_eq_true rfl) dX9_init_88 (fun H hL hS => ?_)
  obtain ⟨xs10, hL, hx10, hX10⟩ := grow9 hL hx9
  refine rc_put (k := 0) (ci := 9) (fs := fs10) (v := .ref (n + 10)) hC hL hS hin2 rfl fX9_42 rfl rfl rfl (by rw [hf10]; decide) rfl dX9_init_90 (fun H locs hL hS => ?_)
  obtain ⟨fs11, hL, hf11, hF11⟩ := put9 hL hf10
  refine lv_aload_n hC.1.1 hC.1.2.1 dX9_init_93 rfl (lv_at hl 0 rfl) ?_
  refine lv_sipush (v := 300) hC.1.1 hC.1.2.1 dX9_init_94 (by decide +kernel) ?_
  refine rc_int (N := 300) (n := n + 11) hC hL hS (by decide +kernel) (by decide +kernel) (by decide +kernel) (len9 hx10 rfl) (Nat.le_of_ble_eq_true rfl) (Nat.le_of_ble_eq_true rfl) dX9_init_97 (fun H hL hS => ?_)
  obtain ⟨xs11, hL, hx11, hX11⟩ := grow9 hL hx10
  refine rc_put (k := 0) (ci := 9) (fs := fs11) (v := .ref (n + 11)) hC hL hS hin2 rfl fX9_45 rfl rfl rfl (by rw [hf11]; decide) rfl dX9_init_99 (fun H locs hL hS => ?_)
  obtain ⟨fs12, hL, hf12, hF12⟩ := put9 hL hf11
  refine lv_aload_n hC.1.1 hC.1.2.1 dX9_init_102 rfl (lv_at hl 0 rfl) ?_
  refine lv_sipush (v := 300) hC.1.1 hC.1.2.1 dX9_init_103 (by decide +kernel) ?_
  refine rc_int (N := 300) (n := n + 12) hC hL hS (by decide +kernel) (by decide +kernel) (by decide +kernel) (len9 hx11 rfl) (Nat.le_of_ble_eq_true rfl) (Nat.le_of_ble_eq_true rfl) dX9_init_106 (fun H hL hS => ?_)
  obtain ⟨xs12, hL, hx12, hX12⟩ := grow9 hL hx11
  refine rc_put (k := 0) (ci := 9) (fs := fs12) (v := .ref (n + 12)) hC hL hS hin2 rfl fX9_48 rfl rfl rfl (by rw [hf12]; decide) rfl dX9_init_108 (fun H locs hL hS => ?_)
  obtain ⟨fs13, hL, hf13, hF13⟩ := put9 hL hf12
  refine lv_aload_n hC.1.1 hC.1.2.1 dX9_init_111 rfl (lv_at hl 0 rfl) ?_
  refine lv_sipush (v := 300) hC.1.1 hC.1.2.1 dX9_init_112 (by decide +kernel) ?_
  refine rc_int (N := 300) (n := n + 13) hC hL hS (by decide +kernel) (by decide +kernel) (by decide +kernel) (len9 hx12 rfl) (Nat.le_of_ble_eq_true rfl) (Nat.le_of_ble_eq_true rfl) dX9_init_115 (fun H hL hS => ?_)
  obtain ⟨xs13, hL, hx13, hX13⟩ := grow9 hL hx12
  refine rc_put (k := 0) (ci := 9) (fs := fs13) (v := .ref (n + 13)) hC hL hS hin2 rfl fX9_51 rfl rfl rfl (by rw [hf13]; decide) rfl dX9_init_117 (fun H locs hL hS => ?_)
  obtain ⟨fs14, hL, hf14, hF14⟩ := put9 hL hf13
  refine lv_aload_n hC.1.1 hC.1.2.1 dX9_init_120 rfl (lv_at hl 0 rfl) ?_
  refine lv_sipush (v := 300) hC.1.1 hC.1.2.1 dX9_init_121 (by decide +kernel) ?_
  refine rc_int (N := 300) (n := n + 14) hC hL hS (by decide +kernel) (by decide +kernel) (by decide +kernel) (len9 hx13 rfl) (Nat.le_of_ble_eq_true rfl) (Nat.le_of_ble_eq_true rfl) dX9_init_124 (fun H hL hS => ?_)
  obtain ⟨xs14, hL, hx14, hX14⟩ := grow9 hL hx13
  refine rc_put (k := 0) (ci := 9) (fs := fs14) (v := .ref (n + 14)) hC hL hS hin2 rfl fX9_54 rfl rfl rfl (by rw [hf14]; decide) rfl dX9_init_126 (fun H locs hL hS => ?_)
  obtain ⟨fs15, hL, hf15, hF15⟩ := put9 hL hf14
  refine lv_aload_n hC.1.1 hC.1.2.1 dX9_init_129 rfl (lv_at hl 0 rfl) ?_
  refine lv_sipush (v := 300) hC.1.1 hC.1.2.1 dX9_init_130 (by decide +kernel) ?_
  refine rc_bool (N := 300) (n := n + 15) hC hL hS (by decide +kernel) (by decide +kernel) (by decide +kernel) (len9 hx14 rfl) (Nat.le_of_ble_eq_true rfl) (Nat.le_of_ble_eq_true rfl) dX9_init_133 (fun H hL hS => ?_)
  obtain ⟨xs15, hL, hx15, hX15⟩ := grow9 hL hx14
  refine rc_put (k := 0) (ci := 9) (fs := fs15) (v := .ref (n + 15)) hC hL hS hin2 rfl fX9_57 rfl rfl rfl (by rw [hf15]; decide) rfl dX9_init_135 (fun H locs hL hS => ?_)
  obtain ⟨fs16, hL, hf16, hF16⟩ := put9 hL hf15
  refine lv_aload_n hC.1.1 hC.1.2.1 dX9_init_138 rfl (lv_at hl 0 rfl) ?_
  refine lv_sipush (v := 300) hC.1.1 hC.1.2.1 dX9_init_139 (by decide +kernel) ?_
  refine rc_bool (N := 300) (n := n + 16) hC hL hS (by decide +kernel) (by decide +kernel) (by decide +kernel) (len9 hx15 rfl) (Nat.le_of_ble_eq_true rfl) (Nat.le_of_ble_eq_true rfl) dX9_init_142 (fun H hL hS => ?_)
  obtain ⟨xs16, hL, hx16, hX16⟩ := grow9 hL hx15
  refine rc_put (k := 0) (ci := 9) (fs := fs16) (v := .ref (n + 16)) hC hL hS hin2 rfl fX9_61 rfl rfl rfl (by rw [hf16]; decide) rfl dX9_init_144 (fun H locs hL hS => ?_)
  obtain ⟨fs17, hL, hf17, hF17⟩ := put9 hL hf16
  refine lv_aload_n hC.1.1 hC.1.2.1 dX9_init_147 rfl (lv_at hl 0 rfl) ?_
  refine lv_iconst (v := 5) hC.1.1 hC.1.2.1 dX9_init_148 (by decide +kernel) ?_
  refine rc_int (N := 5) (n := n + 17) hC hL hS (by decide +kernel) (by decide +kernel) (by decide +kernel) (len9 hx16 rfl) (Nat.le_of_ble_eq_true rfl) (Nat.le_of_ble_eq_true rfl) dX9_init_149 (fun H hL hS => ?_)
  obtain ⟨xs17, hL, hx17, hX17⟩ := grow9 hL hx16
  refine rc_put (k := 0) (ci := 9) (fs := fs17) (v := .ref (n + 17)) hC hL hS hin2 rfl fX9_64 rfl rfl rfl (by rw [hf17]; decide) rfl dX9_init_151 (fun H locs hL hS => ?_)
  obtain ⟨fs18, hL, hf18, hF18⟩ := put9 hL hf17
  refine lv_aload_n hC.1.1 hC.1.2.1 dX9_init_154 rfl (lv_at hl 0 rfl) ?_
  refine lv_iconst (v := 5) hC.1.1 hC.1.2.1 dX9_init_155 (by decide +kernel) ?_
  refine rc_int (N := 5) (n := n + 18) hC hL hS (by decide +kernel) (by decide +kernel) (by decide +kernel) (len9 hx17 rfl) (Nat.le_of_ble_eq_true rfl) (Nat.le_of_ble_eq_true rfl) dX9_init_156 (fun H hL hS => ?_)
  obtain ⟨xs18, hL, hx18, hX18⟩ := grow9 hL hx17
  refine rc_put (k := 0) (ci := 9) (fs := fs18) (v := .ref (n + 18)) hC hL hS hin2 rfl fX9_67 rfl rfl rfl (by rw [hf18]; decide) rfl dX9_init_158 (fun H locs hL hS => ?_)
  obtain ⟨fs19, hL, hf19, hF19⟩ := put9 hL hf18
  refine lv_aload_n hC.1.1 hC.1.2.1 dX9_init_161 rfl (lv_at hl 0 rfl) ?_
  refine lv_bipush (v := 10) hC.1.1 hC.1.2.1 dX9_init_162 (by decide +kernel) ?_
  refine rc_int (N := 10) (n := n + 19) hC hL hS (by decide +kernel) (by decide +kernel) (by decide +kernel) (len9 hx18 rfl) (Nat.le_of_ble_eq_true rfl) (Nat.le_of_ble_eq_true rfl) dX9_init_164 (fun H hL hS => ?_)
  obtain ⟨xs19, hL, hx19, hX19⟩ := grow9 hL hx18
  refine rc_put (k := 0) (ci := 9) (fs := fs19) (v := .ref (n + 19)) hC hL hS hin2 rfl fX9_70 rfl rfl rfl (by rw [hf19]; decide) rfl dX9_init_166 (fun H locs hL hS => ?_)
  obtain ⟨fs20, hL, hf20, hF20⟩ := put9 hL hf19
  refine lv_aload_n hC.1.1 hC.1.2.1 dX9_init_169 rfl (lv_at hl 0 rfl) ?_
  refine lv_bipush (v := 6) hC.1.1 hC.1.2.1 dX9_init_170 (by decide +kernel) ?_
  refine rc_int (N := 6) (n := n + 20) hC hL hS (by decide +kernel) (by decide +kernel) (by decide +kernel) (len9 hx19 rfl) (Nat.le_of_ble_eq_true rfl) (Nat.le_of_ble_eq_true rfl) dX9_init_172 (fun H hL hS => ?_)
  obtain ⟨xs20, hL, hx20, hX20⟩ := grow9 hL hx19
  refine rc_put (k := 0) (ci := 9) (fs := fs20) (v := .ref (n + 20)) hC hL hS hin2 rfl fX9_73 rfl rfl rfl (by rw [hf20]; decide) rfl dX9_init_174 (fun H locs hL hS => ?_)
  obtain ⟨fs21, hL, hf21, hF21⟩ := put9 hL hf20
  refine lv_aload_n hC.1.1 hC.1.2.1 dX9_init_177 rfl (lv_at hl 0 rfl) ?_
  refine lv_bipush (v := 6) hC.1.1 hC.1.2.1 dX9_init_178 (by decide +kernel) ?_
  refine rc_int (N := 6) (n := n + 21) hC hL hS (by decide +kernel) (by decide +kernel) (by decide +kernel) (len9 hx20 rfl) (Nat.le_of_ble_eq_true rfl) (Nat.le_of_ble_eq_true rfl) dX9_init_180 (fun H hL hS => ?_)
  obtain ⟨xs21, hL, hx21, hX21⟩ := grow9 hL hx20
  refine rc_put (k := 0) (ci := 9) (fs := fs21) (v := .ref (n + 21)) hC hL hS hin2 rfl fX9_76 rfl rfl rfl (by rw [hf21]; decide) rfl dX9_init_182 (fun H locs hL hS => ?_)
  obtain ⟨fs22, hL, hf22, hF22⟩ := put9 hL hf21
  have hL : Lay D n (eX9 cy n) H := by
    rw [hX21, hX20, hX19, hX18, hX17, hX16, hX15, hX14, hX13, hX12, hX11, hX10, hX9, hX8, hX7, hX6, hX5, hX4, hX3, hX2, hX1, hF22, hF21, hF20, hF19, hF18, hF17, hF16, hF15, hF14, hF13, hF12, hF11, hF10, hF9, hF8, hF7, hF6, hF5, hF4, hF3, hF2, hF1, hF0] at hL
    exact hL
  refine W.wd (k := 21) (n := 5032) (Nat.le_of_ble_eq_true rfl) (Nat.le_of_ble_eq_true rfl) ?_
  exact ct9_end hn hC hr hlocks h8 hNW hSK hsz0 hl hL hS
