/-! The small constructors. -/
def eX0 (cy : Nat → ClassId) (n : Nat) : List va_E := .inr (0, zer 0) :: []
set_option maxRecDepth 20000 in
theorem ctX0 (l : Launch) (D : va_G) (cy : Nat → ClassId) (n : Nat) : Met l yX0_init (WSI yX0_init cX0_init 1) (rmI 1 0 0 30) (CtP D cy n [] 0) (CtQ D n (eX0 cy n)) 0 0 (fun q => n ≤ q) := by
  refine ct_met (by decide) rfl (Nat.le_of_ble_eq_true rfl) fun p e s m below meth c ls hC hr hlocks hin2 hL hl => ?_
  have hS : va_S (fun q => n ≤ q) s.heap s.heap [] := va_S.rf
  have hl : lv_has ls 1 [(0, .ref n)] := hl
  refine lv_aload_n hC.1.1 hC.1.2.1 dX0_init_0 rfl (lv_at hl 0 rfl) ?_
  refine rc_oi hC (inG1 rfl (List.mem_of_getElem? (i := 193) rfl)) hl.1 (Nat.le_of_ble_eq_true rfl) (Nat.le_of_ble_eq_true rfl) dX0_init_1 ?_
  refine W.wd (k := 0) (n := 0) (Nat.le_of_ble_eq_true rfl) (Nat.le_of_ble_eq_true rfl) ?_
  exact ct_ret hC hr hlocks hL hS dX0_init_4
def eX1 (cy : Nat → ClassId) (n : Nat) : List va_E := .inr (1, ((zer 1).set 1 (.ref (n + 1))).set 2 (.ref (n + 2))) :: (([] ++ [eI cy 6]) ++ [eI cy 6])
set_option maxRecDepth 20000 in
theorem ctX1 (l : Launch) (D : va_G) (cy : Nat → ClassId) (n : Nat) : Met l yX1_init (WSI yX1_init cX1_init 1) (rmI 1 2 12 30) (CtP D cy n [] 1) (CtQ D n (eX1 cy n)) 2 12 (fun q => n ≤ q) := by
  refine ct_met (by decide) rfl (Nat.le_of_ble_eq_true rfl) fun p e s m below meth c ls hC hr hlocks hin2 hL hl => ?_
  have hS : va_S (fun q => n ≤ q) s.heap s.heap [] := va_S.rf
  have hl : lv_has ls 1 [(0, .ref n)] := hl
  refine lv_aload_n hC.1.1 hC.1.2.1 dX1_init_0 rfl (lv_at hl 0 rfl) ?_
  refine rc_oi hC (inG1 rfl (List.mem_of_getElem? (i := 172) rfl)) hl.1 (Nat.le_of_ble_eq_true rfl) (Nat.le_of_ble_eq_true rfl) dX1_init_1 ?_
  refine lv_aload_n hC.1.1 hC.1.2.1 dX1_init_4 rfl (lv_at hl 0 rfl) ?_
  refine lv_bipush (v := 6) hC.1.1 hC.1.2.1 dX1_init_5 (by decide +kernel) ?_
  refine rc_int (N := 6) (n := (n + 1)) hC hL hS (by decide +kernel) (by decide +kernel) (by decide +kernel) rfl (Nat.le_of_ble_eq_true rfl) (Nat.le_of_ble_eq_true rfl) dX1_init_7 (fun H hL hS => ?_)
  have hL : Lay D n (.inr (1, zer 1) :: ([] ++ [eI cy 6])) H := hL
  refine rc_put (k := 0) (ci := 1) (fs := zer 1) (v := .ref (n + 1)) hC hL hS hin2 rfl fX1_9 rfl rfl rfl (Nat.le_of_ble_eq_true rfl) rfl dX1_init_9 (fun H locs hL hS => ?_)
  have hL : Lay D n (.inr (1, (zer 1).set 1 (.ref (n + 1))) :: ([] ++ [eI cy 6])) H := hL
  refine lv_aload_n hC.1.1 hC.1.2.1 dX1_init_12 rfl (lv_at hl 0 rfl) ?_
  refine lv_bipush (v := 6) hC.1.1 hC.1.2.1 dX1_init_13 (by decide +kernel) ?_
  refine rc_int (N := 6) (n := (n + 2)) hC hL hS (by decide +kernel) (by decide +kernel) (by decide +kernel) rfl (Nat.le_of_ble_eq_true rfl) (Nat.le_of_ble_eq_true rfl) dX1_init_15 (fun H hL hS => ?_)
  have hL : Lay D n (.inr (1, (zer 1).set 1 (.ref (n + 1))) :: (([] ++ [eI cy 6]) ++ [eI cy 6])) H := hL
  refine rc_put (k := 0) (ci := 1) (fs := (zer 1).set 1 (.ref (n + 1))) (v := .ref (n + 2)) hC hL hS hin2 rfl fX1_15 rfl rfl rfl (Nat.le_of_ble_eq_true rfl) rfl dX1_init_17 (fun H locs hL hS => ?_)
  have hL : Lay D n (.inr (1, ((zer 1).set 1 (.ref (n + 1))).set 2 (.ref (n + 2))) :: (([] ++ [eI cy 6]) ++ [eI cy 6])) H := hL
  refine W.wd (k := 2) (n := 12) (Nat.le_of_ble_eq_true rfl) (Nat.le_of_ble_eq_true rfl) ?_
  exact ct_ret hC hr hlocks hL hS dX1_init_20
def eX2 (cy : Nat → ClassId) (n : Nat) : List va_E := .inr (2, ((((((((((zer 2).set 4 (.ref (n + 1))).set 5 (.ref (n + 2))).set 6 (.ref (n + 3))).set 7 (.ref (n + 14))).set 8 (.ref (n + 25))).set 9 (.ref (n + 26))).set 10 (.ref (n + 27))).set 11 (.ref (n + 28))).set 12 (.ref (n + 29))).set 13 (.ref (n + 30))) :: (((((((((([] ++ [eI cy 10]) ++ [eI cy 10]) ++ eG cy (n + 3) 10 10) ++ eG cy (n + 14) 10 10) ++ [eI cy 21]) ++ [eI cy 60]) ++ [eI cy 60]) ++ [eI cy 60]) ++ [eI cy 60]) ++ [eI cy 60])
set_option maxRecDepth 20000 in
theorem ctX2 (l : Launch) (D : va_G) (cy : Nat → ClassId) (n : Nat) : Met l yX2_init (WSI yX2_init cX2_init 1) (rmI 1 30 561 30) (CtP D cy n [] 2) (CtQ D n (eX2 cy n)) 30 561 (fun q => n ≤ q) := by
  refine ct_met (by decide) rfl (Nat.le_of_ble_eq_true rfl) fun p e s m below meth c ls hC hr hlocks hin2 hL hl => ?_
  have hS : va_S (fun q => n ≤ q) s.heap s.heap [] := va_S.rf
  have hl : lv_has ls 1 [(0, .ref n)] := hl
  refine lv_aload_n hC.1.1 hC.1.2.1 dX2_init_0 rfl (lv_at hl 0 rfl) ?_
  refine rc_oi hC (inG1 rfl (List.mem_of_getElem? (i := 216) rfl)) hl.1 (Nat.le_of_ble_eq_true rfl) (Nat.le_of_ble_eq_true rfl) dX2_init_1 ?_
  refine lv_aload_n hC.1.1 hC.1.2.1 dX2_init_4 rfl (lv_at hl 0 rfl) ?_
  refine lv_bipush (v := 10) hC.1.1 hC.1.2.1 dX2_init_5 (by decide +kernel) ?_
  refine rc_int (N := 10) (n := (n + 1)) hC hL hS (by decide +kernel) (by decide +kernel) (by decide +kernel) rfl (Nat.le_of_ble_eq_true rfl) (Nat.le_of_ble_eq_true rfl) dX2_init_7 (fun H hL hS => ?_)
  have hL : Lay D n (.inr (2, zer 2) :: ([] ++ [eI cy 10])) H := hL
  refine rc_put (k := 0) (ci := 2) (fs := zer 2) (v := .ref (n + 1)) hC hL hS hin2 rfl fX2_9 rfl rfl rfl (Nat.le_of_ble_eq_true rfl) rfl dX2_init_9 (fun H locs hL hS => ?_)
  have hL : Lay D n (.inr (2, (zer 2).set 4 (.ref (n + 1))) :: ([] ++ [eI cy 10])) H := hL
  refine lv_aload_n hC.1.1 hC.1.2.1 dX2_init_12 rfl (lv_at hl 0 rfl) ?_
  refine lv_bipush (v := 10) hC.1.1 hC.1.2.1 dX2_init_13 (by decide +kernel) ?_
  refine rc_int (N := 10) (n := (n + 2)) hC hL hS (by decide +kernel) (by decide +kernel) (by decide +kernel) rfl (Nat.le_of_ble_eq_true rfl) (Nat.le_of_ble_eq_true rfl) dX2_init_15 (fun H hL hS => ?_)
  have hL : Lay D n (.inr (2, (zer 2).set 4 (.ref (n + 1))) :: (([] ++ [eI cy 10]) ++ [eI cy 10])) H := hL
  refine rc_put (k := 0) (ci := 2) (fs := (zer 2).set 4 (.ref (n + 1))) (v := .ref (n + 2)) hC hL hS hin2 rfl fX2_15 rfl rfl rfl (Nat.le_of_ble_eq_true rfl) rfl dX2_init_17 (fun H locs hL hS => ?_)
  have hL : Lay D n (.inr (2, ((zer 2).set 4 (.ref (n + 1))).set 5 (.ref (n + 2))) :: (([] ++ [eI cy 10]) ++ [eI cy 10])) H := hL
  refine lv_aload_n hC.1.1 hC.1.2.1 dX2_init_20 rfl (lv_at hl 0 rfl) ?_
  refine lv_bipush (v := 10) hC.1.1 hC.1.2.1 dX2_init_21 (by decide +kernel) ?_
  refine lv_bipush (v := 10) hC.1.1 hC.1.2.1 dX2_init_23 (by decide +kernel) ?_
  refine rc_mna (N := 10) (K := 10) (n := (n + 3)) hC hL hS (inG1 rfl (List.mem_of_getElem? (i := 217) rfl)) (by decide +kernel) (by decide +kernel) (by decide +kernel) (by decide +kernel) (by decide +kernel) (by decide +kernel) rfl (Nat.le_of_ble_eq_true rfl) (Nat.le_of_ble_eq_true rfl) dX2_init_25 (fun H hL hS => ?_)
  have hL : Lay D n (.inr (2, ((zer 2).set 4 (.ref (n + 1))).set 5 (.ref (n + 2))) :: ((([] ++ [eI cy 10]) ++ [eI cy 10]) ++ eG cy (n + 3) 10 10)) H := hL
  refine rc_put (k := 0) (ci := 2) (fs := ((zer 2).set 4 (.ref (n + 1))).set 5 (.ref (n + 2))) (v := .ref (n + 3)) hC hL hS hin2 rfl fX2_20 rfl rfl rfl (Nat.le_of_ble_eq_true rfl) rfl dX2_init_29 (fun H locs hL hS => ?_)
  have hL : Lay D n (.inr (2, (((zer 2).set 4 (.ref (n + 1))).set 5 (.ref (n + 2))).set 6 (.ref (n + 3))) :: ((([] ++ [eI cy 10]) ++ [eI cy 10]) ++ eG cy (n + 3) 10 10)) H := hL
  refine lv_aload_n hC.1.1 hC.1.2.1 dX2_init_32 rfl (lv_at hl 0 rfl) ?_
  refine lv_bipush (v := 10) hC.1.1 hC.1.2.1 dX2_init_33 (by decide +kernel) ?_
  refine lv_bipush (v := 10) hC.1.1 hC.1.2.1 dX2_init_35 (by decide +kernel) ?_
  refine rc_mna (N := 10) (K := 10) (n := (n + 14)) hC hL hS (inG1 rfl (List.mem_of_getElem? (i := 217) rfl)) (by decide +kernel) (by decide +kernel) (by decide +kernel) (by decide +kernel) (by decide +kernel) (by decide +kernel) rfl (Nat.le_of_ble_eq_true rfl) (Nat.le_of_ble_eq_true rfl) dX2_init_37 (fun H hL hS => ?_)
  have hL : Lay D n (.inr (2, (((zer 2).set 4 (.ref (n + 1))).set 5 (.ref (n + 2))).set 6 (.ref (n + 3))) :: (((([] ++ [eI cy 10]) ++ [eI cy 10]) ++ eG cy (n + 3) 10 10) ++ eG cy (n + 14) 10 10)) H := hL
  refine rc_put (k := 0) (ci := 2) (fs := (((zer 2).set 4 (.ref (n + 1))).set 5 (.ref (n + 2))).set 6 (.ref (n + 3))) (v := .ref (n + 14)) hC hL hS hin2 rfl fX2_23 rfl rfl rfl (Nat.le_of_ble_eq_true rfl) rfl dX2_init_41 (fun H locs hL hS => ?_)
  have hL : Lay D n (.inr (2, ((((zer 2).set 4 (.ref (n + 1))).set 5 (.ref (n + 2))).set 6 (.ref (n + 3))).set 7 (.ref (n + 14))) :: (((([] ++ [eI cy 10]) ++ [eI cy 10]) ++ eG cy (n + 3) 10 10) ++ eG cy (n + 14) 10 10)) H := hL
  refine lv_aload_n hC.1.1 hC.1.2.1 dX2_init_44 rfl (lv_at hl 0 rfl) ?_
  refine lv_bipush (v := 21) hC.1.1 hC.1.2.1 dX2_init_45 (by decide +kernel) ?_
  refine rc_int (N := 21) (n := (n + 25)) hC hL hS (by decide +kernel) (by decide +kernel) (by decide +kernel) rfl (Nat.le_of_ble_eq_true rfl) (Nat.le_of_ble_eq_true rfl) dX2_init_47 (fun H hL hS => ?_)
  have hL : Lay D n (.inr (2, ((((zer 2).set 4 (.ref (n + 1))).set 5 (.ref (n + 2))).set 6 (.ref (n + 3))).set 7 (.ref (n + 14))) :: ((((([] ++ [eI cy 10]) ++ [eI cy 10]) ++ eG cy (n + 3) 10 10) ++ eG cy (n + 14) 10 10) ++ [eI cy 21])) H := hL
  refine rc_put (k := 0) (ci := 2) (fs := ((((zer 2).set 4 (.ref (n + 1))).set 5 (.ref (n + 2))).set 6 (.ref (n + 3))).set 7 (.ref (n + 14))) (v := .ref (n + 25)) hC hL hS hin2 rfl fX2_26 rfl rfl rfl (Nat.le_of_ble_eq_true rfl) rfl dX2_init_49 (fun H locs hL hS => ?_)
  have hL : Lay D n (.inr (2, (((((zer 2).set 4 (.ref (n + 1))).set 5 (.ref (n + 2))).set 6 (.ref (n + 3))).set 7 (.ref (n + 14))).set 8 (.ref (n + 25))) :: ((((([] ++ [eI cy 10]) ++ [eI cy 10]) ++ eG cy (n + 3) 10 10) ++ eG cy (n + 14) 10 10) ++ [eI cy 21])) H := hL
  refine lv_aload_n hC.1.1 hC.1.2.1 dX2_init_52 rfl (lv_at hl 0 rfl) ?_
  refine lv_bipush (v := 60) hC.1.1 hC.1.2.1 dX2_init_53 (by decide +kernel) ?_
  refine rc_int (N := 60) (n := (n + 26)) hC hL hS (by decide +kernel) (by decide +kernel) (by decide +kernel) rfl (Nat.le_of_ble_eq_true rfl) (Nat.le_of_ble_eq_true rfl) dX2_init_55 (fun H hL hS => ?_)
  have hL : Lay D n (.inr (2, (((((zer 2).set 4 (.ref (n + 1))).set 5 (.ref (n + 2))).set 6 (.ref (n + 3))).set 7 (.ref (n + 14))).set 8 (.ref (n + 25))) :: (((((([] ++ [eI cy 10]) ++ [eI cy 10]) ++ eG cy (n + 3) 10 10) ++ eG cy (n + 14) 10 10) ++ [eI cy 21]) ++ [eI cy 60])) H := hL
  refine rc_put (k := 0) (ci := 2) (fs := (((((zer 2).set 4 (.ref (n + 1))).set 5 (.ref (n + 2))).set 6 (.ref (n + 3))).set 7 (.ref (n + 14))).set 8 (.ref (n + 25))) (v := .ref (n + 26)) hC hL hS hin2 rfl fX2_29 rfl rfl rfl (Nat.le_of_ble_eq_true rfl) rfl dX2_init_57 (fun H locs hL hS => ?_)
  have hL : Lay D n (.inr (2, ((((((zer 2).set 4 (.ref (n + 1))).set 5 (.ref (n + 2))).set 6 (.ref (n + 3))).set 7 (.ref (n + 14))).set 8 (.ref (n + 25))).set 9 (.ref (n + 26))) :: (((((([] ++ [eI cy 10]) ++ [eI cy 10]) ++ eG cy (n + 3) 10 10) ++ eG cy (n + 14) 10 10) ++ [eI cy 21]) ++ [eI cy 60])) H := hL
  refine lv_aload_n hC.1.1 hC.1.2.1 dX2_init_60 rfl (lv_at hl 0 rfl) ?_
  refine lv_bipush (v := 60) hC.1.1 hC.1.2.1 dX2_init_61 (by decide +kernel) ?_
  refine rc_int (N := 60) (n := (n + 27)) hC hL hS (by decide +kernel) (by decide +kernel) (by decide +kernel) rfl (Nat.le_of_ble_eq_true rfl) (Nat.le_of_ble_eq_true rfl) dX2_init_63 (fun H hL hS => ?_)
  have hL : Lay D n (.inr (2, ((((((zer 2).set 4 (.ref (n + 1))).set 5 (.ref (n + 2))).set 6 (.ref (n + 3))).set 7 (.ref (n + 14))).set 8 (.ref (n + 25))).set 9 (.ref (n + 26))) :: ((((((([] ++ [eI cy 10]) ++ [eI cy 10]) ++ eG cy (n + 3) 10 10) ++ eG cy (n + 14) 10 10) ++ [eI cy 21]) ++ [eI cy 60]) ++ [eI cy 60])) H := hL
  refine rc_put (k := 0) (ci := 2) (fs := ((((((zer 2).set 4 (.ref (n + 1))).set 5 (.ref (n + 2))).set 6 (.ref (n + 3))).set 7 (.ref (n + 14))).set 8 (.ref (n + 25))).set 9 (.ref (n + 26))) (v := .ref (n + 27)) hC hL hS hin2 rfl fX2_32 rfl rfl rfl (Nat.le_of_ble_eq_true rfl) rfl dX2_init_65 (fun H locs hL hS => ?_)
  have hL : Lay D n (.inr (2, (((((((zer 2).set 4 (.ref (n + 1))).set 5 (.ref (n + 2))).set 6 (.ref (n + 3))).set 7 (.ref (n + 14))).set 8 (.ref (n + 25))).set 9 (.ref (n + 26))).set 10 (.ref (n + 27))) :: ((((((([] ++ [eI cy 10]) ++ [eI cy 10]) ++ eG cy (n + 3) 10 10) ++ eG cy (n + 14) 10 10) ++ [eI cy 21]) ++ [eI cy 60]) ++ [eI cy 60])) H := hL
  refine lv_aload_n hC.1.1 hC.1.2.1 dX2_init_68 rfl (lv_at hl 0 rfl) ?_
  refine lv_bipush (v := 60) hC.1.1 hC.1.2.1 dX2_init_69 (by decide +kernel) ?_
  refine rc_int (N := 60) (n := (n + 28)) hC hL hS (by decide +kernel) (by decide +kernel) (by decide +kernel) rfl (Nat.le_of_ble_eq_true rfl) (Nat.le_of_ble_eq_true rfl) dX2_init_71 (fun H hL hS => ?_)
  have hL : Lay D n (.inr (2, (((((((zer 2).set 4 (.ref (n + 1))).set 5 (.ref (n + 2))).set 6 (.ref (n + 3))).set 7 (.ref (n + 14))).set 8 (.ref (n + 25))).set 9 (.ref (n + 26))).set 10 (.ref (n + 27))) :: (((((((([] ++ [eI cy 10]) ++ [eI cy 10]) ++ eG cy (n + 3) 10 10) ++ eG cy (n + 14) 10 10) ++ [eI cy 21]) ++ [eI cy 60]) ++ [eI cy 60]) ++ [eI cy 60])) H := hL
  refine rc_put (k := 0) (ci := 2) (fs := (((((((zer 2).set 4 (.ref (n + 1))).set 5 (.ref (n + 2))).set 6 (.ref (n + 3))).set 7 (.ref (n + 14))).set 8 (.ref (n + 25))).set 9 (.ref (n + 26))).set 10 (.ref (n + 27))) (v := .ref (n + 28)) hC hL hS hin2 rfl fX2_35 rfl rfl rfl (Nat.le_of_ble_eq_true rfl) rfl dX2_init_73 (fun H locs hL hS => ?_)
  have hL : Lay D n (.inr (2, ((((((((zer 2).set 4 (.ref (n + 1))).set 5 (.ref (n + 2))).set 6 (.ref (n + 3))).set 7 (.ref (n + 14))).set 8 (.ref (n + 25))).set 9 (.ref (n + 26))).set 10 (.ref (n + 27))).set 11 (.ref (n + 28))) :: (((((((([] ++ [eI cy 10]) ++ [eI cy 10]) ++ eG cy (n + 3) 10 10) ++ eG cy (n + 14) 10 10) ++ [eI cy 21]) ++ [eI cy 60]) ++ [eI cy 60]) ++ [eI cy 60])) H := hL
  refine lv_aload_n hC.1.1 hC.1.2.1 dX2_init_76 rfl (lv_at hl 0 rfl) ?_
  refine lv_bipush (v := 60) hC.1.1 hC.1.2.1 dX2_init_77 (by decide +kernel) ?_
  refine rc_int (N := 60) (n := (n + 29)) hC hL hS (by decide +kernel) (by decide +kernel) (by decide +kernel) rfl (Nat.le_of_ble_eq_true rfl) (Nat.le_of_ble_eq_true rfl) dX2_init_79 (fun H hL hS => ?_)
  have hL : Lay D n (.inr (2, ((((((((zer 2).set 4 (.ref (n + 1))).set 5 (.ref (n + 2))).set 6 (.ref (n + 3))).set 7 (.ref (n + 14))).set 8 (.ref (n + 25))).set 9 (.ref (n + 26))).set 10 (.ref (n + 27))).set 11 (.ref (n + 28))) :: ((((((((([] ++ [eI cy 10]) ++ [eI cy 10]) ++ eG cy (n + 3) 10 10) ++ eG cy (n + 14) 10 10) ++ [eI cy 21]) ++ [eI cy 60]) ++ [eI cy 60]) ++ [eI cy 60]) ++ [eI cy 60])) H := hL
  refine rc_put (k := 0) (ci := 2) (fs := ((((((((zer 2).set 4 (.ref (n + 1))).set 5 (.ref (n + 2))).set 6 (.ref (n + 3))).set 7 (.ref (n + 14))).set 8 (.ref (n + 25))).set 9 (.ref (n + 26))).set 10 (.ref (n + 27))).set 11 (.ref (n + 28))) (v := .ref (n + 29)) hC hL hS hin2 rfl fX2_38 rfl rfl rfl (Nat.le_of_ble_eq_true rfl) rfl dX2_init_81 (fun H locs hL hS => ?_)
  have hL : Lay D n (.inr (2, (((((((((zer 2).set 4 (.ref (n + 1))).set 5 (.ref (n + 2))).set 6 (.ref (n + 3))).set 7 (.ref (n + 14))).set 8 (.ref (n + 25))).set 9 (.ref (n + 26))).set 10 (.ref (n + 27))).set 11 (.ref (n + 28))).set 12 (.ref (n + 29))) :: ((((((((([] ++ [eI cy 10]) ++ [eI cy 10]) ++ eG cy (n + 3) 10 10) ++ eG cy (n + 14) 10 10) ++ [eI cy 21]) ++ [eI cy 60]) ++ [eI cy 60]) ++ [eI cy 60]) ++ [eI cy 60])) H := hL
  refine lv_aload_n hC.1.1 hC.1.2.1 dX2_init_84 rfl (lv_at hl 0 rfl) ?_
  refine lv_bipush (v := 60) hC.1.1 hC.1.2.1 dX2_init_85 (by decide +kernel) ?_
  refine rc_int (N := 60) (n := (n + 30)) hC hL hS (by decide +kernel) (by decide +kernel) (by decide +kernel) rfl (Nat.le_of_ble_eq_true rfl) (Nat.le_of_ble_eq_true rfl) dX2_init_87 (fun H hL hS => ?_)
  have hL : Lay D n (.inr (2, (((((((((zer 2).set 4 (.ref (n + 1))).set 5 (.ref (n + 2))).set 6 (.ref (n + 3))).set 7 (.ref (n + 14))).set 8 (.ref (n + 25))).set 9 (.ref (n + 26))).set 10 (.ref (n + 27))).set 11 (.ref (n + 28))).set 12 (.ref (n + 29))) :: (((((((((([] ++ [eI cy 10]) ++ [eI cy 10]) ++ eG cy (n + 3) 10 10) ++ eG cy (n + 14) 10 10) ++ [eI cy 21]) ++ [eI cy 60]) ++ [eI cy 60]) ++ [eI cy 60]) ++ [eI cy 60]) ++ [eI cy 60])) H := hL
  refine rc_put (k := 0) (ci := 2) (fs := (((((((((zer 2).set 4 (.ref (n + 1))).set 5 (.ref (n + 2))).set 6 (.ref (n + 3))).set 7 (.ref (n + 14))).set 8 (.ref (n + 25))).set 9 (.ref (n + 26))).set 10 (.ref (n + 27))).set 11 (.ref (n + 28))).set 12 (.ref (n + 29))) (v := .ref (n + 30)) hC hL hS hin2 rfl fX2_41 rfl rfl rfl (Nat.le_of_ble_eq_true rfl) rfl dX2_init_89 (fun H locs hL hS => ?_)
  have hL : Lay D n (.inr (2, ((((((((((zer 2).set 4 (.ref (n + 1))).set 5 (.ref (n + 2))).set 6 (.ref (n + 3))).set 7 (.ref (n + 14))).set 8 (.ref (n + 25))).set 9 (.ref (n + 26))).set 10 (.ref (n + 27))).set 11 (.ref (n + 28))).set 12 (.ref (n + 29))).set 13 (.ref (n + 30))) :: (((((((((([] ++ [eI cy 10]) ++ [eI cy 10]) ++ eG cy (n + 3) 10 10) ++ eG cy (n + 14) 10 10) ++ [eI cy 21]) ++ [eI cy 60]) ++ [eI cy 60]) ++ [eI cy 60]) ++ [eI cy 60]) ++ [eI cy 60])) H := hL
  refine W.wd (k := 30) (n := 561) (Nat.le_of_ble_eq_true rfl) (Nat.le_of_ble_eq_true rfl) ?_
  exact ct_ret hC hr hlocks hL hS dX2_init_92
def eX3 (cy : Nat → ClassId) (n : Nat) : List va_E := .inr (3, ((((zer 3).set 0 (.ref (n + 1))).set 1 (.ref (n + 12))).set 2 (.ref (n + 23))).set 3 (.ref (n + 34))) :: (((([] ++ eG cy (n + 1) 10 300) ++ eG cy (n + 12) 10 300) ++ eG cy (n + 23) 10 300) ++ [eZ cy 10])
set_option maxRecDepth 20000 in
theorem ctX3 (l : Launch) (D : va_G) (cy : Nat → ClassId) (n : Nat) : Met l yX3_init (WSI yX3_init cX3_init 1) (rmI 1 34 9040 30) (CtP D cy n [] 3) (CtQ D n (eX3 cy n)) 34 9040 (fun q => n ≤ q) := by
  refine ct_met (by decide) rfl (Nat.le_of_ble_eq_true rfl) fun p e s m below meth c ls hC hr hlocks hin2 hL hl => ?_
  have hS : va_S (fun q => n ≤ q) s.heap s.heap [] := va_S.rf
  have hl : lv_has ls 1 [(0, .ref n)] := hl
  refine lv_aload_n hC.1.1 hC.1.2.1 dX3_init_0 rfl (lv_at hl 0 rfl) ?_
  refine rc_oi hC (inG1 rfl (List.mem_of_getElem? (i := 100) rfl)) hl.1 (Nat.le_of_ble_eq_true rfl) (Nat.le_of_ble_eq_true rfl) dX3_init_1 ?_
  refine lv_aload_n hC.1.1 hC.1.2.1 dX3_init_4 rfl (lv_at hl 0 rfl) ?_
  refine lv_bipush (v := 10) hC.1.1 hC.1.2.1 dX3_init_5 (by decide +kernel) ?_
  refine lv_sipush (v := 300) hC.1.1 hC.1.2.1 dX3_init_7 (by decide +kernel) ?_
  refine rc_mna (N := 10) (K := 300) (n := (n + 1)) hC hL hS (inG1 rfl (List.mem_of_getElem? (i := 101) rfl)) (by decide +kernel) (by decide +kernel) (by decide +kernel) (by decide +kernel) (by decide +kernel) (by decide +kernel) rfl (Nat.le_of_ble_eq_true rfl) (Nat.le_of_ble_eq_true rfl) dX3_init_10 (fun H hL hS => ?_)
  have hL : Lay D n (.inr (3, zer 3) :: ([] ++ eG cy (n + 1) 10 300)) H := hL
  refine rc_put (k := 0) (ci := 3) (fs := zer 3) (v := .ref (n + 1)) hC hL hS hin2 rfl fX3_11 rfl rfl rfl (Nat.le_of_ble_eq_true rfl) rfl dX3_init_14 (fun H locs hL hS => ?_)
  have hL : Lay D n (.inr (3, (zer 3).set 0 (.ref (n + 1))) :: ([] ++ eG cy (n + 1) 10 300)) H := hL
  refine lv_aload_n hC.1.1 hC.1.2.1 dX3_init_17 rfl (lv_at hl 0 rfl) ?_
  refine lv_bipush (v := 10) hC.1.1 hC.1.2.1 dX3_init_18 (by decide +kernel) ?_
  refine lv_sipush (v := 300) hC.1.1 hC.1.2.1 dX3_init_20 (by decide +kernel) ?_
  refine rc_mna (N := 10) (K := 300) (n := (n + 12)) hC hL hS (inG1 rfl (List.mem_of_getElem? (i := 101) rfl)) (by decide +kernel) (by decide +kernel) (by decide +kernel) (by decide +kernel) (by decide +kernel) (by decide +kernel) rfl (Nat.le_of_ble_eq_true rfl) (Nat.le_of_ble_eq_true rfl) dX3_init_23 (fun H hL hS => ?_)
  have hL : Lay D n (.inr (3, (zer 3).set 0 (.ref (n + 1))) :: (([] ++ eG cy (n + 1) 10 300) ++ eG cy (n + 12) 10 300)) H := hL
  refine rc_put (k := 0) (ci := 3) (fs := (zer 3).set 0 (.ref (n + 1))) (v := .ref (n + 12)) hC hL hS hin2 rfl fX3_16 rfl rfl rfl (Nat.le_of_ble_eq_true rfl) rfl dX3_init_27 (fun H locs hL hS => ?_)
  have hL : Lay D n (.inr (3, ((zer 3).set 0 (.ref (n + 1))).set 1 (.ref (n + 12))) :: (([] ++ eG cy (n + 1) 10 300) ++ eG cy (n + 12) 10 300)) H := hL
  refine lv_aload_n hC.1.1 hC.1.2.1 dX3_init_30 rfl (lv_at hl 0 rfl) ?_
  refine lv_bipush (v := 10) hC.1.1 hC.1.2.1 dX3_init_31 (by decide +kernel) ?_
  refine lv_sipush (v := 300) hC.1.1 hC.1.2.1 dX3_init_33 (by decide +kernel) ?_
  refine rc_mna (N := 10) (K := 300) (n := (n + 23)) hC hL hS (inG1 rfl (List.mem_of_getElem? (i := 101) rfl)) (by decide +kernel) (by decide +kernel) (by decide +kernel) (by decide +kernel) (by decide +kernel) (by decide +kernel) rfl (Nat.le_of_ble_eq_true rfl) (Nat.le_of_ble_eq_true rfl) dX3_init_36 (fun H hL hS => ?_)
  have hL : Lay D n (.inr (3, ((zer 3).set 0 (.ref (n + 1))).set 1 (.ref (n + 12))) :: ((([] ++ eG cy (n + 1) 10 300) ++ eG cy (n + 12) 10 300) ++ eG cy (n + 23) 10 300)) H := hL
  refine rc_put (k := 0) (ci := 3) (fs := ((zer 3).set 0 (.ref (n + 1))).set 1 (.ref (n + 12))) (v := .ref (n + 23)) hC hL hS hin2 rfl fX3_19 rfl rfl rfl (Nat.le_of_ble_eq_true rfl) rfl dX3_init_40 (fun H locs hL hS => ?_)
  have hL : Lay D n (.inr (3, (((zer 3).set 0 (.ref (n + 1))).set 1 (.ref (n + 12))).set 2 (.ref (n + 23))) :: ((([] ++ eG cy (n + 1) 10 300) ++ eG cy (n + 12) 10 300) ++ eG cy (n + 23) 10 300)) H := hL
  refine lv_aload_n hC.1.1 hC.1.2.1 dX3_init_43 rfl (lv_at hl 0 rfl) ?_
  refine lv_bipush (v := 10) hC.1.1 hC.1.2.1 dX3_init_44 (by decide +kernel) ?_
  refine rc_bool (N := 10) (n := (n + 34)) hC hL hS (by decide +kernel) (by decide +kernel) (by decide +kernel) rfl (Nat.le_of_ble_eq_true rfl) (Nat.le_of_ble_eq_true rfl) dX3_init_46 (fun H hL hS => ?_)
  have hL : Lay D n (.inr (3, (((zer 3).set 0 (.ref (n + 1))).set 1 (.ref (n + 12))).set 2 (.ref (n + 23))) :: (((([] ++ eG cy (n + 1) 10 300) ++ eG cy (n + 12) 10 300) ++ eG cy (n + 23) 10 300) ++ [eZ cy 10])) H := hL
  refine rc_put (k := 0) (ci := 3) (fs := (((zer 3).set 0 (.ref (n + 1))).set 1 (.ref (n + 12))).set 2 (.ref (n + 23))) (v := .ref (n + 34)) hC hL hS hin2 rfl fX3_22 rfl rfl rfl (Nat.le_of_ble_eq_true rfl) rfl dX3_init_48 (fun H locs hL hS => ?_)
  have hL : Lay D n (.inr (3, ((((zer 3).set 0 (.ref (n + 1))).set 1 (.ref (n + 12))).set 2 (.ref (n + 23))).set 3 (.ref (n + 34))) :: (((([] ++ eG cy (n + 1) 10 300) ++ eG cy (n + 12) 10 300) ++ eG cy (n + 23) 10 300) ++ [eZ cy 10])) H := hL
  refine W.wd (k := 34) (n := 9040) (Nat.le_of_ble_eq_true rfl) (Nat.le_of_ble_eq_true rfl) ?_
  exact ct_ret hC hr hlocks hL hS dX3_init_51
def eX4 (cy : Nat → ClassId) (n : Nat) : List va_E := .inr (4, (((((((((zer 4).set 3 (.ref (n + 1))).set 4 (.ref (n + 2))).set 5 (.ref (n + 3))).set 6 (.ref (n + 4))).set 8 (.ref (n + 5))).set 9 (.ref (n + 6))).set 10 (.ref (n + 7))).set 11 (.ref (n + 8))).set 12 (.ref (n + 9))) :: ((((((((([] ++ [eI cy 300]) ++ [eI cy 300]) ++ [eI cy 300]) ++ [eI cy 300]) ++ [eI cy 60]) ++ [eI cy 60]) ++ [eI cy 5]) ++ [eI cy 5]) ++ [eI cy 5])
set_option maxRecDepth 20000 in
theorem ctX4 (l : Launch) (D : va_G) (cy : Nat → ClassId) (n : Nat) : Met l yX4_init (WSI yX4_init cX4_init 1) (rmI 1 9 1335 30) (CtP D cy n [] 4) (CtQ D n (eX4 cy n)) 9 1335 (fun q => n ≤ q) := by
  refine ct_met (by decide) rfl (Nat.le_of_ble_eq_true rfl) fun p e s m below meth c ls hC hr hlocks hin2 hL hl => ?_
  have hS : va_S (fun q => n ≤ q) s.heap s.heap [] := va_S.rf
  have hl : lv_has ls 1 [(0, .ref n)] := hl
  refine lv_aload_n hC.1.1 hC.1.2.1 dX4_init_0 rfl (lv_at hl 0 rfl) ?_
  refine rc_oi hC (inG1 rfl (List.mem_of_getElem? (i := 125) rfl)) hl.1 (Nat.le_of_ble_eq_true rfl) (Nat.le_of_ble_eq_true rfl) dX4_init_1 ?_
  refine lv_aload_n hC.1.1 hC.1.2.1 dX4_init_4 rfl (lv_at hl 0 rfl) ?_
  refine lv_sipush (v := 300) hC.1.1 hC.1.2.1 dX4_init_5 (by decide +kernel) ?_
  refine rc_int (N := 300) (n := (n + 1)) hC hL hS (by decide +kernel) (by decide +kernel) (by decide +kernel) rfl (Nat.le_of_ble_eq_true rfl) (Nat.le_of_ble_eq_true rfl) dX4_init_8 (fun H hL hS => ?_)
  have hL : Lay D n (.inr (4, zer 4) :: ([] ++ [eI cy 300])) H := hL
  refine rc_put (k := 0) (ci := 4) (fs := zer 4) (v := .ref (n + 1)) hC hL hS hin2 rfl fX4_11 rfl rfl rfl (Nat.le_of_ble_eq_true rfl) rfl dX4_init_10 (fun H locs hL hS => ?_)
  have hL : Lay D n (.inr (4, (zer 4).set 3 (.ref (n + 1))) :: ([] ++ [eI cy 300])) H := hL
  refine lv_aload_n hC.1.1 hC.1.2.1 dX4_init_13 rfl (lv_at hl 0 rfl) ?_
  refine lv_sipush (v := 300) hC.1.1 hC.1.2.1 dX4_init_14 (by decide +kernel) ?_
  refine rc_int (N := 300) (n := (n + 2)) hC hL hS (by decide +kernel) (by decide +kernel) (by decide +kernel) rfl (Nat.le_of_ble_eq_true rfl) (Nat.le_of_ble_eq_true rfl) dX4_init_17 (fun H hL hS => ?_)
  have hL : Lay D n (.inr (4, (zer 4).set 3 (.ref (n + 1))) :: (([] ++ [eI cy 300]) ++ [eI cy 300])) H := hL
  refine rc_put (k := 0) (ci := 4) (fs := (zer 4).set 3 (.ref (n + 1))) (v := .ref (n + 2)) hC hL hS hin2 rfl fX4_15 rfl rfl rfl (Nat.le_of_ble_eq_true rfl) rfl dX4_init_19 (fun H locs hL hS => ?_)
  have hL : Lay D n (.inr (4, ((zer 4).set 3 (.ref (n + 1))).set 4 (.ref (n + 2))) :: (([] ++ [eI cy 300]) ++ [eI cy 300])) H := hL
  refine lv_aload_n hC.1.1 hC.1.2.1 dX4_init_22 rfl (lv_at hl 0 rfl) ?_
  refine lv_sipush (v := 300) hC.1.1 hC.1.2.1 dX4_init_23 (by decide +kernel) ?_
  refine rc_int (N := 300) (n := (n + 3)) hC hL hS (by decide +kernel) (by decide +kernel) (by decide +kernel) rfl (Nat.le_of_ble_eq_true rfl) (Nat.le_of_ble_eq_true rfl) dX4_init_26 (fun H hL hS => ?_)
  have hL : Lay D n (.inr (4, ((zer 4).set 3 (.ref (n + 1))).set 4 (.ref (n + 2))) :: ((([] ++ [eI cy 300]) ++ [eI cy 300]) ++ [eI cy 300])) H := hL
  refine rc_put (k := 0) (ci := 4) (fs := ((zer 4).set 3 (.ref (n + 1))).set 4 (.ref (n + 2))) (v := .ref (n + 3)) hC hL hS hin2 rfl fX4_18 rfl rfl rfl (Nat.le_of_ble_eq_true rfl) rfl dX4_init_28 (fun H locs hL hS => ?_)
  have hL : Lay D n (.inr (4, (((zer 4).set 3 (.ref (n + 1))).set 4 (.ref (n + 2))).set 5 (.ref (n + 3))) :: ((([] ++ [eI cy 300]) ++ [eI cy 300]) ++ [eI cy 300])) H := hL
  refine lv_aload_n hC.1.1 hC.1.2.1 dX4_init_31 rfl (lv_at hl 0 rfl) ?_
  refine lv_sipush (v := 300) hC.1.1 hC.1.2.1 dX4_init_32 (by decide +kernel) ?_
  refine rc_int (N := 300) (n := (n + 4)) hC hL hS (by decide +kernel) (by decide +kernel) (by decide +kernel) rfl (Nat.le_of_ble_eq_true rfl) (Nat.le_of_ble_eq_true rfl) dX4_init_35 (fun H hL hS => ?_)
  have hL : Lay D n (.inr (4, (((zer 4).set 3 (.ref (n + 1))).set 4 (.ref (n + 2))).set 5 (.ref (n + 3))) :: (((([] ++ [eI cy 300]) ++ [eI cy 300]) ++ [eI cy 300]) ++ [eI cy 300])) H := hL
  refine rc_put (k := 0) (ci := 4) (fs := (((zer 4).set 3 (.ref (n + 1))).set 4 (.ref (n + 2))).set 5 (.ref (n + 3))) (v := .ref (n + 4)) hC hL hS hin2 rfl fX4_21 rfl rfl rfl (Nat.le_of_ble_eq_true rfl) rfl dX4_init_37 (fun H locs hL hS => ?_)
  have hL : Lay D n (.inr (4, ((((zer 4).set 3 (.ref (n + 1))).set 4 (.ref (n + 2))).set 5 (.ref (n + 3))).set 6 (.ref (n + 4))) :: (((([] ++ [eI cy 300]) ++ [eI cy 300]) ++ [eI cy 300]) ++ [eI cy 300])) H := hL
  refine lv_aload_n hC.1.1 hC.1.2.1 dX4_init_40 rfl (lv_at hl 0 rfl) ?_
  refine lv_bipush (v := 60) hC.1.1 hC.1.2.1 dX4_init_41 (by decide +kernel) ?_
  refine rc_int (N := 60) (n := (n + 5)) hC hL hS (by decide +kernel) (by decide +kernel) (by decide +kernel) rfl (Nat.le_of_ble_eq_true rfl) (Nat.le_of_ble_eq_true rfl) dX4_init_43 (fun H hL hS => ?_)
  have hL : Lay D n (.inr (4, ((((zer 4).set 3 (.ref (n + 1))).set 4 (.ref (n + 2))).set 5 (.ref (n + 3))).set 6 (.ref (n + 4))) :: ((((([] ++ [eI cy 300]) ++ [eI cy 300]) ++ [eI cy 300]) ++ [eI cy 300]) ++ [eI cy 60])) H := hL
  refine rc_put (k := 0) (ci := 4) (fs := ((((zer 4).set 3 (.ref (n + 1))).set 4 (.ref (n + 2))).set 5 (.ref (n + 3))).set 6 (.ref (n + 4))) (v := .ref (n + 5)) hC hL hS hin2 rfl fX4_24 rfl rfl rfl (Nat.le_of_ble_eq_true rfl) rfl dX4_init_45 (fun H locs hL hS => ?_)
  have hL : Lay D n (.inr (4, (((((zer 4).set 3 (.ref (n + 1))).set 4 (.ref (n + 2))).set 5 (.ref (n + 3))).set 6 (.ref (n + 4))).set 8 (.ref (n + 5))) :: ((((([] ++ [eI cy 300]) ++ [eI cy 300]) ++ [eI cy 300]) ++ [eI cy 300]) ++ [eI cy 60])) H := hL
  refine lv_aload_n hC.1.1 hC.1.2.1 dX4_init_48 rfl (lv_at hl 0 rfl) ?_
  refine lv_bipush (v := 60) hC.1.1 hC.1.2.1 dX4_init_49 (by decide +kernel) ?_
  refine rc_int (N := 60) (n := (n + 6)) hC hL hS (by decide +kernel) (by decide +kernel) (by decide +kernel) rfl (Nat.le_of_ble_eq_true rfl) (Nat.le_of_ble_eq_true rfl) dX4_init_51 (fun H hL hS => ?_)
  have hL : Lay D n (.inr (4, (((((zer 4).set 3 (.ref (n + 1))).set 4 (.ref (n + 2))).set 5 (.ref (n + 3))).set 6 (.ref (n + 4))).set 8 (.ref (n + 5))) :: (((((([] ++ [eI cy 300]) ++ [eI cy 300]) ++ [eI cy 300]) ++ [eI cy 300]) ++ [eI cy 60]) ++ [eI cy 60])) H := hL
  refine rc_put (k := 0) (ci := 4) (fs := (((((zer 4).set 3 (.ref (n + 1))).set 4 (.ref (n + 2))).set 5 (.ref (n + 3))).set 6 (.ref (n + 4))).set 8 (.ref (n + 5))) (v := .ref (n + 6)) hC hL hS hin2 rfl fX4_27 rfl rfl rfl (Nat.le_of_ble_eq_true rfl) rfl dX4_init_53 (fun H locs hL hS => ?_)
  have hL : Lay D n (.inr (4, ((((((zer 4).set 3 (.ref (n + 1))).set 4 (.ref (n + 2))).set 5 (.ref (n + 3))).set 6 (.ref (n + 4))).set 8 (.ref (n + 5))).set 9 (.ref (n + 6))) :: (((((([] ++ [eI cy 300]) ++ [eI cy 300]) ++ [eI cy 300]) ++ [eI cy 300]) ++ [eI cy 60]) ++ [eI cy 60])) H := hL
  refine lv_aload_n hC.1.1 hC.1.2.1 dX4_init_56 rfl (lv_at hl 0 rfl) ?_
  refine lv_iconst (v := 5) hC.1.1 hC.1.2.1 dX4_init_57 (by decide +kernel) ?_
  refine rc_int (N := 5) (n := (n + 7)) hC hL hS (by decide +kernel) (by decide +kernel) (by decide +kernel) rfl (Nat.le_of_ble_eq_true rfl) (Nat.le_of_ble_eq_true rfl) dX4_init_58 (fun H hL hS => ?_)
  have hL : Lay D n (.inr (4, ((((((zer 4).set 3 (.ref (n + 1))).set 4 (.ref (n + 2))).set 5 (.ref (n + 3))).set 6 (.ref (n + 4))).set 8 (.ref (n + 5))).set 9 (.ref (n + 6))) :: ((((((([] ++ [eI cy 300]) ++ [eI cy 300]) ++ [eI cy 300]) ++ [eI cy 300]) ++ [eI cy 60]) ++ [eI cy 60]) ++ [eI cy 5])) H := hL
  refine rc_put (k := 0) (ci := 4) (fs := ((((((zer 4).set 3 (.ref (n + 1))).set 4 (.ref (n + 2))).set 5 (.ref (n + 3))).set 6 (.ref (n + 4))).set 8 (.ref (n + 5))).set 9 (.ref (n + 6))) (v := .ref (n + 7)) hC hL hS hin2 rfl fX4_30 rfl rfl rfl (Nat.le_of_ble_eq_true rfl) rfl dX4_init_60 (fun H locs hL hS => ?_)
  have hL : Lay D n (.inr (4, (((((((zer 4).set 3 (.ref (n + 1))).set 4 (.ref (n + 2))).set 5 (.ref (n + 3))).set 6 (.ref (n + 4))).set 8 (.ref (n + 5))).set 9 (.ref (n + 6))).set 10 (.ref (n + 7))) :: ((((((([] ++ [eI cy 300]) ++ [eI cy 300]) ++ [eI cy 300]) ++ [eI cy 300]) ++ [eI cy 60]) ++ [eI cy 60]) ++ [eI cy 5])) H := hL
  refine lv_aload_n hC.1.1 hC.1.2.1 dX4_init_63 rfl (lv_at hl 0 rfl) ?_
  refine lv_iconst (v := 5) hC.1.1 hC.1.2.1 dX4_init_64 (by decide +kernel) ?_
  refine rc_int (N := 5) (n := (n + 8)) hC hL hS (by decide +kernel) (by decide +kernel) (by decide +kernel) rfl (Nat.le_of_ble_eq_true rfl) (Nat.le_of_ble_eq_true rfl) dX4_init_65 (fun H hL hS => ?_)
  have hL : Lay D n (.inr (4, (((((((zer 4).set 3 (.ref (n + 1))).set 4 (.ref (n + 2))).set 5 (.ref (n + 3))).set 6 (.ref (n + 4))).set 8 (.ref (n + 5))).set 9 (.ref (n + 6))).set 10 (.ref (n + 7))) :: (((((((([] ++ [eI cy 300]) ++ [eI cy 300]) ++ [eI cy 300]) ++ [eI cy 300]) ++ [eI cy 60]) ++ [eI cy 60]) ++ [eI cy 5]) ++ [eI cy 5])) H := hL
  refine rc_put (k := 0) (ci := 4) (fs := (((((((zer 4).set 3 (.ref (n + 1))).set 4 (.ref (n + 2))).set 5 (.ref (n + 3))).set 6 (.ref (n + 4))).set 8 (.ref (n + 5))).set 9 (.ref (n + 6))).set 10 (.ref (n + 7))) (v := .ref (n + 8)) hC hL hS hin2 rfl fX4_33 rfl rfl rfl (Nat.le_of_ble_eq_true rfl) rfl dX4_init_67 (fun H locs hL hS => ?_)
  have hL : Lay D n (.inr (4, ((((((((zer 4).set 3 (.ref (n + 1))).set 4 (.ref (n + 2))).set 5 (.ref (n + 3))).set 6 (.ref (n + 4))).set 8 (.ref (n + 5))).set 9 (.ref (n + 6))).set 10 (.ref (n + 7))).set 11 (.ref (n + 8))) :: (((((((([] ++ [eI cy 300]) ++ [eI cy 300]) ++ [eI cy 300]) ++ [eI cy 300]) ++ [eI cy 60]) ++ [eI cy 60]) ++ [eI cy 5]) ++ [eI cy 5])) H := hL
  refine lv_aload_n hC.1.1 hC.1.2.1 dX4_init_70 rfl (lv_at hl 0 rfl) ?_
  refine lv_iconst (v := 5) hC.1.1 hC.1.2.1 dX4_init_71 (by decide +kernel) ?_
  refine rc_int (N := 5) (n := (n + 9)) hC hL hS (by decide +kernel) (by decide +kernel) (by decide +kernel) rfl (Nat.le_of_ble_eq_true rfl) (Nat.le_of_ble_eq_true rfl) dX4_init_72 (fun H hL hS => ?_)
  have hL : Lay D n (.inr (4, ((((((((zer 4).set 3 (.ref (n + 1))).set 4 (.ref (n + 2))).set 5 (.ref (n + 3))).set 6 (.ref (n + 4))).set 8 (.ref (n + 5))).set 9 (.ref (n + 6))).set 10 (.ref (n + 7))).set 11 (.ref (n + 8))) :: ((((((((([] ++ [eI cy 300]) ++ [eI cy 300]) ++ [eI cy 300]) ++ [eI cy 300]) ++ [eI cy 60]) ++ [eI cy 60]) ++ [eI cy 5]) ++ [eI cy 5]) ++ [eI cy 5])) H := hL
  refine rc_put (k := 0) (ci := 4) (fs := ((((((((zer 4).set 3 (.ref (n + 1))).set 4 (.ref (n + 2))).set 5 (.ref (n + 3))).set 6 (.ref (n + 4))).set 8 (.ref (n + 5))).set 9 (.ref (n + 6))).set 10 (.ref (n + 7))).set 11 (.ref (n + 8))) (v := .ref (n + 9)) hC hL hS hin2 rfl fX4_36 rfl rfl rfl (Nat.le_of_ble_eq_true rfl) rfl dX4_init_74 (fun H locs hL hS => ?_)
  have hL : Lay D n (.inr (4, (((((((((zer 4).set 3 (.ref (n + 1))).set 4 (.ref (n + 2))).set 5 (.ref (n + 3))).set 6 (.ref (n + 4))).set 8 (.ref (n + 5))).set 9 (.ref (n + 6))).set 10 (.ref (n + 7))).set 11 (.ref (n + 8))).set 12 (.ref (n + 9))) :: ((((((((([] ++ [eI cy 300]) ++ [eI cy 300]) ++ [eI cy 300]) ++ [eI cy 300]) ++ [eI cy 60]) ++ [eI cy 60]) ++ [eI cy 5]) ++ [eI cy 5]) ++ [eI cy 5])) H := hL
  refine W.wd (k := 9) (n := 1335) (Nat.le_of_ble_eq_true rfl) (Nat.le_of_ble_eq_true rfl) ?_
  exact ct_ret hC hr hlocks hL hS dX4_init_77
def eX5 (cy : Nat → ClassId) (n : Nat) : List va_E := .inr (5, (zer 5).set 1 (.int (-1))) :: []
set_option maxRecDepth 20000 in
theorem ctX5 (l : Launch) (D : va_G) (cy : Nat → ClassId) (n : Nat) : Met l yX5_init (WSI yX5_init cX5_init 1) (rmI 1 0 0 30) (CtP D cy n [] 5) (CtQ D n (eX5 cy n)) 0 0 (fun q => n ≤ q) := by
  refine ct_met (by decide) rfl (Nat.le_of_ble_eq_true rfl) fun p e s m below meth c ls hC hr hlocks hin2 hL hl => ?_
  have hS : va_S (fun q => n ≤ q) s.heap s.heap [] := va_S.rf
  have hl : lv_has ls 1 [(0, .ref n)] := hl
  refine lv_aload_n hC.1.1 hC.1.2.1 dX5_init_0 rfl (lv_at hl 0 rfl) ?_
  refine rc_oi hC (inG1 rfl (List.mem_of_getElem? (i := 35) rfl)) hl.1 (Nat.le_of_ble_eq_true rfl) (Nat.le_of_ble_eq_true rfl) dX5_init_1 ?_
  refine lv_aload_n hC.1.1 hC.1.2.1 dX5_init_4 rfl (lv_at hl 0 rfl) ?_
  refine lv_iconst (v := (-1)) hC.1.1 hC.1.2.1 dX5_init_5 (by decide +kernel) ?_
  refine rc_put (k := 0) (ci := 5) (fs := zer 5) (v := .int (-1)) hC hL hS hin2 rfl fX5_9 rfl rfl rfl (Nat.le_of_ble_eq_true rfl) rfl dX5_init_6 (fun H locs hL hS => ?_)
  have hL : Lay D n (.inr (5, (zer 5).set 1 (.int (-1))) :: []) H := hL
  refine W.wd (k := 0) (n := 0) (Nat.le_of_ble_eq_true rfl) (Nat.le_of_ble_eq_true rfl) ?_
  exact ct_ret hC hr hlocks hL hS dX5_init_9
def eX6 (cy : Nat → ClassId) (n : Nat) (x : Nat) : List va_E := .inr (6, ((((zer 6).set 3 (.ref (n + 1))).set 4 (.ref (n + 2))).set 5 (.ref (n + 3))).set 0 (.ref x)) :: ((([] ++ [eI cy 60]) ++ [eI cy 60]) ++ [eL cy 60])
set_option maxRecDepth 20000 in
theorem ctX6 (l : Launch) (D : va_G) (cy : Nat → ClassId) (n : Nat) (x : Nat) : Met l yX6_init (WSI yX6_init cX6_init 2) (rmI 1 3 180 30) (CtP D cy n [.ref x] 6) (CtQ D n (eX6 cy n x)) 3 180 (fun q => n ≤ q) := by
  refine ct_met (by decide) rfl (Nat.le_of_ble_eq_true rfl) fun p e s m below meth c ls hC hr hlocks hin2 hL hl => ?_
  have hS : va_S (fun q => n ≤ q) s.heap s.heap [] := va_S.rf
  have hl : lv_has ls 2 [(0, .ref n), (1, .ref x)] := hl
  refine lv_aload_n hC.1.1 hC.1.2.1 dX6_init_0 rfl (lv_at hl 0 rfl) ?_
  refine rc_oi hC (inG2 rfl (List.mem_of_getElem? (i := 67) rfl)) hl.1 (Nat.le_of_ble_eq_true rfl) (Nat.le_of_ble_eq_true rfl) dX6_init_1 ?_
  refine lv_aload_n hC.1.1 hC.1.2.1 dX6_init_4 rfl (lv_at hl 0 rfl) ?_
  refine lv_bipush (v := 60) hC.1.1 hC.1.2.1 dX6_init_5 (by decide +kernel) ?_
  refine rc_int (N := 60) (n := (n + 1)) hC hL hS (by decide +kernel) (by decide +kernel) (by decide +kernel) rfl (Nat.le_of_ble_eq_true rfl) (Nat.le_of_ble_eq_true rfl) dX6_init_7 (fun H hL hS => ?_)
  have hL : Lay D n (.inr (6, zer 6) :: ([] ++ [eI cy 60])) H := hL
  refine rc_put (k := 0) (ci := 6) (fs := zer 6) (v := .ref (n + 1)) hC hL hS hin2 rfl fX6_9 rfl rfl rfl (Nat.le_of_ble_eq_true rfl) rfl dX6_init_9 (fun H locs hL hS => ?_)
  have hL : Lay D n (.inr (6, (zer 6).set 3 (.ref (n + 1))) :: ([] ++ [eI cy 60])) H := hL
  refine lv_aload_n hC.1.1 hC.1.2.1 dX6_init_12 rfl (lv_at hl 0 rfl) ?_
  refine lv_bipush (v := 60) hC.1.1 hC.1.2.1 dX6_init_13 (by decide +kernel) ?_
  refine rc_int (N := 60) (n := (n + 2)) hC hL hS (by decide +kernel) (by decide +kernel) (by decide +kernel) rfl (Nat.le_of_ble_eq_true rfl) (Nat.le_of_ble_eq_true rfl) dX6_init_15 (fun H hL hS => ?_)
  have hL : Lay D n (.inr (6, (zer 6).set 3 (.ref (n + 1))) :: (([] ++ [eI cy 60]) ++ [eI cy 60])) H := hL
  refine rc_put (k := 0) (ci := 6) (fs := (zer 6).set 3 (.ref (n + 1))) (v := .ref (n + 2)) hC hL hS hin2 rfl fX6_15 rfl rfl rfl (Nat.le_of_ble_eq_true rfl) rfl dX6_init_17 (fun H locs hL hS => ?_)
  have hL : Lay D n (.inr (6, ((zer 6).set 3 (.ref (n + 1))).set 4 (.ref (n + 2))) :: (([] ++ [eI cy 60]) ++ [eI cy 60])) H := hL
  refine lv_aload_n hC.1.1 hC.1.2.1 dX6_init_20 rfl (lv_at hl 0 rfl) ?_
  refine lv_bipush (v := 60) hC.1.1 hC.1.2.1 dX6_init_21 (by decide +kernel) ?_
  refine rc_long (N := 60) (n := (n + 3)) hC hL hS (by decide +kernel) (by decide +kernel) (by decide +kernel) rfl (Nat.le_of_ble_eq_true rfl) (Nat.le_of_ble_eq_true rfl) dX6_init_23 (fun H hL hS => ?_)
  have hL : Lay D n (.inr (6, ((zer 6).set 3 (.ref (n + 1))).set 4 (.ref (n + 2))) :: ((([] ++ [eI cy 60]) ++ [eI cy 60]) ++ [eL cy 60])) H := hL
  refine rc_put (k := 0) (ci := 6) (fs := ((zer 6).set 3 (.ref (n + 1))).set 4 (.ref (n + 2))) (v := .ref (n + 3)) hC hL hS hin2 rfl fX6_18 rfl rfl rfl (Nat.le_of_ble_eq_true rfl) rfl dX6_init_25 (fun H locs hL hS => ?_)
  have hL : Lay D n (.inr (6, (((zer 6).set 3 (.ref (n + 1))).set 4 (.ref (n + 2))).set 5 (.ref (n + 3))) :: ((([] ++ [eI cy 60]) ++ [eI cy 60]) ++ [eL cy 60])) H := hL
  refine lv_aload_n hC.1.1 hC.1.2.1 dX6_init_28 rfl (lv_at hl 0 rfl) ?_
  refine lv_aload_n hC.1.1 hC.1.2.1 dX6_init_29 rfl (lv_at hl 1 rfl) ?_
  refine rc_put (k := 0) (ci := 6) (fs := (((zer 6).set 3 (.ref (n + 1))).set 4 (.ref (n + 2))).set 5 (.ref (n + 3))) (v := .ref x) hC hL hS hin2 rfl fX6_22 rfl rfl rfl (Nat.le_of_ble_eq_true rfl) rfl dX6_init_30 (fun H locs hL hS => ?_)
  have hL : Lay D n (.inr (6, ((((zer 6).set 3 (.ref (n + 1))).set 4 (.ref (n + 2))).set 5 (.ref (n + 3))).set 0 (.ref x)) :: ((([] ++ [eI cy 60]) ++ [eI cy 60]) ++ [eL cy 60])) H := hL
  refine W.wd (k := 3) (n := 180) (Nat.le_of_ble_eq_true rfl) (Nat.le_of_ble_eq_true rfl) ?_
  exact ct_ret hC hr hlocks hL hS dX6_init_33
def eX7 (cy : Nat → ClassId) (n : Nat) : List va_E := .inr (7, ((zer 7).set 2 (.ref (n + 1))).set 3 (.ref (n + 22))) :: (([] ++ eG cy (n + 1) 20 60) ++ [eL cy 20])
set_option maxRecDepth 20000 in
theorem ctX7 (l : Launch) (D : va_G) (cy : Nat → ClassId) (n : Nat) : Met l yX7_init (WSI yX7_init cX7_init 1) (rmI 1 22 1240 30) (CtP D cy n [] 7) (CtQ D n (eX7 cy n)) 22 1240 (fun q => n ≤ q) := by
  refine ct_met (by decide) rfl (Nat.le_of_ble_eq_true rfl) fun p e s m below meth c ls hC hr hlocks hin2 hL hl => ?_
  have hS : va_S (fun q => n ≤ q) s.heap s.heap [] := va_S.rf
  have hl : lv_has ls 1 [(0, .ref n)] := hl
  refine lv_aload_n hC.1.1 hC.1.2.1 dX7_init_0 rfl (lv_at hl 0 rfl) ?_
  refine rc_oi hC (inG1 rfl (List.mem_of_getElem? (i := 76) rfl)) hl.1 (Nat.le_of_ble_eq_true rfl) (Nat.le_of_ble_eq_true rfl) dX7_init_1 ?_
  refine lv_aload_n hC.1.1 hC.1.2.1 dX7_init_4 rfl (lv_at hl 0 rfl) ?_
  refine lv_bipush (v := 20) hC.1.1 hC.1.2.1 dX7_init_5 (by decide +kernel) ?_
  refine lv_bipush (v := 60) hC.1.1 hC.1.2.1 dX7_init_7 (by decide +kernel) ?_
  refine rc_mna (N := 20) (K := 60) (n := (n + 1)) hC hL hS (inG1 rfl (List.mem_of_getElem? (i := 77) rfl)) (by decide +kernel) (by decide +kernel) (by decide +kernel) (by decide +kernel) (by decide +kernel) (by decide +kernel) rfl (Nat.le_of_ble_eq_true rfl) (Nat.le_of_ble_eq_true rfl) dX7_init_9 (fun H hL hS => ?_)
  have hL : Lay D n (.inr (7, zer 7) :: ([] ++ eG cy (n + 1) 20 60)) H := hL
  refine rc_put (k := 0) (ci := 7) (fs := zer 7) (v := .ref (n + 1)) hC hL hS hin2 rfl fX7_11 rfl rfl rfl (Nat.le_of_ble_eq_true rfl) rfl dX7_init_13 (fun H locs hL hS => ?_)
  have hL : Lay D n (.inr (7, (zer 7).set 2 (.ref (n + 1))) :: ([] ++ eG cy (n + 1) 20 60)) H := hL
  refine lv_aload_n hC.1.1 hC.1.2.1 dX7_init_16 rfl (lv_at hl 0 rfl) ?_
  refine lv_bipush (v := 20) hC.1.1 hC.1.2.1 dX7_init_17 (by decide +kernel) ?_
  refine rc_long (N := 20) (n := (n + 22)) hC hL hS (by decide +kernel) (by decide +kernel) (by decide +kernel) rfl (Nat.le_of_ble_eq_true rfl) (Nat.le_of_ble_eq_true rfl) dX7_init_19 (fun H hL hS => ?_)
  have hL : Lay D n (.inr (7, (zer 7).set 2 (.ref (n + 1))) :: (([] ++ eG cy (n + 1) 20 60) ++ [eL cy 20])) H := hL
  refine rc_put (k := 0) (ci := 7) (fs := (zer 7).set 2 (.ref (n + 1))) (v := .ref (n + 22)) hC hL hS hin2 rfl fX7_16 rfl rfl rfl (Nat.le_of_ble_eq_true rfl) rfl dX7_init_21 (fun H locs hL hS => ?_)
  have hL : Lay D n (.inr (7, ((zer 7).set 2 (.ref (n + 1))).set 3 (.ref (n + 22))) :: (([] ++ eG cy (n + 1) 20 60) ++ [eL cy 20])) H := hL
  refine W.wd (k := 22) (n := 1240) (Nat.le_of_ble_eq_true rfl) (Nat.le_of_ble_eq_true rfl) ?_
  exact ct_ret hC hr hlocks hL hS dX7_init_24
