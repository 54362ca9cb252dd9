/-! The law, case by case: one call of both. -/
theorem lL_21 : Cond.methodLink RL 21 yX8_feed ∈ Gw := (inG2 rfl (List.mem_of_getElem? (i := 149) (by decide +kernel)))
theorem lL_25 : Cond.methodLink RL 25 yX9_feed ∈ Gw := (inG6 rfl (List.mem_of_getElem? (i := 17) (by decide +kernel)))
theorem lL_26 : Cond.methodLink RL 26 yX8_text ∈ Gw := (inG2 rfl (List.mem_of_getElem? (i := 157) (by decide +kernel)))
theorem lL_30 : Cond.methodLink RL 30 yX9_text ∈ Gw := (inG6 rfl (List.mem_of_getElem? (i := 21) (by decide +kernel)))
theorem lL_31 : Cond.methodLink RL 31 yX8_fault ∈ Gw := (inG3 rfl (List.mem_of_getElem? (i := 49) (by decide +kernel)))
theorem lL_34 : Cond.methodLink RL 34 yX9_fault ∈ Gw := (inG6 rfl (List.mem_of_getElem? (i := 129) (by decide +kernel)))
theorem lL_45 : Cond.methodLink RL 45 yX8_walk ∈ Gw := (inG3 rfl (List.mem_of_getElem? (i := 53) (by decide +kernel)))
theorem lL_48 : Cond.methodLink RL 48 yX9_walk ∈ Gw := (inG6 rfl (List.mem_of_getElem? (i := 157) (by decide +kernel)))
theorem lL_49 : Cond.methodLink RL 49 yX8_change ∈ Gw := (inG3 rfl (List.mem_of_getElem? (i := 65) (by decide +kernel)))
theorem lL_52 : Cond.methodLink RL 52 yX9_change ∈ Gw := (inG6 rfl (List.mem_of_getElem? (i := 173) (by decide +kernel)))
theorem lL_53 : Cond.methodLink RL 53 yX8_delay ∈ Gw := (inG3 rfl (List.mem_of_getElem? (i := 69) (by decide +kernel)))
theorem lL_57 : Cond.methodLink RL 57 yX9_delay ∈ Gw := (inG6 rfl (List.mem_of_getElem? (i := 177) (by decide +kernel)))
theorem lL_58 : Cond.methodLink RL 58 yX8_cancel ∈ Gw := (inG3 rfl (List.mem_of_getElem? (i := 105) (by decide +kernel)))
theorem lL_62 : Cond.methodLink RL 62 yX9_cancel ∈ Gw := (inG6 rfl (List.mem_of_getElem? (i := 201) (by decide +kernel)))
theorem lL_63 : Cond.methodLink RL 63 yX8_undo ∈ Gw := (inG3 rfl (List.mem_of_getElem? (i := 118) (by decide +kernel)))
theorem lL_66 : Cond.methodLink RL 66 yX9_undo ∈ Gw := (inG6 rfl (List.mem_of_getElem? (i := 212) (by decide +kernel)))
theorem lL_67 : Cond.methodLink RL 67 yX8_profile ∈ Gw := (inG3 rfl (List.mem_of_getElem? (i := 127) (by decide +kernel)))
theorem lL_70 : Cond.methodLink RL 70 yX9_profile ∈ Gw := (inG6 rfl (List.mem_of_getElem? (i := 216) (by decide +kernel)))
theorem lL_71 : Cond.methodLink RL 71 yX8_at ∈ Gw := (inG3 rfl (List.mem_of_getElem? (i := 198) (by decide +kernel)))
theorem lL_75 : Cond.methodLink RL 75 yX9_at ∈ Gw := (inG7 rfl (List.mem_of_getElem? (i := 32) (by decide +kernel)))
theorem lL_76 : Cond.methodLink RL 76 yX8_leg ∈ Gw := (inG3 rfl (List.mem_of_getElem? (i := 220) (by decide +kernel)))
theorem lL_79 : Cond.methodLink RL 79 yX9_leg ∈ Gw := (inG7 rfl (List.mem_of_getElem? (i := 36) (by decide +kernel)))
theorem lL_80 : Cond.methodLink RL 80 yX8_earliest ∈ Gw := (inG4 rfl (List.mem_of_getElem? (i := 63) (by decide +kernel)))
theorem lL_83 : Cond.methodLink RL 83 yX9_earliest ∈ Gw := (inG7 rfl (List.mem_of_getElem? (i := 114) (by decide +kernel)))
theorem lL_84 : Cond.methodLink RL 84 yX8_latest ∈ Gw := (inG4 rfl (List.mem_of_getElem? (i := 89) (by decide +kernel)))
theorem lL_87 : Cond.methodLink RL 87 yX9_latest ∈ Gw := (inG7 rfl (List.mem_of_getElem? (i := 118) (by decide +kernel)))
theorem lL_88 : Cond.methodLink RL 88 yX8_reached ∈ Gw := (inG4 rfl (List.mem_of_getElem? (i := 103) (by decide +kernel)))
theorem lL_91 : Cond.methodLink RL 91 yX9_reached ∈ Gw := (inG7 rfl (List.mem_of_getElem? (i := 122) (by decide +kernel)))
theorem lL_92 : Cond.methodLink RL 92 yX8_costOfFewer ∈ Gw := (inG4 rfl (List.mem_of_getElem? (i := 109) (by decide +kernel)))
theorem lL_95 : Cond.methodLink RL 95 yX9_costOfFewer ∈ Gw := (inG7 rfl (List.mem_of_getElem? (i := 126) (by decide +kernel)))
theorem lL_96 : Cond.methodLink RL 96 yX8_mean ∈ Gw := (inG4 rfl (List.mem_of_getElem? (i := 113) (by decide +kernel)))
theorem lL_99 : Cond.methodLink RL 99 yX9_mean ∈ Gw := (inG7 rfl (List.mem_of_getElem? (i := 130) (by decide +kernel)))
theorem lL_100 : Cond.methodLink RL 100 yX8_late ∈ Gw := (inG4 rfl (List.mem_of_getElem? (i := 145) (by decide +kernel)))
theorem lL_103 : Cond.methodLink RL 103 yX9_late ∈ Gw := (inG7 rfl (List.mem_of_getElem? (i := 134) (by decide +kernel)))
theorem lL_104 : Cond.methodLink RL 104 yX8_missed ∈ Gw := (inG4 rfl (List.mem_of_getElem? (i := 166) (by decide +kernel)))
theorem lL_107 : Cond.methodLink RL 107 yX9_missed ∈ Gw := (inG7 rfl (List.mem_of_getElem? (i := 138) (by decide +kernel)))
theorem lL_108 : Cond.methodLink RL 108 yX8_ifLate ∈ Gw := (inG4 rfl (List.mem_of_getElem? (i := 162) (by decide +kernel)))
theorem lL_111 : Cond.methodLink RL 111 yX9_ifLate ∈ Gw := (inG7 rfl (List.mem_of_getElem? (i := 146) (by decide +kernel)))
theorem lL_112 : Cond.methodLink RL 112 yX8_uses ∈ Gw := (inG4 rfl (List.mem_of_getElem? (i := 35) (by decide +kernel)))
theorem lL_115 : Cond.methodLink RL 115 yX9_uses ∈ Gw := (inG7 rfl (List.mem_of_getElem? (i := 150) (by decide +kernel)))
theorem lL_116 : Cond.methodLink RL 116 yX8_profileBy ∈ Gw := (inG3 rfl (List.mem_of_getElem? (i := 218) (by decide +kernel)))
theorem lL_119 : Cond.methodLink RL 119 yX9_profileBy ∈ Gw := (inG7 rfl (List.mem_of_getElem? (i := 48) (by decide +kernel)))
theorem lL_120 : Cond.methodLink RL 120 yX8_atBy ∈ Gw := (inG3 rfl (List.mem_of_getElem? (i := 219) (by decide +kernel)))
theorem lL_123 : Cond.methodLink RL 123 yX9_atBy ∈ Gw := (inG7 rfl (List.mem_of_getElem? (i := 56) (by decide +kernel)))
theorem lL_124 : Cond.methodLink RL 124 yX8_waits ∈ Gw := (inG3 rfl (List.mem_of_getElem? (i := 237) (by decide +kernel)))
theorem lL_127 : Cond.methodLink RL 127 yX9_waits ∈ Gw := (inG7 rfl (List.mem_of_getElem? (i := 60) (by decide +kernel)))
theorem lL_128 : Cond.methodLink RL 128 yX8_hub ∈ Gw := (inG4 rfl (List.mem_of_getElem? (i := 55) (by decide +kernel)))
theorem lL_131 : Cond.methodLink RL 131 yX9_hub ∈ Gw := (inG7 rfl (List.mem_of_getElem? (i := 72) (by decide +kernel)))
theorem lL_132 : Cond.methodLink RL 132 yX8_gap ∈ Gw := (inG4 rfl (List.mem_of_getElem? (i := 24) (by decide +kernel)))
theorem lL_135 : Cond.methodLink RL 135 yX9_gap ∈ Gw := (inG7 rfl (List.mem_of_getElem? (i := 80) (by decide +kernel)))
theorem lL_136 : Cond.methodLink RL 136 yX8_meet ∈ Gw := (inG4 rfl (List.mem_of_getElem? (i := 133) (by decide +kernel)))
theorem lL_139 : Cond.methodLink RL 139 yX9_meet ∈ Gw := (inG7 rfl (List.mem_of_getElem? (i := 84) (by decide +kernel)))
theorem lL_140 : Cond.methodLink RL 140 yX8_via ∈ Gw := (inG4 rfl (List.mem_of_getElem? (i := 137) (by decide +kernel)))
theorem lL_143 : Cond.methodLink RL 143 yX9_via ∈ Gw := (inG7 rfl (List.mem_of_getElem? (i := 99) (by decide +kernel)))
theorem lL_144 : Cond.methodLink RL 144 yX8_stay ∈ Gw := (inG4 rfl (List.mem_of_getElem? (i := 141) (by decide +kernel)))
theorem lL_147 : Cond.methodLink RL 147 yX9_stay ∈ Gw := (inG7 rfl (List.mem_of_getElem? (i := 106) (by decide +kernel)))
theorem lL_148 : Cond.methodLink RL 148 yX8_board ∈ Gw := (inG4 rfl (List.mem_of_getElem? (i := 170) (by decide +kernel)))
theorem lL_152 : Cond.methodLink RL 152 yX9_board ∈ Gw := (inG7 rfl (List.mem_of_getElem? (i := 198) (by decide +kernel)))
theorem lL_153 : Cond.methodLink RL 153 yX8_slack ∈ Gw := (inG4 rfl (List.mem_of_getElem? (i := 178) (by decide +kernel)))
theorem lL_156 : Cond.methodLink RL 156 yX9_slack_ ∈ Gw := (inG7 rfl (List.mem_of_getElem? (i := 206) (by decide +kernel)))
theorem lL_157 : Cond.methodLink RL 157 yX8_fewest ∈ Gw := (inG4 rfl (List.mem_of_getElem? (i := 121) (by decide +kernel)))
theorem lL_160 : Cond.methodLink RL 160 yX9_fewest ∈ Gw := (inG7 rfl (List.mem_of_getElem? (i := 210) (by decide +kernel)))
theorem lL_161 : Cond.methodLink RL 161 yX8_quickest ∈ Gw := (inG4 rfl (List.mem_of_getElem? (i := 31) (by decide +kernel)))
theorem lL_164 : Cond.methodLink RL 164 yX9_quickest ∈ Gw := (inG7 rfl (List.mem_of_getElem? (i := 214) (by decide +kernel)))
theorem lL_165 : Cond.methodLink RL 165 yX8_next ∈ Gw := (inG4 rfl (List.mem_of_getElem? (i := 125) (by decide +kernel)))
theorem lL_168 : Cond.methodLink RL 168 yX9_next ∈ Gw := (inG7 rfl (List.mem_of_getElem? (i := 218) (by decide +kernel)))
theorem lL_169 : Cond.methodLink RL 169 yX8_breaks ∈ Gw := (inG4 rfl (List.mem_of_getElem? (i := 51) (by decide +kernel)))
theorem lL_172 : Cond.methodLink RL 172 yX9_breaks_ ∈ Gw := (inG7 rfl (List.mem_of_getElem? (i := 222) (by decide +kernel)))
theorem lL_173 : Cond.methodLink RL 173 yX8_travels ∈ Gw := (inG4 rfl (List.mem_of_getElem? (i := 16) (by decide +kernel)))
theorem lL_176 : Cond.methodLink RL 176 yX9_travels ∈ Gw := (inG7 rfl (List.mem_of_getElem? (i := 230) (by decide +kernel)))
theorem lL_177 : Cond.methodLink RL 177 yX8_plan ∈ Gw := (inG4 rfl (List.mem_of_getElem? (i := 187) (by decide +kernel)))
theorem lL_180 : Cond.methodLink RL 180 yX9_plan ∈ Gw := (inG7 rfl (List.mem_of_getElem? (i := 154) (by decide +kernel)))
theorem lL_181 : Cond.methodLink RL 181 yX8_planAnew ∈ Gw := (inG4 rfl (List.mem_of_getElem? (i := 192) (by decide +kernel)))
theorem lL_184 : Cond.methodLink RL 184 yX9_planAnew ∈ Gw := (inG7 rfl (List.mem_of_getElem? (i := 158) (by decide +kernel)))
theorem lL_185 : Cond.methodLink RL 185 yX8_planAs ∈ Gw := (inG4 rfl (List.mem_of_getElem? (i := 196) (by decide +kernel)))
theorem lL_188 : Cond.methodLink RL 188 yX9_planAs ∈ Gw := (inG7 rfl (List.mem_of_getElem? (i := 162) (by decide +kernel)))
theorem lL_189 : Cond.methodLink RL 189 yX8_checked ∈ Gw := (inG4 rfl (List.mem_of_getElem? (i := 206) (by decide +kernel)))
theorem lL_193 : Cond.methodLink RL 193 yX9_checked ∈ Gw := (inG7 rfl (List.mem_of_getElem? (i := 166) (by decide +kernel)))
theorem lL_194 : Cond.methodLink RL 194 yX8_cause ∈ Gw := (inG4 rfl (List.mem_of_getElem? (i := 230) (by decide +kernel)))
theorem lL_197 : Cond.methodLink RL 197 yX9_cause ∈ Gw := (inG7 rfl (List.mem_of_getElem? (i := 186) (by decide +kernel)))
theorem lL_198 : Cond.methodLink RL 198 yX8_tooLate ∈ Gw := (inG4 rfl (List.mem_of_getElem? (i := 239) (by decide +kernel)))
theorem lL_201 : Cond.methodLink RL 201 yX9_tooLate ∈ Gw := (inG7 rfl (List.mem_of_getElem? (i := 190) (by decide +kernel)))
theorem lL_202 : Cond.methodLink RL 202 yX8_spare ∈ Gw := (inG5 rfl (List.mem_of_getElem? (i := 4) (by decide +kernel)))
theorem lL_205 : Cond.methodLink RL 205 yX9_spare ∈ Gw := (inG7 rfl (List.mem_of_getElem? (i := 194) (by decide +kernel)))
theorem lL_206 : Cond.methodLink RL 206 yX8_count ∈ Gw := (inG5 rfl (List.mem_of_getElem? (i := 8) (by decide +kernel)))
theorem lL_209 : Cond.methodLink RL 209 yX9_count ∈ Gw := (inG7 rfl (List.mem_of_getElem? (i := 234) (by decide +kernel)))
section CASES
variable {p : Program} {l : Launch} {e : Env} {s : State} {m : MethodId} {below : List Frame} {meth : Method} {c : Code} {b L : Nat} {xs : Nat → Int32} {D : va_G} {ad : Nat → Nat} {cy : Nat → ClassId} {j kc ks : Nat} {σ : Sto}
set_option maxRecDepth 20000 in
theorem case_0 (hC : LX p l s m meth c b L xs D ad cy) (hj : 6 * j + 6 ≤ L) (hkc : kc ≤ 601024) (hks : ks ≤ 7293034) (hI : INV σ) (kk : ∀ w, INV w → RunL p l e s m below meth c b D ad cy j kc ks 2479 [] w) : RunL p l e s m below meth c b D ad cy j kc ks 232 [] σ := by
  refine l_x hC dL_law_232 ?_
  refine l_arg 1 hC hj (by omega) dL_law_233 dL_law_234 dL_law_236 dL_law_237 dL_law_238 ?_
  refine l_arg 2 hC hj (by omega) dL_law_239 dL_law_240 dL_law_242 dL_law_243 dL_law_244 ?_
  refine l_arg 3 hC hj (by omega) dL_law_245 dL_law_246 dL_law_248 dL_law_249 dL_law_250 ?_
  refine l_arg 4 hC hj (by omega) dL_law_251 dL_law_252 dL_law_254 dL_law_255 dL_law_256 ?_
  refine l_arg 5 hC hj (by omega) dL_law_257 dL_law_258 dL_law_260 dL_law_261 dL_law_262 ?_
  refine l_two hC (w_feed hI (agI xs j 1) (agI xs j 2) (agI xs j 3) (agI xs j 4) (agI xs j 5)) mvX8_feed lL_21 rfl rfl rfl rfl (Nat.le_of_ble_eq_true rfl) (Nat.le_of_ble_eq_true rfl) hkc hks dL_law_263 (fun x u hu => ?_)
  refine l_m hC dL_law_266 ?_
  refine l_arg 1 hC hj (by omega) dL_law_267 dL_law_268 dL_law_270 dL_law_271 dL_law_272 ?_
  refine l_arg 2 hC hj (by omega) dL_law_273 dL_law_274 dL_law_276 dL_law_277 dL_law_278 ?_
  refine l_arg 3 hC hj (by omega) dL_law_279 dL_law_280 dL_law_282 dL_law_283 dL_law_284 ?_
  refine l_arg 4 hC hj (by omega) dL_law_285 dL_law_286 dL_law_288 dL_law_289 dL_law_290 ?_
  refine l_arg 5 hC hj (by omega) dL_law_291 dL_law_292 dL_law_294 dL_law_295 dL_law_296 ?_
  exact l_two' hC hu mvX9_feed lL_25 rfl rfl rfl rfl (Nat.le_of_ble_eq_true rfl) (Nat.le_of_ble_eq_true rfl) hkc hks dL_law_297 dL_law_300 (by decide) kk
set_option maxRecDepth 20000 in
theorem case_1 (hC : LX p l s m meth c b L xs D ad cy) (hj : 6 * j + 6 ≤ L) (hkc : kc ≤ 601024) (hks : ks ≤ 7293034) (hI : INV σ) (kk : ∀ w, INV w → RunL p l e s m below meth c b D ad cy j kc ks 2479 [] w) : RunL p l e s m below meth c b D ad cy j kc ks 305 [] σ := by
  refine l_x hC dL_law_305 ?_
  refine l_arg 1 hC hj (by omega) dL_law_306 dL_law_307 dL_law_309 dL_law_310 dL_law_311 ?_
  refine l_two hC (w_text hI (agI xs j 1) (ag_R xs j 1)) mvX8_text lL_26 rfl rfl rfl rfl (Nat.le_of_ble_eq_true rfl) (Nat.le_of_ble_eq_true rfl) hkc hks dL_law_312 (fun x u hu => ?_)
  refine l_m hC dL_law_315 ?_
  refine l_arg 1 hC hj (by omega) dL_law_316 dL_law_317 dL_law_319 dL_law_320 dL_law_321 ?_
  exact l_two' hC hu mvX9_text lL_30 rfl rfl rfl rfl (Nat.le_of_ble_eq_true rfl) (Nat.le_of_ble_eq_true rfl) hkc hks dL_law_322 dL_law_325 (by decide) kk
set_option maxRecDepth 20000 in
theorem case_2 (hC : LX p l s m meth c b L xs D ad cy) (hj : 6 * j + 6 ≤ L) (hkc : kc ≤ 601024) (hks : ks ≤ 7293034) (hI : INV σ) (kk : ∀ w, INV w → RunL p l e s m below meth c b D ad cy j kc ks 2479 [] w) : RunL p l e s m below meth c b D ad cy j kc ks 330 [] σ := by
  refine l_x hC dL_law_330 ?_
  refine l_arg 1 hC hj (by omega) dL_law_331 dL_law_332 dL_law_334 dL_law_335 dL_law_336 ?_
  refine l_two hC (w_fault hI (agI xs j 1) (ag_R xs j 1)) mvX8_fault lL_31 rfl rfl rfl rfl (Nat.le_of_ble_eq_true rfl) (Nat.le_of_ble_eq_true rfl) hkc hks dL_law_337 (fun x u hu => ?_)
  refine l_m hC dL_law_340 ?_
  refine l_arg 1 hC hj (by omega) dL_law_341 dL_law_342 dL_law_344 dL_law_345 dL_law_346 ?_
  exact l_two' hC hu mvX9_fault lL_34 rfl rfl rfl rfl (Nat.le_of_ble_eq_true rfl) (Nat.le_of_ble_eq_true rfl) hkc hks dL_law_347 dL_law_350 (by decide) kk
set_option maxRecDepth 20000 in
theorem case_4 (hC : LX p l s m meth c b L xs D ad cy) (hj : 6 * j + 6 ≤ L) (hkc : kc ≤ 601024) (hks : ks ≤ 7293034) (hI : INV σ) (kk : ∀ w, INV w → RunL p l e s m below meth c b D ad cy j kc ks 2479 [] w) : RunL p l e s m below meth c b D ad cy j kc ks 423 [] σ := by
  refine l_x hC dL_law_423 ?_
  refine l_arg 1 hC hj (by omega) dL_law_424 dL_law_425 dL_law_427 dL_law_428 dL_law_429 ?_
  refine l_arg 2 hC hj (by omega) dL_law_430 dL_law_431 dL_law_433 dL_law_434 dL_law_435 ?_
  refine l_two hC (w_walk hI (agI xs j 1) (agI xs j 2) (ag_R xs j 1) (ag_R xs j 2)) mvX8_walk lL_45 rfl rfl rfl rfl (Nat.le_of_ble_eq_true rfl) (Nat.le_of_ble_eq_true rfl) hkc hks dL_law_436 (fun x u hu => ?_)
  refine l_m hC dL_law_439 ?_
  refine l_arg 1 hC hj (by omega) dL_law_440 dL_law_441 dL_law_443 dL_law_444 dL_law_445 ?_
  refine l_arg 2 hC hj (by omega) dL_law_446 dL_law_447 dL_law_449 dL_law_450 dL_law_451 ?_
  exact l_two' hC hu mvX9_walk lL_48 rfl rfl rfl rfl (Nat.le_of_ble_eq_true rfl) (Nat.le_of_ble_eq_true rfl) hkc hks dL_law_452 dL_law_455 (by decide) kk
set_option maxRecDepth 20000 in
theorem case_5 (hC : LX p l s m meth c b L xs D ad cy) (hj : 6 * j + 6 ≤ L) (hkc : kc ≤ 601024) (hks : ks ≤ 7293034) (hI : INV σ) (kk : ∀ w, INV w → RunL p l e s m below meth c b D ad cy j kc ks 2479 [] w) : RunL p l e s m below meth c b D ad cy j kc ks 460 [] σ := by
  refine l_x hC dL_law_460 ?_
  refine l_arg 1 hC hj (by omega) dL_law_461 dL_law_462 dL_law_464 dL_law_465 dL_law_466 ?_
  refine l_two hC (w_change hI (agI xs j 1) (ag_R xs j 1)) mvX8_change lL_49 rfl rfl rfl rfl (Nat.le_of_ble_eq_true rfl) (Nat.le_of_ble_eq_true rfl) hkc hks dL_law_467 (fun x u hu => ?_)
  refine l_m hC dL_law_470 ?_
  refine l_arg 1 hC hj (by omega) dL_law_471 dL_law_472 dL_law_474 dL_law_475 dL_law_476 ?_
  exact l_two' hC hu mvX9_change lL_52 rfl rfl rfl rfl (Nat.le_of_ble_eq_true rfl) (Nat.le_of_ble_eq_true rfl) hkc hks dL_law_477 dL_law_480 (by decide) kk
set_option maxRecDepth 20000 in
theorem case_6 (hC : LX p l s m meth c b L xs D ad cy) (hj : 6 * j + 6 ≤ L) (hkc : kc ≤ 601024) (hks : ks ≤ 7293034) (hI : INV σ) (kk : ∀ w, INV w → RunL p l e s m below meth c b D ad cy j kc ks 2479 [] w) : RunL p l e s m below meth c b D ad cy j kc ks 485 [] σ := by
  refine l_x hC dL_law_485 ?_
  refine l_arg 1 hC hj (by omega) dL_law_486 dL_law_487 dL_law_489 dL_law_490 dL_law_491 ?_
  refine l_arg 2 hC hj (by omega) dL_law_492 dL_law_493 dL_law_495 dL_law_496 dL_law_497 ?_
  refine l_arg 3 hC hj (by omega) dL_law_498 dL_law_499 dL_law_501 dL_law_502 dL_law_503 ?_
  refine l_two hC (w_delay hI (agI xs j 1) (agI xs j 2) (agI xs j 3) (ag_R xs j 1) (ag_R xs j 2) (ag_R xs j 3)) mvX8_delay lL_53 rfl rfl rfl rfl (Nat.le_of_ble_eq_true rfl) (Nat.le_of_ble_eq_true rfl) hkc hks dL_law_504 (fun x u hu => ?_)
  refine l_m hC dL_law_507 ?_
  refine l_arg 1 hC hj (by omega) dL_law_508 dL_law_509 dL_law_511 dL_law_512 dL_law_513 ?_
  refine l_arg 2 hC hj (by omega) dL_law_514 dL_law_515 dL_law_517 dL_law_518 dL_law_519 ?_
  refine l_arg 3 hC hj (by omega) dL_law_520 dL_law_521 dL_law_523 dL_law_524 dL_law_525 ?_
  exact l_two' hC hu mvX9_delay lL_57 rfl rfl rfl rfl (Nat.le_of_ble_eq_true rfl) (Nat.le_of_ble_eq_true rfl) hkc hks dL_law_526 dL_law_529 (by decide) kk
set_option maxRecDepth 20000 in
theorem case_7 (hC : LX p l s m meth c b L xs D ad cy) (hj : 6 * j + 6 ≤ L) (hkc : kc ≤ 601024) (hks : ks ≤ 7293034) (hI : INV σ) (kk : ∀ w, INV w → RunL p l e s m below meth c b D ad cy j kc ks 2479 [] w) : RunL p l e s m below meth c b D ad cy j kc ks 534 [] σ := by
  refine l_x hC dL_law_534 ?_
  refine l_arg 1 hC hj (by omega) dL_law_535 dL_law_536 dL_law_538 dL_law_539 dL_law_540 ?_
  refine l_arg 2 hC hj (by omega) dL_law_541 dL_law_542 dL_law_544 dL_law_545 dL_law_546 ?_
  refine l_arg 3 hC hj (by omega) dL_law_547 dL_law_548 dL_law_550 dL_law_551 dL_law_552 ?_
  refine l_arg 4 hC hj (by omega) dL_law_553 dL_law_554 dL_law_556 dL_law_557 dL_law_558 ?_
  refine l_bool hC (ag_R xs j 4) dL_law_559 dL_law_562 dL_law_563 dL_law_566 ?_
  refine l_two hC (w_cancel hI (agI xs j 1) (agI xs j 2) (agI xs j 3) (if agI xs j 4 = 0 then 0 else 1) (ag_R xs j 1) (ag_R xs j 2) (ag_R xs j 3) (by by_cases z : agI xs j 4 = 0; exact Or.inl (if_pos z); exact Or.inr (if_neg z))) mvX8_cancel lL_58 rfl rfl rfl rfl (Nat.le_of_ble_eq_true rfl) (Nat.le_of_ble_eq_true rfl) hkc hks dL_law_567 (fun x u hu => ?_)
  refine l_m hC dL_law_570 ?_
  refine l_arg 1 hC hj (by omega) dL_law_571 dL_law_572 dL_law_574 dL_law_575 dL_law_576 ?_
  refine l_arg 2 hC hj (by omega) dL_law_577 dL_law_578 dL_law_580 dL_law_581 dL_law_582 ?_
  refine l_arg 3 hC hj (by omega) dL_law_583 dL_law_584 dL_law_586 dL_law_587 dL_law_588 ?_
  refine l_arg 4 hC hj (by omega) dL_law_589 dL_law_590 dL_law_592 dL_law_593 dL_law_594 ?_
  refine l_bool hC (ag_R xs j 4) dL_law_595 dL_law_598 dL_law_599 dL_law_602 ?_
  exact l_two' hC hu mvX9_cancel lL_62 rfl rfl rfl rfl (Nat.le_of_ble_eq_true rfl) (Nat.le_of_ble_eq_true rfl) hkc hks dL_law_603 dL_law_606 (by decide) kk
set_option maxRecDepth 20000 in
theorem case_8 (hC : LX p l s m meth c b L xs D ad cy) (hj : 6 * j + 6 ≤ L) (hkc : kc ≤ 601024) (hks : ks ≤ 7293034) (hI : INV σ) (kk : ∀ w, INV w → RunL p l e s m below meth c b D ad cy j kc ks 2479 [] w) : RunL p l e s m below meth c b D ad cy j kc ks 611 [] σ := by
  refine l_x hC dL_law_611 ?_
  refine l_two hC (w_undo hI) mvX8_undo lL_63 rfl rfl rfl rfl (Nat.le_of_ble_eq_true rfl) (Nat.le_of_ble_eq_true rfl) hkc hks dL_law_612 (fun x u hu => ?_)
  refine l_m hC dL_law_615 ?_
  exact l_two' hC hu mvX9_undo lL_66 rfl rfl rfl rfl (Nat.le_of_ble_eq_true rfl) (Nat.le_of_ble_eq_true rfl) hkc hks dL_law_616 dL_law_619 (by decide) kk
set_option maxRecDepth 20000 in
theorem case_9 (hC : LX p l s m meth c b L xs D ad cy) (hj : 6 * j + 6 ≤ L) (hkc : kc ≤ 601024) (hks : ks ≤ 7293034) (hI : INV σ) (kk : ∀ w, INV w → RunL p l e s m below meth c b D ad cy j kc ks 2479 [] w) : RunL p l e s m below meth c b D ad cy j kc ks 624 [] σ := by
  refine l_x hC dL_law_624 ?_
  refine l_arg 1 hC hj (by omega) dL_law_625 dL_law_626 dL_law_628 dL_law_629 dL_law_630 ?_
  refine l_arg 2 hC hj (by omega) dL_law_631 dL_law_632 dL_law_634 dL_law_635 dL_law_636 ?_
  refine l_two hC (w_profile hI (agI xs j 1) (agI xs j 2) (ag_R xs j 1) (ag_R xs j 2)) mvX8_profile lL_67 rfl rfl rfl rfl (Nat.le_of_ble_eq_true rfl) (Nat.le_of_ble_eq_true rfl) hkc hks dL_law_637 (fun x u hu => ?_)
  refine l_m hC dL_law_640 ?_
  refine l_arg 1 hC hj (by omega) dL_law_641 dL_law_642 dL_law_644 dL_law_645 dL_law_646 ?_
  refine l_arg 2 hC hj (by omega) dL_law_647 dL_law_648 dL_law_650 dL_law_651 dL_law_652 ?_
  exact l_two' hC hu mvX9_profile lL_70 rfl rfl rfl rfl (Nat.le_of_ble_eq_true rfl) (Nat.le_of_ble_eq_true rfl) hkc hks dL_law_653 dL_law_656 (by decide) kk
set_option maxRecDepth 20000 in
theorem case_10 (hC : LX p l s m meth c b L xs D ad cy) (hj : 6 * j + 6 ≤ L) (hkc : kc ≤ 601024) (hks : ks ≤ 7293034) (hI : INV σ) (kk : ∀ w, INV w → RunL p l e s m below meth c b D ad cy j kc ks 2479 [] w) : RunL p l e s m below meth c b D ad cy j kc ks 661 [] σ := by
  refine l_x hC dL_law_661 ?_
  refine l_arg 1 hC hj (by omega) dL_law_662 dL_law_663 dL_law_665 dL_law_666 dL_law_667 ?_
  refine l_arg 2 hC hj (by omega) dL_law_668 dL_law_669 dL_law_671 dL_law_672 dL_law_673 ?_
  refine l_arg 3 hC hj (by omega) dL_law_674 dL_law_675 dL_law_677 dL_law_678 dL_law_679 ?_
  refine l_arg 4 hC hj (by omega) dL_law_680 dL_law_681 dL_law_683 dL_law_684 dL_law_685 ?_
  refine l_two hC (w_at hI (agI xs j 1) (agI xs j 2) (agI xs j 3) (agI xs j 4) (ag_R xs j 1) (ag_R xs j 2) (ag_R xs j 3) (ag_R xs j 4)) mvX8_at lL_71 rfl rfl rfl rfl (Nat.le_of_ble_eq_true rfl) (Nat.le_of_ble_eq_true rfl) hkc hks dL_law_686 (fun x u hu => ?_)
  refine l_m hC dL_law_689 ?_
  refine l_arg 1 hC hj (by omega) dL_law_690 dL_law_691 dL_law_693 dL_law_694 dL_law_695 ?_
  refine l_arg 2 hC hj (by omega) dL_law_696 dL_law_697 dL_law_699 dL_law_700 dL_law_701 ?_
  refine l_arg 3 hC hj (by omega) dL_law_702 dL_law_703 dL_law_705 dL_law_706 dL_law_707 ?_
  refine l_arg 4 hC hj (by omega) dL_law_708 dL_law_709 dL_law_711 dL_law_712 dL_law_713 ?_
  exact l_two' hC hu mvX9_at lL_75 rfl rfl rfl rfl (Nat.le_of_ble_eq_true rfl) (Nat.le_of_ble_eq_true rfl) hkc hks dL_law_714 dL_law_717 (by decide) kk
set_option maxRecDepth 20000 in
theorem case_11 (hC : LX p l s m meth c b L xs D ad cy) (hj : 6 * j + 6 ≤ L) (hkc : kc ≤ 601024) (hks : ks ≤ 7293034) (hI : INV σ) (kk : ∀ w, INV w → RunL p l e s m below meth c b D ad cy j kc ks 2479 [] w) : RunL p l e s m below meth c b D ad cy j kc ks 722 [] σ := by
  refine l_x hC dL_law_722 ?_
  refine l_arg 1 hC hj (by omega) dL_law_723 dL_law_724 dL_law_726 dL_law_727 dL_law_728 ?_
  refine l_arg 2 hC hj (by omega) dL_law_729 dL_law_730 dL_law_732 dL_law_733 dL_law_734 ?_
  refine l_arg 3 hC hj (by omega) dL_law_735 dL_law_736 dL_law_738 dL_law_739 dL_law_740 ?_
  refine l_arg 4 hC hj (by omega) dL_law_741 dL_law_742 dL_law_744 dL_law_745 dL_law_746 ?_
  refine l_arg 5 hC hj (by omega) dL_law_747 dL_law_748 dL_law_750 dL_law_751 dL_law_752 ?_
  refine l_two hC (w_leg hI (agI xs j 1) (agI xs j 2) (agI xs j 3) (agI xs j 4) (agI xs j 5) (ag_R xs j 1) (ag_R xs j 2) (ag_R xs j 3) (ag_R xs j 4) (ag_R xs j 5)) mvX8_leg lL_76 rfl rfl rfl rfl (Nat.le_of_ble_eq_true rfl) (Nat.le_of_ble_eq_true rfl) hkc hks dL_law_753 (fun x u hu => ?_)
  refine l_m hC dL_law_756 ?_
  refine l_arg 1 hC hj (by omega) dL_law_757 dL_law_758 dL_law_760 dL_law_761 dL_law_762 ?_
  refine l_arg 2 hC hj (by omega) dL_law_763 dL_law_764 dL_law_766 dL_law_767 dL_law_768 ?_
  refine l_arg 3 hC hj (by omega) dL_law_769 dL_law_770 dL_law_772 dL_law_773 dL_law_774 ?_
  refine l_arg 4 hC hj (by omega) dL_law_775 dL_law_776 dL_law_778 dL_law_779 dL_law_780 ?_
  refine l_arg 5 hC hj (by omega) dL_law_781 dL_law_782 dL_law_784 dL_law_785 dL_law_786 ?_
  exact l_two' hC hu mvX9_leg lL_79 rfl rfl rfl rfl (Nat.le_of_ble_eq_true rfl) (Nat.le_of_ble_eq_true rfl) hkc hks dL_law_787 dL_law_790 (by decide) kk
set_option maxRecDepth 20000 in
theorem case_12 (hC : LX p l s m meth c b L xs D ad cy) (hj : 6 * j + 6 ≤ L) (hkc : kc ≤ 601024) (hks : ks ≤ 7293034) (hI : INV σ) (kk : ∀ w, INV w → RunL p l e s m below meth c b D ad cy j kc ks 2479 [] w) : RunL p l e s m below meth c b D ad cy j kc ks 795 [] σ := by
  refine l_x hC dL_law_795 ?_
  refine l_arg 1 hC hj (by omega) dL_law_796 dL_law_797 dL_law_799 dL_law_800 dL_law_801 ?_
  refine l_arg 2 hC hj (by omega) dL_law_802 dL_law_803 dL_law_805 dL_law_806 dL_law_807 ?_
  refine l_arg 3 hC hj (by omega) dL_law_808 dL_law_809 dL_law_811 dL_law_812 dL_law_813 ?_
  refine l_arg 4 hC hj (by omega) dL_law_814 dL_law_815 dL_law_817 dL_law_818 dL_law_819 ?_
  refine l_two hC (w_earliest hI (agI xs j 1) (agI xs j 2) (agI xs j 3) (agI xs j 4) (ag_R xs j 1) (ag_R xs j 2) (ag_R xs j 3) (ag_R xs j 4)) mvX8_earliest lL_80 rfl rfl rfl rfl (Nat.le_of_ble_eq_true rfl) (Nat.le_of_ble_eq_true rfl) hkc hks dL_law_820 (fun x u hu => ?_)
  refine l_m hC dL_law_823 ?_
  refine l_arg 1 hC hj (by omega) dL_law_824 dL_law_825 dL_law_827 dL_law_828 dL_law_829 ?_
  refine l_arg 2 hC hj (by omega) dL_law_830 dL_law_831 dL_law_833 dL_law_834 dL_law_835 ?_
  refine l_arg 3 hC hj (by omega) dL_law_836 dL_law_837 dL_law_839 dL_law_840 dL_law_841 ?_
  refine l_arg 4 hC hj (by omega) dL_law_842 dL_law_843 dL_law_845 dL_law_846 dL_law_847 ?_
  exact l_two' hC hu mvX9_earliest lL_83 rfl rfl rfl rfl (Nat.le_of_ble_eq_true rfl) (Nat.le_of_ble_eq_true rfl) hkc hks dL_law_848 dL_law_851 (by decide) kk
set_option maxRecDepth 20000 in
theorem case_13 (hC : LX p l s m meth c b L xs D ad cy) (hj : 6 * j + 6 ≤ L) (hkc : kc ≤ 601024) (hks : ks ≤ 7293034) (hI : INV σ) (kk : ∀ w, INV w → RunL p l e s m below meth c b D ad cy j kc ks 2479 [] w) : RunL p l e s m below meth c b D ad cy j kc ks 856 [] σ := by
  refine l_x hC dL_law_856 ?_
  refine l_arg 1 hC hj (by omega) dL_law_857 dL_law_858 dL_law_860 dL_law_861 dL_law_862 ?_
  refine l_arg 2 hC hj (by omega) dL_law_863 dL_law_864 dL_law_866 dL_law_867 dL_law_868 ?_
  refine l_arg 3 hC hj (by omega) dL_law_869 dL_law_870 dL_law_872 dL_law_873 dL_law_874 ?_
  refine l_two hC (w_latest hI (agI xs j 1) (agI xs j 2) (agI xs j 3) (ag_R xs j 1) (ag_R xs j 2) (ag_R xs j 3)) mvX8_latest lL_84 rfl rfl rfl rfl (Nat.le_of_ble_eq_true rfl) (Nat.le_of_ble_eq_true rfl) hkc hks dL_law_875 (fun x u hu => ?_)
  refine l_m hC dL_law_878 ?_
  refine l_arg 1 hC hj (by omega) dL_law_879 dL_law_880 dL_law_882 dL_law_883 dL_law_884 ?_
  refine l_arg 2 hC hj (by omega) dL_law_885 dL_law_886 dL_law_888 dL_law_889 dL_law_890 ?_
  refine l_arg 3 hC hj (by omega) dL_law_891 dL_law_892 dL_law_894 dL_law_895 dL_law_896 ?_
  exact l_two' hC hu mvX9_latest lL_87 rfl rfl rfl rfl (Nat.le_of_ble_eq_true rfl) (Nat.le_of_ble_eq_true rfl) hkc hks dL_law_897 dL_law_900 (by decide) kk
set_option maxRecDepth 20000 in
theorem case_14 (hC : LX p l s m meth c b L xs D ad cy) (hj : 6 * j + 6 ≤ L) (hkc : kc ≤ 601024) (hks : ks ≤ 7293034) (hI : INV σ) (kk : ∀ w, INV w → RunL p l e s m below meth c b D ad cy j kc ks 2479 [] w) : RunL p l e s m below meth c b D ad cy j kc ks 905 [] σ := by
  refine l_x hC dL_law_905 ?_
  refine l_arg 1 hC hj (by omega) dL_law_906 dL_law_907 dL_law_909 dL_law_910 dL_law_911 ?_
  refine l_arg 2 hC hj (by omega) dL_law_912 dL_law_913 dL_law_915 dL_law_916 dL_law_917 ?_
  refine l_arg 3 hC hj (by omega) dL_law_918 dL_law_919 dL_law_921 dL_law_922 dL_law_923 ?_
  refine l_two hC (w_reached hI (agI xs j 1) (agI xs j 2) (agI xs j 3) (ag_R xs j 1) (ag_R xs j 2) (ag_R xs j 3)) mvX8_reached lL_88 rfl rfl rfl rfl (Nat.le_of_ble_eq_true rfl) (Nat.le_of_ble_eq_true rfl) hkc hks dL_law_924 (fun x u hu => ?_)
  refine l_m hC dL_law_927 ?_
  refine l_arg 1 hC hj (by omega) dL_law_928 dL_law_929 dL_law_931 dL_law_932 dL_law_933 ?_
  refine l_arg 2 hC hj (by omega) dL_law_934 dL_law_935 dL_law_937 dL_law_938 dL_law_939 ?_
  refine l_arg 3 hC hj (by omega) dL_law_940 dL_law_941 dL_law_943 dL_law_944 dL_law_945 ?_
  exact l_two' hC hu mvX9_reached lL_91 rfl rfl rfl rfl (Nat.le_of_ble_eq_true rfl) (Nat.le_of_ble_eq_true rfl) hkc hks dL_law_946 dL_law_949 (by decide) kk
set_option maxRecDepth 20000 in
theorem case_15 (hC : LX p l s m meth c b L xs D ad cy) (hj : 6 * j + 6 ≤ L) (hkc : kc ≤ 601024) (hks : ks ≤ 7293034) (hI : INV σ) (kk : ∀ w, INV w → RunL p l e s m below meth c b D ad cy j kc ks 2479 [] w) : RunL p l e s m below meth c b D ad cy j kc ks 954 [] σ := by
  refine l_x hC dL_law_954 ?_
  refine l_arg 1 hC hj (by omega) dL_law_955 dL_law_956 dL_law_958 dL_law_959 dL_law_960 ?_
  refine l_arg 2 hC hj (by omega) dL_law_961 dL_law_962 dL_law_964 dL_law_965 dL_law_966 ?_
  refine l_arg 3 hC hj (by omega) dL_law_967 dL_law_968 dL_law_970 dL_law_971 dL_law_972 ?_
  refine l_arg 4 hC hj (by omega) dL_law_973 dL_law_974 dL_law_976 dL_law_977 dL_law_978 ?_
  refine l_two hC (w_costOfFewer hI (agI xs j 1) (agI xs j 2) (agI xs j 3) (agI xs j 4) (ag_R xs j 1) (ag_R xs j 2) (ag_R xs j 3) (ag_R xs j 4)) mvX8_costOfFewer lL_92 rfl rfl rfl rfl (Nat.le_of_ble_eq_true rfl) (Nat.le_of_ble_eq_true rfl) hkc hks dL_law_979 (fun x u hu => ?_)
  refine l_m hC dL_law_982 ?_
  refine l_arg 1 hC hj (by omega) dL_law_983 dL_law_984 dL_law_986 dL_law_987 dL_law_988 ?_
  refine l_arg 2 hC hj (by omega) dL_law_989 dL_law_990 dL_law_992 dL_law_993 dL_law_994 ?_
  refine l_arg 3 hC hj (by omega) dL_law_995 dL_law_996 dL_law_998 dL_law_999 dL_law_1000 ?_
  refine l_arg 4 hC hj (by omega) dL_law_1001 dL_law_1002 dL_law_1004 dL_law_1005 dL_law_1006 ?_
  exact l_two' hC hu mvX9_costOfFewer lL_95 rfl rfl rfl rfl (Nat.le_of_ble_eq_true rfl) (Nat.le_of_ble_eq_true rfl) hkc hks dL_law_1007 dL_law_1010 (by decide) kk
set_option maxRecDepth 20000 in
theorem case_16 (hC : LX p l s m meth c b L xs D ad cy) (hj : 6 * j + 6 ≤ L) (hkc : kc ≤ 601024) (hks : ks ≤ 7293034) (hI : INV σ) (kk : ∀ w, INV w → RunL p l e s m below meth c b D ad cy j kc ks 2479 [] w) : RunL p l e s m below meth c b D ad cy j kc ks 1015 [] σ := by
  refine l_x hC dL_law_1015 ?_
  refine l_arg 1 hC hj (by omega) dL_law_1016 dL_law_1017 dL_law_1019 dL_law_1020 dL_law_1021 ?_
  refine l_arg 2 hC hj (by omega) dL_law_1022 dL_law_1023 dL_law_1025 dL_law_1026 dL_law_1027 ?_
  refine l_arg 3 hC hj (by omega) dL_law_1028 dL_law_1029 dL_law_1031 dL_law_1032 dL_law_1033 ?_
  refine l_arg 4 hC hj (by omega) dL_law_1034 dL_law_1035 dL_law_1037 dL_law_1038 dL_law_1039 ?_
  refine l_two hC (w_mean hI (agI xs j 1) (agI xs j 2) (agI xs j 3) (agI xs j 4) (ag_R xs j 1) (ag_R xs j 2) (ag_R xs j 3) (ag_R xs j 4)) mvX8_mean lL_96 rfl rfl rfl rfl (Nat.le_of_ble_eq_true rfl) (Nat.le_of_ble_eq_true rfl) hkc hks dL_law_1040 (fun x u hu => ?_)
  refine l_m hC dL_law_1043 ?_
  refine l_arg 1 hC hj (by omega) dL_law_1044 dL_law_1045 dL_law_1047 dL_law_1048 dL_law_1049 ?_
  refine l_arg 2 hC hj (by omega) dL_law_1050 dL_law_1051 dL_law_1053 dL_law_1054 dL_law_1055 ?_
  refine l_arg 3 hC hj (by omega) dL_law_1056 dL_law_1057 dL_law_1059 dL_law_1060 dL_law_1061 ?_
  refine l_arg 4 hC hj (by omega) dL_law_1062 dL_law_1063 dL_law_1065 dL_law_1066 dL_law_1067 ?_
  exact l_two' hC hu mvX9_mean lL_99 rfl rfl rfl rfl (Nat.le_of_ble_eq_true rfl) (Nat.le_of_ble_eq_true rfl) hkc hks dL_law_1068 dL_law_1071 (by decide) kk
set_option maxRecDepth 20000 in
theorem case_17 (hC : LX p l s m meth c b L xs D ad cy) (hj : 6 * j + 6 ≤ L) (hkc : kc ≤ 601024) (hks : ks ≤ 7293034) (hI : INV σ) (kk : ∀ w, INV w → RunL p l e s m below meth c b D ad cy j kc ks 2479 [] w) : RunL p l e s m below meth c b D ad cy j kc ks 1076 [] σ := by
  refine l_x hC dL_law_1076 ?_
  refine l_arg 1 hC hj (by omega) dL_law_1077 dL_law_1078 dL_law_1080 dL_law_1081 dL_law_1082 ?_
  refine l_arg 2 hC hj (by omega) dL_law_1083 dL_law_1084 dL_law_1086 dL_law_1087 dL_law_1088 ?_
  refine l_arg 3 hC hj (by omega) dL_law_1089 dL_law_1090 dL_law_1092 dL_law_1093 dL_law_1094 ?_
  refine l_arg 4 hC hj (by omega) dL_law_1095 dL_law_1096 dL_law_1098 dL_law_1099 dL_law_1100 ?_
  refine l_two hC (w_late hI (agI xs j 1) (agI xs j 2) (agI xs j 3) (agI xs j 4) (ag_R xs j 1) (ag_R xs j 2) (ag_R xs j 3) (ag_R xs j 4)) mvX8_late lL_100 rfl rfl rfl rfl (Nat.le_of_ble_eq_true rfl) (Nat.le_of_ble_eq_true rfl) hkc hks dL_law_1101 (fun x u hu => ?_)
  refine l_m hC dL_law_1104 ?_
  refine l_arg 1 hC hj (by omega) dL_law_1105 dL_law_1106 dL_law_1108 dL_law_1109 dL_law_1110 ?_
  refine l_arg 2 hC hj (by omega) dL_law_1111 dL_law_1112 dL_law_1114 dL_law_1115 dL_law_1116 ?_
  refine l_arg 3 hC hj (by omega) dL_law_1117 dL_law_1118 dL_law_1120 dL_law_1121 dL_law_1122 ?_
  refine l_arg 4 hC hj (by omega) dL_law_1123 dL_law_1124 dL_law_1126 dL_law_1127 dL_law_1128 ?_
  exact l_two' hC hu mvX9_late lL_103 rfl rfl rfl rfl (Nat.le_of_ble_eq_true rfl) (Nat.le_of_ble_eq_true rfl) hkc hks dL_law_1129 dL_law_1132 (by decide) kk
set_option maxRecDepth 20000 in
theorem case_18 (hC : LX p l s m meth c b L xs D ad cy) (hj : 6 * j + 6 ≤ L) (hkc : kc ≤ 601024) (hks : ks ≤ 7293034) (hI : INV σ) (kk : ∀ w, INV w → RunL p l e s m below meth c b D ad cy j kc ks 2479 [] w) : RunL p l e s m below meth c b D ad cy j kc ks 1137 [] σ := by
  refine l_x hC dL_law_1137 ?_
  refine l_arg 1 hC hj (by omega) dL_law_1138 dL_law_1139 dL_law_1141 dL_law_1142 dL_law_1143 ?_
  refine l_arg 2 hC hj (by omega) dL_law_1144 dL_law_1145 dL_law_1147 dL_law_1148 dL_law_1149 ?_
  refine l_arg 3 hC hj (by omega) dL_law_1150 dL_law_1151 dL_law_1153 dL_law_1154 dL_law_1155 ?_
  refine l_arg 4 hC hj (by omega) dL_law_1156 dL_law_1157 dL_law_1159 dL_law_1160 dL_law_1161 ?_
  refine l_two hC (w_missed hI (agI xs j 1) (agI xs j 2) (agI xs j 3) (agI xs j 4) (ag_R xs j 1) (ag_R xs j 2) (ag_R xs j 3) (ag_R xs j 4)) mvX8_missed lL_104 rfl rfl rfl rfl (Nat.le_of_ble_eq_true rfl) (Nat.le_of_ble_eq_true rfl) hkc hks dL_law_1162 (fun x u hu => ?_)
  refine l_m hC dL_law_1165 ?_
  refine l_arg 1 hC hj (by omega) dL_law_1166 dL_law_1167 dL_law_1169 dL_law_1170 dL_law_1171 ?_
  refine l_arg 2 hC hj (by omega) dL_law_1172 dL_law_1173 dL_law_1175 dL_law_1176 dL_law_1177 ?_
  refine l_arg 3 hC hj (by omega) dL_law_1178 dL_law_1179 dL_law_1181 dL_law_1182 dL_law_1183 ?_
  refine l_arg 4 hC hj (by omega) dL_law_1184 dL_law_1185 dL_law_1187 dL_law_1188 dL_law_1189 ?_
  exact l_two' hC hu mvX9_missed lL_107 rfl rfl rfl rfl (Nat.le_of_ble_eq_true rfl) (Nat.le_of_ble_eq_true rfl) hkc hks dL_law_1190 dL_law_1193 (by decide) kk
set_option maxRecDepth 20000 in
theorem case_19 (hC : LX p l s m meth c b L xs D ad cy) (hj : 6 * j + 6 ≤ L) (hkc : kc ≤ 601024) (hks : ks ≤ 7293034) (hI : INV σ) (kk : ∀ w, INV w → RunL p l e s m below meth c b D ad cy j kc ks 2479 [] w) : RunL p l e s m below meth c b D ad cy j kc ks 1198 [] σ := by
  refine l_x hC dL_law_1198 ?_
  refine l_arg 1 hC hj (by omega) dL_law_1199 dL_law_1200 dL_law_1202 dL_law_1203 dL_law_1204 ?_
  refine l_arg 2 hC hj (by omega) dL_law_1205 dL_law_1206 dL_law_1208 dL_law_1209 dL_law_1210 ?_
  refine l_arg 3 hC hj (by omega) dL_law_1211 dL_law_1212 dL_law_1214 dL_law_1215 dL_law_1216 ?_
  refine l_arg 4 hC hj (by omega) dL_law_1217 dL_law_1218 dL_law_1220 dL_law_1221 dL_law_1222 ?_
  refine l_arg 5 hC hj (by omega) dL_law_1223 dL_law_1224 dL_law_1226 dL_law_1227 dL_law_1228 ?_
  refine l_two hC (w_ifLate hI (agI xs j 1) (agI xs j 2) (agI xs j 3) (agI xs j 4) (agI xs j 5) (ag_R xs j 1) (ag_R xs j 2) (ag_R xs j 3) (ag_R xs j 4) (ag_R xs j 5)) mvX8_ifLate lL_108 rfl rfl rfl rfl (Nat.le_of_ble_eq_true rfl) (Nat.le_of_ble_eq_true rfl) hkc hks dL_law_1229 (fun x u hu => ?_)
  refine l_m hC dL_law_1232 ?_
  refine l_arg 1 hC hj (by omega) dL_law_1233 dL_law_1234 dL_law_1236 dL_law_1237 dL_law_1238 ?_
  refine l_arg 2 hC hj (by omega) dL_law_1239 dL_law_1240 dL_law_1242 dL_law_1243 dL_law_1244 ?_
  refine l_arg 3 hC hj (by omega) dL_law_1245 dL_law_1246 dL_law_1248 dL_law_1249 dL_law_1250 ?_
  refine l_arg 4 hC hj (by omega) dL_law_1251 dL_law_1252 dL_law_1254 dL_law_1255 dL_law_1256 ?_
  refine l_arg 5 hC hj (by omega) dL_law_1257 dL_law_1258 dL_law_1260 dL_law_1261 dL_law_1262 ?_
  exact l_two' hC hu mvX9_ifLate lL_111 rfl rfl rfl rfl (Nat.le_of_ble_eq_true rfl) (Nat.le_of_ble_eq_true rfl) hkc hks dL_law_1263 dL_law_1266 (by decide) kk
set_option maxRecDepth 20000 in
theorem case_20 (hC : LX p l s m meth c b L xs D ad cy) (hj : 6 * j + 6 ≤ L) (hkc : kc ≤ 601024) (hks : ks ≤ 7293034) (hI : INV σ) (kk : ∀ w, INV w → RunL p l e s m below meth c b D ad cy j kc ks 2479 [] w) : RunL p l e s m below meth c b D ad cy j kc ks 1271 [] σ := by
  refine l_x hC dL_law_1271 ?_
  refine l_arg 1 hC hj (by omega) dL_law_1272 dL_law_1273 dL_law_1275 dL_law_1276 dL_law_1277 ?_
  refine l_arg 2 hC hj (by omega) dL_law_1278 dL_law_1279 dL_law_1281 dL_law_1282 dL_law_1283 ?_
  refine l_two hC (w_uses hI (agI xs j 1) (agI xs j 2) (ag_R xs j 1) (ag_R xs j 2)) mvX8_uses lL_112 rfl rfl rfl rfl (Nat.le_of_ble_eq_true rfl) (Nat.le_of_ble_eq_true rfl) hkc hks dL_law_1284 (fun x u hu => ?_)
  refine l_m hC dL_law_1287 ?_
  refine l_arg 1 hC hj (by omega) dL_law_1288 dL_law_1289 dL_law_1291 dL_law_1292 dL_law_1293 ?_
  refine l_arg 2 hC hj (by omega) dL_law_1294 dL_law_1295 dL_law_1297 dL_law_1298 dL_law_1299 ?_
  exact l_two' hC hu mvX9_uses lL_115 rfl rfl rfl rfl (Nat.le_of_ble_eq_true rfl) (Nat.le_of_ble_eq_true rfl) hkc hks dL_law_1300 dL_law_1303 (by decide) kk
set_option maxRecDepth 20000 in
theorem case_21 (hC : LX p l s m meth c b L xs D ad cy) (hj : 6 * j + 6 ≤ L) (hkc : kc ≤ 601024) (hks : ks ≤ 7293034) (hI : INV σ) (kk : ∀ w, INV w → RunL p l e s m below meth c b D ad cy j kc ks 2479 [] w) : RunL p l e s m below meth c b D ad cy j kc ks 1308 [] σ := by
  refine l_x hC dL_law_1308 ?_
  refine l_arg 1 hC hj (by omega) dL_law_1309 dL_law_1310 dL_law_1312 dL_law_1313 dL_law_1314 ?_
  refine l_arg 2 hC hj (by omega) dL_law_1315 dL_law_1316 dL_law_1318 dL_law_1319 dL_law_1320 ?_
  refine l_arg 3 hC hj (by omega) dL_law_1321 dL_law_1322 dL_law_1324 dL_law_1325 dL_law_1326 ?_
  refine l_two hC (w_profileBy hI (agI xs j 1) (agI xs j 2) (agI xs j 3) (ag_R xs j 1) (ag_R xs j 2) (ag_R xs j 3)) mvX8_profileBy lL_116 rfl rfl rfl rfl (Nat.le_of_ble_eq_true rfl) (Nat.le_of_ble_eq_true rfl) hkc hks dL_law_1327 (fun x u hu => ?_)
  refine l_m hC dL_law_1330 ?_
  refine l_arg 1 hC hj (by omega) dL_law_1331 dL_law_1332 dL_law_1334 dL_law_1335 dL_law_1336 ?_
  refine l_arg 2 hC hj (by omega) dL_law_1337 dL_law_1338 dL_law_1340 dL_law_1341 dL_law_1342 ?_
  refine l_arg 3 hC hj (by omega) dL_law_1343 dL_law_1344 dL_law_1346 dL_law_1347 dL_law_1348 ?_
  exact l_two' hC hu mvX9_profileBy lL_119 rfl rfl rfl rfl (Nat.le_of_ble_eq_true rfl) (Nat.le_of_ble_eq_true rfl) hkc hks dL_law_1349 dL_law_1352 (by decide) kk
set_option maxRecDepth 20000 in
theorem case_22 (hC : LX p l s m meth c b L xs D ad cy) (hj : 6 * j + 6 ≤ L) (hkc : kc ≤ 601024) (hks : ks ≤ 7293034) (hI : INV σ) (kk : ∀ w, INV w → RunL p l e s m below meth c b D ad cy j kc ks 2479 [] w) : RunL p l e s m below meth c b D ad cy j kc ks 1357 [] σ := by
  refine l_x hC dL_law_1357 ?_
  refine l_arg 1 hC hj (by omega) dL_law_1358 dL_law_1359 dL_law_1361 dL_law_1362 dL_law_1363 ?_
  refine l_arg 2 hC hj (by omega) dL_law_1364 dL_law_1365 dL_law_1367 dL_law_1368 dL_law_1369 ?_
  refine l_arg 3 hC hj (by omega) dL_law_1370 dL_law_1371 dL_law_1373 dL_law_1374 dL_law_1375 ?_
  refine l_arg 4 hC hj (by omega) dL_law_1376 dL_law_1377 dL_law_1379 dL_law_1380 dL_law_1381 ?_
  refine l_arg 5 hC hj (by omega) dL_law_1382 dL_law_1383 dL_law_1385 dL_law_1386 dL_law_1387 ?_
  refine l_two hC (w_atBy hI (agI xs j 1) (agI xs j 2) (agI xs j 3) (agI xs j 4) (agI xs j 5) (ag_R xs j 1) (ag_R xs j 2) (ag_R xs j 3) (ag_R xs j 4) (ag_R xs j 5)) mvX8_atBy lL_120 rfl rfl rfl rfl (Nat.le_of_ble_eq_true rfl) (Nat.le_of_ble_eq_true rfl) hkc hks dL_law_1388 (fun x u hu => ?_)
  refine l_m hC dL_law_1391 ?_
  refine l_arg 1 hC hj (by omega) dL_law_1392 dL_law_1393 dL_law_1395 dL_law_1396 dL_law_1397 ?_
  refine l_arg 2 hC hj (by omega) dL_law_1398 dL_law_1399 dL_law_1401 dL_law_1402 dL_law_1403 ?_
  refine l_arg 3 hC hj (by omega) dL_law_1404 dL_law_1405 dL_law_1407 dL_law_1408 dL_law_1409 ?_
  refine l_arg 4 hC hj (by omega) dL_law_1410 dL_law_1411 dL_law_1413 dL_law_1414 dL_law_1415 ?_
  refine l_arg 5 hC hj (by omega) dL_law_1416 dL_law_1417 dL_law_1419 dL_law_1420 dL_law_1421 ?_
  exact l_two' hC hu mvX9_atBy lL_123 rfl rfl rfl rfl (Nat.le_of_ble_eq_true rfl) (Nat.le_of_ble_eq_true rfl) hkc hks dL_law_1422 dL_law_1425 (by decide) kk
set_option maxRecDepth 20000 in
theorem case_23 (hC : LX p l s m meth c b L xs D ad cy) (hj : 6 * j + 6 ≤ L) (hkc : kc ≤ 601024) (hks : ks ≤ 7293034) (hI : INV σ) (kk : ∀ w, INV w → RunL p l e s m below meth c b D ad cy j kc ks 2479 [] w) : RunL p l e s m below meth c b D ad cy j kc ks 1430 [] σ := by
  refine l_x hC dL_law_1430 ?_
  refine l_arg 1 hC hj (by omega) dL_law_1431 dL_law_1432 dL_law_1434 dL_law_1435 dL_law_1436 ?_
  refine l_arg 2 hC hj (by omega) dL_law_1437 dL_law_1438 dL_law_1440 dL_law_1441 dL_law_1442 ?_
  refine l_arg 3 hC hj (by omega) dL_law_1443 dL_law_1444 dL_law_1446 dL_law_1447 dL_law_1448 ?_
  refine l_arg 4 hC hj (by omega) dL_law_1449 dL_law_1450 dL_law_1452 dL_law_1453 dL_law_1454 ?_
  refine l_two hC (w_waits hI (agI xs j 1) (agI xs j 2) (agI xs j 3) (agI xs j 4) (ag_R xs j 1) (ag_R xs j 2) (ag_R xs j 3) (ag_R xs j 4)) mvX8_waits lL_124 rfl rfl rfl rfl (Nat.le_of_ble_eq_true rfl) (Nat.le_of_ble_eq_true rfl) hkc hks dL_law_1455 (fun x u hu => ?_)
  refine l_m hC dL_law_1458 ?_
  refine l_arg 1 hC hj (by omega) dL_law_1459 dL_law_1460 dL_law_1462 dL_law_1463 dL_law_1464 ?_
  refine l_arg 2 hC hj (by omega) dL_law_1465 dL_law_1466 dL_law_1468 dL_law_1469 dL_law_1470 ?_
  refine l_arg 3 hC hj (by omega) dL_law_1471 dL_law_1472 dL_law_1474 dL_law_1475 dL_law_1476 ?_
  refine l_arg 4 hC hj (by omega) dL_law_1477 dL_law_1478 dL_law_1480 dL_law_1481 dL_law_1482 ?_
  exact l_two' hC hu mvX9_waits lL_127 rfl rfl rfl rfl (Nat.le_of_ble_eq_true rfl) (Nat.le_of_ble_eq_true rfl) hkc hks dL_law_1483 dL_law_1486 (by decide) kk
set_option maxRecDepth 20000 in
theorem case_24 (hC : LX p l s m meth c b L xs D ad cy) (hj : 6 * j + 6 ≤ L) (hkc : kc ≤ 601024) (hks : ks ≤ 7293034) (hI : INV σ) (kk : ∀ w, INV w → RunL p l e s m below meth c b D ad cy j kc ks 2479 [] w) : RunL p l e s m below meth c b D ad cy j kc ks 1491 [] σ := by
  refine l_x hC dL_law_1491 ?_
  refine l_arg 1 hC hj (by omega) dL_law_1492 dL_law_1493 dL_law_1495 dL_law_1496 dL_law_1497 ?_
  refine l_two hC (w_hub hI (agI xs j 1) (ag_R xs j 1)) mvX8_hub lL_128 rfl rfl rfl rfl (Nat.le_of_ble_eq_true rfl) (Nat.le_of_ble_eq_true rfl) hkc hks dL_law_1498 (fun x u hu => ?_)
  refine l_m hC dL_law_1501 ?_
  refine l_arg 1 hC hj (by omega) dL_law_1502 dL_law_1503 dL_law_1505 dL_law_1506 dL_law_1507 ?_
  exact l_two' hC hu mvX9_hub lL_131 rfl rfl rfl rfl (Nat.le_of_ble_eq_true rfl) (Nat.le_of_ble_eq_true rfl) hkc hks dL_law_1508 dL_law_1511 (by decide) kk
set_option maxRecDepth 20000 in
theorem case_25 (hC : LX p l s m meth c b L xs D ad cy) (hj : 6 * j + 6 ≤ L) (hkc : kc ≤ 601024) (hks : ks ≤ 7293034) (hI : INV σ) (kk : ∀ w, INV w → RunL p l e s m below meth c b D ad cy j kc ks 2479 [] w) : RunL p l e s m below meth c b D ad cy j kc ks 1516 [] σ := by
  refine l_x hC dL_law_1516 ?_
  refine l_arg 1 hC hj (by omega) dL_law_1517 dL_law_1518 dL_law_1520 dL_law_1521 dL_law_1522 ?_
  refine l_arg 2 hC hj (by omega) dL_law_1523 dL_law_1524 dL_law_1526 dL_law_1527 dL_law_1528 ?_
  refine l_two hC (w_gap hI (agI xs j 1) (agI xs j 2) (ag_R xs j 1) (ag_R xs j 2)) mvX8_gap lL_132 rfl rfl rfl rfl (Nat.le_of_ble_eq_true rfl) (Nat.le_of_ble_eq_true rfl) hkc hks dL_law_1529 (fun x u hu => ?_)
  refine l_m hC dL_law_1532 ?_
  refine l_arg 1 hC hj (by omega) dL_law_1533 dL_law_1534 dL_law_1536 dL_law_1537 dL_law_1538 ?_
  refine l_arg 2 hC hj (by omega) dL_law_1539 dL_law_1540 dL_law_1542 dL_law_1543 dL_law_1544 ?_
  exact l_two' hC hu mvX9_gap lL_135 rfl rfl rfl rfl (Nat.le_of_ble_eq_true rfl) (Nat.le_of_ble_eq_true rfl) hkc hks dL_law_1545 dL_law_1548 (by decide) kk
set_option maxRecDepth 20000 in
theorem case_26 (hC : LX p l s m meth c b L xs D ad cy) (hj : 6 * j + 6 ≤ L) (hkc : kc ≤ 601024) (hks : ks ≤ 7293034) (hI : INV σ) (kk : ∀ w, INV w → RunL p l e s m below meth c b D ad cy j kc ks 2479 [] w) : RunL p l e s m below meth c b D ad cy j kc ks 1553 [] σ := by
  refine l_x hC dL_law_1553 ?_
  refine l_arg 1 hC hj (by omega) dL_law_1554 dL_law_1555 dL_law_1557 dL_law_1558 dL_law_1559 ?_
  refine l_arg 2 hC hj (by omega) dL_law_1560 dL_law_1561 dL_law_1563 dL_law_1564 dL_law_1565 ?_
  refine l_arg 3 hC hj (by omega) dL_law_1566 dL_law_1567 dL_law_1569 dL_law_1570 dL_law_1571 ?_
  refine l_arg 4 hC hj (by omega) dL_law_1572 dL_law_1573 dL_law_1575 dL_law_1576 dL_law_1577 ?_
  refine l_two hC (w_meet hI (agI xs j 1) (agI xs j 2) (agI xs j 3) (agI xs j 4) (ag_R xs j 1) (ag_R xs j 2) (ag_R xs j 3) (ag_R xs j 4)) mvX8_meet lL_136 rfl rfl rfl rfl (Nat.le_of_ble_eq_true rfl) (Nat.le_of_ble_eq_true rfl) hkc hks dL_law_1578 (fun x u hu => ?_)
  refine l_m hC dL_law_1581 ?_
  refine l_arg 1 hC hj (by omega) dL_law_1582 dL_law_1583 dL_law_1585 dL_law_1586 dL_law_1587 ?_
  refine l_arg 2 hC hj (by omega) dL_law_1588 dL_law_1589 dL_law_1591 dL_law_1592 dL_law_1593 ?_
  refine l_arg 3 hC hj (by omega) dL_law_1594 dL_law_1595 dL_law_1597 dL_law_1598 dL_law_1599 ?_
  refine l_arg 4 hC hj (by omega) dL_law_1600 dL_law_1601 dL_law_1603 dL_law_1604 dL_law_1605 ?_
  exact l_two' hC hu mvX9_meet lL_139 rfl rfl rfl rfl (Nat.le_of_ble_eq_true rfl) (Nat.le_of_ble_eq_true rfl) hkc hks dL_law_1606 dL_law_1609 (by decide) kk
set_option maxRecDepth 20000 in
theorem case_27 (hC : LX p l s m meth c b L xs D ad cy) (hj : 6 * j + 6 ≤ L) (hkc : kc ≤ 601024) (hks : ks ≤ 7293034) (hI : INV σ) (kk : ∀ w, INV w → RunL p l e s m below meth c b D ad cy j kc ks 2479 [] w) : RunL p l e s m below meth c b D ad cy j kc ks 1614 [] σ := by
  refine l_x hC dL_law_1614 ?_
  refine l_arg 1 hC hj (by omega) dL_law_1615 dL_law_1616 dL_law_1618 dL_law_1619 dL_law_1620 ?_
  refine l_arg 2 hC hj (by omega) dL_law_1621 dL_law_1622 dL_law_1624 dL_law_1625 dL_law_1626 ?_
  refine l_arg 3 hC hj (by omega) dL_law_1627 dL_law_1628 dL_law_1630 dL_law_1631 dL_law_1632 ?_
  refine l_arg 4 hC hj (by omega) dL_law_1633 dL_law_1634 dL_law_1636 dL_law_1637 dL_law_1638 ?_
  refine l_two hC (w_via hI (agI xs j 1) (agI xs j 2) (agI xs j 3) (agI xs j 4) (ag_R xs j 1) (ag_R xs j 2) (ag_R xs j 3) (ag_R xs j 4)) mvX8_via lL_140 rfl rfl rfl rfl (Nat.le_of_ble_eq_true rfl) (Nat.le_of_ble_eq_true rfl) hkc hks dL_law_1639 (fun x u hu => ?_)
  refine l_m hC dL_law_1642 ?_
  refine l_arg 1 hC hj (by omega) dL_law_1643 dL_law_1644 dL_law_1646 dL_law_1647 dL_law_1648 ?_
  refine l_arg 2 hC hj (by omega) dL_law_1649 dL_law_1650 dL_law_1652 dL_law_1653 dL_law_1654 ?_
  refine l_arg 3 hC hj (by omega) dL_law_1655 dL_law_1656 dL_law_1658 dL_law_1659 dL_law_1660 ?_
  refine l_arg 4 hC hj (by omega) dL_law_1661 dL_law_1662 dL_law_1664 dL_law_1665 dL_law_1666 ?_
  exact l_two' hC hu mvX9_via lL_143 rfl rfl rfl rfl (Nat.le_of_ble_eq_true rfl) (Nat.le_of_ble_eq_true rfl) hkc hks dL_law_1667 dL_law_1670 (by decide) kk
set_option maxRecDepth 20000 in
theorem case_28 (hC : LX p l s m meth c b L xs D ad cy) (hj : 6 * j + 6 ≤ L) (hkc : kc ≤ 601024) (hks : ks ≤ 7293034) (hI : INV σ) (kk : ∀ w, INV w → RunL p l e s m below meth c b D ad cy j kc ks 2479 [] w) : RunL p l e s m below meth c b D ad cy j kc ks 1675 [] σ := by
  refine l_x hC dL_law_1675 ?_
  refine l_arg 1 hC hj (by omega) dL_law_1676 dL_law_1677 dL_law_1679 dL_law_1680 dL_law_1681 ?_
  refine l_arg 2 hC hj (by omega) dL_law_1682 dL_law_1683 dL_law_1685 dL_law_1686 dL_law_1687 ?_
  refine l_arg 3 hC hj (by omega) dL_law_1688 dL_law_1689 dL_law_1691 dL_law_1692 dL_law_1693 ?_
  refine l_arg 4 hC hj (by omega) dL_law_1694 dL_law_1695 dL_law_1697 dL_law_1698 dL_law_1699 ?_
  refine l_two hC (w_stay hI (agI xs j 1) (agI xs j 2) (agI xs j 3) (agI xs j 4) (ag_R xs j 1) (ag_R xs j 2) (ag_R xs j 3) (ag_R xs j 4)) mvX8_stay lL_144 rfl rfl rfl rfl (Nat.le_of_ble_eq_true rfl) (Nat.le_of_ble_eq_true rfl) hkc hks dL_law_1700 (fun x u hu => ?_)
  refine l_m hC dL_law_1703 ?_
  refine l_arg 1 hC hj (by omega) dL_law_1704 dL_law_1705 dL_law_1707 dL_law_1708 dL_law_1709 ?_
  refine l_arg 2 hC hj (by omega) dL_law_1710 dL_law_1711 dL_law_1713 dL_law_1714 dL_law_1715 ?_
  refine l_arg 3 hC hj (by omega) dL_law_1716 dL_law_1717 dL_law_1719 dL_law_1720 dL_law_1721 ?_
  refine l_arg 4 hC hj (by omega) dL_law_1722 dL_law_1723 dL_law_1725 dL_law_1726 dL_law_1727 ?_
  exact l_two' hC hu mvX9_stay lL_147 rfl rfl rfl rfl (Nat.le_of_ble_eq_true rfl) (Nat.le_of_ble_eq_true rfl) hkc hks dL_law_1728 dL_law_1731 (by decide) kk
set_option maxRecDepth 20000 in
theorem case_29 (hC : LX p l s m meth c b L xs D ad cy) (hj : 6 * j + 6 ≤ L) (hkc : kc ≤ 601024) (hks : ks ≤ 7293034) (hI : INV σ) (kk : ∀ w, INV w → RunL p l e s m below meth c b D ad cy j kc ks 2479 [] w) : RunL p l e s m below meth c b D ad cy j kc ks 1736 [] σ := by
  refine l_x hC dL_law_1736 ?_
  refine l_arg 1 hC hj (by omega) dL_law_1737 dL_law_1738 dL_law_1740 dL_law_1741 dL_law_1742 ?_
  refine l_arg 2 hC hj (by omega) dL_law_1743 dL_law_1744 dL_law_1746 dL_law_1747 dL_law_1748 ?_
  refine l_arg 3 hC hj (by omega) dL_law_1749 dL_law_1750 dL_law_1752 dL_law_1753 dL_law_1754 ?_
  refine l_bool hC (ag_R xs j 3) dL_law_1755 dL_law_1758 dL_law_1759 dL_law_1762 ?_
  refine l_arg 4 hC hj (by omega) dL_law_1763 dL_law_1764 dL_law_1766 dL_law_1767 dL_law_1768 ?_
  refine l_two hC (w_board hI (agI xs j 1) (agI xs j 2) (if agI xs j 3 = 0 then 0 else 1) (agI xs j 4) (ag_R xs j 1) (ag_R xs j 2) (by by_cases z : agI xs j 3 = 0; exact Or.inl (if_pos z); exact Or.inr (if_neg z)) (ag_R xs j 4)) mvX8_board lL_148 rfl rfl rfl rfl (Nat.le_of_ble_eq_true rfl) (Nat.le_of_ble_eq_true rfl) hkc hks dL_law_1769 (fun x u hu => ?_)
  refine l_m hC dL_law_1772 ?_
  refine l_arg 1 hC hj (by omega) dL_law_1773 dL_law_1774 dL_law_1776 dL_law_1777 dL_law_1778 ?_
  refine l_arg 2 hC hj (by omega) dL_law_1779 dL_law_1780 dL_law_1782 dL_law_1783 dL_law_1784 ?_
  refine l_arg 3 hC hj (by omega) dL_law_1785 dL_law_1786 dL_law_1788 dL_law_1789 dL_law_1790 ?_
  refine l_bool hC (ag_R xs j 3) dL_law_1791 dL_law_1794 dL_law_1795 dL_law_1798 ?_
  refine l_arg 4 hC hj (by omega) dL_law_1799 dL_law_1800 dL_law_1802 dL_law_1803 dL_law_1804 ?_
  exact l_two' hC hu mvX9_board lL_152 rfl rfl rfl rfl (Nat.le_of_ble_eq_true rfl) (Nat.le_of_ble_eq_true rfl) hkc hks dL_law_1805 dL_law_1808 (by decide) kk
set_option maxRecDepth 20000 in
theorem case_30 (hC : LX p l s m meth c b L xs D ad cy) (hj : 6 * j + 6 ≤ L) (hkc : kc ≤ 601024) (hks : ks ≤ 7293034) (hI : INV σ) (kk : ∀ w, INV w → RunL p l e s m below meth c b D ad cy j kc ks 2479 [] w) : RunL p l e s m below meth c b D ad cy j kc ks 1813 [] σ := by
  refine l_x hC dL_law_1813 ?_
  refine l_arg 1 hC hj (by omega) dL_law_1814 dL_law_1815 dL_law_1817 dL_law_1818 dL_law_1819 ?_
  refine l_arg 2 hC hj (by omega) dL_law_1820 dL_law_1821 dL_law_1823 dL_law_1824 dL_law_1825 ?_
  refine l_two hC (w_slack hI (agI xs j 1) (agI xs j 2) (ag_R xs j 1) (ag_R xs j 2)) mvX8_slack lL_153 rfl rfl rfl rfl (Nat.le_of_ble_eq_true rfl) (Nat.le_of_ble_eq_true rfl) hkc hks dL_law_1826 (fun x u hu => ?_)
  refine l_m hC dL_law_1829 ?_
  refine l_arg 1 hC hj (by omega) dL_law_1830 dL_law_1831 dL_law_1833 dL_law_1834 dL_law_1835 ?_
  refine l_arg 2 hC hj (by omega) dL_law_1836 dL_law_1837 dL_law_1839 dL_law_1840 dL_law_1841 ?_
  exact l_two' hC hu mvX9_slack_ lL_156 rfl rfl rfl rfl (Nat.le_of_ble_eq_true rfl) (Nat.le_of_ble_eq_true rfl) hkc hks dL_law_1842 dL_law_1845 (by decide) kk
set_option maxRecDepth 20000 in
theorem case_31 (hC : LX p l s m meth c b L xs D ad cy) (hj : 6 * j + 6 ≤ L) (hkc : kc ≤ 601024) (hks : ks ≤ 7293034) (hI : INV σ) (kk : ∀ w, INV w → RunL p l e s m below meth c b D ad cy j kc ks 2479 [] w) : RunL p l e s m below meth c b D ad cy j kc ks 1850 [] σ := by
  refine l_x hC dL_law_1850 ?_
  refine l_arg 1 hC hj (by omega) dL_law_1851 dL_law_1852 dL_law_1854 dL_law_1855 dL_law_1856 ?_
  refine l_arg 2 hC hj (by omega) dL_law_1857 dL_law_1858 dL_law_1860 dL_law_1861 dL_law_1862 ?_
  refine l_arg 3 hC hj (by omega) dL_law_1863 dL_law_1864 dL_law_1866 dL_law_1867 dL_law_1868 ?_
  refine l_arg 4 hC hj (by omega) dL_law_1869 dL_law_1870 dL_law_1872 dL_law_1873 dL_law_1874 ?_
  refine l_two hC (w_fewest hI (agI xs j 1) (agI xs j 2) (agI xs j 3) (agI xs j 4) (ag_R xs j 1) (ag_R xs j 2) (ag_R xs j 3) (ag_R xs j 4)) mvX8_fewest lL_157 rfl rfl rfl rfl (Nat.le_of_ble_eq_true rfl) (Nat.le_of_ble_eq_true rfl) hkc hks dL_law_1875 (fun x u hu => ?_)
  refine l_m hC dL_law_1878 ?_
  refine l_arg 1 hC hj (by omega) dL_law_1879 dL_law_1880 dL_law_1882 dL_law_1883 dL_law_1884 ?_
  refine l_arg 2 hC hj (by omega) dL_law_1885 dL_law_1886 dL_law_1888 dL_law_1889 dL_law_1890 ?_
  refine l_arg 3 hC hj (by omega) dL_law_1891 dL_law_1892 dL_law_1894 dL_law_1895 dL_law_1896 ?_
  refine l_arg 4 hC hj (by omega) dL_law_1897 dL_law_1898 dL_law_1900 dL_law_1901 dL_law_1902 ?_
  exact l_two' hC hu mvX9_fewest lL_160 rfl rfl rfl rfl (Nat.le_of_ble_eq_true rfl) (Nat.le_of_ble_eq_true rfl) hkc hks dL_law_1903 dL_law_1906 (by decide) kk
set_option maxRecDepth 20000 in
theorem case_32 (hC : LX p l s m meth c b L xs D ad cy) (hj : 6 * j + 6 ≤ L) (hkc : kc ≤ 601024) (hks : ks ≤ 7293034) (hI : INV σ) (kk : ∀ w, INV w → RunL p l e s m below meth c b D ad cy j kc ks 2479 [] w) : RunL p l e s m below meth c b D ad cy j kc ks 1911 [] σ := by
  refine l_x hC dL_law_1911 ?_
  refine l_arg 1 hC hj (by omega) dL_law_1912 dL_law_1913 dL_law_1915 dL_law_1916 dL_law_1917 ?_
  refine l_arg 2 hC hj (by omega) dL_law_1918 dL_law_1919 dL_law_1921 dL_law_1922 dL_law_1923 ?_
  refine l_arg 3 hC hj (by omega) dL_law_1924 dL_law_1925 dL_law_1927 dL_law_1928 dL_law_1929 ?_
  refine l_two hC (w_quickest hI (agI xs j 1) (agI xs j 2) (agI xs j 3) (ag_R xs j 1) (ag_R xs j 2) (ag_R xs j 3)) mvX8_quickest lL_161 rfl rfl rfl rfl (Nat.le_of_ble_eq_true rfl) (Nat.le_of_ble_eq_true rfl) hkc hks dL_law_1930 (fun x u hu => ?_)
  refine l_m hC dL_law_1933 ?_
  refine l_arg 1 hC hj (by omega) dL_law_1934 dL_law_1935 dL_law_1937 dL_law_1938 dL_law_1939 ?_
  refine l_arg 2 hC hj (by omega) dL_law_1940 dL_law_1941 dL_law_1943 dL_law_1944 dL_law_1945 ?_
  refine l_arg 3 hC hj (by omega) dL_law_1946 dL_law_1947 dL_law_1949 dL_law_1950 dL_law_1951 ?_
  exact l_two' hC hu mvX9_quickest lL_164 rfl rfl rfl rfl (Nat.le_of_ble_eq_true rfl) (Nat.le_of_ble_eq_true rfl) hkc hks dL_law_1952 dL_law_1955 (by decide) kk
set_option maxRecDepth 20000 in
theorem case_33 (hC : LX p l s m meth c b L xs D ad cy) (hj : 6 * j + 6 ≤ L) (hkc : kc ≤ 601024) (hks : ks ≤ 7293034) (hI : INV σ) (kk : ∀ w, INV w → RunL p l e s m below meth c b D ad cy j kc ks 2479 [] w) : RunL p l e s m below meth c b D ad cy j kc ks 1960 [] σ := by
  refine l_x hC dL_law_1960 ?_
  refine l_arg 1 hC hj (by omega) dL_law_1961 dL_law_1962 dL_law_1964 dL_law_1965 dL_law_1966 ?_
  refine l_arg 2 hC hj (by omega) dL_law_1967 dL_law_1968 dL_law_1970 dL_law_1971 dL_law_1972 ?_
  refine l_arg 3 hC hj (by omega) dL_law_1973 dL_law_1974 dL_law_1976 dL_law_1977 dL_law_1978 ?_
  refine l_two hC (w_next hI (agI xs j 1) (agI xs j 2) (agI xs j 3) (ag_R xs j 1) (ag_R xs j 2) (ag_R xs j 3)) mvX8_next lL_165 rfl rfl rfl rfl (Nat.le_of_ble_eq_true rfl) (Nat.le_of_ble_eq_true rfl) hkc hks dL_law_1979 (fun x u hu => ?_)
  refine l_m hC dL_law_1982 ?_
  refine l_arg 1 hC hj (by omega) dL_law_1983 dL_law_1984 dL_law_1986 dL_law_1987 dL_law_1988 ?_
  refine l_arg 2 hC hj (by omega) dL_law_1989 dL_law_1990 dL_law_1992 dL_law_1993 dL_law_1994 ?_
  refine l_arg 3 hC hj (by omega) dL_law_1995 dL_law_1996 dL_law_1998 dL_law_1999 dL_law_2000 ?_
  exact l_two' hC hu mvX9_next lL_168 rfl rfl rfl rfl (Nat.le_of_ble_eq_true rfl) (Nat.le_of_ble_eq_true rfl) hkc hks dL_law_2001 dL_law_2004 (by decide) kk
set_option maxRecDepth 20000 in
theorem case_34 (hC : LX p l s m meth c b L xs D ad cy) (hj : 6 * j + 6 ≤ L) (hkc : kc ≤ 601024) (hks : ks ≤ 7293034) (hI : INV σ) (kk : ∀ w, INV w → RunL p l e s m below meth c b D ad cy j kc ks 2479 [] w) : RunL p l e s m below meth c b D ad cy j kc ks 2009 [] σ := by
  refine l_x hC dL_law_2009 ?_
  refine l_arg 1 hC hj (by omega) dL_law_2010 dL_law_2011 dL_law_2013 dL_law_2014 dL_law_2015 ?_
  refine l_arg 2 hC hj (by omega) dL_law_2016 dL_law_2017 dL_law_2019 dL_law_2020 dL_law_2021 ?_
  refine l_arg 3 hC hj (by omega) dL_law_2022 dL_law_2023 dL_law_2025 dL_law_2026 dL_law_2027 ?_
  refine l_two hC (w_breaks hI (agI xs j 1) (agI xs j 2) (agI xs j 3) (ag_R xs j 1) (ag_R xs j 2) (ag_R xs j 3)) mvX8_breaks lL_169 rfl rfl rfl rfl (Nat.le_of_ble_eq_true rfl) (Nat.le_of_ble_eq_true rfl) hkc hks dL_law_2028 (fun x u hu => ?_)
  refine l_m hC dL_law_2031 ?_
  refine l_arg 1 hC hj (by omega) dL_law_2032 dL_law_2033 dL_law_2035 dL_law_2036 dL_law_2037 ?_
  refine l_arg 2 hC hj (by omega) dL_law_2038 dL_law_2039 dL_law_2041 dL_law_2042 dL_law_2043 ?_
  refine l_arg 3 hC hj (by omega) dL_law_2044 dL_law_2045 dL_law_2047 dL_law_2048 dL_law_2049 ?_
  exact l_two' hC hu mvX9_breaks_ lL_172 rfl rfl rfl rfl (Nat.le_of_ble_eq_true rfl) (Nat.le_of_ble_eq_true rfl) hkc hks dL_law_2050 dL_law_2053 (by decide) kk
set_option maxRecDepth 20000 in
theorem case_35 (hC : LX p l s m meth c b L xs D ad cy) (hj : 6 * j + 6 ≤ L) (hkc : kc ≤ 601024) (hks : ks ≤ 7293034) (hI : INV σ) (kk : ∀ w, INV w → RunL p l e s m below meth c b D ad cy j kc ks 2479 [] w) : RunL p l e s m below meth c b D ad cy j kc ks 2058 [] σ := by
  refine l_x hC dL_law_2058 ?_
  refine l_arg 1 hC hj (by omega) dL_law_2059 dL_law_2060 dL_law_2062 dL_law_2063 dL_law_2064 ?_
  refine l_arg 2 hC hj (by omega) dL_law_2065 dL_law_2066 dL_law_2068 dL_law_2069 dL_law_2070 ?_
  refine l_arg 3 hC hj (by omega) dL_law_2071 dL_law_2072 dL_law_2074 dL_law_2075 dL_law_2076 ?_
  refine l_arg 4 hC hj (by omega) dL_law_2077 dL_law_2078 dL_law_2080 dL_law_2081 dL_law_2082 ?_
  refine l_two hC (w_travels hI (agI xs j 1) (agI xs j 2) (agI xs j 3) (agI xs j 4) (ag_R xs j 1) (ag_R xs j 2) (ag_R xs j 3) (ag_R xs j 4)) mvX8_travels lL_173 rfl rfl rfl rfl (Nat.le_of_ble_eq_true rfl) (Nat.le_of_ble_eq_true rfl) hkc hks dL_law_2083 (fun x u hu => ?_)
  refine l_m hC dL_law_2086 ?_
  refine l_arg 1 hC hj (by omega) dL_law_2087 dL_law_2088 dL_law_2090 dL_law_2091 dL_law_2092 ?_
  refine l_arg 2 hC hj (by omega) dL_law_2093 dL_law_2094 dL_law_2096 dL_law_2097 dL_law_2098 ?_
  refine l_arg 3 hC hj (by omega) dL_law_2099 dL_law_2100 dL_law_2102 dL_law_2103 dL_law_2104 ?_
  refine l_arg 4 hC hj (by omega) dL_law_2105 dL_law_2106 dL_law_2108 dL_law_2109 dL_law_2110 ?_
  exact l_two' hC hu mvX9_travels lL_176 rfl rfl rfl rfl (Nat.le_of_ble_eq_true rfl) (Nat.le_of_ble_eq_true rfl) hkc hks dL_law_2111 dL_law_2114 (by decide) kk
set_option maxRecDepth 20000 in
theorem case_36 (hC : LX p l s m meth c b L xs D ad cy) (hj : 6 * j + 6 ≤ L) (hkc : kc ≤ 601024) (hks : ks ≤ 7293034) (hI : INV σ) (kk : ∀ w, INV w → RunL p l e s m below meth c b D ad cy j kc ks 2479 [] w) : RunL p l e s m below meth c b D ad cy j kc ks 2119 [] σ := by
  refine l_x hC dL_law_2119 ?_
  refine l_arg 1 hC hj (by omega) dL_law_2120 dL_law_2121 dL_law_2123 dL_law_2124 dL_law_2125 ?_
  refine l_arg 2 hC hj (by omega) dL_law_2126 dL_law_2127 dL_law_2129 dL_law_2130 dL_law_2131 ?_
  refine l_two hC (w_plan hI (agI xs j 1) (agI xs j 2) (ag_R xs j 1) (ag_R xs j 2)) mvX8_plan lL_177 rfl rfl rfl rfl (Nat.le_of_ble_eq_true rfl) (Nat.le_of_ble_eq_true rfl) hkc hks dL_law_2132 (fun x u hu => ?_)
  refine l_m hC dL_law_2135 ?_
  refine l_arg 1 hC hj (by omega) dL_law_2136 dL_law_2137 dL_law_2139 dL_law_2140 dL_law_2141 ?_
  refine l_arg 2 hC hj (by omega) dL_law_2142 dL_law_2143 dL_law_2145 dL_law_2146 dL_law_2147 ?_
  exact l_two' hC hu mvX9_plan lL_180 rfl rfl rfl rfl (Nat.le_of_ble_eq_true rfl) (Nat.le_of_ble_eq_true rfl) hkc hks dL_law_2148 dL_law_2151 (by decide) kk
set_option maxRecDepth 20000 in
theorem case_37 (hC : LX p l s m meth c b L xs D ad cy) (hj : 6 * j + 6 ≤ L) (hkc : kc ≤ 601024) (hks : ks ≤ 7293034) (hI : INV σ) (kk : ∀ w, INV w → RunL p l e s m below meth c b D ad cy j kc ks 2479 [] w) : RunL p l e s m below meth c b D ad cy j kc ks 2156 [] σ := by
  refine l_x hC dL_law_2156 ?_
  refine l_two hC (w_planAnew hI) mvX8_planAnew lL_181 rfl rfl rfl rfl (Nat.le_of_ble_eq_true rfl) (Nat.le_of_ble_eq_true rfl) hkc hks dL_law_2157 (fun x u hu => ?_)
  refine l_m hC dL_law_2160 ?_
  exact l_two' hC hu mvX9_planAnew lL_184 rfl rfl rfl rfl (Nat.le_of_ble_eq_true rfl) (Nat.le_of_ble_eq_true rfl) hkc hks dL_law_2161 dL_law_2164 (by decide) kk
set_option maxRecDepth 20000 in
theorem case_38 (hC : LX p l s m meth c b L xs D ad cy) (hj : 6 * j + 6 ≤ L) (hkc : kc ≤ 601024) (hks : ks ≤ 7293034) (hI : INV σ) (kk : ∀ w, INV w → RunL p l e s m below meth c b D ad cy j kc ks 2479 [] w) : RunL p l e s m below meth c b D ad cy j kc ks 2169 [] σ := by
  refine l_x hC dL_law_2169 ?_
  refine l_arg 1 hC hj (by omega) dL_law_2170 dL_law_2171 dL_law_2173 dL_law_2174 dL_law_2175 ?_
  refine l_arg 2 hC hj (by omega) dL_law_2176 dL_law_2177 dL_law_2179 dL_law_2180 dL_law_2181 ?_
  refine l_arg 3 hC hj (by omega) dL_law_2182 dL_law_2183 dL_law_2185 dL_law_2186 dL_law_2187 ?_
  refine l_two hC (w_planAs hI (agI xs j 1) (agI xs j 2) (agI xs j 3) (ag_R xs j 1) (ag_R xs j 2) (ag_R xs j 3)) mvX8_planAs lL_185 rfl rfl rfl rfl (Nat.le_of_ble_eq_true rfl) (Nat.le_of_ble_eq_true rfl) hkc hks dL_law_2188 (fun x u hu => ?_)
  refine l_m hC dL_law_2191 ?_
  refine l_arg 1 hC hj (by omega) dL_law_2192 dL_law_2193 dL_law_2195 dL_law_2196 dL_law_2197 ?_
  refine l_arg 2 hC hj (by omega) dL_law_2198 dL_law_2199 dL_law_2201 dL_law_2202 dL_law_2203 ?_
  refine l_arg 3 hC hj (by omega) dL_law_2204 dL_law_2205 dL_law_2207 dL_law_2208 dL_law_2209 ?_
  exact l_two' hC hu mvX9_planAs lL_188 rfl rfl rfl rfl (Nat.le_of_ble_eq_true rfl) (Nat.le_of_ble_eq_true rfl) hkc hks dL_law_2210 dL_law_2213 (by decide) kk
set_option maxRecDepth 20000 in
theorem case_39 (hC : LX p l s m meth c b L xs D ad cy) (hj : 6 * j + 6 ≤ L) (hkc : kc ≤ 601024) (hks : ks ≤ 7293034) (hI : INV σ) (kk : ∀ w, INV w → RunL p l e s m below meth c b D ad cy j kc ks 2479 [] w) : RunL p l e s m below meth c b D ad cy j kc ks 2218 [] σ := by
  refine l_x hC dL_law_2218 ?_
  refine l_arg 1 hC hj (by omega) dL_law_2219 dL_law_2220 dL_law_2222 dL_law_2223 dL_law_2224 ?_
  refine l_arg 2 hC hj (by omega) dL_law_2225 dL_law_2226 dL_law_2228 dL_law_2229 dL_law_2230 ?_
  refine l_arg 3 hC hj (by omega) dL_law_2231 dL_law_2232 dL_law_2234 dL_law_2235 dL_law_2236 ?_
  refine l_arg 4 hC hj (by omega) dL_law_2237 dL_law_2238 dL_law_2240 dL_law_2241 dL_law_2242 ?_
  refine l_bool hC (ag_R xs j 4) dL_law_2243 dL_law_2246 dL_law_2247 dL_law_2250 ?_
  refine l_arg 5 hC hj (by omega) dL_law_2251 dL_law_2252 dL_law_2254 dL_law_2255 dL_law_2256 ?_
  refine l_two hC (w_checked hI (agI xs j 1) (agI xs j 2) (agI xs j 3) (if agI xs j 4 = 0 then 0 else 1) (agI xs j 5) (ag_R xs j 1) (ag_R xs j 2) (ag_R xs j 3) (by by_cases z : agI xs j 4 = 0; exact Or.inl (if_pos z); exact Or.inr (if_neg z)) (ag_R xs j 5)) mvX8_checked lL_189 rfl rfl rfl rfl (Nat.le_of_ble_eq_true rfl) (Nat.le_of_ble_eq_true rfl) hkc hks dL_law_2257 (fun x u hu => ?_)
  refine l_m hC dL_law_2260 ?_
  refine l_arg 1 hC hj (by omega) dL_law_2261 dL_law_2262 dL_law_2264 dL_law_2265 dL_law_2266 ?_
  refine l_arg 2 hC hj (by omega) dL_law_2267 dL_law_2268 dL_law_2270 dL_law_2271 dL_law_2272 ?_
  refine l_arg 3 hC hj (by omega) dL_law_2273 dL_law_2274 dL_law_2276 dL_law_2277 dL_law_2278 ?_
  refine l_arg 4 hC hj (by omega) dL_law_2279 dL_law_2280 dL_law_2282 dL_law_2283 dL_law_2284 ?_
  refine l_bool hC (ag_R xs j 4) dL_law_2285 dL_law_2288 dL_law_2289 dL_law_2292 ?_
  refine l_arg 5 hC hj (by omega) dL_law_2293 dL_law_2294 dL_law_2296 dL_law_2297 dL_law_2298 ?_
  exact l_two' hC hu mvX9_checked lL_193 rfl rfl rfl rfl (Nat.le_of_ble_eq_true rfl) (Nat.le_of_ble_eq_true rfl) hkc hks dL_law_2299 dL_law_2302 (by decide) kk
set_option maxRecDepth 20000 in
theorem case_40 (hC : LX p l s m meth c b L xs D ad cy) (hj : 6 * j + 6 ≤ L) (hkc : kc ≤ 601024) (hks : ks ≤ 7293034) (hI : INV σ) (kk : ∀ w, INV w → RunL p l e s m below meth c b D ad cy j kc ks 2479 [] w) : RunL p l e s m below meth c b D ad cy j kc ks 2307 [] σ := by
  refine l_x hC dL_law_2307 ?_
  refine l_arg 1 hC hj (by omega) dL_law_2308 dL_law_2309 dL_law_2311 dL_law_2312 dL_law_2313 ?_
  refine l_arg 2 hC hj (by omega) dL_law_2314 dL_law_2315 dL_law_2317 dL_law_2318 dL_law_2319 ?_
  refine l_arg 3 hC hj (by omega) dL_law_2320 dL_law_2321 dL_law_2323 dL_law_2324 dL_law_2325 ?_
  refine l_two hC (w_cause hI (agI xs j 1) (agI xs j 2) (agI xs j 3) (ag_R xs j 1) (ag_R xs j 2) (ag_R xs j 3)) mvX8_cause lL_194 rfl rfl rfl rfl (Nat.le_of_ble_eq_true rfl) (Nat.le_of_ble_eq_true rfl) hkc hks dL_law_2326 (fun x u hu => ?_)
  refine l_m hC dL_law_2329 ?_
  refine l_arg 1 hC hj (by omega) dL_law_2330 dL_law_2331 dL_law_2333 dL_law_2334 dL_law_2335 ?_
  refine l_arg 2 hC hj (by omega) dL_law_2336 dL_law_2337 dL_law_2339 dL_law_2340 dL_law_2341 ?_
  refine l_arg 3 hC hj (by omega) dL_law_2342 dL_law_2343 dL_law_2345 dL_law_2346 dL_law_2347 ?_
  exact l_two' hC hu mvX9_cause lL_197 rfl rfl rfl rfl (Nat.le_of_ble_eq_true rfl) (Nat.le_of_ble_eq_true rfl) hkc hks dL_law_2348 dL_law_2351 (by decide) kk
set_option maxRecDepth 20000 in
theorem case_41 (hC : LX p l s m meth c b L xs D ad cy) (hj : 6 * j + 6 ≤ L) (hkc : kc ≤ 601024) (hks : ks ≤ 7293034) (hI : INV σ) (kk : ∀ w, INV w → RunL p l e s m below meth c b D ad cy j kc ks 2479 [] w) : RunL p l e s m below meth c b D ad cy j kc ks 2356 [] σ := by
  refine l_x hC dL_law_2356 ?_
  refine l_arg 1 hC hj (by omega) dL_law_2357 dL_law_2358 dL_law_2360 dL_law_2361 dL_law_2362 ?_
  refine l_arg 2 hC hj (by omega) dL_law_2363 dL_law_2364 dL_law_2366 dL_law_2367 dL_law_2368 ?_
  refine l_arg 3 hC hj (by omega) dL_law_2369 dL_law_2370 dL_law_2372 dL_law_2373 dL_law_2374 ?_
  refine l_two hC (w_tooLate hI (agI xs j 1) (agI xs j 2) (agI xs j 3) (ag_R xs j 1) (ag_R xs j 2) (ag_R xs j 3)) mvX8_tooLate lL_198 rfl rfl rfl rfl (Nat.le_of_ble_eq_true rfl) (Nat.le_of_ble_eq_true rfl) hkc hks dL_law_2375 (fun x u hu => ?_)
  refine l_m hC dL_law_2378 ?_
  refine l_arg 1 hC hj (by omega) dL_law_2379 dL_law_2380 dL_law_2382 dL_law_2383 dL_law_2384 ?_
  refine l_arg 2 hC hj (by omega) dL_law_2385 dL_law_2386 dL_law_2388 dL_law_2389 dL_law_2390 ?_
  refine l_arg 3 hC hj (by omega) dL_law_2391 dL_law_2392 dL_law_2394 dL_law_2395 dL_law_2396 ?_
  exact l_two' hC hu mvX9_tooLate lL_201 rfl rfl rfl rfl (Nat.le_of_ble_eq_true rfl) (Nat.le_of_ble_eq_true rfl) hkc hks dL_law_2397 dL_law_2400 (by decide) kk
set_option maxRecDepth 20000 in
theorem case_42 (hC : LX p l s m meth c b L xs D ad cy) (hj : 6 * j + 6 ≤ L) (hkc : kc ≤ 601024) (hks : ks ≤ 7293034) (hI : INV σ) (kk : ∀ w, INV w → RunL p l e s m below meth c b D ad cy j kc ks 2479 [] w) : RunL p l e s m below meth c b D ad cy j kc ks 2405 [] σ := by
  refine l_x hC dL_law_2405 ?_
  refine l_arg 1 hC hj (by omega) dL_law_2406 dL_law_2407 dL_law_2409 dL_law_2410 dL_law_2411 ?_
  refine l_arg 2 hC hj (by omega) dL_law_2412 dL_law_2413 dL_law_2415 dL_law_2416 dL_law_2417 ?_
  refine l_arg 3 hC hj (by omega) dL_law_2418 dL_law_2419 dL_law_2421 dL_law_2422 dL_law_2423 ?_
  refine l_two hC (w_spare hI (agI xs j 1) (agI xs j 2) (agI xs j 3) (ag_R xs j 1) (ag_R xs j 2) (ag_R xs j 3)) mvX8_spare lL_202 rfl rfl rfl rfl (Nat.le_of_ble_eq_true rfl) (Nat.le_of_ble_eq_true rfl) hkc hks dL_law_2424 (fun x u hu => ?_)
  refine l_m hC dL_law_2427 ?_
  refine l_arg 1 hC hj (by omega) dL_law_2428 dL_law_2429 dL_law_2431 dL_law_2432 dL_law_2433 ?_
  refine l_arg 2 hC hj (by omega) dL_law_2434 dL_law_2435 dL_law_2437 dL_law_2438 dL_law_2439 ?_
  refine l_arg 3 hC hj (by omega) dL_law_2440 dL_law_2441 dL_law_2443 dL_law_2444 dL_law_2445 ?_
  exact l_two' hC hu mvX9_spare lL_205 rfl rfl rfl rfl (Nat.le_of_ble_eq_true rfl) (Nat.le_of_ble_eq_true rfl) hkc hks dL_law_2446 dL_law_2449 (by decide) kk
set_option maxRecDepth 20000 in
theorem case_43 (hC : LX p l s m meth c b L xs D ad cy) (hj : 6 * j + 6 ≤ L) (hkc : kc ≤ 601024) (hks : ks ≤ 7293034) (hI : INV σ) (kk : ∀ w, INV w → RunL p l e s m below meth c b D ad cy j kc ks 2479 [] w) : RunL p l e s m below meth c b D ad cy j kc ks 2454 [] σ := by
  refine l_x hC dL_law_2454 ?_
  refine l_arg 1 hC hj (by omega) dL_law_2455 dL_law_2456 dL_law_2458 dL_law_2459 dL_law_2460 ?_
  refine l_two hC (w_count hI (agI xs j 1) (ag_R xs j 1)) mvX8_count lL_206 rfl rfl rfl rfl (Nat.le_of_ble_eq_true rfl) (Nat.le_of_ble_eq_true rfl) hkc hks dL_law_2461 (fun x u hu => ?_)
  refine l_m hC dL_law_2464 ?_
  refine l_arg 1 hC hj (by omega) dL_law_2465 dL_law_2466 dL_law_2468 dL_law_2469 dL_law_2470 ?_
  exact l_two' hC hu mvX9_count lL_209 rfl rfl rfl rfl (Nat.le_of_ble_eq_true rfl) (Nat.le_of_ble_eq_true rfl) hkc hks dL_law_2471 dL_law_2474 (by decide) kk
end CASES
