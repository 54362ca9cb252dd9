theorem beh_eq {σ τ : Sto} (h : ∀ j, gN τ 155 j = gN σ 155 j) (i : Int) : (if i + 1 < gN τ 155 3 ∧ gN τ 155 (115 + 5 * (i + 1) + 0) = gN τ 155 (115 + 5 * i + 0) then i + 1 else -1) = if i + 1 < gN σ 155 3 ∧ gN σ 155 (115 + 5 * (i + 1) + 0) = gN σ 155 (115 + 5 * i + 0) then i + 1 else -1 := by simp only [h]
theorem MeTo.put {σ τ : Sto} {t arr : Int} {m : Nat} {i x y : Int} (h : MeTo σ τ t arr m (i + 1)) (hx : x = b2i (enF σ t arr m i)) (hy : y = b2i (mtB σ t arr m i)) (hR : gN σ 155 3 ≤ 60) (h0 : 0 ≤ i) (h1 : i < gN σ 155 3) : MeTo σ (sN (sN τ 169 (60 * m + i) x) 168 (60 * m + i) y) t arr m i := by
  refine ⟨(h.1.sN (by unfold pMe; omega)).sN (by unfold pMe; omega), fun n k q0 q1 q2 => ?_⟩
  have cx := b2i_c (enF σ t arr m i)
  have cy := b2i_c (mtB σ t arr m i)
  by_cases e : n = m ∧ k = i
  · rw [e.1, e.2]
    refine ⟨?_, ?_⟩
    · rw [gN_sN, if_neg (by omega), gN_sN, if_pos ⟨rfl, rfl⟩, hx, nrm_of (inR_of (by omega) (by omega))]
    · rw [gN_sN, if_pos ⟨rfl, rfl⟩, hy, nrm_of (inR_of (by omega) (by omega))]
  · have := h.2 n k q0 q1 (by omega)
    have ne : ¬ (60 * (n : Int) + k = 60 * m + i) := by omega
    refine ⟨?_, ?_⟩
    · rw [gN_sN, if_neg (by omega), gN_sN, if_neg (by omega)]
      exact this.1
    · rw [gN_sN, if_neg (by omega), gN_sN, if_neg (by omega)]
      exact this.2

set_option maxRecDepth 20000 in
theorem t_meets_t (σ : Sto) (hW : WOK σ) (hT : TOK σ) (t arr : Int) (ht0 : 0 ≤ t) (ht1 : t < 10) (harr : inR arr) (m : Nat) (hm : m ≤ 4) (i is : Int) (hi0 : 0 ≤ i) (hi1 : i < gN σ 155 3) (τ : Sto) (hI : MeTo σ τ t arr m (i + 1)) (his : is = b2i (enF σ t arr m i)) (hx : ∀ υ : Sto, MeTo σ υ t arr m i → RunA mX9_laysMeets (fun r v => r = none ∧ MeTo σ v t arr 5 (gN σ 155 3)) 233 [(4, ai i), (3, ai (m : Int)), (0, ar 153), (1, ai t), (2, ai arr)] [] υ) : RunA mX9_laysMeets (fun r v => r = none ∧ MeTo σ v t arr 5 (gN σ 155 3)) 142 [(5, ai is), (4, ai i), (3, ai (m : Int)), (0, ar 153), (1, ai t), (2, ai arr)] [] τ := by
  have hR := hW.1
  have hb := b2i_c (enF σ t arr m i)
  refine a_aload_n dX9_laysMeets_142 rfl rfl ?_
  refine a_getF (d := 169) fX9_61 k153 rfl r153_32 dX9_laysMeets_143 ?_
  refine a_bipush (x := 60) dX9_laysMeets_146 (by decide) ?_
  refine a_iload_n dX9_laysMeets_148 rfl rfl ?_
  refine a_imul dX9_laysMeets_149 ?_
  refine a_iload dX9_laysMeets_150 rfl ?_
  refine a_iadd dX9_laysMeets_152 ?_
  refine a_iload dX9_laysMeets_153 rfl ?_
  refine a_zst k169 n169 (by omega) (by omega) (by omega) dX9_laysMeets_155 ?_
  refine a_aload_n dX9_laysMeets_156 rfl rfl ?_
  refine a_iload dX9_laysMeets_157 rfl ?_
  refine a_cI (c := 153) (as := [ai i]) (rest := []) (t_behind (sN τ 169 ((60 * (m : Int)) + i) is) i (by omega) (by omega) (Int.le_trans (Int.le_of_eq ((pMe_Rd (hI.1.sN (by unfold pMe; omega))).1 3)) hR.2)) mvX9_behind lX9_210 k153 (by decide) rfl rfl rfl rfl (Nat.le_of_ble_eq_true rfl) (Nat.le_of_ble_eq_true rfl) (Nat.le_of_ble_eq_true rfl) dX9_laysMeets_159 ?_
  refine a_topI (y := if i + 1 < gN σ 155 3 ∧ gN σ 155 (115 + 5 * (i + 1) + 0) = gN σ 155 (115 + 5 * i + 0) then i + 1 else -1) (beh_eq ((pMe_Rd (hI.1.sN (by unfold pMe; omega))).1) _) ?_
  refine a_iconst dX9_laysMeets_162 ?_
  refine a_ifn_eq (tgt := 203) dX9_laysMeets_163 (by decide) (fun _ => by omega) (fun c163 => ?_) (fun c163 => ?_)
  · refine a_iconst dX9_laysMeets_203 ?_
    refine a_istore (ls' := [(6, ai 0), (5, ai is), (4, ai i), (3, ai (m : Int)), (0, ar 153), (1, ai t), (2, ai arr)]) dX9_laysMeets_204 (Nat.le_of_ble_eq_true rfl) rfl ?_
    refine a_aload_n dX9_laysMeets_206 rfl rfl ?_
    refine a_getF (d := 168) fX9_57 k153 rfl r153_31 dX9_laysMeets_207 ?_
    refine a_bipush (x := 60) dX9_laysMeets_210 (by decide) ?_
    refine a_iload_n dX9_laysMeets_212 rfl rfl ?_
    refine a_imul dX9_laysMeets_213 ?_
    refine a_iload dX9_laysMeets_214 rfl ?_
    refine a_iadd dX9_laysMeets_216 ?_
    refine a_iload dX9_laysMeets_217 rfl ?_
    refine a_if_ne (tgt := 227) dX9_laysMeets_219 (by decide) (inR_of (by omega) (by omega)) (fun c219 => ?_) (fun c219 => ?_)
    · refine a_iconst dX9_laysMeets_227 ?_
      refine a_goto (tgt := 232) dX9_laysMeets_228 (by decide) ?_
      refine a_zst k168 n168 (by omega) (by omega) (by omega) dX9_laysMeets_232 ?_
      refine a_keep (ls' := [(4, ai i), (3, ai (m : Int)), (0, ar 153), (1, ai t), (2, ai arr)]) (by simp) ?_
      refine hx _ (hI.put his ?_ hR.2 hi0 hi1)
      rw [mtB_s hi0 hi1]
      unfold b2i nxB at *
      grind
    · refine a_iload dX9_laysMeets_222 rfl ?_
      refine a_if_eq (tgt := 231) dX9_laysMeets_224 (by decide) (inR_of (by omega) (by omega)) (fun c224 => ?_) (fun c224 => ?_)
      · refine a_iconst dX9_laysMeets_231 ?_
        refine a_zst k168 n168 (by omega) (by omega) (by omega) dX9_laysMeets_232 ?_
        refine a_keep (ls' := [(4, ai i), (3, ai (m : Int)), (0, ar 153), (1, ai t), (2, ai arr)]) (by simp) ?_
        refine hx _ (hI.put his ?_ hR.2 hi0 hi1)
        rw [mtB_s hi0 hi1]
        unfold b2i nxB at *
        grind
      · exact absurd c224 (by decide)
  · refine a_aload_n dX9_laysMeets_166 rfl rfl ?_
    refine a_getL (J := 23) fX9_243 k153 rfl rfl dX9_laysMeets_167 ?_
    refine a_topL (y := gL σ 153 23) ((pMe_Rd (hI.1.sN (by unfold pMe; omega))).2.2.2.2.2.1) ?_
    refine a_iload dX9_laysMeets_170 rfl ?_
    refine a_iconst dX9_laysMeets_172 ?_
    refine a_iadd dX9_laysMeets_173 ?_
    refine a_lshr dX9_laysMeets_174 ?_
    refine a_lconst (v := 1) dX9_laysMeets_175 rfl ?_
    refine a_land dX9_laysMeets_176 ?_
    refine a_lconst (v := 0) dX9_laysMeets_177 rfl ?_
    refine a_lcmp_ne (tgt := 203) dX9_laysMeets_178 dX9_laysMeets_179 (by decide) (fun c178 => ?_) (fun c178 => ?_)
    · refine a_iconst dX9_laysMeets_203 ?_
      refine a_istore (ls' := [(6, ai 0), (5, ai is), (4, ai i), (3, ai (m : Int)), (0, ar 153), (1, ai t), (2, ai arr)]) dX9_laysMeets_204 (Nat.le_of_ble_eq_true rfl) rfl ?_
      refine a_aload_n dX9_laysMeets_206 rfl rfl ?_
      refine a_getF (d := 168) fX9_57 k153 rfl r153_31 dX9_laysMeets_207 ?_
      refine a_bipush (x := 60) dX9_laysMeets_210 (by decide) ?_
      refine a_iload_n dX9_laysMeets_212 rfl rfl ?_
      refine a_imul dX9_laysMeets_213 ?_
      refine a_iload dX9_laysMeets_214 rfl ?_
      refine a_iadd dX9_laysMeets_216 ?_
      refine a_iload dX9_laysMeets_217 rfl ?_
      refine a_if_ne (tgt := 227) dX9_laysMeets_219 (by decide) (inR_of (by omega) (by omega)) (fun c219 => ?_) (fun c219 => ?_)
      · refine a_iconst dX9_laysMeets_227 ?_
        refine a_goto (tgt := 232) dX9_laysMeets_228 (by decide) ?_
        refine a_zst k168 n168 (by omega) (by omega) (by omega) dX9_laysMeets_232 ?_
        refine a_keep (ls' := [(4, ai i), (3, ai (m : Int)), (0, ar 153), (1, ai t), (2, ai arr)]) (by simp) ?_
        refine hx _ (hI.put his ?_ hR.2 hi0 hi1)
        rw [mtB_s hi0 hi1]
        unfold b2i nxB at *
        grind
      · refine a_iload dX9_laysMeets_222 rfl ?_
        refine a_if_eq (tgt := 231) dX9_laysMeets_224 (by decide) (inR_of (by omega) (by omega)) (fun c224 => ?_) (fun c224 => ?_)
        · refine a_iconst dX9_laysMeets_231 ?_
          refine a_zst k168 n168 (by omega) (by omega) (by omega) dX9_laysMeets_232 ?_
          refine a_keep (ls' := [(4, ai i), (3, ai (m : Int)), (0, ar 153), (1, ai t), (2, ai arr)]) (by simp) ?_
          refine hx _ (hI.put his ?_ hR.2 hi0 hi1)
          rw [mtB_s hi0 hi1]
          unfold b2i nxB at *
          grind
        · exact absurd c224 (by decide)
    · refine a_aload_n dX9_laysMeets_182 rfl rfl ?_
      refine a_getF (d := 168) fX9_57 k153 rfl r153_31 dX9_laysMeets_183 ?_
      refine a_bipush (x := 60) dX9_laysMeets_186 (by decide) ?_
      refine a_iload_n dX9_laysMeets_188 rfl rfl ?_
      refine a_imul dX9_laysMeets_189 ?_
      refine a_iload dX9_laysMeets_190 rfl ?_
      refine a_iadd dX9_laysMeets_192 ?_
      refine a_iconst dX9_laysMeets_193 ?_
      refine a_iadd dX9_laysMeets_194 ?_
      refine a_zld k168 n168 (by omega) (by omega) dX9_laysMeets_195 ?_
      refine a_topI (y := b2i (mtB σ t arr m (i + 1))) (by rw [gN_sN, if_neg (by omega), show 60 * (m : Int) + i + 1 = 60 * m + (i + 1) by omega]; exact (hI.2 m (i + 1) (by omega) (by omega) (Or.inr ⟨rfl, by omega⟩)).2) ?_
      refine a_if_eq (tgt := 203) dX9_laysMeets_196 (by decide) (by rcases b2i_c (mtB σ t arr m (i + 1)) with q | q <;> (rw [q]; unfold inR; omega)) (fun c196 => ?_) (fun c196 => ?_)
      · refine a_iconst dX9_laysMeets_203 ?_
        refine a_istore (ls' := [(6, ai 0), (5, ai is), (4, ai i), (3, ai (m : Int)), (0, ar 153), (1, ai t), (2, ai arr)]) dX9_laysMeets_204 (Nat.le_of_ble_eq_true rfl) rfl ?_
        refine a_aload_n dX9_laysMeets_206 rfl rfl ?_
        refine a_getF (d := 168) fX9_57 k153 rfl r153_31 dX9_laysMeets_207 ?_
        refine a_bipush (x := 60) dX9_laysMeets_210 (by decide) ?_
        refine a_iload_n dX9_laysMeets_212 rfl rfl ?_
        refine a_imul dX9_laysMeets_213 ?_
        refine a_iload dX9_laysMeets_214 rfl ?_
        refine a_iadd dX9_laysMeets_216 ?_
        refine a_iload dX9_laysMeets_217 rfl ?_
        refine a_if_ne (tgt := 227) dX9_laysMeets_219 (by decide) (inR_of (by omega) (by omega)) (fun c219 => ?_) (fun c219 => ?_)
        · refine a_iconst dX9_laysMeets_227 ?_
          refine a_goto (tgt := 232) dX9_laysMeets_228 (by decide) ?_
          refine a_zst k168 n168 (by omega) (by omega) (by omega) dX9_laysMeets_232 ?_
          refine a_keep (ls' := [(4, ai i), (3, ai (m : Int)), (0, ar 153), (1, ai t), (2, ai arr)]) (by simp) ?_
          refine hx _ (hI.put his ?_ hR.2 hi0 hi1)
          rw [mtB_s hi0 hi1]
          unfold b2i nxB at *
          grind
        · refine a_iload dX9_laysMeets_222 rfl ?_
          refine a_if_eq (tgt := 231) dX9_laysMeets_224 (by decide) (inR_of (by omega) (by omega)) (fun c224 => ?_) (fun c224 => ?_)
          · refine a_iconst dX9_laysMeets_231 ?_
            refine a_zst k168 n168 (by omega) (by omega) (by omega) dX9_laysMeets_232 ?_
            refine a_keep (ls' := [(4, ai i), (3, ai (m : Int)), (0, ar 153), (1, ai t), (2, ai arr)]) (by simp) ?_
            refine hx _ (hI.put his ?_ hR.2 hi0 hi1)
            rw [mtB_s hi0 hi1]
            unfold b2i nxB at *
            grind
          · exact absurd c224 (by decide)
      · refine a_iconst dX9_laysMeets_199 ?_
        refine a_goto (tgt := 204) dX9_laysMeets_200 (by decide) ?_
        refine a_istore (ls' := [(6, ai 1), (5, ai is), (4, ai i), (3, ai (m : Int)), (0, ar 153), (1, ai t), (2, ai arr)]) dX9_laysMeets_204 (Nat.le_of_ble_eq_true rfl) rfl ?_
        refine a_aload_n dX9_laysMeets_206 rfl rfl ?_
        refine a_getF (d := 168) fX9_57 k153 rfl r153_31 dX9_laysMeets_207 ?_
        refine a_bipush (x := 60) dX9_laysMeets_210 (by decide) ?_
        refine a_iload_n dX9_laysMeets_212 rfl rfl ?_
        refine a_imul dX9_laysMeets_213 ?_
        refine a_iload dX9_laysMeets_214 rfl ?_
        refine a_iadd dX9_laysMeets_216 ?_
        refine a_iload dX9_laysMeets_217 rfl ?_
        refine a_if_ne (tgt := 227) dX9_laysMeets_219 (by decide) (inR_of (by omega) (by omega)) (fun c219 => ?_) (fun c219 => ?_)
        · refine a_iconst dX9_laysMeets_227 ?_
          refine a_goto (tgt := 232) dX9_laysMeets_228 (by decide) ?_
          refine a_zst k168 n168 (by omega) (by omega) (by omega) dX9_laysMeets_232 ?_
          refine a_keep (ls' := [(4, ai i), (3, ai (m : Int)), (0, ar 153), (1, ai t), (2, ai arr)]) (by simp) ?_
          refine hx _ (hI.put his ?_ hR.2 hi0 hi1)
          rw [mtB_s hi0 hi1]
          unfold b2i nxB at *
          grind
        · refine a_iload dX9_laysMeets_222 rfl ?_
          refine a_if_eq (tgt := 231) dX9_laysMeets_224 (by decide) (inR_of (by omega) (by omega)) (fun c224 => ?_) (fun c224 => ?_)
          · exact absurd c224 (by decide)
          · refine a_iconst dX9_laysMeets_227 ?_
            refine a_goto (tgt := 232) dX9_laysMeets_228 (by decide) ?_
            refine a_zst k168 n168 (by omega) (by omega) (by omega) dX9_laysMeets_232 ?_
            refine a_keep (ls' := [(4, ai i), (3, ai (m : Int)), (0, ar 153), (1, ai t), (2, ai arr)]) (by simp) ?_
            refine hx _ (hI.put his ?_ hR.2 hi0 hi1)
            rw [mtB_s hi0 hi1]
            unfold b2i nxB at *
            grind

set_option maxRecDepth 20000 in
theorem t_meets_i (σ : Sto) (hW : WOK σ) (hT : TOK σ) (t arr : Int) (ht0 : 0 ≤ t) (ht1 : t < 10) (harr : inR arr) (m : Nat) (hm : m ≤ 3) (i : Int) (hi0 : 0 ≤ i) (hi1 : i < gN σ 155 3) (τ : Sto) (hI : MeTo σ τ t arr (m + 1) (i + 1)) (E : Bool) (hx : RunA mX9_laysMeets (fun r v => r = none ∧ MeTo σ v t arr 5 (gN σ 155 3)) 142 [(5, ai (b2i E)), (4, ai i), (3, ai ((m : Int) + 1)), (0, ar 153), (1, ai t), (2, ai arr)] [] τ) : ∀ (n : Nat) (k : Int) (B : Bool), 0 ≤ k → k ≤ 60 → n = (gN σ 155 3 - k).toNat → E = (B || anyZ (fun k => lkB σ i k && mtB σ t arr m k) n k) → RunA mX9_laysMeets (fun r v => r = none ∧ MeTo σ v t arr 5 (gN σ 155 3)) 81 [(6, ai k), (5, ai (b2i B)), (4, ai i), (3, ai ((m : Int) + 1)), (0, ar 153), (1, ai t), (2, ai arr)] [] τ := by
  have hR := hW.1
  intro n
  induction n with
  | zero =>
    intro k B h0 h60 hn hE
    cases B with
    | true =>
      refine a_keep (ls' := [(6, ai k), (5, ai 1), (4, ai i), (3, ai ((m : Int) + 1)), (0, ar 153), (1, ai t), (2, ai arr)]) (by simp [b2i]) ?_
      refine a_iload dX9_laysMeets_81 rfl ?_
      refine a_aload_n dX9_laysMeets_83 rfl rfl ?_
      refine a_cI (c := 153) (as := []) (rest := [ai k]) (t_rides τ  ) mvX9_rides lX9_198 k153 (by decide) rfl rfl rfl rfl (Nat.le_of_ble_eq_true rfl) (Nat.le_of_ble_eq_true rfl) (Nat.le_of_ble_eq_true rfl) dX9_laysMeets_84 ?_
      refine a_topI (y := gN σ 155 3) ((pMe_Rd hI.1).1 _) ?_
      refine a_icmp_ge (tgt := 142) dX9_laysMeets_87 (by decide) (inR_of (by omega) (by omega)) (inR_gN _ _ _) (fun c87 => ?_) (fun c87 => ?_)
      · refine a_keep (ls' := [(5, ai (b2i E)), (4, ai i), (3, ai ((m : Int) + 1)), (0, ar 153), (1, ai t), (2, ai arr)]) (by rw [hE]; simp [b2i, anyZ]) ?_
        exact hx
      · exfalso; omega
    | false =>
      refine a_keep (ls' := [(6, ai k), (5, ai 0), (4, ai i), (3, ai ((m : Int) + 1)), (0, ar 153), (1, ai t), (2, ai arr)]) (by simp [b2i]) ?_
      refine a_iload dX9_laysMeets_81 rfl ?_
      refine a_aload_n dX9_laysMeets_83 rfl rfl ?_
      refine a_cI (c := 153) (as := []) (rest := [ai k]) (t_rides τ  ) mvX9_rides lX9_198 k153 (by decide) rfl rfl rfl rfl (Nat.le_of_ble_eq_true rfl) (Nat.le_of_ble_eq_true rfl) (Nat.le_of_ble_eq_true rfl) dX9_laysMeets_84 ?_
      refine a_topI (y := gN σ 155 3) ((pMe_Rd hI.1).1 _) ?_
      refine a_icmp_ge (tgt := 142) dX9_laysMeets_87 (by decide) (inR_of (by omega) (by omega)) (inR_gN _ _ _) (fun c87 => ?_) (fun c87 => ?_)
      · refine a_keep (ls' := [(5, ai (b2i E)), (4, ai i), (3, ai ((m : Int) + 1)), (0, ar 153), (1, ai t), (2, ai arr)]) (by rw [hE]; simp [b2i, anyZ]) ?_
        exact hx
      · exfalso; omega
  | succ n ih =>
    intro k B h0 h60 hn hE
    cases B with
    | true =>
      refine a_keep (ls' := [(6, ai k), (5, ai 1), (4, ai i), (3, ai ((m : Int) + 1)), (0, ar 153), (1, ai t), (2, ai arr)]) (by simp [b2i]) ?_
      refine a_iload dX9_laysMeets_81 rfl ?_
      refine a_aload_n dX9_laysMeets_83 rfl rfl ?_
      refine a_cI (c := 153) (as := []) (rest := [ai k]) (t_rides τ  ) mvX9_rides lX9_198 k153 (by decide) rfl rfl rfl rfl (Nat.le_of_ble_eq_true rfl) (Nat.le_of_ble_eq_true rfl) (Nat.le_of_ble_eq_true rfl) dX9_laysMeets_84 ?_
      refine a_topI (y := gN σ 155 3) ((pMe_Rd hI.1).1 _) ?_
      refine a_icmp_ge (tgt := 142) dX9_laysMeets_87 (by decide) (inR_of (by omega) (by omega)) (inR_gN _ _ _) (fun c87 => ?_) (fun c87 => ?_)
      · exfalso; omega
      · refine a_iload dX9_laysMeets_90 rfl ?_
        refine a_if_ne (tgt := 129) dX9_laysMeets_92 (by decide) (inR_of (by omega) (by omega)) (fun c92 => ?_) (fun c92 => ?_)
        · refine a_iconst dX9_laysMeets_129 ?_
          refine a_goto (tgt := 134) dX9_laysMeets_130 (by decide) ?_
          refine a_istore (ls' := [(5, ai 1), (6, ai k), (4, ai i), (3, ai ((m : Int) + 1)), (0, ar 153), (1, ai t), (2, ai arr)]) dX9_laysMeets_134 (Nat.le_of_ble_eq_true rfl) rfl ?_
          refine a_iinc (y := k + 1) (ls' := [(6, ai (k + 1)), (5, ai 1), (4, ai i), (3, ai ((m : Int) + 1)), (0, ar 153), (1, ai t), (2, ai arr)]) dX9_laysMeets_136 rfl rfl (Nat.le_of_ble_eq_true rfl) rfl ?_
          refine a_goto (tgt := 81) dX9_laysMeets_139 (by decide) ?_
          exact a_keep (by simp [b2i]) (ih (k + 1) true (by omega) (by omega) (by omega) (by rw [hE]; show (true || ((fun k => lkB σ i k && mtB σ t arr m k) k || anyZ (fun k => lkB σ i k && mtB σ t arr m k) n (k + 1))) = _; unfold lkB; unfold b2i at *; grind))
        · exact absurd c92 (by decide)
    | false =>
      refine a_keep (ls' := [(6, ai k), (5, ai 0), (4, ai i), (3, ai ((m : Int) + 1)), (0, ar 153), (1, ai t), (2, ai arr)]) (by simp [b2i]) ?_
      refine a_iload dX9_laysMeets_81 rfl ?_
      refine a_aload_n dX9_laysMeets_83 rfl rfl ?_
      refine a_cI (c := 153) (as := []) (rest := [ai k]) (t_rides τ  ) mvX9_rides lX9_198 k153 (by decide) rfl rfl rfl rfl (Nat.le_of_ble_eq_true rfl) (Nat.le_of_ble_eq_true rfl) (Nat.le_of_ble_eq_true rfl) dX9_laysMeets_84 ?_
      refine a_topI (y := gN σ 155 3) ((pMe_Rd hI.1).1 _) ?_
      refine a_icmp_ge (tgt := 142) dX9_laysMeets_87 (by decide) (inR_of (by omega) (by omega)) (inR_gN _ _ _) (fun c87 => ?_) (fun c87 => ?_)
      · exfalso; omega
      · refine a_iload dX9_laysMeets_90 rfl ?_
        refine a_if_ne (tgt := 129) dX9_laysMeets_92 (by decide) (inR_of (by omega) (by omega)) (fun c92 => ?_) (fun c92 => ?_)
        · exact absurd c92 (by decide)
        · refine a_aload_n dX9_laysMeets_95 rfl rfl ?_
          refine a_getF (d := 163) fX9_42 k153 rfl r153_24 dX9_laysMeets_96 ?_
          refine a_iload dX9_laysMeets_99 rfl ?_
          refine a_lld k163 n163 (by omega) (by omega) dX9_laysMeets_101 ?_
          refine a_topL (y := gL σ 163 i) ((pMe_Rd hI.1).2.2.2.2.1 i) ?_
          refine a_iload dX9_laysMeets_102 rfl ?_
          refine a_lshr dX9_laysMeets_104 ?_
          refine a_lconst (v := 1) dX9_laysMeets_105 rfl ?_
          refine a_land dX9_laysMeets_106 ?_
          refine a_lconst (v := 1) dX9_laysMeets_107 rfl ?_
          refine a_lcmp_ne (tgt := 133) dX9_laysMeets_108 dX9_laysMeets_109 (by decide) (fun c108 => ?_) (fun c108 => ?_)
          · refine a_iconst dX9_laysMeets_133 ?_
            refine a_istore (ls' := [(5, ai 0), (6, ai k), (4, ai i), (3, ai ((m : Int) + 1)), (0, ar 153), (1, ai t), (2, ai arr)]) dX9_laysMeets_134 (Nat.le_of_ble_eq_true rfl) rfl ?_
            refine a_iinc (y := k + 1) (ls' := [(6, ai (k + 1)), (5, ai 0), (4, ai i), (3, ai ((m : Int) + 1)), (0, ar 153), (1, ai t), (2, ai arr)]) dX9_laysMeets_136 rfl rfl (Nat.le_of_ble_eq_true rfl) rfl ?_
            refine a_goto (tgt := 81) dX9_laysMeets_139 (by decide) ?_
            exact a_keep (by simp [b2i]) (ih (k + 1) false (by omega) (by omega) (by omega) (by rw [hE]; show (false || ((fun k => lkB σ i k && mtB σ t arr m k) k || anyZ (fun k => lkB σ i k && mtB σ t arr m k) n (k + 1))) = _; unfold lkB; unfold b2i at *; grind))
          · refine a_aload_n dX9_laysMeets_112 rfl rfl ?_
            refine a_getF (d := 168) fX9_57 k153 rfl r153_31 dX9_laysMeets_113 ?_
            refine a_bipush (x := 60) dX9_laysMeets_116 (by decide) ?_
            refine a_iload_n dX9_laysMeets_118 rfl rfl ?_
            refine a_iconst dX9_laysMeets_119 ?_
            refine a_isub dX9_laysMeets_120 ?_
            refine a_imul dX9_laysMeets_121 ?_
            refine a_iload dX9_laysMeets_122 rfl ?_
            refine a_iadd dX9_laysMeets_124 ?_
            refine a_zld k168 n168 (by omega) (by omega) dX9_laysMeets_125 ?_
            refine a_topI (y := b2i (mtB σ t arr m k)) (by rw [show 60 * ((m : Int) + 1 - 1) + k = 60 * m + k by omega]; exact (hI.2 m k (by omega) (by omega) (Or.inl (by omega))).2) ?_
            refine a_if_eq (tgt := 133) dX9_laysMeets_126 (by decide) (by rcases b2i_c (mtB σ t arr m k) with q | q <;> (rw [q]; unfold inR; omega)) (fun c126 => ?_) (fun c126 => ?_)
            · refine a_iconst dX9_laysMeets_133 ?_
              refine a_istore (ls' := [(5, ai 0), (6, ai k), (4, ai i), (3, ai ((m : Int) + 1)), (0, ar 153), (1, ai t), (2, ai arr)]) dX9_laysMeets_134 (Nat.le_of_ble_eq_true rfl) rfl ?_
              refine a_iinc (y := k + 1) (ls' := [(6, ai (k + 1)), (5, ai 0), (4, ai i), (3, ai ((m : Int) + 1)), (0, ar 153), (1, ai t), (2, ai arr)]) dX9_laysMeets_136 rfl rfl (Nat.le_of_ble_eq_true rfl) rfl ?_
              refine a_goto (tgt := 81) dX9_laysMeets_139 (by decide) ?_
              exact a_keep (by simp [b2i]) (ih (k + 1) false (by omega) (by omega) (by omega) (by rw [hE]; show (false || ((fun k => lkB σ i k && mtB σ t arr m k) k || anyZ (fun k => lkB σ i k && mtB σ t arr m k) n (k + 1))) = _; unfold lkB; unfold b2i at *; grind))
            · refine a_iconst dX9_laysMeets_129 ?_
              refine a_goto (tgt := 134) dX9_laysMeets_130 (by decide) ?_
              refine a_istore (ls' := [(5, ai 1), (6, ai k), (4, ai i), (3, ai ((m : Int) + 1)), (0, ar 153), (1, ai t), (2, ai arr)]) dX9_laysMeets_134 (Nat.le_of_ble_eq_true rfl) rfl ?_
              refine a_iinc (y := k + 1) (ls' := [(6, ai (k + 1)), (5, ai 1), (4, ai i), (3, ai ((m : Int) + 1)), (0, ar 153), (1, ai t), (2, ai arr)]) dX9_laysMeets_136 rfl rfl (Nat.le_of_ble_eq_true rfl) rfl ?_
              refine a_goto (tgt := 81) dX9_laysMeets_139 (by decide) ?_
              exact a_keep (by simp [b2i]) (ih (k + 1) true (by omega) (by omega) (by omega) (by rw [hE]; show (false || ((fun k => lkB σ i k && mtB σ t arr m k) k || anyZ (fun k => lkB σ i k && mtB σ t arr m k) n (k + 1))) = _; unfold lkB; unfold b2i at *; grind))

set_option maxRecDepth 20000 in
theorem t_meets_0 (σ : Sto) (hW : WOK σ) (hT : TOK σ) (t arr : Int) (ht0 : 0 ≤ t) (ht1 : t < 10) (harr : inR arr) (hx : ∀ τ : Sto, MeTo σ τ t arr 0 0 → RunA mX9_laysMeets (fun r v => r = none ∧ MeTo σ v t arr 5 (gN σ 155 3)) 239 [(3, ai (0)), (0, ar 153), (1, ai t), (2, ai arr)] [] τ) : ∀ (n : Nat) (i : Int) (τ : Sto), -1 ≤ i → i < gN σ 155 3 → n = (i + 1).toNat → MeTo σ τ t arr 0 (i + 1) → RunA mX9_laysMeets (fun r v => r = none ∧ MeTo σ v t arr 5 (gN σ 155 3)) 15 [(4, ai i), (3, ai 0), (0, ar 153), (1, ai t), (2, ai arr)] [] τ := by
  have hR := hW.1
  intro n
  induction n with
  | zero =>
    intro i τ h0 h60 hn hI
    refine a_iload dX9_laysMeets_15 rfl ?_
    refine a_if_lt (tgt := 239) dX9_laysMeets_17 (by decide) (inR_of (by omega) (by omega)) (fun c17 => ?_) (fun c17 => ?_)
    · exact a_keep (by simp) (hx τ (by rw [show i + 1 = 0 by omega] at hI; exact hI))
    · exfalso; omega
  | succ n ih =>
    intro i τ h0 h60 hn hI
    refine a_iload dX9_laysMeets_15 rfl ?_
    refine a_if_lt (tgt := 239) dX9_laysMeets_17 (by decide) (inR_of (by omega) (by omega)) (fun c17 => ?_) (fun c17 => ?_)
    · exfalso; omega
    · refine a_iconst dX9_laysMeets_20 ?_
      refine a_istore (ls' := [(5, ai 0), (4, ai i), (3, ai 0), (0, ar 153), (1, ai t), (2, ai arr)]) dX9_laysMeets_21 (Nat.le_of_ble_eq_true rfl) rfl ?_
      refine a_iload_n dX9_laysMeets_23 rfl rfl ?_
      refine a_if_ne (tgt := 78) dX9_laysMeets_24 (by decide) (inR_of (by omega) (by omega)) (fun c24 => ?_) (fun c24 => ?_)
      · exact absurd c24 (by decide)
      · have b := hW.2.2.2.1 i (by omega) (by omega)
        have b2 := hW.2.2.2.2.1 _ t b.2.2.1.1 b.2.2.1.2 ht0 ht1
        have b3 := hT i (by omega) (by omega)
        refine a_aload_n dX9_laysMeets_27 rfl rfl ?_
        refine a_aload_n dX9_laysMeets_28 rfl rfl ?_
        refine a_iload dX9_laysMeets_29 rfl ?_
        refine a_iconst dX9_laysMeets_31 ?_
        refine a_cI (c := 153) (as := [ai i, ai 2]) (rest := [ar 153]) (t_told τ i 2 (by omega) (by omega)) mvX9_told lX9_201 k153 (by decide) rfl rfl rfl rfl (Nat.le_of_ble_eq_true rfl) (Nat.le_of_ble_eq_true rfl) (Nat.le_of_ble_eq_true rfl) dX9_laysMeets_32 ?_
        refine a_topI (y := gN σ 155 (115 + 5 * i + 2)) ((pMe_Rd hI.1).1 _) ?_
        refine a_iload_n dX9_laysMeets_35 rfl rfl ?_
        refine a_cI (c := 153) (as := [ai (gN σ 155 (115 + 5 * i + 2)), ai t]) (rest := []) (t_walked τ (gN σ 155 (115 + 5 * i + 2)) t (by omega) (by omega)) mvX9_walked lX9_216 k153 (by decide) rfl rfl rfl rfl (Nat.le_of_ble_eq_true rfl) (Nat.le_of_ble_eq_true rfl) (Nat.le_of_ble_eq_true rfl) dX9_laysMeets_36 ?_
        refine a_topI (y := gN σ 155 (15 + 10 * (gN σ 155 (115 + 5 * i + 2)) + t)) ((pMe_Rd hI.1).1 _) ?_
        refine a_ldc (x := 1000000) cX9_175 (by decide) dX9_laysMeets_39 ?_
        refine a_icmp_ge (tgt := 72) dX9_laysMeets_41 (by decide) (inR_gN _ _ _) (inR_of (by omega) (by omega)) (fun c41 => ?_) (fun c41 => ?_)
        · refine a_iconst dX9_laysMeets_72 ?_
          refine a_istore (ls' := [(5, ai 0), (4, ai i), (3, ai 0), (0, ar 153), (1, ai t), (2, ai arr)]) dX9_laysMeets_73 (Nat.le_of_ble_eq_true rfl) rfl ?_
          refine a_goto (tgt := 142) dX9_laysMeets_75 (by decide) ?_
          refine a_keep (ls' := [(5, ai 0), (4, ai i), (3, ai ((0 : Nat) : Int)), (0, ar 153), (1, ai t), (2, ai arr)]) (by simp) ?_
          refine t_meets_t σ hW hT t arr ht0 ht1 harr 0 (by omega) i (0) (by omega) (by omega) τ hI (by unfold b2i enF; grind) (fun υ hυ => ?_)
          refine a_keep (ls' := [(4, ai i), (3, ai (0)), (0, ar 153), (1, ai t), (2, ai arr)]) (by simp) ?_
          refine a_iinc (y := i + (-1)) (ls' := [(4, ai (i + (-1))), (3, ai (0)), (0, ar 153), (1, ai t), (2, ai arr)]) dX9_laysMeets_233 rfl rfl (Nat.le_of_ble_eq_true rfl) rfl ?_
          refine a_goto (tgt := 15) dX9_laysMeets_236 (by decide) ?_
          exact ih (i + (-1)) υ (by omega) (by omega) (by omega) (by rw [show i + (-1) + 1 = i by omega]; exact hυ)
        · refine a_aload_n dX9_laysMeets_44 rfl rfl ?_
          refine a_getF (d := 162) fX9_39 k153 rfl r153_22 dX9_laysMeets_45 ?_
          refine a_iload dX9_laysMeets_48 rfl ?_
          refine a_ild k162 n162 (by omega) (by omega) dX9_laysMeets_50 ?_
          refine a_topI (y := gN σ 162 i) ((pMe_Rd hI.1).2.2.2.1 i) ?_
          refine a_aload_n dX9_laysMeets_51 rfl rfl ?_
          refine a_aload_n dX9_laysMeets_52 rfl rfl ?_
          refine a_iload dX9_laysMeets_53 rfl ?_
          refine a_iconst dX9_laysMeets_55 ?_
          refine a_cI (c := 153) (as := [ai i, ai 2]) (rest := [ar 153, ai (gN σ 162 i)]) (t_told τ i 2 (by omega) (by omega)) mvX9_told lX9_201 k153 (by decide) rfl rfl rfl rfl (Nat.le_of_ble_eq_true rfl) (Nat.le_of_ble_eq_true rfl) (Nat.le_of_ble_eq_true rfl) dX9_laysMeets_56 ?_
          refine a_topI (y := gN σ 155 (115 + 5 * i + 2)) ((pMe_Rd hI.1).1 _) ?_
          refine a_iload_n dX9_laysMeets_59 rfl rfl ?_
          refine a_cI (c := 153) (as := [ai (gN σ 155 (115 + 5 * i + 2)), ai t]) (rest := [ai (gN σ 162 i)]) (t_walked τ (gN σ 155 (115 + 5 * i + 2)) t (by omega) (by omega)) mvX9_walked lX9_216 k153 (by decide) rfl rfl rfl rfl (Nat.le_of_ble_eq_true rfl) (Nat.le_of_ble_eq_true rfl) (Nat.le_of_ble_eq_true rfl) dX9_laysMeets_60 ?_
          refine a_topI (y := gN σ 155 (15 + 10 * (gN σ 155 (115 + 5 * i + 2)) + t)) ((pMe_Rd hI.1).1 _) ?_
          refine a_iadd dX9_laysMeets_63 ?_
          refine a_iload_n dX9_laysMeets_64 rfl rfl ?_
          refine a_icmp_ne (tgt := 72) dX9_laysMeets_65 (by decide) (inR_of (by omega) (by omega)) harr (fun c65 => ?_) (fun c65 => ?_)
          · refine a_iconst dX9_laysMeets_72 ?_
            refine a_istore (ls' := [(5, ai 0), (4, ai i), (3, ai 0), (0, ar 153), (1, ai t), (2, ai arr)]) dX9_laysMeets_73 (Nat.le_of_ble_eq_true rfl) rfl ?_
            refine a_goto (tgt := 142) dX9_laysMeets_75 (by decide) ?_
            refine a_keep (ls' := [(5, ai 0), (4, ai i), (3, ai ((0 : Nat) : Int)), (0, ar 153), (1, ai t), (2, ai arr)]) (by simp) ?_
            refine t_meets_t σ hW hT t arr ht0 ht1 harr 0 (by omega) i (0) (by omega) (by omega) τ hI (by unfold b2i enF; grind) (fun υ hυ => ?_)
            refine a_keep (ls' := [(4, ai i), (3, ai (0)), (0, ar 153), (1, ai t), (2, ai arr)]) (by simp) ?_
            refine a_iinc (y := i + (-1)) (ls' := [(4, ai (i + (-1))), (3, ai (0)), (0, ar 153), (1, ai t), (2, ai arr)]) dX9_laysMeets_233 rfl rfl (Nat.le_of_ble_eq_true rfl) rfl ?_
            refine a_goto (tgt := 15) dX9_laysMeets_236 (by decide) ?_
            exact ih (i + (-1)) υ (by omega) (by omega) (by omega) (by rw [show i + (-1) + 1 = i by omega]; exact hυ)
          · refine a_iconst dX9_laysMeets_68 ?_
            refine a_goto (tgt := 73) dX9_laysMeets_69 (by decide) ?_
            refine a_istore (ls' := [(5, ai 1), (4, ai i), (3, ai 0), (0, ar 153), (1, ai t), (2, ai arr)]) dX9_laysMeets_73 (Nat.le_of_ble_eq_true rfl) rfl ?_
            refine a_goto (tgt := 142) dX9_laysMeets_75 (by decide) ?_
            refine a_keep (ls' := [(5, ai 1), (4, ai i), (3, ai ((0 : Nat) : Int)), (0, ar 153), (1, ai t), (2, ai arr)]) (by simp) ?_
            refine t_meets_t σ hW hT t arr ht0 ht1 harr 0 (by omega) i (1) (by omega) (by omega) τ hI (by unfold b2i enF; grind) (fun υ hυ => ?_)
            refine a_keep (ls' := [(4, ai i), (3, ai (0)), (0, ar 153), (1, ai t), (2, ai arr)]) (by simp) ?_
            refine a_iinc (y := i + (-1)) (ls' := [(4, ai (i + (-1))), (3, ai (0)), (0, ar 153), (1, ai t), (2, ai arr)]) dX9_laysMeets_233 rfl rfl (Nat.le_of_ble_eq_true rfl) rfl ?_
            refine a_goto (tgt := 15) dX9_laysMeets_236 (by decide) ?_
            exact ih (i + (-1)) υ (by omega) (by omega) (by omega) (by rw [show i + (-1) + 1 = i by omega]; exact hυ)

set_option maxRecDepth 20000 in
theorem t_meets_m (σ : Sto) (hW : WOK σ) (hT : TOK σ) (t arr : Int) (ht0 : 0 ≤ t) (ht1 : t < 10) (harr : inR arr) (m : Nat) (hm : m ≤ 3) (hx : ∀ τ : Sto, MeTo σ τ t arr (m + 1) 0 → RunA mX9_laysMeets (fun r v => r = none ∧ MeTo σ v t arr 5 (gN σ 155 3)) 239 [(3, ai ((m : Int) + 1)), (0, ar 153), (1, ai t), (2, ai arr)] [] τ) : ∀ (n : Nat) (i : Int) (τ : Sto), -1 ≤ i → i < gN σ 155 3 → n = (i + 1).toNat → MeTo σ τ t arr (m + 1) (i + 1) → RunA mX9_laysMeets (fun r v => r = none ∧ MeTo σ v t arr 5 (gN σ 155 3)) 15 [(4, ai i), (3, ai ((m : Int) + 1)), (0, ar 153), (1, ai t), (2, ai arr)] [] τ := by
  have hR := hW.1
  intro n
  induction n with
  | zero =>
    intro i τ h0 h60 hn hI
    refine a_iload dX9_laysMeets_15 rfl ?_
    refine a_if_lt (tgt := 239) dX9_laysMeets_17 (by decide) (inR_of (by omega) (by omega)) (fun c17 => ?_) (fun c17 => ?_)
    · exact a_keep (by simp) (hx τ (by rw [show i + 1 = 0 by omega] at hI; exact hI))
    · exfalso; omega
  | succ n ih =>
    intro i τ h0 h60 hn hI
    refine a_iload dX9_laysMeets_15 rfl ?_
    refine a_if_lt (tgt := 239) dX9_laysMeets_17 (by decide) (inR_of (by omega) (by omega)) (fun c17 => ?_) (fun c17 => ?_)
    · exfalso; omega
    · refine a_iconst dX9_laysMeets_20 ?_
      refine a_istore (ls' := [(5, ai 0), (4, ai i), (3, ai ((m : Int) + 1)), (0, ar 153), (1, ai t), (2, ai arr)]) dX9_laysMeets_21 (Nat.le_of_ble_eq_true rfl) rfl ?_
      refine a_iload_n dX9_laysMeets_23 rfl rfl ?_
      refine a_if_ne (tgt := 78) dX9_laysMeets_24 (by decide) (inR_of (by omega) (by omega)) (fun c24 => ?_) (fun c24 => ?_)
      · refine a_iconst dX9_laysMeets_78 ?_
        refine a_istore (ls' := [(6, ai 0), (5, ai 0), (4, ai i), (3, ai ((m : Int) + 1)), (0, ar 153), (1, ai t), (2, ai arr)]) dX9_laysMeets_79 (Nat.le_of_ble_eq_true rfl) rfl ?_
        refine a_keep (ls' := [(6, ai 0), (5, ai (b2i false)), (4, ai i), (3, ai ((m : Int) + 1)), (0, ar 153), (1, ai t), (2, ai arr)]) (by simp [b2i]) ?_
        refine t_meets_i σ hW hT t arr ht0 ht1 harr m hm i (by omega) (by omega) τ hI (enF σ t arr (m + 1) i) ?_ (gN σ 155 3).toNat 0 false (by omega) (by omega) (by omega) (by rw [Bool.false_or]; rfl)
        refine a_keep (ls' := [(5, ai (b2i (enF σ t arr (m + 1) i))), (4, ai i), (3, ai ((m + 1 : Nat) : Int)), (0, ar 153), (1, ai t), (2, ai arr)]) (by simp) ?_
        refine t_meets_t σ hW hT t arr ht0 ht1 harr (m + 1) (by omega) i (b2i (enF σ t arr (m + 1) i)) (by omega) (by omega) τ hI rfl (fun υ hυ => ?_)
        refine a_keep (ls' := [(4, ai i), (3, ai ((m : Int) + 1)), (0, ar 153), (1, ai t), (2, ai arr)]) (by simp) ?_
        refine a_iinc (y := i + (-1)) (ls' := [(4, ai (i + (-1))), (3, ai ((m : Int) + 1)), (0, ar 153), (1, ai t), (2, ai arr)]) dX9_laysMeets_233 rfl rfl (Nat.le_of_ble_eq_true rfl) rfl ?_
        refine a_goto (tgt := 15) dX9_laysMeets_236 (by decide) ?_
        exact ih (i + (-1)) υ (by omega) (by omega) (by omega) (by rw [show i + (-1) + 1 = i by omega]; exact hυ)
      · exfalso; omega

theorem MeTo.step {σ τ : Sto} {t arr : Int} {m : Nat} (h : MeTo σ τ t arr m 0) : MeTo σ τ t arr (m + 1) (gN σ 155 3) := ⟨h.1, fun n k q0 q1 q2 => h.2 n k q0 q1 (by omega)⟩

set_option maxRecDepth 20000 in
theorem t_meets_o (σ : Sto) (hW : WOK σ) (hT : TOK σ) (t arr : Int) (ht0 : 0 ≤ t) (ht1 : t < 10) (harr : inR arr) : ∀ (n : Nat) (m : Nat) (τ : Sto), m ≤ 4 → n = 4 - m → MeTo σ τ t arr (m + 1) (gN σ 155 3) → RunA mX9_laysMeets (fun r v => r = none ∧ MeTo σ v t arr 5 (gN σ 155 3)) 2 [(3, ai ((m : Int) + 1)), (0, ar 153), (1, ai t), (2, ai arr)] [] τ := by
  have hR := hW.1
  intro n
  induction n with
  | zero =>
    intro m τ h5 hn hI
    refine a_iload_n dX9_laysMeets_2 rfl rfl ?_
    refine a_iconst dX9_laysMeets_3 ?_
    refine a_icmp_gt (tgt := 245) dX9_laysMeets_4 (by decide) (inR_of (by omega) (by omega)) (inR_of (by omega) (by omega)) (fun c4 => ?_) (fun c4 => ?_)
    · exact a_vret rfl ⟨rfl, hI.1, fun n k q0 q1 q2 => hI.2 n k q0 q1 (by omega)⟩ dX9_laysMeets_245
    · exfalso; omega
  | succ n ih =>
    intro m τ h5 hn hI
    refine a_iload_n dX9_laysMeets_2 rfl rfl ?_
    refine a_iconst dX9_laysMeets_3 ?_
    refine a_icmp_gt (tgt := 245) dX9_laysMeets_4 (by decide) (inR_of (by omega) (by omega)) (inR_of (by omega) (by omega)) (fun c4 => ?_) (fun c4 => ?_)
    · exfalso; omega
    · refine a_aload_n dX9_laysMeets_7 rfl rfl ?_
      refine a_cI (c := 153) (as := []) (rest := []) (t_rides τ  ) mvX9_rides lX9_198 k153 (by decide) rfl rfl rfl rfl (Nat.le_of_ble_eq_true rfl) (Nat.le_of_ble_eq_true rfl) (Nat.le_of_ble_eq_true rfl) dX9_laysMeets_8 ?_
      refine a_topI (y := gN σ 155 3) ((pMe_Rd hI.1).1 _) ?_
      refine a_iconst dX9_laysMeets_11 ?_
      refine a_isub dX9_laysMeets_12 ?_
      refine a_istore (ls' := [(4, ai (gN σ 155 3 - 1)), (3, ai ((m : Int) + 1)), (0, ar 153), (1, ai t), (2, ai arr)]) dX9_laysMeets_13 (Nat.le_of_ble_eq_true rfl) rfl ?_
      refine a_keep (ls' := [(4, ai (gN σ 155 3 - 1)), (3, ai ((m : Int) + 1)), (0, ar 153), (1, ai t), (2, ai arr)]) (by simp) ?_
      refine t_meets_m σ hW hT t arr ht0 ht1 harr m (by omega) (fun υ hυ => ?_) (gN σ 155 3).toNat (gN σ 155 3 - 1) τ (by omega) (by omega) (by omega) (by rw [show gN σ 155 3 - 1 + 1 = gN σ 155 3 by omega]; exact hI)
      refine a_iinc (y := (m : Int) + 1 + 1) (ls' := [(3, ai ((m : Int) + 1 + 1)), (0, ar 153), (1, ai t), (2, ai arr)]) dX9_laysMeets_239 rfl rfl (Nat.le_of_ble_eq_true rfl) rfl ?_
      refine a_goto (tgt := 2) dX9_laysMeets_242 (by decide) ?_
      exact a_keep (by simp) (ih (m + 1) υ (by omega) (by omega) hυ.step)

set_option maxRecDepth 20000 in
theorem t_laysMeets (σ : Sto) (hW : WOK σ) (hT : TOK σ) (t arr : Int) (ht0 : 0 ≤ t) (ht1 : t < 10) (harr : inR arr) : MetA mX9_laysMeets [ar 153, ai t, ai arr] σ (fun r v => r = none ∧ MeTo σ v t arr 5 (gN σ 155 3)) := by
  have hR := hW.1
  refine a_entry (by decide) (Nat.le_of_ble_eq_true rfl) ?_
  refine a_iconst dX9_laysMeets_0 ?_
  refine a_istore_n (ls' := [(3, ai 0), (0, ar 153), (1, ai t), (2, ai arr)]) dX9_laysMeets_1 rfl (Nat.le_of_ble_eq_true rfl) rfl ?_
  refine a_iload_n dX9_laysMeets_2 rfl rfl ?_
  refine a_iconst dX9_laysMeets_3 ?_
  refine a_icmp_gt (tgt := 245) dX9_laysMeets_4 (by decide) (inR_of (by omega) (by omega)) (inR_of (by omega) (by omega)) (fun c4 => ?_) (fun c4 => ?_)
  · exact absurd c4 (by decide)
  · refine a_aload_n dX9_laysMeets_7 rfl rfl ?_
    refine a_cI (c := 153) (as := []) (rest := []) (t_rides σ  ) mvX9_rides lX9_198 k153 (by decide) rfl rfl rfl rfl (Nat.le_of_ble_eq_true rfl) (Nat.le_of_ble_eq_true rfl) (Nat.le_of_ble_eq_true rfl) dX9_laysMeets_8 ?_
    refine a_iconst dX9_laysMeets_11 ?_
    refine a_isub dX9_laysMeets_12 ?_
    refine a_istore (ls' := [(4, ai (gN σ 155 3 - 1)), (3, ai 0), (0, ar 153), (1, ai t), (2, ai arr)]) dX9_laysMeets_13 (Nat.le_of_ble_eq_true rfl) rfl ?_
    refine a_keep (ls' := [(4, ai (gN σ 155 3 - 1)), (3, ai 0), (0, ar 153), (1, ai t), (2, ai arr)]) (by simp) ?_
    refine t_meets_0 σ hW hT t arr ht0 ht1 harr (fun υ hυ => ?_) (gN σ 155 3).toNat (gN σ 155 3 - 1) σ (by omega) (by omega) (by omega) ⟨Fr.rfl, fun n k q0 q1 q2 => by omega⟩
    refine a_iinc (y := (0 : Int) + 1) (ls' := [(3, ai ((0 : Int) + 1)), (0, ar 153), (1, ai t), (2, ai arr)]) dX9_laysMeets_239 rfl rfl (Nat.le_of_ble_eq_true rfl) rfl ?_
    refine a_goto (tgt := 2) dX9_laysMeets_242 (by decide) ?_
    exact a_keep (by simp) (t_meets_o σ hW hT t arr ht0 ht1 harr 4 0 υ (by omega) (by omega) hυ.step)

