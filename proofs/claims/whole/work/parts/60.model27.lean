theorem inR_gt {x y : Int} (h : inR x) (hy : inR y) : inR x := h

set_option maxRecDepth 20000 in
theorem t_wh_i (σ : Sto) (hp0 : 0 ≤ gN σ 153 8) (hp1 : gN σ 153 8 ≤ gN σ 153 7) (ha : gN σ 153 7 ≤ 900) (h4 : gN σ 153 7 - gN σ 153 8 = 4) (k V X : Int) (hk0 : 0 ≤ k) (hk1 : k < 3) (hx : RunA mX9_wordHere (qI V σ) 67 [(2, ai X), (1, ai k), (0, ar 153)] [] σ) : ∀ (n : Nat) (i : Int) (is : Int), 0 ≤ i → i ≤ 4 → n = (4 - i).toNat → X = itr (wkF (fun j => gN σ 154 j) (gN σ 153 8) k) n i is → RunA mX9_wordHere (qI V σ) 24 [(3, ai i), (2, ai is), (1, ai k), (0, ar 153)] [] σ := by
  intro n
  induction n with
  | zero =>
    intro i is h0 h5 hn hE
    refine a_iload_n dX9_wordHere_24 rfl rfl ?_
    refine a_iconst dX9_wordHere_25 ?_
    refine a_icmp_ge (tgt := 67) dX9_wordHere_26 (by decide) (inR_of (by omega) (by omega)) (inR_of (by omega) (by omega)) (fun c26 => ?_) (fun c26 => ?_)
    · exact a_keep (by simp [hE, itr]) hx
    · exfalso; omega
  | succ n ih =>
    intro i is h0 h5 hn hE
    refine a_iload_n dX9_wordHere_24 rfl rfl ?_
    refine a_iconst dX9_wordHere_25 ?_
    refine a_icmp_ge (tgt := 67) dX9_wordHere_26 (by decide) (inR_of (by omega) (by omega)) (inR_of (by omega) (by omega)) (fun c26 => ?_) (fun c26 => ?_)
    · exfalso; omega
    · refine a_iload_n dX9_wordHere_29 rfl rfl ?_
      refine a_aload_n dX9_wordHere_30 rfl rfl ?_
      refine a_getF (d := 154) fX9_7 k153 rfl r153_1 dX9_wordHere_31 ?_
      refine a_aload_n dX9_wordHere_34 rfl rfl ?_
      refine a_getI (J := 8) fX9_101 k153 rfl rfl dX9_wordHere_35 ?_
      refine a_iload_n dX9_wordHere_38 rfl rfl ?_
      refine a_iadd dX9_wordHere_39 ?_
      refine a_ild k154 n154 (by omega) (by omega) dX9_wordHere_40 ?_
      refine a_ldcS rfl dX9_wordHere_41 ?_
      refine a_iconst dX9_wordHere_43 ?_
      refine a_iload_n dX9_wordHere_44 rfl rfl ?_
      refine a_imul dX9_wordHere_45 ?_
      refine a_iload_n dX9_wordHere_46 rfl rfl ?_
      refine a_iadd dX9_wordHere_47 ?_
      refine a_callStr (as := [ai (5 * k + i)]) (rest := [ai (gN σ 154 (gN σ 153 8 + i)), ai is]) (t_charAt σ (5 * k + i) (by omega) (by omega)) mvJ0_charAt_5068e lX9_126 rfl rfl rfl rfl (Nat.le_of_ble_eq_true rfl) (Nat.le_of_ble_eq_true rfl) (Nat.le_of_ble_eq_true rfl) dX9_wordHere_48 (fun y u hu => ?_)
      obtain ⟨hy, hu2⟩ := hu
      rw [hu2]
      cases hy
      refine a_icmp_ne (tgt := 58) dX9_wordHere_51 (by decide) (inR_gN _ _ _) (inR32 _) (fun c51 => ?_) (fun c51 => ?_)
      · refine a_iconst dX9_wordHere_58 ?_
        refine a_iand (z := andI is 0) dX9_wordHere_59 (Int32.ofInt_toInt _).symm ?_
        refine a_istore_n (ls' := [(2, ai (andI is 0)), (3, ai i), (1, ai k), (0, ar 153)]) dX9_wordHere_60 rfl (Nat.le_of_ble_eq_true rfl) rfl ?_
        refine a_iinc (y := i + 1) (ls' := [(3, ai (i + 1)), (2, ai (andI is 0)), (1, ai k), (0, ar 153)]) dX9_wordHere_61 rfl rfl (Nat.le_of_ble_eq_true rfl) rfl ?_
        refine a_goto (tgt := 24) dX9_wordHere_64 (by decide) ?_
        have e : wkF (fun j => gN σ 154 j) (gN σ 153 8) k i is = andI is 0 := by unfold wkF; grind
        exact a_keep (by simp) (ih (i + 1) (andI is 0) (by omega) (by omega) (by omega) (by rw [hE, itr_s, e]))
      · refine a_iconst dX9_wordHere_54 ?_
        refine a_goto (tgt := 59) dX9_wordHere_55 (by decide) ?_
        refine a_iand (z := andI is 1) dX9_wordHere_59 (Int32.ofInt_toInt _).symm ?_
        refine a_istore_n (ls' := [(2, ai (andI is 1)), (3, ai i), (1, ai k), (0, ar 153)]) dX9_wordHere_60 rfl (Nat.le_of_ble_eq_true rfl) rfl ?_
        refine a_iinc (y := i + 1) (ls' := [(3, ai (i + 1)), (2, ai (andI is 1)), (1, ai k), (0, ar 153)]) dX9_wordHere_61 rfl rfl (Nat.le_of_ble_eq_true rfl) rfl ?_
        refine a_goto (tgt := 24) dX9_wordHere_64 (by decide) ?_
        have e : wkF (fun j => gN σ 154 j) (gN σ 153 8) k i is = andI is 1 := by unfold wkF; grind
        exact a_keep (by simp) (ih (i + 1) (andI is 1) (by omega) (by omega) (by omega) (by rw [hE, itr_s, e]))

theorem inR_itr (T : Int → Int) (p k : Int) (n : Nat) : inR (itr (wkF T p k) n 0 1) := by
  have h : ∀ (n : Nat) (i x : Int), inR x → inR (itr (wkF T p k) n i x) := by
    intro n
    induction n with
    | zero => intro i x h; exact h
    | succ n ih => intro i x h; exact ih (i + 1) _ (inR32 _)
  exact h n 0 1 (by unfold inR; omega)

set_option maxRecDepth 20000 in
theorem t_wh_k (σ : Sto) (hp0 : 0 ≤ gN σ 153 8) (hp1 : gN σ 153 8 ≤ gN σ 153 7) (ha : gN σ 153 7 ≤ 900) (h4 : gN σ 153 7 - gN σ 153 8 = 4) (V : Int) : ∀ (n : Nat) (k : Int), 0 ≤ k → k ≤ 3 → n = (3 - k).toNat → V = fs2 (wkB (fun j => gN σ 154 j) (gN σ 153 8)) (-1) n k → RunA mX9_wordHere (qI V σ) 2 [(1, ai k), (0, ar 153)] [] σ := by
  intro n
  induction n with
  | zero =>
    intro k h0 h5 hn hE
    refine a_iload_n dX9_wordHere_2 rfl rfl ?_
    refine a_iconst dX9_wordHere_3 ?_
    refine a_icmp_ge (tgt := 79) dX9_wordHere_4 (by decide) (inR_of (by omega) (by omega)) (inR_of (by omega) (by omega)) (fun c4 => ?_) (fun c4 => ?_)
    · refine a_iconst dX9_wordHere_79 ?_
      exact a_iret rfl ⟨by rw [hE]; rfl, rfl⟩ dX9_wordHere_80
    · exfalso; omega
  | succ n ih =>
    intro k h0 h5 hn hE
    refine a_iload_n dX9_wordHere_2 rfl rfl ?_
    refine a_iconst dX9_wordHere_3 ?_
    refine a_icmp_ge (tgt := 79) dX9_wordHere_4 (by decide) (inR_of (by omega) (by omega)) (inR_of (by omega) (by omega)) (fun c4 => ?_) (fun c4 => ?_)
    · exfalso; omega
    · refine a_aload_n dX9_wordHere_7 rfl rfl ?_
      refine a_getI (J := 7) fX9_91 k153 rfl rfl dX9_wordHere_8 ?_
      refine a_aload_n dX9_wordHere_11 rfl rfl ?_
      refine a_getI (J := 8) fX9_101 k153 rfl rfl dX9_wordHere_12 ?_
      refine a_isub dX9_wordHere_15 ?_
      refine a_iconst dX9_wordHere_16 ?_
      refine a_icmp_ne (tgt := 79) dX9_wordHere_17 (by decide) (inR_of (by omega) (by omega)) (inR_of (by omega) (by omega)) (fun c17 => ?_) (fun c17 => ?_)
      · exfalso; omega
      · refine a_iconst dX9_wordHere_20 ?_
        refine a_istore_n (ls' := [(2, ai 1), (1, ai k), (0, ar 153)]) dX9_wordHere_21 rfl (Nat.le_of_ble_eq_true rfl) rfl ?_
        refine a_iconst dX9_wordHere_22 ?_
        refine a_istore_n (ls' := [(3, ai 0), (2, ai 1), (1, ai k), (0, ar 153)]) dX9_wordHere_23 rfl (Nat.le_of_ble_eq_true rfl) rfl ?_
        refine a_keep (ls' := [(3, ai 0), (2, ai 1), (1, ai k), (0, ar 153)]) (by simp) ?_
        refine t_wh_i σ hp0 hp1 ha h4 k V (itr (wkF (fun j => gN σ 154 j) (gN σ 153 8) k) 4 0 1) (by omega) (by omega) ?_ 4 0 1 (by omega) (by omega) (by omega) rfl
        refine a_iload_n dX9_wordHere_67 rfl rfl ?_
        refine a_if_eq (tgt := 73) dX9_wordHere_68 (by decide) (inR_itr _ _ _ _) (fun c68 => ?_) (fun c68 => ?_)
        · refine a_iinc (y := k + 1) (ls' := [(1, ai (k + 1)), (2, ai (itr (wkF (fun j => gN σ 154 j) (gN σ 153 8) k) 4 0 1)), (0, ar 153)]) dX9_wordHere_73 rfl rfl (Nat.le_of_ble_eq_true rfl) rfl ?_
          refine a_goto (tgt := 2) dX9_wordHere_76 (by decide) ?_
          have hp : (wkB (fun j => gN σ 154 j) (gN σ 153 8)) k = false := by unfold wkB; grind
          exact a_keep (by simp) (ih (k + 1) (by omega) (by omega) (by omega) (by rw [hE, fs2_no hp]))
        · refine a_iload_n dX9_wordHere_71 rfl rfl ?_
          exact a_iret rfl ⟨by rw [hE, fs2_yes (show (wkB (fun j => gN σ 154 j) (gN σ 153 8)) k = true by unfold wkB; grind)], rfl⟩ dX9_wordHere_72

set_option maxRecDepth 20000 in
theorem t_wordHere (σ : Sto) (hp0 : 0 ≤ gN σ 153 8) (hp1 : gN σ 153 8 ≤ gN σ 153 7) (ha : gN σ 153 7 ≤ 900) : MetI mX9_wordHere [ar 153] σ (whF (fun j => gN σ 154 j) (gN σ 153 8) (gN σ 153 7)) σ := by
  refine a_entry (by decide) (Nat.le_of_ble_eq_true rfl) ?_
  refine a_iconst dX9_wordHere_0 ?_
  refine a_istore_n (ls' := [(1, ai 0), (0, ar 153)]) dX9_wordHere_1 rfl (Nat.le_of_ble_eq_true rfl) rfl ?_
  by_cases h4 : gN σ 153 7 - gN σ 153 8 = 4
  · rw [show whF (fun j => gN σ 154 j) (gN σ 153 8) (gN σ 153 7) = fs2 (wkB (fun j => gN σ 154 j) (gN σ 153 8)) (-1) 3 0 from by unfold whF; rw [if_pos h4]]
    exact a_keep (by simp) (t_wh_k σ hp0 hp1 ha h4 _ 3 0 (by omega) (by omega) (by omega) rfl)
  · rw [show whF (fun j => gN σ 154 j) (gN σ 153 8) (gN σ 153 7) = -1 from by unfold whF; rw [if_neg h4]]
    refine a_iload_n dX9_wordHere_2 rfl rfl ?_
    refine a_iconst dX9_wordHere_3 ?_
    refine a_icmp_ge (tgt := 79) dX9_wordHere_4 (by decide) (inR_of (by omega) (by omega)) (inR_of (by omega) (by omega)) (fun c4 => ?_) (fun c4 => ?_)
    · exact absurd c4 (by decide)
    · refine a_aload_n dX9_wordHere_7 rfl rfl ?_
      refine a_getI (J := 7) fX9_91 k153 rfl rfl dX9_wordHere_8 ?_
      refine a_aload_n dX9_wordHere_11 rfl rfl ?_
      refine a_getI (J := 8) fX9_101 k153 rfl rfl dX9_wordHere_12 ?_
      refine a_isub dX9_wordHere_15 ?_
      refine a_iconst dX9_wordHere_16 ?_
      refine a_icmp_ne (tgt := 79) dX9_wordHere_17 (by decide) (inR_of (by omega) (by omega)) (inR_of (by omega) (by omega)) (fun c17 => ?_) (fun c17 => ?_)
      · refine a_iconst dX9_wordHere_79 ?_
        exact a_iret rfl ⟨rfl, rfl⟩ dX9_wordHere_80
      · exact absurd (by omega) h4

