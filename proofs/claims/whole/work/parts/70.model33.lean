def cnS (b i : Int) (s : Int64) : Int64 := if b = 0 then s &&& (shlL 1 i ^^^ (-1)) else s ||| shlL 1 i
def cnF (σ : Sto) (b : Int) : Nat → Int → Int → Int64 → Int64
  | 0, _, _, s => s
  | d + 1, left, i, s => if 0 < left then (if nxt σ i then cnF σ b d (left - 1) (i + 1) (cnS b i s) else cnS b i s) else s
def cnV (σ : Sto) (trip j n b : Int) : Int64 := cnF σ b (gN σ 155 3 - (foF σ trip + j)).toNat n (foF σ trip + j) (gL σ 153 17)
def cancelF (σ : Sto) (trip j n b : Int) : Int := if ¬ trp σ trip ∨ j < 0 ∨ moF σ trip ≤ j ∨ n < 1 then -1 else bitC (cnV σ trip j n b ^^^ gL σ 153 17)
def CnPost (σ u : Sto) (trip j n b : Int) : Prop := if cancelF σ trip j n b = -1 ∨ cancelF σ trip j n b = 0 then u = sN σ 153 0 0 else ∃ y, Kept (sN σ 153 0 0) y ∧ u = sL y 153 17 (cnV σ trip j n b)
theorem bitC_rng (x : Int64) : 0 ≤ bitC x ∧ bitC x ≤ 127 := by
  have h : ∀ y : BitVec 32, 0 ≤ (y &&& 127#32).toInt ∧ (y &&& 127#32).toInt ≤ 127 := by
    intro y
    have h2 : (y &&& 127#32).toNat ≤ 127 := by rw [BitVec.toNat_and]; exact Nat.and_le_right
    rw [BitVec.toInt_eq_toNat_of_lt (by omega)]
    omega
  unfold bitC
  exact h (Int32.ofInt (bcF x)).toBitVec

set_option maxRecDepth 20000 in
theorem t_cancel_l (σ : Sto) (hW : WOK σ) (hR2 : TrOK σ) (hU : UnOK σ) (trip j n b : Int) (ht : trp σ trip) (hb : inR b) (V : Int64) (hx : RunA mX9_cancel (fun r u => r = some (ai (cancelF σ trip j n b)) ∧ CnPost σ u trip j n b) 104 [(5, al V), (0, ar 153), (1, ai trip), (2, ai j), (3, ai n), (4, ai b)] [] (sN σ 153 0 0)) : ∀ (d : Nat) (left i : Int) (s : Int64), 0 ≤ left → left ≤ 2147483647 → 0 ≤ i → i < gN σ 155 3 → d = (gN σ 155 3 - i).toNat → V = cnF σ b d left i s → RunA mX9_cancel (fun r u => r = some (ai (cancelF σ trip j n b)) ∧ CnPost σ u trip j n b) 51 [(8, ai left), (7, ai i), (5, al s), (0, ar 153), (1, ai trip), (2, ai j), (3, ai n), (4, ai b)] [] (sN σ 153 0 0) := by
  have hR := hW.1
  intro d
  induction d with
  | zero =>
    intro left i s hl0 hl1 h0 h1 hn hE
    exfalso; omega
  | succ d ih =>
    intro left i s hl0 hl1 h0 h1 hn hE
    refine a_iload dX9_cancel_51 rfl ?_
    refine a_if_le (tgt := 104) dX9_cancel_53 (by decide) (inR_of (by omega) (by omega)) (fun c53 => ?_) (fun c53 => ?_)
    · have hV : V = s := by rw [hE]; show (if 0 < left then (if nxt σ i then _ else _) else s) = _; rw [if_neg (by omega)]
      exact a_keep (by simp [hV]) hx
    · refine a_iload dX9_cancel_56 rfl ?_
      refine a_iconst dX9_cancel_58 ?_
      refine a_icmp_eq (tgt := 104) dX9_cancel_59 (by decide) (inR_of (by omega) (by omega)) (inR_of (by omega) (by omega)) (fun c59 => ?_) (fun c59 => ?_)
      · exfalso; omega
      · refine a_iload dX9_cancel_62 rfl ?_
        refine a_if_eq (tgt := 77) dX9_cancel_64 (by decide) hb (fun c64 => ?_) (fun c64 => ?_)
        · refine a_lload dX9_cancel_77 rfl ?_
          refine a_lconst (v := 1) dX9_cancel_79 rfl ?_
          refine a_iload dX9_cancel_80 rfl ?_
          refine a_lshl dX9_cancel_82 ?_
          refine a_ldc2 cX9_235 dX9_cancel_83 ?_
          refine a_lxor dX9_cancel_86 ?_
          refine a_land dX9_cancel_87 ?_
          refine a_lstore (ls' := [(5, al (s &&& ((shlL 1 i) ^^^ (-1)))), (8, ai left), (7, ai i), (0, ar 153), (1, ai trip), (2, ai j), (3, ai n), (4, ai b)]) dX9_cancel_88 (Nat.le_of_ble_eq_true rfl) rfl ?_
          refine a_aload_n dX9_cancel_90 rfl rfl ?_
          refine a_iload dX9_cancel_91 rfl ?_
          refine a_cI (c := 153) (as := [ai i]) (rest := []) (t_behind (sN σ 153 0 0) i (by omega) (by omega) (by rw [th155 σ]; omega)) mvX9_behind lX9_210 k153 (by decide) rfl rfl rfl rfl (Nat.le_of_ble_eq_true rfl) (Nat.le_of_ble_eq_true rfl) (Nat.le_of_ble_eq_true rfl) dX9_cancel_93 ?_
          refine a_topI (y := if nxt σ i then i + 1 else -1) (by simp only [th155 σ]) ?_
          have eS : cnS b i s = s &&& ((shlL 1 i) ^^^ (-1)) := by unfold cnS; grind
          by_cases hnx : nxt σ i
          · rw [if_pos hnx]
            refine a_istore (ls' := [(7, ai (i + 1)), (5, al (s &&& ((shlL 1 i) ^^^ (-1)))), (8, ai left), (0, ar 153), (1, ai trip), (2, ai j), (3, ai n), (4, ai b)]) dX9_cancel_96 (Nat.le_of_ble_eq_true rfl) rfl ?_
            refine a_iinc (y := left + (-1)) (ls' := [(8, ai (left + (-1))), (7, ai (i + 1)), (5, al (s &&& ((shlL 1 i) ^^^ (-1)))), (0, ar 153), (1, ai trip), (2, ai j), (3, ai n), (4, ai b)]) dX9_cancel_98 rfl rfl (Nat.le_of_ble_eq_true rfl) rfl ?_
            refine a_goto (tgt := 51) dX9_cancel_101 (by decide) ?_
            exact a_keep (by simp; omega) (ih (left - 1) (i + 1) (s &&& ((shlL 1 i) ^^^ (-1))) (by omega) (by omega) (by omega) (by omega) (by omega) (by rw [hE]; show (if 0 < left then (if nxt σ i then _ else _) else s) = _; rw [if_pos (by omega), if_pos hnx, eS]))
          · rw [if_neg hnx]
            have hV : V = s &&& ((shlL 1 i) ^^^ (-1)) := by rw [hE]; show (if 0 < left then (if nxt σ i then _ else _) else s) = _; rw [if_pos (by omega), if_neg hnx, eS]
            refine a_istore (ls' := [(7, ai (-1)), (5, al (s &&& ((shlL 1 i) ^^^ (-1)))), (8, ai left), (0, ar 153), (1, ai trip), (2, ai j), (3, ai n), (4, ai b)]) dX9_cancel_96 (Nat.le_of_ble_eq_true rfl) rfl ?_
            refine a_iinc (y := left + (-1)) (ls' := [(8, ai (left + (-1))), (7, ai (-1)), (5, al (s &&& ((shlL 1 i) ^^^ (-1)))), (0, ar 153), (1, ai trip), (2, ai j), (3, ai n), (4, ai b)]) dX9_cancel_98 rfl rfl (Nat.le_of_ble_eq_true rfl) rfl ?_
            refine a_goto (tgt := 51) dX9_cancel_101 (by decide) ?_
            refine a_iload dX9_cancel_51 rfl ?_
            refine a_if_le (tgt := 104) dX9_cancel_53 (by decide) (inR_of (by omega) (by omega)) (fun c53 => ?_) (fun c53 => ?_)
            · exact a_keep (by simp [hV]) hx
            · refine a_iload dX9_cancel_56 rfl ?_
              refine a_iconst dX9_cancel_58 ?_
              refine a_icmp_eq (tgt := 104) dX9_cancel_59 (by decide) (inR_of (by omega) (by omega)) (inR_of (by omega) (by omega)) (fun c59 => ?_) (fun c59 => ?_)
              · exact a_keep (by simp [hV]) hx
              · exact absurd c59 (by decide)
        · refine a_lload dX9_cancel_67 rfl ?_
          refine a_lconst (v := 1) dX9_cancel_69 rfl ?_
          refine a_iload dX9_cancel_70 rfl ?_
          refine a_lshl dX9_cancel_72 ?_
          refine a_lor dX9_cancel_73 ?_
          refine a_goto (tgt := 88) dX9_cancel_74 (by decide) ?_
          refine a_lstore (ls' := [(5, al (s ||| (shlL 1 i))), (8, ai left), (7, ai i), (0, ar 153), (1, ai trip), (2, ai j), (3, ai n), (4, ai b)]) dX9_cancel_88 (Nat.le_of_ble_eq_true rfl) rfl ?_
          refine a_aload_n dX9_cancel_90 rfl rfl ?_
          refine a_iload dX9_cancel_91 rfl ?_
          refine a_cI (c := 153) (as := [ai i]) (rest := []) (t_behind (sN σ 153 0 0) i (by omega) (by omega) (by rw [th155 σ]; omega)) mvX9_behind lX9_210 k153 (by decide) rfl rfl rfl rfl (Nat.le_of_ble_eq_true rfl) (Nat.le_of_ble_eq_true rfl) (Nat.le_of_ble_eq_true rfl) dX9_cancel_93 ?_
          refine a_topI (y := if nxt σ i then i + 1 else -1) (by simp only [th155 σ]) ?_
          have eS : cnS b i s = s ||| (shlL 1 i) := by unfold cnS; grind
          by_cases hnx : nxt σ i
          · rw [if_pos hnx]
            refine a_istore (ls' := [(7, ai (i + 1)), (5, al (s ||| (shlL 1 i))), (8, ai left), (0, ar 153), (1, ai trip), (2, ai j), (3, ai n), (4, ai b)]) dX9_cancel_96 (Nat.le_of_ble_eq_true rfl) rfl ?_
            refine a_iinc (y := left + (-1)) (ls' := [(8, ai (left + (-1))), (7, ai (i + 1)), (5, al (s ||| (shlL 1 i))), (0, ar 153), (1, ai trip), (2, ai j), (3, ai n), (4, ai b)]) dX9_cancel_98 rfl rfl (Nat.le_of_ble_eq_true rfl) rfl ?_
            refine a_goto (tgt := 51) dX9_cancel_101 (by decide) ?_
            exact a_keep (by simp; omega) (ih (left - 1) (i + 1) (s ||| (shlL 1 i)) (by omega) (by omega) (by omega) (by omega) (by omega) (by rw [hE]; show (if 0 < left then (if nxt σ i then _ else _) else s) = _; rw [if_pos (by omega), if_pos hnx, eS]))
          · rw [if_neg hnx]
            have hV : V = s ||| (shlL 1 i) := by rw [hE]; show (if 0 < left then (if nxt σ i then _ else _) else s) = _; rw [if_pos (by omega), if_neg hnx, eS]
            refine a_istore (ls' := [(7, ai (-1)), (5, al (s ||| (shlL 1 i))), (8, ai left), (0, ar 153), (1, ai trip), (2, ai j), (3, ai n), (4, ai b)]) dX9_cancel_96 (Nat.le_of_ble_eq_true rfl) rfl ?_
            refine a_iinc (y := left + (-1)) (ls' := [(8, ai (left + (-1))), (7, ai (-1)), (5, al (s ||| (shlL 1 i))), (0, ar 153), (1, ai trip), (2, ai j), (3, ai n), (4, ai b)]) dX9_cancel_98 rfl rfl (Nat.le_of_ble_eq_true rfl) rfl ?_
            refine a_goto (tgt := 51) dX9_cancel_101 (by decide) ?_
            refine a_iload dX9_cancel_51 rfl ?_
            refine a_if_le (tgt := 104) dX9_cancel_53 (by decide) (inR_of (by omega) (by omega)) (fun c53 => ?_) (fun c53 => ?_)
            · exact a_keep (by simp [hV]) hx
            · refine a_iload dX9_cancel_56 rfl ?_
              refine a_iconst dX9_cancel_58 ?_
              refine a_icmp_eq (tgt := 104) dX9_cancel_59 (by decide) (inR_of (by omega) (by omega)) (inR_of (by omega) (by omega)) (fun c59 => ?_) (fun c59 => ?_)
              · exact a_keep (by simp [hV]) hx
              · exact absurd c59 (by decide)

set_option maxRecDepth 20000 in
theorem t_cancel (σ : Sto) (trip j n b : Int) (htrip : inR trip) (hj : inR j) (hn : inR n) (hb : inR b) (hW : WOK σ) (hR2 : TrOK σ) (hU : UnOK σ) : MetA mX9_cancel [ar 153, ai trip, ai j, ai n, ai b] σ (fun r u => r = some (ai (cancelF σ trip j n b)) ∧ CnPost σ u trip j n b) := by
  have hR := hW.1
  have hTr := hW.2.2.1
  have hmg := mo_ge (σ := σ) (trip := trip) (gN σ 155 3).toNat 0 0 (by omega)
  refine a_entry (by decide) (Nat.le_of_ble_eq_true rfl) ?_
  refine a_ls (ls' := [(0, ar 153), (1, ai trip), (2, ai j), (3, ai n), (4, ai b)]) rfl ?_
  refine a_aload_n dX9_cancel_0 rfl rfl ?_
  refine a_iconst dX9_cancel_1 ?_
  refine a_putI (J := 0) fX9_85 k153 rfl rfl rfl dX9_cancel_2 ?_
  refine a_aload_n dX9_cancel_5 rfl rfl ?_
  refine a_iload_n dX9_cancel_6 rfl rfl ?_
  refine a_cI (c := 153) (as := [ai trip]) (rest := []) (t_isTrip (sN σ 153 0 0) trip htrip) mvX9_isTrip lX9_222 k153 (by decide) rfl rfl rfl rfl (Nat.le_of_ble_eq_true rfl) (Nat.le_of_ble_eq_true rfl) (Nat.le_of_ble_eq_true rfl) dX9_cancel_7 ?_
  refine a_topI (y := if trp σ trip then 1 else 0) (by simp only [th155]) ?_
  refine a_ifb_eq (tgt := 31) dX9_cancel_10 (by decide) (fun c10 => ?_) (fun c10 => ?_)
  · refine a_iconst dX9_cancel_31 ?_
    exact a_iret rfl ⟨by unfold cancelF; grind, by unfold CnPost; rw [if_pos (Or.inl (by unfold cancelF; grind))]⟩ dX9_cancel_32
  · refine a_iload_n dX9_cancel_13 rfl rfl ?_
    refine a_if_lt (tgt := 31) dX9_cancel_14 (by decide) hj (fun c14 => ?_) (fun c14 => ?_)
    · refine a_iconst dX9_cancel_31 ?_
      exact a_iret rfl ⟨by unfold cancelF; grind, by unfold CnPost; rw [if_pos (Or.inl (by unfold cancelF; grind))]⟩ dX9_cancel_32
    · refine a_iload_n dX9_cancel_17 rfl rfl ?_
      refine a_aload_n dX9_cancel_18 rfl rfl ?_
      refine a_iload_n dX9_cancel_19 rfl rfl ?_
      refine a_cI (c := 153) (as := [ai trip]) (rest := [ai j]) (t_manyOf (sN σ 153 0 0) trip (Q_W (th_F σ) hW) htrip) mvX9_manyOf lX9_225 k153 (by decide) rfl rfl rfl rfl (Nat.le_of_ble_eq_true rfl) (Nat.le_of_ble_eq_true rfl) (Nat.le_of_ble_eq_true rfl) dX9_cancel_20 ?_
      refine a_topI (y := moF σ trip) (moF_eq (th155 σ) _) ?_
      refine a_icmp_ge (tgt := 31) dX9_cancel_23 (by decide) hj (inR_of (by unfold moF; omega) (by have := fo_mo hR.1 hR2 (trip := trip) (by assumption); have := fo_ok hR2 (trip := trip) (by assumption); omega)) (fun c23 => ?_) (fun c23 => ?_)
      · refine a_iconst dX9_cancel_31 ?_
        exact a_iret rfl ⟨by unfold cancelF; grind, by unfold CnPost; rw [if_pos (Or.inl (by unfold cancelF; grind))]⟩ dX9_cancel_32
      · refine a_iload_n dX9_cancel_26 rfl rfl ?_
        refine a_iconst dX9_cancel_27 ?_
        refine a_icmp_ge (tgt := 33) dX9_cancel_28 (by decide) hn (inR_of (by omega) (by omega)) (fun c28 => ?_) (fun c28 => ?_)
        · have fo := fo_ok hR2 (trip := trip) (by assumption)
          have fm := fo_mo hR.1 hR2 (trip := trip) (by assumption)
          refine a_aload_n dX9_cancel_33 rfl rfl ?_
          refine a_getL (J := 17) fX9_179 k153 rfl rfl dX9_cancel_34 ?_
          refine a_topL (y := gL σ 153 17) (by rw [gL_sN]) ?_
          refine a_lstore (ls' := [(5, al (gL σ 153 17)), (0, ar 153), (1, ai trip), (2, ai j), (3, ai n), (4, ai b)]) dX9_cancel_37 (Nat.le_of_ble_eq_true rfl) rfl ?_
          refine a_aload_n dX9_cancel_39 rfl rfl ?_
          refine a_iload_n dX9_cancel_40 rfl rfl ?_
          refine a_cI (c := 153) (as := [ai trip]) (rest := []) (t_firstOf (sN σ 153 0 0) trip (Q_W (th_F σ) hW) (hR2.of (th155 σ)) (by simp only [trp, th155]; assumption)) mvX9_firstOf lX9_219 k153 (by decide) rfl rfl rfl rfl (Nat.le_of_ble_eq_true rfl) (Nat.le_of_ble_eq_true rfl) (Nat.le_of_ble_eq_true rfl) dX9_cancel_41 ?_
          refine a_topI (y := foF σ trip) (foF_eq (th155 σ) _) ?_
          refine a_iload_n dX9_cancel_44 rfl rfl ?_
          refine a_iadd dX9_cancel_45 ?_
          refine a_istore (ls' := [(7, ai (foF σ trip + j)), (5, al (gL σ 153 17)), (0, ar 153), (1, ai trip), (2, ai j), (3, ai n), (4, ai b)]) dX9_cancel_46 (Nat.le_of_ble_eq_true rfl) rfl ?_
          refine a_iload_n dX9_cancel_48 rfl rfl ?_
          refine a_istore (ls' := [(8, ai n), (7, ai (foF σ trip + j)), (5, al (gL σ 153 17)), (0, ar 153), (1, ai trip), (2, ai j), (3, ai n), (4, ai b)]) dX9_cancel_49 (Nat.le_of_ble_eq_true rfl) rfl ?_
          have hcv : cancelF σ trip j n b = bitC (cnV σ trip j n b ^^^ gL σ 153 17) := by unfold cancelF; rw [if_neg (by grind)]
          refine a_keep (ls' := [(8, ai n), (7, ai (foF σ trip + j)), (5, al (gL σ 153 17)), (0, ar 153), (1, ai trip), (2, ai j), (3, ai n), (4, ai b)]) (by simp) ?_
          refine t_cancel_l σ hW hR2 hU trip j n b (by assumption) hb (cnV σ trip j n b) ?_ (gN σ 155 3 - (foF σ trip + j)).toNat n (foF σ trip + j) (gL σ 153 17) (by omega) (by have := hn.2; omega) (by omega) (by omega) rfl rfl
          refine a_lload dX9_cancel_104 rfl ?_
          refine a_aload_n dX9_cancel_106 rfl rfl ?_
          refine a_getL (J := 17) fX9_179 k153 rfl rfl dX9_cancel_107 ?_
          refine a_topL (y := gL σ 153 17) (by rw [gL_sN]) ?_
          refine a_lxor dX9_cancel_110 ?_
          refine a_sI (as := [al ((cnV σ trip j n b) ^^^ (gL σ 153 17))]) (rest := []) (t_bitCount (sN σ 153 0 0) ((cnV σ trip j n b) ^^^ (gL σ 153 17))) mvJ13_bitCount_95d88 lX9_237 rfl rfl rfl (Nat.le_of_ble_eq_true rfl) (Nat.le_of_ble_eq_true rfl) (Nat.le_of_ble_eq_true rfl) dX9_cancel_111 ?_
          have hbc := bitC_rng ((cnV σ trip j n b) ^^^ (gL σ 153 17))
          refine a_istore (ls' := [(8, ai (bitC ((cnV σ trip j n b) ^^^ (gL σ 153 17)))), (5, al (cnV σ trip j n b)), (0, ar 153), (1, ai trip), (2, ai j), (3, ai n), (4, ai b)]) dX9_cancel_114 (Nat.le_of_ble_eq_true rfl) rfl ?_
          refine a_iload dX9_cancel_116 rfl ?_
          refine a_if_ne (tgt := 123) dX9_cancel_118 (by decide) (inR_of (by omega) (by omega)) (fun c118 => ?_) (fun c118 => ?_)
          · refine a_aload_n dX9_cancel_123 rfl rfl ?_
            refine a_callV (c := 153) (as := []) (rest := []) (t_keeps (sN σ 153 0 0) (UnOK.th hU)) mvX9_keeps lX9_232 k153 (by decide) rfl rfl rfl rfl (Nat.le_of_ble_eq_true rfl) (Nat.le_of_ble_eq_true rfl) (Nat.le_of_ble_eq_true rfl) dX9_cancel_124 (fun y hy => ?_)
            have hK := hy.2
            refine a_aload_n dX9_cancel_127 rfl rfl ?_
            refine a_lload dX9_cancel_128 rfl ?_
            refine a_putL (J := 17) fX9_179 k153 rfl rfl rfl dX9_cancel_130 ?_
            refine a_iload dX9_cancel_133 rfl ?_
            exact a_iret rfl ⟨by rw [hcv], by unfold CnPost; rw [if_neg (by omega)]; exact ⟨y, hK, rfl⟩⟩ dX9_cancel_135
          · refine a_iconst dX9_cancel_121 ?_
            exact a_iret rfl ⟨by rw [hcv]; congr 2; omega, by unfold CnPost; rw [if_pos (by omega)]⟩ dX9_cancel_122
        · refine a_iconst dX9_cancel_31 ?_
          exact a_iret rfl ⟨by unfold cancelF; grind, by unfold CnPost; rw [if_pos (Or.inl (by unfold cancelF; grind))]⟩ dX9_cancel_32

def countF (σ : Sto) (what : Int) : Int := if what = 0 then gN σ 155 0 else if what = 1 then gN σ 155 1 else if what = 2 then gN σ 155 2 else if what = 3 then gN σ 155 3 else if what = 4 then bitC (gL σ 153 17) else if what = 5 then othersF σ else if what = 6 then gN σ 153 38 else if what = 7 then gN σ 153 20 else if what = 8 then gN σ 153 2 else -1

theorem others_eq {σ τ : Sto} (h : ∀ j, gN τ 155 j = gN σ 155 j) (h8 : ∀ j, gN τ 158 j = gN σ 158 j) : othersF τ = othersF σ := by
  unfold othersF
  rw [h, show otF τ = otF σ from by funext i n; unfold otF; rw [h8]]

set_option maxRecDepth 20000 in
theorem t_count (σ : Sto) (what : Int) (hwhat : inR what) (hW : WOK σ) : MetI mX9_count [ar 153, ai what] σ (countF σ what) (sN σ 153 0 0) := by
  refine a_entry (by decide) (Nat.le_of_ble_eq_true rfl) ?_
  refine a_ls (ls' := [(0, ar 153), (1, ai what)]) rfl ?_
  refine a_aload_n dX9_count_0 rfl rfl ?_
  refine a_iconst dX9_count_1 ?_
  refine a_putI (J := 0) fX9_85 k153 rfl rfl rfl dX9_count_2 ?_
  refine a_iload_n dX9_count_5 rfl rfl ?_
  by_cases hsw : 0 ≤ what ∧ what ≤ 8
  · have hcs : what = 0 ∨ what = 1 ∨ what = 2 ∨ what = 3 ∨ what = 4 ∨ what = 5 ∨ what = 6 ∨ what = 7 ∨ what = 8 := by omega
    rcases hcs with hw | hw | hw | hw | hw | hw | hw | hw | hw
    · subst hw
      refine a_tabIn (tgt := 56) dX9_count_6 (inR_of (by omega) (by omega)) (by omega) (by omega) (by rfl) (by decide) ?_
      refine a_aload_n dX9_count_56 rfl rfl ?_
      refine a_cI (c := 153) (as := []) (rest := []) (t_stops (sN σ 153 0 0)) mvX9_stops lX9_195 k153 (by decide) rfl rfl rfl rfl (Nat.le_of_ble_eq_true rfl) (Nat.le_of_ble_eq_true rfl) (Nat.le_of_ble_eq_true rfl) dX9_count_57 ?_
      exact a_iret rfl ⟨by unfold countF; grind (splits := 14) [gN_sN, gL_sN], rfl⟩ dX9_count_60
    · subst hw
      refine a_tabIn (tgt := 61) dX9_count_6 (inR_of (by omega) (by omega)) (by omega) (by omega) (by rfl) (by decide) ?_
      refine a_aload_n dX9_count_61 rfl rfl ?_
      refine a_getF (d := 155) fX9_13 k153 rfl r153_3 dX9_count_62 ?_
      refine a_iconst dX9_count_65 ?_
      refine a_ild k155 n155 (by omega) (by omega) dX9_count_66 ?_
      exact a_iret rfl ⟨by unfold countF; grind (splits := 14) [gN_sN, gL_sN], rfl⟩ dX9_count_67
    · subst hw
      refine a_tabIn (tgt := 68) dX9_count_6 (inR_of (by omega) (by omega)) (by omega) (by omega) (by rfl) (by decide) ?_
      refine a_aload_n dX9_count_68 rfl rfl ?_
      refine a_getF (d := 155) fX9_13 k153 rfl r153_3 dX9_count_69 ?_
      refine a_iconst dX9_count_72 ?_
      refine a_ild k155 n155 (by omega) (by omega) dX9_count_73 ?_
      exact a_iret rfl ⟨by unfold countF; grind (splits := 14) [gN_sN, gL_sN], rfl⟩ dX9_count_74
    · subst hw
      refine a_tabIn (tgt := 75) dX9_count_6 (inR_of (by omega) (by omega)) (by omega) (by omega) (by rfl) (by decide) ?_
      refine a_aload_n dX9_count_75 rfl rfl ?_
      refine a_cI (c := 153) (as := []) (rest := []) (t_rides (sN σ 153 0 0)) mvX9_rides lX9_198 k153 (by decide) rfl rfl rfl rfl (Nat.le_of_ble_eq_true rfl) (Nat.le_of_ble_eq_true rfl) (Nat.le_of_ble_eq_true rfl) dX9_count_76 ?_
      exact a_iret rfl ⟨by unfold countF; grind (splits := 14) [gN_sN, gL_sN], rfl⟩ dX9_count_79
    · subst hw
      refine a_tabIn (tgt := 80) dX9_count_6 (inR_of (by omega) (by omega)) (by omega) (by omega) (by rfl) (by decide) ?_
      refine a_aload_n dX9_count_80 rfl rfl ?_
      refine a_getL (J := 17) fX9_179 k153 rfl rfl dX9_count_81 ?_
      refine a_topL (y := gL σ 153 17) (by rw [gL_sN]) ?_
      refine a_sI (as := [al (gL σ 153 17)]) (rest := []) (t_bitCount (sN σ 153 0 0) (gL σ 153 17)) mvJ13_bitCount_95d88 lX9_237 rfl rfl rfl (Nat.le_of_ble_eq_true rfl) (Nat.le_of_ble_eq_true rfl) (Nat.le_of_ble_eq_true rfl) dX9_count_84 ?_
      have hbc := bitC_rng (gL σ 153 17)
      exact a_iret rfl ⟨by unfold countF; grind (splits := 14) [gN_sN, gL_sN], rfl⟩ dX9_count_87
    · subst hw
      refine a_tabIn (tgt := 88) dX9_count_6 (inR_of (by omega) (by omega)) (by omega) (by omega) (by rfl) (by decide) ?_
      refine a_aload_n dX9_count_88 rfl rfl ?_
      refine a_cI (c := 153) (as := []) (rest := []) (t_others (sN σ 153 0 0) (Q_W (th_F σ) hW)) mvX9_others lX9_358 k153 (by decide) rfl rfl rfl rfl (Nat.le_of_ble_eq_true rfl) (Nat.le_of_ble_eq_true rfl) (Nat.le_of_ble_eq_true rfl) dX9_count_89 ?_
      refine a_topI (y := othersF σ) (others_eq (th155 σ) (Q158 (th_F σ))) ?_
      exact a_iret rfl ⟨by unfold countF; grind (splits := 14) [gN_sN, gL_sN], rfl⟩ dX9_count_92
    · subst hw
      refine a_tabIn (tgt := 93) dX9_count_6 (inR_of (by omega) (by omega)) (by omega) (by omega) (by rfl) (by decide) ?_
      refine a_aload_n dX9_count_93 rfl rfl ?_
      refine a_getI (J := 38) fX9_186 k153 rfl rfl dX9_count_94 ?_
      exact a_iret rfl ⟨by unfold countF; grind (splits := 14) [gN_sN, gL_sN], rfl⟩ dX9_count_97
    · subst hw
      refine a_tabIn (tgt := 98) dX9_count_6 (inR_of (by omega) (by omega)) (by omega) (by omega) (by rfl) (by decide) ?_
      refine a_aload_n dX9_count_98 rfl rfl ?_
      refine a_getI (J := 20) fX9_183 k153 rfl rfl dX9_count_99 ?_
      exact a_iret rfl ⟨by unfold countF; grind (splits := 14) [gN_sN, gL_sN], rfl⟩ dX9_count_102
    · subst hw
      refine a_tabIn (tgt := 103) dX9_count_6 (inR_of (by omega) (by omega)) (by omega) (by omega) (by rfl) (by decide) ?_
      refine a_aload_n dX9_count_103 rfl rfl ?_
      refine a_getI (J := 2) fX9_88 k153 rfl rfl dX9_count_104 ?_
      exact a_iret rfl ⟨by unfold countF; grind (splits := 14) [gN_sN, gL_sN], rfl⟩ dX9_count_107
  · refine a_tabOut (tgt := 108) dX9_count_6 hwhat (by omega) (by decide) ?_
    refine a_iconst dX9_count_108 ?_
    exact a_iret rfl ⟨by unfold countF; grind (splits := 14) [gN_sN, gL_sN], rfl⟩ dX9_count_109

