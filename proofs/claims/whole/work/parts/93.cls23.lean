/-! The class's plan. -/
abbrev pPl (c : Nat) (_ : Int) : Prop := 86 ≤ c ∧ c ≤ 88
def cPlan (ρ : Sto) (P : List (Int × Int)) (on e : Int) : Int := if ¬ rid ρ on ∨ ¬ rid ρ e then -1 else if gN ρ 155 (115 + 5 * on + 0) ≠ gN ρ 155 (115 + 5 * e + 0) ∨ e < on then -2 else if 6 ≤ (P.length : Int) then -3 else P.length + 1
def cPlanAs (ρ : Sto) (s t i : Int) : Int := if ¬ two ρ s t ∨ i < 0 then -1 else if (MK ρ s t).length ≤ i then -2 else (UL ρ s t i).length
/-- what the plan rests on -/
def PLd (σ ρ : Sto) (P : List (Int × Int)) : Prop := LgR σ 86 P ∧ (∀ q ∈ P, lgOK (gN ρ 155 3) q) ∧ (P.length : Int) ≤ 6
theorem PLd.fr {σ u ρ : Sto} {P : List (Int × Int)} (h : PLd σ ρ P) (hF : Fg pCq σ u) : PLd u ρ P := ⟨h.1.of (fun c j _ _ => hF.n (by unfold pCq; omega)), h.2⟩
theorem CQ.pl {σ u ρ : Sto} {N : Nat} (h : CQ σ ρ N) (hS : gN ρ 155 0 ≤ 10) (hR : gN ρ 155 3 ≤ 60) (hF : Fg pPl σ u) : CQ u ρ N := by
  have hk := h.n.k
  refine ⟨by rw [hF.r (by unfold pPl; omega)]; exact h.c, h.n.of hS (fun c j q0 q1 => hF.n (by unfold pPl; omega)), h.t.of (hF.r (by unfold pPl; omega)) (hF.l (by unfold pPl; omega)) (fun j => hF.n (by unfold pPl; omega)) (fun j => hF.n (by unfold pPl; omega)) (Or.inl (hF.n (by unfold pPl; omega))), fun q i a b => ?_, fun t a b => ?_⟩
  · rw [hF.l (by unfold pPl; omega)]
    exact h.m (by rw [← hF.n (c := 7) (j := 2) (by unfold pPl; omega)]; exact q) i a b
  · rw [hF.n (by unfold pPl; omega)]
    have o := h.o t a b
    exact ⟨o.1, fun z y => (o.2 z y).of (fun c j q _ => hF.n (by unfold pPl; omega)) hR⟩
def ckC (q : Int × Int × Int) (a what : Int) : Int := if what = 0 then q.1 else if what = 1 then (if q.1 = 0 then -2 else q.2.1) else if q.1 = 0 then a else -2
def cChecked (ρ ρx : Sto) (P : List (Int × Int)) (s t m what : Int) : Int := if ¬ fit ρ s t m ∨ what < 0 ∨ 2 < what then -1 else if P.length = 0 then -3 else ckC (ckT ρx P s t m) (gN ρx 162 (ckE P) + ckW ρx P t) what
def caL (ρ : Sto) (P : List (Int × Int)) (b : Int) : Nat → Int → Int
  | 0, _ => b
  | n + 1, l => if gN ρ 161 (lg P l).2 - gN ρ 155 (115 + 5 * (lg P l).2 + 3) = 0 then caL ρ P b n (l - 1) else l
def cCause (ρ ρt : Sto) (P : List (Int × Int)) (s t m : Int) : Int := if ¬ fit ρ s t m then -1 else if P.length = 0 ∨ (ckT ρ P s t m).1 ≠ 2 then -2 else if spT ρt P (ckT ρ P s t m).2.1 s m < 0 then -3 else caL ρ P (ckT ρ P s t m).2.1 (ckT ρ P s t m).2.1.toNat ((ckT ρ P s t m).2.1 - 1)
def cTooLate (ρ : Sto) (P : List (Int × Int)) (s t m : Int) : Int := if ¬ fit ρ s t m then -1 else if P.length = 0 ∨ (ckT ρ P s t m).1 ≠ 2 then -2 else if 1000000 ≤ wyT ρ P (ckT ρ P s t m).2.1 s then -2 else -(spT ρ P (ckT ρ P s t m).2.1 s m)
def cSpare (ρ : Sto) (P : List (Int × Int)) (s t m : Int) : Int := if ¬ fit ρ s t m then -1 else if P.length = 0 ∨ (ckT ρ P s t m).1 ≠ 0 then -2 else (ckT ρ P s t m).2.2
theorem ck_rng {ρ : Sto} (hW : WV ρ) {P : List (Int × Int)} (hP : ∀ q ∈ P, lgOK (gN ρ 155 3) q) {s t m : Int} (hs0 : 0 ≤ s) (hs1 : s < gN ρ 155 0) (hm0 : 0 ≤ m) (hm1 : m ≤ 1000000) : ∀ (n : Nat) (l b : Int), 0 ≤ l → l + n = P.length → -3000000 ≤ b → b ≤ 1000000 → (0 ≤ (ckF ρ P s t m n l b).1 ∧ (ckF ρ P s t m n l b).1 ≤ 3) ∧ (0 ≤ (ckF ρ P s t m n l b).2.1 ∧ (ckF ρ P s t m n l b).2.1 ≤ P.length) ∧ (-3000000 ≤ (ckF ρ P s t m n l b).2.2 ∧ (ckF ρ P s t m n l b).2.2 ≤ 1000000) ∧ ((ckF ρ P s t m n l b).1 = 2 → (ckF ρ P s t m n l b).2.1 < P.length)
  | 0, l, b, h0, h1, h2, h3 => by
    unfold ckF
    dsimp only
    split <;> refine ⟨⟨by omega, by omega⟩, ⟨by omega, by omega⟩, ⟨h2, h3⟩, fun z => by omega⟩
  | n + 1, l, b, h0, h1, h2, h3 => by
    have z := sp_rng hW hP hs0 hs1 hm0 hm1 (l := l) h0 (by omega)
    have ih := ck_rng hW hP hs0 hs1 hm0 hm1 (t := t) n (l + 1) (if spT ρ P l s m < b then spT ρ P l s m else b) (by omega) (by omega) (by split <;> omega) (by split <;> omega)
    unfold ckF
    split
    · exact ⟨⟨by dsimp only; omega, by dsimp only; omega⟩, ⟨by dsimp only; omega, by dsimp only; omega⟩, ⟨h2, h3⟩, fun z => by dsimp only at z; omega⟩
    · split
      · exact ⟨⟨by dsimp only; omega, by dsimp only; omega⟩, ⟨by dsimp only; omega, by dsimp only; omega⟩, ⟨h2, h3⟩, fun _ => by dsimp only; omega⟩
      · exact ih
theorem ckT_rng {ρ : Sto} (hW : WV ρ) {P : List (Int × Int)} (hP : ∀ q ∈ P, lgOK (gN ρ 155 3) q) {s t m : Int} (hs0 : 0 ≤ s) (hs1 : s < gN ρ 155 0) (hm0 : 0 ≤ m) (hm1 : m ≤ 1000000) : (0 ≤ (ckT ρ P s t m).1 ∧ (ckT ρ P s t m).1 ≤ 3) ∧ (0 ≤ (ckT ρ P s t m).2.1 ∧ (ckT ρ P s t m).2.1 ≤ P.length) ∧ (-3000000 ≤ (ckT ρ P s t m).2.2 ∧ (ckT ρ P s t m).2.2 ≤ 1000000) ∧ ((ckT ρ P s t m).1 = 2 → (ckT ρ P s t m).2.1 < P.length) := ck_rng hW hP hs0 hs1 hm0 hm1 P.length 0 1000000 (by omega) (by omega) (by omega) (by omega)

set_option maxRecDepth 20000 in
theorem c_plan (σ ρ : Sto) (N : Nat) (hW : WV ρ) (hQ : CQ σ ρ N) (P : List (Int × Int)) (hPL : PLd σ ρ P) (on e : Int) (hon : inR on) (he : inR e) : MetA mX8_plan [ar 0, ai on, ai e] σ (fun r u => r = some (ai (cPlan ρ P on e)) ∧ Fg pPl σ u ∧ LgR u 86 (if 0 < cPlan ρ P on e then P ++ [(on, e)] else P)) := by
  have hC := hQ.c
  have hN := hQ.n
  have hT7 := hQ.t
  have hM7 := hQ.m
  have hF : Fg pCq σ σ := Fg.rfl
  have hNk := hN.k
  have hR := hW.R
  have hS := hW.S
  have hTr := hW.T
  have hLg := hPL.1
  have hP := hPL.2.1
  have hPl := hPL.2.2
  have hGk : Gok 86 := Or.inr rfl
  refine a_entry (by decide) (Nat.le_of_ble_eq_true rfl) ?_
  refine a_ls (ls' := [(0, ar 0), (1, ai on), (2, ai e)]) rfl ?_
  refine a_aload_n dX8_plan_0 rfl rfl ?_
  refine a_iload_n dX8_plan_1 rfl rfl ?_
  refine a_cI (c := 0) (as := [ai on]) (rest := []) (c_isRide σ ρ N hW hC hN on hon) mvX8_isRide lX8_118 k0 (by decide) rfl rfl rfl rfl (Nat.le_of_ble_eq_true rfl) (Nat.le_of_ble_eq_true rfl) (Nat.le_of_ble_eq_true rfl) dX8_plan_2 ?_
  refine a_ifb_eq (tgt := 16) dX8_plan_5 (by decide) (fun c5 => ?_) (fun c5 => ?_)
  · refine a_iconst dX8_plan_16 ?_
    exact a_iret rfl (by have e1 : cPlan ρ P on e = (-1) := (by unfold cPlan; grind); rw [e1]; exact ⟨rfl, Fg.rfl, by rw [if_neg (by decide)]; exact hLg⟩) dX8_plan_17
  · refine a_aload_n dX8_plan_8 rfl rfl ?_
    refine a_iload_n dX8_plan_9 rfl rfl ?_
    refine a_cI (c := 0) (as := [ai e]) (rest := []) (c_isRide σ ρ N hW hC hN e he) mvX8_isRide lX8_118 k0 (by decide) rfl rfl rfl rfl (Nat.le_of_ble_eq_true rfl) (Nat.le_of_ble_eq_true rfl) (Nat.le_of_ble_eq_true rfl) dX8_plan_10 ?_
    refine a_ifb_ne (tgt := 18) dX8_plan_13 (by decide) (fun c13 => ?_) (fun c13 => ?_)
    · refine a_aload_n dX8_plan_18 rfl rfl ?_
      refine a_getR (d := N) (J := 12) fX8_65 k0 rfl q0_12 rfl hC dX8_plan_19 ?_
      refine a_getF (d := (N + 6)) fX8_129 (kN hNk) rfl (rN_9 hNk) dX8_plan_22 ?_
      refine a_iload_n dX8_plan_25 rfl rfl ?_
      refine a_ild (kN_6 hNk) (nN_6 hNk) (by omega) (by omega) dX8_plan_26 ?_
      refine a_topI (y := gN ρ 155 (115 + 5 * on + 0)) (hN.r0 (by omega) (by omega)) ?_
      have hb97 := hW.ride on (by omega) (by omega)
      refine a_aload_n dX8_plan_27 rfl rfl ?_
      refine a_getR (d := N) (J := 12) fX8_65 k0 rfl q0_12 rfl hC dX8_plan_28 ?_
      refine a_getF (d := (N + 6)) fX8_129 (kN hNk) rfl (rN_9 hNk) dX8_plan_31 ?_
      refine a_iload_n dX8_plan_34 rfl rfl ?_
      refine a_ild (kN_6 hNk) (nN_6 hNk) (by omega) (by omega) dX8_plan_35 ?_
      refine a_topI (y := gN ρ 155 (115 + 5 * e + 0)) (hN.r0 (by omega) (by omega)) ?_
      have hb98 := hW.ride e (by omega) (by omega)
      refine a_icmp_ne (tgt := 44) dX8_plan_36 (by decide) (inR_gN _ _ _) (inR_gN _ _ _) (fun c36 => ?_) (fun c36 => ?_)
      · refine a_bipush (x := (-2)) dX8_plan_44 (by decide) ?_
        exact a_iret rfl (by have e1 : cPlan ρ P on e = (-2) := (by unfold cPlan; grind); rw [e1]; exact ⟨rfl, Fg.rfl, by rw [if_neg (by decide)]; exact hLg⟩) dX8_plan_46
      · refine a_iload_n dX8_plan_39 rfl rfl ?_
        refine a_iload_n dX8_plan_40 rfl rfl ?_
        refine a_icmp_ge (tgt := 47) dX8_plan_41 (by decide) he hon (fun c41 => ?_) (fun c41 => ?_)
        · refine a_aload_n dX8_plan_47 rfl rfl ?_
          refine a_getF (d := 86) fX8_48 k0 rfl r0_9 dX8_plan_48 ?_
          refine a_getI (J := 0) fX8_258 k86 rfl rfl dX8_plan_51 ?_
          refine a_topI (y := ((P.length : Int))) hLg.1 ?_
          refine a_bipush (x := 6) dX8_plan_54 (by decide) ?_
          refine a_icmp_lt (tgt := 62) dX8_plan_56 (by decide) (inR_of (by omega) (by omega)) (inR_of (by omega) (by omega)) (fun c56 => ?_) (fun c56 => ?_)
          · refine a_aload_n dX8_plan_62 rfl rfl ?_
            refine a_getF (d := 86) fX8_48 k0 rfl r0_9 dX8_plan_63 ?_
            refine a_iload_n dX8_plan_66 rfl rfl ?_
            refine a_iload_n dX8_plan_67 rfl rfl ?_
            refine a_callV (c := 86) (as := [ai on, ai e]) (rest := []) (c_lgAdd σ 86 hGk P on e hLg (by omega) hon he) mvX1_add lX8_371 k86 (by decide) rfl rfl rfl rfl (Nat.le_of_ble_eq_true rfl) (Nat.le_of_ble_eq_true rfl) (Nat.le_of_ble_eq_true rfl) dX8_plan_68 (fun u117 hu => ?_)
            obtain ⟨-, hGu117, hLgu117⟩ := hu
            refine a_aload_n dX8_plan_71 rfl rfl ?_
            refine a_getF (d := 86) fX8_48 k0 rfl r0_9 dX8_plan_72 ?_
            refine a_getI (J := 0) fX8_258 k86 rfl rfl dX8_plan_75 ?_
            refine a_topI (y := ((P.length : Int) + 1)) (hLgu117.1.trans (by rw [List.length_append]; rfl)) ?_
            exact a_iret rfl (by have e1 : cPlan ρ P on e = (P.length : Int) + 1 := (by unfold cPlan; grind); rw [e1]; exact ⟨rfl, hGu117.mono (fun c j z => z), by rw [if_pos (by omega)]; exact hLgu117⟩) dX8_plan_78
          · refine a_bipush (x := (-3)) dX8_plan_59 (by decide) ?_
            exact a_iret rfl (by have e1 : cPlan ρ P on e = (-3) := (by unfold cPlan; grind); rw [e1]; exact ⟨rfl, Fg.rfl, by rw [if_neg (by decide)]; exact hLg⟩) dX8_plan_61
        · refine a_bipush (x := (-2)) dX8_plan_44 (by decide) ?_
          exact a_iret rfl (by have e1 : cPlan ρ P on e = (-2) := (by unfold cPlan; grind); rw [e1]; exact ⟨rfl, Fg.rfl, by rw [if_neg (by decide)]; exact hLg⟩) dX8_plan_46
    · refine a_iconst dX8_plan_16 ?_
      exact a_iret rfl (by have e1 : cPlan ρ P on e = (-1) := (by unfold cPlan; grind); rw [e1]; exact ⟨rfl, Fg.rfl, by rw [if_neg (by decide)]; exact hLg⟩) dX8_plan_17

set_option maxRecDepth 20000 in
theorem c_planAnew (σ ρ : Sto) (N : Nat) (hW : WV ρ) (hQ : CQ σ ρ N) (P : List (Int × Int)) (hPL : PLd σ ρ P)  : MetA mX8_planAnew [ar 0] σ (fun r u => r = some (ai (P.length : Int)) ∧ Fg pPl σ u ∧ LgR u 86 []) := by
  have hC := hQ.c
  have hN := hQ.n
  have hT7 := hQ.t
  have hM7 := hQ.m
  have hF : Fg pCq σ σ := Fg.rfl
  have hNk := hN.k
  have hR := hW.R
  have hS := hW.S
  have hTr := hW.T
  have hLg := hPL.1
  have hP := hPL.2.1
  have hPl := hPL.2.2
  have hGk : Gok 86 := Or.inr rfl
  refine a_entry (by decide) (Nat.le_of_ble_eq_true rfl) ?_
  refine a_ls (ls' := [(0, ar 0)]) rfl ?_
  refine a_aload_n dX8_planAnew_0 rfl rfl ?_
  refine a_getF (d := 86) fX8_48 k0 rfl r0_9 dX8_planAnew_1 ?_
  refine a_getI (J := 0) fX8_258 k86 rfl rfl dX8_planAnew_4 ?_
  refine a_topI (y := ((P.length : Int))) hLg.1 ?_
  refine a_istore_n (ls' := [(1, ai ((P.length : Int))), (0, ar 0)]) dX8_planAnew_7 rfl (Nat.le_of_ble_eq_true rfl) rfl ?_
  refine a_aload_n dX8_planAnew_8 rfl rfl ?_
  refine a_getF (d := 86) fX8_48 k0 rfl r0_9 dX8_planAnew_9 ?_
  refine a_cV (c := 86) (as := []) (rest := []) (c_lgClear σ 86 hGk) mvX1_clear lX8_105 k86 (by decide) rfl rfl rfl rfl (Nat.le_of_ble_eq_true rfl) (Nat.le_of_ble_eq_true rfl) (Nat.le_of_ble_eq_true rfl) dX8_planAnew_12 ?_
  refine a_iload_n dX8_planAnew_15 rfl rfl ?_
  exact a_iret rfl ⟨rfl, Fg.rfl.sN (by unfold pPl; omega), LgR.nil σ 86⟩ dX8_planAnew_16

set_option maxRecDepth 20000 in
theorem c_planAs (σ ρ : Sto) (N : Nat) (hW : WV ρ) (hQ : CQ σ ρ N) (P : List (Int × Int)) (hPL : PLd σ ρ P) (s t i : Int) (hs : inR s) (ht : inR t) (hi : inR i) : MetA mX8_planAs [ar 0, ai s, ai t, ai i] σ (fun r u => r = some (ai (cPlanAs ρ s t i)) ∧ CQ u ρ N ∧ Fg (fun c j => pCq c j ∨ pPl c j) σ u ∧ LgR u 86 (if 0 < cPlanAs ρ s t i then UL ρ s t i else P)) := by
  have hC := hQ.c
  have hN := hQ.n
  have hT7 := hQ.t
  have hM7 := hQ.m
  have hF : Fg pCq σ σ := Fg.rfl
  have hNk := hN.k
  have hR := hW.R
  have hS := hW.S
  have hTr := hW.T
  have hLg := hPL.1
  have hP := hPL.2.1
  have hPl := hPL.2.2
  have hGk : Gok 86 := Or.inr rfl
  refine a_entry (by decide) (Nat.le_of_ble_eq_true rfl) ?_
  refine a_ls (ls' := [(0, ar 0), (1, ai s), (2, ai t), (3, ai i)]) rfl ?_
  refine a_aload_n dX8_planAs_0 rfl rfl ?_
  refine a_iload_n dX8_planAs_1 rfl rfl ?_
  refine a_iload_n dX8_planAs_2 rfl rfl ?_
  refine a_cI (c := 0) (as := [ai s, ai t]) (rest := []) (c_arePair σ ρ N hW hC hN s t hs ht) mvX8_arePair lX8_238 k0 (by decide) rfl rfl rfl rfl (Nat.le_of_ble_eq_true rfl) (Nat.le_of_ble_eq_true rfl) (Nat.le_of_ble_eq_true rfl) dX8_planAs_3 ?_
  refine a_ifb_eq (tgt := 13) dX8_planAs_6 (by decide) (fun c6 => ?_) (fun c6 => ?_)
  · refine a_iconst dX8_planAs_13 ?_
    exact a_iret rfl (by have e1 : cPlanAs ρ s t i = (-1) := (by unfold cPlanAs; grind); rw [e1]; exact ⟨rfl, hQ, hF.mono (fun c j z => Or.inl z), by rw [if_neg (by decide)]; exact (hPL.fr hF).1⟩) dX8_planAs_14
  · refine a_iload_n dX8_planAs_9 rfl rfl ?_
    refine a_if_ge (tgt := 15) dX8_planAs_10 (by decide) hi (fun c10 => ?_) (fun c10 => ?_)
    · refine a_aload_n dX8_planAs_15 rfl rfl ?_
      refine a_iload_n dX8_planAs_16 rfl rfl ?_
      refine a_iload_n dX8_planAs_17 rfl rfl ?_
      refine a_iload_n dX8_planAs_18 rfl rfl ?_
      refine a_callI (c := 0) (as := [ai s, ai t, ai i]) (rest := []) (c_unfold8 σ ρ N hW hQ s t i hi (by omega) (by omega) (by omega) (by omega)) mvX8_unfold lX8_255 k0 (by decide) rfl rfl rfl rfl (Nat.le_of_ble_eq_true rfl) (Nat.le_of_ble_eq_true rfl) (Nat.le_of_ble_eq_true rfl) dX8_planAs_19 (fun x u118 hu => ?_)
      obtain ⟨hx, hUu118⟩ := hu
      cases hx
      have hQu118 : CQ u118 ρ N := hUu118.2.1
      have hCu118 := hQu118.c
      have hNu118 := hQu118.n
      have hT7u118 := hQu118.t
      have hM7u118 := hQu118.m
      have hFu118 : Fg pCq σ u118 := hF.trans (hUu118.1)
      have hZu118 := hUu118.2.2.1
      have hLnu118 := hUu118.2.2.2.1
      refine a_ifb_ne (tgt := 28) dX8_planAs_22 (by decide) (fun c22 => ?_) (fun c22 => ?_)
      · have hli : 0 ≤ i ∧ i < ((MK ρ s t).length : Int) := (by assumption)
        have hLu : LgR u118 83 (UL ρ s t i) := hUu118.2.2.2.2 hli
        have hul := UL_ok hW (s := s) (t := t) (i := i) (by omega) (by omega) hli.1 hli.2
        refine a_aload_n dX8_planAs_28 rfl rfl ?_
        refine a_getF (d := 86) fX8_48 k0 rfl r0_9 dX8_planAs_29 ?_
        refine a_aload_n dX8_planAs_32 rfl rfl ?_
        refine a_getF (d := 83) fX8_44 k0 rfl r0_8 dX8_planAs_33 ?_
        refine a_callV (c := 86) (as := [ar 83]) (rest := []) (c_lgCopy u118 (UL ρ s t i) hLu (by omega)) mvX1_copy lX8_374 k86 (by decide) rfl rfl rfl rfl (Nat.le_of_ble_eq_true rfl) (Nat.le_of_ble_eq_true rfl) (Nat.le_of_ble_eq_true rfl) dX8_planAs_36 (fun w119 hu => ?_)
        obtain ⟨-, hGw119, hLcw119⟩ := hu
        refine a_aload_n dX8_planAs_39 rfl rfl ?_
        refine a_getF (d := 86) fX8_48 k0 rfl r0_9 dX8_planAs_40 ?_
        refine a_getI (J := 0) fX8_258 k86 rfl rfl dX8_planAs_43 ?_
        refine a_topI (y := ((UL ρ s t i).length : Int)) hLcw119.1 ?_
        exact a_iret rfl (by have e1 : cPlanAs ρ s t i = (UL ρ s t i).length := (by unfold cPlanAs; rw [if_neg (by grind), if_neg (by omega)]); rw [e1]; exact ⟨rfl, hQu118.pl hS.2 hR.2 (hGw119.mono (fun c j z => z)), (hFu118.mono (fun c j z => Or.inl z)).trans (hGw119.mono (fun c j z => Or.inr z)), by rw [if_pos (by omega)]; exact hLcw119⟩) dX8_planAs_46
      · refine a_bipush (x := (-2)) dX8_planAs_25 (by decide) ?_
        exact a_iret rfl (by have e1 : cPlanAs ρ s t i = (-2) := (by unfold cPlanAs; grind); rw [e1]; exact ⟨rfl, hQu118, hFu118.mono (fun c j z => Or.inl z), by rw [if_neg (by decide)]; exact (hPL.fr hFu118).1⟩) dX8_planAs_27
    · refine a_iconst dX8_planAs_13 ?_
      exact a_iret rfl (by have e1 : cPlanAs ρ s t i = (-1) := (by unfold cPlanAs; grind); rw [e1]; exact ⟨rfl, hQ, hF.mono (fun c j z => Or.inl z), by rw [if_neg (by decide)]; exact (hPL.fr hF).1⟩) dX8_planAs_14

set_option maxRecDepth 20000 in
theorem c_checked (σ ρ : Sto) (N : Nat) (hW : WV ρ) (hQ : CQ σ ρ N) (P : List (Int × Int)) (hPL : PLd σ ρ P) (s t m aT what : Int) (hs : inR s) (ht : inR t) (hm : inR m) (haT : inR aT) (hwhat : inR what) (ρt : Sto) (hWt : WV ρt) (e155 : ∀ j, gN ρt 155 j = gN ρ 155 j) (hT3 : TmR σ N 3 ρt) (haT1 : aT = 0 ∨ aT = 1) : MetA mX8_checked [ar 0, ai s, ai t, ai m, ai aT, ai what] σ (cqQ σ ρ N (cChecked ρ (if aT = 0 then ρ else ρt) P s t m what)) := by
  have hC := hQ.c
  have hN := hQ.n
  have hT7 := hQ.t
  have hM7 := hQ.m
  have hF : Fg pCq σ σ := Fg.rfl
  have hNk := hN.k
  have hR := hW.R
  have hS := hW.S
  have hTr := hW.T
  have hLg := hPL.1
  have hP := hPL.2.1
  have hPl := hPL.2.2
  have hGk : Gok 86 := Or.inr rfl
  have hNt : NetR σ N ρt := hN.w e155
  refine a_entry (by decide) (Nat.le_of_ble_eq_true rfl) ?_
  refine a_ls (ls' := [(0, ar 0), (1, ai s), (2, ai t), (3, ai m), (4, ai aT), (5, ai what)]) rfl ?_
  refine a_aload_n dX8_checked_0 rfl rfl ?_
  refine a_iload_n dX8_checked_1 rfl rfl ?_
  refine a_cI (c := 0) (as := [ai s]) (rest := []) (c_isStop σ ρ N hW hC hN s hs) mvX8_isStop lX8_161 k0 (by decide) rfl rfl rfl rfl (Nat.le_of_ble_eq_true rfl) (Nat.le_of_ble_eq_true rfl) (Nat.le_of_ble_eq_true rfl) dX8_checked_2 ?_
  refine a_ifb_eq (tgt := 33) dX8_checked_5 (by decide) (fun c5 => ?_) (fun c5 => ?_)
  · refine a_iconst dX8_checked_33 ?_
    exact a_iret rfl ⟨by unfold cChecked ckC; grind, hQ, hF⟩ dX8_checked_34
  · refine a_aload_n dX8_checked_8 rfl rfl ?_
    refine a_iload_n dX8_checked_9 rfl rfl ?_
    refine a_cI (c := 0) (as := [ai t]) (rest := []) (c_isStop σ ρ N hW hC hN t ht) mvX8_isStop lX8_161 k0 (by decide) rfl rfl rfl rfl (Nat.le_of_ble_eq_true rfl) (Nat.le_of_ble_eq_true rfl) (Nat.le_of_ble_eq_true rfl) dX8_checked_10 ?_
    refine a_ifb_eq (tgt := 33) dX8_checked_13 (by decide) (fun c13 => ?_) (fun c13 => ?_)
    · refine a_iconst dX8_checked_33 ?_
      exact a_iret rfl ⟨by unfold cChecked ckC; grind, hQ, hF⟩ dX8_checked_34
    · refine a_iload_n dX8_checked_16 rfl rfl ?_
      refine a_sI (as := [ai m]) (rest := []) (c_isMinute σ m hm) mvX8_isMinute lX8_307 rfl rfl rfl (Nat.le_of_ble_eq_true rfl) (Nat.le_of_ble_eq_true rfl) (Nat.le_of_ble_eq_true rfl) dX8_checked_17 ?_
      refine a_ifb_eq (tgt := 33) dX8_checked_20 (by decide) (fun c20 => ?_) (fun c20 => ?_)
      · refine a_iconst dX8_checked_33 ?_
        exact a_iret rfl ⟨by unfold cChecked ckC; grind, hQ, hF⟩ dX8_checked_34
      · refine a_iload dX8_checked_23 rfl ?_
        refine a_iconst dX8_checked_25 ?_
        refine a_iconst dX8_checked_26 ?_
        refine a_sI (as := [ai what, ai 0, ai 2]) (rest := []) (c_within σ what 0 2 hwhat (inR_of (by omega) (by omega)) (inR_of (by omega) (by omega))) mvX8_within lX8_179 rfl rfl rfl (Nat.le_of_ble_eq_true rfl) (Nat.le_of_ble_eq_true rfl) (Nat.le_of_ble_eq_true rfl) dX8_checked_27 ?_
        refine a_ifb_ne (tgt := 35) dX8_checked_30 (by decide) (fun c30 => ?_) (fun c30 => ?_)
        · refine a_aload_n dX8_checked_35 rfl rfl ?_
          refine a_getF (d := 86) fX8_48 k0 rfl r0_9 dX8_checked_36 ?_
          refine a_getI (J := 0) fX8_258 k86 rfl rfl dX8_checked_39 ?_
          refine a_topI (y := ((P.length : Int))) hLg.1 ?_
          refine a_if_ne (tgt := 48) dX8_checked_42 (by decide) (inR_of (by omega) (by omega)) (fun c42 => ?_) (fun c42 => ?_)
          · refine a_aload_n dX8_checked_48 rfl rfl ?_
            refine a_getF (d := 89) fX8_54 k0 rfl r0_10 dX8_checked_49 ?_
            refine a_aload_n dX8_checked_52 rfl rfl ?_
            refine a_getF (d := 86) fX8_48 k0 rfl r0_9 dX8_checked_53 ?_
            refine a_iload dX8_checked_56 rfl ?_
            refine a_if_eq (tgt := 68) dX8_checked_58 (by decide) haT (fun c58 => ?_) (fun c58 => ?_)
            · refine a_aload_n dX8_checked_68 rfl rfl ?_
              refine a_getF (d := 7) fX8_81 k0 rfl r0_3 dX8_checked_69 ?_
              refine a_iload_n dX8_checked_72 rfl rfl ?_
              refine a_iload_n dX8_checked_73 rfl rfl ?_
              refine a_iload_n dX8_checked_74 rfl rfl ?_
              refine a_callV (c := 89) (as := [ar 86, ar 7, ai s, ai t, ai m]) (rest := []) (c_run σ ρ N 7 hW hN hT7 P hLg hP hPl (by omega) s t m (by omega) (by omega) (by omega) (by omega) (by omega) (by omega)) mvX0_run lX8_377 k89 (by decide) rfl rfl rfl rfl (Nat.le_of_ble_eq_true rfl) (Nat.le_of_ble_eq_true rfl) (Nat.le_of_ble_eq_true rfl) dX8_checked_75 (fun u120 hu => ?_)
              obtain ⟨-, hGu120, hKu120⟩ := hu
              have hAu120 : Fg pAft σ u120 := hGu120.mono (fun c j z => by unfold pAft; omega)
              have hQu120 : CQ u120 ρ N := hQ.aft hS.2 hR.2 hAu120
              have hCu120 := hQu120.c
              have hNu120 := hQu120.n
              have hT7u120 := hQu120.t
              have hM7u120 := hQu120.m
              have hFu120 : Fg pCq σ u120 := hF.trans (hAu120.mono (fun c j z => pAft_Q z))
              have hLgu120 := hLg.of (v := u120) (fun c j _ _ => hGu120.n (by omega))
              have hcku120 := ckT_rng hW (P := P) hP (s := s) (t := t) (m := m) (by omega) (by omega) (by omega) (by omega)
              have hK0u120 := hKu120.1
              have hK1u120 := hKu120.2.1
              have hK3u120 := hKu120.2.2.1
              have hK2u120 := hKu120.2.2.2
              refine a_iload dX8_checked_78 rfl ?_
              refine a_if_ne (tgt := 91) dX8_checked_80 (by decide) hwhat (fun c80 => ?_) (fun c80 => ?_)
              · refine a_aload_n dX8_checked_91 rfl rfl ?_
                refine a_getF (d := 89) fX8_54 k0 rfl r0_10 dX8_checked_92 ?_
                refine a_getI (J := 0) fX8_381 k89 rfl rfl dX8_checked_95 ?_
                refine a_topI (y := (ckT ρ P s t m).1) hK0u120 ?_
                refine a_if_eq (tgt := 105) dX8_checked_98 (by decide) (inR_of (by omega) (by omega)) (fun c98 => ?_) (fun c98 => ?_)
                · refine a_iconst dX8_checked_105 ?_
                  refine a_istore (ls' := [(6, ai 0), (0, ar 0), (1, ai s), (2, ai t), (3, ai m), (4, ai aT), (5, ai what)]) dX8_checked_106 (Nat.le_of_ble_eq_true rfl) rfl ?_
                  refine a_iload dX8_checked_108 rfl ?_
                  refine a_iconst dX8_checked_110 ?_
                  refine a_icmp_ne (tgt := 132) dX8_checked_111 (by decide) hwhat (inR_of (by omega) (by omega)) (fun c111 => ?_) (fun c111 => ?_)
                  · refine a_iload dX8_checked_132 rfl ?_
                    refine a_if_eq (tgt := 142) dX8_checked_134 (by decide) (inR_of (by omega) (by omega)) (fun c134 => ?_) (fun c134 => ?_)
                    · refine a_aload_n dX8_checked_142 rfl rfl ?_
                      refine a_getF (d := 89) fX8_54 k0 rfl r0_10 dX8_checked_143 ?_
                      refine a_getI (J := 2) fX8_387 k89 rfl rfl dX8_checked_146 ?_
                      refine a_topI (y := gN ρ 162 (ckE P) + ckW ρ P t) (hK2u120 (Or.inl (by omega))) ?_
                      exact a_iret rfl ⟨by unfold cChecked ckC; grind, hQu120, hFu120⟩ dX8_checked_149
                    · exact absurd c134 (by decide)
                  · refine a_iload dX8_checked_114 rfl ?_
                    refine a_if_eq (tgt := 129) dX8_checked_116 (by decide) (inR_of (by omega) (by omega)) (fun c116 => ?_) (fun c116 => ?_)
                    · refine a_bipush (x := (-2)) dX8_checked_129 (by decide) ?_
                      exact a_iret rfl ⟨by unfold cChecked ckC; grind, hQu120, hFu120⟩ dX8_checked_131
                    · exact absurd c116 (by decide)
                · refine a_iconst dX8_checked_101 ?_
                  refine a_goto (tgt := 106) dX8_checked_102 (by decide) ?_
                  refine a_istore (ls' := [(6, ai 1), (0, ar 0), (1, ai s), (2, ai t), (3, ai m), (4, ai aT), (5, ai what)]) dX8_checked_106 (Nat.le_of_ble_eq_true rfl) rfl ?_
                  refine a_iload dX8_checked_108 rfl ?_
                  refine a_iconst dX8_checked_110 ?_
                  refine a_icmp_ne (tgt := 132) dX8_checked_111 (by decide) hwhat (inR_of (by omega) (by omega)) (fun c111 => ?_) (fun c111 => ?_)
                  · refine a_iload dX8_checked_132 rfl ?_
                    refine a_if_eq (tgt := 142) dX8_checked_134 (by decide) (inR_of (by omega) (by omega)) (fun c134 => ?_) (fun c134 => ?_)
                    · exact absurd c134 (by decide)
                    · refine a_bipush (x := (-2)) dX8_checked_137 (by decide) ?_
                      refine a_goto (tgt := 149) dX8_checked_139 (by decide) ?_
                      exact a_iret rfl ⟨by unfold cChecked ckC; grind, hQu120, hFu120⟩ dX8_checked_149
                  · refine a_iload dX8_checked_114 rfl ?_
                    refine a_if_eq (tgt := 129) dX8_checked_116 (by decide) (inR_of (by omega) (by omega)) (fun c116 => ?_) (fun c116 => ?_)
                    · exact absurd c116 (by decide)
                    · refine a_aload_n dX8_checked_119 rfl rfl ?_
                      refine a_getF (d := 89) fX8_54 k0 rfl r0_10 dX8_checked_120 ?_
                      refine a_getI (J := 1) fX8_384 k89 rfl rfl dX8_checked_123 ?_
                      refine a_topI (y := (ckT ρ P s t m).2.1) hK1u120 ?_
                      refine a_goto (tgt := 131) dX8_checked_126 (by decide) ?_
                      exact a_iret rfl ⟨by unfold cChecked ckC; grind, hQu120, hFu120⟩ dX8_checked_131
              · refine a_aload_n dX8_checked_83 rfl rfl ?_
                refine a_getF (d := 89) fX8_54 k0 rfl r0_10 dX8_checked_84 ?_
                refine a_getI (J := 0) fX8_381 k89 rfl rfl dX8_checked_87 ?_
                refine a_topI (y := (ckT ρ P s t m).1) hK0u120 ?_
                exact a_iret rfl ⟨by unfold cChecked ckC; grind, hQu120, hFu120⟩ dX8_checked_90
            · refine a_aload_n dX8_checked_61 rfl rfl ?_
              refine a_getF (d := 3) fX8_77 k0 rfl r0_2 dX8_checked_62 ?_
              refine a_goto (tgt := 72) dX8_checked_65 (by decide) ?_
              refine a_iload_n dX8_checked_72 rfl rfl ?_
              refine a_iload_n dX8_checked_73 rfl rfl ?_
              refine a_iload_n dX8_checked_74 rfl rfl ?_
              refine a_callV (c := 89) (as := [ar 86, ar 3, ai s, ai t, ai m]) (rest := []) (c_run σ ρt N 3 hWt hNt hT3 P hLg (by rw [e155]; exact hP) hPl (by omega) s t m (by omega) (by rw [e155]; omega) (by omega) (by rw [e155]; omega) (by omega) (by omega)) mvX0_run lX8_377 k89 (by decide) rfl rfl rfl rfl (Nat.le_of_ble_eq_true rfl) (Nat.le_of_ble_eq_true rfl) (Nat.le_of_ble_eq_true rfl) dX8_checked_75 (fun u121 hu => ?_)
              obtain ⟨-, hGu121, hKu121⟩ := hu
              have hAu121 : Fg pAft σ u121 := hGu121.mono (fun c j z => by unfold pAft; omega)
              have hQu121 : CQ u121 ρ N := hQ.aft hS.2 hR.2 hAu121
              have hCu121 := hQu121.c
              have hNu121 := hQu121.n
              have hT7u121 := hQu121.t
              have hM7u121 := hQu121.m
              have hFu121 : Fg pCq σ u121 := hF.trans (hAu121.mono (fun c j z => pAft_Q z))
              have hLgu121 := hLg.of (v := u121) (fun c j _ _ => hGu121.n (by omega))
              have hcku121 := ckT_rng hWt (P := P) (by rw [e155]; exact hP) (s := s) (t := t) (m := m) (by omega) (by rw [e155]; omega) (by omega) (by omega)
              have hK0u121 := hKu121.1
              have hK1u121 := hKu121.2.1
              have hK3u121 := hKu121.2.2.1
              have hK2u121 := hKu121.2.2.2
              refine a_iload dX8_checked_78 rfl ?_
              refine a_if_ne (tgt := 91) dX8_checked_80 (by decide) hwhat (fun c80 => ?_) (fun c80 => ?_)
              · refine a_aload_n dX8_checked_91 rfl rfl ?_
                refine a_getF (d := 89) fX8_54 k0 rfl r0_10 dX8_checked_92 ?_
                refine a_getI (J := 0) fX8_381 k89 rfl rfl dX8_checked_95 ?_
                refine a_topI (y := (ckT ρt P s t m).1) hK0u121 ?_
                refine a_if_eq (tgt := 105) dX8_checked_98 (by decide) (inR_of (by omega) (by omega)) (fun c98 => ?_) (fun c98 => ?_)
                · refine a_iconst dX8_checked_105 ?_
                  refine a_istore (ls' := [(6, ai 0), (0, ar 0), (1, ai s), (2, ai t), (3, ai m), (4, ai aT), (5, ai what)]) dX8_checked_106 (Nat.le_of_ble_eq_true rfl) rfl ?_
                  refine a_iload dX8_checked_108 rfl ?_
                  refine a_iconst dX8_checked_110 ?_
                  refine a_icmp_ne (tgt := 132) dX8_checked_111 (by decide) hwhat (inR_of (by omega) (by omega)) (fun c111 => ?_) (fun c111 => ?_)
                  · refine a_iload dX8_checked_132 rfl ?_
                    refine a_if_eq (tgt := 142) dX8_checked_134 (by decide) (inR_of (by omega) (by omega)) (fun c134 => ?_) (fun c134 => ?_)
                    · refine a_aload_n dX8_checked_142 rfl rfl ?_
                      refine a_getF (d := 89) fX8_54 k0 rfl r0_10 dX8_checked_143 ?_
                      refine a_getI (J := 2) fX8_387 k89 rfl rfl dX8_checked_146 ?_
                      refine a_topI (y := gN ρt 162 (ckE P) + ckW ρt P t) (hK2u121 (Or.inl (by omega))) ?_
                      exact a_iret rfl ⟨by unfold cChecked ckC; grind, hQu121, hFu121⟩ dX8_checked_149
                    · exact absurd c134 (by decide)
                  · refine a_iload dX8_checked_114 rfl ?_
                    refine a_if_eq (tgt := 129) dX8_checked_116 (by decide) (inR_of (by omega) (by omega)) (fun c116 => ?_) (fun c116 => ?_)
                    · refine a_bipush (x := (-2)) dX8_checked_129 (by decide) ?_
                      exact a_iret rfl ⟨by unfold cChecked ckC; grind, hQu121, hFu121⟩ dX8_checked_131
                    · exact absurd c116 (by decide)
                · refine a_iconst dX8_checked_101 ?_
                  refine a_goto (tgt := 106) dX8_checked_102 (by decide) ?_
                  refine a_istore (ls' := [(6, ai 1), (0, ar 0), (1, ai s), (2, ai t), (3, ai m), (4, ai aT), (5, ai what)]) dX8_checked_106 (Nat.le_of_ble_eq_true rfl) rfl ?_
                  refine a_iload dX8_checked_108 rfl ?_
                  refine a_iconst dX8_checked_110 ?_
                  refine a_icmp_ne (tgt := 132) dX8_checked_111 (by decide) hwhat (inR_of (by omega) (by omega)) (fun c111 => ?_) (fun c111 => ?_)
                  · refine a_iload dX8_checked_132 rfl ?_
                    refine a_if_eq (tgt := 142) dX8_checked_134 (by decide) (inR_of (by omega) (by omega)) (fun c134 => ?_) (fun c134 => ?_)
                    · exact absurd c134 (by decide)
                    · refine a_bipush (x := (-2)) dX8_checked_137 (by decide) ?_
                      refine a_goto (tgt := 149) dX8_checked_139 (by decide) ?_
                      exact a_iret rfl ⟨by unfold cChecked ckC; grind, hQu121, hFu121⟩ dX8_checked_149
                  · refine a_iload dX8_checked_114 rfl ?_
                    refine a_if_eq (tgt := 129) dX8_checked_116 (by decide) (inR_of (by omega) (by omega)) (fun c116 => ?_) (fun c116 => ?_)
                    · exact absurd c116 (by decide)
                    · refine a_aload_n dX8_checked_119 rfl rfl ?_
                      refine a_getF (d := 89) fX8_54 k0 rfl r0_10 dX8_checked_120 ?_
                      refine a_getI (J := 1) fX8_384 k89 rfl rfl dX8_checked_123 ?_
                      refine a_topI (y := (ckT ρt P s t m).2.1) hK1u121 ?_
                      refine a_goto (tgt := 131) dX8_checked_126 (by decide) ?_
                      exact a_iret rfl ⟨by unfold cChecked ckC; grind, hQu121, hFu121⟩ dX8_checked_131
              · refine a_aload_n dX8_checked_83 rfl rfl ?_
                refine a_getF (d := 89) fX8_54 k0 rfl r0_10 dX8_checked_84 ?_
                refine a_getI (J := 0) fX8_381 k89 rfl rfl dX8_checked_87 ?_
                refine a_topI (y := (ckT ρt P s t m).1) hK0u121 ?_
                exact a_iret rfl ⟨by unfold cChecked ckC; grind, hQu121, hFu121⟩ dX8_checked_90
          · refine a_bipush (x := (-3)) dX8_checked_45 (by decide) ?_
            exact a_iret rfl ⟨by unfold cChecked ckC; grind, hQ, hF⟩ dX8_checked_47
        · refine a_iconst dX8_checked_33 ?_
          exact a_iret rfl ⟨by unfold cChecked ckC; grind, hQ, hF⟩ dX8_checked_34

set_option maxRecDepth 20000 in
theorem c_breaksInTime (σ ρ : Sto) (N : Nat) (hW : WV ρ) (hQ : CQ σ ρ N) (P : List (Int × Int)) (hPL : PLd σ ρ P) (s t m : Int) (hs0 : 0 ≤ s) (hs1 : s < gN ρ 155 0) (ht0 : 0 ≤ t) (ht1 : t < gN ρ 155 0) (hm0 : 0 ≤ m) (hm1 : m ≤ 1000000) : MetA mX8_breaksInTime [ar 0, ai s, ai t, ai m] σ (fun r u => r = some (ai (if P.length ≠ 0 ∧ (ckT ρ P s t m).1 = 2 then 1 else 0)) ∧ CQ u ρ N ∧ Fg pAft σ u ∧ (P.length ≠ 0 → gN u 89 1 = (ckT ρ P s t m).2.1)) := by
  have hC := hQ.c
  have hN := hQ.n
  have hT7 := hQ.t
  have hM7 := hQ.m
  have hF : Fg pCq σ σ := Fg.rfl
  have hNk := hN.k
  have hR := hW.R
  have hS := hW.S
  have hTr := hW.T
  have hLg := hPL.1
  have hP := hPL.2.1
  have hPl := hPL.2.2
  have hGk : Gok 86 := Or.inr rfl
  refine a_entry (by decide) (Nat.le_of_ble_eq_true rfl) ?_
  refine a_ls (ls' := [(0, ar 0), (1, ai s), (2, ai t), (3, ai m)]) rfl ?_
  refine a_aload_n dX8_breaksInTime_0 rfl rfl ?_
  refine a_getF (d := 86) fX8_48 k0 rfl r0_9 dX8_breaksInTime_1 ?_
  refine a_getI (J := 0) fX8_258 k86 rfl rfl dX8_breaksInTime_4 ?_
  refine a_topI (y := ((P.length : Int))) hLg.1 ?_
  refine a_if_ne (tgt := 12) dX8_breaksInTime_7 (by decide) (inR_of (by omega) (by omega)) (fun c7 => ?_) (fun c7 => ?_)
  · refine a_aload_n dX8_breaksInTime_12 rfl rfl ?_
    refine a_getF (d := 89) fX8_54 k0 rfl r0_10 dX8_breaksInTime_13 ?_
    refine a_aload_n dX8_breaksInTime_16 rfl rfl ?_
    refine a_getF (d := 86) fX8_48 k0 rfl r0_9 dX8_breaksInTime_17 ?_
    refine a_aload_n dX8_breaksInTime_20 rfl rfl ?_
    refine a_getF (d := 7) fX8_81 k0 rfl r0_3 dX8_breaksInTime_21 ?_
    refine a_iload_n dX8_breaksInTime_24 rfl rfl ?_
    refine a_iload_n dX8_breaksInTime_25 rfl rfl ?_
    refine a_iload_n dX8_breaksInTime_26 rfl rfl ?_
    refine a_callV (c := 89) (as := [ar 86, ar 7, ai s, ai t, ai m]) (rest := []) (c_run σ ρ N 7 hW hN hT7 P hLg hP hPl (by omega) s t m (by omega) (by omega) (by omega) (by omega) (by omega) (by omega)) mvX0_run lX8_377 k89 (by decide) rfl rfl rfl rfl (Nat.le_of_ble_eq_true rfl) (Nat.le_of_ble_eq_true rfl) (Nat.le_of_ble_eq_true rfl) dX8_breaksInTime_27 (fun u122 hu => ?_)
    obtain ⟨-, hGu122, hKu122⟩ := hu
    have hAu122 : Fg pAft σ u122 := hGu122.mono (fun c j z => by unfold pAft; omega)
    have hQu122 : CQ u122 ρ N := hQ.aft hS.2 hR.2 hAu122
    have hCu122 := hQu122.c
    have hNu122 := hQu122.n
    have hT7u122 := hQu122.t
    have hM7u122 := hQu122.m
    have hFu122 : Fg pCq σ u122 := hF.trans (hAu122.mono (fun c j z => pAft_Q z))
    have hLgu122 := hLg.of (v := u122) (fun c j _ _ => hGu122.n (by omega))
    have hcku122 := ckT_rng hW (P := P) hP (s := s) (t := t) (m := m) (by omega) (by omega) (by omega) (by omega)
    have hK0u122 := hKu122.1
    have hK1u122 := hKu122.2.1
    have hK3u122 := hKu122.2.2.1
    have hK2u122 := hKu122.2.2.2
    refine a_aload_n dX8_breaksInTime_30 rfl rfl ?_
    refine a_getF (d := 89) fX8_54 k0 rfl r0_10 dX8_breaksInTime_31 ?_
    refine a_getI (J := 0) fX8_381 k89 rfl rfl dX8_breaksInTime_34 ?_
    refine a_topI (y := (ckT ρ P s t m).1) hK0u122 ?_
    refine a_iconst dX8_breaksInTime_37 ?_
    refine a_icmp_ne (tgt := 45) dX8_breaksInTime_38 (by decide) (inR_of (by omega) (by omega)) (inR_of (by omega) (by omega)) (fun c38 => ?_) (fun c38 => ?_)
    · refine a_iconst dX8_breaksInTime_45 ?_
      exact a_zret rfl (by omega) ⟨by grind, hQu122, hAu122, fun _ => hK1u122⟩ dX8_breaksInTime_46
    · refine a_iconst dX8_breaksInTime_41 ?_
      refine a_goto (tgt := 46) dX8_breaksInTime_42 (by decide) ?_
      exact a_zret rfl (by omega) ⟨by grind, hQu122, hAu122, fun _ => hK1u122⟩ dX8_breaksInTime_46
  · refine a_iconst dX8_breaksInTime_10 ?_
    exact a_zret rfl (by omega) ⟨by rw [if_neg (by omega)], hQ, Fg.rfl, fun z => absurd z (by omega)⟩ dX8_breaksInTime_11

set_option maxRecDepth 20000 in
theorem c_tooLate (σ ρ : Sto) (N : Nat) (hW : WV ρ) (hQ : CQ σ ρ N) (P : List (Int × Int)) (hPL : PLd σ ρ P) (s t m : Int) (hs : inR s) (ht : inR t) (hm : inR m) : MetA mX8_tooLate [ar 0, ai s, ai t, ai m] σ (cqQ σ ρ N (cTooLate ρ P s t m)) := by
  have hC := hQ.c
  have hN := hQ.n
  have hT7 := hQ.t
  have hM7 := hQ.m
  have hF : Fg pCq σ σ := Fg.rfl
  have hNk := hN.k
  have hR := hW.R
  have hS := hW.S
  have hTr := hW.T
  have hLg := hPL.1
  have hP := hPL.2.1
  have hPl := hPL.2.2
  have hGk : Gok 86 := Or.inr rfl
  refine a_entry (by decide) (Nat.le_of_ble_eq_true rfl) ?_
  refine a_ls (ls' := [(0, ar 0), (1, ai s), (2, ai t), (3, ai m)]) rfl ?_
  refine a_aload_n dX8_tooLate_0 rfl rfl ?_
  refine a_iload_n dX8_tooLate_1 rfl rfl ?_
  refine a_cI (c := 0) (as := [ai s]) (rest := []) (c_isStop σ ρ N hW hC hN s hs) mvX8_isStop lX8_161 k0 (by decide) rfl rfl rfl rfl (Nat.le_of_ble_eq_true rfl) (Nat.le_of_ble_eq_true rfl) (Nat.le_of_ble_eq_true rfl) dX8_tooLate_2 ?_
  refine a_ifb_eq (tgt := 23) dX8_tooLate_5 (by decide) (fun c5 => ?_) (fun c5 => ?_)
  · refine a_iconst dX8_tooLate_23 ?_
    exact a_iret rfl ⟨by unfold cTooLate; grind, hQ, hF⟩ dX8_tooLate_24
  · refine a_aload_n dX8_tooLate_8 rfl rfl ?_
    refine a_iload_n dX8_tooLate_9 rfl rfl ?_
    refine a_cI (c := 0) (as := [ai t]) (rest := []) (c_isStop σ ρ N hW hC hN t ht) mvX8_isStop lX8_161 k0 (by decide) rfl rfl rfl rfl (Nat.le_of_ble_eq_true rfl) (Nat.le_of_ble_eq_true rfl) (Nat.le_of_ble_eq_true rfl) dX8_tooLate_10 ?_
    refine a_ifb_eq (tgt := 23) dX8_tooLate_13 (by decide) (fun c13 => ?_) (fun c13 => ?_)
    · refine a_iconst dX8_tooLate_23 ?_
      exact a_iret rfl ⟨by unfold cTooLate; grind, hQ, hF⟩ dX8_tooLate_24
    · refine a_iload_n dX8_tooLate_16 rfl rfl ?_
      refine a_sI (as := [ai m]) (rest := []) (c_isMinute σ m hm) mvX8_isMinute lX8_307 rfl rfl rfl (Nat.le_of_ble_eq_true rfl) (Nat.le_of_ble_eq_true rfl) (Nat.le_of_ble_eq_true rfl) dX8_tooLate_17 ?_
      refine a_ifb_ne (tgt := 25) dX8_tooLate_20 (by decide) (fun c20 => ?_) (fun c20 => ?_)
      · refine a_aload_n dX8_tooLate_25 rfl rfl ?_
        refine a_iload_n dX8_tooLate_26 rfl rfl ?_
        refine a_iload_n dX8_tooLate_27 rfl rfl ?_
        refine a_iload_n dX8_tooLate_28 rfl rfl ?_
        refine a_callI (c := 0) (as := [ai s, ai t, ai m]) (rest := []) (c_breaksInTime σ ρ N hW hQ P hPL s t m (by omega) (by omega) (by omega) (by omega) (by omega) (by omega)) mvX8_breaksInTime lX8_389 k0 (by decide) rfl rfl rfl rfl (Nat.le_of_ble_eq_true rfl) (Nat.le_of_ble_eq_true rfl) (Nat.le_of_ble_eq_true rfl) dX8_tooLate_29 (fun x u123 hu => ?_)
        obtain ⟨hx, hBu123⟩ := hu
        cases hx
        have hQu123 : CQ u123 ρ N := hBu123.1
        have hCu123 := hQu123.c
        have hNu123 := hQu123.n
        have hT7u123 := hQu123.t
        have hM7u123 := hQu123.m
        have hFu123 : Fg pCq σ u123 := hF.trans (hBu123.2.1.mono (fun c j z => pAft_Q z))
        have hLgu123 := hLg.of (v := u123) (fun c j _ _ => hBu123.2.1.n (by unfold pAft; omega))
        have hcku123 := ckT_rng hW (P := P) hP (s := s) (t := t) (m := m) (by omega) (by omega) (by omega) (by omega)
        refine a_ifb_eq (tgt := 60) dX8_tooLate_32 (by decide) (fun c32 => ?_) (fun c32 => ?_)
        · refine a_bipush (x := (-2)) dX8_tooLate_60 (by decide) ?_
          exact a_iret rfl ⟨by unfold cTooLate; grind, hQu123, hFu123⟩ dX8_tooLate_62
        · have hbk : P.length ≠ 0 ∧ (ckT ρ P s t m).1 = 2 := (by assumption)
          have hK1u123 := hBu123.2.2 hbk.1
          have hlt := hcku123.2.2.2 hbk.2
          refine a_aload_n dX8_tooLate_35 rfl rfl ?_
          refine a_getF (d := 86) fX8_48 k0 rfl r0_9 dX8_tooLate_36 ?_
          refine a_aload_n dX8_tooLate_39 rfl rfl ?_
          refine a_getR (d := N) (J := 12) fX8_65 k0 rfl q0_12 rfl hCu123 dX8_tooLate_40 ?_
          refine a_aload_n dX8_tooLate_43 rfl rfl ?_
          refine a_getF (d := 89) fX8_54 k0 rfl r0_10 dX8_tooLate_44 ?_
          refine a_getI (J := 1) fX8_384 k89 rfl rfl dX8_tooLate_47 ?_
          refine a_topI (y := (ckT ρ P s t m).2.1) hK1u123 ?_
          refine a_iload_n dX8_tooLate_50 rfl rfl ?_
          refine a_cI (c := 86) (as := [ar N, ai ((ckT ρ P s t m).2.1), ai s]) (rest := []) (c_wayTo u123 ρ N 86 hW hNu123 hGk P hLgu123 hP hPl ((ckT ρ P s t m).2.1) s (by omega) (by omega) (by omega) (by omega)) mvX1_wayTo lX8_396 k86 (by decide) rfl rfl rfl rfl (Nat.le_of_ble_eq_true rfl) (Nat.le_of_ble_eq_true rfl) (Nat.le_of_ble_eq_true rfl) dX8_tooLate_51 ?_
          have hwy := wy_rng hW (P := P) hP (l := ((ckT ρ P s t m).2.1)) (s := s) (by omega) (by omega) (by omega) (by omega)
          refine a_ldc_w (x := 1000000) cX8_286 (by decide) dX8_tooLate_54 ?_
          refine a_icmp_lt (tgt := 63) dX8_tooLate_57 (by decide) (inR_of (by omega) (by omega)) (inR_of (by omega) (by omega)) (fun c57 => ?_) (fun c57 => ?_)
          · refine a_aload_n dX8_tooLate_63 rfl rfl ?_
            refine a_getF (d := 86) fX8_48 k0 rfl r0_9 dX8_tooLate_64 ?_
            refine a_aload_n dX8_tooLate_67 rfl rfl ?_
            refine a_getF (d := 7) fX8_81 k0 rfl r0_3 dX8_tooLate_68 ?_
            refine a_aload_n dX8_tooLate_71 rfl rfl ?_
            refine a_getF (d := 89) fX8_54 k0 rfl r0_10 dX8_tooLate_72 ?_
            refine a_getI (J := 1) fX8_384 k89 rfl rfl dX8_tooLate_75 ?_
            refine a_topI (y := (ckT ρ P s t m).2.1) hK1u123 ?_
            refine a_iload_n dX8_tooLate_78 rfl rfl ?_
            refine a_iload_n dX8_tooLate_79 rfl rfl ?_
            refine a_cI (c := 86) (as := [ar 7, ai ((ckT ρ P s t m).2.1), ai s, ai m]) (rest := []) (c_timeToSpare u123 ρ N 7 86 hW hNu123 hT7u123 hGk P hLgu123 hP hPl ((ckT ρ P s t m).2.1) s (by omega) (by omega) (by omega) (by omega) m) mvX1_timeToSpare lX8_392 k86 (by decide) rfl rfl rfl rfl (Nat.le_of_ble_eq_true rfl) (Nat.le_of_ble_eq_true rfl) (Nat.le_of_ble_eq_true rfl) dX8_tooLate_80 ?_
            have hsp124 := sp_rng hW (P := P) hP (l := ((ckT ρ P s t m).2.1)) (s := s) (m := m) (by omega) (by omega) (by omega) (by omega) (by omega) (by omega)
            refine a_ineg dX8_tooLate_83 ?_
            exact a_iret rfl ⟨by unfold cTooLate; grind, hQu123, hFu123⟩ dX8_tooLate_84
          · refine a_bipush (x := (-2)) dX8_tooLate_60 (by decide) ?_
            exact a_iret rfl ⟨by unfold cTooLate; grind, hQu123, hFu123⟩ dX8_tooLate_62
      · refine a_iconst dX8_tooLate_23 ?_
        exact a_iret rfl ⟨by unfold cTooLate; grind, hQ, hF⟩ dX8_tooLate_24

set_option maxRecDepth 20000 in
theorem c_spare (σ ρ : Sto) (N : Nat) (hW : WV ρ) (hQ : CQ σ ρ N) (P : List (Int × Int)) (hPL : PLd σ ρ P) (s t m : Int) (hs : inR s) (ht : inR t) (hm : inR m) : MetA mX8_spare [ar 0, ai s, ai t, ai m] σ (cqQ σ ρ N (cSpare ρ P s t m)) := by
  have hC := hQ.c
  have hN := hQ.n
  have hT7 := hQ.t
  have hM7 := hQ.m
  have hF : Fg pCq σ σ := Fg.rfl
  have hNk := hN.k
  have hR := hW.R
  have hS := hW.S
  have hTr := hW.T
  have hLg := hPL.1
  have hP := hPL.2.1
  have hPl := hPL.2.2
  have hGk : Gok 86 := Or.inr rfl
  refine a_entry (by decide) (Nat.le_of_ble_eq_true rfl) ?_
  refine a_ls (ls' := [(0, ar 0), (1, ai s), (2, ai t), (3, ai m)]) rfl ?_
  refine a_aload_n dX8_spare_0 rfl rfl ?_
  refine a_iload_n dX8_spare_1 rfl rfl ?_
  refine a_cI (c := 0) (as := [ai s]) (rest := []) (c_isStop σ ρ N hW hC hN s hs) mvX8_isStop lX8_161 k0 (by decide) rfl rfl rfl rfl (Nat.le_of_ble_eq_true rfl) (Nat.le_of_ble_eq_true rfl) (Nat.le_of_ble_eq_true rfl) dX8_spare_2 ?_
  refine a_ifb_eq (tgt := 23) dX8_spare_5 (by decide) (fun c5 => ?_) (fun c5 => ?_)
  · refine a_iconst dX8_spare_23 ?_
    exact a_iret rfl ⟨by unfold cSpare; grind, hQ, hF⟩ dX8_spare_24
  · refine a_aload_n dX8_spare_8 rfl rfl ?_
    refine a_iload_n dX8_spare_9 rfl rfl ?_
    refine a_cI (c := 0) (as := [ai t]) (rest := []) (c_isStop σ ρ N hW hC hN t ht) mvX8_isStop lX8_161 k0 (by decide) rfl rfl rfl rfl (Nat.le_of_ble_eq_true rfl) (Nat.le_of_ble_eq_true rfl) (Nat.le_of_ble_eq_true rfl) dX8_spare_10 ?_
    refine a_ifb_eq (tgt := 23) dX8_spare_13 (by decide) (fun c13 => ?_) (fun c13 => ?_)
    · refine a_iconst dX8_spare_23 ?_
      exact a_iret rfl ⟨by unfold cSpare; grind, hQ, hF⟩ dX8_spare_24
    · refine a_iload_n dX8_spare_16 rfl rfl ?_
      refine a_sI (as := [ai m]) (rest := []) (c_isMinute σ m hm) mvX8_isMinute lX8_307 rfl rfl rfl (Nat.le_of_ble_eq_true rfl) (Nat.le_of_ble_eq_true rfl) (Nat.le_of_ble_eq_true rfl) dX8_spare_17 ?_
      refine a_ifb_ne (tgt := 25) dX8_spare_20 (by decide) (fun c20 => ?_) (fun c20 => ?_)
      · refine a_aload_n dX8_spare_25 rfl rfl ?_
        refine a_getF (d := 86) fX8_48 k0 rfl r0_9 dX8_spare_26 ?_
        refine a_getI (J := 0) fX8_258 k86 rfl rfl dX8_spare_29 ?_
        refine a_topI (y := ((P.length : Int))) hLg.1 ?_
        refine a_if_ne (tgt := 38) dX8_spare_32 (by decide) (inR_of (by omega) (by omega)) (fun c32 => ?_) (fun c32 => ?_)
        · refine a_aload_n dX8_spare_38 rfl rfl ?_
          refine a_getF (d := 89) fX8_54 k0 rfl r0_10 dX8_spare_39 ?_
          refine a_aload_n dX8_spare_42 rfl rfl ?_
          refine a_getF (d := 86) fX8_48 k0 rfl r0_9 dX8_spare_43 ?_
          refine a_aload_n dX8_spare_46 rfl rfl ?_
          refine a_getF (d := 7) fX8_81 k0 rfl r0_3 dX8_spare_47 ?_
          refine a_iload_n dX8_spare_50 rfl rfl ?_
          refine a_iload_n dX8_spare_51 rfl rfl ?_
          refine a_iload_n dX8_spare_52 rfl rfl ?_
          refine a_callV (c := 89) (as := [ar 86, ar 7, ai s, ai t, ai m]) (rest := []) (c_run σ ρ N 7 hW hN hT7 P hLg hP hPl (by omega) s t m (by omega) (by omega) (by omega) (by omega) (by omega) (by omega)) mvX0_run lX8_377 k89 (by decide) rfl rfl rfl rfl (Nat.le_of_ble_eq_true rfl) (Nat.le_of_ble_eq_true rfl) (Nat.le_of_ble_eq_true rfl) dX8_spare_53 (fun u125 hu => ?_)
          obtain ⟨-, hGu125, hKu125⟩ := hu
          have hAu125 : Fg pAft σ u125 := hGu125.mono (fun c j z => by unfold pAft; omega)
          have hQu125 : CQ u125 ρ N := hQ.aft hS.2 hR.2 hAu125
          have hCu125 := hQu125.c
          have hNu125 := hQu125.n
          have hT7u125 := hQu125.t
          have hM7u125 := hQu125.m
          have hFu125 : Fg pCq σ u125 := hF.trans (hAu125.mono (fun c j z => pAft_Q z))
          have hLgu125 := hLg.of (v := u125) (fun c j _ _ => hGu125.n (by omega))
          have hcku125 := ckT_rng hW (P := P) hP (s := s) (t := t) (m := m) (by omega) (by omega) (by omega) (by omega)
          have hK0u125 := hKu125.1
          have hK1u125 := hKu125.2.1
          have hK3u125 := hKu125.2.2.1
          have hK2u125 := hKu125.2.2.2
          refine a_aload_n dX8_spare_56 rfl rfl ?_
          refine a_getF (d := 89) fX8_54 k0 rfl r0_10 dX8_spare_57 ?_
          refine a_getI (J := 0) fX8_381 k89 rfl rfl dX8_spare_60 ?_
          refine a_topI (y := (ckT ρ P s t m).1) hK0u125 ?_
          refine a_if_ne (tgt := 76) dX8_spare_63 (by decide) (inR_of (by omega) (by omega)) (fun c63 => ?_) (fun c63 => ?_)
          · refine a_bipush (x := (-2)) dX8_spare_76 (by decide) ?_
            exact a_iret rfl ⟨by unfold cSpare; grind, hQu125, hFu125⟩ dX8_spare_78
          · refine a_aload_n dX8_spare_66 rfl rfl ?_
            refine a_getF (d := 89) fX8_54 k0 rfl r0_10 dX8_spare_67 ?_
            refine a_getI (J := 3) fX8_399 k89 rfl rfl dX8_spare_70 ?_
            refine a_topI (y := (ckT ρ P s t m).2.2) hK3u125 ?_
            refine a_goto (tgt := 78) dX8_spare_73 (by decide) ?_
            exact a_iret rfl ⟨by unfold cSpare; grind, hQu125, hFu125⟩ dX8_spare_78
        · refine a_bipush (x := (-2)) dX8_spare_35 (by decide) ?_
          exact a_iret rfl ⟨by unfold cSpare; grind, hQ, hF⟩ dX8_spare_37
      · refine a_iconst dX8_spare_23 ?_
        exact a_iret rfl ⟨by unfold cSpare; grind, hQ, hF⟩ dX8_spare_24

set_option maxRecDepth 20000 in
theorem c_cause_l (σ τ ρ : Sto) (N : Nat) (hW : WV ρ) (hQτ : CQ τ ρ N) (hFτ : Fg pCq σ τ) (P : List (Int × Int)) (hLgτ : LgR τ 86 P) (hP : ∀ q ∈ P, lgOK (gN ρ 155 3) q) (hPl : (P.length : Int) ≤ 6) (s t m : Int) (hK1 : gN τ 89 1 = (ckT ρ P s t m).2.1) (V : Int) : ∀ (n : Nat) (l : Int), -1 ≤ l → l < P.length → n = (l + 1).toNat → V = caL ρ P (ckT ρ P s t m).2.1 n l → RunA mX8_cause (cqQ σ ρ N V) 75 [(4, ai l), (0, ar 0), (1, ai s), (2, ai t), (3, ai m)] [] τ := by
  have hNk := hQτ.n.k
  have hR := hW.R
  have hS := hW.S
  have hTr := hW.T
  have hCτ := hQτ.c
  have hNτ := hQτ.n
  have hT7τ := hQτ.t
  have hM7τ := hQτ.m
  intro n
  induction n with
  | zero =>
    intro l h0 h5 hn hV
    refine a_iload dX8_cause_75 rfl ?_
    refine a_if_lt (tgt := 109) dX8_cause_77 (by decide) (inR_of (by omega) (by omega)) (fun c77 => ?_) (fun c77 => ?_)
    · refine a_aload_n dX8_cause_109 rfl rfl ?_
      refine a_getF (d := 89) fX8_54 k0 rfl r0_10 dX8_cause_110 ?_
      refine a_getI (J := 1) fX8_384 k89 rfl rfl dX8_cause_113 ?_
      refine a_topI (y := (ckT ρ P s t m).2.1) hK1 ?_
      exact a_iret rfl ⟨by rw [hV]; rfl, hQτ, hFτ⟩ dX8_cause_116
    · exfalso; omega
  | succ n ih =>
    intro l h0 h5 hn hV
    refine a_iload dX8_cause_75 rfl ?_
    refine a_if_lt (tgt := 109) dX8_cause_77 (by decide) (inR_of (by omega) (by omega)) (fun c77 => ?_) (fun c77 => ?_)
    · exfalso; omega
    · refine a_aload_n dX8_cause_80 rfl rfl ?_
      refine a_getF (d := 7) fX8_81 k0 rfl r0_3 dX8_cause_81 ?_
      refine a_aload_n dX8_cause_84 rfl rfl ?_
      refine a_getF (d := 86) fX8_48 k0 rfl r0_9 dX8_cause_85 ?_
      refine a_getF (d := 88) fX8_262 k86 rfl r86_2 dX8_cause_88 ?_
      refine a_iload dX8_cause_91 rfl ?_
      refine a_ild k88 n88 (by omega) (by omega) dX8_cause_93 ?_
      refine a_topI (y := (lg P l).2) (hLgτ.at (by omega) (by omega)).2.1 ?_
      have hb99 := lg_rng hP (l := l) (by omega) (by omega)
      refine a_cI (c := 7) (as := [ai ((lg P l).2)]) (rest := []) (c_minutesLate τ ρ N 7 hW hNτ hT7τ ((lg P l).2) (by omega) (by omega)) mvX6_minutesLate lX8_189 k7 (by decide) rfl rfl rfl rfl (Nat.le_of_ble_eq_true rfl) (Nat.le_of_ble_eq_true rfl) (Nat.le_of_ble_eq_true rfl) dX8_cause_94 ?_
      have htm := hW.tm ((lg P l).2) (by omega) (by omega)
      have hrd := hW.ride ((lg P l).2) (by omega) (by omega)
      refine a_if_eq (tgt := 103) dX8_cause_97 (by decide) (inR_of (by omega) (by omega)) (fun c97 => ?_) (fun c97 => ?_)
      · refine a_iinc (y := l + (-1)) (ls' := [(4, ai (l + (-1))), (0, ar 0), (1, ai s), (2, ai t), (3, ai m)]) dX8_cause_103 rfl rfl (Nat.le_of_ble_eq_true rfl) rfl ?_
        refine a_goto (tgt := 75) dX8_cause_106 (by decide) ?_
        exact a_keep (by simp) (ih (l + -1) (by omega) (by omega) (by omega) (by rw [hV, caL, if_pos (by omega)]; rfl))
      · refine a_iload dX8_cause_100 rfl ?_
        exact a_iret rfl ⟨by rw [hV, caL, if_neg (by omega)], hQτ, hFτ⟩ dX8_cause_102

set_option maxRecDepth 20000 in
theorem c_cause (σ ρ : Sto) (N : Nat) (hW : WV ρ) (hQ : CQ σ ρ N) (P : List (Int × Int)) (hPL : PLd σ ρ P) (s t m : Int) (hs : inR s) (ht : inR t) (hm : inR m) (ρt : Sto) (hWt : WV ρt) (e155 : ∀ j, gN ρt 155 j = gN ρ 155 j) (hT3 : TmR σ N 3 ρt) : MetA mX8_cause [ar 0, ai s, ai t, ai m] σ (cqQ σ ρ N (cCause ρ ρt P s t m)) := by
  have hC := hQ.c
  have hN := hQ.n
  have hT7 := hQ.t
  have hM7 := hQ.m
  have hF : Fg pCq σ σ := Fg.rfl
  have hNk := hN.k
  have hR := hW.R
  have hS := hW.S
  have hTr := hW.T
  have hLg := hPL.1
  have hP := hPL.2.1
  have hPl := hPL.2.2
  have hGk : Gok 86 := Or.inr rfl
  have hNt : NetR σ N ρt := hN.w e155
  refine a_entry (by decide) (Nat.le_of_ble_eq_true rfl) ?_
  refine a_ls (ls' := [(0, ar 0), (1, ai s), (2, ai t), (3, ai m)]) rfl ?_
  refine a_aload_n dX8_cause_0 rfl rfl ?_
  refine a_iload_n dX8_cause_1 rfl rfl ?_
  refine a_cI (c := 0) (as := [ai s]) (rest := []) (c_isStop σ ρ N hW hC hN s hs) mvX8_isStop lX8_161 k0 (by decide) rfl rfl rfl rfl (Nat.le_of_ble_eq_true rfl) (Nat.le_of_ble_eq_true rfl) (Nat.le_of_ble_eq_true rfl) dX8_cause_2 ?_
  refine a_ifb_eq (tgt := 23) dX8_cause_5 (by decide) (fun c5 => ?_) (fun c5 => ?_)
  · refine a_iconst dX8_cause_23 ?_
    exact a_iret rfl ⟨by unfold cCause; grind, hQ, hF⟩ dX8_cause_24
  · refine a_aload_n dX8_cause_8 rfl rfl ?_
    refine a_iload_n dX8_cause_9 rfl rfl ?_
    refine a_cI (c := 0) (as := [ai t]) (rest := []) (c_isStop σ ρ N hW hC hN t ht) mvX8_isStop lX8_161 k0 (by decide) rfl rfl rfl rfl (Nat.le_of_ble_eq_true rfl) (Nat.le_of_ble_eq_true rfl) (Nat.le_of_ble_eq_true rfl) dX8_cause_10 ?_
    refine a_ifb_eq (tgt := 23) dX8_cause_13 (by decide) (fun c13 => ?_) (fun c13 => ?_)
    · refine a_iconst dX8_cause_23 ?_
      exact a_iret rfl ⟨by unfold cCause; grind, hQ, hF⟩ dX8_cause_24
    · refine a_iload_n dX8_cause_16 rfl rfl ?_
      refine a_sI (as := [ai m]) (rest := []) (c_isMinute σ m hm) mvX8_isMinute lX8_307 rfl rfl rfl (Nat.le_of_ble_eq_true rfl) (Nat.le_of_ble_eq_true rfl) (Nat.le_of_ble_eq_true rfl) dX8_cause_17 ?_
      refine a_ifb_ne (tgt := 25) dX8_cause_20 (by decide) (fun c20 => ?_) (fun c20 => ?_)
      · refine a_aload_n dX8_cause_25 rfl rfl ?_
        refine a_iload_n dX8_cause_26 rfl rfl ?_
        refine a_iload_n dX8_cause_27 rfl rfl ?_
        refine a_iload_n dX8_cause_28 rfl rfl ?_
        refine a_callI (c := 0) (as := [ai s, ai t, ai m]) (rest := []) (c_breaksInTime σ ρ N hW hQ P hPL s t m (by omega) (by omega) (by omega) (by omega) (by omega) (by omega)) mvX8_breaksInTime lX8_389 k0 (by decide) rfl rfl rfl rfl (Nat.le_of_ble_eq_true rfl) (Nat.le_of_ble_eq_true rfl) (Nat.le_of_ble_eq_true rfl) dX8_cause_29 (fun x u126 hu => ?_)
        obtain ⟨hx, hBu126⟩ := hu
        cases hx
        have hQu126 : CQ u126 ρ N := hBu126.1
        have hCu126 := hQu126.c
        have hNu126 := hQu126.n
        have hT7u126 := hQu126.t
        have hM7u126 := hQu126.m
        have hFu126 : Fg pCq σ u126 := hF.trans (hBu126.2.1.mono (fun c j z => pAft_Q z))
        have hLgu126 := hLg.of (v := u126) (fun c j _ _ => hBu126.2.1.n (by unfold pAft; omega))
        have hcku126 := ckT_rng hW (P := P) hP (s := s) (t := t) (m := m) (by omega) (by omega) (by omega) (by omega)
        refine a_ifb_ne (tgt := 38) dX8_cause_32 (by decide) (fun c32 => ?_) (fun c32 => ?_)
        · have hbk : P.length ≠ 0 ∧ (ckT ρ P s t m).1 = 2 := (by assumption)
          have hK1u126 := hBu126.2.2 hbk.1
          have hlt := hcku126.2.2.2 hbk.2
          have hT3u126 : TmR u126 N 3 ρt := hT3.of (hBu126.2.1.r (by unfold pAft; omega)) (hBu126.2.1.l (by unfold pAft; omega)) (fun j => hBu126.2.1.n (by unfold pAft; omega)) (fun j => hBu126.2.1.n (by unfold pAft; omega)) (Or.inl (hBu126.2.1.n (by unfold pAft; omega)))
          have hNtu126 : NetR u126 N ρt := hNu126.w e155
          refine a_aload_n dX8_cause_38 rfl rfl ?_
          refine a_getF (d := 86) fX8_48 k0 rfl r0_9 dX8_cause_39 ?_
          refine a_aload_n dX8_cause_42 rfl rfl ?_
          refine a_getF (d := 3) fX8_77 k0 rfl r0_2 dX8_cause_43 ?_
          refine a_aload_n dX8_cause_46 rfl rfl ?_
          refine a_getF (d := 89) fX8_54 k0 rfl r0_10 dX8_cause_47 ?_
          refine a_getI (J := 1) fX8_384 k89 rfl rfl dX8_cause_50 ?_
          refine a_topI (y := (ckT ρ P s t m).2.1) hK1u126 ?_
          refine a_iload_n dX8_cause_53 rfl rfl ?_
          refine a_iload_n dX8_cause_54 rfl rfl ?_
          refine a_cI (c := 86) (as := [ar 3, ai ((ckT ρ P s t m).2.1), ai s, ai m]) (rest := []) (c_timeToSpare u126 ρt N 3 86 hWt hNtu126 hT3u126 hGk P hLgu126 (by rw [e155]; exact hP) hPl ((ckT ρ P s t m).2.1) s (by omega) (by omega) (by omega) (by rw [e155]; omega) m) mvX1_timeToSpare lX8_392 k86 (by decide) rfl rfl rfl rfl (Nat.le_of_ble_eq_true rfl) (Nat.le_of_ble_eq_true rfl) (Nat.le_of_ble_eq_true rfl) dX8_cause_55 ?_
          have hsp127 := sp_rng hWt (P := P) (by rw [e155]; exact hP) (l := ((ckT ρ P s t m).2.1)) (s := s) (m := m) (by omega) (by rw [e155]; omega) (by omega) (by omega) (by omega) (by omega)
          refine a_if_ge (tgt := 64) dX8_cause_58 (by decide) (inR_of (by omega) (by omega)) (fun c58 => ?_) (fun c58 => ?_)
          · refine a_aload_n dX8_cause_64 rfl rfl ?_
            refine a_getF (d := 89) fX8_54 k0 rfl r0_10 dX8_cause_65 ?_
            refine a_getI (J := 1) fX8_384 k89 rfl rfl dX8_cause_68 ?_
            refine a_topI (y := (ckT ρ P s t m).2.1) hK1u126 ?_
            refine a_iconst dX8_cause_71 ?_
            refine a_isub dX8_cause_72 ?_
            refine a_istore (ls' := [(4, ai ((ckT ρ P s t m).2.1 - 1)), (0, ar 0), (1, ai s), (2, ai t), (3, ai m)]) dX8_cause_73 (Nat.le_of_ble_eq_true rfl) rfl ?_
            have e : cCause ρ ρt P s t m = caL ρ P (ckT ρ P s t m).2.1 (ckT ρ P s t m).2.1.toNat ((ckT ρ P s t m).2.1 - 1) := by unfold cCause; rw [if_neg (by grind), if_neg (by grind), if_neg (by omega)]
            rw [e]
            exact a_keep (by simp) (c_cause_l σ u126 ρ N hW hQu126 hFu126 P hLgu126 hP hPl s t m hK1u126 _ (ckT ρ P s t m).2.1.toNat ((ckT ρ P s t m).2.1 - 1) (by omega) (by omega) (by omega) rfl)
          · refine a_bipush (x := (-3)) dX8_cause_61 (by decide) ?_
            exact a_iret rfl ⟨by unfold cCause; grind, hQu126, hFu126⟩ dX8_cause_63
        · refine a_bipush (x := (-2)) dX8_cause_35 (by decide) ?_
          exact a_iret rfl ⟨by unfold cCause; grind, hQu126, hFu126⟩ dX8_cause_37
      · refine a_iconst dX8_cause_23 ?_
        exact a_iret rfl ⟨by unfold cCause; grind, hQ, hF⟩ dX8_cause_24

def cFault (σ : Sto) (what : Int) : Int := if what = 0 then gN σ 2 0 else if what = 1 then gN σ 2 1 else -1

set_option maxRecDepth 20000 in
theorem c_fault (σ : Sto) (what : Int) (hwhat : inR what) : MetI mX8_fault [ar 0, ai what] σ (cFault σ what) σ := by
  refine a_entry (by decide) (Nat.le_of_ble_eq_true rfl) ?_
  refine a_ls (ls' := [(0, ar 0), (1, ai what)]) rfl ?_
  refine a_iload_n dX8_fault_0 rfl rfl ?_
  refine a_if_ne (tgt := 12) dX8_fault_1 (by decide) hwhat (fun c1 => ?_) (fun c1 => ?_)
  · refine a_iload_n dX8_fault_12 rfl rfl ?_
    refine a_iconst dX8_fault_13 ?_
    refine a_icmp_ne (tgt := 27) dX8_fault_14 (by decide) hwhat (inR_of (by omega) (by omega)) (fun c14 => ?_) (fun c14 => ?_)
    · refine a_iconst dX8_fault_27 ?_
      exact a_iret rfl ⟨by unfold cFault; grind, rfl⟩ dX8_fault_28
    · refine a_aload_n dX8_fault_17 rfl rfl ?_
      refine a_getF (d := 2) fX8_16 k0 rfl r0_1 dX8_fault_18 ?_
      refine a_getI (J := 1) fX8_115 k2 rfl rfl dX8_fault_21 ?_
      refine a_goto (tgt := 28) dX8_fault_24 (by decide) ?_
      exact a_iret rfl ⟨by unfold cFault; grind, rfl⟩ dX8_fault_28
  · refine a_aload_n dX8_fault_4 rfl rfl ?_
    refine a_getF (d := 2) fX8_16 k0 rfl r0_1 dX8_fault_5 ?_
    refine a_getI (J := 0) fX8_112 k2 rfl rfl dX8_fault_8 ?_
    exact a_iret rfl ⟨by unfold cFault; grind, rfl⟩ dX8_fault_11

def cCount (σ ρ : Sto) (P : List (Int × Int)) (what : Int) : Int := if what = 0 then gN ρ 155 0 else if what = 1 then gN ρ 155 1 else if what = 2 then gN ρ 155 2 else if what = 3 then gN ρ 155 3 else if what = 4 then ctT ρ else if what = 5 then sfT ρ else if what = 6 then P.length else if what = 7 then gN σ 15 0 else if what = 8 then gN σ 0 14 else -1

set_option maxRecDepth 20000 in
theorem c_count (σ ρ : Sto) (N : Nat) (hW : WV ρ) (hQ : CQ σ ρ N) (P : List (Int × Int)) (hPL : PLd σ ρ P) (what : Int) (hwhat : inR what) : MetA mX8_count [ar 0, ai what] σ (fun r u => r = some (ai (cCount σ ρ P what)) ∧ u = σ) := by
  have hC := hQ.c
  have hN := hQ.n
  have hT7 := hQ.t
  have hM7 := hQ.m
  have hF : Fg pCq σ σ := Fg.rfl
  have hNk := hN.k
  have hR := hW.R
  have hS := hW.S
  have hTr := hW.T
  have hLg := hPL.1
  have hP := hPL.2.1
  have hPl := hPL.2.2
  have hGk : Gok 86 := Or.inr rfl
  refine a_entry (by decide) (Nat.le_of_ble_eq_true rfl) ?_
  refine a_ls (ls' := [(0, ar 0), (1, ai what)]) rfl ?_
  refine a_iload_n dX8_count_0 rfl rfl ?_
  by_cases hsw : 0 ≤ what ∧ what ≤ 8
  · have hcs : what = 0 ∨ what = 1 ∨ what = 2 ∨ what = 3 ∨ what = 4 ∨ what = 5 ∨ what = 6 ∨ what = 7 ∨ what = 8 := by omega
    rcases hcs with hw | hw | hw | hw | hw | hw | hw | hw | hw
    · subst hw
      refine a_tabIn (tgt := 52) dX8_count_1 (inR_of (by omega) (by omega)) (by omega) (by omega) (by rfl) (by decide) ?_
      refine a_aload_n dX8_count_52 rfl rfl ?_
      refine a_getR (d := N) (J := 12) fX8_65 k0 rfl q0_12 rfl hC dX8_count_53 ?_
      refine a_getI (J := 0) fX8_293 (kN hNk) rfl rfl dX8_count_56 ?_
      refine a_topI (y := gN ρ 155 0) hN.n0 ?_
      exact a_iret rfl ⟨by unfold cCount; grind (splits := 14), rfl⟩ dX8_count_59
    · subst hw
      refine a_tabIn (tgt := 60) dX8_count_1 (inR_of (by omega) (by omega)) (by omega) (by omega) (by rfl) (by decide) ?_
      refine a_aload_n dX8_count_60 rfl rfl ?_
      refine a_getR (d := N) (J := 12) fX8_65 k0 rfl q0_12 rfl hC dX8_count_61 ?_
      refine a_getI (J := 1) fX8_402 (kN hNk) rfl rfl dX8_count_64 ?_
      refine a_topI (y := gN ρ 155 1) hN.n1 ?_
      exact a_iret rfl ⟨by unfold cCount; grind (splits := 14), rfl⟩ dX8_count_67
    · subst hw
      refine a_tabIn (tgt := 68) dX8_count_1 (inR_of (by omega) (by omega)) (by omega) (by omega) (by rfl) (by decide) ?_
      refine a_aload_n dX8_count_68 rfl rfl ?_
      refine a_getR (d := N) (J := 12) fX8_65 k0 rfl q0_12 rfl hC dX8_count_69 ?_
      refine a_getI (J := 2) fX8_356 (kN hNk) rfl rfl dX8_count_72 ?_
      refine a_topI (y := gN ρ 155 2) hN.n2 ?_
      exact a_iret rfl ⟨by unfold cCount; grind (splits := 14), rfl⟩ dX8_count_75
    · subst hw
      refine a_tabIn (tgt := 76) dX8_count_1 (inR_of (by omega) (by omega)) (by omega) (by omega) (by rfl) (by decide) ?_
      refine a_aload_n dX8_count_76 rfl rfl ?_
      refine a_getR (d := N) (J := 12) fX8_65 k0 rfl q0_12 rfl hC dX8_count_77 ?_
      refine a_getI (J := 3) fX8_359 (kN hNk) rfl rfl dX8_count_80 ?_
      refine a_topI (y := gN ρ 155 3) hN.n3 ?_
      exact a_iret rfl ⟨by unfold cCount; grind (splits := 14), rfl⟩ dX8_count_83
    · subst hw
      refine a_tabIn (tgt := 84) dX8_count_1 (inR_of (by omega) (by omega)) (by omega) (by omega) (by rfl) (by decide) ?_
      refine a_aload_n dX8_count_84 rfl rfl ?_
      refine a_getF (d := 7) fX8_81 k0 rfl r0_3 dX8_count_85 ?_
      refine a_cI (c := 7) (as := []) (rest := []) (c_cancRides σ ρ N hW hN hT7) mvX6_cancelledRides lX8_405 k7 (by decide) rfl rfl rfl rfl (Nat.le_of_ble_eq_true rfl) (Nat.le_of_ble_eq_true rfl) (Nat.le_of_ble_eq_true rfl) dX8_count_88 ?_
      exact a_iret rfl ⟨by unfold cCount; grind (splits := 14), rfl⟩ dX8_count_91
    · subst hw
      refine a_tabIn (tgt := 92) dX8_count_1 (inR_of (by omega) (by omega)) (by omega) (by omega) (by rfl) (by decide) ?_
      refine a_aload_n dX8_count_92 rfl rfl ?_
      refine a_getF (d := 7) fX8_81 k0 rfl r0_3 dX8_count_93 ?_
      refine a_cI (c := 7) (as := []) (rest := []) (c_shiftRides σ ρ N hW hN hT7) mvX6_shiftedRides lX8_408 k7 (by decide) rfl rfl rfl rfl (Nat.le_of_ble_eq_true rfl) (Nat.le_of_ble_eq_true rfl) (Nat.le_of_ble_eq_true rfl) dX8_count_96 ?_
      exact a_iret rfl ⟨by unfold cCount; grind (splits := 14), rfl⟩ dX8_count_99
    · subst hw
      refine a_tabIn (tgt := 100) dX8_count_1 (inR_of (by omega) (by omega)) (by omega) (by omega) (by rfl) (by decide) ?_
      refine a_aload_n dX8_count_100 rfl rfl ?_
      refine a_getF (d := 86) fX8_48 k0 rfl r0_9 dX8_count_101 ?_
      refine a_getI (J := 0) fX8_258 k86 rfl rfl dX8_count_104 ?_
      refine a_topI (y := ((P.length : Int))) hLg.1 ?_
      exact a_iret rfl ⟨by unfold cCount; grind (splits := 14), rfl⟩ dX8_count_107
    · subst hw
      refine a_tabIn (tgt := 108) dX8_count_1 (inR_of (by omega) (by omega)) (by omega) (by omega) (by rfl) (by decide) ?_
      refine a_aload_n dX8_count_108 rfl rfl ?_
      refine a_getF (d := 15) fX8_23 k0 rfl r0_5 dX8_count_109 ?_
      refine a_getI (J := 0) fX8_223 k15 rfl rfl dX8_count_112 ?_
      exact a_iret rfl ⟨by unfold cCount; grind (splits := 14), rfl⟩ dX8_count_115
    · subst hw
      refine a_tabIn (tgt := 116) dX8_count_1 (inR_of (by omega) (by omega)) (by omega) (by omega) (by rfl) (by decide) ?_
      refine a_aload_n dX8_count_116 rfl rfl ?_
      refine a_getI (J := 14) fX8_87 k0 rfl rfl dX8_count_117 ?_
      exact a_iret rfl ⟨by unfold cCount; grind (splits := 14), rfl⟩ dX8_count_120
  · refine a_tabOut (tgt := 121) dX8_count_1 hwhat (by omega) (by decide) ?_
    refine a_iconst dX8_count_121 ?_
    exact a_iret rfl ⟨by unfold cCount; grind (splits := 14), rfl⟩ dX8_count_122

