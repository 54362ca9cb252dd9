/-! Legs of the class: what is read off them. -/
def onF_ (ρ : Sto) (P : List (Int × Int)) (l sum : Int) : Int := sum + (gN ρ 162 (lg P l).2 - gN ρ 161 (lg P l).1)
def onT (ρ : Sto) (P : List (Int × Int)) : Int := itr (onF_ ρ P) P.length 0 0
def rdF (P : List (Int × Int)) (l sum : Int) : Int := sum + ((lg P l).2 - (lg P l).1 + 1)
def rdT (P : List (Int × Int)) : Int := itr (rdF P) P.length 0 0
def wkF_ (ρ : Sto) (P : List (Int × Int)) (l : Int) (q : Int × Int) : Int × Int := (q.1 + gN ρ 155 (15 + 10 * q.2 + gN ρ 155 (115 + 5 * (lg P l).1 + 1)), gN ρ 155 (115 + 5 * (lg P l).2 + 2))
def wkR (ρ : Sto) (t : Int) (q : Int × Int) : Int := q.1 + gN ρ 155 (15 + 10 * q.2 + t)
def wkT (ρ : Sto) (P : List (Int × Int)) (s t : Int) : Int := wkR ρ t (itr (wkF_ ρ P) P.length 0 (0, s))
def skL (ρ : Sto) (P : List (Int × Int)) (l : Int) : Int := gN ρ 161 (lg P l).1 - gN ρ 162 (lg P (l - 1)).2 - btw ρ (lg P (l - 1)).2 (lg P l).1
def skF (ρ : Sto) (P : List (Int × Int)) (l least : Int) : Int := if skL ρ P l < least then skL ρ P l else least
def skT (ρ : Sto) (P : List (Int × Int)) : Int := itr (skF ρ P) (P.length - 1) 1 1000000
def aoP (ρ : Sto) (P : List (Int × Int)) (trip l : Int) : Bool := decide (gN ρ 155 (115 + 5 * (lg P l).1 + 0) = trip)
def bbP (ρ : Sto) (P : List (Int × Int)) (trip d l : Int) : Bool := decide (skL ρ P l + (if gN ρ 155 (115 + 5 * (lg P l).1 + 0) = trip then d else 0) - (if gN ρ 155 (115 + 5 * (lg P (l - 1)).2 + 0) = trip then d else 0) < 0)
def cnP (ρ : Sto) (i : Int) : Bool := decide (cnc ρ i)
def wyT (ρ : Sto) (P : List (Int × Int)) (l s : Int) : Int := if l = 0 then gN ρ 155 (15 + 10 * s + gN ρ 155 (115 + 5 * (lg P l).1 + 1)) else btw ρ (lg P (l - 1)).2 (lg P l).1
def spT (ρ : Sto) (P : List (Int × Int)) (l s m : Int) : Int := gN ρ 161 (lg P l).1 - (if l = 0 then m else gN ρ 162 (lg P (l - 1)).2) - wyT ρ P l s
theorem lg_rng {R : Int} {P : List (Int × Int)} (hP : ∀ q ∈ P, lgOK R q) {l : Int} (h0 : 0 ≤ l) (h1 : l < P.length) : 0 ≤ (lg P l).1 ∧ (lg P l).1 ≤ (lg P l).2 ∧ (lg P l).2 < R := by
  have hk : l.toNat < P.length := by omega
  have := hP (P[l.toNat]) (List.getElem_mem _)
  unfold lg
  rw [List.getD_eq_getElem?_getD, List.getElem?_eq_getElem hk]
  exact this
theorem sk_rng {ρ : Sto} (hW : WV ρ) {P : List (Int × Int)} (hP : ∀ q ∈ P, lgOK (gN ρ 155 3) q) {l : Int} (h0 : 1 ≤ l) (h1 : l < P.length) : -1005000 ≤ skL ρ P l ∧ skL ρ P l ≤ 5000 := by
  have a := lg_rng hP (l := l) (by omega) h1
  have b := lg_rng hP (l := l - 1) (by omega) (by omega)
  have hR := hW.R
  have c := hW.tm (lg P l).1 (by omega) (by omega)
  have d := hW.tm (lg P (l - 1)).2 (by omega) (by omega)
  have e := btw_rng hW.1 (i := (lg P (l - 1)).2) (k := (lg P l).1) (by omega) (by omega) (by omega) (by omega)
  unfold skL
  omega
theorem wy_rng {ρ : Sto} (hW : WV ρ) {P : List (Int × Int)} (hP : ∀ q ∈ P, lgOK (gN ρ 155 3) q) {l s : Int} (hs0 : 0 ≤ s) (hs1 : s < gN ρ 155 0) (h0 : 0 ≤ l) (h1 : l < P.length) : 0 ≤ wyT ρ P l s ∧ wyT ρ P l s ≤ 1000000 := by
  have a := lg_rng hP (l := l) h0 h1
  have hR := hW.R
  unfold wyT
  split
  · have r := hW.ride (lg P l).1 (by omega) (by omega)
    have w := hW.walk s _ hs0 hs1 r.2.1.1 r.2.1.2
    omega
  · have b := lg_rng hP (l := l - 1) (by omega) (by omega)
    exact btw_rng hW.1 (i := (lg P (l - 1)).2) (k := (lg P l).1) (by omega) (by omega) (by omega) (by omega)
theorem sp_rng {ρ : Sto} (hW : WV ρ) {P : List (Int × Int)} (hP : ∀ q ∈ P, lgOK (gN ρ 155 3) q) {l s m : Int} (hs0 : 0 ≤ s) (hs1 : s < gN ρ 155 0) (hm0 : 0 ≤ m) (hm1 : m ≤ 1000000) (h0 : 0 ≤ l) (h1 : l < P.length) : -2005000 ≤ spT ρ P l s m ∧ spT ρ P l s m ≤ 5000 := by
  have a := lg_rng hP (l := l) h0 h1
  have c := hW.tm (lg P l).1 (by omega) (by omega)
  have w := wy_rng hW hP hs0 hs1 h0 h1
  unfold spT
  split
  · omega
  · have b := lg_rng hP (l := l - 1) (by omega) (by omega)
    have d := hW.tm (lg P (l - 1)).2 (by omega) (by omega)
    omega

set_option maxRecDepth 20000 in
theorem c_rides_l (σ ρ : Sto) (N G : Nat) (hW : WV ρ) (hN : NetR σ N ρ) (hGk : Gok G) (P : List (Int × Int)) (hLg : LgR σ G P) (hP : ∀ q ∈ P, lgOK (gN ρ 155 3) q) (hPl : (P.length : Int) ≤ 6) (V : Int) : ∀ (n : Nat) (l : Int) (sum : Int), 0 ≤ l → l ≤ P.length → n = (P.length - l).toNat → V = itr (rdF P) n l sum → RunA mX1_rides (qI V σ) 4 [(2, ai l), (1, ai sum), (0, ar G)] [] σ := by
  have hNk := hN.k
  have hR := hW.R
  have hS := hW.S
  have hTr := hW.T
  intro n
  induction n with
  | zero =>
    intro l sum h0 h5 hn hE
    refine a_iload_n dX1_rides_4 rfl rfl ?_
    refine a_aload_n dX1_rides_5 rfl rfl ?_
    refine a_getI (J := 0) fX1_18 (kG hGk) rfl rfl dX1_rides_6 ?_
    refine a_topI (y := (P.length : Int)) hLg.1 ?_
    refine a_icmp_ge (tgt := 36) dX1_rides_9 (by decide) (inR_of (by omega) (by omega)) (inR_of (by omega) (by omega)) (fun c9 => ?_) (fun c9 => ?_)
    · refine a_iload_n dX1_rides_36 rfl rfl ?_
      exact a_iret rfl ⟨by rw [hE]; rfl, rfl⟩ dX1_rides_37
    · exfalso; omega
  | succ n ih =>
    intro l sum h0 h5 hn hE
    refine a_iload_n dX1_rides_4 rfl rfl ?_
    refine a_aload_n dX1_rides_5 rfl rfl ?_
    refine a_getI (J := 0) fX1_18 (kG hGk) rfl rfl dX1_rides_6 ?_
    refine a_topI (y := (P.length : Int)) hLg.1 ?_
    refine a_icmp_ge (tgt := 36) dX1_rides_9 (by decide) (inR_of (by omega) (by omega)) (inR_of (by omega) (by omega)) (fun c9 => ?_) (fun c9 => ?_)
    · exfalso; omega
    · refine a_iload_n dX1_rides_12 rfl rfl ?_
      refine a_aload_n dX1_rides_13 rfl rfl ?_
      refine a_getF (d := (G + 2)) fX1_15 (kG hGk) rfl (rG_2 hGk) dX1_rides_14 ?_
      refine a_iload_n dX1_rides_17 rfl rfl ?_
      refine a_ild (kG_2 hGk) (nG_2 hGk) (by omega) (by omega) dX1_rides_18 ?_
      refine a_topI (y := (lg P l).2) (hLg.at (by omega) (by omega)).2.1 ?_
      have hb34 := lg_rng hP (l := l) (by omega) (by omega)
      refine a_aload_n dX1_rides_19 rfl rfl ?_
      refine a_getF (d := (G + 1)) fX1_9 (kG hGk) rfl (rG_1 hGk) dX1_rides_20 ?_
      refine a_iload_n dX1_rides_23 rfl rfl ?_
      refine a_ild (kG_1 hGk) (nG_1 hGk) (by omega) (by omega) dX1_rides_24 ?_
      refine a_topI (y := (lg P l).1) (hLg.at (by omega) (by omega)).1 ?_
      refine a_isub dX1_rides_25 ?_
      refine a_iconst dX1_rides_26 ?_
      refine a_iadd dX1_rides_27 ?_
      refine a_iadd dX1_rides_28 ?_
      refine a_istore_n (ls' := [(1, ai (sum + ((lg P l).2 - ((lg P l).1) + 1))), (2, ai l), (0, ar G)]) dX1_rides_29 rfl (Nat.le_of_ble_eq_true rfl) rfl ?_
      refine a_iinc (y := l + 1) (ls' := [(2, ai (l + 1)), (1, ai (sum + ((lg P l).2 - ((lg P l).1) + 1))), (0, ar G)]) dX1_rides_30 rfl rfl (Nat.le_of_ble_eq_true rfl) rfl ?_
      refine a_goto (tgt := 4) dX1_rides_33 (by decide) ?_
      exact a_keep (by simp) (ih (l + 1) (sum + ((lg P l).2 - ((lg P l).1) + 1)) (by omega) (by omega) (by omega) (by rw [hE, itr_s]; rfl))

set_option maxRecDepth 20000 in
theorem c_rides (σ ρ : Sto) (N G : Nat) (hW : WV ρ) (hN : NetR σ N ρ) (hGk : Gok G) (P : List (Int × Int)) (hLg : LgR σ G P) (hP : ∀ q ∈ P, lgOK (gN ρ 155 3) q) (hPl : (P.length : Int) ≤ 6) : MetI mX1_rides [ar G] σ (rdT P) σ := by
  have hNk := hN.k
  have hR := hW.R
  have hS := hW.S
  have hTr := hW.T
  refine a_entry (by decide) (Nat.le_of_ble_eq_true rfl) ?_
  refine a_ls (ls' := [(0, ar G)]) rfl ?_
  refine a_iconst dX1_rides_0 ?_
  refine a_istore_n (ls' := [(1, ai 0), (0, ar G)]) dX1_rides_1 rfl (Nat.le_of_ble_eq_true rfl) rfl ?_
  refine a_iconst dX1_rides_2 ?_
  refine a_istore_n (ls' := [(2, ai 0), (1, ai 0), (0, ar G)]) dX1_rides_3 rfl (Nat.le_of_ble_eq_true rfl) rfl ?_
  exact a_keep (by simp) (c_rides_l σ ρ N G hW hN hGk P hLg hP hPl _ P.length 0 0 (by omega) (by omega) (by omega) rfl)

set_option maxRecDepth 20000 in
theorem c_minOn_l (σ ρ : Sto) (N T G : Nat) (hW : WV ρ) (hN : NetR σ N ρ) (hT : TmR σ N T ρ) (hGk : Gok G) (P : List (Int × Int)) (hLg : LgR σ G P) (hP : ∀ q ∈ P, lgOK (gN ρ 155 3) q) (hPl : (P.length : Int) ≤ 6) (V : Int) : ∀ (n : Nat) (l : Int) (sum : Int), 0 ≤ l → l ≤ P.length → n = (P.length - l).toNat → V = itr (onF_ ρ P) n l sum → RunA mX1_minutesOn (qI V σ) 4 [(3, ai l), (2, ai sum), (0, ar G), (1, ar T)] [] σ := by
  have hNk := hN.k
  have hR := hW.R
  have hS := hW.S
  have hTr := hW.T
  have hTk := hT.k
  intro n
  induction n with
  | zero =>
    intro l sum h0 h5 hn hE
    refine a_iload_n dX1_minutesOn_4 rfl rfl ?_
    refine a_aload_n dX1_minutesOn_5 rfl rfl ?_
    refine a_getI (J := 0) fX1_18 (kG hGk) rfl rfl dX1_minutesOn_6 ?_
    refine a_topI (y := (P.length : Int)) hLg.1 ?_
    refine a_icmp_ge (tgt := 44) dX1_minutesOn_9 (by decide) (inR_of (by omega) (by omega)) (inR_of (by omega) (by omega)) (fun c9 => ?_) (fun c9 => ?_)
    · refine a_iload_n dX1_minutesOn_44 rfl rfl ?_
      exact a_iret rfl ⟨by rw [hE]; rfl, rfl⟩ dX1_minutesOn_45
    · exfalso; omega
  | succ n ih =>
    intro l sum h0 h5 hn hE
    refine a_iload_n dX1_minutesOn_4 rfl rfl ?_
    refine a_aload_n dX1_minutesOn_5 rfl rfl ?_
    refine a_getI (J := 0) fX1_18 (kG hGk) rfl rfl dX1_minutesOn_6 ?_
    refine a_topI (y := (P.length : Int)) hLg.1 ?_
    refine a_icmp_ge (tgt := 44) dX1_minutesOn_9 (by decide) (inR_of (by omega) (by omega)) (inR_of (by omega) (by omega)) (fun c9 => ?_) (fun c9 => ?_)
    · exfalso; omega
    · refine a_iload_n dX1_minutesOn_12 rfl rfl ?_
      refine a_aload_n dX1_minutesOn_13 rfl rfl ?_
      refine a_getF (d := (T + 2)) fX1_29 (kT hTk) rfl (rT_4 hTk) dX1_minutesOn_14 ?_
      refine a_aload_n dX1_minutesOn_17 rfl rfl ?_
      refine a_getF (d := (G + 2)) fX1_15 (kG hGk) rfl (rG_2 hGk) dX1_minutesOn_18 ?_
      refine a_iload_n dX1_minutesOn_21 rfl rfl ?_
      refine a_ild (kG_2 hGk) (nG_2 hGk) (by omega) (by omega) dX1_minutesOn_22 ?_
      refine a_topI (y := (lg P l).2) (hLg.at (by omega) (by omega)).2.1 ?_
      have hb35 := lg_rng hP (l := l) (by omega) (by omega)
      refine a_ild (kT_2 hTk) (nT_2 hTk) (by omega) (by omega) dX1_minutesOn_23 ?_
      refine a_topI (y := gN ρ 162 ((lg P l).2)) (hT.cm (by omega) (by omega)) ?_
      have hb36 := hW.tm ((lg P l).2) (by omega) (by omega)
      refine a_aload_n dX1_minutesOn_24 rfl rfl ?_
      refine a_getF (d := (T + 1)) fX1_34 (kT hTk) rfl (rT_3 hTk) dX1_minutesOn_25 ?_
      refine a_aload_n dX1_minutesOn_28 rfl rfl ?_
      refine a_getF (d := (G + 1)) fX1_9 (kG hGk) rfl (rG_1 hGk) dX1_minutesOn_29 ?_
      refine a_iload_n dX1_minutesOn_32 rfl rfl ?_
      refine a_ild (kG_1 hGk) (nG_1 hGk) (by omega) (by omega) dX1_minutesOn_33 ?_
      refine a_topI (y := (lg P l).1) (hLg.at (by omega) (by omega)).1 ?_
      refine a_ild (kT_1 hTk) (nT_1 hTk) (by omega) (by omega) dX1_minutesOn_34 ?_
      refine a_topI (y := gN ρ 161 ((lg P l).1)) (hT.lv (by omega) (by omega)) ?_
      have hb37 := hW.tm ((lg P l).1) (by omega) (by omega)
      refine a_isub dX1_minutesOn_35 ?_
      refine a_iadd dX1_minutesOn_36 ?_
      refine a_istore_n (ls' := [(2, ai (sum + (gN ρ 162 ((lg P l).2) - (gN ρ 161 ((lg P l).1))))), (3, ai l), (0, ar G), (1, ar T)]) dX1_minutesOn_37 rfl (Nat.le_of_ble_eq_true rfl) rfl ?_
      refine a_iinc (y := l + 1) (ls' := [(3, ai (l + 1)), (2, ai (sum + (gN ρ 162 ((lg P l).2) - (gN ρ 161 ((lg P l).1))))), (0, ar G), (1, ar T)]) dX1_minutesOn_38 rfl rfl (Nat.le_of_ble_eq_true rfl) rfl ?_
      refine a_goto (tgt := 4) dX1_minutesOn_41 (by decide) ?_
      exact a_keep (by simp) (ih (l + 1) (sum + (gN ρ 162 ((lg P l).2) - (gN ρ 161 ((lg P l).1)))) (by omega) (by omega) (by omega) (by rw [hE, itr_s]; rfl))

set_option maxRecDepth 20000 in
theorem c_minutesOn (σ ρ : Sto) (N T G : Nat) (hW : WV ρ) (hN : NetR σ N ρ) (hT : TmR σ N T ρ) (hGk : Gok G) (P : List (Int × Int)) (hLg : LgR σ G P) (hP : ∀ q ∈ P, lgOK (gN ρ 155 3) q) (hPl : (P.length : Int) ≤ 6) : MetI mX1_minutesOn [ar G, ar T] σ (onT ρ P) σ := by
  have hNk := hN.k
  have hR := hW.R
  have hS := hW.S
  have hTr := hW.T
  have hTk := hT.k
  refine a_entry (by decide) (Nat.le_of_ble_eq_true rfl) ?_
  refine a_ls (ls' := [(0, ar G), (1, ar T)]) rfl ?_
  refine a_iconst dX1_minutesOn_0 ?_
  refine a_istore_n (ls' := [(2, ai 0), (0, ar G), (1, ar T)]) dX1_minutesOn_1 rfl (Nat.le_of_ble_eq_true rfl) rfl ?_
  refine a_iconst dX1_minutesOn_2 ?_
  refine a_istore_n (ls' := [(3, ai 0), (2, ai 0), (0, ar G), (1, ar T)]) dX1_minutesOn_3 rfl (Nat.le_of_ble_eq_true rfl) rfl ?_
  exact a_keep (by simp) (c_minOn_l σ ρ N T G hW hN hT hGk P hLg hP hPl _ P.length 0 0 (by omega) (by omega) (by omega) rfl)

set_option maxRecDepth 20000 in
theorem c_minWk_l (σ ρ : Sto) (N G : Nat) (hW : WV ρ) (hN : NetR σ N ρ) (hGk : Gok G) (P : List (Int × Int)) (hLg : LgR σ G P) (hP : ∀ q ∈ P, lgOK (gN ρ 155 3) q) (hPl : (P.length : Int) ≤ 6) (s t : Int) (ht0 : 0 ≤ t) (ht1 : t < gN ρ 155 0) (V : Int) : ∀ (n : Nat) (l : Int) (sum : Int) (stop : Int), 0 ≤ l → l ≤ P.length → n = (P.length - l).toNat → 0 ≤ stop → stop < gN ρ 155 0 → V = wkR ρ t (itr (wkF_ ρ P) n l (sum, stop)) → RunA mX1_minutesWalked (qI V σ) 9 [(6, ai l), (5, ai stop), (4, ai sum), (0, ar G), (1, ar N), (2, ai s), (3, ai t)] [] σ := by
  have hNk := hN.k
  have hR := hW.R
  have hS := hW.S
  have hTr := hW.T
  intro n
  induction n with
  | zero =>
    intro l sum stop h0 h5 hn hs0 hs1 hE
    refine a_iload dX1_minutesWalked_9 rfl ?_
    refine a_aload_n dX1_minutesWalked_11 rfl rfl ?_
    refine a_getI (J := 0) fX1_18 (kG hGk) rfl rfl dX1_minutesWalked_12 ?_
    refine a_topI (y := (P.length : Int)) hLg.1 ?_
    refine a_icmp_ge (tgt := 63) dX1_minutesWalked_15 (by decide) (inR_of (by omega) (by omega)) (inR_of (by omega) (by omega)) (fun c15 => ?_) (fun c15 => ?_)
    · refine a_iload dX1_minutesWalked_63 rfl ?_
      refine a_aload_n dX1_minutesWalked_65 rfl rfl ?_
      refine a_getF (d := (N + 3)) fX1_37 (kN hNk) rfl (rN_6 hNk) dX1_minutesWalked_66 ?_
      refine a_iload dX1_minutesWalked_69 rfl ?_
      refine a_ald (d := (N + 11 + stop.toNat)) (kN_3 hNk) (nN_3 hNk) (by omega) (by omega) (rowN_w hNk (by omega) (by omega)) dX1_minutesWalked_71 ?_
      refine a_iload_n dX1_minutesWalked_72 rfl rfl ?_
      refine a_ild (kNw hNk (by omega) (by omega)) (nNw hNk (by omega) (by omega)) (by omega) (by omega) dX1_minutesWalked_73 ?_
      refine a_topI (y := gN ρ 155 (15 + 10 * stop + t)) (hN.wk (by omega) (by omega) (by omega) (by omega)) ?_
      have hb38 := hW.walk stop t (by omega) (by omega) (by omega) (by omega)
      refine a_iadd dX1_minutesWalked_74 ?_
      exact a_iret rfl ⟨by rw [hE]; rfl, rfl⟩ dX1_minutesWalked_75
    · exfalso; omega
  | succ n ih =>
    intro l sum stop h0 h5 hn hs0 hs1 hE
    refine a_iload dX1_minutesWalked_9 rfl ?_
    refine a_aload_n dX1_minutesWalked_11 rfl rfl ?_
    refine a_getI (J := 0) fX1_18 (kG hGk) rfl rfl dX1_minutesWalked_12 ?_
    refine a_topI (y := (P.length : Int)) hLg.1 ?_
    refine a_icmp_ge (tgt := 63) dX1_minutesWalked_15 (by decide) (inR_of (by omega) (by omega)) (inR_of (by omega) (by omega)) (fun c15 => ?_) (fun c15 => ?_)
    · exfalso; omega
    · refine a_iload dX1_minutesWalked_18 rfl ?_
      refine a_aload_n dX1_minutesWalked_20 rfl rfl ?_
      refine a_getF (d := (N + 3)) fX1_37 (kN hNk) rfl (rN_6 hNk) dX1_minutesWalked_21 ?_
      refine a_iload dX1_minutesWalked_24 rfl ?_
      refine a_ald (d := (N + 11 + stop.toNat)) (kN_3 hNk) (nN_3 hNk) (by omega) (by omega) (rowN_w hNk (by omega) (by omega)) dX1_minutesWalked_26 ?_
      refine a_aload_n dX1_minutesWalked_27 rfl rfl ?_
      refine a_getF (d := (N + 7)) fX1_43 (kN hNk) rfl (rN_10 hNk) dX1_minutesWalked_28 ?_
      refine a_aload_n dX1_minutesWalked_31 rfl rfl ?_
      refine a_getF (d := (G + 1)) fX1_9 (kG hGk) rfl (rG_1 hGk) dX1_minutesWalked_32 ?_
      refine a_iload dX1_minutesWalked_35 rfl ?_
      refine a_ild (kG_1 hGk) (nG_1 hGk) (by omega) (by omega) dX1_minutesWalked_37 ?_
      refine a_topI (y := (lg P l).1) (hLg.at (by omega) (by omega)).1 ?_
      have hb39 := lg_rng hP (l := l) (by omega) (by omega)
      refine a_ild (kN_7 hNk) (nN_7 hNk) (by omega) (by omega) dX1_minutesWalked_38 ?_
      refine a_topI (y := gN ρ 155 (115 + 5 * ((lg P l).1) + 1)) (hN.r1 (by omega) (by omega)) ?_
      have hb40 := hW.ride ((lg P l).1) (by omega) (by omega)
      refine a_ild (kNw hNk (by omega) (by omega)) (nNw hNk (by omega) (by omega)) (by omega) (by omega) dX1_minutesWalked_39 ?_
      refine a_topI (y := gN ρ 155 (15 + 10 * stop + (gN ρ 155 (115 + 5 * ((lg P l).1) + 1)))) (hN.wk (by omega) (by omega) (by omega) (by omega)) ?_
      have hb41 := hW.walk stop (gN ρ 155 (115 + 5 * ((lg P l).1) + 1)) (by omega) (by omega) (by omega) (by omega)
      refine a_iadd dX1_minutesWalked_40 ?_
      refine a_istore (ls' := [(4, ai (sum + (gN ρ 155 (15 + 10 * stop + (gN ρ 155 (115 + 5 * ((lg P l).1) + 1)))))), (6, ai l), (5, ai stop), (0, ar G), (1, ar N), (2, ai s), (3, ai t)]) dX1_minutesWalked_41 (Nat.le_of_ble_eq_true rfl) rfl ?_
      refine a_aload_n dX1_minutesWalked_43 rfl rfl ?_
      refine a_getF (d := (N + 8)) fX1_46 (kN hNk) rfl (rN_11 hNk) dX1_minutesWalked_44 ?_
      refine a_aload_n dX1_minutesWalked_47 rfl rfl ?_
      refine a_getF (d := (G + 2)) fX1_15 (kG hGk) rfl (rG_2 hGk) dX1_minutesWalked_48 ?_
      refine a_iload dX1_minutesWalked_51 rfl ?_
      refine a_ild (kG_2 hGk) (nG_2 hGk) (by omega) (by omega) dX1_minutesWalked_53 ?_
      refine a_topI (y := (lg P l).2) (hLg.at (by omega) (by omega)).2.1 ?_
      refine a_ild (kN_8 hNk) (nN_8 hNk) (by omega) (by omega) dX1_minutesWalked_54 ?_
      refine a_topI (y := gN ρ 155 (115 + 5 * ((lg P l).2) + 2)) (hN.r2 (by omega) (by omega)) ?_
      have hb42 := hW.ride ((lg P l).2) (by omega) (by omega)
      refine a_istore (ls' := [(5, ai (gN ρ 155 (115 + 5 * ((lg P l).2) + 2))), (4, ai (sum + (gN ρ 155 (15 + 10 * stop + (gN ρ 155 (115 + 5 * ((lg P l).1) + 1)))))), (6, ai l), (0, ar G), (1, ar N), (2, ai s), (3, ai t)]) dX1_minutesWalked_55 (Nat.le_of_ble_eq_true rfl) rfl ?_
      refine a_iinc (y := l + 1) (ls' := [(6, ai (l + 1)), (5, ai (gN ρ 155 (115 + 5 * ((lg P l).2) + 2))), (4, ai (sum + (gN ρ 155 (15 + 10 * stop + (gN ρ 155 (115 + 5 * ((lg P l).1) + 1)))))), (0, ar G), (1, ar N), (2, ai s), (3, ai t)]) dX1_minutesWalked_57 rfl rfl (Nat.le_of_ble_eq_true rfl) rfl ?_
      refine a_goto (tgt := 9) dX1_minutesWalked_60 (by decide) ?_
      exact a_keep (by simp) (ih (l + 1) (sum + (gN ρ 155 (15 + 10 * stop + (gN ρ 155 (115 + 5 * ((lg P l).1) + 1))))) (gN ρ 155 (115 + 5 * ((lg P l).2) + 2)) (by omega) (by omega) (by omega) (by omega) (by omega) (by rw [hE, itr_s]; rfl))

set_option maxRecDepth 20000 in
theorem c_minutesWalked (σ ρ : Sto) (N G : Nat) (hW : WV ρ) (hN : NetR σ N ρ) (hGk : Gok G) (P : List (Int × Int)) (hLg : LgR σ G P) (hP : ∀ q ∈ P, lgOK (gN ρ 155 3) q) (hPl : (P.length : Int) ≤ 6) (s t : Int) (ht0 : 0 ≤ t) (ht1 : t < gN ρ 155 0) (hs0 : 0 ≤ s) (hs1 : s < gN ρ 155 0) : MetI mX1_minutesWalked [ar G, ar N, ai s, ai t] σ (wkT ρ P s t) σ := by
  have hNk := hN.k
  have hR := hW.R
  have hS := hW.S
  have hTr := hW.T
  refine a_entry (by decide) (Nat.le_of_ble_eq_true rfl) ?_
  refine a_ls (ls' := [(0, ar G), (1, ar N), (2, ai s), (3, ai t)]) rfl ?_
  refine a_iconst dX1_minutesWalked_0 ?_
  refine a_istore (ls' := [(4, ai 0), (0, ar G), (1, ar N), (2, ai s), (3, ai t)]) dX1_minutesWalked_1 (Nat.le_of_ble_eq_true rfl) rfl ?_
  refine a_iload_n dX1_minutesWalked_3 rfl rfl ?_
  refine a_istore (ls' := [(5, ai s), (4, ai 0), (0, ar G), (1, ar N), (2, ai s), (3, ai t)]) dX1_minutesWalked_4 (Nat.le_of_ble_eq_true rfl) rfl ?_
  refine a_iconst dX1_minutesWalked_6 ?_
  refine a_istore (ls' := [(6, ai 0), (5, ai s), (4, ai 0), (0, ar G), (1, ar N), (2, ai s), (3, ai t)]) dX1_minutesWalked_7 (Nat.le_of_ble_eq_true rfl) rfl ?_
  exact a_keep (by simp) (c_minWk_l σ ρ N G hW hN hGk P hLg hP hPl s t ht0 ht1 _ P.length 0 0 s (by omega) (by omega) (by omega) hs0 hs1 rfl)

set_option maxRecDepth 20000 in
theorem c_leastS_l (σ ρ : Sto) (N T G : Nat) (hW : WV ρ) (hN : NetR σ N ρ) (hT : TmR σ N T ρ) (hGk : Gok G) (P : List (Int × Int)) (hLg : LgR σ G P) (hP : ∀ q ∈ P, lgOK (gN ρ 155 3) q) (hPl : (P.length : Int) ≤ 6) (V : Int) : ∀ (n : Nat) (l : Int) (least : Int), 1 ≤ l → l ≤ 7 → n = (P.length - l).toNat → -2000000 ≤ least → least ≤ 1000000 → V = itr (skF ρ P) n l least → RunA mX1_leastSlack (qI V σ) 5 [(3, ai l), (2, ai least), (0, ar G), (1, ar T)] [] σ := by
  have hNk := hN.k
  have hR := hW.R
  have hS := hW.S
  have hTr := hW.T
  have hTk := hT.k
  intro n
  induction n with
  | zero =>
    intro l least h0 h5 hn hb0 hb1 hE
    refine a_iload_n dX1_leastSlack_5 rfl rfl ?_
    refine a_aload_n dX1_leastSlack_6 rfl rfl ?_
    refine a_getI (J := 0) fX1_18 (kG hGk) rfl rfl dX1_leastSlack_7 ?_
    refine a_topI (y := (P.length : Int)) hLg.1 ?_
    refine a_icmp_ge (tgt := 42) dX1_leastSlack_10 (by decide) (inR_of (by omega) (by omega)) (inR_of (by omega) (by omega)) (fun c10 => ?_) (fun c10 => ?_)
    · refine a_iload_n dX1_leastSlack_42 rfl rfl ?_
      exact a_iret rfl ⟨by rw [hE]; rfl, rfl⟩ dX1_leastSlack_43
    · exfalso; omega
  | succ n ih =>
    intro l least h0 h5 hn hb0 hb1 hE
    refine a_iload_n dX1_leastSlack_5 rfl rfl ?_
    refine a_aload_n dX1_leastSlack_6 rfl rfl ?_
    refine a_getI (J := 0) fX1_18 (kG hGk) rfl rfl dX1_leastSlack_7 ?_
    refine a_topI (y := (P.length : Int)) hLg.1 ?_
    refine a_icmp_ge (tgt := 42) dX1_leastSlack_10 (by decide) (inR_of (by omega) (by omega)) (inR_of (by omega) (by omega)) (fun c10 => ?_) (fun c10 => ?_)
    · exfalso; omega
    · refine a_iload_n dX1_leastSlack_13 rfl rfl ?_
      refine a_aload_n dX1_leastSlack_14 rfl rfl ?_
      refine a_aload_n dX1_leastSlack_15 rfl rfl ?_
      refine a_getF (d := (G + 2)) fX1_15 (kG hGk) rfl (rG_2 hGk) dX1_leastSlack_16 ?_
      refine a_iload_n dX1_leastSlack_19 rfl rfl ?_
      refine a_iconst dX1_leastSlack_20 ?_
      refine a_isub dX1_leastSlack_21 ?_
      refine a_ild (kG_2 hGk) (nG_2 hGk) (by omega) (by omega) dX1_leastSlack_22 ?_
      refine a_topI (y := (lg P (l - 1)).2) (hLg.at (by omega) (by omega)).2.1 ?_
      have hb43 := lg_rng hP (l := (l - 1)) (by omega) (by omega)
      refine a_aload_n dX1_leastSlack_23 rfl rfl ?_
      refine a_getF (d := (G + 1)) fX1_9 (kG hGk) rfl (rG_1 hGk) dX1_leastSlack_24 ?_
      refine a_iload_n dX1_leastSlack_27 rfl rfl ?_
      refine a_ild (kG_1 hGk) (nG_1 hGk) (by omega) (by omega) dX1_leastSlack_28 ?_
      refine a_topI (y := (lg P l).1) (hLg.at (by omega) (by omega)).1 ?_
      have hb44 := lg_rng hP (l := l) (by omega) (by omega)
      refine a_cI (c := T) (as := [ai ((lg P (l - 1)).2), ai ((lg P l).1)]) (rest := [ai least]) (c_slackOf σ ρ N T hW hN hT ((lg P (l - 1)).2) ((lg P l).1) (by omega) (by omega) (by omega) (by omega)) mvX6_slackOf lX1_50 (kT hTk) (by decide) rfl rfl rfl rfl (Nat.le_of_ble_eq_true rfl) (Nat.le_of_ble_eq_true rfl) (Nat.le_of_ble_eq_true rfl) dX1_leastSlack_29 ?_
      have hsk := sk_rng hW hP (l := l) (by omega) (by omega)
      refine a_topI (y := skL ρ P l) rfl ?_
      refine a_mmin lm1_54 (inR_of (by omega) (by omega)) (inR_of (by omega) (by omega)) (Nat.le_of_ble_eq_true rfl) (Nat.le_of_ble_eq_true rfl) (Nat.le_of_ble_eq_true rfl) dX1_leastSlack_32 ?_
      refine a_istore_n (ls' := [(2, ai (if skL ρ P l < least then skL ρ P l else least)), (3, ai l), (0, ar G), (1, ar T)]) dX1_leastSlack_35 rfl (Nat.le_of_ble_eq_true rfl) rfl ?_
      refine a_iinc (y := l + 1) (ls' := [(3, ai (l + 1)), (2, ai (if skL ρ P l < least then skL ρ P l else least)), (0, ar G), (1, ar T)]) dX1_leastSlack_36 rfl rfl (Nat.le_of_ble_eq_true rfl) rfl ?_
      refine a_goto (tgt := 5) dX1_leastSlack_39 (by decide) ?_
      have e : skF ρ P l least = if skL ρ P l < least then skL ρ P l else least := rfl
      exact a_keep (by simp) (ih (l + 1) (if skL ρ P l < least then skL ρ P l else least) (by omega) (by omega) (by omega) (by split <;> omega) (by split <;> omega) (by rw [hE, itr_s, e]))

set_option maxRecDepth 20000 in
theorem c_leastSlack (σ ρ : Sto) (N T G : Nat) (hW : WV ρ) (hN : NetR σ N ρ) (hT : TmR σ N T ρ) (hGk : Gok G) (P : List (Int × Int)) (hLg : LgR σ G P) (hP : ∀ q ∈ P, lgOK (gN ρ 155 3) q) (hPl : (P.length : Int) ≤ 6) : MetI mX1_leastSlack [ar G, ar T] σ (skT ρ P) σ := by
  have hNk := hN.k
  have hR := hW.R
  have hS := hW.S
  have hTr := hW.T
  have hTk := hT.k
  refine a_entry (by decide) (Nat.le_of_ble_eq_true rfl) ?_
  refine a_ls (ls' := [(0, ar G), (1, ar T)]) rfl ?_
  refine a_ldc (x := 1000000) cX1_49 (by decide) dX1_leastSlack_0 ?_
  refine a_istore_n (ls' := [(2, ai 1000000), (0, ar G), (1, ar T)]) dX1_leastSlack_2 rfl (Nat.le_of_ble_eq_true rfl) rfl ?_
  refine a_iconst dX1_leastSlack_3 ?_
  refine a_istore_n (ls' := [(3, ai 1), (2, ai 1000000), (0, ar G), (1, ar T)]) dX1_leastSlack_4 rfl (Nat.le_of_ble_eq_true rfl) rfl ?_
  exact a_keep (by simp) (c_leastS_l σ ρ N T G hW hN hT hGk P hLg hP hPl _ (P.length - 1) 1 1000000 (by omega) (by omega) (by omega) (by omega) (by omega) rfl)

theorem anyZ_s1 {p : Int → Bool} {n : Nat} {k : Int} (h : p k = true) : anyZ p (n + 1) k = true := by unfold anyZ; rw [h]; rfl
theorem anyZ_s0 {p : Int → Bool} {n : Nat} {k : Int} (h : p k = false) : anyZ p (n + 1) k = anyZ p n (k + 1) := by
  show (p k || anyZ p n (k + 1)) = _
  rw [h]; rfl

set_option maxRecDepth 20000 in
theorem c_areOn_l (σ ρ : Sto) (N G : Nat) (hW : WV ρ) (hN : NetR σ N ρ) (hGk : Gok G) (P : List (Int × Int)) (hLg : LgR σ G P) (hP : ∀ q ∈ P, lgOK (gN ρ 155 3) q) (hPl : (P.length : Int) ≤ 6) (trip : Int) (htr : inR trip) (V : Bool) : ∀ (n : Nat) (l : Int), 0 ≤ l → l ≤ P.length → n = (P.length - l).toNat → V = anyZ (aoP ρ P trip) n l → RunA mX1_areOn (qI (if V = true then 1 else 0) σ) 2 [(3, ai l), (0, ar G), (1, ar N), (2, ai trip)] [] σ := by
  have hNk := hN.k
  have hR := hW.R
  have hS := hW.S
  have hTr := hW.T
  intro n
  induction n with
  | zero =>
    intro l h0 h5 hn hE
    refine a_iload_n dX1_areOn_2 rfl rfl ?_
    refine a_aload_n dX1_areOn_3 rfl rfl ?_
    refine a_getI (J := 0) fX1_18 (kG hGk) rfl rfl dX1_areOn_4 ?_
    refine a_topI (y := (P.length : Int)) hLg.1 ?_
    refine a_icmp_ge (tgt := 33) dX1_areOn_7 (by decide) (inR_of (by omega) (by omega)) (inR_of (by omega) (by omega)) (fun c7 => ?_) (fun c7 => ?_)
    · refine a_iconst dX1_areOn_33 ?_
      exact a_zret rfl (by omega) ⟨by rw [hE]; rfl, rfl⟩ dX1_areOn_34
    · exfalso; omega
  | succ n ih =>
    intro l h0 h5 hn hE
    refine a_iload_n dX1_areOn_2 rfl rfl ?_
    refine a_aload_n dX1_areOn_3 rfl rfl ?_
    refine a_getI (J := 0) fX1_18 (kG hGk) rfl rfl dX1_areOn_4 ?_
    refine a_topI (y := (P.length : Int)) hLg.1 ?_
    refine a_icmp_ge (tgt := 33) dX1_areOn_7 (by decide) (inR_of (by omega) (by omega)) (inR_of (by omega) (by omega)) (fun c7 => ?_) (fun c7 => ?_)
    · exfalso; omega
    · refine a_aload_n dX1_areOn_10 rfl rfl ?_
      refine a_getF (d := (N + 6)) fX1_59 (kN hNk) rfl (rN_9 hNk) dX1_areOn_11 ?_
      refine a_aload_n dX1_areOn_14 rfl rfl ?_
      refine a_getF (d := (G + 1)) fX1_9 (kG hGk) rfl (rG_1 hGk) dX1_areOn_15 ?_
      refine a_iload_n dX1_areOn_18 rfl rfl ?_
      refine a_ild (kG_1 hGk) (nG_1 hGk) (by omega) (by omega) dX1_areOn_19 ?_
      refine a_topI (y := (lg P l).1) (hLg.at (by omega) (by omega)).1 ?_
      have hb45 := lg_rng hP (l := l) (by omega) (by omega)
      refine a_ild (kN_6 hNk) (nN_6 hNk) (by omega) (by omega) dX1_areOn_20 ?_
      refine a_topI (y := gN ρ 155 (115 + 5 * ((lg P l).1) + 0)) (hN.r0 (by omega) (by omega)) ?_
      have hb46 := hW.ride ((lg P l).1) (by omega) (by omega)
      refine a_iload_n dX1_areOn_21 rfl rfl ?_
      refine a_icmp_ne (tgt := 27) dX1_areOn_22 (by decide) (inR_gN _ _ _) htr (fun c22 => ?_) (fun c22 => ?_)
      · refine a_iinc (y := l + 1) (ls' := [(3, ai (l + 1)), (0, ar G), (1, ar N), (2, ai trip)]) dX1_areOn_27 rfl rfl (Nat.le_of_ble_eq_true rfl) rfl ?_
        refine a_goto (tgt := 2) dX1_areOn_30 (by decide) ?_
        exact a_keep (by simp) (ih (l + 1) (by omega) (by omega) (by omega) (by rw [hE, anyZ_s0 (decide_eq_false (by omega))]))
      · refine a_iconst dX1_areOn_25 ?_
        exact a_zret rfl (by omega) ⟨by rw [hE, anyZ_s1 (decide_eq_true (by omega))]; rfl, rfl⟩ dX1_areOn_26

set_option maxRecDepth 20000 in
theorem c_areOn (σ ρ : Sto) (N G : Nat) (hW : WV ρ) (hN : NetR σ N ρ) (hGk : Gok G) (P : List (Int × Int)) (hLg : LgR σ G P) (hP : ∀ q ∈ P, lgOK (gN ρ 155 3) q) (hPl : (P.length : Int) ≤ 6) (trip : Int) (htr : inR trip) : MetI mX1_areOn [ar G, ar N, ai trip] σ (if anyZ (aoP ρ P trip) P.length 0 = true then 1 else 0) σ := by
  have hNk := hN.k
  have hR := hW.R
  have hS := hW.S
  have hTr := hW.T
  refine a_entry (by decide) (Nat.le_of_ble_eq_true rfl) ?_
  refine a_ls (ls' := [(0, ar G), (1, ar N), (2, ai trip)]) rfl ?_
  refine a_iconst dX1_areOn_0 ?_
  refine a_istore_n (ls' := [(3, ai 0), (0, ar G), (1, ar N), (2, ai trip)]) dX1_areOn_1 rfl (Nat.le_of_ble_eq_true rfl) rfl ?_
  exact a_keep (by simp) (c_areOn_l σ ρ N G hW hN hGk P hLg hP hPl trip htr _ P.length 0 (by omega) (by omega) (by omega) rfl)

set_option maxRecDepth 20000 in
theorem c_brB_l (σ ρ : Sto) (N T G : Nat) (hW : WV ρ) (hN : NetR σ N ρ) (hT : TmR σ N T ρ) (hGk : Gok G) (P : List (Int × Int)) (hLg : LgR σ G P) (hP : ∀ q ∈ P, lgOK (gN ρ 155 3) q) (hPl : (P.length : Int) ≤ 6) (trip d : Int) (htr : inR trip) (hd0 : 0 ≤ d) (hd1 : d ≤ 240) (V : Bool) : ∀ (n : Nat) (l : Int), 1 ≤ l → l ≤ 7 → n = (P.length - l).toNat → V = anyZ (bbP ρ P trip d) n l → RunA mX1_brokenBy (qI (if V = true then 1 else 0) σ) 3 [(4, ai l), (0, ar G), (1, ar T), (2, ai trip), (3, ai d)] [] σ := by
  have hNk := hN.k
  have hR := hW.R
  have hS := hW.S
  have hTr := hW.T
  have hTk := hT.k
  intro n
  induction n with
  | zero =>
    intro l h0 h5 hn hE
    refine a_iload dX1_brokenBy_3 rfl ?_
    refine a_aload_n dX1_brokenBy_5 rfl rfl ?_
    refine a_getI (J := 0) fX1_18 (kG hGk) rfl rfl dX1_brokenBy_6 ?_
    refine a_topI (y := (P.length : Int)) hLg.1 ?_
    refine a_icmp_ge (tgt := 99) dX1_brokenBy_9 (by decide) (inR_of (by omega) (by omega)) (inR_of (by omega) (by omega)) (fun c9 => ?_) (fun c9 => ?_)
    · refine a_iconst dX1_brokenBy_99 ?_
      exact a_zret rfl (by omega) ⟨by rw [hE]; rfl, rfl⟩ dX1_brokenBy_100
    · exfalso; omega
  | succ n ih =>
    intro l h0 h5 hn hE
    refine a_iload dX1_brokenBy_3 rfl ?_
    refine a_aload_n dX1_brokenBy_5 rfl rfl ?_
    refine a_getI (J := 0) fX1_18 (kG hGk) rfl rfl dX1_brokenBy_6 ?_
    refine a_topI (y := (P.length : Int)) hLg.1 ?_
    refine a_icmp_ge (tgt := 99) dX1_brokenBy_9 (by decide) (inR_of (by omega) (by omega)) (inR_of (by omega) (by omega)) (fun c9 => ?_) (fun c9 => ?_)
    · exfalso; omega
    · refine a_aload_n dX1_brokenBy_12 rfl rfl ?_
      refine a_aload_n dX1_brokenBy_13 rfl rfl ?_
      refine a_getF (d := (G + 2)) fX1_15 (kG hGk) rfl (rG_2 hGk) dX1_brokenBy_14 ?_
      refine a_iload dX1_brokenBy_17 rfl ?_
      refine a_iconst dX1_brokenBy_19 ?_
      refine a_isub dX1_brokenBy_20 ?_
      refine a_ild (kG_2 hGk) (nG_2 hGk) (by omega) (by omega) dX1_brokenBy_21 ?_
      refine a_topI (y := (lg P (l - 1)).2) (hLg.at (by omega) (by omega)).2.1 ?_
      have hb47 := lg_rng hP (l := (l - 1)) (by omega) (by omega)
      refine a_aload_n dX1_brokenBy_22 rfl rfl ?_
      refine a_getF (d := (G + 1)) fX1_9 (kG hGk) rfl (rG_1 hGk) dX1_brokenBy_23 ?_
      refine a_iload dX1_brokenBy_26 rfl ?_
      refine a_ild (kG_1 hGk) (nG_1 hGk) (by omega) (by omega) dX1_brokenBy_28 ?_
      refine a_topI (y := (lg P l).1) (hLg.at (by omega) (by omega)).1 ?_
      have hb48 := lg_rng hP (l := l) (by omega) (by omega)
      refine a_cI (c := T) (as := [ai ((lg P (l - 1)).2), ai ((lg P l).1)]) (rest := []) (c_slackOf σ ρ N T hW hN hT ((lg P (l - 1)).2) ((lg P l).1) (by omega) (by omega) (by omega) (by omega)) mvX6_slackOf lX1_50 (kT hTk) (by decide) rfl rfl rfl rfl (Nat.le_of_ble_eq_true rfl) (Nat.le_of_ble_eq_true rfl) (Nat.le_of_ble_eq_true rfl) dX1_brokenBy_29 ?_
      have hsk := sk_rng hW hP (l := l) (by omega) (by omega)
      refine a_topI (y := skL ρ P l) rfl ?_
      refine a_istore (ls' := [(5, ai (skL ρ P l)), (4, ai l), (0, ar G), (1, ar T), (2, ai trip), (3, ai d)]) dX1_brokenBy_32 (Nat.le_of_ble_eq_true rfl) rfl ?_
      refine a_aload_n dX1_brokenBy_34 rfl rfl ?_
      refine a_getR (d := N) (J := 0) fX1_62 (kT hTk) rfl (rT_0 hTk) rfl hT.net dX1_brokenBy_35 ?_
      refine a_getF (d := (N + 6)) fX1_59 (kN hNk) rfl (rN_9 hNk) dX1_brokenBy_38 ?_
      refine a_aload_n dX1_brokenBy_41 rfl rfl ?_
      refine a_getF (d := (G + 1)) fX1_9 (kG hGk) rfl (rG_1 hGk) dX1_brokenBy_42 ?_
      refine a_iload dX1_brokenBy_45 rfl ?_
      refine a_ild (kG_1 hGk) (nG_1 hGk) (by omega) (by omega) dX1_brokenBy_47 ?_
      refine a_topI (y := (lg P l).1) (hLg.at (by omega) (by omega)).1 ?_
      refine a_ild (kN_6 hNk) (nN_6 hNk) (by omega) (by omega) dX1_brokenBy_48 ?_
      refine a_topI (y := gN ρ 155 (115 + 5 * ((lg P l).1) + 0)) (hN.r0 (by omega) (by omega)) ?_
      have hb49 := hW.ride ((lg P l).1) (by omega) (by omega)
      refine a_iload_n dX1_brokenBy_49 rfl rfl ?_
      refine a_icmp_ne (tgt := 59) dX1_brokenBy_50 (by decide) (inR_gN _ _ _) htr (fun c50 => ?_) (fun c50 => ?_)
      · refine a_aload_n dX1_brokenBy_59 rfl rfl ?_
        refine a_getR (d := N) (J := 0) fX1_62 (kT hTk) rfl (rT_0 hTk) rfl hT.net dX1_brokenBy_60 ?_
        refine a_getF (d := (N + 6)) fX1_59 (kN hNk) rfl (rN_9 hNk) dX1_brokenBy_63 ?_
        refine a_aload_n dX1_brokenBy_66 rfl rfl ?_
        refine a_getF (d := (G + 2)) fX1_15 (kG hGk) rfl (rG_2 hGk) dX1_brokenBy_67 ?_
        refine a_iload dX1_brokenBy_70 rfl ?_
        refine a_iconst dX1_brokenBy_72 ?_
        refine a_isub dX1_brokenBy_73 ?_
        refine a_ild (kG_2 hGk) (nG_2 hGk) (by omega) (by omega) dX1_brokenBy_74 ?_
        refine a_topI (y := (lg P (l - 1)).2) (hLg.at (by omega) (by omega)).2.1 ?_
        refine a_ild (kN_6 hNk) (nN_6 hNk) (by omega) (by omega) dX1_brokenBy_75 ?_
        refine a_topI (y := gN ρ 155 (115 + 5 * ((lg P (l - 1)).2) + 0)) (hN.r0 (by omega) (by omega)) ?_
        have hb50 := hW.ride ((lg P (l - 1)).2) (by omega) (by omega)
        refine a_iload_n dX1_brokenBy_76 rfl rfl ?_
        refine a_icmp_ne (tgt := 86) dX1_brokenBy_77 (by decide) (inR_gN _ _ _) htr (fun c77 => ?_) (fun c77 => ?_)
        · refine a_iload dX1_brokenBy_86 rfl ?_
          refine a_if_ge (tgt := 93) dX1_brokenBy_88 (by decide) (inR_of (by omega) (by omega)) (fun c88 => ?_) (fun c88 => ?_)
          · refine a_iinc (y := l + 1) (ls' := [(4, ai (l + 1)), (5, ai (skL ρ P l)), (0, ar G), (1, ar T), (2, ai trip), (3, ai d)]) dX1_brokenBy_93 rfl rfl (Nat.le_of_ble_eq_true rfl) rfl ?_
            refine a_goto (tgt := 3) dX1_brokenBy_96 (by decide) ?_
            exact a_keep (by simp) (ih (l + 1) (by omega) (by omega) (by omega) (by rw [hE, anyZ_s0 (decide_eq_false (by split <;> (try split) <;> omega))]))
          · refine a_iconst dX1_brokenBy_91 ?_
            exact a_zret rfl (by omega) ⟨by rw [hE, anyZ_s1 (decide_eq_true (by split <;> (try split) <;> omega))]; rfl, rfl⟩ dX1_brokenBy_92
        · refine a_iload dX1_brokenBy_80 rfl ?_
          refine a_iload_n dX1_brokenBy_82 rfl rfl ?_
          refine a_isub dX1_brokenBy_83 ?_
          refine a_istore (ls' := [(5, ai (skL ρ P l - d)), (4, ai l), (0, ar G), (1, ar T), (2, ai trip), (3, ai d)]) dX1_brokenBy_84 (Nat.le_of_ble_eq_true rfl) rfl ?_
          refine a_iload dX1_brokenBy_86 rfl ?_
          refine a_if_ge (tgt := 93) dX1_brokenBy_88 (by decide) (inR_of (by omega) (by omega)) (fun c88 => ?_) (fun c88 => ?_)
          · refine a_iinc (y := l + 1) (ls' := [(4, ai (l + 1)), (5, ai (skL ρ P l - d)), (0, ar G), (1, ar T), (2, ai trip), (3, ai d)]) dX1_brokenBy_93 rfl rfl (Nat.le_of_ble_eq_true rfl) rfl ?_
            refine a_goto (tgt := 3) dX1_brokenBy_96 (by decide) ?_
            exact a_keep (by simp) (ih (l + 1) (by omega) (by omega) (by omega) (by rw [hE, anyZ_s0 (decide_eq_false (by split <;> (try split) <;> omega))]))
          · refine a_iconst dX1_brokenBy_91 ?_
            exact a_zret rfl (by omega) ⟨by rw [hE, anyZ_s1 (decide_eq_true (by split <;> (try split) <;> omega))]; rfl, rfl⟩ dX1_brokenBy_92
      · refine a_iload dX1_brokenBy_53 rfl ?_
        refine a_iload_n dX1_brokenBy_55 rfl rfl ?_
        refine a_iadd dX1_brokenBy_56 ?_
        refine a_istore (ls' := [(5, ai (skL ρ P l + d)), (4, ai l), (0, ar G), (1, ar T), (2, ai trip), (3, ai d)]) dX1_brokenBy_57 (Nat.le_of_ble_eq_true rfl) rfl ?_
        refine a_aload_n dX1_brokenBy_59 rfl rfl ?_
        refine a_getR (d := N) (J := 0) fX1_62 (kT hTk) rfl (rT_0 hTk) rfl hT.net dX1_brokenBy_60 ?_
        refine a_getF (d := (N + 6)) fX1_59 (kN hNk) rfl (rN_9 hNk) dX1_brokenBy_63 ?_
        refine a_aload_n dX1_brokenBy_66 rfl rfl ?_
        refine a_getF (d := (G + 2)) fX1_15 (kG hGk) rfl (rG_2 hGk) dX1_brokenBy_67 ?_
        refine a_iload dX1_brokenBy_70 rfl ?_
        refine a_iconst dX1_brokenBy_72 ?_
        refine a_isub dX1_brokenBy_73 ?_
        refine a_ild (kG_2 hGk) (nG_2 hGk) (by omega) (by omega) dX1_brokenBy_74 ?_
        refine a_topI (y := (lg P (l - 1)).2) (hLg.at (by omega) (by omega)).2.1 ?_
        refine a_ild (kN_6 hNk) (nN_6 hNk) (by omega) (by omega) dX1_brokenBy_75 ?_
        refine a_topI (y := gN ρ 155 (115 + 5 * ((lg P (l - 1)).2) + 0)) (hN.r0 (by omega) (by omega)) ?_
        have hb51 := hW.ride ((lg P (l - 1)).2) (by omega) (by omega)
        refine a_iload_n dX1_brokenBy_76 rfl rfl ?_
        refine a_icmp_ne (tgt := 86) dX1_brokenBy_77 (by decide) (inR_gN _ _ _) htr (fun c77 => ?_) (fun c77 => ?_)
        · refine a_iload dX1_brokenBy_86 rfl ?_
          refine a_if_ge (tgt := 93) dX1_brokenBy_88 (by decide) (inR_of (by omega) (by omega)) (fun c88 => ?_) (fun c88 => ?_)
          · refine a_iinc (y := l + 1) (ls' := [(4, ai (l + 1)), (5, ai (skL ρ P l + d)), (0, ar G), (1, ar T), (2, ai trip), (3, ai d)]) dX1_brokenBy_93 rfl rfl (Nat.le_of_ble_eq_true rfl) rfl ?_
            refine a_goto (tgt := 3) dX1_brokenBy_96 (by decide) ?_
            exact a_keep (by simp) (ih (l + 1) (by omega) (by omega) (by omega) (by rw [hE, anyZ_s0 (decide_eq_false (by split <;> (try split) <;> omega))]))
          · refine a_iconst dX1_brokenBy_91 ?_
            exact a_zret rfl (by omega) ⟨by rw [hE, anyZ_s1 (decide_eq_true (by split <;> (try split) <;> omega))]; rfl, rfl⟩ dX1_brokenBy_92
        · refine a_iload dX1_brokenBy_80 rfl ?_
          refine a_iload_n dX1_brokenBy_82 rfl rfl ?_
          refine a_isub dX1_brokenBy_83 ?_
          refine a_istore (ls' := [(5, ai (skL ρ P l + d - d)), (4, ai l), (0, ar G), (1, ar T), (2, ai trip), (3, ai d)]) dX1_brokenBy_84 (Nat.le_of_ble_eq_true rfl) rfl ?_
          refine a_iload dX1_brokenBy_86 rfl ?_
          refine a_if_ge (tgt := 93) dX1_brokenBy_88 (by decide) (inR_of (by omega) (by omega)) (fun c88 => ?_) (fun c88 => ?_)
          · refine a_iinc (y := l + 1) (ls' := [(4, ai (l + 1)), (5, ai (skL ρ P l + d - d)), (0, ar G), (1, ar T), (2, ai trip), (3, ai d)]) dX1_brokenBy_93 rfl rfl (Nat.le_of_ble_eq_true rfl) rfl ?_
            refine a_goto (tgt := 3) dX1_brokenBy_96 (by decide) ?_
            exact a_keep (by simp) (ih (l + 1) (by omega) (by omega) (by omega) (by rw [hE, anyZ_s0 (decide_eq_false (by split <;> (try split) <;> omega))]))
          · refine a_iconst dX1_brokenBy_91 ?_
            exact a_zret rfl (by omega) ⟨by rw [hE, anyZ_s1 (decide_eq_true (by split <;> (try split) <;> omega))]; rfl, rfl⟩ dX1_brokenBy_92

set_option maxRecDepth 20000 in
theorem c_brokenBy (σ ρ : Sto) (N T G : Nat) (hW : WV ρ) (hN : NetR σ N ρ) (hT : TmR σ N T ρ) (hGk : Gok G) (P : List (Int × Int)) (hLg : LgR σ G P) (hP : ∀ q ∈ P, lgOK (gN ρ 155 3) q) (hPl : (P.length : Int) ≤ 6) (trip d : Int) (htr : inR trip) (hd0 : 0 ≤ d) (hd1 : d ≤ 240) : MetI mX1_brokenBy [ar G, ar T, ai trip, ai d] σ (if anyZ (bbP ρ P trip d) (P.length - 1) 1 = true then 1 else 0) σ := by
  have hNk := hN.k
  have hR := hW.R
  have hS := hW.S
  have hTr := hW.T
  have hTk := hT.k
  refine a_entry (by decide) (Nat.le_of_ble_eq_true rfl) ?_
  refine a_ls (ls' := [(0, ar G), (1, ar T), (2, ai trip), (3, ai d)]) rfl ?_
  refine a_iconst dX1_brokenBy_0 ?_
  refine a_istore (ls' := [(4, ai 1), (0, ar G), (1, ar T), (2, ai trip), (3, ai d)]) dX1_brokenBy_1 (Nat.le_of_ble_eq_true rfl) rfl ?_
  exact a_keep (by simp) (c_brB_l σ ρ N T G hW hN hT hGk P hLg hP hPl trip d htr hd0 hd1 _ (P.length - 1) 1 (by omega) (by omega) (by omega) rfl)

set_option maxRecDepth 20000 in
theorem c_lgCan_l (σ ρ : Sto) (N T G : Nat) (hW : WV ρ) (hN : NetR σ N ρ) (hT : TmR σ N T ρ) (hGk : Gok G) (P : List (Int × Int)) (hLg : LgR σ G P) (hP : ∀ q ∈ P, lgOK (gN ρ 155 3) q) (hPl : (P.length : Int) ≤ 6) (l : Int) (hl0 : 0 ≤ l) (hl1 : l < P.length) (V : Bool) : ∀ (n : Nat) (i : Int), 0 ≤ i → i ≤ (lg P l).2 + 1 → n = ((lg P l).2 - i + 1).toNat → V = anyZ (cnP ρ) n i → RunA mX1_isCancelled (qI (if V = true then 1 else 0) σ) 7 [(3, ai i), (0, ar G), (1, ar T), (2, ai l)] [] σ := by
  have hNk := hN.k
  have hR := hW.R
  have hS := hW.S
  have hTr := hW.T
  have hTk := hT.k
  have hlg := lg_rng hP hl0 hl1
  intro n
  induction n with
  | zero =>
    intro i h0 h5 hn hE
    refine a_iload_n dX1_isCancelled_7 rfl rfl ?_
    refine a_aload_n dX1_isCancelled_8 rfl rfl ?_
    refine a_getF (d := (G + 2)) fX1_15 (kG hGk) rfl (rG_2 hGk) dX1_isCancelled_9 ?_
    refine a_iload_n dX1_isCancelled_12 rfl rfl ?_
    refine a_ild (kG_2 hGk) (nG_2 hGk) (by omega) (by omega) dX1_isCancelled_13 ?_
    refine a_topI (y := (lg P l).2) (hLg.at (by omega) (by omega)).2.1 ?_
    have hb52 := lg_rng hP (l := l) (by omega) (by omega)
    refine a_icmp_gt (tgt := 33) dX1_isCancelled_14 (by decide) (inR_of (by omega) (by omega)) (inR_of (by omega) (by omega)) (fun c14 => ?_) (fun c14 => ?_)
    · refine a_iconst dX1_isCancelled_33 ?_
      exact a_zret rfl (by omega) ⟨by rw [hE]; rfl, rfl⟩ dX1_isCancelled_34
    · exfalso; omega
  | succ n ih =>
    intro i h0 h5 hn hE
    refine a_iload_n dX1_isCancelled_7 rfl rfl ?_
    refine a_aload_n dX1_isCancelled_8 rfl rfl ?_
    refine a_getF (d := (G + 2)) fX1_15 (kG hGk) rfl (rG_2 hGk) dX1_isCancelled_9 ?_
    refine a_iload_n dX1_isCancelled_12 rfl rfl ?_
    refine a_ild (kG_2 hGk) (nG_2 hGk) (by omega) (by omega) dX1_isCancelled_13 ?_
    refine a_topI (y := (lg P l).2) (hLg.at (by omega) (by omega)).2.1 ?_
    have hb53 := lg_rng hP (l := l) (by omega) (by omega)
    refine a_icmp_gt (tgt := 33) dX1_isCancelled_14 (by decide) (inR_of (by omega) (by omega)) (inR_of (by omega) (by omega)) (fun c14 => ?_) (fun c14 => ?_)
    · exfalso; omega
    · refine a_aload_n dX1_isCancelled_17 rfl rfl ?_
      refine a_iload_n dX1_isCancelled_18 rfl rfl ?_
      refine a_cI (c := T) (as := [ai i]) (rest := []) (c_isCancelled σ ρ N T hW hN hT i (by omega) (by omega)) mvX6_isCancelled lX1_66 (kT hTk) (by decide) rfl rfl rfl rfl (Nat.le_of_ble_eq_true rfl) (Nat.le_of_ble_eq_true rfl) (Nat.le_of_ble_eq_true rfl) dX1_isCancelled_19 ?_
      refine a_ifb_eq (tgt := 27) dX1_isCancelled_22 (by decide) (fun c22 => ?_) (fun c22 => ?_)
      · refine a_iinc (y := i + 1) (ls' := [(3, ai (i + 1)), (0, ar G), (1, ar T), (2, ai l)]) dX1_isCancelled_27 rfl rfl (Nat.le_of_ble_eq_true rfl) rfl ?_
        refine a_goto (tgt := 7) dX1_isCancelled_30 (by decide) ?_
        exact a_keep (by simp) (ih (i + 1) (by omega) (by omega) (by omega) (by rw [hE, anyZ_s0 (decide_eq_false c22)]))
      · refine a_iconst dX1_isCancelled_25 ?_
        exact a_zret rfl (by omega) ⟨by rw [hE, anyZ_s1 (decide_eq_true c22)]; rfl, rfl⟩ dX1_isCancelled_26

set_option maxRecDepth 20000 in
theorem c_lgCan (σ ρ : Sto) (N T G : Nat) (hW : WV ρ) (hN : NetR σ N ρ) (hT : TmR σ N T ρ) (hGk : Gok G) (P : List (Int × Int)) (hLg : LgR σ G P) (hP : ∀ q ∈ P, lgOK (gN ρ 155 3) q) (hPl : (P.length : Int) ≤ 6) (l : Int) (hl0 : 0 ≤ l) (hl1 : l < P.length) : MetI mX1_isCancelled [ar G, ar T, ai l] σ (if anyZ (cnP ρ) ((lg P l).2 - (lg P l).1 + 1).toNat (lg P l).1 = true then 1 else 0) σ := by
  have hNk := hN.k
  have hR := hW.R
  have hS := hW.S
  have hTr := hW.T
  have hTk := hT.k
  have hlg := lg_rng hP hl0 hl1
  refine a_entry (by decide) (Nat.le_of_ble_eq_true rfl) ?_
  refine a_ls (ls' := [(0, ar G), (1, ar T), (2, ai l)]) rfl ?_
  refine a_aload_n dX1_isCancelled_0 rfl rfl ?_
  refine a_getF (d := (G + 1)) fX1_9 (kG hGk) rfl (rG_1 hGk) dX1_isCancelled_1 ?_
  refine a_iload_n dX1_isCancelled_4 rfl rfl ?_
  refine a_ild (kG_1 hGk) (nG_1 hGk) (by omega) (by omega) dX1_isCancelled_5 ?_
  refine a_topI (y := (lg P l).1) (hLg.at (by omega) (by omega)).1 ?_
  have hb54 := lg_rng hP (l := l) (by omega) (by omega)
  refine a_istore_n (ls' := [(3, ai ((lg P l).1)), (0, ar G), (1, ar T), (2, ai l)]) dX1_isCancelled_6 rfl (Nat.le_of_ble_eq_true rfl) rfl ?_
  exact a_keep (by simp) (c_lgCan_l σ ρ N T G hW hN hT hGk P hLg hP hPl l hl0 hl1 _ _ (lg P l).1 (by omega) (by omega) rfl rfl)

set_option maxRecDepth 20000 in
theorem c_wayTo (σ ρ : Sto) (N G : Nat) (hW : WV ρ) (hN : NetR σ N ρ) (hGk : Gok G) (P : List (Int × Int)) (hLg : LgR σ G P) (hP : ∀ q ∈ P, lgOK (gN ρ 155 3) q) (hPl : (P.length : Int) ≤ 6) (l s : Int) (hl0 : 0 ≤ l) (hl1 : l < P.length) (hs0 : 0 ≤ s) (hs1 : s < gN ρ 155 0) : MetI mX1_wayTo [ar G, ar N, ai l, ai s] σ (wyT ρ P l s) σ := by
  have hNk := hN.k
  have hR := hW.R
  have hS := hW.S
  have hTr := hW.T
  refine a_entry (by decide) (Nat.le_of_ble_eq_true rfl) ?_
  refine a_ls (ls' := [(0, ar G), (1, ar N), (2, ai l), (3, ai s)]) rfl ?_
  refine a_aload_n dX1_wayTo_0 rfl rfl ?_
  refine a_getF (d := (N + 7)) fX1_43 (kN hNk) rfl (rN_10 hNk) dX1_wayTo_1 ?_
  refine a_aload_n dX1_wayTo_4 rfl rfl ?_
  refine a_getF (d := (G + 1)) fX1_9 (kG hGk) rfl (rG_1 hGk) dX1_wayTo_5 ?_
  refine a_iload_n dX1_wayTo_8 rfl rfl ?_
  refine a_ild (kG_1 hGk) (nG_1 hGk) (by omega) (by omega) dX1_wayTo_9 ?_
  refine a_topI (y := (lg P l).1) (hLg.at (by omega) (by omega)).1 ?_
  have hb55 := lg_rng hP (l := l) (by omega) (by omega)
  refine a_ild (kN_7 hNk) (nN_7 hNk) (by omega) (by omega) dX1_wayTo_10 ?_
  refine a_topI (y := gN ρ 155 (115 + 5 * ((lg P l).1) + 1)) (hN.r1 (by omega) (by omega)) ?_
  have hb56 := hW.ride ((lg P l).1) (by omega) (by omega)
  refine a_istore (ls' := [(4, ai (gN ρ 155 (115 + 5 * ((lg P l).1) + 1))), (0, ar G), (1, ar N), (2, ai l), (3, ai s)]) dX1_wayTo_11 (Nat.le_of_ble_eq_true rfl) rfl ?_
  refine a_iload_n dX1_wayTo_13 rfl rfl ?_
  refine a_if_ne (tgt := 29) dX1_wayTo_14 (by decide) (inR_of (by omega) (by omega)) (fun c14 => ?_) (fun c14 => ?_)
  · refine a_aload_n dX1_wayTo_29 rfl rfl ?_
    refine a_getF (d := (N + 4)) fX1_70 (kN hNk) rfl (rN_7 hNk) dX1_wayTo_30 ?_
    refine a_aload_n dX1_wayTo_33 rfl rfl ?_
    refine a_getF (d := (N + 8)) fX1_46 (kN hNk) rfl (rN_11 hNk) dX1_wayTo_34 ?_
    refine a_aload_n dX1_wayTo_37 rfl rfl ?_
    refine a_getF (d := (G + 2)) fX1_15 (kG hGk) rfl (rG_2 hGk) dX1_wayTo_38 ?_
    refine a_iload_n dX1_wayTo_41 rfl rfl ?_
    refine a_iconst dX1_wayTo_42 ?_
    refine a_isub dX1_wayTo_43 ?_
    refine a_ild (kG_2 hGk) (nG_2 hGk) (by omega) (by omega) dX1_wayTo_44 ?_
    refine a_topI (y := (lg P (l - 1)).2) (hLg.at (by omega) (by omega)).2.1 ?_
    have hb57 := lg_rng hP (l := (l - 1)) (by omega) (by omega)
    refine a_ild (kN_8 hNk) (nN_8 hNk) (by omega) (by omega) dX1_wayTo_45 ?_
    refine a_topI (y := gN ρ 155 (115 + 5 * ((lg P (l - 1)).2) + 2)) (hN.r2 (by omega) (by omega)) ?_
    have hb58 := hW.ride ((lg P (l - 1)).2) (by omega) (by omega)
    refine a_ald (d := (N + 21 + (gN ρ 155 (115 + 5 * ((lg P (l - 1)).2) + 2)).toNat)) (kN_4 hNk) (nN_4 hNk) (by omega) (by omega) (rowN_t hNk (by omega) (by omega)) dX1_wayTo_46 ?_
    refine a_iload dX1_wayTo_47 rfl ?_
    refine a_ild (kNt hNk (by omega) (by omega)) (nNt hNk (by omega) (by omega)) (by omega) (by omega) dX1_wayTo_49 ?_
    refine a_topI (y := tfF ρ (gN ρ 155 (115 + 5 * ((lg P (l - 1)).2) + 2)) (gN ρ 155 (115 + 5 * ((lg P l).1) + 1))) (hN.tf (by omega) (by omega) (by omega) (by omega)) ?_
    have hb59 := hW.tf (gN ρ 155 (115 + 5 * ((lg P (l - 1)).2) + 2)) (gN ρ 155 (115 + 5 * ((lg P l).1) + 1)) (by omega) (by omega) (by omega) (by omega)
    exact a_iret rfl ⟨by unfold wyT; rw [if_neg (by omega), btw_tf], rfl⟩ dX1_wayTo_50
  · refine a_aload_n dX1_wayTo_17 rfl rfl ?_
    refine a_getF (d := (N + 3)) fX1_37 (kN hNk) rfl (rN_6 hNk) dX1_wayTo_18 ?_
    refine a_iload_n dX1_wayTo_21 rfl rfl ?_
    refine a_ald (d := (N + 11 + s.toNat)) (kN_3 hNk) (nN_3 hNk) (by omega) (by omega) (rowN_w hNk (by omega) (by omega)) dX1_wayTo_22 ?_
    refine a_iload dX1_wayTo_23 rfl ?_
    refine a_ild (kNw hNk (by omega) (by omega)) (nNw hNk (by omega) (by omega)) (by omega) (by omega) dX1_wayTo_25 ?_
    refine a_topI (y := gN ρ 155 (15 + 10 * s + (gN ρ 155 (115 + 5 * ((lg P l).1) + 1)))) (hN.wk (by omega) (by omega) (by omega) (by omega)) ?_
    have hb60 := hW.walk s (gN ρ 155 (115 + 5 * ((lg P l).1) + 1)) (by omega) (by omega) (by omega) (by omega)
    refine a_goto (tgt := 50) dX1_wayTo_26 (by decide) ?_
    exact a_iret rfl ⟨by unfold wyT; rw [if_pos (by omega)], rfl⟩ dX1_wayTo_50

set_option maxRecDepth 20000 in
theorem c_timeToSpare (σ ρ : Sto) (N T G : Nat) (hW : WV ρ) (hN : NetR σ N ρ) (hT : TmR σ N T ρ) (hGk : Gok G) (P : List (Int × Int)) (hLg : LgR σ G P) (hP : ∀ q ∈ P, lgOK (gN ρ 155 3) q) (hPl : (P.length : Int) ≤ 6) (l s : Int) (hl0 : 0 ≤ l) (hl1 : l < P.length) (hs0 : 0 ≤ s) (hs1 : s < gN ρ 155 0) (m : Int) : MetI mX1_timeToSpare [ar G, ar T, ai l, ai s, ai m] σ (spT ρ P l s m) σ := by
  have hNk := hN.k
  have hR := hW.R
  have hS := hW.S
  have hTr := hW.T
  have hTk := hT.k
  refine a_entry (by decide) (Nat.le_of_ble_eq_true rfl) ?_
  refine a_ls (ls' := [(0, ar G), (1, ar T), (2, ai l), (3, ai s), (4, ai m)]) rfl ?_
  refine a_iload_n dX1_timeToSpare_0 rfl rfl ?_
  refine a_if_ne (tgt := 9) dX1_timeToSpare_1 (by decide) (inR_of (by omega) (by omega)) (fun c1 => ?_) (fun c1 => ?_)
  · refine a_aload_n dX1_timeToSpare_9 rfl rfl ?_
    refine a_getF (d := (T + 2)) fX1_29 (kT hTk) rfl (rT_4 hTk) dX1_timeToSpare_10 ?_
    refine a_aload_n dX1_timeToSpare_13 rfl rfl ?_
    refine a_getF (d := (G + 2)) fX1_15 (kG hGk) rfl (rG_2 hGk) dX1_timeToSpare_14 ?_
    refine a_iload_n dX1_timeToSpare_17 rfl rfl ?_
    refine a_iconst dX1_timeToSpare_18 ?_
    refine a_isub dX1_timeToSpare_19 ?_
    refine a_ild (kG_2 hGk) (nG_2 hGk) (by omega) (by omega) dX1_timeToSpare_20 ?_
    refine a_topI (y := (lg P (l - 1)).2) (hLg.at (by omega) (by omega)).2.1 ?_
    have hb61 := lg_rng hP (l := (l - 1)) (by omega) (by omega)
    refine a_ild (kT_2 hTk) (nT_2 hTk) (by omega) (by omega) dX1_timeToSpare_21 ?_
    refine a_topI (y := gN ρ 162 ((lg P (l - 1)).2)) (hT.cm (by omega) (by omega)) ?_
    have hb62 := hW.tm ((lg P (l - 1)).2) (by omega) (by omega)
    refine a_istore (ls' := [(5, ai (gN ρ 162 ((lg P (l - 1)).2))), (0, ar G), (1, ar T), (2, ai l), (3, ai s), (4, ai m)]) dX1_timeToSpare_22 (Nat.le_of_ble_eq_true rfl) rfl ?_
    refine a_aload_n dX1_timeToSpare_24 rfl rfl ?_
    refine a_getF (d := (T + 1)) fX1_34 (kT hTk) rfl (rT_3 hTk) dX1_timeToSpare_25 ?_
    refine a_aload_n dX1_timeToSpare_28 rfl rfl ?_
    refine a_getF (d := (G + 1)) fX1_9 (kG hGk) rfl (rG_1 hGk) dX1_timeToSpare_29 ?_
    refine a_iload_n dX1_timeToSpare_32 rfl rfl ?_
    refine a_ild (kG_1 hGk) (nG_1 hGk) (by omega) (by omega) dX1_timeToSpare_33 ?_
    refine a_topI (y := (lg P l).1) (hLg.at (by omega) (by omega)).1 ?_
    have hb63 := lg_rng hP (l := l) (by omega) (by omega)
    refine a_ild (kT_1 hTk) (nT_1 hTk) (by omega) (by omega) dX1_timeToSpare_34 ?_
    refine a_topI (y := gN ρ 161 ((lg P l).1)) (hT.lv (by omega) (by omega)) ?_
    have hb64 := hW.tm ((lg P l).1) (by omega) (by omega)
    refine a_iload dX1_timeToSpare_35 rfl ?_
    refine a_isub dX1_timeToSpare_37 ?_
    refine a_aload_n dX1_timeToSpare_38 rfl rfl ?_
    refine a_aload_n dX1_timeToSpare_39 rfl rfl ?_
    refine a_getR (d := N) (J := 0) fX1_62 (kT hTk) rfl (rT_0 hTk) rfl hT.net dX1_timeToSpare_40 ?_
    refine a_iload_n dX1_timeToSpare_43 rfl rfl ?_
    refine a_iload_n dX1_timeToSpare_44 rfl rfl ?_
    refine a_cI (c := G) (as := [ar N, ai l, ai s]) (rest := [ai (gN ρ 161 ((lg P l).1) - (gN ρ 162 ((lg P (l - 1)).2)))]) (c_wayTo σ ρ N G hW hN hGk P hLg hP hPl l s (by omega) (by omega) (by omega) (by omega)) mvX1_wayTo lX1_73 (kG hGk) (by decide) rfl rfl rfl rfl (Nat.le_of_ble_eq_true rfl) (Nat.le_of_ble_eq_true rfl) (Nat.le_of_ble_eq_true rfl) dX1_timeToSpare_45 ?_
    refine a_isub dX1_timeToSpare_48 ?_
    exact a_iret rfl ⟨by unfold spT; rw [if_neg (by omega)], rfl⟩ dX1_timeToSpare_49
  · refine a_iload dX1_timeToSpare_4 rfl ?_
    refine a_goto (tgt := 22) dX1_timeToSpare_6 (by decide) ?_
    refine a_istore (ls' := [(5, ai m), (0, ar G), (1, ar T), (2, ai l), (3, ai s), (4, ai m)]) dX1_timeToSpare_22 (Nat.le_of_ble_eq_true rfl) rfl ?_
    refine a_aload_n dX1_timeToSpare_24 rfl rfl ?_
    refine a_getF (d := (T + 1)) fX1_34 (kT hTk) rfl (rT_3 hTk) dX1_timeToSpare_25 ?_
    refine a_aload_n dX1_timeToSpare_28 rfl rfl ?_
    refine a_getF (d := (G + 1)) fX1_9 (kG hGk) rfl (rG_1 hGk) dX1_timeToSpare_29 ?_
    refine a_iload_n dX1_timeToSpare_32 rfl rfl ?_
    refine a_ild (kG_1 hGk) (nG_1 hGk) (by omega) (by omega) dX1_timeToSpare_33 ?_
    refine a_topI (y := (lg P l).1) (hLg.at (by omega) (by omega)).1 ?_
    have hb65 := lg_rng hP (l := l) (by omega) (by omega)
    refine a_ild (kT_1 hTk) (nT_1 hTk) (by omega) (by omega) dX1_timeToSpare_34 ?_
    refine a_topI (y := gN ρ 161 ((lg P l).1)) (hT.lv (by omega) (by omega)) ?_
    have hb66 := hW.tm ((lg P l).1) (by omega) (by omega)
    refine a_iload dX1_timeToSpare_35 rfl ?_
    refine a_isub dX1_timeToSpare_37 ?_
    refine a_aload_n dX1_timeToSpare_38 rfl rfl ?_
    refine a_aload_n dX1_timeToSpare_39 rfl rfl ?_
    refine a_getR (d := N) (J := 0) fX1_62 (kT hTk) rfl (rT_0 hTk) rfl hT.net dX1_timeToSpare_40 ?_
    refine a_iload_n dX1_timeToSpare_43 rfl rfl ?_
    refine a_iload_n dX1_timeToSpare_44 rfl rfl ?_
    refine a_cI (c := G) (as := [ar N, ai l, ai s]) (rest := [ai (gN ρ 161 ((lg P l).1) - m)]) (c_wayTo σ ρ N G hW hN hGk P hLg hP hPl l s (by omega) (by omega) (by omega) (by omega)) mvX1_wayTo lX1_73 (kG hGk) (by decide) rfl rfl rfl rfl (Nat.le_of_ble_eq_true rfl) (Nat.le_of_ble_eq_true rfl) (Nat.le_of_ble_eq_true rfl) dX1_timeToSpare_45 ?_
    refine a_isub dX1_timeToSpare_48 ?_
    exact a_iret rfl ⟨by unfold spT; rw [if_pos (by omega)], rfl⟩ dX1_timeToSpare_49

