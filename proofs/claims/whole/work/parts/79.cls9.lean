/-- the outlook of t is made; the rest of the class's state stands -/
def LokP (σ u ρ : Sto) (N : Nat) (t : Int) : Prop := Fg pLok σ u ∧ CQ u ρ N ∧ gN u 42 t = 1
theorem CQ.ln {σ u ρ : Sto} {N : Nat} (h : CQ σ ρ N) (hS : gN ρ 155 0 ≤ 10) (hR : gN ρ 155 3 ≤ 60) (hP : LnP σ u 7 ρ) : CQ u ρ N := by
  have hF := hP.1
  refine ⟨by rw [hF.r (by unfold pLn; omega)]; exact h.c, h.n.ln hS h.t.k hF, h.t.ln hF (Or.inr hP.2.2), fun _ => hP.2.1, fun t a b => ?_⟩
  rw [hF.n (by unfold pLn; omega)]
  have o := h.o t a b
  exact ⟨o.1, fun z y => (o.2 z y).of (fun c j q _ => hF.n (by unfold pLn; omega)) hR⟩
abbrev pOt (t : Int) (d : Nat) (_ : Int) : Prop := d = 43 + t.toNat ∨ d = 53 + t.toNat ∨ d = 63 + t.toNat
/-- done up to level c; whether the last one was of use -/
def LkI (ρ : Sto) (t : Int) (c : Nat) (b : Int) : Prop := (b = 1 ∧ ∀ x, x < c → betF ρ t x) ∨ (b = 0 ∧ 2 ≤ c ∧ (∀ k, 0 ≤ k → k < gN ρ 155 3 → arL ρ t (c - 1) k = arL ρ t (c - 2) k) ∧ ¬ ∀ x, x < c → betF ρ t x)
theorem OtR.by {σ u ρ : Sto} {t : Int} {c : Nat} (hR : gN ρ 155 3 ≤ 60) (h : OtR σ ρ t c) (hF : Fg (pLv t c) σ u) (hL : LvR u ρ t c 0) : OtR u ρ t (c + 1) := by
  have h2 := h.of (u := u) (fun d j q z => hF.n (by unfold pLv; omega)) hR
  intro x i q0 q1 q2
  by_cases e : x = c
  · subst e
    have := hL i q1 q2
    exact ⟨this.1, fun _ => this.2⟩
  · exact h2 x i (by omega) q1 q2
theorem OtR.rep {σ u ρ : Sto} {t : Int} {c : Nat} (hR : gN ρ 155 3 ≤ 60) (h : OtR σ ρ t c) (hF : Fg (pLv t c) σ u) (hL : ∀ i : Int, 0 ≤ i → i < gN ρ 155 3 → gN u (43 + t.toNat) ((c : Int) * 60 + i) = arL ρ t c i) (hn : ¬ ∀ x, x < c → betF ρ t x) : OtR u ρ t (c + 1) := by
  have h2 := h.of (u := u) (fun d j q z => hF.n (by unfold pLv; omega)) hR
  intro x i q0 q1 q2
  by_cases e : x = c
  · subst e
    exact ⟨hL i q1 q2, fun z => absurd z hn⟩
  · exact h2 x i (by omega) q1 q2
theorem lki_by {ρ : Sto} (hW : WV ρ) {t : Int} {c : Nat} (h : LkI ρ t c 1) : LkI ρ t (c + 1) (if betF ρ t c then 1 else 0) := by
  have hR := hW.R
  have hb : ∀ x, x < c → betF ρ t x := by
    rcases h with h | h
    · exact h.2
    · exact absurd h.1 (by decide)
  by_cases e : betF ρ t c
  · rw [if_pos e]
    left
    refine ⟨rfl, fun x q => ?_⟩
    by_cases z : x = c
    · rw [z]; exact e
    · exact hb x (by omega)
  · rw [if_neg e]
    right
    have e0 : c ≠ 0 := fun z => e (Or.inl z)
    refine ⟨rfl, by omega, fun k k0 k1 => ?_, fun z => e (z c (by omega))⟩
    obtain ⟨d, rfl⟩ : ∃ d, c = d + 1 := ⟨c - 1, by omega⟩
    have hz : anyZ (fun r => decide (arL ρ t (d + 1) r < prvL ρ t (d + 1) r)) (gN ρ 155 3).toNat 0 = false := by
      cases q : anyZ (fun r => decide (arL ρ t (d + 1) r < prvL ρ t (d + 1) r)) (gN ρ 155 3).toNat 0
      · rfl
      · exact absurd (Or.inr q) e
    have a := of_decide_eq_false (anyZ_not _ _ hz k k0 (by omega))
    have b := ar_mono hW (t := t) d k k0 k1
    have a2 : ¬ arL ρ t (d + 1) k < arL ρ t d k := a
    show arL ρ t (d + 1) k = arL ρ t d k
    omega
theorem lki_rep {ρ : Sto} (hW : WV ρ) {t : Int} {c : Nat} (h : LkI ρ t c 0) : (2 ≤ c ∧ ¬ ∀ x, x < c → betF ρ t x) ∧ (∀ k, 0 ≤ k → k < gN ρ 155 3 → arL ρ t c k = prvL ρ t c k) ∧ LkI ρ t (c + 1) 0 := by
  rcases h with h | ⟨_, h2, h3, h4⟩
  · exact absurd h.1 (by decide)
  · obtain ⟨d, rfl⟩ : ∃ d, c = d + 2 := ⟨c - 2, by omega⟩
    have hs : ∀ k, 0 ≤ k → k < gN ρ 155 3 → arL ρ t (d + 2) k = arL ρ t (d + 1) k := fun k k0 k1 => by
      unfold arL
      rw [lv_same hW h3 (gN ρ 155 3 - k).toNat k k0 (by omega) (by omega)]
    exact ⟨⟨h2, h4⟩, hs, Or.inr ⟨rfl, by omega, hs, fun z => h4 (fun x q => z x (by omega))⟩⟩

set_option maxRecDepth 20000 in
theorem c_look_l (σ ρ : Sto) (N : Nat) (hW : WV ρ) (hC : CQ σ ρ N) (hL7 : LkR σ 7 ρ) (t : Int) (ht0 : 0 ≤ t) (ht1 : t < gN ρ 155 0) : ∀ (n : Nat) (c : Nat) (b : Int) (τ : Sto), c ≤ 5 → n = 5 - c → Fg (pOt t) σ τ → OtR τ ρ t c → LkI ρ t c b → RunA mX3_look (fun r u => r = none ∧ LokP σ u ρ N t) 19 [(4, ai (c : Int)), (3, ai b), (0, ar 38), (1, ar 7), (2, ai t)] [] τ := by
  have hN := hC.n
  have hT7 := hC.t
  have hNk := hN.k
  have hR := hW.R
  have hS := hW.S
  have hTr := hW.T
  intro n
  induction n with
  | zero =>
    intro c b τ h5 hn hF hO hb
    have hNτ : NetR τ N ρ := hN.of hS.2 (fun d j q0 q1 => hF.n (by unfold pOt; omega))
    have hT7τ : TmR τ N 7 ρ := hT7.of (hF.r (by unfold pOt; omega)) (hF.l (by unfold pOt; omega)) (fun j => hF.n (by unfold pOt; omega)) (fun j => hF.n (by unfold pOt; omega)) (Or.inl (hF.n (by unfold pOt; omega)))
    have hL7τ : LkR τ 7 ρ := fun j j0 j1 => by rw [hF.l (by unfold pOt; omega)]; exact hL7 j j0 j1
    have hPr : ∀ k : Int, 0 ≤ k → k < gN ρ 155 3 → 0 < (c : Int) → gN τ (43 + t.toNat) ((c : Int) * 60 - 60 + k) = prvL ρ t c k := fun k a b z => by
      obtain ⟨d, rfl⟩ : ∃ d, c = d + 1 := ⟨c - 1, by omega⟩
      rw [show ((d + 1 : Nat) : Int) * 60 - 60 + k = (d : Int) * 60 + k by omega]
      exact (hO d k (by omega) a b).1
    have hbb : b = 0 ∨ b = 1 := by rcases hb with z | z <;> omega
    refine a_iload dX3_look_19 rfl ?_
    refine a_iconst dX3_look_21 ?_
    refine a_icmp_gt (tgt := 61) dX3_look_22 (by decide) (inR_of (by omega) (by omega)) (inR_of (by omega) (by omega)) (fun c22 => ?_) (fun c22 => ?_)
    · have hc5 : c = 5 := by omega
      subst hc5
      have hCn : CQ (sN τ 42 t 1) ρ N := by
        refine ⟨by rw [gR_sN, hF.r (by unfold pOt; omega)]; exact hC.c, hNτ.of hS.2 (fun d j q0 q1 => by rw [gN_sN, if_neg (by omega)]), hT7τ.of gR_sN gL_sN (fun j => by rw [gN_sN, if_neg (by omega)]) (fun j => by rw [gN_sN, if_neg (by omega)]) (Or.inl (by rw [gN_sN, if_neg (by omega)])), fun _ i a b => by rw [gL_sN]; exact hL7τ i a b, fun x x0 x1 => ?_⟩
        by_cases e : x = t
        · rw [e, gN_sN, if_pos ⟨rfl, rfl⟩]
          exact ⟨Or.inr (by rfl), fun _ _ => hO.of (fun d j q _ => by rw [gN_sN, if_neg (by omega)]) hR.2⟩
        · rw [gN_sN, if_neg (by omega), hF.n (by unfold pOt; omega)]
          have oo := hC.o x x0 x1
          exact ⟨oo.1, fun z y => (oo.2 z y).of (fun d j q _ => by rw [gN_sN, if_neg (by omega), hF.n (by unfold pOt; omega)]) hR.2⟩
      refine a_aload_n dX3_look_61 rfl rfl ?_
      refine a_getF (d := 42) fX3_22 k38 rfl r38_3 dX3_look_62 ?_
      refine a_iload_n dX3_look_65 rfl rfl ?_
      refine a_iconst dX3_look_66 ?_
      refine a_zst k42 n42 (by omega) (by omega) (by omega) dX3_look_67 ?_
      exact a_vret rfl ⟨rfl, (hF.mono (fun d j q => by unfold pOt at q; unfold pLok; omega)).sN (by unfold pLok; omega), hCn, by rw [gN_sN, if_pos ⟨rfl, rfl⟩]; rfl⟩ dX3_look_68
    · exfalso; omega
  | succ n ih =>
    intro c b τ h5 hn hF hO hb
    have hNτ : NetR τ N ρ := hN.of hS.2 (fun d j q0 q1 => hF.n (by unfold pOt; omega))
    have hT7τ : TmR τ N 7 ρ := hT7.of (hF.r (by unfold pOt; omega)) (hF.l (by unfold pOt; omega)) (fun j => hF.n (by unfold pOt; omega)) (fun j => hF.n (by unfold pOt; omega)) (Or.inl (hF.n (by unfold pOt; omega)))
    have hL7τ : LkR τ 7 ρ := fun j j0 j1 => by rw [hF.l (by unfold pOt; omega)]; exact hL7 j j0 j1
    have hPr : ∀ k : Int, 0 ≤ k → k < gN ρ 155 3 → 0 < (c : Int) → gN τ (43 + t.toNat) ((c : Int) * 60 - 60 + k) = prvL ρ t c k := fun k a b z => by
      obtain ⟨d, rfl⟩ : ∃ d, c = d + 1 := ⟨c - 1, by omega⟩
      rw [show ((d + 1 : Nat) : Int) * 60 - 60 + k = (d : Int) * 60 + k by omega]
      exact (hO d k (by omega) a b).1
    have hbb : b = 0 ∨ b = 1 := by rcases hb with z | z <;> omega
    refine a_iload dX3_look_19 rfl ?_
    refine a_iconst dX3_look_21 ?_
    refine a_icmp_gt (tgt := 61) dX3_look_22 (by decide) (inR_of (by omega) (by omega)) (inR_of (by omega) (by omega)) (fun c22 => ?_) (fun c22 => ?_)
    · exfalso; omega
    · refine a_iload_n dX3_look_25 rfl rfl ?_
      refine a_if_eq (tgt := 41) dX3_look_26 (by decide) (inR_of (by omega) (by omega)) (fun c26 => ?_) (fun c26 => ?_)
      · have hb0 : b = 0 := by omega
        have hrp := lki_rep hW (hb0 ▸ hb)
        refine a_aload_n dX3_look_41 rfl rfl ?_
        refine a_aload_n dX3_look_42 rfl rfl ?_
        refine a_getR (d := N) (J := 0) fX3_35 k7 rfl (rT_0 (by decide)) rfl hT7τ.net dX3_look_43 ?_
        refine a_getI (J := 3) fX3_39 (kN hNk) rfl rfl dX3_look_46 ?_
        refine a_topI (y := gN ρ 155 3) hNτ.n3 ?_
        refine a_iload_n dX3_look_49 rfl rfl ?_
        refine a_iload dX3_look_50 rfl ?_
        refine a_callV (c := 38) (as := [ai (gN ρ 155 3), ai t, ai (c : Int)]) (rest := []) (c_repeat τ ρ hW t c ht0 ht1 (by omega) (by omega) hPr) mvX3_repeat lX3_45 k38 (by decide) rfl rfl rfl rfl (Nat.le_of_ble_eq_true rfl) (Nat.le_of_ble_eq_true rfl) (Nat.le_of_ble_eq_true rfl) dX3_look_52 (fun υ hu => ?_)
        obtain ⟨-, hu1, hu2⟩ := hu
        have hO2 := hO.rep hR.2 hu1 (fun i a b => (hu2 i a b).trans (hrp.2.1 i a b).symm) hrp.1.2
        have hF2 : Fg (pOt t) σ υ := hF.trans (hu1.mono (fun d j q => q.1))
        refine a_iinc (y := (c : Int) + 1) (ls' := [(4, ai ((c : Int) + 1)), (3, ai b), (0, ar 38), (1, ar 7), (2, ai t)]) dX3_look_55 rfl rfl (Nat.le_of_ble_eq_true rfl) rfl ?_
        refine a_goto (tgt := 19) dX3_look_58 (by decide) ?_
        exact a_keep (by simp) (ih (c + 1) (b) υ (by omega) (by omega) hF2 hO2 (by rw [hb0]; exact hrp.2.2))
      · have hb1 : b = 1 := by omega
        refine a_aload_n dX3_look_29 rfl rfl ?_
        refine a_aload_n dX3_look_30 rfl rfl ?_
        refine a_iload_n dX3_look_31 rfl rfl ?_
        refine a_iload dX3_look_32 rfl ?_
        refine a_callI (c := 38) (as := [ar 7, ai t, ai (c : Int)]) (rest := []) (c_lookBy τ ρ N hW hNτ hT7τ hL7τ t c ht0 ht1 (by omega) hPr) mvX3_lookBy lX3_31 k38 (by decide) rfl rfl rfl rfl (Nat.le_of_ble_eq_true rfl) (Nat.le_of_ble_eq_true rfl) (Nat.le_of_ble_eq_true rfl) dX3_look_34 (fun x υ hu => ?_)
        obtain ⟨hx, hu1, hu2⟩ := hu
        cases hx
        have hO2 := hO.by hR.2 hu1 hu2
        have hF2 : Fg (pOt t) σ υ := hF.trans (hu1.mono (fun d j q => q.1))
        refine a_istore_n (ls' := [(3, ai (if betF ρ t c then 1 else 0)), (4, ai (c : Int)), (0, ar 38), (1, ar 7), (2, ai t)]) dX3_look_37 rfl (Nat.le_of_ble_eq_true rfl) rfl ?_
        refine a_goto (tgt := 55) dX3_look_38 (by decide) ?_
        refine a_iinc (y := (c : Int) + 1) (ls' := [(4, ai ((c : Int) + 1)), (3, ai (if betF ρ t c then 1 else 0)), (0, ar 38), (1, ar 7), (2, ai t)]) dX3_look_55 rfl rfl (Nat.le_of_ble_eq_true rfl) rfl ?_
        refine a_goto (tgt := 19) dX3_look_58 (by decide) ?_
        exact a_keep (by simp) (ih (c + 1) (if betF ρ t c then 1 else 0) υ (by omega) (by omega) hF2 hO2 (lki_by hW (hb1 ▸ hb)))

set_option maxRecDepth 20000 in
theorem c_look (σ ρ : Sto) (N : Nat) (hW : WV ρ) (hC : CQ σ ρ N) (t : Int) (ht0 : 0 ≤ t) (ht1 : t < gN ρ 155 0) : MetA mX3_look [ar 38, ar 7, ai t] σ (fun r u => r = none ∧ LokP σ u ρ N t) := by
  have hN := hC.n
  have hT7 := hC.t
  have hNk := hN.k
  have hR := hW.R
  have hS := hW.S
  have hTr := hW.T
  have hM7 := hC.m
  have hs := hC.o t ht0 (by omega)
  refine a_entry (by decide) (Nat.le_of_ble_eq_true rfl) ?_
  refine a_ls (ls' := [(0, ar 38), (1, ar 7), (2, ai t)]) rfl ?_
  refine a_aload_n dX3_look_0 rfl rfl ?_
  refine a_getF (d := 42) fX3_22 k38 rfl r38_3 dX3_look_1 ?_
  refine a_iload_n dX3_look_4 rfl rfl ?_
  refine a_zld k42 n42 (by omega) (by omega) dX3_look_5 ?_
  refine a_if_eq (tgt := 10) dX3_look_6 (by decide) (inR_gN _ _ _) (fun c6 => ?_) (fun c6 => ?_)
  · refine a_aload_n dX3_look_10 rfl rfl ?_
    refine a_callV (c := 7) (as := []) (rest := []) (c_link σ ρ N 7 hW hN hT7 hM7) mvX6_link lX3_26 k7 (by decide) rfl rfl rfl rfl (Nat.le_of_ble_eq_true rfl) (Nat.le_of_ble_eq_true rfl) (Nat.le_of_ble_eq_true rfl) dX3_look_11 (fun u60 hu => ?_)
    obtain ⟨-, hPu60⟩ := hu
    have hNu60 : NetR u60 N ρ := hN.ln hS.2 hT7.k hPu60.1
    have hT7u60 : TmR u60 N 7 ρ := hT7.ln hPu60.1 (Or.inr hPu60.2.2)
    have hLu60 : LkR u60 7 ρ := hPu60.2.1
    refine a_iconst dX3_look_14 ?_
    refine a_istore_n (ls' := [(3, ai 1), (0, ar 38), (1, ar 7), (2, ai t)]) dX3_look_15 rfl (Nat.le_of_ble_eq_true rfl) rfl ?_
    refine a_iconst dX3_look_16 ?_
    refine a_istore (ls' := [(4, ai 0), (3, ai 1), (0, ar 38), (1, ar 7), (2, ai t)]) dX3_look_17 (Nat.le_of_ble_eq_true rfl) rfl ?_
    refine a_keep (by simp) ((c_look_l u60 ρ N hW (hC.ln hS.2 hR.2 hPu60) hPu60.2.1 t ht0 ht1 5 0 1 u60 (by omega) rfl Fg.rfl (fun x i q _ _ => absurd q (by omega)) (Or.inl ⟨rfl, fun x q => absurd q (by omega)⟩)).mono (fun r v hv => ⟨hv.1, (hPu60.1.mono (fun d j q => by unfold pLn at q; unfold pLok; omega)).trans hv.2.1, hv.2.2⟩))
  · exact a_vret rfl ⟨rfl, Fg.rfl, hC, by omega⟩ dX3_look_9

