def cdOK (q : Cd) : Prop := (0 ≤ q.1 ∧ q.1 ≤ 4000) ∧ (-1000 ≤ q.2.1 ∧ q.2.1 < 1000000) ∧ (0 ≤ q.2.2 ∧ q.2.2 ≤ 4)
theorem cd_rng {σ : Sto} (hW : WOK σ) (hT : TOK σ) {t dep : Int} (h0 : 0 ≤ t) (h1 : t < 10) (hd0 : 0 ≤ dep) (hd1 : dep ≤ 4000) : ∀ (n : Nat) (i : Int) (q : List Cd × Int64), 0 ≤ i → i + n ≤ 5 → (∀ x ∈ q.1, cdOK x) → ∀ x ∈ (itr (cdF σ t dep) n i q).1, cdOK x
  | 0, _, _, _, _, h => h
  | n + 1, i, q, hi, hn, h => by
    refine cd_rng hW hT h0 h1 hd0 hd1 n (i + 1) _ (by omega) (by omega) ?_
    intro x hx
    have b := arrivesF_rng hW hT (set := q.2) h0 h1
    unfold cdF at hx
    split at hx
    · rcases List.mem_append.mp hx with z | z
      · exact h x z
      · simp only [List.mem_cons, List.mem_nil_iff, or_false] at z
        subst z
        unfold cdOK
        dsimp only
        omega
    · exact h x hx
theorem cand_all {σ : Sto} (hW : WOK σ) (hT : TOK σ) {s t : Int} (hs0 : 0 ≤ s) (hs1 : s < 10) (h0 : 0 ≤ t) (h1 : t < 10) : ∀ (n : Nat) (i : Int) (L : List Cd), 0 ≤ i → i + n ≤ 60 → (L.length : Int) ≤ 5 * i → (∀ x ∈ L, cdOK x) → ((itr (caF σ s t) n i L).length : Int) ≤ 5 * (i + n) ∧ ∀ x ∈ itr (caF σ s t) n i L, cdOK x
  | 0, _, _, _, _, hl, h => ⟨by simpa [itr] using hl, h⟩
  | n + 1, i, L, hi, hn, hl, h => by
    have bl := lfF_rng hW hT hs0 hs1 (i := i) (by omega) (by omega)
    have := cand_all hW hT hs0 hs1 h0 h1 n (i + 1) (caF σ s t i L) (by omega) (by omega) (by
      unfold caF
      split
      · omega
      · have := cd_len (σ := σ) (t := t) (dep := lfF σ s i) 5 0 (L, staysF σ (shlL 1 i))
        simp only at this
        omega) (by
      unfold caF
      split
      · exact h
      · exact cd_rng hW hT h0 h1 (by omega) (by omega) 5 0 _ (by omega) (by omega) h)
    rw [itr_s]
    exact ⟨by have := this.1; omega, this.2⟩
theorem cand_ok {σ : Sto} (hW : WOK σ) (hT : TOK σ) {s t : Int} (hs0 : 0 ≤ s) (hs1 : s < 10) (h0 : 0 ≤ t) (h1 : t < 10) : ((candL σ s t).length : Int) ≤ 300 ∧ ∀ x ∈ candL σ s t, cdOK x := by
  have hR := hW.1
  have := cand_all hW hT hs0 hs1 h0 h1 (gN σ 155 3).toNat 0 [] (by omega) (by omega) (by simp) (by simp)
  exact ⟨by have := this.1; unfold candL; omega, this.2⟩
theorem cd_ok {L : List Cd} (h : ∀ x ∈ L, cdOK x) {k : Int} (h0 : 0 ≤ k) (h1 : k < L.length) : cdOK (cd L k) := by
  unfold cd
  rw [List.getD_eq_getElem?_getD, List.getElem?_eq_getElem (by omega)]
  exact h _ (List.getElem_mem _)
/-- the profile is laid -/
def PrIs (σ v : Sto) (s t : Int) : Prop := Fr pPr σ v ∧ CdIs v (candL σ s t) ∧ KpIs v (keptL (candL σ s t) (gN σ 155 (15 + 10 * s + t)))
theorem kpF_all {L : List Cd} {w : Int} : ∀ (n : Nat) (i : Int) (K : List Int), 0 ≤ i → i + n ≤ L.length → (K.length : Int) ≤ i → (∀ x ∈ K, 0 ≤ x ∧ x < L.length) → ((itr (kpF L w) n i K).length : Int) ≤ i + n ∧ ∀ x ∈ itr (kpF L w) n i K, 0 ≤ x ∧ x < L.length
  | 0, _, _, _, _, hl, h => ⟨by simpa [itr] using hl, h⟩
  | n + 1, i, K, hi, hn, hl, h => by
    have := kpF_all (L := L) (w := w) n (i + 1) (kpF L w i K) (by omega) (by omega) (by
      unfold kpF
      split
      · omega
      · rw [insK_len]; omega) (by
      unfold kpF
      split
      · exact h
      · intro x hx
        rcases insK_mem hx with q | q
        · omega
        · exact h x q)
    rw [itr_s]
    exact ⟨by have := this.1; omega, this.2⟩
theorem kept_ok {L : List Cd} {w : Int} : (keptL L w).length ≤ L.length ∧ ∀ x ∈ keptL L w, 0 ≤ x ∧ x < L.length := by
  have := kpF_all (L := L) (w := w) L.length 0 [] (by omega) (by omega) (by simp) (by simp)
  exact ⟨by have := this.1; unfold keptL; omega, this.2⟩

theorem RunA.mono {M : Mth} {Q Q' : Option Av → Sto → Prop} {pc : Nat} {ls : List (Nat × Av)} {st : List Av} {σ : Sto} (h : RunA M Q pc ls st σ) (hq : ∀ r u, Q r u → Q' r u) : RunA M Q' pc ls st σ := by
  intro l p e s m args below meth c D ad cy A H locs hG hP hD hS lsC hl T hT X
  obtain ⟨t, h1, o, h2, h3, h4, h5⟩ := h l p e s m args below meth c D ad cy A H locs hG hP hD hS lsC hl T hT X
  refine ⟨t, h1, o, h2, h3, ?_, h5⟩
  revert h4
  unfold QcA
  split
  · rintro ⟨⟨u, e1, e2, e3⟩, hF⟩
    exact ⟨⟨u, e1, hq _ _ e2, e3⟩, hF⟩
  · split
    · rintro ⟨⟨r, u, e1, e2, e3⟩, hF⟩
      exact ⟨⟨r, u, e1, hq _ _ e2, e3⟩, hF⟩
    · rintro ⟨⟨r, u, e1, ⟨x, e0, e2⟩, e3⟩, hF⟩
      exact ⟨⟨r, u, e1, ⟨x, e0, hq _ _ e2⟩, e3⟩, hF⟩

set_option maxRecDepth 20000 in
theorem t_laysProfile (σ : Sto) (s t : Int) (hW : WOK σ) (hT : TOK σ) (hs0 : 0 ≤ s) (hs1 : s < 10) (ht0 : 0 ≤ t) (ht1 : t < 10) : MetA mX9_laysProfile [ar 153, ai s, ai t] σ (fun r v => r = none ∧ PrIs σ v s t) := by
  refine a_entry (by decide) (Nat.le_of_ble_eq_true rfl) ?_
  refine a_aload_n dX9_laysProfile_0 rfl rfl ?_
  refine a_iload_n dX9_laysProfile_1 rfl rfl ?_
  refine a_iload_n dX9_laysProfile_2 rfl rfl ?_
  refine a_callV (c := 153) (as := [ai s, ai t]) (rest := []) (t_laysCandidates σ hW hT s t hs0 hs1 ht0 ht1) mvX9_laysCandidates lX9_274 k153 (by decide) rfl rfl rfl rfl (Nat.le_of_ble_eq_true rfl) (Nat.le_of_ble_eq_true rfl) (Nat.le_of_ble_eq_true rfl) dX9_laysProfile_3 (fun u hu => ?_)
  obtain ⟨-, hFu, hCu⟩ := hu
  refine a_aload_n dX9_laysProfile_6 rfl rfl ?_
  refine a_iconst dX9_laysProfile_7 ?_
  refine a_putI (J := 30) fX9_278 k153 rfl rfl rfl dX9_laysProfile_8 ?_
  refine a_iconst dX9_laysProfile_11 ?_
  refine a_istore_n (ls' := [(3, ai 0), (0, ar 153), (1, ai s), (2, ai t)]) dX9_laysProfile_12 rfl (Nat.le_of_ble_eq_true rfl) rfl ?_
  have hF1 : Fr pPr σ (sN u 153 30 0) := (hFu.mono (fun c j h => by unfold pCa at h; unfold pPr; omega)).sN (by unfold pPr; omega)
  have hR1 := pPr_Rd hF1
  have hok := cand_ok hW hT hs0 hs1 ht0 ht1
  have hC1 : CdIs (sN u 153 30 0) (candL σ s t) := hCu.of (by rw [gN_sN, if_neg (by omega)]) (fun j => by rw [gN_sN, if_neg (by omega)]) (fun j => by rw [gN_sN, if_neg (by omega)]) (fun j => by rw [gN_sN, if_neg (by omega)])
  have hr := t_prof_o (sN u 153 30 0) s t (candL σ s t) (hR1.W hW) hC1 hok.1 (fun k q0 q1 => by have := cd_ok hok.2 q0 q1; unfold cdOK at this; omega) hs0 hs1 ht0 ht1 (candL σ s t).length 0 (sN u 153 30 0) [] (by omega) (by omega) (by omega) (by simp) (by simp) Fr.rfl ⟨by rw [gN_sN, if_pos ⟨rfl, rfl⟩]; rfl, fun k q h => by simp at h⟩ rfl
  refine RunA.mono (a_keep (by simp) hr) (fun r v h => ?_)
  obtain ⟨h1, h2, h3⟩ := h
  rw [hR1.1] at h3
  exact ⟨h1, hF1.trans (h2.mono (fun c j h => by unfold pKp at h; unfold pPr; omega)), pKp_Cd h2 hC1, h3⟩

