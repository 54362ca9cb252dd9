/-! Class and reference answer alike: hubs; the latest start, the next. -/
def smZ (f : Int → Int) : Nat → Int → Int
  | 0, _ => 0
  | n + 1, i => f i + smZ f n (i + 1)
theorem smZ_add (f g : Int → Int) : ∀ (n : Nat) (i : Int), smZ (fun k => f k + g k) n i = smZ f n i + smZ g n i
  | 0, _ => rfl
  | n + 1, i => by
    show f i + g i + smZ (fun k => f k + g k) n (i + 1) = f i + smZ f n (i + 1) + (g i + smZ g n (i + 1))
    rw [smZ_add f g n (i + 1)]
    omega
theorem smZ_0 : ∀ (n : Nat) (i : Int), smZ (fun _ => 0) n i = 0
  | 0, _ => rfl
  | n + 1, i => by show 0 + smZ (fun _ => 0) n (i + 1) = 0; rw [smZ_0 n (i + 1)]; rfl
theorem smZ_swap (g : Int → Int → Int) (m : Nat) (j : Int) : ∀ (n : Nat) (i : Int), smZ (fun s => smZ (g s) m j) n i = smZ (fun t => smZ (fun s => g s t) n i) m j
  | 0, i => (smZ_0 m j).symm
  | n + 1, i => by
    show smZ (g i) m j + smZ (fun s => smZ (g s) m j) n (i + 1) = smZ (fun t => g i t + smZ (fun s => g s t) n (i + 1)) m j
    rw [smZ_add, smZ_swap g m j n (i + 1)]
theorem smZ_congr {f g : Int → Int} : ∀ (n : Nat) (i : Int), (∀ k, i ≤ k → k < i + n → f k = g k) → smZ f n i = smZ g n i
  | 0, _, _ => rfl
  | n + 1, i, h => by
    show f i + smZ f n (i + 1) = g i + smZ g n (i + 1)
    rw [h i (by omega) (by omega), smZ_congr n (i + 1) (fun k k0 k1 => h k (by omega) (by omega))]
theorem smZ_nn {f : Int → Int} (h : ∀ k, 0 ≤ f k) : ∀ (n : Nat) (i : Int), 0 ≤ smZ f n i
  | 0, _ => Int.le_refl _
  | n + 1, i => by have a := h i; have b := smZ_nn h n (i + 1); show 0 ≤ f i + smZ f n (i + 1); omega
theorem itr_add {F : Int → (Int → Int) → Int → Int} {c : Int → Int → Int} : ∀ (n : Nat) (i : Int) (E : Int → Int) (a : Int), (∀ k, i ≤ k → k < i + n → ∀ (E : Int → Int) (a : Int), F k E a = E a + c k a) → itr F n i E a = E a + smZ (fun k => c k a) n i
  | 0, _, E, a, _ => by show E a = E a + 0; omega
  | n + 1, i, E, a, h => by
    rw [itr_s, itr_add n (i + 1) (F i E) a (fun k k0 k1 => h k (by omega) (by omega)), h i (by omega) (by omega)]
    show E a + c i a + smZ (fun k => c k a) n (i + 1) = E a + (c i a + smZ (fun k => c k a) n (i + 1))
    omega
/-- how often one changes at a, by one of the profile; by all; if they are two -/
def cI (σ : Sto) (s t i a : Int) : Int := smZ (fun l => if a = gN σ 155 (115 + 5 * (lg (lgL σ s t (kx σ s t i)) l).2 + 2) then 1 else 0) ((lgL σ s t (kx σ s t i)).length - 1) 0
def cF_ (σ : Sto) (s t a : Int) : Int := smZ (fun i => cI σ s t i a) (pfK σ s t).length 0
def cT_ (σ : Sto) (s t a : Int) : Int := if s = t then 0 else cF_ σ s t a
theorem edI_c (σ : Sto) (s t i : Int) (E : Int → Int) (a : Int) : edI σ s t i E a = E a + cI σ s t i a := by
  unfold edI cI
  refine itr_add (c := fun l a => if a = gN σ 155 (115 + 5 * (lg (lgL σ s t (kx σ s t i)) l).2 + 2) then 1 else 0) _ _ _ _ (fun k _ _ E a => ?_)
  unfold edL
  split <;> omega
theorem edF_c (σ : Sto) (s t : Int) (E : Int → Int) (a : Int) : edF σ s t E a = E a + cF_ σ s t a := by
  unfold edF cF_
  exact itr_add _ _ _ _ (fun k _ _ E a => edI_c σ s t k E a)
theorem edT_c (σ : Sto) (s t : Int) (E : Int → Int) (a : Int) : edT σ s t E a = E a + cT_ σ s t a := by
  unfold edT cT_
  split
  · omega
  · exact edF_c σ s t E a
theorem hubE_c (σ : Sto) (a : Int) : hubE σ a = smZ (fun s => smZ (fun t => cT_ σ s t a) (gN σ 155 0).toNat 0) (gN σ 155 0).toNat 0 := by
  unfold hubE
  rw [itr_add (c := fun s a => smZ (fun t => cT_ σ s t a) (gN σ 155 0).toNat 0) _ _ _ _ (fun s _ _ E a => by unfold edS; exact itr_add _ _ _ _ (fun t _ _ E a => edT_c σ s t E a))]
  omega
theorem taF_eq {σ : Sto} (h : LW σ) {s t : Int} (hs : stp σ s) (ht : stp σ t) (E : Int → Int) : taF (lkN σ) s t E = edF σ s t E := by
  unfold taF edF
  rw [mk_len h hs ht]
  refine itr_congr _ _ _ (fun i i0 i1 E => ?_)
  unfold taI edI
  rw [ul_lg h hs ht i0 (by omega)]
  rfl
theorem hubC_c {σ : Sto} (h : LW σ) (a : Int) : hubC (lkN σ) a = smZ (fun t => smZ (fun s => cT_ σ s t a) (gN σ 155 0).toNat 0) (gN σ 155 0).toNat 0 := by
  have hS := h.1.2.1
  unfold hubC
  rw [show gN (lkN σ) 155 0 = gN σ 155 0 from rfl]
  rw [itr_add (c := fun t a => smZ (fun s => cT_ σ s t a) (gN σ 155 0).toNat 0) _ _ _ _ (fun t t0 t1 E a => ?_)]
  · omega
  · unfold taS
    refine itr_add _ _ _ _ (fun s s0 s1 E a => ?_)
    rw [show gN (lkN σ) 155 0 = gN σ 155 0 from rfl] at s1
    unfold taT cT_
    split
    · omega
    · rw [taF_eq h ⟨s0, by omega⟩ ⟨t0, by omega⟩]
      exact edF_c σ s t E a
theorem hub_eq {σ : Sto} (h : LW σ) : hubC (lkN σ) = hubE σ := by
  funext a
  rw [hubC_c h, hubE_c, smZ_swap]
theorem hub_nn (σ : Sto) (a : Int) : 0 ≤ hubE σ a := by
  rw [hubE_c]
  refine smZ_nn (fun s => smZ_nn (fun t => ?_) _ _) _ _
  unfold cT_
  split
  · omega
  · unfold cF_
    refine smZ_nn (fun i => ?_) _ _
    unfold cI
    refine smZ_nn (fun l => ?_) _ _
    split <;> omega
theorem hb_eq {E : Int → Int} (hE : ∀ a, 0 ≤ E a) : ∀ (n : Nat) (s b c : Int), 0 ≤ s → ((b = -2 ∧ E c = 0) ∨ (0 ≤ b ∧ b = c ∧ 0 < E c)) → ((itr (hbF E) n s b = -2 ∧ E (itr (hbC E) n s c) = 0) ∨ (0 ≤ itr (hbF E) n s b ∧ itr (hbF E) n s b = itr (hbC E) n s c ∧ 0 < E (itr (hbC E) n s c)))
  | 0, _, _, _, _, h => h
  | n + 1, s, b, c, h0, h => by
    rw [itr_s, itr_s]
    refine hb_eq hE n (s + 1) _ _ (by omega) ?_
    have e := hE s
    unfold hbF hbC
    rcases h with ⟨x, y⟩ | ⟨x, y, z⟩
    · rw [if_pos x, y]
      by_cases w : 0 < E s
      · rw [if_pos w, if_pos w]
        exact Or.inr ⟨h0, rfl, w⟩
      · rw [if_neg w, if_neg w]
        exact Or.inl ⟨x, y⟩
    · rw [if_neg (show ¬ b = -2 by omega), y]
      by_cases w : E c < E s
      · rw [if_pos w]
        exact Or.inr ⟨h0, rfl, by omega⟩
      · rw [if_neg w]
        exact Or.inr ⟨by omega, rfl, z⟩
theorem q_hub {σ : Sto} (h : LW σ) (what : Int) : cHub (lkN σ) what = hubF σ what := by
  unfold cHub hubF
  refine ite_congr rfl (fun _ => rfl) (fun c => ?_)
  have hS := h.1.2.1
  rw [hub_eq h, show gN (lkN σ) 155 0 = gN σ 155 0 from rfl]
  have nn := hub_nn σ
  have k : (itr (hbF (hubE σ)) (gN σ 155 0).toNat 0 (-2) = -2 ∧ hubE σ (itr (hbC (hubE σ)) (gN σ 155 0 - 1).toNat 1 0) = 0) ∨ (0 ≤ itr (hbF (hubE σ)) (gN σ 155 0).toNat 0 (-2) ∧ itr (hbF (hubE σ)) (gN σ 155 0).toNat 0 (-2) = itr (hbC (hubE σ)) (gN σ 155 0 - 1).toNat 1 0 ∧ 0 < hubE σ (itr (hbC (hubE σ)) (gN σ 155 0 - 1).toNat 1 0)) := by
    by_cases z : gN σ 155 0 = 0
    · rw [z]
      refine Or.inl ⟨rfl, ?_⟩
      show hubE σ 0 = 0
      rw [hubE_c, z]
      rfl
    · obtain ⟨n, hn⟩ : ∃ n, (gN σ 155 0).toNat = n + 1 := ⟨(gN σ 155 0).toNat - 1, by omega⟩
      rw [hn, itr_s, show (gN σ 155 0 - 1).toNat = n by omega]
      refine hb_eq nn n (0 + 1) _ _ (by omega) ?_
      have e := nn 0
      unfold hbF
      rw [if_pos rfl]
      by_cases w : 0 < hubE σ 0
      · rw [if_pos w]; exact Or.inr ⟨by omega, rfl, w⟩
      · rw [if_neg w]; exact Or.inl ⟨rfl, by omega⟩
  unfold hrC hubR
  rcases k with ⟨x, y⟩ | ⟨x, y, z⟩
  · rw [x, y, if_pos rfl, if_pos (Or.inl rfl)]
  · rw [if_neg (by omega), y]
    by_cases w : what = 0
    · rw [if_pos w, if_pos (Or.inr w)]
    · rw [if_neg w, if_neg (by omega)]
/-! departures and arrivals -/
theorem FE.later {ρ : Sto} (hW : WV ρ) (hO : OrdT ρ) {t v : Int} (ht0 : 0 ≤ t) (ht1 : t < gN ρ 155 0) : ∀ (n : Nat) (i : Int), 0 ≤ i → i < gN ρ 155 3 → FE ρ t v n i → gN ρ 162 i ≤ v
  | 0, i, h0, h1, h => by
    have y := hW.ride i h0 h1
    have z := hW.walk _ t y.2.2.1.1 y.2.2.1.2 ht0 ht1
    have := h.2
    unfold cmT at this
    omega
  | n + 1, i, h0, h1, h => by
    obtain ⟨k, a, ⟨k0, hk⟩, ka, a1, hc, hf⟩ := h
    have R := hW.R
    have ih := FE.later hW hO ht0 ht1 n a (by omega) a1 hf
    have l := lk_in hW h0 h1 k0 (by omega) hk
    have c := chain_le hO k0 ka a1 hc
    have o := hO.1 a (by omega) a1
    have r1 := hW.ride i h0 h1
    have r2 := hW.ride k k0 (by omega)
    have w := hW.tf _ _ r1.2.2.1.1 r1.2.2.1.2 r2.2.1.1 r2.2.1.2
    rw [← btw_tf] at w
    have q := l.2.2
    omega
theorem AR_later {ρ : Sto} (hW : WV ρ) (hO : OrdT ρ) {s t v c i : Int} (hs0 : 0 ≤ s) (hs1 : s < gN ρ 155 0) (ht0 : 0 ≤ t) (ht1 : t < gN ρ 155 0) (hv : v < 1000000) (hi : fsO ρ s i) (h : AR ρ t c i ≤ v) : dpF ρ s i < v := by
  have R := hW.R
  have z := (arL_le hW ht0 ht1 hv c.toNat (gN ρ 155 3 - i).toNat i hi.1.1 (by omega) (by omega)).mp h
  obtain ⟨n, n0, a, a0, a1, hc, hf⟩ := z.2
  have l := FE.later hW hO ht0 ht1 n a (by omega) a1 hf
  have k := chain_le hO hi.1.1 a0 a1 hc
  have o := hO.1 a (by omega) a1
  have r := hW.ride i hi.1.1 hi.1.2
  have w := hW.walk s _ hs0 hs1 r.2.1.1 r.2.1.2
  unfold dpF
  omega
/-- the earliest, by the rides one can be on first -/
theorem earl_AR {ρ : Sto} (hW : WV ρ) {s t m : Int} (hs0 : 0 ≤ s) (hs1 : s < gN ρ 155 0) (ht0 : 0 ≤ t) (ht1 : t < gN ρ 155 0) (hm : 0 ≤ m) {v : Int} (hv : v < 1000000) : earliestF ρ s t m 4 ≤ v ↔ (gN ρ 155 (15 + 10 * s + t) < 1000000 ∧ m + gN ρ 155 (15 + 10 * s + t) ≤ v) ∨ ∃ i, fsO ρ s i ∧ m ≤ dpF ρ s i ∧ AR ρ t 4 i ≤ v := by
  have R := hW.R
  have e := earl_le hW (t := t) (k := 4) hs0 hs1 hm hv
  rw [show ((4 : Nat) : Int) = 4 from rfl] at e
  rw [e]
  have st : ∀ (n : Nat), (∃ j, 0 ≤ j ∧ j < gN ρ 155 3 ∧ RcN ρ s m n j ∧ wkO ρ t j ∧ cmT ρ t j ≤ v) ↔ ∃ i, (0 ≤ i ∧ i < gN ρ 155 3) ∧ bd0 ρ s m i ∧ FM ρ t v n i := by
    intro n
    have z := setN_FE hW (X := staysF ρ (itr (e0F ρ s m) (gN ρ 155 3).toNat 0 0)) (t := t) (v := v) n 0
    have sn := setN_iff hW (s := s) (m := m) hs0 hs1 hm
    constructor
    · rintro ⟨j, j0, j1, hr, hw, hc⟩
      obtain ⟨a, a0, a1, ha, hf⟩ := z.mp ⟨j, j0, j1, (sn n j j0 j1).mpr hr, hw, hc⟩
      rw [show 0 + n = n by omega] at hf
      obtain ⟨k, k0, k1, hb, hk⟩ := (sn 0 a a0 a1).mp ha
      exact ⟨k, ⟨k0, by omega⟩, hb, a, k1, a1, hk, hf⟩
    · rintro ⟨i, ⟨i0, i1⟩, hb, a, ia, a1, hc, hf⟩
      obtain ⟨j, j0, j1, hj, hw, hq⟩ := z.mpr ⟨a, by omega, a1, (sn 0 a (by omega) a1).mpr ⟨i, i0, ia, hb, hc⟩, by rw [show 0 + n = n by omega]; exact hf⟩
      exact ⟨j, j0, j1, (sn n j j0 j1).mp hj, hw, hq⟩
  refine or_congr Iff.rfl ⟨?_, ?_⟩
  · rintro ⟨a, j, a0, j0, j1, r, w, c⟩
    obtain ⟨i, hi, hb, hf⟩ := (st a).mp ⟨j, j0, j1, r, w, c⟩
    have hn : ¬ cnc ρ i := by rw [cnc_iff hi.1 (by omega), hb.1]; decide
    have hd : m ≤ dpF ρ s i := hb.2
    exact ⟨i, ⟨hi, by omega, hn⟩, hd, (arL_le hW ht0 ht1 hv 4 (gN ρ 155 3 - i).toNat i hi.1 (by omega) (by omega)).mpr ⟨hn, a, a0, hf⟩⟩
  · rintro ⟨i, hi, hd, ha⟩
    obtain ⟨hn, n, n0, hf⟩ := (arL_le hW ht0 ht1 hv 4 (gN ρ 155 3 - i).toNat i hi.1.1 (by omega) (by omega)).mp ha
    have hb : bd0 ρ s m i := ⟨by rw [cnc_iff hi.1.1 (by omega)] at hn; exact Bool.eq_false_iff.mpr hn, hd⟩
    obtain ⟨j, j0, j1, r, w, c⟩ := (st n).mpr ⟨i, hi.1, hb, hf⟩
    exact ⟨n, j, n0, j0, j1, r, w, c⟩
theorem ld_ge {ρ : Sto} {s t m : Int} {K : List Int} (hs : K.Pairwise (dlt ρ s)) : ∀ (n : Nat), n ≤ K.length → ∀ x, 0 ≤ x → (x ≤ ldF ρ s t K m n ↔ ∃ p : Nat, p < n ∧ AR ρ t 4 (K.getD p 0) ≤ m ∧ x ≤ dpF ρ s (K.getD p 0))
  | 0, _, x, h0 => ⟨fun h => by have : x ≤ -1 := h; omega, fun ⟨p, hp, _⟩ => by omega⟩
  | n + 1, hn, x, h0 => by
    unfold ldF
    by_cases c : AR ρ t 4 (K.getD n 0) ≤ m
    · rw [if_pos c]
      refine ⟨fun h => ⟨n, by omega, c, h⟩, fun ⟨p, hp, _, hx⟩ => ?_⟩
      by_cases z : p = n
      · rw [z] at hx; exact hx
      · have := pw_getD hs (show p < n by omega) (by omega)
        unfold dlt at this
        omega
    · rw [if_neg c, ld_ge hs n (by omega) x h0]
      refine ⟨fun ⟨p, hp, r⟩ => ⟨p, by omega, r⟩, fun ⟨p, hp, r⟩ => ⟨p, ?_, r⟩⟩
      by_cases z : p = n
      · rw [z] at r; exact absurd r.1 c
      · omega
theorem mem_ix {K : List Int} {p : Int → Prop} : (∃ n : Nat, n < K.length ∧ p (K.getD n 0)) ↔ ∃ x ∈ K, p x := ⟨fun ⟨n, hn, h⟩ => ⟨_, getD_in hn, h⟩, fun ⟨x, hx, h⟩ => by
  obtain ⟨n, hn, e⟩ := mem_getD hx
  exact ⟨n, hn, by rw [e]; exact h⟩⟩
theorem ldV_ge {ρ : Sto} (hW : WV ρ) {s t m x : Int} (h0 : 0 ≤ x) : x ≤ ldV ρ s t m ↔ ∃ i, fsO ρ s i ∧ AR ρ t 4 i ≤ m ∧ x ≤ dpF ρ s i := by
  have o := ord_sorted hW.R.1 s
  unfold ldV
  rw [ld_ge o.1 _ (Nat.le_refl _) x h0]
  have z := mem_ix (K := ordL ρ s) (p := fun i => AR ρ t 4 i ≤ m ∧ x ≤ dpF ρ s i)
  rw [z]
  exact ⟨fun ⟨i, hi, r⟩ => ⟨i, (o.2 i).mp hi, r⟩, fun ⟨i, hi, r⟩ => ⟨i, (o.2 i).mpr hi, r⟩⟩
theorem ldV_lo {ρ : Sto} {s t m : Int} (hW : WV ρ) : -1 ≤ ldV ρ s t m := by
  have o := ord_sorted hW.R.1 s
  have : ∀ n : Nat, n ≤ (ordL ρ s).length → -1 ≤ ldF ρ s t (ordL ρ s) m n := by
    intro n
    induction n with
    | zero => intro _; show (-1 : Int) ≤ -1; omega
    | succ n ih =>
      intro hn
      unfold ldF
      split
      · have := ((o.2 _).mp (getD_in (K := ordL ρ s) (n := n) (by omega))).2.1
        omega
      · exact ih (by omega)
  exact this _ (Nat.le_refl _)
theorem la_ge {L : List Cd} {m : Int} : ∀ (n : Nat) (k b x : Int), 0 ≤ k → k + n ≤ L.length → (x ≤ itr (laF L m) n k b ↔ x ≤ b ∨ ∃ j, k ≤ j ∧ j < k + n ∧ (cd L j).2.1 ≤ m ∧ x ≤ (cd L j).1)
  | 0, k, b, x, _, _ => ⟨Or.inl, fun h => h.elim id (fun ⟨j, j0, j1, _⟩ => by omega)⟩
  | n + 1, k, b, x, h0, h1 => by
    rw [itr_s, la_ge n (k + 1) _ x (by omega) (by omega)]
    have e : x ≤ laF L m k b ↔ x ≤ b ∨ ((cd L k).2.1 ≤ m ∧ x ≤ (cd L k).1) := by
      unfold laF
      split <;> omega
    rw [e]
    constructor
    · rintro ((h | h) | ⟨j, j0, j1, r⟩)
      · exact Or.inl h
      · exact Or.inr ⟨k, by omega, by omega, h⟩
      · exact Or.inr ⟨j, by omega, by omega, r⟩
    · rintro (h | ⟨j, j0, j1, r⟩)
      · exact Or.inl (Or.inl h)
      · by_cases z : j = k
        · rw [z] at r; exact Or.inl (Or.inr r)
        · exact Or.inr ⟨j, by omega, by omega, r⟩
theorem cd_ix {L : List Cd} {p : Cd → Prop} : (∃ j : Int, 0 ≤ j ∧ j < 0 + (L.length : Int) ∧ p (cd L j)) ↔ ∃ q ∈ L, p q := ⟨fun ⟨j, j0, j1, h⟩ => ⟨_, cd_mem j0 (by omega), h⟩, fun ⟨q, hq, h⟩ => by
  obtain ⟨k, hk, e⟩ := List.mem_iff_getElem.mp hq
  refine ⟨k, by omega, by omega, ?_⟩
  have ek : cd L (k : Int) = q := by
    unfold cd
    rw [show ((k : Int)).toNat = k by omega, List.getD_eq_getElem?_getD, List.getElem?_eq_getElem hk]
    exact e
  rw [ek]
  exact h⟩
/-- rides one can be on first, and candidates -/
theorem fs_cand {ρ : Sto} (hW : WV ρ) {s t v : Int} {p : Int → Prop} (hs0 : 0 ≤ s) (hs1 : s < gN ρ 155 0) (ht0 : 0 ≤ t) (ht1 : t < gN ρ 155 0) (hv : v < 1000000) : (∃ i, fsO ρ s i ∧ AR ρ t 4 i ≤ v ∧ p (dpF ρ s i)) ↔ ∃ q ∈ candL ρ s t, q.2.1 ≤ v ∧ p q.1 := by
  constructor
  · rintro ⟨i, hi, ha, hp⟩
    obtain ⟨q, hq, q1, q2, _⟩ := (cand_by hW hs0 hs1 ht0 ht1 hv (c := 4) (by omega) (by omega) hi).mp ha
    exact ⟨q, hq, q2, by rw [q1]; exact hp⟩
  · rintro ⟨q, hq, hv', hp⟩
    obtain ⟨i, hi, n, hn, hl, e⟩ := (cand_mem hW hs0 hs1 q).mp hq
    have e1 : q.1 = dpF ρ s i := by rw [e]
    have e2 : q.2.1 = AN ρ t n i := by rw [e]
    refine ⟨i, hi, ?_, by rw [← e1]; exact hp⟩
    exact (arL_AN hW ht0 ht1 hv (c := 4) hi.1.1 hi.1.2 hi.2.2).mpr ⟨n, hn, by omega⟩
theorem eq_of_ge {x y : Int} (hx : x = -2 ∨ 0 ≤ x) (hy : y = -2 ∨ 0 ≤ y) (h : ∀ v : Int, 0 ≤ v → (v ≤ x ↔ v ≤ y)) : x = y := by
  have a := h x
  have b := h y
  omega
theorem lat_eq {σ : Sto} (h : LW σ) {s t m : Int} (hs : stp σ s) (ht : stp σ t) (hm0 : 0 ≤ m) (hm1 : m ≤ 2000) : lsV (lkN σ) s t m = latF σ s t m := by
  have w := h.V.walk s t hs.1 hs.2 ht.1 ht.2
  rw [show gN (lkN σ) 155 (15 + 10 * s + t) = gN σ 155 (15 + 10 * s + t) from rfl] at w
  have lo := ldV_lo (s := s) (t := t) (m := m) h.V
  have ge : ∀ x, x ≤ latF σ s t m ↔ x ≤ (if gN σ 155 (15 + 10 * s + t) ≤ m then m - gN σ 155 (15 + 10 * s + t) else -2) ∨ ∃ q ∈ pfL σ s t, q.2.1 ≤ m ∧ x ≤ q.1 := by
    intro x
    unfold latF
    rw [la_ge _ _ _ x (by omega) (by omega), cd_ix (L := pfL σ s t) (p := fun q => q.2.1 ≤ m ∧ x ≤ q.1)]
  have hc : ∀ x, (∃ q ∈ pfL σ s t, q.2.1 ≤ m ∧ x ≤ q.1) ↔ ∃ i, fsO (lkN σ) s i ∧ AR (lkN σ) t 4 i ≤ m ∧ x ≤ dpF (lkN σ) s i := fun x => (fs_cand h.V (p := fun d => x ≤ d) hs.1 hs.2 ht.1 ht.2 (by omega)).symm
  refine eq_of_ge ?_ ?_ (fun v v0 => ?_)
  · unfold lsV; split <;> omega
  · have a := (ge (latF σ s t m)).mp (Int.le_refl _)
    have b := (ge _).mpr (Or.inl (Int.le_refl _))
    by_cases z : 0 ≤ latF σ s t m
    · exact Or.inr z
    · rcases a with a | ⟨q, hq, q1, q2⟩
      · by_cases y : gN σ 155 (15 + 10 * s + t) ≤ m
        · rw [if_pos y] at a b; omega
        · rw [if_neg y] at a b; omega
      · obtain ⟨i, hi, _⟩ := (cand_mem h.V hs.1 hs.2 q).mp hq
        have c := (ge q.1).mpr (Or.inr ⟨q, hq, q1, Int.le_refl _⟩)
        obtain ⟨j, hj, n, _, _, e⟩ := (cand_mem h.V hs.1 hs.2 q).mp hq
        have e1 : q.1 = dpF (lkN σ) s j := by rw [e]
        have := hj.2.1
        omega
  · rw [ge v, hc v, ← ldV_ge h.V v0]
    unfold lsV lsM mxI
    rw [show gN (lkN σ) 155 (15 + 10 * s + t) = gN σ 155 (15 + 10 * s + t) from rfl]
    split <;> split <;> (try split at *) <;> omega
theorem q_latest {σ : Sto} (h : LW σ) (s t m : Int) : cLatest (lkN σ) s t m = latestQ σ s t m := by
  unfold cLatest latestQ
  refine ite_congr rfl (fun _ => rfl) (fun c => ?_)
  have hs : stp σ s := ⟨by omega, by omega⟩
  have ht : stp σ t := ⟨by omega, by omega⟩
  by_cases e : s = t
  · subst e
    rw [if_pos rfl]
    have d := SO_self h.V h.O hs.1 hs.2 (m := 0) (k := 0) (by omega) (by omega) (by omega)
    have w : gN (lkN σ) 155 (15 + 10 * s + s) = 0 := h.V.2.1.2.2.1 s hs.1 (by have := h.1.2.1; omega)
    have lo : ldV (lkN σ) s s m ≤ m := by
      by_cases z : 0 ≤ ldV (lkN σ) s s m
      · obtain ⟨i, hi, ha, hd⟩ := (ldV_ge h.V z).mp (Int.le_refl _)
        have := AR_later h.V h.O hs.1 hs.2 hs.1 hs.2 (by omega) hi ha
        omega
      · omega
    unfold lsV lsM mxI
    rw [w]
    split <;> split <;> (try split at *) <;> omega
  · rw [if_neg e]
    exact lat_eq h hs ht (by omega) (by omega)
theorem q_stay {σ : Sto} (h : LW σ) (s t m z : Int) : cStay (lkN σ) s t m z = stayF σ s t m z := by
  unfold cStay stayF
  refine ite_congr rfl (fun _ => rfl) (fun c => ?_)
  have hs : stp σ s := ⟨by omega, by omega⟩
  have ht : stp σ t := ⟨by omega, by omega⟩
  have e := lat_eq h ht hs (m := z) (by omega) (by omega)
  rw [SO_eq h.V h.O hs.1 hs.2 ht.1 ht.2 (by omega) (by omega) (by omega), e]
  refine ite_congr ?_ (fun _ => rfl) (fun _ => rfl)
  have : latF σ t s z = -2 ∨ 0 ≤ latF σ t s z := by rw [← e]; unfold lsV; split <;> omega
  exact propext ⟨fun x => x.elim Or.inl (fun y => Or.inr (by omega)), fun x => x.elim Or.inl (fun y => Or.inr (by omega))⟩
