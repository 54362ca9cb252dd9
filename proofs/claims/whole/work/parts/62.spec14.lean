/-! Reading a text: the reference's state and what each of its methods makes of it. -/
def RS : Type := Tk × (Int × Int) × (Int → Int) × (Int → Int)
def mkR (t : Tk) (fa fp : Int) (f nm : Int → Int) : RS := (t, (fa, fp), f, nm)
def RS.tk (q : RS) : Tk := Prod.fst (α := Tk) (β := (Int × Int) × (Int → Int) × (Int → Int)) q
def RS.r2 (q : RS) : (Int × Int) × (Int → Int) × (Int → Int) := Prod.snd (α := Tk) (β := (Int × Int) × (Int → Int) × (Int → Int)) q
def RS.at_ (q : RS) : Int := q.tk.1
def RS.pl (q : RS) : Int := q.tk.2.1
def RS.so (q : RS) : Int := q.tk.2.2.1
def RS.va (q : RS) : Int := q.tk.2.2.2.1
def RS.wo (q : RS) : Int := q.tk.2.2.2.2
def RS.fa (q : RS) : Int := q.r2.1.1
def RS.fp (q : RS) : Int := q.r2.1.2
def RS.f (q : RS) : Int → Int := q.r2.2.1
def RS.nm (q : RS) : Int → Int := q.r2.2.2
def RS.wF (q : RS) (f : Int → Int) : RS := mkR q.tk q.fa q.fp f q.nm
def RS.wN (q : RS) (nm : Int → Int) : RS := mkR q.tk q.fa q.fp q.f nm
def RS.wT (q : RS) (t : Tk) : RS := mkR t q.fa q.fp q.f q.nm
def RS.wX (q : RS) (fa fp : Int) : RS := mkR q.tk fa fp q.f q.nm
abbrev pRd (c : Nat) (j : Int) : Prop := c = 156 ∨ c = 157 ∨ (c = 153 ∧ (7 ≤ j ∧ j ≤ 13))
def up1 (f : Int → Int) (j v : Int) : Int → Int := fun i => if i = j then v else f i
/-- the store holds this state -/
def RD (σ u : Sto) (q : RS) : Prop := (Fr pRd σ u) ∧ (gN u 153 7 = q.at_) ∧ (gN u 153 8 = q.pl) ∧ (gN u 153 9 = q.so) ∧ (gN u 153 10 = q.va) ∧ (gN u 153 11 = q.wo) ∧ (gN u 153 12 = q.fa) ∧ (gN u 153 13 = q.fp) ∧ (∀ j : Int, 0 ≤ j → j < 415 → gN u 156 j = q.f j) ∧ (∀ j : Int, 0 ≤ j → j < 10 → gN u 157 j = q.nm j)
theorem RD.F {σ u : Sto} {q : RS} (h : RD σ u q) : Fr pRd σ u := h.1
theorem RD.at_ {σ u : Sto} {q : RS} (h : RD σ u q) : gN u 153 7 = q.at_ := h.2.1
theorem RD.pl {σ u : Sto} {q : RS} (h : RD σ u q) : gN u 153 8 = q.pl := h.2.2.1
theorem RD.so {σ u : Sto} {q : RS} (h : RD σ u q) : gN u 153 9 = q.so := h.2.2.2.1
theorem RD.va {σ u : Sto} {q : RS} (h : RD σ u q) : gN u 153 10 = q.va := h.2.2.2.2.1
theorem RD.wo {σ u : Sto} {q : RS} (h : RD σ u q) : gN u 153 11 = q.wo := h.2.2.2.2.2.1
theorem RD.fa {σ u : Sto} {q : RS} (h : RD σ u q) : gN u 153 12 = q.fa := h.2.2.2.2.2.2.1
theorem RD.fp {σ u : Sto} {q : RS} (h : RD σ u q) : gN u 153 13 = q.fp := h.2.2.2.2.2.2.2.1
theorem RD.f {σ u : Sto} {q : RS} (h : RD σ u q) : ∀ j : Int, 0 ≤ j → j < 415 → gN u 156 j = q.f j := h.2.2.2.2.2.2.2.2.1
theorem RD.nm {σ u : Sto} {q : RS} (h : RD σ u q) : ∀ j : Int, 0 ≤ j → j < 10 → gN u 157 j = q.nm j := h.2.2.2.2.2.2.2.2.2
theorem RD.ifa {σ u : Sto} {q : RS} (h : RD σ u q) : inR q.fa := h.fa ▸ inR_gN _ _ _
theorem RD.ifp {σ u : Sto} {q : RS} (h : RD σ u q) : inR q.fp := h.fp ▸ inR_gN _ _ _
theorem RD.iso {σ u : Sto} {q : RS} (h : RD σ u q) : inR q.so := h.so ▸ inR_gN _ _ _
theorem RD.iva {σ u : Sto} {q : RS} (h : RD σ u q) : inR q.va := h.va ▸ inR_gN _ _ _
theorem RD.iwo {σ u : Sto} {q : RS} (h : RD σ u q) : inR q.wo := h.wo ▸ inR_gN _ _ _
theorem RD.ipl {σ u : Sto} {q : RS} (h : RD σ u q) : inR q.pl := h.pl ▸ inR_gN _ _ _
theorem RD.if_ {σ u : Sto} {q : RS} (h : RD σ u q) {j : Int} (h0 : 0 ≤ j) (h1 : j < 415) : inR (q.f j) := h.f j h0 h1 ▸ inR_gN _ _ _
theorem RD.inm {σ u : Sto} {q : RS} (h : RD σ u q) {j : Int} (h0 : 0 ≤ j) (h1 : j < 10) : inR (q.nm j) := h.nm j h0 h1 ▸ inR_gN _ _ _
theorem RD.pf {σ u : Sto} {q : RS} (h : RD σ u q) {j v : Int} (hv : inR v) : RD σ (sN u 156 j v) (q.wF (up1 q.f j v)) :=
  ⟨h.F.sN (Or.inl rfl), by rw [gN_sN, if_neg (by omega)]; exact h.at_, by rw [gN_sN, if_neg (by omega)]; exact h.pl, by rw [gN_sN, if_neg (by omega)]; exact h.so, by rw [gN_sN, if_neg (by omega)]; exact h.va, by rw [gN_sN, if_neg (by omega)]; exact h.wo, by rw [gN_sN, if_neg (by omega)]; exact h.fa, by rw [gN_sN, if_neg (by omega)]; exact h.fp,
   fun i h0 h1 => by
    show _ = up1 q.f j v i
    unfold up1
    rw [gN_sN]
    by_cases e : i = j
    · rw [if_pos ⟨rfl, e⟩, if_pos e, nrm_of hv]
    · rw [if_neg (by omega), if_neg e]; exact h.f i h0 h1, fun i h0 h1 => by rw [gN_sN, if_neg (by omega)]; exact h.nm i h0 h1⟩
theorem RD.pn {σ u : Sto} {q : RS} (h : RD σ u q) {j v : Int} (hv : inR v) : RD σ (sN u 157 j v) (q.wN (up1 q.nm j v)) :=
  ⟨h.F.sN (Or.inr (Or.inl rfl)), by rw [gN_sN, if_neg (by omega)]; exact h.at_, by rw [gN_sN, if_neg (by omega)]; exact h.pl, by rw [gN_sN, if_neg (by omega)]; exact h.so, by rw [gN_sN, if_neg (by omega)]; exact h.va, by rw [gN_sN, if_neg (by omega)]; exact h.wo, by rw [gN_sN, if_neg (by omega)]; exact h.fa, by rw [gN_sN, if_neg (by omega)]; exact h.fp,
   fun i h0 h1 => by rw [gN_sN, if_neg (by omega)]; exact h.f i h0 h1, fun i h0 h1 => by
    show _ = up1 q.nm j v i
    unfold up1
    rw [gN_sN]
    by_cases e : i = j
    · rw [if_pos ⟨rfl, e⟩, if_pos e, nrm_of hv]
    · rw [if_neg (by omega), if_neg e]; exact h.nm i h0 h1⟩
/-- what the reading needs to go through -/
def ROK (σ : Sto) (q : RS) : Prop := (0 ≤ q.at_ ∧ q.at_ ≤ gN σ 153 6) ∧ (0 ≤ q.f 0 ∧ q.f 0 ≤ 10) ∧ (0 ≤ q.f 1 ∧ q.f 1 ≤ 12) ∧ (0 ≤ q.f 2 ∧ q.f 2 ≤ 20) ∧ (0 ≤ q.f 3 ∧ q.f 3 ≤ 60)
theorem ROK.a {σ : Sto} {q : RS} (h : ROK σ q) : 0 ≤ q.at_ ∧ q.at_ ≤ gN σ 153 6 := h.1
theorem ROK.f0 {σ : Sto} {q : RS} (h : ROK σ q) : 0 ≤ q.f 0 ∧ q.f 0 ≤ 10 := h.2.1
theorem ROK.f1 {σ : Sto} {q : RS} (h : ROK σ q) : 0 ≤ q.f 1 ∧ q.f 1 ≤ 12 := h.2.2.1
theorem ROK.f2 {σ : Sto} {q : RS} (h : ROK σ q) : 0 ≤ q.f 2 ∧ q.f 2 ≤ 20 := h.2.2.2.1
theorem ROK.f3 {σ : Sto} {q : RS} (h : ROK σ q) : 0 ≤ q.f 3 ∧ q.f 3 ≤ 60 := h.2.2.2.2
def tkS (σ : Sto) (q : RS) : RS := q.wT (tokF (fun j => gN σ 154 j) (gN σ 153 6) q.tk)
def wrongF (k : Int) (q : RS) : RS := if q.fa = 0 then q.wX k q.pl else q
def gnF (σ : Sto) (q : RS) : RS := if q.fa = 0 then tkS σ q else q
abbrev othF (q : RS) : Prop := q.so = 0 ∧ q.va = -1
def nmdF (q : RS) : Int := fs2 (fun k => decide (q.nm k = q.wo)) (-1) (q.f 0).toNat 0
def nh1 (q : RS) : RS := if q.fa = 0 ∧ q.so ≠ 1 then wrongF 1 q else q
def nh2 (lo hi : Int) (q : RS) : RS := if q.fa = 0 ∧ (q.va < lo ∨ hi < q.va) then wrongF 2 q else q
def nhF (lo hi : Int) (q : RS) : RS := nh2 lo hi (nh1 q)
def nhV (lo hi : Int) (q : RS) : Int := if (nhF lo hi q).fa = 0 then (nhF lo hi q).va else lo
def sn1 (q : RS) : RS := if q.fa = 0 ∧ (¬ othF q ∨ nmdF q = -1) then wrongF 1 q else q
def stV (q : RS) : Int := if (sn1 q).fa = 0 then nmdF (sn1 q) else 0
def sn3 (but k : Int) (q : RS) : RS := if q.fa = 0 ∧ k = but then wrongF 3 q else q
def stpF (σ : Sto) (but : Int) (q : RS) : RS := gnF σ (sn3 but (stV q) (sn1 q))
def rs1 (q : RS) : RS := if q.f 0 = 10 then wrongF 2 q else q
def rs2 (q : RS) : RS := if q.fa = 0 ∧ ¬ othF q then wrongF 1 q else q
def rs3 (q : RS) : RS := if q.fa = 0 ∧ nmdF q ≠ -1 then wrongF 3 q else q
def rsE (w c : Int) (q : RS) : RS :=
  if q.fa = 0 then
    let a := q.wN (up1 q.nm (q.f 0) w)
    let b := a.wF (up1 a.f (5 + a.f 0) c)
    b.wF (up1 b.f 0 (b.f 0 + 1))
  else q
def rdStop (σ : Sto) (q : RS) : RS :=
  let a := rs3 (rs2 (gnF σ (rs1 q)))
  rsE a.wo (nhV 0 60 (gnF σ a)) (gnF σ (nhF 0 60 (gnF σ a)))
def rw1 (q : RS) : RS := if q.f 1 = 12 then wrongF 2 q else q
def rwE (a b n : Int) (q : RS) : RS :=
  if q.fa = 0 then
    let x := q.wF (up1 q.f 1 (q.f 1 + 1))
    if n < x.f (15 + 10 * a + b) then
      let y := x.wF (up1 x.f (15 + 10 * a + b) n)
      y.wF (up1 y.f (15 + 10 * b + a) n)
    else x
  else q
def rdWalk (σ : Sto) (q : RS) : RS :=
  let a0 := gnF σ (rw1 q)
  let a1 := stpF σ (-1) a0
  let a2 := stpF σ (stV a0) a1
  rwE (stV a0) (stV a1) (nhV 1 240 a2) (gnF σ (nhF 1 240 a2))
def rt1 (q : RS) : RS := if q.f 2 = 20 then wrongF 2 q else q
def rtA (q : RS) : RS := if q.so = 1 ∧ q.f 3 = 60 then wrongF 2 q else q
def rtB (x y : Int) (q : RS) : RS := if x < y then wrongF 4 q else q
def rtC (x y : Int) (q : RS) : RS := if x ≤ y then wrongF 4 q else q
def rtE (r fr to lv cm : Int) (q : RS) : RS :=
  let a := q.wF (up1 q.f r (q.f 2))
  let b := a.wF (up1 a.f (r + 1) fr)
  let c := b.wF (up1 b.f (r + 2) to)
  let d := c.wF (up1 c.f (r + 3) lv)
  let e := d.wF (up1 d.f (r + 4) cm)
  e.wF (up1 e.f 3 (e.f 3 + 1))
/-- the state, when a ride of a trip is read: what stands ahead of its rows; leaves, comes, to -/
def rtQ1 (σ : Sto) (ah : Int) (q : RS) : RS := gnF σ (rtB (nhV 0 1439 (rtA q)) ah (nhF 0 1439 (rtA q)))
def rtL (q : RS) : Int := nhV 0 1439 (rtA q)
def rtQ2 (σ : Sto) (ah : Int) (q : RS) : RS := gnF σ (rtC (nhV 0 1439 (rtQ1 σ ah q)) (rtL q) (nhF 0 1439 (rtQ1 σ ah q)))
def rtM (σ : Sto) (ah : Int) (q : RS) : Int := nhV 0 1439 (rtQ1 σ ah q)
def rtQ3 (σ : Sto) (fr ah : Int) (q : RS) : RS := stpF σ fr (rtQ2 σ ah q)
def rtT (σ : Sto) (ah : Int) (q : RS) : Int := stV (rtQ2 σ ah q)
def rtR (σ : Sto) (fr ah : Int) (q : RS) : RS := rtE (115 + 5 * q.f 3) fr (rtT σ ah q) (rtL q) (rtM σ ah q) (rtQ3 σ fr ah q)
/-- the rides of a trip -/
def rtF (σ : Sto) : Nat → Int → Int → RS → RS
  | 0, _, _, q => q
  | d + 1, fr, ah, q =>
    if (rtQ3 σ fr ah q).fa = 0 then
      if (rtR σ fr ah q).so = 1 then rtF σ d (rtT σ ah q) (rtM σ ah q) (rtR σ fr ah q)
      else (rtR σ fr ah q).wF (up1 (rtR σ fr ah q).f 2 ((rtR σ fr ah q).f 2 + 1))
    else rtQ3 σ fr ah q
def rdTrip (σ : Sto) (q : RS) : RS :=
  let a0 := gnF σ (rt1 q)
  let a1 := stpF σ (-1) a0
  if a1.fa = 0 then rtF σ 61 (stV a0) 0 a1 else a1
def rl1 (σ : Sto) (q : RS) : RS :=
  if q.so = 0 ∧ q.va = 0 then rdStop σ q else if q.so = 0 ∧ q.va = 1 then rdWalk σ q else if q.so = 0 ∧ q.va = 2 then rdTrip σ q else wrongF 1 q
def rl2 (q : RS) : RS := if q.fa = 0 ∧ q.so ≠ 2 then wrongF 1 q else q
def lineF (σ : Sto) (q : RS) : RS := let a := gnF σ (rl2 (rl1 σ q)); a.wF (up1 a.f 4 (nrm (a.f 4 + 1)))
/-- all lines -/
def linesF (σ : Sto) : Nat → RS → RS
  | 0, q => q
  | d + 1, q => if q.fa = 0 ∧ q.so ≠ 3 then linesF σ d (lineF σ q) else q
theorem wrong_ok {σ : Sto} {q : RS} (k : Int) (h : ROK σ q) : ROK σ (wrongF k q) := by
  unfold wrongF
  split
  · exact ⟨h.a, h.f0, h.f1, h.f2, h.f3⟩
  · exact h
theorem tok_at (T : Int → Int) (n : Int) (q : Tk) (h0 : 0 ≤ q.1) (h1 : q.1 ≤ n) : q.1 ≤ (tokF T n q).2.1 ∧ (tokF T n q).2.1 ≤ (tokF T n q).1 ∧ (tokF T n q).1 ≤ n ∧ ((tokF T n q).2.2.1 = 3 ∨ (tokF T n q).2.1 < (tokF T n q).1) := by
  have a := spn_ge (q := isBl T n) (n - q.1).toNat q.1
  have b := spn_ge (q := isSm T n) (n - spn (isBl T n) (n - q.1).toNat q.1).toNat (spn (isBl T n) (n - q.1).toNat q.1)
  have c := spn_ge (q := isDg T n) (n - spn (isBl T n) (n - q.1).toNat q.1).toNat (spn (isBl T n) (n - q.1).toNat q.1)
  unfold tokF
  dsimp only
  generalize hp : spn (isBl T n) (n - q.1).toNat q.1 = p at a b c ⊢
  have hlt : hrF T n p ≠ -1 → p < n := fun h => by
    apply Classical.byContradiction
    intro z
    apply h
    unfold hrF
    rw [if_neg z]
  split
  · exact ⟨a.1, Int.le_refl _, by show p ≤ n; omega, Or.inl rfl⟩
  · rename_i hc
    have hpn := hlt hc
    split
    · rename_i hs
      refine ⟨a.1, b.1, by show spn _ _ _ ≤ n; omega, Or.inr ?_⟩
      show p < spn (isSm T n) (n - p).toNat p
      rw [show (n - p).toNat = (n - p - 1).toNat + 1 by omega]
      unfold spn
      rw [if_pos (show isSm T n p = true from decide_eq_true hs)]
      have := spn_ge (q := isSm T n) (n - p - 1).toNat (p + 1)
      omega
    · split
      · rename_i hs
        refine ⟨a.1, c.1, by show spn _ _ _ ≤ n; omega, Or.inr ?_⟩
        show p < spn (isDg T n) (n - p).toNat p
        rw [show (n - p).toNat = (n - p - 1).toNat + 1 by omega]
        unfold spn
        rw [if_pos (show isDg T n p = true from decide_eq_true hs)]
        have := spn_ge (q := isDg T n) (n - p - 1).toNat (p + 1)
        omega
      · exact ⟨a.1, by show p ≤ p + 1; omega, by show p + 1 ≤ n; omega, Or.inr (by show p < p + 1; omega)⟩
theorem tkS_ok {σ : Sto} {q : RS} (h : ROK σ q) : ROK σ (tkS σ q) := by
  have a := tok_at (fun j => gN σ 154 j) (gN σ 153 6) q.tk h.a.1 h.a.2
  have b := h.a
  exact ⟨⟨by show 0 ≤ (tokF _ _ _).1; have : q.tk.1 = q.at_ := rfl; omega, a.2.2.1⟩, h.f0, h.f1, h.f2, h.f3⟩
theorem gn_ok {σ : Sto} {q : RS} (h : ROK σ q) : ROK σ (gnF σ q) := by
  unfold gnF
  split
  · exact tkS_ok h
  · exact h
theorem ite_ok {σ : Sto} {p : Prop} [Decidable p] {a b : RS} (h : ROK σ a) (k : ROK σ b) : ROK σ (if p then a else b) := by split <;> assumption
theorem nh_ok {σ : Sto} {q : RS} (lo hi : Int) (h : ROK σ q) : ROK σ (nhF lo hi q) := by
  have a : ROK σ (nh1 q) := ite_ok (wrong_ok 1 h) h
  exact ite_ok (wrong_ok 2 a) a
theorem st1_ok {σ : Sto} {q : RS} (h : ROK σ q) : ROK σ (sn1 q) := ite_ok (wrong_ok 1 h) h
theorem st3_ok {σ : Sto} {q : RS} (but k : Int) (h : ROK σ q) : ROK σ (sn3 but k q) := ite_ok (wrong_ok 3 h) h
theorem stp_ok {σ : Sto} {q : RS} (but : Int) (h : ROK σ q) : ROK σ (stpF σ but q) := gn_ok (st3_ok _ _ (st1_ok h))
