/-! Reading a text: the reference's tokens, told by the tape and the text's size. -/
/-- the reader's state: at, place, sort, value, word -/
abbrev Tk : Type := Int × Int × Int × Int × Int
def hrF (T : Int → Int) (n p : Int) : Int := if p < n then T p else -1
abbrev blk (c : Int) : Prop := c = 10 ∨ c = 32
abbrev sml (c : Int) : Prop := 97 ≤ c ∧ c ≤ 122
abbrev dig (c : Int) : Prop := 48 ≤ c ∧ c ≤ 57
/-- the first place from p on, of d, at which q doesn't hold -/
def spn (q : Int → Bool) : Nat → Int → Int
  | 0, p => p
  | d + 1, p => if q p = true then spn q d (p + 1) else p
def isBl (T : Int → Int) (n p : Int) : Bool := decide (blk (hrF T n p))
def isSm (T : Int → Int) (n p : Int) : Bool := decide (sml (hrF T n p))
def isDg (T : Int → Int) (n p : Int) : Bool := decide (dig (hrF T n p))
/-- the word's number, letter by letter, six at most -/
def wdF (T : Int → Int) (n pl : Int) : Nat → Int → Int → Int
  | 0, _, w => w
  | d + 1, p, w => if isSm T n p = true then wdF T n pl d (p + 1) (if p - pl < 6 then orI (shlI w 5) (hrF T n p - 97 + 1) else w) else w
def nmF (T : Int → Int) (n : Int) : Nat → Int → Int → Int
  | 0, _, v => v
  | d + 1, p, v => if isDg T n p = true then nmF T n d (p + 1) (if 99999 < v then v else 10 * v + hrF T n p - 48) else v
/-- which word of the language stands at pl -/
def wkF (T : Int → Int) (pl k i is : Int) : Int := andI is (if T (pl + i) = wdC (5 * k + i) then 1 else 0)
def wkB (T : Int → Int) (pl k : Int) : Bool := decide (itr (wkF T pl k) 4 0 1 ≠ 0)
def whF (T : Int → Int) (pl at_ : Int) : Int := if at_ - pl = 4 then fs2 (wkB T pl) (-1) 3 0 else -1
def tokF (T : Int → Int) (n : Int) (q : Tk) : Tk :=
  let p := spn (isBl T n) (n - q.1).toNat q.1
  let c := hrF T n p
  if c = -1 then (p, p, 3, q.2.2.2.1, q.2.2.2.2)
  else if sml c then
    let e := spn (isSm T n) (n - p).toNat p
    (e, p, if e - p ≤ 6 then 0 else 4, whF T p e, wdF T n p (n - p).toNat p 0)
  else if dig c then (spn (isDg T n) (n - p).toNat p, p, 1, nmF T n (n - p).toNat p 0, q.2.2.2.2)
  else (p + 1, p, if c = 59 then 2 else 4, q.2.2.2.1, q.2.2.2.2)
/-- the store holds this state: at, place, sort, value, word; tape and size are as they were -/
def TkIs (u : Sto) (q : Tk) : Prop := gN u 153 7 = q.1 ∧ gN u 153 8 = q.2.1 ∧ gN u 153 9 = q.2.2.1 ∧ gN u 153 10 = q.2.2.2.1 ∧ gN u 153 11 = q.2.2.2.2
abbrev pTk (c : Nat) (j : Int) : Prop := c = 153 ∧ (7 ≤ j ∧ j ≤ 11)
theorem spn_ge {q : Int → Bool} : ∀ (d : Nat) (p : Int), p ≤ spn q d p ∧ spn q d p ≤ p + d
  | 0, p => by unfold spn; omega
  | d + 1, p => by
    unfold spn
    have := spn_ge (q := q) d (p + 1)
    split <;> omega
/-- what a tape holds: bytes -/
def TpOK (σ : Sto) : Prop := ∀ j : Int, 0 ≤ gN σ 154 j ∧ gN σ 154 j ≤ 255
