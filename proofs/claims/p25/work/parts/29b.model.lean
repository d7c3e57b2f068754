theorem plI_gb {mn k : Nat} {s : Int32} {ln : Nat → Nat} {mem : Nat → Int32} (h : ∀ i, i < mn → gb (mem (ln i)) k = false) : ∀ n, n ≤ mn → gb (plI mn s ln mem n) k = false
  | 0, _ => gb_0 k
  | n + 1, hn => by
    show gb (plI mn s ln mem n ||| (if hsI s (nI (mn - 1 - n)) = true then mem (ln n) else 0)) k = false
    rw [gb_or, plI_gb h n (by omega), Bool.false_or]
    split
    · exact h n (by omega)
    · exact gb_0 k
/-- a split of the line's parties: the team 0, the team 1, how far they are apart; fi: the first party's bit, r: the others, p: those of them in the team 0 -/
def t0I (mn : Nat) (ar : Nat → Nat → Int32) (ln : Nat → Nat) (fi : Int32) (p : Nat) : Int32 := plI mn (nI p ||| fi) ln (ar 7) mn
def t1I (mn : Nat) (ar : Nat → Nat → Int32) (ln : Nat → Nat) (r p : Nat) : Int32 := plI mn (nI r &&& (nI p ^^^ (-1))) ln (ar 7) mn
def farI (np mn : Nat) (ar : Nat → Nat → Int32) (ln : Nat → Nat) (fi : Int32) (r p : Nat) : Int32 := absI (smI np (t0I mn ar ln fi p) (ar 1) - smI np (t1I mn ar ln r p) (ar 1))
def posB (np mn : Nat) (ar : Nat → Nat → Int32) (ln : Nat → Nat) (fi : Int32) (r p : Nat) : Bool := tmB np (ar 3) (t0I mn ar ln fi p) && tmB np (ar 3) (t1I mn ar ln r p)
def stS (np mn : Nat) (ar : Nat → Nat → Int32) (ln : Nat → Nat) (fi : Int32) (r p : Nat) (q : Int32 × Int32) : Int32 × Int32 :=
  if posB np mn ar ln fi r p = true ∧ (q.1 = 0 ∨ farI np mn ar ln fi r p < q.2) then (nI p ||| fi, farI np mn ar ln fi r p) else q
def spG (np mn : Nat) (ar : Nat → Nat → Int32) (ln : Nat → Nat) (fi : Int32) (r : Nat) : Nat → Nat → Int32 × Int32 → Int32 × Int32
  | 0, p, q => stS np mn ar ln fi r p q
  | n + 1, p, q => if p = 0 then stS np mn ar ln fi r p q else spG np mn ar ln fi r n ((p - 1) &&& r) (stS np mn ar ln fi r p q)
