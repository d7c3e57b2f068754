/-- those of a match who have not accepted -/
def lateI (tm ac : Nat → Int32) (m : Nat) : Int32 := allI tm m &&& (ac m ^^^ (-1))
/-- the next penalty level, and its minutes -/
def lvI (x : Int32) : Int32 := x + (if 5 ≤ x then 0 else 1)
def mtI (x : Int32) : Int32 := 5 <<< ((lvI x - 1) &&& 31)
/-- the players' states while a match ends -/
def inB (mk : Nat → Int32) (b : Int32) : Nat → Int32 := fun k => if mk k &&& b = 0 then 1 else 0
def enF (np : Nat) (mk : Nat → Int32) (mo : Nat → Int32) (m b : Int32) (g : Nat → Int32) : Nat → (Nat → Int32)
  | 0 => g
  | k + 1 => if mo k = m then becF np (mk k) (inB mk b k) (enF np mk mo m b g k) else enF np mk mo m b g k
theorem enF_t {np : Nat} {mk mo : Nat → Int32} {m b : Int32} {g : Nat → Int32} {k : Nat} (h : mo k = m) : becF np (mk k) (inB mk b k) (enF np mk mo m b g k) = enF np mk mo m b g (k + 1) := (if_pos h).symm
theorem enF_f {np : Nat} {mk mo : Nat → Int32} {m b : Int32} {g : Nat → Int32} {k : Nat} (h : ¬ mo k = m) : enF np mk mo m b g k = enF np mk mo m b g (k + 1) := (if_neg h).symm
def eqB (a : Nat → Int32) (x : Int32) : Nat → Bool := fun k => decide (a k = x)
theorem inB_nar (mk : Nat → Int32) (b : Int32) (k : Nat) : narrow .boolean (.int (inB mk b k)) = .int (inB mk b k) := by
  unfold inB
  by_cases h : mk k &&& b = 0
  · rw [if_pos h]; decide
  · rw [if_neg h]; decide
def endA (np nt m : Nat) (b : Int32) (ar : Nat → Nat → Int32) : Nat → Nat → Int32 := fun j => if j = 5 then enF np (ar 7) (ar 10) (nI m) b (ar 5) nt else if j = 9 then ifF nt (eqB (ar 10) (nI m)) (inB (ar 7) b) (ar 9) else if j = 10 then ifF nt (eqB (ar 10) (nI m)) (fun _ => -1) (ar 10) else if j = 15 then va_up (ar 15) m 2 else ar j
theorem endA_of {np nt m : Nat} {b : Int32} {ar ar' : Nat → Nat → Int32} (h5 : ar' 5 = enF np (ar 7) (ar 10) (nI m) b (ar 5) nt) (h9 : ar' 9 = ifF nt (eqB (ar 10) (nI m)) (inB (ar 7) b) (ar 9)) (h10 : ar' 10 = ifF nt (eqB (ar 10) (nI m)) (fun _ => -1) (ar 10)) (h15 : ar' 15 = va_up (ar 15) m 2) (hoth : ∀ j, j ≠ 5 → j ≠ 9 → j ≠ 10 → j ≠ 15 → ar' j = ar j) : ar' = endA np nt m b ar := by
  funext j
  unfold endA
  by_cases e5 : j = 5
  · rw [if_pos e5, e5]; exact h5
  · rw [if_neg e5]
    by_cases e9 : j = 9
    · rw [if_pos e9, e9]; exact h9
    · rw [if_neg e9]
      by_cases e10 : j = 10
      · rw [if_pos e10, e10]; exact h10
      · rw [if_neg e10]
        by_cases e15 : j = 15
        · rw [if_pos e15, e15]; exact h15
        · rw [if_neg e15]; exact hoth j e5 e9 e10 e15
