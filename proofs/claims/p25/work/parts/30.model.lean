/-- a set of the line's parties has six players, each of its parties fits the party pt -/
def okF (np mn : Nat) (ck : Int32) (ar : Nat → Nat → Int32) (ln : Nat → Nat) (st : Int32) (pt i : Nat) : Bool := !hsI st (nI (mn - 1 - i)) || ftI ck (mnI np (ar 7 pt) (ar 1)) (mnI np (ar 7 (ln i)) (ar 1)) (ar 8 pt) (ar 8 (ln i))
def psF (np mn : Nat) (ck : Int32) (ar : Nat → Nat → Int32) (ln : Nat → Nat) (st : Int32) (pt : Nat) : Nat → Bool
  | 0 => decide (szI st ≤ 6) && decide (szI (plI mn st ln (ar 7) mn) = 6)
  | i + 1 => psF np mn ck ar ln st pt i && okF np mn ck ar ln st pt i
theorem psF_f {np mn : Nat} {ck : Int32} {ar : Nat → Nat → Int32} {ln : Nat → Nat} {st : Int32} {pt i : Nat} (h : psF np mn ck ar ln st pt i = false) : ∀ n, i ≤ n → psF np mn ck ar ln st pt n = false
  | 0, hn => by rw [show i = 0 by omega] at h; exact h
  | n + 1, hn => by
    by_cases e : i = n + 1
    · rw [← e]; exact h
    · show (psF np mn ck ar ln st pt n && _) = false
      rw [psF_f h n (by omega)]; rfl
/-- the arrays while a match m takes the line's parties of a set -/
def tkA (np m t : Nat) (A : Nat → Nat → Int32) : Nat → Nat → Int32 := va_up (va_up (va_up A 9 (va_up (A 9) t 0)) 10 (va_up (A 10) t (nI m))) 5 (becF np (A 7 t) 2 (A 5))
def mkA (np mn m : Nat) (ln : Nat → Nat) (st : Int32) (A : Nat → Nat → Int32) : Nat → (Nat → Nat → Int32)
  | 0 => A
  | i + 1 => if hsI st (nI (mn - 1 - i)) = true then tkA np m (ln i) (mkA np mn m ln st A i) else mkA np mn m ln st A i
theorem mkA_o {np mn m : Nat} {ln : Nat → Nat} {st : Int32} {A : Nat → Nat → Int32} {j : Nat} (h5 : j ≠ 5) (h9 : j ≠ 9) (h10 : j ≠ 10) : ∀ i, mkA np mn m ln st A i j = A j
  | 0 => rfl
  | i + 1 => by
    show (if hsI st (nI (mn - 1 - i)) = true then tkA np m (ln i) (mkA np mn m ln st A i) else mkA np mn m ln st A i) j = A j
    split
    · unfold tkA
      rw [va_up_ne _ _ h5, va_up_ne _ _ h10, va_up_ne _ _ h9]
      exact mkA_o h5 h9 h10 i
    · exact mkA_o h5 h9 h10 i
def hdA (nm : Nat) (t0 t1 df ck : Int32) (ar : Nat → Nat → Int32) : Nat → Nat → Int32 := fun j => if j = 11 then va_up (va_up (ar 11) (2 * nm) t0) (2 * nm + 1) t1 else if j = 12 then va_up (ar 12) nm df else if j = 13 then va_up (ar 13) nm ck else if j = 14 then va_up (ar 14) nm 0 else if j = 15 then va_up (ar 15) nm 0 else ar j
theorem hdA_eq (nm : Nat) (t0 t1 df ck : Int32) (ar : Nat → Nat → Int32) : va_up (va_up (va_up (va_up (va_up ar 11 (va_up (va_up (ar 11) (2 * nm) t0) (2 * nm + 1) t1)) 12 (va_up (ar 12) nm df)) 13 (va_up (ar 13) nm ck)) 14 (va_up (ar 14) nm 0)) 15 (va_up (ar 15) nm 0) = hdA nm t0 t1 df ck ar := by
  funext j
  unfold hdA
  by_cases e15 : j = 15
  · subst e15; rw [va_up_self]; rfl
  rw [va_up_ne _ _ e15]
  by_cases e14 : j = 14
  · subst e14; rw [va_up_self]; rfl
  rw [va_up_ne _ _ e14]
  by_cases e13 : j = 13
  · subst e13; rw [va_up_self]; rfl
  rw [va_up_ne _ _ e13]
  by_cases e12 : j = 12
  · subst e12; rw [va_up_self]; rfl
  rw [va_up_ne _ _ e12]
  by_cases e11 : j = 11
  · subst e11; rw [va_up_self, if_pos rfl]
  rw [va_up_ne _ _ e11, if_neg e11, if_neg e12, if_neg e13, if_neg e14, if_neg e15]
