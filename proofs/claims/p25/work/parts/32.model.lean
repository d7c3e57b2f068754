/-! the model's constructor -/
def mrf (m : Nat) (am : Nat → Nat) (i : Nat) : Value := if i ≤ m then .ref (am i) else .null
def miF (m : Nat) (am : Nat → Nat) : List Value := [.int 0, mrf m am 1, mrf m am 2, mrf m am 3, mrf m am 4, mrf m am 5, mrf m am 6, .int 0, mrf m am 7, mrf m am 8, mrf m am 9, mrf m am 10, .int 0, mrf m am 11, mrf m am 12, mrf m am 13, mrf m am 14, mrf m am 15, .int 0, .int 0, mrf m am 16, .int 0, .int 0, .int 0]
theorem mrf_ne {m : Nat} {am : Nat → Nat} {q i : Nat} (h : i ≠ m + 1) : mrf m am i = mrf (m + 1) (va_up am (m + 1) q) i := by
  unfold mrf
  rw [va_up_ne _ _ h]
  by_cases h2 : i ≤ m
  · rw [if_pos h2, if_pos (by omega)]
  · rw [if_neg h2, if_neg (by omega)]
