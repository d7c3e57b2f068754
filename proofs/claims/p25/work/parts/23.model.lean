def becF (n : Nat) (s x : Int32) (g : Nat → Int32) : Nat → Int32 := fun k => if k < n ∧ hsI s (nI k) = true then x else g k
theorem becF_0 (s x : Int32) (g : Nat → Int32) : becF 0 s x g = g := funext fun k => if_neg (fun h => absurd h.1 (Nat.not_lt_zero k))
theorem becF_t {i : Nat} {s x : Int32} {g : Nat → Int32} (h : hsI s (nI i) = true) : va_up (becF i s x g) i x = becF (i + 1) s x g := by
  funext k
  unfold va_up becF
  by_cases hk : k = i
  · subst hk
    rw [if_pos rfl, if_pos ⟨Nat.lt_succ_self k, h⟩]
  · rw [if_neg hk]
    by_cases h2 : k < i ∧ hsI s (nI k) = true
    · rw [if_pos h2, if_pos ⟨by omega, h2.2⟩]
    · rw [if_neg h2, if_neg (fun h3 => h2 ⟨by omega, h3.2⟩)]
theorem becF_f {i : Nat} {s x : Int32} {g : Nat → Int32} (h : hsI s (nI i) = false) : va_up (becF i s x g) i (g i) = becF (i + 1) s x g := by
  funext k
  unfold va_up becF
  by_cases hk : k = i
  · subst hk
    rw [if_pos rfl, if_neg (fun h3 => by rw [h] at h3; cases h3.2)]
  · rw [if_neg hk]
    by_cases h2 : k < i ∧ hsI s (nI k) = true
    · rw [if_pos h2, if_pos ⟨by omega, h2.2⟩]
    · rw [if_neg h2, if_neg (fun h3 => h2 ⟨by omega, h3.2⟩)]
theorem becF_i {i : Nat} {s x : Int32} {g : Nat → Int32} : becF i s x g i = g i := if_neg (fun h => absurd h.1 (Nat.lt_irrefl i))
theorem va_up_up {α : Type} (f : Nat → α) (k : Nat) (v w : α) : va_up (va_up f k v) k w = va_up f k w := by
  funext j
  unfold va_up
  by_cases h : j = k
  · rw [if_pos h, if_pos h]
  · rw [if_neg h, if_neg h, if_neg h]
theorem va_up_id {α : Type} (f : Nat → α) (k : Nat) : va_up f k (f k) = f := by
  funext j
  unfold va_up
  by_cases h : j = k
  · rw [if_pos h, h]
  · rw [if_neg h]
