/-- changed where p says so, below n -/
def ifF (n : Nat) (p : Nat → Bool) (a b : Nat → Int32) : Nat → Int32 := fun k => if k < n ∧ p k = true then a k else b k
theorem ifF_0 (p : Nat → Bool) (a b : Nat → Int32) : ifF 0 p a b = b := funext fun k => if_neg (fun h => absurd h.1 (Nat.not_lt_zero k))
theorem ifF_t {i : Nat} {p : Nat → Bool} {a b : Nat → Int32} {x : Int32} (h : p i = true) (hx : x = a i) : va_up (ifF i p a b) i x = ifF (i + 1) p a b := by
  subst hx
  funext k
  unfold va_up ifF
  by_cases hk : k = i
  · subst hk
    rw [if_pos rfl, if_pos ⟨Nat.lt_succ_self k, h⟩]
  · rw [if_neg hk]
    by_cases h2 : k < i ∧ p k = true
    · rw [if_pos h2, if_pos ⟨by omega, h2.2⟩]
    · rw [if_neg h2, if_neg (fun h3 => h2 ⟨by omega, h3.2⟩)]
theorem ifF_f {i : Nat} {p : Nat → Bool} {a b : Nat → Int32} (h : p i = false) : ifF i p a b = ifF (i + 1) p a b := by
  funext k
  unfold ifF
  by_cases h2 : k < i ∧ p k = true
  · rw [if_pos h2, if_pos ⟨by omega, h2.2⟩]
  · rw [if_neg h2, if_neg (fun h3 => h2 ⟨by
      have : k ≠ i := fun e => by subst e; rw [h] at h3; cases h3.2
      omega, h3.2⟩)]
theorem ifF_i {i : Nat} {p : Nat → Bool} {a b : Nat → Int32} : ifF i p a b i = b i := if_neg (fun h => absurd h.1 (Nat.lt_irrefl i))
def smI (n : Nat) (s : Int32) (rt : Nat → Int32) : Int32 := sumI (fun k => if hsI s (nI k) = true then rt k else 0) n
theorem smI_t {i : Nat} {s : Int32} {rt : Nat → Int32} (h : hsI s (nI i) = true) : smI i s rt + rt i = smI (i + 1) s rt := by
  show _ = sumI _ i + (if hsI s (nI i) = true then rt i else 0)
  rw [if_pos h]; rfl
theorem smI_f {i : Nat} {s : Int32} {rt : Nat → Int32} (h : hsI s (nI i) = false) : smI i s rt + 0 = smI (i + 1) s rt := by
  show _ = sumI _ i + (if hsI s (nI i) = true then rt i else 0)
  rw [if_neg (by rw [h]; decide)]; rfl
def cntI (n : Nat) (q : Nat → Int32) : Int32 := sumI (fun k => if q k = 0 then 0 else 1) n
theorem cntI_t {i : Nat} {q : Nat → Int32} (h : q i = 0) : cntI i q + 0 = cntI (i + 1) q := by
  show _ = sumI _ i + (if q i = 0 then 0 else 1)
  rw [if_pos h]; rfl
theorem cntI_f {i : Nat} {q : Nat → Int32} (h : ¬ q i = 0) : cntI i q + 1 = cntI (i + 1) q := by
  show _ = sumI _ i + (if q i = 0 then 0 else 1)
  rw [if_neg h]; rfl
def wnI (ck si : Int32) : Int32 := 100 + 20 * (ck - si)
def absI (x : Int32) : Int32 := if 0 ≤ x then x else -x
def ftI (ck m1 m2 s1 s2 : Int32) : Bool := decide (absI (m1 - m2) ≤ wnI ck s1) && decide (absI (m1 - m2) ≤ wnI ck s2)
def mnI (n : Nat) (s : Int32) (rt : Nat → Int32) : Int32 := smI n s rt / szI s
/-- the players of the line's parties in a set -/
def plI (mn : Nat) (s : Int32) (ln : Nat → Nat) (mem : Nat → Int32) : Nat → Int32
  | 0 => 0
  | i + 1 => plI mn s ln mem i ||| (if hsI s (nI (mn - 1 - i)) = true then mem (ln i) else 0)
theorem plI_t {mn i : Nat} {s : Int32} {ln : Nat → Nat} {mem : Nat → Int32} (h : hsI s (nI (mn - 1 - i)) = true) : plI mn s ln mem i ||| mem (ln i) = plI mn s ln mem (i + 1) := by
  show _ = plI mn s ln mem i ||| (if hsI s (nI (mn - 1 - i)) = true then mem (ln i) else 0)
  rw [if_pos h]
theorem plI_f {mn i : Nat} {s : Int32} {ln : Nat → Nat} {mem : Nat → Int32} (h : hsI s (nI (mn - 1 - i)) = false) : plI mn s ln mem i ||| 0 = plI mn s ln mem (i + 1) := by
  show _ = plI mn s ln mem i ||| (if hsI s (nI (mn - 1 - i)) = true then mem (ln i) else 0)
  rw [if_neg (by rw [h]; decide)]
theorem nI_m1i {mn i : Nat} (h : i < mn) : nI mn - 1 - nI i = nI (mn - 1 - i) := by
  rw [show (1 : Int32) = nI 1 from rfl, pk_sub (by omega), pk_sub (by omega)]

theorem nI_2m (m : Nat) : 2 * nI m = nI (2 * m) := by rw [show (2 : Int32) = nI 2 from rfl, pk_mul]
theorem nI_2m1 (m : Nat) : nI (2 * m) + 1 = nI (2 * m + 1) := nI_1 _
def allI (tm : Nat → Int32) (m : Nat) : Int32 := tm (2 * m) ||| tm (2 * m + 1)
