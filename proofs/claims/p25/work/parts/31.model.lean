def lnQ (Q : List Nat) : Nat → Nat := fun i => Q.getD i 0
theorem lnF_at {Q : List Nat} {g : Nat → Int32} {i : Nat} (h : i < Q.length) : lnF Q g i = nI (lnQ Q i) := by
  unfold lnF lnQ
  rw [List.getElem?_eq_getElem h, List.getD_eq_getElem?_getD, List.getElem?_eq_getElem h]
  rfl
theorem qsL_in {q : Nat → Int32} : ∀ {n t : Nat}, t ∈ qsL q n → t < n ∧ ¬ q t = 0
  | 0, t, h => absurd h List.not_mem_nil
  | n + 1, t, h => by
    have e : qsL q (n + 1) = if q n = 0 then qsL q n else qsL q n ++ [n] := rfl
    by_cases h0 : q n = 0
    · rw [e, if_pos h0] at h
      obtain ⟨a, b⟩ := qsL_in h
      exact ⟨by omega, b⟩
    · rw [e, if_neg h0] at h
      rcases List.mem_append.mp h with h | h
      · obtain ⟨a, b⟩ := qsL_in h
        exact ⟨by omega, b⟩
      · rw [List.mem_singleton.mp h]
        exact ⟨by omega, h0⟩
theorem lnQ_in {q : Nat → Int32} {n i : Nat} (h : i < (qsL q n).length) : lnQ (qsL q n) i < n ∧ ¬ q (lnQ (qsL q n) i) = 0 := by
  refine qsL_in (n := n) ?_
  unfold lnQ
  rw [List.getD_eq_getElem?_getD, List.getElem?_eq_getElem h]
  exact List.getElem_mem h
theorem fi_rest {e x : Nat} (he : e < 31) (hx : x < 2 ^ e) : (nI (2 ^ e) ||| nI x) &&& (nI (2 ^ e) ^^^ (-1)) = nI x := gb_ext fun k hk => by
  rw [gb_and, gb_or, gb_not _ hk, gb_nI _ hk, gb_nI _ hk, Nat.testBit_two_pow]
  by_cases h : e = k
  · subst h
    rw [Nat.testBit_lt_two_pow hx]
    simp
  · rw [decide_eq_false h]
    simp
/-- what the first difference is doesn't matter -/
theorem stS_d {np mn : Nat} {ar : Nat → Nat → Int32} {ln : Nat → Nat} {fi : Int32} {r p : Nat} {q q' : Int32 × Int32} (h : q = q' ∨ (q.1 = 0 ∧ q'.1 = 0)) : stS np mn ar ln fi r p q = stS np mn ar ln fi r p q' ∨ ((stS np mn ar ln fi r p q).1 = 0 ∧ (stS np mn ar ln fi r p q').1 = 0) := by
  rcases h with h | ⟨h1, h2⟩
  · rw [h]; exact Or.inl rfl
  · unfold stS
    by_cases hp : posB np mn ar ln fi r p = true
    · rw [if_pos ⟨hp, Or.inl h1⟩, if_pos ⟨hp, Or.inl h2⟩]; exact Or.inl rfl
    · rw [if_neg (fun h => hp h.1), if_neg (fun h => hp h.1)]; exact Or.inr ⟨h1, h2⟩
theorem spG_d {np mn : Nat} {ar : Nat → Nat → Int32} {ln : Nat → Nat} {fi : Int32} {r : Nat} : ∀ (n p : Nat) {q q' : Int32 × Int32}, (q = q' ∨ (q.1 = 0 ∧ q'.1 = 0)) → spG np mn ar ln fi r n p q = spG np mn ar ln fi r n p q' ∨ ((spG np mn ar ln fi r n p q).1 = 0 ∧ (spG np mn ar ln fi r n p q').1 = 0)
  | 0, p, q, q', h => stS_d h
  | n + 1, p, q, q', h => by
    show (if p = 0 then _ else _) = (if p = 0 then _ else _) ∨ ((if p = 0 then _ else _ : Int32 × Int32).1 = 0 ∧ (if p = 0 then _ else _ : Int32 × Int32).1 = 0)
    by_cases hp : p = 0
    · rw [if_pos hp, if_pos hp]; exact stS_d h
    · rw [if_neg hp, if_neg hp]; exact spG_d n _ (stS_d h)
def PS (np mn : Nat) (ck : Int32) (ar : Nat → Nat → Int32) (ln : Nat → Nat) (k x : Nat) : Bool := psF np mn ck ar ln (nI (2 ^ (mn - 1 - k)) ||| nI x) (ln k) mn && decide (¬ (spG np mn ar ln (nI (2 ^ (mn - 1 - k))) x x x (0, 0)).1 = 0)
theorem PS_f1 {np mn : Nat} {ck : Int32} {ar : Nat → Nat → Int32} {ln : Nat → Nat} {k x : Nat} (h : psF np mn ck ar ln (nI (2 ^ (mn - 1 - k)) ||| nI x) (ln k) mn = false) : PS np mn ck ar ln k x = false := by unfold PS; rw [h]; rfl
theorem PS_f2 {np mn : Nat} {ck d : Int32} {ar : Nat → Nat → Int32} {ln : Nat → Nat} {k x : Nat} (h : (spG np mn ar ln (nI (2 ^ (mn - 1 - k))) x x x (0, d)).1 = 0) : PS np mn ck ar ln k x = false := by
  have h9 : (spG np mn ar ln (nI (2 ^ (mn - 1 - k))) x x x (0, 0)).1 = 0 := by
    rcases spG_d (np := np) (mn := mn) (ar := ar) (ln := ln) (fi := nI (2 ^ (mn - 1 - k))) (r := x) x x (q := (0, d)) (q' := (0, 0)) (Or.inr ⟨rfl, rfl⟩) with e | ⟨-, e⟩
    · rw [← e]; exact h
    · exact e
  unfold PS
  rw [decide_eq_false (not_not_intro h9), Bool.and_false]
theorem PS_t {np mn : Nat} {ck d : Int32} {ar : Nat → Nat → Int32} {ln : Nat → Nat} {k x : Nat} (h1 : psF np mn ck ar ln (nI (2 ^ (mn - 1 - k)) ||| nI x) (ln k) mn = true) (h : ¬ (spG np mn ar ln (nI (2 ^ (mn - 1 - k))) x x x (0, d)).1 = 0) : PS np mn ck ar ln k x = true ∧ spG np mn ar ln (nI (2 ^ (mn - 1 - k))) x x x (0, d) = spG np mn ar ln (nI (2 ^ (mn - 1 - k))) x x x (0, 0) := by
  rcases spG_d (np := np) (mn := mn) (ar := ar) (ln := ln) (fi := nI (2 ^ (mn - 1 - k))) (r := x) x x (q := (0, d)) (q' := (0, 0)) (Or.inr ⟨rfl, rfl⟩) with e | ⟨e, -⟩
  · refine ⟨?_, e⟩
    unfold PS
    rw [h1, decide_eq_true (by rw [← e]; exact h)]
    rfl
  · exact absurd e h
theorem va_up56' (sc : Nat → Int32) (a b a' b' : Int32) : va_up (va_up (va_up (va_up sc 5 a) 6 b) 5 a') 6 b' = va_up (va_up sc 5 a') 6 b' := by
  funext j
  simp only [va_up]
  by_cases h5 : j = 5
  · simp [h5]
  · by_cases h6 : j = 6
    · simp [h6]
    · simp [h5, h6]
