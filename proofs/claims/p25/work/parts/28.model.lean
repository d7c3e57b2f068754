/-- the parties that queue, in their order -/
def qsL (q : Nat → Int32) : Nat → List Nat
  | 0 => []
  | i + 1 => if q i = 0 then qsL q i else qsL q i ++ [i]
def lnF (L : List Nat) (g : Nat → Int32) : Nat → Int32 := fun k => match L[k]? with
  | some x => nI x
  | none => g k
theorem lnF_0 (g : Nat → Int32) : lnF [] g = g := funext fun _ => rfl
theorem lnF_s (L : List Nat) (g : Nat → Int32) (i : Nat) : va_up (lnF L g) L.length (nI i) = lnF (L ++ [i]) g := by
  funext k
  unfold va_up lnF
  by_cases hk : k = L.length
  · subst hk
    rw [if_pos rfl, List.getElem?_append_right (Nat.le_refl _), Nat.sub_self]
    rfl
  · rw [if_neg hk]
    by_cases h2 : k < L.length
    · rw [List.getElem?_append_left h2]
    · rw [List.getElem?_append_right (by omega), List.getElem?_eq_none (by omega), List.getElem?_eq_none (by simp; omega)]
theorem qsL_len (q : Nat → Int32) (i : Nat) : (qsL q i).length ≤ (qsL q (i + 1)).length := by
  show _ ≤ (if q i = 0 then qsL q i else qsL q i ++ [i]).length
  by_cases h : q i = 0
  · rw [if_pos h]; exact Nat.le_refl _
  · rw [if_neg h]; simp
theorem qsL_mono (q : Nat → Int32) {i j : Nat} (h : i ≤ j) : (qsL q i).length ≤ (qsL q j).length := by
  induction j with
  | zero => rw [show i = 0 by omega]; exact Nat.le_refl _
  | succ j ih =>
    by_cases hij : i = j + 1
    · subst hij; exact Nat.le_refl _
    · exact Nat.le_trans (ih (by omega)) (qsL_len q j)
theorem va_up56 (sc : Nat → Int32) (a b a' b' : Int32) : va_up (va_up (va_up (va_up sc 5 a) 6 b) 6 b') 5 a' = va_up (va_up sc 5 a') 6 b' := by
  funext j
  simp only [va_up]
  by_cases h5 : j = 5
  · simp [h5]
  · by_cases h6 : j = 6
    · simp [h6]
    · simp [h5, h6]
/-- the last three players of a set -/
def scF (s : Int32) : Nat → Int32 × Int32 × Int32
  | 0 => (-1, -1, -1)
  | i + 1 => if hsI s (nI i) = true then (nI i, (scF s i).1, (scF s i).2.1) else scF s i
def cntN (p : Nat → Bool) : Nat → Nat
  | 0 => 0
  | i + 1 => cntN p i + (if p i = true then 1 else 0)
theorem bit_bI (s : Int32) (k : Int32) : (s >>> (k &&& 31)) &&& 1 = bI (hsI s k) := by
  by_cases h : (s >>> (k &&& 31)) &&& 1 = 0
  · rw [hs_eq h, h]; rfl
  · have h2 := hs_ne h
    rw [h2]
    unfold hsI at h2
    exact of_decide_eq_true h2
theorem szI_cnt (s : Int32) : ∀ n, sumI (fun k => (s >>> (nI k &&& 31)) &&& 1) n = nI (cntN (fun k => hsI s (nI k)) n)
  | 0 => rfl
  | n + 1 => by
    show sumI _ n + ((s >>> (nI n &&& 31)) &&& 1) = nI (cntN (fun k => hsI s (nI k)) n + (if hsI s (nI n) = true then 1 else 0))
    rw [szI_cnt s n, bit_bI]
    cases h : hsI s (nI n)
    · exact Int32.add_zero _
    · exact nI_1 _
theorem cntN_le (p : Nat → Bool) : ∀ n, cntN p n ≤ n
  | 0 => Nat.le_refl _
  | n + 1 => by
    have := cntN_le p n
    show cntN p n + _ ≤ _
    split <;> omega
theorem cntN_cut {p : Nat → Bool} {np : Nat} : ∀ {n : Nat}, np ≤ n → (∀ k, np ≤ k → k < n → p k = false) → cntN p n = cntN p np
  | 0, h, _ => by rw [show np = 0 by omega]
  | n + 1, h, hz => by
    by_cases e : np = n + 1
    · rw [e]
    · show cntN p n + _ = _
      rw [if_neg (by rw [hz n (by omega) (by omega)]; decide), cntN_cut (n := n) (by omega) (fun k h1 h2 => hz k h1 (by omega))]
      rfl
theorem scF_ok (s : Int32) : ∀ i, (1 ≤ cntN (fun k => hsI s (nI k)) i → ∃ j, j < i ∧ (scF s i).1 = nI j) ∧ (2 ≤ cntN (fun k => hsI s (nI k)) i → ∃ j, j < i ∧ (scF s i).2.1 = nI j) ∧ (3 ≤ cntN (fun k => hsI s (nI k)) i → ∃ j, j < i ∧ (scF s i).2.2 = nI j)
  | 0 => ⟨fun h => absurd h (Nat.not_succ_le_zero _), fun h => absurd h (Nat.not_succ_le_zero _), fun h => absurd h (Nat.not_succ_le_zero _)⟩
  | i + 1 => by
    obtain ⟨h1, h2, h3⟩ := scF_ok s i
    have e1 : cntN (fun k => hsI s (nI k)) (i + 1) = cntN (fun k => hsI s (nI k)) i + (if hsI s (nI i) = true then 1 else 0) := rfl
    have e2 : scF s (i + 1) = if hsI s (nI i) = true then (nI i, (scF s i).1, (scF s i).2.1) else scF s i := rfl
    by_cases h : hsI s (nI i) = true
    · rw [if_pos h] at e1 e2
      rw [e1, e2]
      refine ⟨fun _ => ⟨i, by omega, rfl⟩, fun q => ?_, fun q => ?_⟩
      · obtain ⟨j, a, b⟩ := h1 (by omega); exact ⟨j, by omega, b⟩
      · obtain ⟨j, a, b⟩ := h2 (by omega); exact ⟨j, by omega, b⟩
    · rw [if_neg h] at e1 e2
      rw [e1, e2]
      refine ⟨fun q => ?_, fun q => ?_, fun q => ?_⟩
      · obtain ⟨j, a, b⟩ := h1 (by omega); exact ⟨j, by omega, b⟩
      · obtain ⟨j, a, b⟩ := h2 (by omega); exact ⟨j, by omega, b⟩
      · obtain ⟨j, a, b⟩ := h3 (by omega); exact ⟨j, by omega, b⟩
theorem team3 {s : Int32} {np : Nat} (hp18 : np ≤ 18) (hb : ∀ k, np ≤ k → k < 18 → hsI s (nI k) = false) (h3 : szI s = 3) : ∃ j1 j2 j3, (j1 < np ∧ (scF s np).1 = nI j1) ∧ (j2 < np ∧ (scF s np).2.1 = nI j2) ∧ (j3 < np ∧ (scF s np).2.2 = nI j3) := by
  unfold szI at h3
  rw [szI_cnt, cntN_cut hp18 hb] at h3
  have hl := cntN_le (fun k => hsI s (nI k)) np
  have h4 : cntN (fun k => hsI s (nI k)) np = 3 := (nI_eq (b := 3) (by omega) (by decide)).mp h3
  obtain ⟨a, b, c⟩ := scF_ok s np
  obtain ⟨j1, q1⟩ := a (by omega)
  obtain ⟨j2, q2⟩ := b (by omega)
  obtain ⟨j3, q3⟩ := c (by omega)
  exact ⟨j1, j2, j3, q1, q2, q3⟩
/-- three players take three roles: the first of them the role i, for some i below n -/
def mrB (a b c : Int32) (i : Nat) : Bool := hsI a (nI i) && ((hsI b (nI ((i + 1) % 3)) && hsI c (nI ((i + 2) % 3))) || (hsI b (nI ((i + 2) % 3)) && hsI c (nI ((i + 1) % 3))))
def mB (a b c : Int32) : Nat → Bool
  | 0 => false
  | i + 1 => mB a b c i || mrB a b c i
def tmB (np : Nat) (ro : Nat → Int32) (s : Int32) : Bool := decide (szI s = 3) && mB (ro (scF s np).1.toNatClampNeg) (ro (scF s np).2.1.toNatClampNeg) (ro (scF s np).2.2.toNatClampNeg) 3
theorem nI_rem3 (a c : Nat) (h : a + c < 2 ^ 31) : (nI a + nI c) - (nI a + nI c) / 3 * 3 = nI ((a + c) % 3) := by
  rw [nI_add]
  exact pk_rem (d := 3) h (by decide) (by decide)
