def expA (np nt : Nat) (ck : Int32) (m : Nat) (ar : Nat → Nat → Int32) : Nat → Nat → Int32 := fun j => if j = 4 then ifF np (fun k => hsI (lateI (ar 11) (ar 14) m) (nI k)) (fun k => lvI (ar 4 k)) (ar 4) else if j = 6 then ifF np (fun k => hsI (lateI (ar 11) (ar 14) m) (nI k)) (fun k => ck + mtI (ar 4 k)) (ar 6) else endA np nt m (lateI (ar 11) (ar 14) m) ar j
theorem expA_of {np nt m : Nat} {ck : Int32} {ar ar' : Nat → Nat → Int32} (h4 : ar' 4 = ifF np (fun k => hsI (lateI (ar 11) (ar 14) m) (nI k)) (fun k => lvI (ar 4 k)) (ar 4)) (h6 : ar' 6 = ifF np (fun k => hsI (lateI (ar 11) (ar 14) m) (nI k)) (fun k => ck + mtI (ar 4 k)) (ar 6)) (hoth : ∀ j, j ≠ 4 → j ≠ 6 → ar' j = endA np nt m (lateI (ar 11) (ar 14) m) ar j) : ar' = expA np nt ck m ar := by
  funext j
  unfold expA
  by_cases e4 : j = 4
  · rw [if_pos e4, e4]; exact h4
  · rw [if_neg e4]
    by_cases e6 : j = 6
    · rw [if_pos e6, e6]; exact h6
    · rw [if_neg e6]; exact hoth j e4 e6
/-- one minute's look at the first i matches: arrays, and how many are off -/
def innA (np nt : Nat) (ck : Int32) : Nat → (Nat → Nat → Int32) × Int32 → (Nat → Nat → Int32) × Int32
  | 0, s => s
  | i + 1, s => if (innA np nt ck i s).1 15 i = 0 ∧ 3 ≤ ck - (innA np nt ck i s).1 13 i then (expA np nt ck i (innA np nt ck i s).1, (innA np nt ck i s).2 + 1) else innA np nt ck i s
theorem innA_f {np nt i : Nat} {ck : Int32} {s : (Nat → Nat → Int32) × Int32} (h : ¬ ((innA np nt ck i s).1 15 i = 0 ∧ 3 ≤ ck - (innA np nt ck i s).1 13 i)) : innA np nt ck (i + 1) s = innA np nt ck i s := if_neg h
theorem innA_t {np nt i : Nat} {ck : Int32} {s : (Nat → Nat → Int32) × Int32} (h : (innA np nt ck i s).1 15 i = 0 ∧ 3 ≤ ck - (innA np nt ck i s).1 13 i) : innA np nt ck (i + 1) s = (expA np nt ck i (innA np nt ck i s).1, (innA np nt ck i s).2 + 1) := if_pos h
def outA (np nt nm : Nat) (ck : Int32) (ar : Nat → Nat → Int32) : Nat → (Nat → Nat → Int32) × Int32
  | 0 => (ar, 0)
  | t + 1 => innA np nt (ck + nI (t + 1)) nm (outA np nt nm ck ar t)
