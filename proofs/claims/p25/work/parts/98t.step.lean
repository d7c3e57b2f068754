/-! ===== the steps ===== -/
theorem two_bits {np a b : Nat} (ha : a < np) (hb : b < np) (h18 : np ≤ 18) : ∃ Y, Y < 262144 ∧ q_bw np (nI Y) ∧ (JQ (nI Y) 18).length ≤ 3 ∧ nI (2 ^ a) ||| nI (2 ^ b) = nI Y := by
  have h0 : q_bw np (nI 0) := q_bw_0 np
  obtain ⟨a1, a2⟩ := bw_or1 h0 ha (by decide) h18
  obtain ⟨b1, b2⟩ := bw_or1 a1 hb a2 h18
  refine ⟨0 ||| 2 ^ a ||| 2 ^ b, b2, b1, ?_, by rw [nI_or, Nat.zero_or]⟩
  have h1 := JQ_or1 (Y := 0) (p := a) (by omega)
  have h2 := JQ_or1 (Y := 0 ||| 2 ^ a) (p := b) (by omega)
  have h3 : (JQ (nI 0) 18).length = 0 := by decide +kernel
  omega
theorem up_sm {α : Type} {g : Nat → α} {k : Nat} {x : α} (h : g k = x) : va_up g k x = g := by
  funext a
  by_cases ha : a = k
  · subst ha; rw [va_up_self, h]
  · rw [va_up_ne _ _ ha]
theorem eOk0 {P S Q M : Nat} (h : eOk P S Q M) : eOk P S 0 M := ⟨h.1, h.2.1, by decide, h.2.2.2⟩
theorem adF_r (fi : Nat → Nat → Int32) (n : Nat) (r ro : Int32) : adF fi n r ro 1 n = r := by
  unfold adF
  rw [fu_ne _ _ (Or.inl (by decide)), fu_ne _ _ (Or.inl (by decide)), fu_ne _ _ (Or.inl (by decide)), fu_self]
theorem adF_u (fi : Nat → Nat → Int32) (n : Nat) (r ro : Int32) : adF fi n r ro 2 n = 350 := by
  unfold adF
  rw [fu_ne _ _ (Or.inl (by decide)), fu_ne _ _ (Or.inl (by decide)), fu_self]
def adA (np : Nat) (r ro : Int32) (ar : Nat → Nat → Int32) : Nat → Nat → Int32 := fun j => if j = 1 then va_up (ar 1) np r else if j = 2 then va_up (ar 2) np 350 else if j = 3 then va_up (ar 3) np ro else ar j
theorem adA_o (np : Nat) (r ro : Int32) (ar : Nat → Nat → Int32) {j : Nat} (h1 : j ≠ 1) (h2 : j ≠ 2) (h3 : j ≠ 3) : adA np r ro ar j = ar j := by
  unfold adA
  rw [if_neg h1, if_neg h2, if_neg h3]
def leA (np p : Nat) (ar : Nat → Nat → Int32) : Nat → Nat → Int32 := fun j => if j = 5 then becF np (ar 7 p) 0 (ar 5) else if j = 9 then va_up (ar 9) p 0 else ar j
theorem leA_o (np p : Nat) (ar : Nat → Nat → Int32) {j : Nat} (h5 : j ≠ 5) (h9 : j ≠ 9) : leA np p ar j = ar j := by
  unfold leA
  rw [if_neg h5, if_neg h9]
section STs
variable {c : Nat} {fi : Nat → Nat → Int32} {z : CZ} {sc : Nat → Int32} {ar : Nat → Nat → Int32} {lq : Nat → Int64} {la : Nat → Nat → Int32} {P S Q M : Nat → Nat}
theorem ST.add (hS : SM c fi z sc ar) (hB : BR ar) (hI : IV c (zN z 0) (zN z 1) (zN z 2) ar lq la P S Q M) {R ro cap : Nat} (h17 : zN z 0 < 18) (hR : R ≤ 4000) (ho1 : 1 ≤ ro) (ho7 : ro ≤ 7) (hcap : cap ≤ 25) : SM c (adF fi (zN z 0) (nI R) (nI ro)) (zP z cap) (va_up sc 0 (nI (zN z 0 + 1))) (adA (zN z 0) (nI R) (nI ro) ar) ∧ BR (adA (zN z 0) (nI R) (nI ro) ar) ∧ IV c (zN z 0 + 1) (zN z 1) (zN z 2) (adA (zN z 0) (nI R) (nI ro) ar) lq (fu (fu la 2 (zN z 0) (nI ro)) 6 1 (nI (zN z 0 + 1))) P S Q M :=
  ⟨hS.add h17 hcap ⟨ro, ho1, by omega, rfl⟩ (va_up_self _ _ _) (fun j _ h => va_up_ne _ _ h) (fun j h1 h2 h3 => adA_o _ _ _ _ h1 h2 h3) rfl rfl rfl, hB.same (adA_o _ _ _ _ (by decide) (by decide) (by decide)) (adA_o _ _ _ _ (by decide) (by decide) (by decide)), hI.add hR h17 (hS.2.1.2 _ (Nat.le_refl _) h17).2.2 rfl rfl rfl (fun j h1 h2 h3 => adA_o _ _ _ _ h1 h2 h3)⟩
theorem ST.lea (hS : SM c fi z sc ar) (hB : BR ar) (hI : IV c (zN z 0) (zN z 1) (zN z 2) ar lq la P S Q M) {p : Nat} (hp : p < zN z 1) (hq : fi 7 p = 1) : SM c (fu fi 7 p 0) z sc (leA (zN z 0) p ar) ∧ BR (leA (zN z 0) p ar) ∧ IV c (zN z 0) (zN z 1) (zN z 2) (leA (zN z 0) p ar) (va_up lq p (lN (eN (P p) (S p) 0 (M p)))) la P S (va_up Q p 0) M :=
  ⟨hS.lea hp hq (fun _ _ => rfl) (fun j h5 h9 => leA_o _ _ _ h5 h9) rfl rfl, hB.same (leA_o _ _ _ (by decide) (by decide)) (leA_o _ _ _ (by decide) (by decide)), hI.lea hp rfl (fun j h5 h9 => leA_o _ _ _ h5 h9)⟩
end STs
def stP (G : GG) (A : Nat → Nat) (o c np nt what : Nat) (r : Option Value) (f' : Wo) : Prop := r = some (.int 1) ∧ ∃ c' np' nt' nm', c' ≤ c + 30 ∧ np ≤ np' ∧ (what = 0 → 1 ≤ np') ∧ nt' ≤ nt + 1 ∧ LW G A o f' c' np' nt' nm'
theorem cap2_le25 {SCp : Nat} {n : Nat} (h : SCp ≤ 25) (hn : n ≤ 17) : cap2 SCp n ≤ 25 := by
  unfold cap2 ncap
  by_cases h1 : n < SCp
  · rw [if_pos h1]; exact h
  · rw [if_neg h1]
    by_cases h2 : SCp = 0
    · rw [if_pos h2]; decide
    · rw [if_neg h2]
      have : max 1 (SCp / 2) ≤ 8 := Nat.max_le.mpr ⟨by decide, by omega⟩
      omega
