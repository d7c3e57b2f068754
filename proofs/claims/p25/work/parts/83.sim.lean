/-! ===== the class's state and the model's ===== -/
def S0 (c : Nat) (fi : Nat → Nat → Int32) (z : CZ) (sc : Nat → Int32) : Prop := sc 0 = nI (zN z 0) ∧ sc 1 = nI (zN z 1) ∧ sc 2 = nI (zN z 2) ∧ sc 3 = nI c ∧ fi 18 0 = nI c ∧ zN z 0 ≤ 18 ∧ zN z 1 ≤ 100 ∧ zN z 2 ≤ 512 ∧ c ≤ 100000
def SP (fi : Nat → Nat → Int32) (z : CZ) (ar : Nat → Nat → Int32) : Prop := (∀ k, k < zN z 0 → fi 1 k = ar 1 k ∧ fi 2 k = ar 2 k ∧ fi 0 k = ar 3 k ∧ fi 3 k = ar 4 k ∧ fi 4 k = ar 6 k ∧ stC fi (zA z k) = ar 5 k ∧ (∃ v, v ≤ 5 ∧ fi 3 k = nI v) ∧ ∃ r, 0 < r ∧ r < 8 ∧ fi 0 k = nI r) ∧ ∀ k, zN z 0 ≤ k → k < 18 → ar 4 k = 0 ∧ ar 5 k = 0 ∧ ar 6 k = 0
def ST (c : Nat) (fi : Nat → Nat → Int32) (z : CZ) (ar : Nat → Nat → Int32) : Prop := ∀ t, t < zN z 1 → fi 5 t = ar 7 t ∧ fi 6 t = ar 8 t ∧ zL z (11, t) = JQ (fi 5 t) 18 ∧ q_bw (zN z 0) (fi 5 t) ∧ (1 ≤ (zL z (11, t)).length ∧ (zL z (11, t)).length ≤ 3) ∧ fi 8 t = rcL fi (zL z (11, t)) ∧ ar 9 t = bI (decide (fi 7 t = 1)) ∧ (fi 7 t = 0 ∨ fi 7 t = 1 ∨ fi 7 t = 2) ∧ ∃ s, s ≤ c ∧ fi 6 t = nI s
def SL (fi : Nat → Nat → Int32) (z : CZ) : Prop := (∀ k, k < zN z 0 → ∀ p, zA z k = some p → p < zN z 1 ∧ gb (fi 5 p) k = true) ∧ ∀ t, t < zN z 1 → ∀ k, k < 32 → gb (fi 5 t) k = true → fi 7 t ≠ 0 → zA z k = some t
def SX (fi : Nat → Nat → Int32) (z : CZ) (ar : Nat → Nat → Int32) : Prop := (∀ t, t < zN z 1 → fi 7 t = 2 → ∃ m, m < zN z 2 ∧ ar 10 t = nI m ∧ (fi 13 m = 0 ∨ fi 13 m = 1) ∧ t ∈ zL z (12, m)) ∧ (∀ t, t < zN z 1 → fi 7 t ≠ 2 → ar 10 t = -1) ∧ ∀ m, m < zN z 2 → (fi 13 m = 0 ∨ fi 13 m = 1) → ∀ t ∈ zL z (12, m), t < zN z 1 ∧ fi 7 t = 2 ∧ ar 10 t = nI m
def SY (c : Nat) (fi : Nat → Nat → Int32) (z : CZ) (ar : Nat → Nat → Int32) : Prop := (∀ m, m < zN z 2 → fi 9 m = ar 11 (2 * m) ∧ fi 10 m = ar 11 (2 * m + 1) ∧ fi 11 m = ar 12 m ∧ fi 13 m = ar 15 m ∧ (fi 13 m = 0 ∨ fi 13 m = 1 ∨ fi 13 m = 2 ∨ fi 13 m = 3) ∧ ((fi 13 m = 0 ∨ fi 13 m = 1) → (∀ k, k < 32 → (gb (allI (ar 11) m) k = true ↔ ∃ t ∈ zL z (12, m), gb (fi 5 t) k = true)) ∧ ∀ k, k < 32 → ¬ (gb (fi 9 m) k = true ∧ gb (fi 10 m) k = true)) ∧ (fi 13 m = 0 → fi 14 m = lateI (ar 11) (ar 14) m ∧ ∀ k, k < 32 → gb (ar 14 m) k = true → gb (allI (ar 11) m) k = true)) ∧ ∃ d : Nat → Nat, (∀ m, m < zN z 2 → ar 13 m = nI (d m) ∧ fi 12 m = nI (d m + 3) ∧ d m ≤ c ∧ (fi 13 m = 0 → c < d m + 3)) ∧ ∀ m m', m ≤ m' → m' < zN z 2 → d m ≤ d m'
def SC (z : CZ) : Prop := zC z (13, 0) ≤ 25 ∧ zC z (13, 1) ≤ 160 ∧ zC z (13, 2) ≤ 800 ∧ cpO z
def SM (c : Nat) (fi : Nat → Nat → Int32) (z : CZ) (sc : Nat → Int32) (ar : Nat → Nat → Int32) : Prop := S0 c fi z sc ∧ SP fi z ar ∧ ST c fi z ar ∧ SL fi z ∧ SX fi z ar ∧ SY c fi z ar ∧ SC z
section SMs
variable {c : Nat} {fi : Nat → Nat → Int32} {z : CZ} {sc : Nat → Int32} {ar : Nat → Nat → Int32}
theorem SM.np (h : SM c fi z sc ar) : zN z 0 ≤ 18 := h.1.2.2.2.2.2.1
theorem SM.nt (h : SM c fi z sc ar) : zN z 1 ≤ 100 := h.1.2.2.2.2.2.2.1
theorem SM.nm (h : SM c fi z sc ar) : zN z 2 ≤ 512 := h.1.2.2.2.2.2.2.2.1
def SM.pl (h : SM c fi z sc ar) {k : Nat} (hk : k < zN z 0) := h.2.1.1 k hk
def SM.pt (h : SM c fi z sc ar) {t : Nat} (ht : t < zN z 1) := h.2.2.1 t ht
def SM.mt (h : SM c fi z sc ar) {m : Nat} (hm : m < zN z 2) := h.2.2.2.2.2.1.1 m hm
theorem SM.la (h : SM c fi z sc ar) {t k : Nat} (ht : t < zN z 1) (hk : k < 32) (hb : gb (fi 5 t) k = true) (h0 : fi 7 t ≠ 0) : zA z k = some t := h.2.2.2.1.2 t ht k hk hb h0
theorem SM.J (h : SM c fi z sc ar) {t : Nat} (ht : t < zN z 1) : zL z (11, t) = JQ (fi 5 t) 18 := (h.pt ht).2.2.1
theorem SM.bw (h : SM c fi z sc ar) {t : Nat} (ht : t < zN z 1) : q_bw (zN z 0) (fi 5 t) := (h.pt ht).2.2.2.1
theorem SM.dh (h : SM c fi z sc ar) : DH z := fun p hp => (h.pt hp).2.2.2.2.1
/-- parties that are not idle have no player in common -/
theorem SM.dj (h : SM c fi z sc ar) {t u : Nat} (ht : t < zN z 1) (hu : u < zN z 1) (h1 : fi 7 t ≠ 0) (h2 : fi 7 u ≠ 0) (hne : t ≠ u) : q_dj (fi 5) t u := fun k hk q => hne (Option.some.inj ((h.la ht hk q.1 h1).symm.trans (h.la hu hk q.2 h2)))
/-- the parties that queue -/
def q_Q (fi : Nat → Nat → Int32) (n : Nat) : List Nat := (List.range n).filter fun t => decide (fi 7 t = 1)
theorem q_Q_m {n t : Nat} : t ∈ q_Q fi n ↔ t < n ∧ fi 7 t = 1 := by
  unfold q_Q
  rw [List.mem_filter, List.mem_range, decide_eq_true_eq]
theorem q_Q_nd (n : Nat) : (q_Q fi n).Nodup := List.Pairwise.sublist List.filter_sublist List.nodup_range
theorem q_Q_len : ∀ n, (q_Q fi n).length = qnC fi n
  | 0 => rfl
  | n + 1 => by
    show _ = qnC fi n + (if decide (fi 7 n = 1) = true then 1 else 0)
    unfold q_Q
    rw [List.range_succ, List.filter_append, List.length_append, show ((List.range n).filter fun t => decide (fi 7 t = 1)).length = qnC fi n from q_Q_len n]
    by_cases h : fi 7 n = 1
    · rw [decide_eq_true h, List.filter_cons_of_pos (by rw [decide_eq_true h])]; rfl
    · rw [decide_eq_false h, List.filter_cons_of_neg (by rw [decide_eq_false h]; decide)]; rfl
theorem q_qsL {q : Nat → Int32} : ∀ n, (∀ t, t < n → q t = bI (decide (fi 7 t = 1))) → qsL q n = q_Q fi n
  | 0, _ => rfl
  | n + 1, h => by
    have ih := q_qsL (q := q) n (fun t ht => h t (Nat.lt_succ_of_lt ht))
    show (if q n = 0 then qsL q n else qsL q n ++ [n]) = _
    unfold q_Q
    rw [List.range_succ, List.filter_append, ih, h n (Nat.lt_succ_self n)]
    by_cases h9 : fi 7 n = 1
    · rw [decide_eq_true h9, if_neg (by decide), List.filter_cons_of_pos (by rw [decide_eq_true h9])]; rfl
    · rw [decide_eq_false h9, if_pos (show bI false = 0 from rfl), List.filter_cons_of_neg (by rw [decide_eq_false h9]; decide)]
      show _ = q_Q fi n ++ []
      rw [List.append_nil]
theorem SM.qs (h : SM c fi z sc ar) : qsL (ar 9) (zN z 1) = q_Q fi (zN z 1) := q_qsL _ fun t ht => (h.pt ht).2.2.2.2.2.2.1
theorem q_one_ne : (1 : Int32) ≠ 0 := by decide
theorem SM.Qdj (h : SM c fi z sc ar) : (q_Q fi (zN z 1)).Pairwise (q_dj (fi 5)) := by
  have h1 : (q_Q fi (zN z 1)).Pairwise (fun a b => a ≠ b) := q_Q_nd _
  refine List.Pairwise.imp_of_mem (fun {a b} ha hb hne => ?_) h1
  obtain ⟨a1, a2⟩ := q_Q_m.mp ha
  obtain ⟨b1, b2⟩ := q_Q_m.mp hb
  exact h.dj a1 b1 (by rw [a2]; exact q_one_ne) (by rw [b2]; exact q_one_ne) hne
def q_ln (z : CZ) (t : Nat) : Nat := (zL z (11, t)).length
theorem SM.lenU (h : SM c fi z sc ar) {T : List Nat} (hT : T.Pairwise (q_dj (fi 5))) (hm : ∀ t ∈ T, t < zN z 1) : (JQ (q_U (fi 5) T) 18).length = q_sN (q_ln z) T := by
  rw [q_len_U (by decide) hT]
  exact q_sN_cg fun t ht => by unfold q_ln; rw [h.J (hm t ht)]
theorem q_sN_ge {g : Nat → Nat} : ∀ {xs : List Nat}, (∀ k ∈ xs, 1 ≤ g k) → xs.length ≤ q_sN g xs
  | [], _ => Nat.le_refl _
  | a :: t, h => by
    have h1 := h a List.mem_cons_self
    have h2 := q_sN_ge (fun k hk => h k (List.mem_cons_of_mem _ hk))
    rw [q_sN_c, List.length_cons]
    omega
theorem SM.Q18 (h : SM c fi z sc ar) : (q_Q fi (zN z 1)).length ≤ 18 := by
  have h1 := h.lenU h.Qdj (fun t ht => (q_Q_m.mp ht).1)
  have h2 := q_len18 (q_U (fi 5) (q_Q fi (zN z 1)))
  have h3 := q_sN_ge (g := q_ln z) (xs := q_Q fi (zN z 1)) (fun t ht => (h.pt (q_Q_m.mp ht).1).2.2.2.2.1.1)
  omega
end SMs
