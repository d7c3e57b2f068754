/-! ===== a match that is made ===== -/
theorem q_sN_sub {g : Nat → Nat} : ∀ {X Y : List Nat}, X.Sublist Y → q_sN g X ≤ q_sN g Y := fun h => by
  induction h with
  | slnil => exact Nat.le_refl _
  | cons a _ ih => rw [q_sN_c]; omega
  | cons_cons a _ ih => rw [q_sN_c, q_sN_c]; omega
def wqN (P Q : Nat → Nat) : Nat → Nat
  | 0 => 0
  | i + 1 => wqN P Q i + (if Q i = 1 then (JQ (nI (P i)) 18).length else 0)
theorem wqN_le (P Q : Nat → Nat) : ∀ n, wqN P Q n ≤ 18 * n
  | 0 => Nat.le_refl _
  | n + 1 => by
    have h1 := wqN_le P Q n
    have h2 := q_len18 (nI (P n))
    show wqN P Q n + _ ≤ _
    split <;> omega
section MD
variable {c : Nat} {fi : Nat → Nat → Int32} {z : CZ} {sc : Nat → Int32} {ar : Nat → Nat → Int32} {lq : Nat → Int64} {la : Nat → Nat → Int32} {P S Q M : Nat → Nat}
theorem MD.wq (hS : SM c fi z sc ar) (hI : IV c (zN z 0) (zN z 1) (zN z 2) ar lq la P S Q M) : ∀ n, n ≤ zN z 1 → wqN P Q n = q_sN (q_ln z) (q_Q fi n)
  | 0, _ => rfl
  | n + 1, hn => by
    show wqN P Q n + _ = q_sN (q_ln z) ((List.range (n + 1)).filter _)
    rw [MD.wq hS hI n (by omega), List.range_succ, List.filter_append, q_sN_a]
    refine congrArg (q_sN (q_ln z) (q_Q fi n) + ·) ?_
    have hl : q_ln z n = (JQ (nI (P n)) 18).length := by
      unfold q_ln
      rw [hS.J (by omega), SI.p5 hS hI (by omega)]
    by_cases h : Q n = 1
    · rw [if_pos h, show [n].filter (fun t => decide (fi 7 t = 1)) = [n] from List.filter_cons_of_pos (p := fun t => decide (fi 7 t = 1)) (decide_eq_true ((SI.q1 hS hI (by omega)).mp h))]
      show _ = q_ln z n + 0
      rw [hl]; rfl
    · rw [if_neg h, show [n].filter (fun t => decide (fi 7 t = 1)) = [] from List.filter_cons_of_neg (p := fun t => decide (fi 7 t = 1)) (by rw [decide_eq_false (fun q => h ((SI.q1 hS hI (by omega)).mpr q))]; decide)]
      rfl
theorem MD.m0 (hS : SM c fi z sc ar) (hI : IV c (zN z 0) (zN z 1) (zN z 2) ar lq la P S Q M) {t : Nat} (ht : t < zN z 1) (h7 : fi 7 t ≠ 2) : M t = 0 := by
  have h1 := (hI.pa ht).2.2.2.2
  rw [hS.2.2.2.2.1.2.1 t ht h7] at h1
  have hM := (hI.ok ht).2.2.2
  refine Nat.eq_zero_of_not_pos fun q => ?_
  obtain ⟨k, hk⟩ : ∃ k, M t = k + 1 := ⟨M t - 1, by omega⟩
  rw [hk, nI_pred] at h1
  have := congrArg Int32.toInt h1
  rw [nI_toInt (by omega), show (-1 : Int32).toInt = -1 from by decide] at this
  omega
theorem MD.dj (hS : SM c fi z sc ar) {X Y : List Nat} (hX : ∀ t ∈ X, t < zN z 1 ∧ fi 7 t = 1) (hY : ∀ t ∈ Y, t < zN z 1 ∧ fi 7 t = 1) (hd : ∀ t, t ∈ X → t ∉ Y) : q_U (fi 5) X &&& q_U (fi 5) Y = 0 := PK.eq0 fun k hk hg => by
  cases hu : gb (q_U (fi 5) Y) k with
  | false => rfl
  | true =>
    obtain ⟨t, t1, t2⟩ := (q_U_gb _ _ _).mp hg
    obtain ⟨u, u1, u2⟩ := (q_U_gb _ _ _).mp hu
    have := hS.one (hX t t1).1 (hY u u1).1 hk t2 u2 (by rw [(hX t t1).2]; decide) (by rw [(hY u u1).2]; decide)
    subst this
    exact absurd u1 (hd t t1)
/-- the state behind it -/
def mdA (np nm : Nat) (T A B : List Nat) (df ck : Int32) (m : Nat → Int32) (ar : Nat → Nat → Int32) : Nat → Nat → Int32 := fun j => if j = 5 then (fun k => if k < np ∧ gb (q_U m T) k = true then 2 else ar 5 k) else if j = 9 then (fun t => if t ∈ T then 0 else ar 9 t) else if j = 10 then (fun t => if t ∈ T then nI nm else ar 10 t) else if j = 11 then va_up (va_up (ar 11) (2 * nm) (q_U m A)) (2 * nm + 1) (q_U m B) else if j = 12 then va_up (ar 12) nm df else if j = 13 then va_up (ar 13) nm ck else if j = 14 then va_up (ar 14) nm 0 else if j = 15 then va_up (ar 15) nm 0 else ar j
theorem mdA_o (np nm : Nat) (T A B : List Nat) (df ck : Int32) (m : Nat → Int32) (ar : Nat → Nat → Int32) {j : Nat} (h5 : j ≠ 5) (h9 : j ≠ 9) (h10 : j ≠ 10) (h11 : j ≠ 11) (h12 : j ≠ 12) (h13 : j ≠ 13) (h14 : j ≠ 14) (h15 : j ≠ 15) : mdA np nm T A B df ck m ar j = ar j := by
  unfold mdA
  rw [if_neg h5, if_neg h9, if_neg h10, if_neg h11, if_neg h12, if_neg h13, if_neg h14, if_neg h15]
theorem MD.sm (hS : SM c fi z sc ar) {g : Nat → Nat → Int32} {z' : CZ} {hd : Nat} {R : List Nat} {p0 : Nat → Bool} {cap cm : Nat} (hz : zE z z') (hcp : cpO z') (hcap : cap ≤ 800) (hsub : (hd :: R).Sublist (q_Q fi (zN z 1))) (hrel : RelO fi z g (some (hd :: R.filter p0, R.filter (fun t => !p0 t)))) (hm : zN z 2 < 512) : SM c (nmF g (zN z 2) (g 18 0) (hd :: R)) (zM z' (hd :: R) cap cm) (va_up sc 2 (nI (zN z 2 + 1))) (mdA (zN z 0) (zN z 2) (hd :: R) (hd :: R.filter p0) (R.filter (fun t => !p0 t)) (q_far fi z (hd :: R.filter p0) (R.filter (fun t => !p0 t))) (nI c) (fi 5) ar) :=
  hS.made (T := hd :: R) (A := hd :: R.filter p0) (B := R.filter (fun t => !p0 t)) hrel.1 hz hcp hcap (fun t ht => q_Q_m.mp (hsub.subset ht)) (hS.Qdj.sublist hsub) (List.Perm.cons hd (List.filter_append_perm p0 R)) hrel.2.1 hrel.2.2.1 hrel.2.2.2 hm (fun j _ h => va_up_ne _ _ h) (va_up_self _ _ _) (fun j j5 j9 j10 j11 j12 j13 j14 j15 _ => mdA_o _ _ _ _ _ _ _ _ _ j5 j9 j10 j11 j12 j13 j14 j15) (fun k hk => by
    show (if k < zN z 0 ∧ gb (q_U (fi 5) (hd :: R)) k = true then (2 : Int32) else ar 5 k) = _
    by_cases h : gb (q_U (fi 5) (hd :: R)) k = true
    · rw [if_pos ⟨hk, h⟩, if_pos h]
    · rw [if_neg (fun q => h q.2), if_neg h]) (fun k hk => by
    show (if k < zN z 0 ∧ gb (q_U (fi 5) (hd :: R)) k = true then (2 : Int32) else ar 5 k) = _
    rw [if_neg (fun q => by omega)]) (fun _ => rfl) (fun _ => rfl) rfl rfl rfl rfl rfl
theorem nI_m1 {n : Nat} (h : n < 1000) : ¬ nI n = -1 := fun q => by
  have := congrArg Int32.toInt q
  rw [nI_toInt (by omega), show (-1 : Int32).toInt = -1 from by decide] at this
  omega
end MD
