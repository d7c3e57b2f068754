/-! ===== make: the class and the model take the same set ===== -/
theorem q_min {x : Int32} (h1 : ¬ 0 ≤ x) (h2 : ¬ 0 ≤ -x) : -x = x := by
  have b1 := Int32.le_toInt x
  have b2 := Int32.toInt_lt x
  rw [Int32.le_iff_toInt_le] at h1 h2
  rw [Int32.toInt_neg] at h2
  refine Int32.toInt_inj.mp ?_
  rw [Int32.toInt_neg]
  rw [show (0 : Int32).toInt = 0 from rfl] at h1 h2
  rw [Int.bmod_def] at h2 ⊢
  split at h2 <;> split <;> omega
theorem q_zer {x : Int32} (h1 : 0 ≤ x) (h2 : 0 ≤ -x) : -x = x := by
  have b1 := Int32.le_toInt x
  have b2 := Int32.toInt_lt x
  rw [Int32.le_iff_toInt_le] at h1 h2
  rw [Int32.toInt_neg] at h2
  refine Int32.toInt_inj.mp ?_
  rw [Int32.toInt_neg]
  rw [show (0 : Int32).toInt = 0 from rfl] at h1 h2
  rw [Int.bmod_def] at h2 ⊢
  split at h2 <;> split <;> omega
theorem q_ab_neg (x : Int32) : abC (-x) = abC x := by
  unfold abC
  by_cases h1 : 0 ≤ x <;> by_cases h2 : 0 ≤ -x
  · rw [if_pos h1, if_pos h2]; exact q_zer h1 h2
  · rw [if_pos h1, if_neg h2, Int32.zero_sub, Int32.neg_neg]
  · rw [if_neg h1, if_pos h2, Int32.zero_sub]
  · rw [if_neg h1, if_neg h2, Int32.zero_sub, Int32.zero_sub, Int32.neg_neg]; exact (q_min h1 h2).symm
theorem q_ab_sub (a b : Int32) : absI (a - b) = abC (b - a) := by
  rw [q_abs, ← q_ab_neg (b - a), Int32.neg_sub]
theorem q_nsub {a b : Nat} (h : b ≤ a) : nI a - nI b = nI (a - b) := by
  conv => lhs; rw [show a = (a - b) + b by omega, ← nI_add]
  exact Int32.add_sub_cancel _ _
def q_MS (ok : List Nat → Bool) : List Nat → Option (List Nat)
  | [] => none
  | a :: L => match q_SR ok L [a] with
    | some T => some T
    | none => q_MS ok L
theorem q_MS_s {ok : List Nat → Bool} {a : Nat} {L T : List Nat} (h : q_SR ok L [a] = some T) : q_MS ok (a :: L) = some T := by rw [q_MS, h]
theorem q_MS_n {ok : List Nat → Bool} {a : Nat} {L : List Nat} (h : q_SR ok L [a] = none) : q_MS ok (a :: L) = q_MS ok L := by rw [q_MS, h]
/-- the queue from the party i on -/
def q_Qi (fi : Nat → Nat → Int32) (n i : Nat) : List Nat := (List.range n).filter fun t => decide (i ≤ t) && decide (fi 7 t = 1)
theorem q_Qi_a (fi : Nat → Nat → Int32) (n i : Nat) : q_Qi fi (n + 1) i = q_Qi fi n i ++ (if (decide (i ≤ n) && decide (fi 7 n = 1)) = true then [n] else []) := by
  unfold q_Qi
  rw [List.range_succ, List.filter_append]
  congr 1
  cases h : (decide (i ≤ n) && decide (fi 7 n = 1)) with
  | true =>
    rw [List.filter_cons_of_pos (p := fun t => decide (i ≤ t) && decide (fi 7 t = 1)) h, if_pos rfl]
    rfl
  | false =>
    rw [List.filter_cons_of_neg (p := fun t => decide (i ≤ t) && decide (fi 7 t = 1)) (by show ¬ (decide (i ≤ n) && decide (fi 7 n = 1)) = true; rw [h]; decide), if_neg (by decide)]
    rfl
theorem q_Qi_e (fi : Nat → Nat → Int32) {i : Nat} : ∀ {n : Nat}, n ≤ i → q_Qi fi n i = []
  | 0, _ => rfl
  | n + 1, h => by
    rw [q_Qi_a, q_Qi_e fi (by omega), decide_eq_false (by omega), Bool.false_and, if_neg (by decide)]
    rfl
theorem q_Qi_0 (fi : Nat → Nat → Int32) (n : Nat) : q_Qi fi n 0 = q_Q fi n := by
  unfold q_Qi q_Q
  rw [show (fun t => decide (0 ≤ t) && decide (fi 7 t = 1)) = fun t => decide (fi 7 t = 1) from funext fun t => by rw [decide_eq_true (Nat.zero_le t), Bool.true_and]]
theorem q_Qi_s (fi : Nat → Nat → Int32) {i : Nat} : ∀ {n : Nat}, i < n → q_Qi fi n i = if fi 7 i = 1 then i :: q_Qi fi n (i + 1) else q_Qi fi n (i + 1)
  | 0, h => absurd h (Nat.not_lt_zero i)
  | n + 1, h => by
    rw [q_Qi_a, q_Qi_a fi n (i + 1)]
    by_cases hi : i < n
    · rw [q_Qi_s fi hi, show decide (i ≤ n) = decide (i + 1 ≤ n) by rw [decide_eq_true (by omega), decide_eq_true (by omega)]]
      by_cases h7 : fi 7 i = 1
      · rw [if_pos h7, if_pos h7]; rfl
      · rw [if_neg h7, if_neg h7]
    · have : i = n := by omega
      subst this
      rw [q_Qi_e fi (Nat.le_refl _), q_Qi_e fi (Nat.le_succ _), decide_eq_true (Nat.le_refl _), decide_eq_false (show ¬ i + 1 ≤ i by omega), Bool.true_and, Bool.false_and]
      by_cases h7 : fi 7 i = 1
      · rw [decide_eq_true h7, if_pos rfl, if_pos h7, if_neg (by decide)]; rfl
      · rw [decide_eq_false h7, if_neg (by decide), if_neg h7]
theorem q_ftC_DQ {fi g : Nat → Nat → Int32} (h : DQ fi g) (z : CZ) (m : Int32) (p q : Nat) : ftC g z m p q = ftC fi z m p q := by
  have e1 : g 1 = fi 1 := funext fun b => h 1 b (Or.inl (by decide))
  have e6 : g 6 = fi 6 := funext fun b => h 6 b (Or.inl (by decide))
  unfold ftC dfC mnC wnC
  simp only [q_smC, e1, e6]
theorem q_gaL {fi g : Nat → Nat → Int32} (h : DQ fi g) (z : CZ) (i n : Nat) : gaL g z i i n = (q_Qi fi n i).filter fun t => ftC fi z (fi 18 0) t i := by
  unfold gaL q_Qi
  rw [List.filter_filter]
  congr 1
  funext t
  unfold gaT
  rw [h 7 t (Or.inl (by decide)), h 18 0 (Or.inr (by decide)), q_ftC_DQ h]
  cases decide (i ≤ t) <;> cases decide (fi 7 t = 1) <;> cases ftC fi z (fi 18 0) t i <;> rfl
theorem mkG_DQ (z : CZ) : ∀ (n : Nat) (g : Nat → Nat → Int32) (i : Nat), DQ g (mkG z n g i).2.1
  | 0, _, _ => DQ.rf
  | n + 1, g, i => by
    by_cases h7 : g 7 i = 1
    · rw [mkG_1 h7]
      have h1 : DQ g (mkW g z i).2.1 := fwF_DQ _ _ _ _ _ _ _
      split
      · exact h1
      · exact h1.trans (mkG_DQ z n _ _)
    · rw [mkG_0 h7]
      exact mkG_DQ z n g (i + 1)
def q_ResG (fi : Nat → Nat → Int32) (z : CZ) (o : Option (List Nat)) (r : RS) : Prop := match o with
  | none => r.1 = false
  | some T => r.1 = true ∧ r.2.2 = T ∧ ∃ g0 zz, DQ fi g0 ∧ zL zz (13, 4) = T ∧ (∀ p, zL zz (11, p) = zL z (11, p)) ∧ r.2.1 = spF g0 zz
section SMg
variable {c : Nat} {fi : Nat → Nat → Int32} {z : CZ} {sc : Nat → Int32} {ar : Nat → Nat → Int32}
theorem SM.self (h : SM c fi z sc ar) {t : Nat} (ht : t < zN z 1) : ftC fi z (nI c) t t = true := by
  obtain ⟨s, hs, h6⟩ := (h.pt ht).2.2.2.2.2.2.2.2
  have hc := h.1.2.2.2.2.2.2.2.2
  have h1 : (0 : Int32) ≤ wnC fi t (nI c) := by
    unfold wnC
    rw [h6, q_nsub hs, show (20 : Int32) = nI 20 from rfl, ← show nI (20 * (c - s)) = nI 20 * nI (c - s) from Int32.ofNat_mul _ _, show (100 : Int32) = nI 100 from rfl, nI_add]
    exact nI_pos' (by omega)
  have h2 : dfC fi z t t = 0 := by
    unfold dfC
    rw [Int32.sub_self]
    rfl
  unfold ftC
  rw [h2, decide_eq_true h1]
  rfl
theorem SM.ck (h : SM c fi z sc ar) : fi 18 0 = nI c := h.1.2.2.2.2.1
theorem SM.mk (h : SM c fi z sc ar) : ∀ (n i : Nat) (g : Nat → Nat → Int32), n + i = zN z 1 → DQ fi g → q_ResG fi z (q_MS (q_ok c fi z (q_Q fi (zN z 1))) (q_Qi fi (zN z 1) i)) (mkG z n g i)
  | 0, i, g, hn, _ => by
    rw [q_Qi_e fi (by omega)]
    rfl
  | n + 1, i, g, hn, hg => by
    have hi : i < zN z 1 := by omega
    have e7 : g 7 i = fi 7 i := hg 7 i (Or.inl (by decide))
    rw [q_Qi_s fi hi]
    by_cases h7 : fi 7 i = 1
    · rw [if_pos h7, mkG_1 (e7.trans h7)]
      have hC : gaL g z i i (zN z 1) = i :: (q_Qi fi (zN z 1) (i + 1)).filter fun t => ftC fi z (fi 18 0) t i := by
        rw [q_gaL hg, q_Qi_s fi hi, if_pos h7, List.filter_cons_of_pos (by rw [h.ck]; exact h.self hi)]
      have hsub : (gaL g z i i (zN z 1)).Sublist (q_Q fi (zN z 1)) := by
        rw [q_gaL hg]
        refine List.filter_sublist.trans ?_
        unfold q_Qi q_Q
        have e9 : (fun t => decide (i ≤ t) && decide (fi 7 t = 1)) = fun t => (decide (i ≤ t)) && (decide (fi 7 t = 1)) := rfl
        rw [← List.filter_filter]
        exact List.filter_sublist
      have hw := ((h.fw (zc := zPut z (13, 3) (gaL g z i i (zN z 1)) 0) (C := gaL g z i i (zN z 1)) (zL_put _ _ _ _) hC (fun p => zL_pn z (13, 3) _ 0 (p := (11, p)) (fun e => by cases e)) (fun t ht => by
        rw [hC] at ht
        rcases List.mem_cons.mp ht with rfl | ht
        · exact h.self hi
        · have := (List.mem_filter.mp ht).2
          rwa [h.ck] at this) hsub 7).1 g [] 0 0 0 hg rfl rfl (List.nil_sublist _) (Or.inl ⟨rfl, rfl⟩) (by decide) (by decide) i (by rw [hC]; rfl))
      rw [hC] at hw
      have hw2 : q_Res fi (zPut z (13, 3) (gaL g z i i (zN z 1)) 0) (q_SR (q_ok c fi z (q_Q fi (zN z 1))) ((q_Qi fi (zN z 1) (i + 1)).filter fun t => ftC fi z (fi 18 0) t i) [i]) (mkW g z i) := by
        unfold mkW
        rw [hC]
        exact hw
      rw [← q_SR_filter (q_Qi fi (zN z 1) (i + 1)) [i] (fun U _ ho u hu => by
        have := (q_ok_t.mp ho).2.1 u (List.mem_cons_of_mem _ hu)
        rw [h.ck]; exact this)] at hw2
      cases ho : q_SR (q_ok c fi z (q_Q fi (zN z 1))) (q_Qi fi (zN z 1) (i + 1)) [i] with
      | some T =>
        rw [ho] at hw2
        obtain ⟨a1, a2, g0, a3, a4⟩ := hw2
        rw [q_MS_s ho, if_pos a1]
        exact ⟨a1, a2, g0, _, a3, zL_put _ _ _ _, fun p => (zL_pn _ (13, 4) _ 0 (p := (11, p)) (fun e => by cases e)).trans (zL_pn z (13, 3) _ 0 (p := (11, p)) (fun e => by cases e)), a4⟩
      | none =>
        rw [ho] at hw2
        have a1 : (mkW g z i).1 = false := hw2
        rw [q_MS_n ho, if_neg (by rw [a1]; decide)]
        exact h.mk n (i + 1) _ (by omega) (hg.trans (fwF_DQ _ _ _ _ _ _ _))
    · rw [if_neg h7, mkG_0 (fun q => h7 (e7.symm.trans q))]
      exact h.mk n (i + 1) g (by omega) hg
end SMg
