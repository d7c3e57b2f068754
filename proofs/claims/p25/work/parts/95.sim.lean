/-! ===== finish ===== -/
theorem q_le_lt {a b : Int32} : ¬ a < b ↔ b ≤ a := Int32.not_lt
theorem q_cl (x : Int32) : (if (if 0 < x then x else 0) < 4000 then (if 0 < x then x else 0) else 4000) = clI x := by
  unfold clI
  rw [show (0 : Int32) = nI 0 from rfl, show (4000 : Int32) = nI 4000 from rfl]
  have h1 : nI 0 < x ∨ x ≤ nI 0 := by
    by_cases h : nI 0 < x
    · exact Or.inl h
    · exact Or.inr (Int32.not_lt.mp h)
  by_cases h0 : nI 0 < x
  · rw [if_pos h0, if_pos (Int32.le_of_lt h0)]
    by_cases h4 : x < nI 4000
    · rw [if_pos h4, if_pos (Int32.le_of_lt h4)]
    · rw [if_neg h4]
      by_cases h5 : x ≤ nI 4000
      · rw [if_pos h5]; exact Int32.le_antisymm (Int32.not_lt.mp h4) h5
      · rw [if_neg h5]
  · rw [if_neg h0, if_pos (by decide)]
    by_cases h5 : nI 0 ≤ x
    · have e : x = nI 0 := Int32.le_antisymm (Int32.not_lt.mp h0) h5
      rw [if_pos h5, e, if_pos (by decide)]
    · rw [if_neg h5]
theorem q_ex (x : Int32) : (if (if 50 < x then x else 50) < 950 then (if 50 < x then x else 50) else 950) = exI x := by
  unfold exI
  by_cases h0 : (50 : Int32) < x
  · rw [if_pos h0, if_pos (Int32.le_of_lt h0)]
    by_cases h4 : x < 950
    · rw [if_pos h4, if_pos (Int32.le_of_lt h4)]
    · rw [if_neg h4]
      by_cases h5 : x ≤ 950
      · rw [if_pos h5]; exact Int32.le_antisymm (Int32.not_lt.mp h4) h5
      · rw [if_neg h5]
  · rw [if_neg h0, if_pos (by decide)]
    by_cases h5 : (50 : Int32) ≤ x
    · have e : x = 50 := Int32.le_antisymm (Int32.not_lt.mp h0) h5
      rw [if_pos h5, e, if_pos (by decide)]
    · rw [if_neg h5]
theorem q_lrD (d : Int32) : lrD d = nuI d := by
  unfold lrD nuI
  show (if 50 < d * 9 / 10 then d * 9 / 10 else 50) = _
  by_cases h0 : (50 : Int32) < d * 9 / 10
  · rw [if_pos h0, if_pos (Int32.le_of_lt h0)]
  · rw [if_neg h0]
    by_cases h5 : (50 : Int32) ≤ d * 9 / 10
    · rw [if_pos h5]; exact Int32.le_antisymm h5 (Int32.not_lt.mp h0)
    · rw [if_neg h5]
theorem q_lrL : ∀ v, v < 6 → lrL (nI v) = nlI (nI v) ∧ lrL (nI v) = nI (v - 1) := by decide +kernel
theorem q_lfF (f0 : Nat → Nat → Int32) (s g : Int32) : ∀ n : Nat, (∀ j, j ≠ 1 → j ≠ 2 → j ≠ 3 → lfF f0 s g n j = f0 j) ∧ (∀ x, lfF f0 s g n 1 x = if x < n ∧ hsI s (nI x) = true then lrP (f0 1 x) (f0 2 x) g else f0 1 x) ∧ (∀ x, lfF f0 s g n 2 x = if x < n ∧ hsI s (nI x) = true then lrD (f0 2 x) else f0 2 x) ∧ ∀ x, lfF f0 s g n 3 x = if x < n ∧ hsI s (nI x) = true then lrL (f0 3 x) else f0 3 x
  | 0 => ⟨fun _ _ _ _ => rfl, fun x => (if_neg (fun q => absurd q.1 (Nat.not_lt_zero x))).symm, fun x => (if_neg (fun q => absurd q.1 (Nat.not_lt_zero x))).symm, fun x => (if_neg (fun q => absurd q.1 (Nat.not_lt_zero x))).symm⟩
  | n + 1 => by
    obtain ⟨i1, i2, i3, i4⟩ := q_lfF f0 s g n
    have e0 : lfF f0 s g (n + 1) = if hsI s (nI n) = true then lrnF (lfF f0 s g n) n g else lfF f0 s g n := rfl
    have ne : ∀ (P : Nat → Prop) [DecidablePred P] (a b : Nat → Int32) (x : Nat), x ≠ n → (if x < n + 1 ∧ P x then a x else b x) = (if x < n ∧ P x then a x else b x) := fun P _ a b x hx => by
      by_cases q : x < n ∧ P x
      · rw [if_pos q, if_pos ⟨by omega, q.2⟩]
      · rw [if_neg q, if_neg (fun q2 => q ⟨by omega, q2.2⟩)]
    cases hn : hsI s (nI n) with
    | false =>
      rw [e0, if_neg (by rw [hn]; decide)]
      refine ⟨i1, fun x => ?_, fun x => ?_, fun x => ?_⟩
      · by_cases hx : x = n
        · subst hx; rw [i2 x, if_neg (fun q => absurd q.1 (Nat.lt_irrefl x)), if_neg (fun q => by rw [hn] at q; exact absurd q.2 (by decide))]
        · rw [i2 x]; exact (ne (fun x => hsI s (nI x) = true) (fun x => lrP (f0 1 x) (f0 2 x) g) (f0 1) x hx).symm
      · by_cases hx : x = n
        · subst hx; rw [i3 x, if_neg (fun q => absurd q.1 (Nat.lt_irrefl x)), if_neg (fun q => by rw [hn] at q; exact absurd q.2 (by decide))]
        · rw [i3 x]; exact (ne (fun x => hsI s (nI x) = true) (fun x => lrD (f0 2 x)) (f0 2) x hx).symm
      · by_cases hx : x = n
        · subst hx; rw [i4 x, if_neg (fun q => absurd q.1 (Nat.lt_irrefl x)), if_neg (fun q => by rw [hn] at q; exact absurd q.2 (by decide))]
        · rw [i4 x]; exact (ne (fun x => hsI s (nI x) = true) (fun x => lrL (f0 3 x)) (f0 3) x hx).symm
    | true =>
      rw [e0, if_pos hn]
      have n1 : lfF f0 s g n 1 n = f0 1 n := by rw [i2 n, if_neg (fun q => absurd q.1 (Nat.lt_irrefl n))]
      have n2 : lfF f0 s g n 2 n = f0 2 n := by rw [i3 n, if_neg (fun q => absurd q.1 (Nat.lt_irrefl n))]
      have n3 : lfF f0 s g n 3 n = f0 3 n := by rw [i4 n, if_neg (fun q => absurd q.1 (Nat.lt_irrefl n))]
      refine ⟨fun j h1 h2 h3 => ?_, fun x => ?_, fun x => ?_, fun x => ?_⟩
      · rw [← i1 j h1 h2 h3]
        funext b
        unfold lrnF
        rw [fu_ne _ _ (Or.inl h3), fu_ne _ _ (Or.inl h2), fu_ne _ _ (Or.inl h1)]
      · unfold lrnF
        rw [fu_ne _ _ (Or.inl (by decide)), fu_ne _ _ (Or.inl (by decide))]
        by_cases hx : x = n
        · subst hx; rw [fu_self, if_pos ⟨Nat.lt_succ_self x, hn⟩, n1, n2]
        · rw [fu_ne _ _ (Or.inr hx), i2 x]; exact (ne (fun x => hsI s (nI x) = true) (fun x => lrP (f0 1 x) (f0 2 x) g) (f0 1) x hx).symm
      · unfold lrnF
        rw [fu_ne _ _ (Or.inl (by decide))]
        by_cases hx : x = n
        · subst hx; rw [fu_self, if_pos ⟨Nat.lt_succ_self x, hn⟩, n2]
        · rw [fu_ne _ _ (Or.inr hx), fu_ne _ _ (Or.inl (by decide)), i3 x]; exact (ne (fun x => hsI s (nI x) = true) (fun x => lrD (f0 2 x)) (f0 2) x hx).symm
      · unfold lrnF
        by_cases hx : x = n
        · subst hx; rw [fu_self, if_pos ⟨Nat.lt_succ_self x, hn⟩, n3]
        · rw [fu_ne _ _ (Or.inr hx), fu_ne _ _ (Or.inl (by decide)), fu_ne _ _ (Or.inl (by decide)), i4 x]; exact (ne (fun x => hsI s (nI x) = true) (fun x => lrL (f0 3 x)) (f0 3) x hx).symm
theorem q_sumI_cg {g h : Nat → Int32} : ∀ {n : Nat}, (∀ k, k < n → g k = h k) → sumI g n = sumI h n
  | 0, _ => rfl
  | n + 1, e => by
    show sumI g n + g n = sumI h n + h n
    rw [q_sumI_cg (fun k hk => e k (Nat.lt_succ_of_lt hk)), e n (Nat.lt_succ_self n)]
section SMf2
variable {c : Nat} {fi : Nat → Nat → Int32} {z : CZ} {sc sc' : Nat → Int32} {ar ar' : Nat → Nat → Int32}
theorem SM.shr (h : SM c fi z sc ar) {m : Nat} (hm : m < zN z 2) : shC fi (zN z 0) (fi 9 m) (fi 10 m) = exI (e0I (zN z 0) m ar) := by
  have hy := h.2.2.2.2.2.1.1 m hm
  have e : ∀ s, mrC fi (zN z 0) s = smI (zN z 0) s (ar 1) / 3 := fun s => by
    unfold mrC smI
    congr 1
    exact q_sumI_cg fun k hk => by
      unfold mrT
      rw [(h.2.1.1 k hk).1]
  rw [← q_ex]
  unfold shC e0I
  rw [e, e, hy.1, hy.2.1]
theorem q_g0 (w x : Int32) (hw : w = 0 ∨ w = 1) : (if (0 : Int32) = w then (1000 : Int32) else 0) - x = (if w = 0 then 1000 else 0) - x := by
  rcases hw with rfl | rfl
  · rfl
  · rw [if_neg (by decide), if_neg (by decide)]
theorem q_g1 (w x : Int32) (hw : w = 0 ∨ w = 1) : (if (1 : Int32) = w then (1000 : Int32) else 0) - (1000 - x) = -((if w = 0 then 1000 else 0) - x) := by
  rcases hw with rfl | rfl
  · rw [if_neg (by decide), if_pos rfl, Int32.zero_sub]
  · rw [if_pos rfl, if_neg (by decide), Int32.zero_sub, Int32.neg_neg, Int32.sub_eq_add_neg, Int32.neg_sub, Int32.sub_eq_add_neg, Int32.add_comm x, ← Int32.add_assoc, Int32.add_neg_eq_sub, Int32.sub_self, Int32.zero_add]
theorem SM.fin (h : SM c fi z sc ar) {m : Nat} {w : Int32} (hm : m < zN z 2) (hst : fi 13 m = 1) (hw : w = 0 ∨ w = 1) (hs : ∀ j, j < 4 → sc' j = sc j) : SM c (fnF fi z m w) z sc' (finA (zN z 0) (zN z 1) m w ar) := by
  have hnp := h.np
  have hnm := h.nm
  obtain ⟨h0, h1, h2, h3, h4, h5y, h6⟩ := id h
  have hy := h5y.1 m hm
  have hsh := h.shr hm
  obtain ⟨hall, hdj⟩ := hy.2.2.2.2.2.1 (Or.inr hst)
  have mo : ∀ t, t < zN z 1 → (ar 10 t = nI m ↔ t ∈ zL z (12, m)) := fun t ht => h.mo hm (Or.inr hst) ht
  have L2 : ∀ t, t ∈ zL z (12, m) → t < zN z 1 ∧ fi 7 t = 2 := fun t ht => ⟨(h4.2.2 m hm (Or.inr hst) t ht).1, (h4.2.2 m hm (Or.inr hst) t ht).2.1⟩
  have two0 : (2 : Int32) ≠ 0 := by decide
  generalize hG : (if w = 0 then (1000 : Int32) else 0) - shC fi (zN z 0) (fi 9 m) (fi 10 m) = g
  obtain ⟨a1, a2, a3, a4⟩ := q_lfF fi (fi 9 m) g (zN z 0)
  obtain ⟨b1, b2, b3, b4⟩ := q_lfF (lfF fi (fi 9 m) g (zN z 0)) (fi 10 m) (-g) (zN z 0)
  obtain ⟨g1, g2, g3, g4⟩ := q_E0 (lfF (lfF fi (fi 9 m) g (zN z 0)) (fi 10 m) (-g) (zN z 0)) m 3 0 (zL z (12, m))
  have hF : fnF fi z m w = sndF (fu (lfF (lfF fi (fi 9 m) g (zN z 0)) (fi 10 m) (-g) (zN z 0)) 13 m 3) 0 (zL z (12, m)) := by rw [← hG]; rfl
  have Fo : ∀ j, j ≠ 1 → j ≠ 2 → j ≠ 3 → j ≠ 7 → j ≠ 13 → fnF fi z m w j = fi j := fun j h1 h2 h3 h7 h13 => by rw [hF, g1 j h7 h13, b1 j h1 h2 h3, a1 j h1 h2 h3]
  have F7 : ∀ t, t ∈ zL z (12, m) → fnF fi z m w 7 t = 0 := fun t ht => by rw [hF, g2 t ht]
  have F7' : ∀ t, ¬ t ∈ zL z (12, m) → fnF fi z m w 7 t = fi 7 t := fun t ht => by rw [hF, g3 t ht, b1 7 (by decide) (by decide) (by decide), a1 7 (by decide) (by decide) (by decide)]
  have F13 : ∀ x, fnF fi z m w 13 x = if x = m then 3 else fi 13 x := fun x => by rw [hF, g4 x, b1 13 (by decide) (by decide) (by decide), a1 13 (by decide) (by decide) (by decide)]
  have in0 : ∀ k, k < zN z 0 → ((k < zN z 0 ∧ hsI (fi 9 m) (nI k) = true) ↔ gb (fi 9 m) k = true) := fun k hk => by
    rw [hsI_gb _ (by omega)]; exact ⟨fun q => q.2, fun q => ⟨hk, q⟩⟩
  have in1 : ∀ k, k < zN z 0 → ((k < zN z 0 ∧ hsI (fi 10 m) (nI k) = true) ↔ gb (fi 10 m) k = true) := fun k hk => by
    rw [hsI_gb _ (by omega)]; exact ⟨fun q => q.2, fun q => ⟨hk, q⟩⟩
  have inA : ∀ k, k < zN z 0 → (gb (allI (ar 11) m) k = true ↔ gb (fi 9 m) k = true ∨ gb (fi 10 m) k = true) := fun k hk => by
    unfold allI
    rw [gb_or, Bool.or_eq_true, hy.1, hy.2.1]
  have one1 : ∀ k, k < zN z 0 → fnF fi z m w 1 k = (if gb (fi 9 m) k = true then lrP (fi 1 k) (fi 2 k) g else if gb (fi 10 m) k = true then lrP (fi 1 k) (fi 2 k) (-g) else fi 1 k) := fun k hk => by
    rw [hF, g1 1 (by decide) (by decide), b2 k, a2 k, a3 k]
    by_cases e0 : gb (fi 9 m) k = true
    · have e1 : ¬ gb (fi 10 m) k = true := fun q => hdj k (by omega) ⟨e0, q⟩
      rw [if_neg (fun q => e1 ((in1 k hk).mp q)), if_pos ((in0 k hk).mpr e0), if_pos e0]
    · rw [if_neg e0]
      by_cases e1 : gb (fi 10 m) k = true
      · rw [if_pos ((in1 k hk).mpr e1), if_neg (fun q => e0 ((in0 k hk).mp q)), if_neg (fun q => e0 ((in0 k hk).mp q)), if_pos e1]
      · rw [if_neg (fun q => e1 ((in1 k hk).mp q)), if_neg (fun q => e0 ((in0 k hk).mp q)), if_neg e1]
  have one2 : ∀ k, k < zN z 0 → fnF fi z m w 2 k = (if gb (allI (ar 11) m) k = true then nuI (fi 2 k) else fi 2 k) := fun k hk => by
    rw [hF, g1 2 (by decide) (by decide), b3 k, a3 k]
    by_cases e0 : gb (fi 9 m) k = true
    · have e1 : ¬ gb (fi 10 m) k = true := fun q => hdj k (by omega) ⟨e0, q⟩
      rw [if_neg (fun q => e1 ((in1 k hk).mp q)), if_pos ((in0 k hk).mpr e0), if_pos ((inA k hk).mpr (Or.inl e0)), q_lrD]
    · by_cases e1 : gb (fi 10 m) k = true
      · rw [if_pos ((in1 k hk).mpr e1), if_neg (fun q => e0 ((in0 k hk).mp q)), if_pos ((inA k hk).mpr (Or.inr e1)), q_lrD]
      · rw [if_neg (fun q => e1 ((in1 k hk).mp q)), if_neg (fun q => e0 ((in0 k hk).mp q)), if_neg (fun q => ((inA k hk).mp q).elim e0 e1)]
  have one3 : ∀ k, k < zN z 0 → fnF fi z m w 3 k = (if gb (allI (ar 11) m) k = true then lrL (fi 3 k) else fi 3 k) := fun k hk => by
    rw [hF, g1 3 (by decide) (by decide), b4 k, a4 k]
    by_cases e0 : gb (fi 9 m) k = true
    · have e1 : ¬ gb (fi 10 m) k = true := fun q => hdj k (by omega) ⟨e0, q⟩
      rw [if_neg (fun q => e1 ((in1 k hk).mp q)), if_pos ((in0 k hk).mpr e0), if_pos ((inA k hk).mpr (Or.inl e0))]
    · by_cases e1 : gb (fi 10 m) k = true
      · rw [if_pos ((in1 k hk).mpr e1), if_neg (fun q => e0 ((in0 k hk).mp q)), if_pos ((inA k hk).mpr (Or.inr e1))]
      · rw [if_neg (fun q => e1 ((in1 k hk).mp q)), if_neg (fun q => e0 ((in0 k hk).mp q)), if_neg (fun q => ((inA k hk).mp q).elim e0 e1)]
  have iff : ∀ (a b : Nat → Int32) (k : Nat), k < zN z 0 → ifF (zN z 0) (fun k => hsI (allI (ar 11) m) (nI k)) a b k = if gb (allI (ar 11) m) k = true then a k else b k := fun a b k hk => by
    show (if k < zN z 0 ∧ hsI (allI (ar 11) m) (nI k) = true then a k else b k) = _
    rw [hsI_gb _ (by omega)]
    by_cases e : gb (allI (ar 11) m) k = true
    · rw [if_pos ⟨hk, e⟩, if_pos e]
    · rw [if_neg (fun q => e q.2), if_neg e]
  have iff' : ∀ (a b : Nat → Int32) (k : Nat), zN z 0 ≤ k → ifF (zN z 0) (fun k => hsI (allI (ar 11) m) (nI k)) a b k = b k := fun a b k hk => if_neg (fun q => absurd q.1 (by omega))
  have A1 : ∀ k, finA (zN z 0) (zN z 1) m w ar 1 k = ifF (zN z 0) (fun k => hsI (allI (ar 11) m) (nI k)) (nrI ar (ar 11 (2 * m)) w (exI (e0I (zN z 0) m ar))) (ar 1) k := fun k => rfl
  have A2 : ∀ k, finA (zN z 0) (zN z 1) m w ar 2 k = ifF (zN z 0) (fun k => hsI (allI (ar 11) m) (nI k)) (fun k => nuI (ar 2 k)) (ar 2) k := fun k => rfl
  have A4 : ∀ k, finA (zN z 0) (zN z 1) m w ar 4 k = ifF (zN z 0) (fun k => hsI (allI (ar 11) m) (nI k)) (fun k => nlI (ar 4 k)) (ar 4) k := fun k => rfl
  have A5 : finA (zN z 0) (zN z 1) m w ar 5 = becF (zN z 0) (allI (ar 11) m) 0 (ar 5) := rfl
  have A10 : finA (zN z 0) (zN z 1) m w ar 10 = ifF (zN z 1) (eqB (ar 10) (nI m)) (fun _ => -1) (ar 10) := rfl
  have A15 : finA (zN z 0) (zN z 1) m w ar 15 = va_up (ar 15) m 3 := rfl
  have q10 : ∀ t, t < zN z 1 → finA (zN z 0) (zN z 1) m w ar 10 t = if t ∈ zL z (12, m) then -1 else ar 10 t := fun t ht => by
    rw [A10]
    unfold ifF eqB
    by_cases hm9 : t ∈ zL z (12, m)
    · rw [if_pos ⟨ht, decide_eq_true ((mo t ht).mpr hm9)⟩, if_pos hm9]
    · rw [if_neg (fun q => hm9 ((mo t ht).mp (of_decide_eq_true q.2))), if_neg hm9]
  refine h.chg (Fo 0 (by decide) (by decide) (by decide) (by decide) (by decide)) (Fo 5 (by decide) (by decide) (by decide) (by decide) (by decide)) (Fo 6 (by decide) (by decide) (by decide) (by decide) (by decide)) (Fo 8 (by decide) (by decide) (by decide) (by decide) (by decide)) (fun j a b => Fo j (by omega) (by omega) (by omega) (by omega) (by omega)) (Fo 18 (by decide) (by decide) (by decide) (by decide) (by decide)) hs rfl rfl rfl rfl rfl rfl (fun k hk => ?_) (fun k hk hk2 => ?_) (fun t ht => ?_) (fun t ht h0' => ?_) (fun k hk t ht hb h0' => ?_) (fun k hk hno => ?_) (fun t ht => ?_) ?_ (fun x hx => ?_)
  · have hp := h1.1 k hk
    obtain ⟨v, v1, v2⟩ := hp.2.2.2.2.2.2.1
    obtain ⟨l1, l2⟩ := q_lrL v (by omega)
    rw [one1 k hk, one2 k hk, one3 k hk, A1 k, A2 k, A4 k, iff _ _ k hk, iff _ _ k hk, iff _ _ k hk, Fo 4 (by decide) (by decide) (by decide) (by decide) (by decide)]
    refine ⟨?_, by rw [hp.2.1], ?_, hp.2.2.2.2.1, ?_⟩
    · unfold nrI shI tmI
      rw [← hp.1, ← hp.2.1, ← hy.1, hsI_gb _ (by omega)]
      by_cases e0 : gb (fi 9 m) k = true
      · rw [if_pos e0, if_pos ((inA k hk).mpr (Or.inl e0)), if_pos e0, if_pos rfl, ← hsh, q_g0 w _ hw, hG, ← q_cl]
        rfl
      · rw [if_neg e0]
        by_cases e1 : gb (fi 10 m) k = true
        · rw [if_pos e1, if_pos ((inA k hk).mpr (Or.inr e1)), if_neg e0, if_neg (show ¬ (1 : Int32) = 0 by decide), ← hsh, q_g1 w _ hw, hG, ← q_cl]
          rfl
        · rw [if_neg e1, if_neg (fun q => ((inA k hk).mp q).elim e0 e1)]
    · rw [← hp.2.2.2.1, v2, l1]
    · split
      · exact ⟨v - 1, by omega, by rw [v2]; exact l2⟩
      · exact ⟨v, v1, v2⟩
  · rw [A4 k, iff' _ _ k hk, A5, q_bec' hk]
    exact ⟨rfl, rfl, rfl⟩
  · by_cases hm9 : t ∈ zL z (12, m)
    · rw [F7 t hm9]; exact Or.inl rfl
    · rw [F7' t hm9]; exact (h2 t ht).2.2.2.2.2.2.2.1
  · by_cases hm9 : t ∈ zL z (12, m)
    · rw [F7 t hm9] at h0'; exact absurd rfl h0'
    · rw [F7' t hm9] at h0'; exact h0'
  · rw [A5, q_bec hk hnp]
    by_cases hm9 : t ∈ zL z (12, m)
    · rw [F7 t hm9, if_pos ((hall k (by omega)).mpr ⟨t, hm9, hb⟩)]
    · rw [F7' t hm9, ← h.a5 ht hk hb h0', if_neg (fun q => by
        obtain ⟨u, u1, u2⟩ := (hall k (by omega)).mp q
        refine hm9 ?_
        rw [← h.one (L2 u u1).1 ht (by omega) u2 hb (by rw [(L2 u u1).2]; exact two0) h0']
        exact u1)]
  · rw [A5, q_bec hk hnp, if_neg (fun q => by
      obtain ⟨u, u1, u2⟩ := (hall k (by omega)).mp q
      exact two0 ((L2 u u1).2.symm.trans (hno u (L2 u u1).1 u2)))]
  · show ar 9 t = _
    rw [(h2 t ht).2.2.2.2.2.2.1]
    by_cases hm9 : t ∈ zL z (12, m)
    · rw [F7 t hm9, (L2 t hm9).2]; rfl
    · rw [F7' t hm9]
  · refine ⟨fun t ht h2' => ?_, fun t ht h2' => ?_, fun x hx hxs t ht => ?_⟩
    · have hm9 : ¬ t ∈ zL z (12, m) := fun q => by
        rw [F7 t q] at h2'
        exact absurd h2' (by decide)
      rw [F7' t hm9] at h2'
      obtain ⟨x, x1, x2, x3, x4⟩ := h4.1 t ht h2'
      have hxm : x ≠ m := fun e => hm9 (by rw [← e]; exact x4)
      exact ⟨x, x1, by rw [q10 t ht, if_neg hm9]; exact x2, by rw [F13, if_neg hxm]; exact x3, x4⟩
    · rw [q10 t ht]
      by_cases hm9 : t ∈ zL z (12, m)
      · rw [if_pos hm9]
      · rw [if_neg hm9]
        rw [F7' t hm9] at h2'
        exact h4.2.1 t ht h2'
    · have hxm : x ≠ m := fun e => by
        rw [F13, if_pos e] at hxs
        rcases hxs with e | e <;> exact absurd e (by decide)
      rw [F13, if_neg hxm] at hxs
      obtain ⟨b1, b2, b3⟩ := h4.2.2 x hx hxs t ht
      have hm9 : ¬ t ∈ zL z (12, m) := fun q => by
        have e := (mo t b1).mpr q
        rw [b3] at e
        have e2 := congrArg Int32.toNatClampNeg e
        rw [nI_clamp (by omega), nI_clamp (by omega)] at e2
        exact hxm e2
      rw [F7' t hm9, q10 t b1, if_neg hm9]
      exact ⟨b1, b2, b3⟩
  · have hy2 := h5y.1 x hx
    rw [Fo 14 (by decide) (by decide) (by decide) (by decide) (by decide), A15, F13, show finA (zN z 0) (zN z 1) m w ar 14 = ar 14 from rfl]
    by_cases hxm : x = m
    · subst hxm
      rw [if_pos rfl, va_up_self]
      exact ⟨rfl, Or.inr (Or.inr (Or.inr rfl)), fun q => absurd q (by decide), fun q => absurd q (by decide)⟩
    · rw [if_neg hxm, va_up_ne _ _ hxm]
      exact ⟨hy2.2.2.2.1, hy2.2.2.2.2.1, fun q => ⟨q, hy2.2.2.2.2.2.2 q⟩, Or.inr⟩
end SMf2
