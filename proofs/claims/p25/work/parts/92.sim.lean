/-! ===== a change of standings, stages and players ===== -/
theorem SM.chg {c : Nat} {fi fi' : Nat → Nat → Int32} {z : CZ} {sc sc' : Nat → Int32} {ar ar' : Nat → Nat → Int32} (h : SM c fi z sc ar) (f0 : fi' 0 = fi 0) (f5 : fi' 5 = fi 5) (f6 : fi' 6 = fi 6) (f8 : fi' 8 = fi 8) (fm : ∀ j, 9 ≤ j → j ≤ 12 → fi' j = fi j) (f18 : fi' 18 = fi 18) (hs : ∀ j, j < 4 → sc' j = sc j) (a3 : ar' 3 = ar 3) (a7 : ar' 7 = ar 7) (a8 : ar' 8 = ar 8) (a11 : ar' 11 = ar 11) (a12 : ar' 12 = ar 12) (a13 : ar' 13 = ar 13) (hP : ∀ k, k < zN z 0 → fi' 1 k = ar' 1 k ∧ fi' 2 k = ar' 2 k ∧ fi' 3 k = ar' 4 k ∧ fi' 4 k = ar' 6 k ∧ ∃ v, v ≤ 5 ∧ fi' 3 k = nI v) (hP' : ∀ k, zN z 0 ≤ k → k < 18 → ar' 4 k = ar 4 k ∧ ar' 5 k = ar 5 k ∧ ar' 6 k = ar 6 k) (h7 : ∀ t, t < zN z 1 → fi' 7 t = 0 ∨ fi' 7 t = 1 ∨ fi' 7 t = 2) (h70 : ∀ t, t < zN z 1 → fi' 7 t ≠ 0 → fi 7 t ≠ 0) (h5 : ∀ k, k < zN z 0 → ∀ t, t < zN z 1 → gb (fi 5 t) k = true → fi 7 t ≠ 0 → ar' 5 k = fi' 7 t) (h5' : ∀ k, k < zN z 0 → (∀ t, t < zN z 1 → gb (fi 5 t) k = true → fi 7 t = 0) → ar' 5 k = ar 5 k) (h9 : ∀ t, t < zN z 1 → ar' 9 t = bI (decide (fi' 7 t = 1))) (hX : SX fi' z ar') (hY : ∀ m, m < zN z 2 → fi' 13 m = ar' 15 m ∧ (fi' 13 m = 0 ∨ fi' 13 m = 1 ∨ fi' 13 m = 2 ∨ fi' 13 m = 3) ∧ (fi' 13 m = 0 → fi 13 m = 0 ∧ fi' 14 m = lateI (ar 11) (ar' 14) m ∧ ∀ k, k < 32 → gb (ar' 14 m) k = true → gb (allI (ar 11) m) k = true) ∧ (fi' 13 m = 1 → fi 13 m = 0 ∨ fi 13 m = 1)) : SM c fi' z sc' ar' := by
  obtain ⟨h0, h1, h2, h3, h4, h5y, h6⟩ := id h
  have hnp := h.np
  refine ⟨?_, ?_, ?_, ?_, hX, ?_, h6⟩
  · unfold S0 at h0 ⊢
    rw [hs 0 (by decide), hs 1 (by decide), hs 2 (by decide), hs 3 (by decide), f18]
    exact h0
  · refine ⟨fun k hk => ?_, fun k hk hk2 => ?_⟩
    · have hp := h1.1 k hk
      obtain ⟨p1, p2, p3, p4, p5⟩ := hP k hk
      rw [f0, a3]
      refine ⟨p1, p2, hp.2.2.1, p3, p4, ?_, p5, hp.2.2.2.2.2.2.2⟩
      have hst := hp.2.2.2.2.2.1
      by_cases hact : ∃ t, t < zN z 1 ∧ gb (fi 5 t) k = true ∧ fi 7 t ≠ 0
      · obtain ⟨t, t1, t2, t3⟩ := hact
        rw [h.la t1 (by omega) t2 t3, h5 k hk t t1 t2 t3]
        rfl
      · have hall : ∀ t, t < zN z 1 → gb (fi 5 t) k = true → fi 7 t = 0 := fun t t1 t2 => Classical.byContradiction fun t3 => hact ⟨t, t1, t2, t3⟩
        rw [h5' k hk hall, ← hst]
        cases hz : zA z k with
        | none => rfl
        | some p =>
          obtain ⟨p1, p2⟩ := h3.1 k hk p hz
          have e0 := hall p p1 p2
          have e1 : fi' 7 p = 0 := Classical.byContradiction fun q => h70 p p1 q e0
          show fi' 7 p = fi 7 p
          rw [e0, e1]
    · obtain ⟨p1, p2, p3⟩ := hP' k hk hk2
      rw [p1, p2, p3]
      exact h1.2 k hk hk2
  · intro t ht
    have hp := h2 t ht
    rw [f5, f6, f8, q_rcL_e f0, a7, a8]
    exact ⟨hp.1, hp.2.1, hp.2.2.1, hp.2.2.2.1, hp.2.2.2.2.1, hp.2.2.2.2.2.1, h9 t ht, h7 t ht, hp.2.2.2.2.2.2.2.2⟩
  · refine ⟨fun k hk p hp => ?_, fun t ht k hk hb h0' => ?_⟩
    · rw [f5]; exact h3.1 k hk p hp
    · rw [f5] at hb
      exact h3.2 t ht k hk hb (h70 t ht h0')
  · obtain ⟨hy, d, hd1, hd2⟩ := h5y
    refine ⟨fun m hm => ?_, d, fun m hm => ?_, hd2⟩
    · obtain ⟨y1, y2, y3, y4⟩ := hY m hm
      have hy2 := hy m hm
      rw [fm 9 (by decide) (by decide), fm 10 (by decide) (by decide), fm 11 (by decide) (by decide), f5, a11, a12]
      exact ⟨hy2.1, hy2.2.1, hy2.2.2.1, y1, y2, fun hst => hy2.2.2.2.2.2.1 (hst.elim (fun q => Or.inl (y3 q).1) y4), fun hst => (y3 hst).2⟩
    · rw [fm 12 (by decide) (by decide), a13]
      have hd3 := hd1 m hm
      exact ⟨hd3.1, hd3.2.1, hd3.2.2.1, fun hst => hd3.2.2.2 ((hY m hm).2.2.1 hst).1⟩
theorem SM.kn {c : Nat} {fi : Nat → Nat → Int32} {z : CZ} {sc : Nat → Int32} {ar : Nat → Nat → Int32} (h : SM c fi z sc ar) {t k : Nat} (ht : t < zN z 1) (hk : k < 32) (hb : gb (fi 5 t) k = true) : k < zN z 0 := by
  by_cases hk2 : k < zN z 0
  · exact hk2
  · rw [h.bw ht k (by omega) hk] at hb; cases hb
/-- two that are not idle and have a player in common are one -/
theorem SM.one {c : Nat} {fi : Nat → Nat → Int32} {z : CZ} {sc : Nat → Int32} {ar : Nat → Nat → Int32} (h : SM c fi z sc ar) {t u k : Nat} (ht : t < zN z 1) (hu : u < zN z 1) (hk : k < 32) (h1 : gb (fi 5 t) k = true) (h2 : gb (fi 5 u) k = true) (h3 : fi 7 t ≠ 0) (h4 : fi 7 u ≠ 0) : t = u := Option.some.inj ((h.la ht hk h1 h3).symm.trans (h.la hu hk h2 h4))
theorem SM.a5 {c : Nat} {fi : Nat → Nat → Int32} {z : CZ} {sc : Nat → Int32} {ar : Nat → Nat → Int32} (h : SM c fi z sc ar) {t k : Nat} (ht : t < zN z 1) (hk : k < zN z 0) (h1 : gb (fi 5 t) k = true) (h3 : fi 7 t ≠ 0) : ar 5 k = fi 7 t := by
  have hnp := h.np
  rw [← (h.pl hk).2.2.2.2.2.1, h.la ht (by omega) h1 h3]
  rfl
theorem SM.lea {c : Nat} {fi : Nat → Nat → Int32} {z : CZ} {sc sc' : Nat → Int32} {ar ar' : Nat → Nat → Int32} (h : SM c fi z sc ar) {p : Nat} (hp : p < zN z 1) (hq : fi 7 p = 1) (hs : ∀ j, j < 4 → sc' j = sc j) (ha : ∀ j, j ≠ 5 → j ≠ 9 → ar' j = ar j) (a5 : ar' 5 = becF (zN z 0) (ar 7 p) 0 (ar 5)) (a9 : ar' 9 = va_up (ar 9) p 0) : SM c (fu fi 7 p 0) z sc' ar' := by
  have hnp := h.np
  have Fo : ∀ j, j ≠ 7 → fu fi 7 p 0 j = fi j := fun j hj => funext fun b => fu_ne _ _ (Or.inl hj)
  have F7 : ∀ t, fu fi 7 p 0 7 t = if t = p then 0 else fi 7 t := fun t => by
    by_cases ht : t = p
    · subst ht; rw [if_pos rfl, fu_self]
    · rw [if_neg ht, fu_ne _ _ (Or.inr ht)]
  have hp1 : fi 7 p ≠ 0 := by rw [hq]; exact q_one_ne
  have m7 : ar 7 p = fi 5 p := ((h.pt hp).1).symm
  have A : ∀ j, j ≠ 5 → j ≠ 9 → ar' j = ar j := ha
  obtain ⟨h0, h1, h2, h3, h4, h5y, h6⟩ := id h
  refine h.chg (Fo 0 (by decide)) (Fo 5 (by decide)) (Fo 6 (by decide)) (Fo 8 (by decide)) (fun j a b => Fo j (by omega)) (Fo 18 (by decide)) hs (A 3 (by decide) (by decide)) (A 7 (by decide) (by decide)) (A 8 (by decide) (by decide)) (A 11 (by decide) (by decide)) (A 12 (by decide) (by decide)) (A 13 (by decide) (by decide)) (fun k hk => ?_) (fun k hk hk2 => ?_) (fun t ht => ?_) (fun t ht h0' => ?_) (fun k hk t ht hb h0' => ?_) (fun k hk hall => ?_) (fun t ht => ?_) ?_ (fun m hm => ?_)
  · have := h1.1 k hk
    rw [Fo 1 (by decide), Fo 2 (by decide), Fo 3 (by decide), Fo 4 (by decide), A 1 (by decide) (by decide), A 2 (by decide) (by decide), A 4 (by decide) (by decide), A 6 (by decide) (by decide)]
    exact ⟨this.1, this.2.1, this.2.2.2.1, this.2.2.2.2.1, this.2.2.2.2.2.2.1⟩
  · rw [A 4 (by decide) (by decide), A 6 (by decide) (by decide), a5, q_bec' hk]
    exact ⟨rfl, rfl, rfl⟩
  · rw [F7]
    split
    · exact Or.inl rfl
    · exact (h2 t ht).2.2.2.2.2.2.2.1
  · rw [F7] at h0'
    by_cases htp : t = p
    · rw [if_pos htp] at h0'; exact absurd rfl h0'
    · rw [if_neg htp] at h0'; exact h0'
  · rw [a5, q_bec hk hnp, m7, F7]
    by_cases htp : t = p
    · subst htp; rw [if_pos hb, if_pos rfl]
    · rw [if_neg htp, if_neg (fun q => htp (h.one ht hp (by omega) hb q h0' hp1)), h.a5 ht hk hb h0']
  · rw [a5, q_bec hk hnp, m7, if_neg (fun q => hp1 (hall p hp q))]
  · rw [a9, F7]
    by_cases htp : t = p
    · subst htp; rw [va_up_self, if_pos rfl]; rfl
    · rw [va_up_ne _ _ htp, if_neg htp]; exact (h2 t ht).2.2.2.2.2.2.1
  · unfold SX at h4 ⊢
    rw [Fo 13 (by decide), A 10 (by decide) (by decide)]
    refine ⟨fun t ht h2' => h4.1 t ht ?_, fun t ht h2' => ?_, fun m hm hst t ht => ?_⟩
    · rw [F7] at h2'
      by_cases htp : t = p
      · rw [if_pos htp] at h2'; exact absurd h2' (by decide)
      · rw [if_neg htp] at h2'; exact h2'
    · by_cases htp : t = p
      · exact h4.2.1 t ht (by rw [htp, hq]; decide)
      · rw [F7, if_neg htp] at h2'; exact h4.2.1 t ht h2'
    · obtain ⟨b1, b2, b3⟩ := h4.2.2 m hm hst t ht
      rw [F7, if_neg (fun q => by rw [q, hq] at b2; exact absurd b2 (by decide))]
      exact ⟨b1, b2, b3⟩
  · have hy := h5y.1 m hm
    rw [Fo 13 (by decide), Fo 14 (by decide), A 15 (by decide) (by decide), A 14 (by decide) (by decide)]
    exact ⟨hy.2.2.2.1, hy.2.2.2.2.1, fun hst => ⟨hst, hy.2.2.2.2.2.2 hst⟩, Or.inr⟩
theorem SM.acc {c : Nat} {fi : Nat → Nat → Int32} {z : CZ} {sc sc' : Nat → Int32} {ar ar' : Nat → Nat → Int32} (h : SM c fi z sc ar) {m k : Nat} (hm : m < zN z 2) (hk : k < 31) (hst : fi 13 m = 0) (hb : gb (fi 14 m) k = true) (hs : ∀ j, j < 4 → sc' j = sc j) (ha : ∀ j, j ≠ 14 → j ≠ 15 → ar' j = ar j) (a14 : ar' 14 = va_up (ar 14) m (ar 14 m ||| (1 : Int32) <<< (nI k &&& 31))) (a15 : ar' 15 = va_up (ar 15) m (bI (decide ((ar 14 m ||| (1 : Int32) <<< (nI k &&& 31)) = allI (ar 11) m)))) : SM c (taF fi m (nI k)) z sc' ar' ∧ decide (taF fi m (nI k) 13 m = 1) = decide ((ar 14 m ||| (1 : Int32) <<< (nI k &&& 31)) = allI (ar 11) m) := by
  obtain ⟨h0, h1, h2, h3, h4, h5y, h6⟩ := id h
  have hy := h5y.1 m hm
  obtain ⟨hl, hsub⟩ := hy.2.2.2.2.2.2 hst
  have h2k : ∀ i, i < 32 → gb ((1 : Int32) <<< (nI k &&& 31)) i = decide (i = k) := fun i hi => by
    rw [nI_shl hk, gb_nI _ hi, Nat.testBit_two_pow]
    by_cases e : k = i
    · subst e; rfl
    · rw [decide_eq_false e, decide_eq_false (fun q => e q.symm)]
  have hall : gb (allI (ar 11) m) k = true := by
    rw [hl] at hb
    unfold lateI at hb
    rw [gb_and, Bool.and_eq_true] at hb
    exact hb.1
  have e14 : fi 14 m &&& (((1 : Int32) <<< (nI k &&& 31)) ^^^ (-1)) = allI (ar 11) m &&& ((ar 14 m ||| (1 : Int32) <<< (nI k &&& 31)) ^^^ (-1)) := gb_ext fun i hi => by
    rw [hl]
    unfold lateI
    rw [gb_and, gb_and, gb_and, gb_not _ hi, gb_not _ hi, gb_not _ hi, gb_or, Bool.not_or, Bool.and_assoc]
  have hsub2 : ∀ i, i < 32 → gb (ar 14 m ||| (1 : Int32) <<< (nI k &&& 31)) i = true → gb (allI (ar 11) m) i = true := fun i hi q => by
    rw [gb_or, Bool.or_eq_true, h2k i hi, decide_eq_true_eq] at q
    rcases q with q | q
    · exact hsub i hi q
    · rw [q]; exact hall
  have hz : (fi 14 m &&& (((1 : Int32) <<< (nI k &&& 31)) ^^^ (-1)) = 0) ↔ (ar 14 m ||| (1 : Int32) <<< (nI k &&& 31)) = allI (ar 11) m := by
    rw [e14]
    constructor
    · intro q
      refine gb_ext fun i hi => ?_
      have q2 : gb (allI (ar 11) m &&& ((ar 14 m ||| (1 : Int32) <<< (nI k &&& 31)) ^^^ (-1))) i = false := by rw [q]; exact gb_0 i
      rw [gb_and, gb_not _ hi] at q2
      have q3 := hsub2 i hi
      cases h8 : gb (ar 14 m ||| (1 : Int32) <<< (nI k &&& 31)) i <;> cases h9 : gb (allI (ar 11) m) i
      · rfl
      · rw [h8, h9] at q2; cases q2
      · rw [h9] at q3; exact absurd (q3 h8) (by decide)
      · rfl
    · intro q
      refine gb_ext fun i hi => ?_
      rw [gb_and, gb_not _ hi, q, gb_0]
      cases gb (allI (ar 11) m) i <;> rfl
  have T : ∀ j, j ≠ 13 → j ≠ 14 → taF fi m (nI k) j = fi j := fun j a b => funext fun x => by
    unfold taF
    split
    · rw [fu_ne _ _ (Or.inl a), fu_ne _ _ (Or.inl b)]
    · rw [fu_ne _ _ (Or.inl b)]
  have T13 : taF fi m (nI k) 13 m = bI (decide ((ar 14 m ||| (1 : Int32) <<< (nI k &&& 31)) = allI (ar 11) m)) := by
    unfold taF
    by_cases q : (ar 14 m ||| (1 : Int32) <<< (nI k &&& 31)) = allI (ar 11) m
    · rw [if_pos (hz.mpr q), fu_self, decide_eq_true q]; rfl
    · rw [if_neg (fun q2 => q (hz.mp q2)), fu_ne _ _ (Or.inl (by decide)), hst, decide_eq_false q]; rfl
  have Tn : ∀ j x, x ≠ m → taF fi m (nI k) j x = fi j x := fun j x hx => by
    unfold taF
    split
    · rw [fu_ne _ _ (Or.inr hx), fu_ne _ _ (Or.inr hx)]
    · rw [fu_ne _ _ (Or.inr hx)]
  have T14 : taF fi m (nI k) 14 m = lateI (ar 11) (ar' 14) m := by
    unfold lateI
    rw [a14, va_up_self, ← e14]
    unfold taF
    split
    · rw [fu_ne _ _ (Or.inl (by decide)), fu_self]
    · rw [fu_self]
  have hbi : ∀ b : Bool, bI b = 1 ↔ b = true := fun b => by cases b <;> decide
  refine ⟨?_, ?_⟩
  · refine h.chg (T 0 (by decide) (by decide)) (T 5 (by decide) (by decide)) (T 6 (by decide) (by decide)) (T 8 (by decide) (by decide)) (fun j a b => T j (by omega) (by omega)) (T 18 (by decide) (by decide)) hs (ha 3 (by decide) (by decide)) (ha 7 (by decide) (by decide)) (ha 8 (by decide) (by decide)) (ha 11 (by decide) (by decide)) (ha 12 (by decide) (by decide)) (ha 13 (by decide) (by decide)) (fun k hk => ?_) (fun k hk hk2 => ?_) (fun t ht => ?_) (fun t ht h0' => ?_) (fun k hk t ht hb h0' => ?_) (fun k hk hall => ?_) (fun t ht => ?_) ?_ (fun m2 hm2 => ?_)
    · have := h1.1 k hk
      rw [T 1 (by decide) (by decide), T 2 (by decide) (by decide), T 3 (by decide) (by decide), T 4 (by decide) (by decide), ha 1 (by decide) (by decide), ha 2 (by decide) (by decide), ha 4 (by decide) (by decide), ha 6 (by decide) (by decide)]
      exact ⟨this.1, this.2.1, this.2.2.2.1, this.2.2.2.2.1, this.2.2.2.2.2.2.1⟩
    · rw [ha 4 (by decide) (by decide), ha 5 (by decide) (by decide), ha 6 (by decide) (by decide)]
      exact ⟨rfl, rfl, rfl⟩
    · rw [T 7 (by decide) (by decide)]; exact (h2 t ht).2.2.2.2.2.2.2.1
    · rw [T 7 (by decide) (by decide)] at h0'; exact h0'
    · rw [T 7 (by decide) (by decide), ha 5 (by decide) (by decide)]; exact h.a5 ht hk hb h0'
    · rw [ha 5 (by decide) (by decide)]
    · rw [T 7 (by decide) (by decide), ha 9 (by decide) (by decide)]; exact (h2 t ht).2.2.2.2.2.2.1
    · have act : ∀ m2, (taF fi m (nI k) 13 m2 = 0 ∨ taF fi m (nI k) 13 m2 = 1) ↔ (fi 13 m2 = 0 ∨ fi 13 m2 = 1) := fun m2 => by
        by_cases e : m2 = m
        · subst e
          rw [T13, hst]
          refine ⟨fun _ => Or.inl rfl, fun _ => ?_⟩
          cases decide ((ar 14 m2 ||| (1 : Int32) <<< (nI k &&& 31)) = allI (ar 11) m2)
          · exact Or.inl rfl
          · exact Or.inr rfl
        · rw [Tn 13 m2 e]
      unfold SX at h4 ⊢
      simp only [act]
      rw [T 7 (by decide) (by decide), ha 10 (by decide) (by decide)]
      exact h4
    · by_cases e : m2 = m
      · subst e
        rw [T13, T14, a15, va_up_self, hbi]
        refine ⟨rfl, ?_, fun q => ⟨hst, rfl, fun i hi q => ?_⟩, fun _ => Or.inl hst⟩
        · cases decide ((ar 14 m2 ||| (1 : Int32) <<< (nI k &&& 31)) = allI (ar 11) m2)
          · exact Or.inl rfl
          · exact Or.inr (Or.inl rfl)
        · rw [a14, va_up_self] at q
          exact hsub2 i hi q
      · have hy2 := h5y.1 m2 hm2
        have e2 : lateI (ar 11) (ar' 14) m2 = lateI (ar 11) (ar 14) m2 := by
          unfold lateI
          rw [a14, va_up_ne _ _ e]
        rw [Tn 13 m2 e, Tn 14 m2 e, a15, va_up_ne _ _ e, e2, a14, va_up_ne _ _ e]
        exact ⟨hy2.2.2.2.1, hy2.2.2.2.2.1, fun q => ⟨q, hy2.2.2.2.2.2.2 q⟩, Or.inr⟩
  · rw [T13]
    exact decide_eq_decide.mpr ((hbi _).trans decide_eq_true_iff)
