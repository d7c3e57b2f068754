/-! ===== a match ends: decline and expiry ===== -/
theorem q_enF {np : Nat} {mk mo : Nat → Int32} {m b : Int32} {g : Nat → Int32} (hnp : np ≤ 18) : ∀ n : Nat, (∀ k, np ≤ k → enF np mk mo m b g n k = g k) ∧ ∀ k, k < np → (∀ t, t < n → mo t = m → gb (mk t) k = true → (∀ u, u < n → mo u = m → gb (mk u) k = true → u = t) → enF np mk mo m b g n k = inB mk b t) ∧ ((∀ t, t < n → mo t = m → ¬ gb (mk t) k = true) → enF np mk mo m b g n k = g k)
  | 0 => ⟨fun _ _ => rfl, fun _ _ => ⟨fun t ht => absurd ht (Nat.not_lt_zero t), fun _ => rfl⟩⟩
  | n + 1 => by
    obtain ⟨i1, i2⟩ := q_enF (mk := mk) (mo := mo) (m := m) (b := b) (g := g) hnp n
    by_cases hn : mo n = m
    · rw [← enF_t hn]
      refine ⟨fun k hk => by rw [q_bec' hk, i1 k hk], fun k hk => ⟨fun t ht h1 h2 hu => ?_, fun ha => ?_⟩⟩
      · rw [q_bec hk hnp]
        by_cases hb : gb (mk n) k = true
        · rw [if_pos hb, hu n (Nat.lt_succ_self n) hn hb]
        · rw [if_neg hb]
          have htn : t ≠ n := fun e => hb (by rw [← e]; exact h2)
          exact (i2 k hk).1 t (by omega) h1 h2 fun u u1 u2 u3 => hu u (by omega) u2 u3
      · rw [q_bec hk hnp, if_neg (ha n (Nat.lt_succ_self n) hn)]
        exact (i2 k hk).2 fun t ht h1 => ha t (by omega) h1
    · rw [← enF_f hn]
      refine ⟨i1, fun k hk => ⟨fun t ht h1 h2 hu => ?_, fun ha => ?_⟩⟩
      · have htn : t ≠ n := fun e => hn (by rw [← e]; exact h1)
        exact (i2 k hk).1 t (by omega) h1 h2 fun u u1 u2 u3 => hu u (by omega) u2 u3
      · exact (i2 k hk).2 fun t ht h1 => ha t (by omega) h1
theorem q_lv : ∀ v, v < 6 → pnL (nI v) = lvI (nI v) ∧ pnM (nI v) = mtI (nI v) ∧ pnL (nI v) = nI (min 5 (v + 1)) := by decide +kernel
theorem SM.mo {c : Nat} {fi : Nat → Nat → Int32} {z : CZ} {sc : Nat → Int32} {ar : Nat → Nat → Int32} (h : SM c fi z sc ar) {m t : Nat} (hm : m < zN z 2) (hst : fi 13 m = 0 ∨ fi 13 m = 1) (ht : t < zN z 1) : ar 10 t = nI m ↔ t ∈ zL z (12, m) := by
  have hn := h.nm
  constructor
  · intro e
    have h2 : fi 7 t = 2 := Classical.byContradiction fun q => by
      rw [h.2.2.2.2.1.2.1 t ht q] at e
      have e2 := congrArg Int32.toInt e
      rw [nI_toInt (by omega), show ((-1 : Int32)).toInt = -1 from rfl] at e2
      omega
    obtain ⟨m', m1, m2, -, m4⟩ := h.2.2.2.2.1.1 t ht h2
    rw [e] at m2
    have e2 := congrArg Int32.toNatClampNeg m2
    rw [nI_clamp (by omega), nI_clamp (by omega)] at e2
    rw [e2]; exact m4
  · intro e
    exact (h.2.2.2.2.1.2.2 m hm hst t e).2.2
theorem SM.ends {c : Nat} {fi fi' : Nat → Nat → Int32} {z : CZ} {sc sc' : Nat → Int32} {ar ar' : Nat → Nat → Int32} (h : SM c fi z sc ar) {m : Nat} {b mi : Int32} (hm : m < zN z 2) (hst : fi 13 m = 0) (f : ∀ j, j ≠ 3 → j ≠ 4 → j ≠ 7 → j ≠ 13 → fi' j = fi j) (f3 : ∀ k, k < zN z 0 → fi' 3 k = if gb b k = true then pnL (fi 3 k) else fi 3 k) (f4 : ∀ k, k < zN z 0 → fi' 4 k = if gb b k = true then mi + pnM (fi 3 k) else fi 4 k) (f7 : ∀ t, t < zN z 1 → t ∈ zL z (12, m) → fi' 7 t = inB (fi 5) b t) (f7' : ∀ t, t < zN z 1 → ¬ t ∈ zL z (12, m) → fi' 7 t = fi 7 t) (f13 : ∀ x, fi' 13 x = if x = m then 2 else fi 13 x) (hs : ∀ j, j < 4 → sc' j = sc j) (ha : ∀ j, j ≠ 4 → j ≠ 5 → j ≠ 6 → j ≠ 9 → j ≠ 10 → j ≠ 15 → ar' j = ar j) (a4 : ∀ k, k < zN z 0 → ar' 4 k = if gb b k = true then lvI (ar 4 k) else ar 4 k) (a6 : ∀ k, k < zN z 0 → ar' 6 k = if gb b k = true then mi + mtI (ar 4 k) else ar 6 k) (a46 : ∀ k, zN z 0 ≤ k → k < 18 → ar' 4 k = ar 4 k ∧ ar' 6 k = ar 6 k) (a5 : ar' 5 = enF (zN z 0) (ar 7) (ar 10) (nI m) b (ar 5) (zN z 1)) (a9 : ar' 9 = ifF (zN z 1) (eqB (ar 10) (nI m)) (inB (ar 7) b) (ar 9)) (a10 : ar' 10 = ifF (zN z 1) (eqB (ar 10) (nI m)) (fun _ => -1) (ar 10)) (a15 : ar' 15 = va_up (ar 15) m 2) : SM c fi' z sc' ar' := by
  have hnp := h.np
  have hnm := h.nm
  obtain ⟨h0, h1, h2, h3, h4, h5y, h6⟩ := id h
  have mo : ∀ t, t < zN z 1 → (ar 10 t = nI m ↔ t ∈ zL z (12, m)) := fun t ht => h.mo hm (Or.inl hst) ht
  have m7 : ∀ t, t < zN z 1 → ar 7 t = fi 5 t := fun t ht => ((h.pt ht).1).symm
  have in7 : ∀ t, t < zN z 1 → inB (ar 7) b t = inB (fi 5) b t := fun t ht => by unfold inB; rw [m7 t ht]
  have in01 : ∀ t, inB (fi 5) b t = 0 ∨ inB (fi 5) b t = 1 := fun t => by
    unfold inB
    split
    · exact Or.inr rfl
    · exact Or.inl rfl
  have L2 : ∀ t, t ∈ zL z (12, m) → t < zN z 1 ∧ fi 7 t = 2 := fun t ht => ⟨(h4.2.2 m hm (Or.inl hst) t ht).1, (h4.2.2 m hm (Or.inl hst) t ht).2.1⟩
  have two0 : (2 : Int32) ≠ 0 := by decide
  obtain ⟨en1, en2⟩ := q_enF (np := zN z 0) (mk := ar 7) (mo := ar 10) (m := nI m) (b := b) (g := ar 5) hnp (zN z 1)
  have q9 : ∀ t, t < zN z 1 → ar' 9 t = if t ∈ zL z (12, m) then inB (fi 5) b t else ar 9 t := fun t ht => by
    rw [a9]
    unfold ifF eqB
    by_cases hm9 : t ∈ zL z (12, m)
    · rw [if_pos ⟨ht, decide_eq_true ((mo t ht).mpr hm9)⟩, if_pos hm9, in7 t ht]
    · rw [if_neg (fun q => hm9 ((mo t ht).mp (of_decide_eq_true q.2))), if_neg hm9]
  have q10 : ∀ t, t < zN z 1 → ar' 10 t = if t ∈ zL z (12, m) then -1 else ar 10 t := fun t ht => by
    rw [a10]
    unfold ifF eqB
    by_cases hm9 : t ∈ zL z (12, m)
    · rw [if_pos ⟨ht, decide_eq_true ((mo t ht).mpr hm9)⟩, if_pos hm9]
    · rw [if_neg (fun q => hm9 ((mo t ht).mp (of_decide_eq_true q.2))), if_neg hm9]
  have noone : ∀ k, k < zN z 0 → (∀ t, t ∈ zL z (12, m) → ¬ gb (fi 5 t) k = true) → ar' 5 k = ar 5 k := fun k hk hn => by
    rw [a5]
    refine (en2 k hk).2 fun t ht e => ?_
    rw [m7 t ht]
    exact hn t ((mo t ht).mp e)
  refine h.chg (f 0 (by decide) (by decide) (by decide) (by decide)) (f 5 (by decide) (by decide) (by decide) (by decide)) (f 6 (by decide) (by decide) (by decide) (by decide)) (f 8 (by decide) (by decide) (by decide) (by decide)) (fun j a b => f j (by omega) (by omega) (by omega) (by omega)) (f 18 (by decide) (by decide) (by decide) (by decide)) hs (ha 3 (by decide) (by decide) (by decide) (by decide) (by decide) (by decide)) (ha 7 (by decide) (by decide) (by decide) (by decide) (by decide) (by decide)) (ha 8 (by decide) (by decide) (by decide) (by decide) (by decide) (by decide)) (ha 11 (by decide) (by decide) (by decide) (by decide) (by decide) (by decide)) (ha 12 (by decide) (by decide) (by decide) (by decide) (by decide) (by decide)) (ha 13 (by decide) (by decide) (by decide) (by decide) (by decide) (by decide)) (fun k hk => ?_) (fun k hk hk2 => ?_) (fun t ht => ?_) (fun t ht h0' => ?_) (fun k hk t ht hb h0' => ?_) (fun k hk hall => ?_) (fun t ht => ?_) ?_ (fun x hx => ?_)
  · have hp := h1.1 k hk
    rw [f 1 (by decide) (by decide) (by decide) (by decide), f 2 (by decide) (by decide) (by decide) (by decide), ha 1 (by decide) (by decide) (by decide) (by decide) (by decide) (by decide), ha 2 (by decide) (by decide) (by decide) (by decide) (by decide) (by decide), f3 k hk, f4 k hk, a4 k hk, a6 k hk]
    obtain ⟨v, v1, v2⟩ := hp.2.2.2.2.2.2.1
    have e3 := hp.2.2.2.1
    obtain ⟨l1, l2, l3⟩ := q_lv v (by omega)
    refine ⟨hp.1, hp.2.1, ?_, ?_, ?_⟩
    · rw [← e3, v2, l1]
    · rw [← e3, v2, l2, hp.2.2.2.2.1]
    · split
      · exact ⟨min 5 (v + 1), Nat.min_le_left _ _, by rw [v2]; exact l3⟩
      · exact ⟨v, v1, v2⟩
  · obtain ⟨p4, p6⟩ := a46 k hk hk2
    exact ⟨p4, by rw [a5, en1 k hk], p6⟩
  · by_cases hm9 : t ∈ zL z (12, m)
    · rw [f7 t ht hm9]
      exact (in01 t).elim Or.inl (fun q => Or.inr (Or.inl q))
    · rw [f7' t ht hm9]
      exact (h2 t ht).2.2.2.2.2.2.2.1
  · by_cases hm9 : t ∈ zL z (12, m)
    · rw [(L2 t hm9).2]; exact two0
    · rw [f7' t ht hm9] at h0'; exact h0'
  · by_cases hm9 : t ∈ zL z (12, m)
    · rw [f7 t ht hm9, ← in7 t ht, a5]
      refine (en2 k hk).1 t ht ((mo t ht).mpr hm9) (by rw [m7 t ht]; exact hb) fun u u1 u2 u3 => ?_
      have hu := (mo u u1).mp u2
      rw [m7 u u1] at u3
      exact h.one u1 ht (by omega) u3 hb (by rw [(L2 u hu).2]; exact two0) h0'
    · rw [f7' t ht hm9, ← h.a5 ht hk hb h0']
      refine noone k hk fun u hu hb2 => hm9 ?_
      rw [← h.one (L2 u hu).1 ht (by omega) hb2 hb (by rw [(L2 u hu).2]; exact two0) h0']
      exact hu
  · exact noone k hk fun u hu hb2 => two0 ((L2 u hu).2.symm.trans (hall u (L2 u hu).1 hb2))
  · rw [q9 t ht]
    by_cases hm9 : t ∈ zL z (12, m)
    · rw [if_pos hm9, f7 t ht hm9]
      rcases in01 t with e | e <;> rw [e] <;> rfl
    · rw [if_neg hm9, f7' t ht hm9]
      exact (h2 t ht).2.2.2.2.2.2.1
  · refine ⟨fun t ht h2' => ?_, fun t ht h2' => ?_, fun x hx hxs t ht => ?_⟩
    · have hm9 : ¬ t ∈ zL z (12, m) := fun q => by
        rw [f7 t ht q] at h2'
        rcases in01 t with e | e <;> rw [e] at h2' <;> exact absurd h2' (by decide)
      rw [f7' t ht hm9] at h2'
      obtain ⟨x, x1, x2, x3, x4⟩ := h4.1 t ht h2'
      have hxm : x ≠ m := fun e => hm9 (by rw [← e]; exact x4)
      exact ⟨x, x1, by rw [q10 t ht, if_neg hm9]; exact x2, by rw [f13, if_neg hxm]; exact x3, x4⟩
    · rw [q10 t ht]
      by_cases hm9 : t ∈ zL z (12, m)
      · rw [if_pos hm9]
      · rw [if_neg hm9]
        rw [f7' t ht hm9] at h2'
        exact h4.2.1 t ht h2'
    · have hxm : x ≠ m := fun e => by
        rw [f13, if_pos e] at hxs
        rcases hxs with e | e <;> exact absurd e (by decide)
      rw [f13, if_neg hxm] at hxs
      obtain ⟨b1, b2, b3⟩ := h4.2.2 x hx hxs t ht
      have hm9 : ¬ t ∈ zL z (12, m) := fun q => by
        have e := (mo t b1).mpr q
        rw [b3] at e
        have e2 := congrArg Int32.toNatClampNeg e
        rw [nI_clamp (by omega), nI_clamp (by omega)] at e2
        exact hxm e2
      rw [f7' t b1 hm9, q10 t b1, if_neg hm9]
      exact ⟨b1, b2, b3⟩
  · have hy := h5y.1 x hx
    rw [f 14 (by decide) (by decide) (by decide) (by decide), ha 14 (by decide) (by decide) (by decide) (by decide) (by decide) (by decide), a15, f13]
    by_cases hxm : x = m
    · subst hxm
      rw [if_pos rfl, va_up_self]
      exact ⟨rfl, Or.inr (Or.inr (Or.inl rfl)), fun q => absurd q (by decide), fun q => absurd q (by decide)⟩
    · rw [if_neg hxm, va_up_ne _ _ hxm]
      exact ⟨hy.2.2.2.1, hy.2.2.2.2.1, fun q => ⟨q, hy.2.2.2.2.2.2 q⟩, Or.inr⟩
/-! the class's numbers -/
theorem q_pen (f0 : Nat → Nat → Int32) (la : Option Nat) (k : Nat) (m : Int32) : (∀ j, j ≠ 3 → j ≠ 4 → j ≠ 7 → penF f0 la k m j = f0 j) ∧ (∀ x, penF f0 la k m 3 x = if x = k then pnL (f0 3 k) else f0 3 x) ∧ (∀ x, penF f0 la k m 4 x = if x = k then m + pnM (f0 3 k) else f0 4 x) ∧ (∀ t, la = some t → penF f0 la k m 7 t = 0) ∧ ∀ t, la ≠ some t → penF f0 la k m 7 t = f0 7 t := by
  have e3 : (match la with | none => f0 | some p => fu f0 7 p 0) 3 k = f0 3 k := by
    cases la with
    | none => rfl
    | some p => exact fu_ne _ _ (Or.inl (by decide))
  have ej : ∀ j, j ≠ 7 → ∀ x, (match la with | none => f0 | some p => fu f0 7 p 0) j x = f0 j x := fun j hj x => by
    cases la with
    | none => rfl
    | some p => exact fu_ne _ _ (Or.inl hj)
  unfold penF
  refine ⟨fun j h3 h4 h7 => funext fun x => ?_, fun x => ?_, fun x => ?_, fun t ht => ?_, fun t ht => ?_⟩
  · rw [fu_ne _ _ (Or.inl h4), fu_ne _ _ (Or.inl h3)]; exact ej j h7 x
  · rw [fu_ne _ _ (Or.inl (by decide))]
    by_cases hx : x = k
    · subst hx; rw [if_pos rfl, fu_self]
    · rw [if_neg hx, fu_ne _ _ (Or.inr hx)]; exact ej 3 (by decide) x
  · by_cases hx : x = k
    · subst hx; rw [if_pos rfl, fu_self]
    · rw [if_neg hx, fu_ne _ _ (Or.inr hx), fu_ne _ _ (Or.inl (by decide))]; exact ej 4 (by decide) x
  · subst ht
    rw [fu_ne _ _ (Or.inl (by decide)), fu_ne _ _ (Or.inl (by decide))]
    exact fu_self _ _ _ _
  · rw [fu_ne _ _ (Or.inl (by decide)), fu_ne _ _ (Or.inl (by decide))]
    cases la with
    | none => rfl
    | some p => exact fu_ne _ _ (Or.inr (fun e => ht (by rw [e])))
theorem q_exL (f0 : Nat → Nat → Int32) (la : Nat → Option Nat) (aw dl : Int32) : ∀ n : Nat, (∀ j, j ≠ 3 → j ≠ 4 → j ≠ 7 → exL f0 la aw dl n j = f0 j) ∧ (∀ x, exL f0 la aw dl n 3 x = if x < n ∧ hsI aw (nI x) = true then pnL (f0 3 x) else f0 3 x) ∧ (∀ x, exL f0 la aw dl n 4 x = if x < n ∧ hsI aw (nI x) = true then dl + pnM (f0 3 x) else f0 4 x) ∧ (∀ t, (∃ k, k < n ∧ hsI aw (nI k) = true ∧ la k = some t) → exL f0 la aw dl n 7 t = 0) ∧ ∀ t, (∀ k, k < n → hsI aw (nI k) = true → la k ≠ some t) → exL f0 la aw dl n 7 t = f0 7 t
  | 0 => ⟨fun _ _ _ _ => rfl, fun x => (if_neg (fun q => absurd q.1 (Nat.not_lt_zero x))).symm, fun x => (if_neg (fun q => absurd q.1 (Nat.not_lt_zero x))).symm, fun t ⟨k, hk, _⟩ => absurd hk (Nat.not_lt_zero k), fun _ _ => rfl⟩
  | n + 1 => by
    obtain ⟨i1, i2, i3, i4, i5⟩ := q_exL f0 la aw dl n
    have e0 : exL f0 la aw dl (n + 1) = if hsI aw (nI n) = true then penF (exL f0 la aw dl n) (la n) n dl else exL f0 la aw dl n := rfl
    cases hn : hsI aw (nI n) with
    | false =>
      have hlt : ∀ x, hsI aw (nI x) = true → (x < n + 1 ↔ x < n) := fun x hx => ⟨fun q => by
        by_cases e : x = n
        · subst e; rw [hn] at hx; cases hx
        · omega, fun q => by omega⟩
      have hc : ∀ x, (x < n + 1 ∧ hsI aw (nI x) = true) ↔ (x < n ∧ hsI aw (nI x) = true) := fun x => ⟨fun q => ⟨(hlt x q.2).mp q.1, q.2⟩, fun q => ⟨(hlt x q.2).mpr q.1, q.2⟩⟩
      rw [e0, if_neg (by rw [hn]; decide)]
      refine ⟨i1, fun x => ?_, fun x => ?_, fun t ⟨k, k1, k2, k3⟩ => i4 t ⟨k, (hlt k k2).mp k1, k2, k3⟩, fun t ht => i5 t fun k hk => ht k (by omega)⟩
      · rw [i2 x]
        by_cases q : x < n ∧ hsI aw (nI x) = true
        · rw [if_pos q, if_pos ((hc x).mpr q)]
        · rw [if_neg q, if_neg (fun q2 => q ((hc x).mp q2))]
      · rw [i3 x]
        by_cases q : x < n ∧ hsI aw (nI x) = true
        · rw [if_pos q, if_pos ((hc x).mpr q)]
        · rw [if_neg q, if_neg (fun q2 => q ((hc x).mp q2))]
    | true =>
      rw [e0, if_pos hn]
      obtain ⟨p1, p2, p3, p4, p5⟩ := q_pen (exL f0 la aw dl n) (la n) n dl
      have e3 : exL f0 la aw dl n 3 n = f0 3 n := by rw [i2 n, if_neg (fun q => absurd q.1 (Nat.lt_irrefl n))]
      refine ⟨fun j h3 h4 h7 => (p1 j h3 h4 h7).trans (i1 j h3 h4 h7), fun x => ?_, fun x => ?_, fun t ⟨k, k1, k2, k3⟩ => ?_, fun t ht => ?_⟩
      · rw [p2 x, e3, i2 x]
        by_cases hx : x = n
        · subst hx; rw [if_pos rfl, if_pos ⟨Nat.lt_succ_self x, hn⟩]
        · rw [if_neg hx]
          by_cases q : x < n ∧ hsI aw (nI x) = true
          · rw [if_pos q, if_pos ⟨by omega, q.2⟩]
          · rw [if_neg q, if_neg (fun q2 => q ⟨by omega, q2.2⟩)]
      · rw [p3 x, e3, i3 x]
        by_cases hx : x = n
        · subst hx; rw [if_pos rfl, if_pos ⟨Nat.lt_succ_self x, hn⟩]
        · rw [if_neg hx]
          by_cases q : x < n ∧ hsI aw (nI x) = true
          · rw [if_pos q, if_pos ⟨by omega, q.2⟩]
          · rw [if_neg q, if_neg (fun q2 => q ⟨by omega, q2.2⟩)]
      · by_cases ht : la n = some t
        · exact p4 t ht
        · rw [p5 t ht]
          have hk : k ≠ n := fun e => ht (by rw [← e]; exact k3)
          exact i4 t ⟨k, by omega, k2, k3⟩
      · rw [p5 t (ht n (Nat.lt_succ_self n) hn)]
        exact i5 t fun k hk => ht k (by omega)
