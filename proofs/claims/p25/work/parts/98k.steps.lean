/-! ===== the law's arrays follow the state ===== -/
theorem fu_o {fi : Nat → Nat → Int32} {j k : Nat} {x : Int32} {a : Nat} (h : a ≠ j) : fu fi j k x a = fi a := va_up_ne _ _ h
section IVS
variable {c np nt nm : Nat} {ar ar' : Nat → Nat → Int32} {lq lq' : Nat → Int64} {la la' : Nat → Nat → Int32} {P S Q M : Nat → Nat}
theorem IMa.cg {np' : Nat} (h : IMa np nm ar la) (hnp : np ≤ np') (e11 : ar' 11 = ar 11) (e13 : ar' 13 = ar 13) (e14 : ar' 14 = ar 14) (e15 : ar' 15 = ar 15) (l1 : ∀ m, m < nm → la' 1 m = la 1 m) (l4 : ∀ m, m < nm → la' 4 m = la 4 m) (l5 : ∀ m, m < nm → la' 5 m = la 5 m) : IMa np' nm ar' la' := fun m hm => by
  obtain ⟨h1, h2, h3, h4, h5, h6⟩ := h m hm
  rw [e11, e13, e14, e15, l1 m hm, l4 m hm, l5 m hm]
  exact ⟨h1, h2, h3, q_bw_m h4 hnp, q_bw_m h5 hnp, h6⟩
theorem IPl.cg (h : IPl np ar la) (e1 : ar' 1 = ar 1) (e2 : ar' 2 = ar 2) (e3 : ar' 3 = ar 3) (e6 : ar' 6 = ar 6) (l2 : la' 2 = la 2) (l3 : la' 3 = la 3) : IPl np ar' la' := fun k hk => by
  rw [e1, e2, e3, e6, l2, l3]
  exact h k hk
theorem IPa.cg {c' : Nat} (h : IPa c nt ar P S Q M) (hc : c ≤ c') (e7 : ar' 7 = ar 7) (e8 : ar' 8 = ar 8) (e9 : ar' 9 = ar 9) (e10 : ar' 10 = ar 10) : IPa c' nt ar' P S Q M := fun t ht => by
  obtain ⟨h1, h2, h3, h4, h5⟩ := h t ht
  rw [e7, e8, e9, e10]
  exact ⟨h1, h2, Nat.le_trans h3 hc, h4, h5⟩
theorem IV.que (h : IV c np nt nm ar lq la P S Q M) {X : Nat} (hX : X < 262144) (hnt : nt < 60) (e7 : ar' 7 = va_up (ar 7) nt (nI X)) (e8 : ar' 8 = va_up (ar 8) nt (nI c)) (e9 : ar' 9 = va_up (ar 9) nt 1) (e10 : ar' 10 = va_up (ar 10) nt (-1)) (eo : ∀ j, j ≠ 5 → j ≠ 7 → j ≠ 8 → j ≠ 9 → j ≠ 10 → ar' j = ar j) : IV c np (nt + 1) nm ar' (va_up lq nt (lN (eN X c 1 0))) (fu la 6 2 (nI (nt + 1))) (va_up P nt X) (va_up S nt c) (va_up Q nt 1) (va_up M nt 0) := by
  obtain ⟨⟨c0, c1, c2, c3, k1, k2, k3, k4⟩, hq, ha, hm, hp, hz⟩ := h
  refine ⟨⟨?_, ?_, ?_, ?_, k1, by omega, k3, k4⟩, fun t ht => ?_, fun t ht => ?_, hm.cg (Nat.le_refl _) (eo 11 (by decide) (by decide) (by decide) (by decide) (by decide)) (eo 13 (by decide) (by decide) (by decide) (by decide) (by decide)) (eo 14 (by decide) (by decide) (by decide) (by decide) (by decide)) (eo 15 (by decide) (by decide) (by decide) (by decide) (by decide)) (fun m _ => by rw [fu_o (by decide)]) (fun m _ => by rw [fu_o (by decide)]) (fun m _ => by rw [fu_o (by decide)]), hp.cg (eo 1 (by decide) (by decide) (by decide) (by decide) (by decide)) (eo 2 (by decide) (by decide) (by decide) (by decide) (by decide)) (eo 3 (by decide) (by decide) (by decide) (by decide) (by decide)) (eo 6 (by decide) (by decide) (by decide) (by decide) (by decide)) (fu_o (by decide)) (fu_o (by decide)), fun k a b => by rw [fu_o (by decide)]; exact hz k a b⟩
  · rw [fu_ne _ _ (Or.inr (by decide))]; exact c0
  · rw [fu_ne _ _ (Or.inr (by decide))]; exact c1
  · rw [fu_self]
  · rw [fu_ne _ _ (Or.inr (by decide))]; exact c3
  · by_cases he : t = nt
    · subst he
      rw [va_up_self, va_up_self, va_up_self, va_up_self, va_up_self]
      exact ⟨⟨hX, by omega, by decide, by decide⟩, rfl⟩
    · rw [va_up_ne _ _ he, va_up_ne _ _ he, va_up_ne _ _ he, va_up_ne _ _ he, va_up_ne _ _ he]
      exact hq t (by omega)
  · rw [e7, e8, e9, e10]
    by_cases he : t = nt
    · subst he
      rw [va_up_self, va_up_self, va_up_self, va_up_self, va_up_self, va_up_self, va_up_self, va_up_self]
      exact ⟨rfl, rfl, Nat.le_refl _, rfl, by decide⟩
    · rw [va_up_ne _ _ he, va_up_ne _ _ he, va_up_ne _ _ he, va_up_ne _ _ he, va_up_ne _ _ he, va_up_ne _ _ he, va_up_ne _ _ he, va_up_ne _ _ he]
      exact ha t (by omega)
theorem IV.lea (h : IV c np nt nm ar lq la P S Q M) {p : Nat} (hp0 : p < nt) (e9 : ar' 9 = va_up (ar 9) p 0) (eo : ∀ j, j ≠ 5 → j ≠ 9 → ar' j = ar j) : IV c np nt nm ar' (va_up lq p (lN (eN (P p) (S p) 0 (M p)))) la P S (va_up Q p 0) M := by
  obtain ⟨hc, hq, ha, hm, hp, hz⟩ := h
  refine ⟨hc, fun t ht => ?_, fun t ht => ?_, hm.cg (Nat.le_refl _) (eo 11 (by decide) (by decide)) (eo 13 (by decide) (by decide)) (eo 14 (by decide) (by decide)) (eo 15 (by decide) (by decide)) (fun m _ => rfl) (fun m _ => rfl) (fun m _ => rfl), hp.cg (eo 1 (by decide) (by decide)) (eo 2 (by decide) (by decide)) (eo 3 (by decide) (by decide)) (eo 6 (by decide) (by decide)) rfl rfl, hz⟩
  · by_cases he : t = p
    · subst he
      obtain ⟨⟨o1, o2, o3, o4⟩, -⟩ := hq t ht
      rw [va_up_self, va_up_self]
      exact ⟨⟨o1, o2, by decide, o4⟩, rfl⟩
    · rw [va_up_ne _ _ he, va_up_ne _ _ he]
      exact hq t ht
  · obtain ⟨h1, h2, h3, h4, h5⟩ := ha t ht
    rw [eo 7 (by decide) (by decide), eo 8 (by decide) (by decide), eo 10 (by decide) (by decide), e9]
    by_cases he : t = p
    · subst he
      rw [va_up_self, va_up_self]
      exact ⟨h1, h2, h3, rfl, h5⟩
    · rw [va_up_ne _ _ he, va_up_ne _ _ he]
      exact ⟨h1, h2, h3, h4, h5⟩
theorem IV.add (h : IV c np nt nm ar lq la P S Q M) {R : Nat} {ro : Int32} (hR : R ≤ 4000) (hnp : np < 18) (h6 : ar 6 np = 0) (e1 : ar' 1 = va_up (ar 1) np (nI R)) (e2 : ar' 2 = va_up (ar 2) np 350) (e3 : ar' 3 = va_up (ar 3) np ro) (eo : ∀ j, j ≠ 1 → j ≠ 2 → j ≠ 3 → ar' j = ar j) : IV c (np + 1) nt nm ar' lq (fu (fu la 2 np ro) 6 1 (nI (np + 1))) P S Q M := by
  obtain ⟨⟨c0, c1, c2, c3, k1, k2, k3, k4⟩, hq, ha, hm, hp, hz⟩ := h
  have l3 : fu (fu la 2 np ro) 6 1 (nI (np + 1)) 3 = la 3 := (fu_o (by decide)).trans (fu_o (by decide))
  refine ⟨⟨?_, fu_self _ _ _ _, ?_, ?_, by omega, k2, k3, k4⟩, hq, ha.cg (Nat.le_refl _) (eo 7 (by decide) (by decide) (by decide)) (eo 8 (by decide) (by decide) (by decide)) (eo 9 (by decide) (by decide) (by decide)) (eo 10 (by decide) (by decide) (by decide)), hm.cg (by omega) (eo 11 (by decide) (by decide) (by decide)) (eo 13 (by decide) (by decide) (by decide)) (eo 14 (by decide) (by decide) (by decide)) (eo 15 (by decide) (by decide) (by decide)) (fun m _ => by rw [fu_o (by decide), fu_o (by decide)]) (fun m _ => by rw [fu_o (by decide), fu_o (by decide)]) (fun m _ => by rw [fu_o (by decide), fu_o (by decide)]), fun k hk => ?_, fun k a b => by rw [l3]; exact hz k (by omega) b⟩
  · rw [fu_ne _ _ (Or.inr (by decide)), fu_o (by decide)]; exact c0
  · rw [fu_ne _ _ (Or.inr (by decide)), fu_o (by decide)]; exact c2
  · rw [fu_ne _ _ (Or.inr (by decide)), fu_o (by decide)]; exact c3
  · rw [l3, fu_o (show (2 : Nat) ≠ 6 by decide), e1, e2, e3, eo 6 (by decide) (by decide) (by decide)]
    by_cases he : k = np
    · subst he
      rw [fu_self, va_up_self, va_up_self, va_up_self]
      exact ⟨rfl, (hz k (Nat.le_refl _) hnp).trans h6.symm, ⟨R, hR, rfl⟩, 350, by decide, by decide, rfl⟩
    · rw [fu_ne _ _ (Or.inr he), va_up_ne _ _ he, va_up_ne _ _ he, va_up_ne _ _ he]
      exact hp k (by omega)
theorem IV.acc (h : IV c np nt nm ar lq la P S Q M) {m Tn U : Nat} {x : Int32} (hT : Tn < 4) (hU : U < 262144) (hall : allI (ar 11) m = nI U) (e14 : ar' 14 = va_up (ar 14) m x) (e15 : ar' 15 = va_up (ar 15) m (nI Tn)) (eo : ∀ j, j ≠ 14 → j ≠ 15 → ar' j = ar j) : IV c np nt nm ar' lq (fu (fu la 4 m x) 1 m (nI (U + 262144 * Tn))) P S Q M := by
  obtain ⟨⟨c0, c1, c2, c3, k1, k2, k3, k4⟩, hq, ha, hm, hp, hz⟩ := h
  have lo : ∀ j, j ≠ 1 → j ≠ 4 → fu (fu la 4 m x) 1 m (nI (U + 262144 * Tn)) j = la j := fun j a b => (fu_o a).trans (fu_o b)
  refine ⟨⟨by rw [lo 6 (by decide) (by decide)]; exact c0, by rw [lo 6 (by decide) (by decide)]; exact c1, by rw [lo 6 (by decide) (by decide)]; exact c2, by rw [lo 6 (by decide) (by decide)]; exact c3, k1, k2, k3, k4⟩, hq, ha.cg (Nat.le_refl _) (eo 7 (by decide) (by decide)) (eo 8 (by decide) (by decide)) (eo 9 (by decide) (by decide)) (eo 10 (by decide) (by decide)), fun m' hm' => ?_, hp.cg (eo 1 (by decide) (by decide)) (eo 2 (by decide) (by decide)) (eo 3 (by decide) (by decide)) (eo 6 (by decide) (by decide)) (lo 2 (by decide) (by decide)) (lo 3 (by decide) (by decide)), fun k a b => by rw [lo 3 (by decide) (by decide)]; exact hz k a b⟩
  obtain ⟨h1, h2, h3, h4, h5, h6⟩ := hm m' hm'
  rw [eo 11 (by decide) (by decide), eo 13 (by decide) (by decide), e14, e15, lo 5 (by decide) (by decide), fu_o (show (4 : Nat) ≠ 1 by decide)]
  by_cases he : m' = m
  · subst he
    rw [fu_self, fu_self, va_up_self, va_up_self]
    exact ⟨⟨U, Tn, hU, hT, hall, rfl, rfl⟩, rfl, h3, h4, h5, h6⟩
  · rw [fu_ne _ _ (Or.inr he), fu_o (show (1 : Nat) ≠ 4 by decide), fu_ne _ _ (Or.inr he), va_up_ne _ _ he, va_up_ne _ _ he]
    exact ⟨h1, h2, h3, h4, h5, h6⟩
def enQ (m : Nat) (b : Int32) (P Q M : Nat → Nat) : Nat → Nat := fun t => if M t = m + 1 then (if nI (P t) &&& b = 0 then 1 else 0) else Q t
def enM (m : Nat) (M : Nat → Nat) : Nat → Nat := fun t => if M t = m + 1 then 0 else M t
theorem m1_eq {m M : Nat} (hM : M < 64) (hm : m < 64) : nI M - 1 = nI m ↔ M = m + 1 := by
  constructor
  · intro h
    cases M with
    | zero =>
      have h2 := congrArg Int32.toInt h
      rw [nI_toInt (by omega), show (nI 0 - 1 : Int32).toInt = -1 from by decide] at h2
      omega
    | succ M =>
      rw [nI_pred] at h
      have := (nI_eq (by omega) (by omega)).mp h
      omega
  · intro h
    subst h
    exact nI_pred m
/-- a match is off by some players -/
theorem IV.end (h : IV c np nt nm ar lq la P S Q M) {m : Nat} {b : Int32} (hm0 : m < nm) (e9 : ar' 9 = ifF nt (eqB (ar 10) (nI m)) (inB (ar 7) b) (ar 9)) (e10 : ar' 10 = ifF nt (eqB (ar 10) (nI m)) (fun _ => -1) (ar 10)) (e15 : ar' 15 = va_up (ar 15) m 2) (eo : ∀ j, j ≠ 5 → j ≠ 9 → j ≠ 10 → j ≠ 15 → ar' j = ar j) : IV c np nt nm ar' (mixF nt (endQ m b P S M lq) lq) (fu la 1 m ((la 1 m &&& 262143) ||| 524288)) P S (enQ m b P Q M) (enM m M) := by
  obtain ⟨⟨c0, c1, c2, c3, k1, k2, k3, k4⟩, hq, ha, hm, hp, hz⟩ := h
  have lo : ∀ j, j ≠ 1 → fu la 1 m ((la 1 m &&& 262143) ||| 524288) j = la j := fun j a => fu_o a
  have hM64 : ∀ t, t < nt → (ar 10 t = nI m ↔ M t = m + 1) := fun t ht => by
    rw [(ha t ht).2.2.2.2]
    exact m1_eq (hq t ht).1.2.2.2 (by omega)
  refine ⟨⟨by rw [lo 6 (by decide)]; exact c0, by rw [lo 6 (by decide)]; exact c1, by rw [lo 6 (by decide)]; exact c2, by rw [lo 6 (by decide)]; exact c3, k1, k2, k3, k4⟩, fun t ht => ?_, fun t ht => ?_, fun m' hm' => ?_, hp.cg (eo 1 (by decide) (by decide) (by decide) (by decide)) (eo 2 (by decide) (by decide) (by decide) (by decide)) (eo 3 (by decide) (by decide) (by decide) (by decide)) (eo 6 (by decide) (by decide) (by decide) (by decide)) (lo 2 (by decide)) (lo 3 (by decide)), fun k a b => by rw [lo 3 (by decide)]; exact hz k a b⟩
  · obtain ⟨⟨o1, o2, o3, o4⟩, hq2⟩ := hq t ht
    unfold mixF endQ enQ enM
    rw [if_pos ht]
    by_cases he : M t = m + 1
    · rw [if_pos he, if_pos he, if_pos he]
      exact ⟨⟨o1, o2, by split <;> omega, by decide⟩, rfl⟩
    · rw [if_neg he, if_neg he, if_neg he]
      exact ⟨⟨o1, o2, o3, o4⟩, hq2⟩
  · obtain ⟨h1, h2, h3, h4, h5⟩ := ha t ht
    rw [eo 7 (by decide) (by decide) (by decide) (by decide), eo 8 (by decide) (by decide) (by decide) (by decide), e9, e10]
    unfold ifF eqB enQ enM inB
    by_cases he : M t = m + 1
    · have hP : t < nt ∧ decide (ar 10 t = nI m) = true := ⟨ht, decide_eq_true ((hM64 t ht).mpr he)⟩
      rw [if_pos hP, if_pos hP, if_pos he, if_pos he, h1]
      refine ⟨rfl, h2, h3, ?_, by show (-1 : Int32) = nI 0 - 1; decide⟩
      by_cases hb9 : nI (P t) &&& b = 0
      · rw [if_pos hb9, if_pos hb9]; rfl
      · rw [if_neg hb9, if_neg hb9]; rfl
    · have hP : ¬ (t < nt ∧ decide (ar 10 t = nI m) = true) := fun q => he ((hM64 t ht).mp (of_decide_eq_true q.2))
      rw [if_neg hP, if_neg hP, if_neg he, if_neg he]
      exact ⟨h1, h2, h3, h4, h5⟩
  · obtain ⟨h1, h2, h3, h4, h5, h6⟩ := hm m' hm'
    rw [eo 11 (by decide) (by decide) (by decide) (by decide), eo 13 (by decide) (by decide) (by decide) (by decide), eo 14 (by decide) (by decide) (by decide) (by decide), e15, lo 5 (by decide), lo 4 (by decide)]
    by_cases he : m' = m
    · subst he
      obtain ⟨U, T, hU, hT, u1, u2, u3⟩ := h1
      rw [fu_self, va_up_self]
      refine ⟨⟨U, 2, hU, by decide, u1, rfl, ?_⟩, h2, h3, h4, h5, h6⟩
      rw [u3, j_U hU hT, show (524288 : Int32) = nI 524288 from rfl, nI_or]
      congr 1
      have h : 524288 + U = 524288 ||| U := Nat.two_pow_add_eq_or_of_lt (i := 18) (by omega) 2
      rw [Nat.or_comm]
      omega
    · rw [fu_ne _ _ (Or.inr he), va_up_ne _ _ he]
      exact ⟨h1, h2, h3, h4, h5, h6⟩
/-- a player is barred -/
theorem IV.bar (h : IV c np nt nm ar lq la P S Q M) {k : Nat} {x : Int32} (hk : k < np) (e6 : ar' 6 = va_up (ar 6) k x) (eo : ∀ j, j ≠ 4 → j ≠ 6 → ar' j = ar j) : IV c np nt nm ar' lq (fu la 3 k x) P S Q M := by
  obtain ⟨⟨c0, c1, c2, c3, k1, k2, k3, k4⟩, hq, ha, hm, hp, hz⟩ := h
  have lo : ∀ j, j ≠ 3 → fu la 3 k x j = la j := fun j a => fu_o a
  refine ⟨⟨by rw [lo 6 (by decide)]; exact c0, by rw [lo 6 (by decide)]; exact c1, by rw [lo 6 (by decide)]; exact c2, by rw [lo 6 (by decide)]; exact c3, k1, k2, k3, k4⟩, hq, ha.cg (Nat.le_refl _) (eo 7 (by decide) (by decide)) (eo 8 (by decide) (by decide)) (eo 9 (by decide) (by decide)) (eo 10 (by decide) (by decide)), hm.cg (Nat.le_refl _) (eo 11 (by decide) (by decide)) (eo 13 (by decide) (by decide)) (eo 14 (by decide) (by decide)) (eo 15 (by decide) (by decide)) (fun m _ => by rw [lo 1 (by decide)]) (fun m _ => by rw [lo 4 (by decide)]) (fun m _ => by rw [lo 5 (by decide)]), fun j hj => ?_, fun j a b => by rw [fu_ne _ _ (Or.inr (by omega))]; exact hz j a b⟩
  obtain ⟨h1, h2, h3, h4⟩ := hp j hj
  rw [eo 1 (by decide) (by decide), eo 2 (by decide) (by decide), eo 3 (by decide) (by decide), e6, lo 2 (by decide)]
  by_cases he : j = k
  · subst he
    rw [fu_self, va_up_self]
    exact ⟨h1, rfl, h3, h4⟩
  · rw [fu_ne _ _ (Or.inr he), va_up_ne _ _ he]
    exact ⟨h1, h2, h3, h4⟩
/-- several are barred -/
theorem IV.bars (h : IV c np nt nm ar lq la P S Q M) {p : Nat → Bool} {g : Nat → Int32} (e6 : ar' 6 = ifF np p g (ar 6)) (l3 : ∀ k, k < 18 → la' 3 k = ifF np p g (la 3) k) (lo : ∀ j, j ≠ 3 → la' j = la j) (eo : ∀ j, j ≠ 4 → j ≠ 6 → ar' j = ar j) : IV c np nt nm ar' lq la' P S Q M := by
  obtain ⟨⟨c0, c1, c2, c3, k1, k2, k3, k4⟩, hq, ha, hm, hp, hz⟩ := h
  refine ⟨⟨by rw [lo 6 (by decide)]; exact c0, by rw [lo 6 (by decide)]; exact c1, by rw [lo 6 (by decide)]; exact c2, by rw [lo 6 (by decide)]; exact c3, k1, k2, k3, k4⟩, hq, ha.cg (Nat.le_refl _) (eo 7 (by decide) (by decide)) (eo 8 (by decide) (by decide)) (eo 9 (by decide) (by decide)) (eo 10 (by decide) (by decide)), hm.cg (Nat.le_refl _) (eo 11 (by decide) (by decide)) (eo 13 (by decide) (by decide)) (eo 14 (by decide) (by decide)) (eo 15 (by decide) (by decide)) (fun m _ => by rw [lo 1 (by decide)]) (fun m _ => by rw [lo 4 (by decide)]) (fun m _ => by rw [lo 5 (by decide)]), fun j hj => ?_, fun j a b => by
      rw [l3 j b]
      show (if j < np ∧ p j = true then g j else la 3 j) = 0
      rw [if_neg (by omega)]
      exact hz j a b⟩
  obtain ⟨h1, h2, h3, h4⟩ := hp j hj
  rw [eo 1 (by decide) (by decide), eo 2 (by decide) (by decide), eo 3 (by decide) (by decide), e6, lo 2 (by decide), l3 j (by omega)]
  refine ⟨h1, ?_, h3, h4⟩
  unfold ifF
  rw [h2]
theorem IV.tick {c' : Nat} (h : IV c np nt nm ar lq la P S Q M) (hc : c ≤ c') (hc2 : c' ≤ 2000) : IV c' np nt nm ar lq (fu la 6 0 (nI c')) P S Q M := by
  obtain ⟨⟨c0, c1, c2, c3, k1, k2, k3, k4⟩, hq, ha, hm, hp, hz⟩ := h
  refine ⟨⟨fu_self _ _ _ _, by rw [fu_ne _ _ (Or.inr (by decide))]; exact c1, by rw [fu_ne _ _ (Or.inr (by decide))]; exact c2, by rw [fu_ne _ _ (Or.inr (by decide))]; exact c3, k1, k2, k3, hc2⟩, hq, ha.cg hc rfl rfl rfl rfl, hm.cg (Nat.le_refl _) rfl rfl rfl rfl (fun m _ => by rw [fu_o (by decide)]) (fun m _ => by rw [fu_o (by decide)]) (fun m _ => by rw [fu_o (by decide)]), hp.cg rfl rfl rfl rfl (fu_o (by decide)) (fu_o (by decide)), fun k a b => by rw [fu_o (by decide)]; exact hz k a b⟩
/-- ahead of a match's making its minute and its answers are set -/
theorem IV.pre (h : IV c np nt nm ar lq la P S Q M) (x y : Int32) : IV c np nt nm ar lq (fu (fu la 5 nm x) 4 nm y) P S Q M := by
  obtain ⟨⟨c0, c1, c2, c3, k1, k2, k3, k4⟩, hq, ha, hm, hp, hz⟩ := h
  have lo : ∀ j, j ≠ 4 → j ≠ 5 → fu (fu la 5 nm x) 4 nm y j = la j := fun j a b => (fu_o a).trans (fu_o b)
  refine ⟨⟨by rw [lo 6 (by decide) (by decide)]; exact c0, by rw [lo 6 (by decide) (by decide)]; exact c1, by rw [lo 6 (by decide) (by decide)]; exact c2, by rw [lo 6 (by decide) (by decide)]; exact c3, k1, k2, k3, k4⟩, hq, ha, hm.cg (Nat.le_refl _) rfl rfl rfl rfl (fun m _ => by rw [lo 1 (by decide) (by decide)]) (fun m hm' => by rw [fu_ne _ _ (Or.inr (by omega)), fu_o (by decide)]) (fun m hm' => by rw [fu_o (by decide), fu_ne _ _ (Or.inr (by omega))]), hp.cg rfl rfl rfl rfl (lo 2 (by decide) (by decide)) (lo 3 (by decide) (by decide)), fun k a b => by rw [lo 3 (by decide) (by decide)]; exact hz k a b⟩
def mdQ (m : Nat) (T : List Nat) (P S : Nat → Nat) (lq : Nat → Int64) : Nat → Int64 := fun t => if t ∈ T then lN (eN (P t) (S t) 0 (m + 1)) else lq t
/-- a match is made -/
theorem IV.made (h : IV c np nt nm ar lq la P S Q M) {T : List Nat} {x0 x1 U : Nat} (hnm : nm < 30) (hU : U < 262144) (hx : nI x0 ||| nI x1 = nI U) (hd : nI x0 &&& nI x1 = 0) (b0 : q_bw np (nI x0)) (b1 : q_bw np (nI x1)) (h4 : la 4 nm = 0) (h5 : la 5 nm = nI c) (e9 : ∀ t, ar' 9 t = if t ∈ T then 0 else ar 9 t) (e10 : ∀ t, ar' 10 t = if t ∈ T then nI nm else ar 10 t) (e11 : ar' 11 = va_up (va_up (ar 11) (2 * nm) (nI x0)) (2 * nm + 1) (nI x1)) (e13 : ar' 13 = va_up (ar 13) nm (nI c)) (e14 : ar' 14 = va_up (ar 14) nm 0) (e15 : ar' 15 = va_up (ar 15) nm 0) (eo : ∀ j, j < 9 → j ≠ 5 → ar' j = ar j) : IV c np nt (nm + 1) ar' (mixF nt (mdQ nm T P S lq) lq) (fu (fu la 1 nm (nI U)) 6 3 (nI (nm + 1))) P S (fun t => if t ∈ T then 0 else Q t) (fun t => if t ∈ T then nm + 1 else M t) := by
  obtain ⟨⟨c0, c1, c2, c3, k1, k2, k3, k4⟩, hq, ha, hm, hp, hz⟩ := h
  have lo : ∀ j, j ≠ 1 → j ≠ 6 → fu (fu la 1 nm (nI U)) 6 3 (nI (nm + 1)) j = la j := fun j a b => (fu_o b).trans (fu_o a)
  refine ⟨⟨?_, ?_, ?_, fu_self _ _ _ _, k1, k2, by omega, k4⟩, fun t ht => ?_, fun t ht => ?_, fun m' hm' => ?_, hp.cg (eo 1 (by decide) (by decide)) (eo 2 (by decide) (by decide)) (eo 3 (by decide) (by decide)) (eo 6 (by decide) (by decide)) (lo 2 (by decide) (by decide)) (lo 3 (by decide) (by decide)), fun k a b => by rw [lo 3 (by decide) (by decide)]; exact hz k a b⟩
  · rw [fu_ne _ _ (Or.inr (by decide)), fu_o (by decide)]; exact c0
  · rw [fu_ne _ _ (Or.inr (by decide)), fu_o (by decide)]; exact c1
  · rw [fu_ne _ _ (Or.inr (by decide)), fu_o (by decide)]; exact c2
  · obtain ⟨⟨o1, o2, o3, o4⟩, hq2⟩ := hq t ht
    show eOk _ _ (if t ∈ T then 0 else Q t) (if t ∈ T then nm + 1 else M t) ∧ mixF nt (mdQ nm T P S lq) lq t = lN (eN _ _ (if t ∈ T then 0 else Q t) (if t ∈ T then nm + 1 else M t))
    unfold mixF mdQ
    rw [if_pos ht]
    by_cases he : t ∈ T
    · rw [if_pos he, if_pos he, if_pos he]
      exact ⟨⟨o1, o2, by decide, by omega⟩, rfl⟩
    · rw [if_neg he, if_neg he, if_neg he]
      exact ⟨⟨o1, o2, o3, o4⟩, hq2⟩
  · obtain ⟨h1, h2, h3, h4', h5'⟩ := ha t ht
    rw [eo 7 (by decide) (by decide), eo 8 (by decide) (by decide), e9, e10]
    show _ ∧ _ ∧ _ ∧ _ = nI (if t ∈ T then 0 else Q t) ∧ _ = nI (if t ∈ T then nm + 1 else M t) - 1
    by_cases he : t ∈ T
    · rw [if_pos he, if_pos he, if_pos he, if_pos he]
      exact ⟨h1, h2, h3, rfl, (nI_pred nm).symm⟩
    · rw [if_neg he, if_neg he, if_neg he, if_neg he]
      exact ⟨h1, h2, h3, h4', h5'⟩
  · rw [e11, e13, e14, e15, lo 4 (by decide) (by decide), lo 5 (by decide) (by decide), fu_o (show (1 : Nat) ≠ 6 by decide)]
    by_cases he : m' = nm
    · subst he
      rw [fu_self, va_up_self, va_up_self, va_up_self, va_up_self, va_up_ne _ _ (show 2 * m' ≠ 2 * m' + 1 by omega), va_up_self]
      refine ⟨⟨U, 0, hU, by decide, ?_, rfl, rfl⟩, h4, h5, b0, b1, hd⟩
      show va_up (va_up (ar 11) (2 * m') (nI x0)) (2 * m' + 1) (nI x1) (2 * m') ||| va_up (va_up (ar 11) (2 * m') (nI x0)) (2 * m' + 1) (nI x1) (2 * m' + 1) = _
      rw [va_up_self, va_up_ne _ _ (show 2 * m' ≠ 2 * m' + 1 by omega), va_up_self, hx]
    · obtain ⟨h1, h2, h3, h4', h5', h6'⟩ := hm m' (by omega)
      have e1 : va_up (va_up (ar 11) (2 * nm) (nI x0)) (2 * nm + 1) (nI x1) (2 * m') = ar 11 (2 * m') := by rw [va_up_ne _ _ (by omega), va_up_ne _ _ (by omega)]
      have e2 : va_up (va_up (ar 11) (2 * nm) (nI x0)) (2 * nm + 1) (nI x1) (2 * m' + 1) = ar 11 (2 * m' + 1) := by rw [va_up_ne _ _ (by omega), va_up_ne _ _ (by omega)]
      rw [fu_ne _ _ (Or.inr he), va_up_ne _ _ he, va_up_ne _ _ he, va_up_ne _ _ he, e1, e2]
      refine ⟨?_, h2, h3, h4', h5', h6'⟩
      rw [show allI (va_up (va_up (ar 11) (2 * nm) (nI x0)) (2 * nm + 1) (nI x1)) m' = allI (ar 11) m' by unfold allI; rw [e1, e2]]
      exact h1
def fiQ (m : Nat) (P S M : Nat → Nat) (lq : Nat → Int64) : Nat → Int64 := fun t => if M t = m + 1 then lN (eN (P t) (S t) 0 0) else lq t
/-- a match is finished -/
theorem IV.fin (h : IV c np nt nm ar lq la P S Q M) {m : Nat} (hm0 : m < nm) (hq0 : ∀ t, t < nt → M t = m + 1 → Q t = 0) (e10 : ar' 10 = ifF nt (eqB (ar 10) (nI m)) (fun _ => -1) (ar 10)) (e15 : ar' 15 = va_up (ar 15) m 3) (hpl : ∀ k, k < np → (∃ R, R ≤ 4000 ∧ ar' 1 k = nI R) ∧ ∃ D, 50 ≤ D ∧ D ≤ 350 ∧ ar' 2 k = nI D) (eo : ∀ j, j ≠ 1 → j ≠ 2 → j ≠ 4 → j ≠ 5 → j ≠ 10 → j ≠ 15 → ar' j = ar j) : IV c np nt nm ar' (mixF nt (fiQ m P S M lq) lq) (fu la 1 m ((la 1 m &&& 262143) ||| 786432)) P S Q (enM m M) := by
  obtain ⟨⟨c0, c1, c2, c3, k1, k2, k3, k4⟩, hq, ha, hm, hp, hz⟩ := h
  have lo : ∀ j, j ≠ 1 → fu la 1 m ((la 1 m &&& 262143) ||| 786432) j = la j := fun j a => fu_o a
  have hM64 : ∀ t, t < nt → (ar 10 t = nI m ↔ M t = m + 1) := fun t ht => by
    rw [(ha t ht).2.2.2.2]
    exact m1_eq (hq t ht).1.2.2.2 (by omega)
  refine ⟨⟨by rw [lo 6 (by decide)]; exact c0, by rw [lo 6 (by decide)]; exact c1, by rw [lo 6 (by decide)]; exact c2, by rw [lo 6 (by decide)]; exact c3, k1, k2, k3, k4⟩, fun t ht => ?_, fun t ht => ?_, fun m' hm' => ?_, fun k hk => ?_, fun k a b => by rw [lo 3 (by decide)]; exact hz k a b⟩
  · obtain ⟨⟨o1, o2, o3, o4⟩, hq2⟩ := hq t ht
    unfold mixF fiQ enM
    rw [if_pos ht]
    by_cases he : M t = m + 1
    · rw [if_pos he, if_pos he, hq0 t ht he]
      exact ⟨⟨o1, o2, by decide, by decide⟩, rfl⟩
    · rw [if_neg he, if_neg he]
      exact ⟨⟨o1, o2, o3, o4⟩, hq2⟩
  · obtain ⟨h1, h2, h3, h4, h5⟩ := ha t ht
    rw [eo 7 (by decide) (by decide) (by decide) (by decide) (by decide) (by decide), eo 8 (by decide) (by decide) (by decide) (by decide) (by decide) (by decide), eo 9 (by decide) (by decide) (by decide) (by decide) (by decide) (by decide), e10]
    unfold ifF eqB enM
    by_cases he : M t = m + 1
    · have hP : t < nt ∧ decide (ar 10 t = nI m) = true := ⟨ht, decide_eq_true ((hM64 t ht).mpr he)⟩
      rw [if_pos hP, if_pos he]
      exact ⟨h1, h2, h3, h4, by show (-1 : Int32) = nI 0 - 1; decide⟩
    · have hP : ¬ (t < nt ∧ decide (ar 10 t = nI m) = true) := fun q => he ((hM64 t ht).mp (of_decide_eq_true q.2))
      rw [if_neg hP, if_neg he]
      exact ⟨h1, h2, h3, h4, h5⟩
  · obtain ⟨h1, h2, h3, h4, h5, h6⟩ := hm m' hm'
    rw [eo 11 (by decide) (by decide) (by decide) (by decide) (by decide) (by decide), eo 13 (by decide) (by decide) (by decide) (by decide) (by decide) (by decide), eo 14 (by decide) (by decide) (by decide) (by decide) (by decide) (by decide), e15, lo 5 (by decide), lo 4 (by decide)]
    by_cases he : m' = m
    · subst he
      obtain ⟨U, T, hU, hT, u1, u2, u3⟩ := h1
      rw [fu_self, va_up_self]
      refine ⟨⟨U, 3, hU, by decide, u1, rfl, ?_⟩, h2, h3, h4, h5, h6⟩
      rw [u3, j_U hU hT, show (786432 : Int32) = nI 786432 from rfl, nI_or]
      congr 1
      have h : 786432 + U = 786432 ||| U := Nat.two_pow_add_eq_or_of_lt (i := 18) (by omega) 3
      rw [Nat.or_comm]
      omega
    · rw [fu_ne _ _ (Or.inr he), va_up_ne _ _ he]
      exact ⟨h1, h2, h3, h4, h5, h6⟩
  · obtain ⟨h1, h2, h3, h4⟩ := hp k hk
    rw [lo 2 (by decide), lo 3 (by decide), eo 3 (by decide) (by decide) (by decide) (by decide) (by decide) (by decide), eo 6 (by decide) (by decide) (by decide) (by decide) (by decide) (by decide)]
    exact ⟨h1, h2, (hpl k hk).1, (hpl k hk).2⟩
end IVS
/-- the law's world between two calls of its statics -/
def LW (G : GG) (A : Nat → Nat) (o : Nat) (f : Wo) (c np nt nm : Nat) : Prop := ∃ (al : Tg → Nat) (fi : Nat → Nat → Int32) (z : CZ) (sc : Nat → Int32) (ar : Nat → Nat → Int32) (lq : Nat → Int64) (la : Nat → Nat → Int32) (P S Q M : Nat → Nat), al (15, 0) = o ∧ RC G al fi z f ∧ LA G A lq la f ∧ SM c fi z sc ar ∧ BR ar ∧ zN z 0 = np ∧ zN z 1 = nt ∧ zN z 2 = nm ∧ IV c np nt nm ar lq la P S Q M
