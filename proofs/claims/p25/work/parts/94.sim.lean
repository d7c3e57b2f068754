/-! ===== decline, expire, finish ===== -/
theorem q_E0 (fi : Nat → Nat → Int32) (m : Nat) (s x : Int32) (xs : List Nat) : (∀ j, j ≠ 7 → j ≠ 13 → sndF (fu fi 13 m s) x xs j = fi j) ∧ (∀ t, t ∈ xs → sndF (fu fi 13 m s) x xs 7 t = x) ∧ (∀ t, ¬ t ∈ xs → sndF (fu fi 13 m s) x xs 7 t = fi 7 t) ∧ ∀ y, sndF (fu fi 13 m s) x xs 13 y = if y = m then s else fi 13 y := by
  have e7 : ∀ t, sndF (fu fi 13 m s) x xs 7 t = if t ∈ xs then x else fi 7 t := fun t => by
    show va_up (fu fi 13 m s) 7 (fun p => if p ∈ xs then x else fu fi 13 m s 7 p) 7 t = _
    rw [va_up_self, fu_ne _ _ (Or.inl (by decide))]
  refine ⟨fun j h7 h13 => funext fun b => ?_, fun t ht => by rw [e7, if_pos ht], fun t ht => by rw [e7, if_neg ht], fun y => ?_⟩
  · rw [sndF_far _ _ _ h7, fu_ne _ _ (Or.inl h13)]
  · rw [sndF_far _ _ _ (by decide)]
    by_cases hy : y = m
    · subst hy; rw [if_pos rfl, fu_self]
    · rw [if_neg hy, fu_ne _ _ (Or.inr hy)]
theorem q_and_k {s : Int32} {k : Nat} (hk : k < 31) : s &&& ((1 : Int32) <<< (nI k &&& 31)) = 0 ↔ gb s k = false := by
  have h2k : ∀ i, i < 32 → gb ((1 : Int32) <<< (nI k &&& 31)) i = decide (k = i) := fun i hi => by
    rw [nI_shl hk, gb_nI _ hi, Nat.testBit_two_pow]
  constructor
  · intro q
    have q2 : gb (s &&& ((1 : Int32) <<< (nI k &&& 31))) k = false := by rw [q]; exact gb_0 k
    rw [gb_and, h2k k (by omega), decide_eq_true rfl, Bool.and_true] at q2
    exact q2
  · intro q
    refine gb_ext fun i hi => ?_
    rw [gb_and, h2k i hi, gb_0]
    by_cases e : k = i
    · subst e; rw [q]; rfl
    · rw [decide_eq_false e, Bool.and_false]
theorem q_and_0 {s b : Int32} : s &&& b = 0 ↔ ∀ k, k < 32 → ¬ (gb s k = true ∧ gb b k = true) := by
  constructor
  · intro q k hk q2
    have q3 : gb (s &&& b) k = false := by rw [q]; exact gb_0 k
    rw [gb_and, q2.1, q2.2] at q3
    cases q3
  · intro q
    refine gb_ext fun k hk => ?_
    rw [gb_and, gb_0]
    have := q k hk
    cases h1 : gb s k <;> cases h2 : gb b k
    · rfl
    · rfl
    · rfl
    · exact absurd ⟨h1, h2⟩ this
section SMe
variable {c : Nat} {fi : Nat → Nat → Int32} {z : CZ} {sc sc' : Nat → Int32} {ar ar' : Nat → Nat → Int32}
theorem SM.dec (h : SM c fi z sc ar) {m k : Nat} (hm : m < zN z 2) (hk : k < zN z 0) (hst : fi 13 m = 0) (hb : gb (fi 14 m) k = true) (hs : ∀ j, j < 4 → sc' j = sc j) (ha : ar' = va_up (va_up (endA (zN z 0) (zN z 1) m (1 <<< (nI k &&& 31)) ar) 4 (va_up (ar 4) k (lvI (ar 4 k)))) 6 (va_up (ar 6) k (sc 3 + mtI (ar 4 k)))) : SM c (dcF fi z m k) z sc' ar' ∧ pnM (fi 3 k) = mtI (ar 4 k) := by
  have hnp := h.np
  have hy := h.2.2.2.2.2.1.1 m hm
  have hall : gb (allI (ar 11) m) k = true := by
    rw [(hy.2.2.2.2.2.2 hst).1] at hb
    unfold lateI at hb
    rw [gb_and, Bool.and_eq_true] at hb
    exact hb.1
  obtain ⟨t0, t1, t2⟩ := ((hy.2.2.2.2.2.1 (Or.inl hst)).1 k (by omega)).mp hall
  obtain ⟨b1, b2, -⟩ := h.2.2.2.2.1.2.2 m hm (Or.inl hst) t0 t1
  have act : ∀ t, t ∈ zL z (12, m) → t < zN z 1 ∧ fi 7 t ≠ 0 := fun t ht => ⟨(h.2.2.2.2.1.2.2 m hm (Or.inl hst) t ht).1, by rw [(h.2.2.2.2.1.2.2 m hm (Or.inl hst) t ht).2.1]; decide⟩
  have hla : zA z k = some t0 := h.la b1 (by omega) t2 (act t0 t1).2
  have h2k : ∀ i, i < 32 → gb ((1 : Int32) <<< (nI k &&& 31)) i = decide (k = i) := fun i hi => by
    rw [nI_shl (by omega), gb_nI _ hi, Nat.testBit_two_pow]
  obtain ⟨g1, g2, g3, g4⟩ := q_E0 fi m 2 1 (zL z (12, m))
  obtain ⟨p1, p2, p3, p4, p5⟩ := q_pen (sndF (fu fi 13 m 2) 1 (zL z (12, m))) (zA z k) k (fi 18 0)
  have hpl := h.2.1.1 k hk
  obtain ⟨v, v1, v2⟩ := hpl.2.2.2.2.2.2.1
  obtain ⟨l1, l2, l3⟩ := q_lv v (by omega)
  have e34 := hpl.2.2.2.1
  have A6 : ar' 6 = va_up (ar 6) k (sc 3 + mtI (ar 4 k)) := by rw [ha, va_up_self]
  have A4 : ar' 4 = va_up (ar 4) k (lvI (ar 4 k)) := by rw [ha, va_up_ne _ _ (show (4 : Nat) ≠ 6 by decide), va_up_self]
  have Ao : ∀ j, j ≠ 4 → j ≠ 6 → ar' j = endA (zN z 0) (zN z 1) m (1 <<< (nI k &&& 31)) ar j := fun j h4 h6 => by rw [ha, va_up_ne _ _ h6, va_up_ne _ _ h4]
  have h183 : fi 18 0 = sc 3 := by rw [h.ck, h.1.2.2.2.1]
  have gk : ∀ x, x < zN z 0 → (gb ((1 : Int32) <<< (nI k &&& 31)) x = true ↔ x = k) := fun x hx => by
    rw [h2k x (by omega), decide_eq_true_eq]
    exact eq_comm
  refine ⟨h.ends (m := m) (b := 1 <<< (nI k &&& 31)) (mi := fi 18 0) hm hst (fun j h3 h4 h7 h13 => (p1 j h3 h4 h7).trans (g1 j h7 h13)) (fun x hx => ?_) (fun x hx => ?_) (fun t ht hm9 => ?_) (fun t ht hm9 => ?_) (fun x => ?_) hs (fun j h4 h5 h6 h9 h10 h15 => ?_) (fun x hx => ?_) (fun x hx => ?_) (fun x hx hx2 => ?_) ?_ ?_ ?_ ?_, by rw [← e34, v2, l2]⟩
  · show penF _ _ _ _ 3 x = _
    rw [p2 x, g1 3 (by decide) (by decide)]
    by_cases e : x = k
    · subst e; rw [if_pos rfl, if_pos ((gk x hx).mpr rfl)]
    · rw [if_neg e, if_neg (fun q => e ((gk x hx).mp q))]
  · show penF _ _ _ _ 4 x = _
    rw [p3 x, g1 3 (by decide) (by decide), g1 4 (by decide) (by decide)]
    by_cases e : x = k
    · subst e; rw [if_pos rfl, if_pos ((gk x hx).mpr rfl)]
    · rw [if_neg e, if_neg (fun q => e ((gk x hx).mp q))]
  · show penF _ _ _ _ 7 t = _
    unfold inB
    by_cases e : t = t0
    · subst e
      rw [p4 t hla, if_neg (fun q => by
        rw [(q_and_k (by omega)).mp q] at t2
        cases t2)]
    · rw [p5 t (fun q => e (by rw [hla] at q; exact (Option.some.inj q).symm)), g2 t hm9, if_pos ((q_and_k (by omega)).mpr (by
        cases hg : gb (fi 5 t) k with
        | false => rfl
        | true =>
          rw [h.la ht (by omega) hg (act t hm9).2] at hla
          exact absurd (Option.some.inj hla) e))]
  · show penF _ _ _ _ 7 t = _
    rw [p5 t (fun q => hm9 (by rw [hla] at q; rw [← Option.some.inj q]; exact t1)), g3 t hm9]
  · show penF _ _ _ _ 13 x = _
    rw [p1 13 (by decide) (by decide) (by decide), g4 x]
  · rw [Ao j h4 h6]
    unfold endA
    rw [if_neg h5, if_neg h9, if_neg h10, if_neg h15]
  · rw [A4]
    by_cases e : x = k
    · subst e; rw [va_up_self, if_pos ((gk x hx).mpr rfl)]
    · rw [va_up_ne _ _ e, if_neg (fun q => e ((gk x hx).mp q))]
  · rw [A6, h183]
    by_cases e : x = k
    · subst e; rw [va_up_self, if_pos ((gk x hx).mpr rfl)]
    · rw [va_up_ne _ _ e, if_neg (fun q => e ((gk x hx).mp q))]
  · rw [A4, A6, va_up_ne _ _ (by omega), va_up_ne _ _ (by omega)]
    exact ⟨rfl, rfl⟩
  · rw [Ao 5 (by decide) (by decide)]; rfl
  · rw [Ao 9 (by decide) (by decide)]; rfl
  · rw [Ao 10 (by decide) (by decide)]; rfl
  · rw [Ao 15 (by decide) (by decide)]; rfl
theorem q_exF (fi : Nat → Nat → Int32) (z : CZ) (m : Nat) : (∀ j, j ≠ 3 → j ≠ 4 → j ≠ 7 → j ≠ 13 → exF fi z m j = fi j) ∧ ∀ x, exF fi z m 13 x = if x = m then 2 else fi 13 x := by
  obtain ⟨g1, -, -, g4⟩ := q_E0 fi m 2 1 (zL z (12, m))
  obtain ⟨p1, -⟩ := q_exL (sndF (fu fi 13 m 2) 1 (zL z (12, m))) (zA z) (fi 14 m) (fi 12 m) (zN z 0)
  unfold exF
  exact ⟨fun j h3 h4 h7 h13 => (p1 j h3 h4 h7).trans (g1 j h7 h13), fun x => by rw [p1 13 (by decide) (by decide) (by decide), g4 x]⟩
theorem SM.exp (h : SM c fi z sc ar) {m : Nat} {ck : Int32} (hm : m < zN z 2) (hst : fi 13 m = 0) (hck : ck = fi 12 m) (hs : ∀ j, j < 4 → sc' j = sc j) : SM c (exF fi z m) z sc' (expA (zN z 0) (zN z 1) ck m ar) := by
  have hnp := h.np
  have hy := h.2.2.2.2.2.1.1 m hm
  have haw : fi 14 m = lateI (ar 11) (ar 14) m := (hy.2.2.2.2.2.2 hst).1
  have act : ∀ t, t ∈ zL z (12, m) → t < zN z 1 ∧ fi 7 t ≠ 0 := fun t ht => ⟨(h.2.2.2.2.1.2.2 m hm (Or.inl hst) t ht).1, by rw [(h.2.2.2.2.1.2.2 m hm (Or.inl hst) t ht).2.1]; decide⟩
  have hall : ∀ k, k < 32 → gb (fi 14 m) k = true → ∃ t ∈ zL z (12, m), gb (fi 5 t) k = true := fun k hk hb => by
    rw [haw] at hb
    unfold lateI at hb
    rw [gb_and, Bool.and_eq_true] at hb
    exact ((hy.2.2.2.2.2.1 (Or.inl hst)).1 k hk).mp hb.1
  obtain ⟨g1, g2, g3, g4⟩ := q_E0 fi m 2 1 (zL z (12, m))
  obtain ⟨p1, p2, p3, p4, p5⟩ := q_exL (sndF (fu fi 13 m 2) 1 (zL z (12, m))) (zA z) (fi 14 m) (fi 12 m) (zN z 0)
  have hx : ∀ x, x < zN z 0 → ((x < zN z 0 ∧ hsI (fi 14 m) (nI x) = true) ↔ gb (fi 14 m) x = true) := fun x hx => by
    rw [hsI_gb _ (by omega)]
    exact ⟨fun q => q.2, fun q => ⟨hx, q⟩⟩
  have e4 : expA (zN z 0) (zN z 1) ck m ar 4 = ifF (zN z 0) (fun k => hsI (lateI (ar 11) (ar 14) m) (nI k)) (fun k => lvI (ar 4 k)) (ar 4) := rfl
  have e6 : expA (zN z 0) (zN z 1) ck m ar 6 = ifF (zN z 0) (fun k => hsI (lateI (ar 11) (ar 14) m) (nI k)) (fun k => ck + mtI (ar 4 k)) (ar 6) := rfl
  have eo : ∀ j, j ≠ 4 → j ≠ 6 → expA (zN z 0) (zN z 1) ck m ar j = endA (zN z 0) (zN z 1) m (fi 14 m) ar j := fun j h4 h6 => by
    unfold expA
    rw [if_neg h4, if_neg h6, haw]
  refine h.ends (m := m) (b := fi 14 m) (mi := fi 12 m) hm hst (fun j h3 h4 h7 h13 => (p1 j h3 h4 h7).trans (g1 j h7 h13)) (fun x hx2 => ?_) (fun x hx2 => ?_) (fun t ht hm9 => ?_) (fun t ht hm9 => ?_) (fun x => ?_) hs (fun j h4 h5 h6 h9 h10 h15 => ?_) (fun x hx2 => ?_) (fun x hx2 => ?_) (fun x hx2 hx3 => ?_) ?_ ?_ ?_ ?_
  · show exL _ _ _ _ _ 3 x = _
    rw [p2 x, g1 3 (by decide) (by decide)]
    by_cases e : gb (fi 14 m) x = true
    · rw [if_pos e, if_pos ((hx x hx2).mpr e)]
    · rw [if_neg e, if_neg (fun q => e ((hx x hx2).mp q))]
  · show exL _ _ _ _ _ 4 x = _
    rw [p3 x, g1 3 (by decide) (by decide), g1 4 (by decide) (by decide)]
    by_cases e : gb (fi 14 m) x = true
    · rw [if_pos e, if_pos ((hx x hx2).mpr e)]
    · rw [if_neg e, if_neg (fun q => e ((hx x hx2).mp q))]
  · show exL _ _ _ _ _ 7 t = _
    unfold inB
    by_cases e : fi 5 t &&& fi 14 m = 0
    · rw [if_pos e, p5 t (fun k hk h1 h2 => by
        rw [hsI_gb _ (by omega)] at h1
        exact q_and_0.mp e k (by omega) ⟨(h.2.2.2.1.1 k hk t h2).2, h1⟩), g2 t hm9]
    · rw [if_neg e]
      have hex : ∃ k, k < 32 ∧ gb (fi 5 t) k = true ∧ gb (fi 14 m) k = true := Classical.byContradiction fun q => e (q_and_0.mpr fun k hk q2 => q ⟨k, hk, q2⟩)
      obtain ⟨k, k1, k2, k3⟩ := hex
      have hk := h.kn ht k1 k2
      exact p4 t ⟨k, hk, by rw [hsI_gb _ k1]; exact k3, h.la ht k1 k2 (act t hm9).2⟩
  · show exL _ _ _ _ _ 7 t = _
    rw [p5 t (fun k hk h1 h2 => by
      rw [hsI_gb _ (by omega)] at h1
      obtain ⟨u, u1, u2⟩ := hall k (by omega) h1
      rw [h.la (act u u1).1 (by omega) u2 (act u u1).2] at h2
      exact hm9 (by rw [← Option.some.inj h2]; exact u1)), g3 t hm9]
  · show exL _ _ _ _ _ 13 x = _
    rw [p1 13 (by decide) (by decide) (by decide), g4 x]
  · rw [eo j h4 h6]
    unfold endA
    rw [if_neg h5, if_neg h9, if_neg h10, if_neg h15]
  · rw [e4, ← haw]
    unfold ifF
    by_cases e : gb (fi 14 m) x = true
    · rw [if_pos e, if_pos ((hx x hx2).mpr e)]
    · rw [if_neg e, if_neg (fun q => e ((hx x hx2).mp q))]
  · rw [e6, ← haw, hck]
    unfold ifF
    by_cases e : gb (fi 14 m) x = true
    · rw [if_pos e, if_pos ((hx x hx2).mpr e)]
    · rw [if_neg e, if_neg (fun q => e ((hx x hx2).mp q))]
  · rw [e4, e6]
    unfold ifF
    rw [if_neg (fun q => absurd q.1 (by omega)), if_neg (fun q => absurd q.1 (by omega))]
    exact ⟨rfl, rfl⟩
  · rw [eo 5 (by decide) (by decide)]; rfl
  · rw [eo 9 (by decide) (by decide)]; rfl
  · rw [eo 10 (by decide) (by decide)]; rfl
  · rw [eo 15 (by decide) (by decide)]; rfl
end SMe
