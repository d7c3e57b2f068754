/-! ===== time passes ===== -/
def PQ (np nm : Nat) (ar g : Nat → Nat → Int32) (L : Int32) : Prop := g 11 = ar 11 ∧ (∀ k, k < np → g 4 k = if gb L k = true then lvI (ar 4 k) else ar 4 k) ∧ (∀ m, m < nm → g 15 m = 0 → ar 15 m = 0) ∧ ∀ k, k < np → gb L k = true → ∀ m, m < nm → g 15 m = 0 → gb (allI (ar 11) m) k = false
def PE (c nm i : Nat) (g : Nat → Nat → Int32) : Prop := ∀ m, i ≤ m → m < nm → g 15 m = 0 → ∃ d, g 13 m = nI d ∧ d ≤ c ∧ c < d + 3
def PJ (np nm : Nat) (ar : Nat → Nat → Int32) : Prop := ∀ m m', m < nm → m' < nm → m ≠ m' → ar 15 m = 0 → ar 15 m' = 0 → ∀ k, k < np → gb (allI (ar 11) m) k = true → gb (allI (ar 11) m') k = false
section PQs
variable {c np nt nm i : Nat} {ck : Int32} {fi ar g : Nat → Nat → Int32} {z : CZ} {sc : Nat → Int32} {L : Int32} {lq : Nat → Int64} {la : Nat → Nat → Int32} {P S Q M : Nat → Nat}
theorem PQ.zero : PQ np nm ar ar 0 := ⟨rfl, fun k _ => by rw [gb_0, if_neg (by decide)], fun _ _ h => h, fun k _ q => by rw [gb_0] at q; cases q⟩
theorem PE.of (h : SM c fi z sc ar) : PE c (zN z 2) 0 ar := by
  obtain ⟨-, d, hd, -⟩ := h.2.2.2.2.2.1
  exact fun m _ hm q => ⟨d m, (hd m hm).1, (hd m hm).2.2.1, (hd m hm).2.2.2 ((h.mt hm).2.2.2.1.trans q)⟩
theorem PE.next (h : PE c nm i g) : PE c nm (i + 1) g := fun m hm => h m (by omega)
theorem PE.e15 {m : Nat} (q : expA np nt ck i g 15 m = 0) : m ≠ i ∧ g 15 m = 0 := by
  rw [show expA np nt ck i g 15 = va_up (g 15) i 2 from rfl] at q
  by_cases hm : m = i
  · subst hm; rw [va_up_self] at q; exact absurd q (by decide)
  · rw [va_up_ne _ _ hm] at q; exact ⟨hm, q⟩
theorem PE.exp (h : PE c nm i g) : PE c nm (i + 1) (expA np nt ck i g) := fun m h1 h2 q => h m (by omega) h2 (PE.e15 q).2
theorem PE.cond (h : PE c nm i g) (hi : i < nm) (h0 : g 15 i = 0) (hc : c ≤ 5000) : g 13 i + 3 = nI (c + 1) ↔ 3 ≤ nI (c + 1) - g 13 i := by
  obtain ⟨d, d1, d2, d3⟩ := h i (Nat.le_refl _) hi h0
  rw [d1, show (3 : Int32) = nI 3 from rfl, nI_add, pk_sub (by omega), nI_eq (by omega) (by omega), nI_leI (by omega) (by omega)]
  omega
theorem PJ.of (h : SM c fi z sc ar) : PJ (zN z 0) (zN z 2) ar := fun m m' hm hm' hne h1 h2 k hk q => by
  have hnp := h.np
  have hnm := h.nm
  cases hu : gb (allI (ar 11) m') k with
  | false => rfl
  | true =>
    obtain ⟨t, t1, t2⟩ := (SI.all h hm (Or.inl h1) (by omega)).mp q
    obtain ⟨u, u1, u2⟩ := (SI.all h hm' (Or.inl h2) (by omega)).mp hu
    obtain ⟨a1, a2, a3⟩ := h.2.2.2.2.1.2.2 m hm (Or.inl ((h.mt hm).2.2.2.1.trans h1)) t t1
    obtain ⟨b1, b2, b3⟩ := h.2.2.2.2.1.2.2 m' hm' (Or.inl ((h.mt hm').2.2.2.1.trans h2)) u u1
    have e := h.one a1 b1 (by omega) t2 u2 (by rw [a2]; decide) (by rw [b2]; decide)
    subst e
    exact absurd ((nI_eq (by omega) (by omega)).mp (a3.symm.trans b3)) hne
theorem PQ.exp (h : PQ np nm ar g L) (hJ : PJ np nm ar) (hnp : np ≤ 18) (hi : i < nm) (h0 : g 15 i = 0) : PQ np nm ar (expA np nt ck i g) (L ||| lateI (g 11) (g 14) i) := by
  obtain ⟨h11, h4, h15, hL⟩ := h
  have hb : ∀ k, k < 32 → gb (lateI (g 11) (g 14) i) k = true → gb (allI (ar 11) i) k = true := fun k hk q => by
    unfold lateI at q
    rw [gb_and, h11] at q
    cases hx : gb (allI (ar 11) i) k with
    | true => rfl
    | false => rw [hx] at q; cases q
  refine ⟨h11, fun k hk => ?_, fun m hm q => h15 m hm (PE.e15 q).2, fun k hk q m hm q0 => ?_⟩
  · show (if k < np ∧ hsI (lateI (g 11) (g 14) i) (nI k) = true then lvI (g 4 k) else g 4 k) = _
    rw [hsI_gb _ (by omega), gb_or]
    by_cases hx : gb (lateI (g 11) (g 14) i) k = true
    · rw [if_pos ⟨hk, hx⟩, hx, Bool.or_true, if_pos rfl, h4 k hk]
      cases hl : gb L k with
      | false => rw [if_neg (by decide)]
      | true =>
        have := hL k hk hl i hi h0
        rw [hb k (by omega) hx] at this
        cases this
    · rw [if_neg (fun r => hx r.2), Bool.eq_false_iff.mpr hx, Bool.or_false, h4 k hk]
  · obtain ⟨m1, m2⟩ := PE.e15 q0
    rw [gb_or] at q
    cases hl : gb L k with
    | true => exact hL k hk hl m hm m2
    | false =>
      rw [hl, Bool.false_or] at q
      exact hJ i m hi hm (Ne.symm m1) (h15 i hi h0) (h15 m hm m2) k hk (hb k (by omega) q)
def pvG (ck : Int32) (ar : Nat → Nat → Int32) : Nat → Int32 := fun k => ck + mtI (ar 4 k)
theorem PQ.iv (hQ : PQ np nm ar g L) (hnp : np ≤ 18) (h : IV c np nt nm g lq la P S Q M) (hi : i < nm) (h0 : g 15 i = 0) : IV c np nt nm (expA np nt ck i g) (mixF nt (endQ i (lateI (g 11) (g 14) i) P S M lq) lq) (va_up (fu la 1 i ((la 1 i &&& 262143) ||| 524288)) 3 (ifF np (fun k => hsI (lateI (g 11) (g 14) i) (nI k)) (pvG ck ar) (fu la 1 i ((la 1 i &&& 262143) ||| 524288) 3))) P S (enQ i (lateI (g 11) (g 14) i) P Q M) (enM i M) := by
  have h1 := h.end (ar' := endA np nt i (lateI (g 11) (g 14) i) g) (b := lateI (g 11) (g 14) i) hi rfl rfl rfl (fun j j5 j9 j10 j15 => by unfold endA; rw [if_neg j5, if_neg j9, if_neg j10, if_neg j15])
  refine h1.bars (p := fun k => hsI (lateI (g 11) (g 14) i) (nI k)) (g := pvG ck ar) ?_ (fun k _ => by rw [va_up_self]) (fun j hj => va_up_ne _ _ hj) (fun j j4 j6 => by unfold expA; rw [if_neg j4, if_neg j6])
  rw [show expA np nt ck i g 6 = ifF np (fun k => hsI (lateI (g 11) (g 14) i) (nI k)) (fun k => ck + mtI (g 4 k)) (g 6) from (if_neg (by decide)).trans (if_pos rfl), show endA np nt i (lateI (g 11) (g 14) i) g 6 = g 6 from rfl]
  obtain ⟨h11, h4, h15, hL⟩ := hQ
  funext k
  show (if k < np ∧ hsI (lateI (g 11) (g 14) i) (nI k) = true then ck + mtI (g 4 k) else g 6 k) = (if k < np ∧ hsI (lateI (g 11) (g 14) i) (nI k) = true then ck + mtI (ar 4 k) else g 6 k)
  by_cases hx : k < np ∧ hsI (lateI (g 11) (g 14) i) (nI k) = true
  · rw [if_pos hx, if_pos hx, h4 k hx.1]
    cases hl : gb L k with
    | false => rw [if_neg (by decide)]
    | true =>
      have h9 := hL k hx.1 hl i hi h0
      have h8 := hx.2
      rw [hsI_gb _ (by omega)] at h8
      unfold lateI at h8
      rw [gb_and, h11, h9] at h8
      cases h8
  · rw [if_neg hx, if_neg hx]
end PQs
theorem uB_fu {la1 : Nat → Nat → Int32} {j : Nat} {x : Int32} (g : Nat → Int32) : fu (va_up la1 3 g) 3 j x = va_up la1 3 (va_up g j x) := by
  funext a
  unfold fu
  by_cases ha : a = 3
  · subst ha; rw [va_up_self, va_up_self, va_up_self]
  · rw [va_up_ne _ _ ha, va_up_ne _ _ ha, va_up_ne _ _ ha]
theorem uB_t {la1 : Nat → Nat → Int32} {p : Nat → Bool} {G : Nat → Int32} {j : Nat} {x : Int32} (h : p j = true) (hx : x = G j) : fu (fu (va_up la1 3 (ifF j p G (la1 3))) 3 j x) 3 j x = va_up la1 3 (ifF (j + 1) p G (la1 3)) := by
  rw [uB_fu, uB_fu, ifF_t h hx]
  refine congrArg (va_up la1 3) (funext fun b => ?_)
  by_cases hb : b = j
  · subst hb; rw [va_up_self]; unfold ifF; rw [if_pos ⟨Nat.lt_succ_self b, h⟩, hx]
  · rw [va_up_ne _ _ hb]
theorem uB_f {la1 : Nat → Nat → Int32} {p : Nat → Bool} {G : Nat → Int32} {j : Nat} (h : p j = false) : fu (va_up la1 3 (ifF j p G (la1 3))) 3 j (va_up la1 3 (ifF j p G (la1 3)) 3 j) = va_up la1 3 (ifF (j + 1) p G (la1 3)) := by
  rw [fu_id, ifF_f h]
theorem uB_0 {la1 : Nat → Nat → Int32} {p : Nat → Bool} {G : Nat → Int32} : va_up la1 3 (ifF 0 p G (la1 3)) = la1 := by
  rw [ifF_0]
  funext a
  by_cases ha : a = 3
  · subst ha; rw [va_up_self]
  · rw [va_up_ne _ _ ha]
theorem mt_pos : ∀ v, v ≤ 5 → ¬ mtI (nI v) ≤ 0 := by decide +kernel
theorem sr1_step (fi : Nat → Nat → Int32) (i : Nat) : ∀ j, j < 1 → mixF (i + 1) (fi 3) (fun _ => 0) = fu (fun _ => mixF i (fi 3) (fun _ => 0)) 0 i (fi 3 i) j := fun j hj => by
  have h : j = 0 := by omega
  subst h
  rw [show fu (fun _ => mixF i (fi 3) (fun _ => 0)) 0 i (fi 3 i) 0 = va_up (mixF i (fi 3) (fun _ => 0)) i (fi 3 i) from va_up_self _ _ _]
  exact (mixF_up (E := fi 3) rfl).symm
