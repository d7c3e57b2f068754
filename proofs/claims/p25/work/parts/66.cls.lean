/-! ===== a new player ===== -/
theorem w_in {f : Wo} {q b : Nat} {t : Tg} {e : va_E} {x : Tg × va_E} (hq : f q = none) (h : f b = some x) : (w_up f q t e) b = some x := (w_up_ne _ _ _ (w_neN h hq)).trans h
def zP (z : CZ) (cap : Nat) : CZ := (tu (zL z) (13, 0) (List.range (zN z 0 + 1)), (fun k => if k = zN z 0 then none else zA z k), va_up (zN z) 0 (zN z 0 + 1), tu (zC z) (13, 0) cap)
theorem zP_d {z : CZ} {cap : Nat} {p : Tg} (h : dom (zN (zP z cap)) p) (hn : p ≠ (0, zN z 0)) : dom (zN z) p := by
  rcases h with ⟨h1, h2⟩ | h
  · refine Or.inl ⟨h1, ?_⟩
    by_cases hp : p.1 = 0
    · have h3 : p.2 < zN z 0 + 1 := by rw [hp] at h2; exact h2
      have h4 : p.2 ≠ zN z 0 := fun e => hn (Prod.ext hp e)
      rw [hp]
      omega
    · rwa [show zN (zP z cap) p.1 = zN z p.1 from va_up_ne _ _ hp] at h2
  · exact Or.inr h
theorem zP_l {z : CZ} {cap : Nat} {p : Tg} (h : dol (zN (zP z cap)) p) : dol (zN z) p := h
theorem fsC_al {al al' : Tg → Nat} {fi fi' : Nat → Nat → Int32} {la la' : Nat → Option Nat} {p : Tg} (h1 : ∀ a, okn a = p.1 → fi' a p.2 = fi a p.2) (h2 : p.1 = 0 → la' p.2 = la p.2) (h3 : ∀ q : Tg, q.1 ≠ 0 → al' q = al q) : fsC al' fi' la' p = fsC al fi la p := by
  obtain ⟨a, b⟩ := p
  have h11 : ∀ i, okn i = a → fi' i b = fi i b := h1
  have h22 : a = 0 → la' b = la b := h2
  unfold fsC
  match a with
  | 0 =>
    simp only [h11 0 rfl, h11 1 rfl, h11 2 rfl, h11 3 rfl, h11 4 rfl, h22 rfl]
    cases la b with
    | none => rfl
    | some p => simp only [laR, h3 (1, p) (fun e => by cases e)]
  | 1 => simp only [h11 5 rfl, h11 6 rfl, h11 7 rfl, h11 8 rfl, h3 (11, b) (fun e => by cases e)]
  | 2 => simp only [h11 9 rfl, h11 10 rfl, h11 11 rfl, h11 12 rfl, h11 13 rfl, h11 14 rfl, h3 (12, b) (fun e => by cases e)]
  | 14 => simp only [h11 15 rfl, h11 16 rfl, h11 17 rfl, h3 (13, 3) (fun e => by cases e), h3 (13, 4) (fun e => by cases e)]
  | 15 => simp only [h11 18 rfl, h3 (13, 0) (fun e => by cases e), h3 (13, 1) (fun e => by cases e), h3 (13, 2) (fun e => by cases e), h3 (14, 0) (fun e => by cases e)]
  | 3 | 4 | 5 | 6 | 7 | 8 | 9 | 10 | 11 | 12 | 13 => rfl
  | n + 16 => rfl
theorem RC.growP {G : GG} {al : Tg → Nat} {fi fi' : Nat → Nat → Int32} {z : CZ} {f f2 : Wo} {q cap : Nat} {vs : List Value} (h : RC G al fi z f) (hq : f q = none) (hA : AL G f2 (al (13, 0)) (13, 0) cap (lst al (zL z) (13, 0) ++ [q])) (hF : FrL (al (13, 0)) (w_up f q (0, zN z 0) (oO 4 vs)) f2) (hvs : vs = fsC (tu al (0, zN z 0) q) fi' (zA (zP z cap)) (0, zN z 0)) (hfi : ∀ a b, okn a ≠ 0 ∨ b ≠ zN z 0 → fi' a b = fi a b) (hc : cap ≤ 1000) (hn : zN z 0 + 1 ≤ 1000) : RC G (tu al (0, zN z 0) q) fi' (zP z cap) f2 ∧ FrC f f2 := by
  obtain ⟨⟨w1, w2, w3, w4, w5⟩, h1, h2, g0, hg⟩ := h
  have h0 : dol (zN z) (13, 0) := dl13 (by decide)
  obtain ⟨us, hu⟩ := (h2 _ h0).hd
  have hal : ∀ p : Tg, p.1 ≠ 0 → tu al (0, zN z 0) q p = al p := fun p hp => tu_n _ _ (fun e => hp (by rw [e]))
  have hal0 : ∀ p : Tg, p ≠ (0, zN z 0) → tu al (0, zN z 0) q p = al p := fun p hp => tu_n _ _ hp
  have hN : zN (zP z cap) 0 = zN z 0 + 1 := va_up_self (zN z) 0 _
  have hNn : ∀ j, j ≠ 0 → zN (zP z cap) j = zN z j := fun j hj => va_up_ne _ _ hj
  have hle : ∀ j, zN z j ≤ zN (zP z cap) j := fun j => by
    by_cases hj : j = 0
    · subst hj; rw [hN]; omega
    · rw [hNn j hj]; exact Nat.le_refl _
  refine ⟨⟨⟨fun p hp j hj => ?_, fun k hk p hp => ?_, fun j hj => ?_, fun p hp => ?_, fun j hj => ?_⟩, fun p hp => ?_, fun p hp => ?_, g0, ?_⟩, fun b x hb hx => ?_⟩
  · by_cases hpq : p = (13, 0)
    · subst hpq
      rw [show zL (zP z cap) (13, 0) = List.range (zN z 0 + 1) from tu_s (zL z) (13, 0) _] at hj
      have := List.mem_range.mp hj
      show j < zN (zP z cap) 0
      rw [hN]; exact this
    · rw [show zL (zP z cap) p = zL z p from tu_n _ _ hpq] at hj
      exact Nat.lt_of_lt_of_le (w1 p hp j hj) (hle _)
  · rw [hNn 1 (by decide)]
    by_cases hk0 : k = zN z 0
    · rw [show zA (zP z cap) k = none from if_pos hk0] at hp; cases hp
    · rw [show zA (zP z cap) k = zA z k from if_neg hk0] at hp
      rw [hN] at hk
      exact w2 k (by omega) p hp
  · by_cases hj0 : j = 0
    · subst hj0
      rw [hN]; exact tu_s (zL z) (13, 0) _
    · rw [hNn j hj0, show zL (zP z cap) (13, j) = zL z (13, j) from tu_n _ _ (fun e => hj0 (congrArg Prod.snd e))]
      exact w3 j hj
  · by_cases hpq : p = (13, 0)
    · subst hpq
      rw [show zC (zP z cap) (13, 0) = cap from tu_s (zC z) (13, 0) _]; exact hc
    · rw [show zC (zP z cap) p = zC z p from tu_n _ _ hpq]; exact w4 p hp
  · by_cases hj0 : j = 0
    · subst hj0; rw [hN]; exact hn
    · rw [hNn j hj0]; exact w5 j hj
  · by_cases hpq : p = (0, zN z 0)
    · subst hpq
      rw [tu_s]
      have hs : (w_up f q (0, zN z 0) (oO 4 vs)) q = some ((0, zN z 0), oO 4 vs) := w_up_self _ _ _ _
      refine (hF q _ hs (Ne.symm (w_neN hu hq)) (fun e => by cases e)).trans ?_
      rw [hvs]
      rfl
    · have hd := zP_d hp hpq
      rw [hal0 p hpq, show fsC (tu al (0, zN z 0) q) fi' (zA (zP z cap)) p = fsC al fi (zA z) p from fsC_al (fun a ha => hfi a _ (by
          by_cases h9 : p.1 = 0
          · exact Or.inr (fun e => hpq (Prod.ext h9 e))
          · exact Or.inl (by rw [ha]; exact h9))) (fun h9 => if_neg (fun e => hpq (Prod.ext h9 e))) hal]
      exact hF _ _ (w_in hq (h1 p hd)) (w_neT hu (h1 p hd) (dom_ne hd h0).symm) (fun e => by have := dom_lt hd; rw [show p = (20, al (13, 0)) from e] at this; omega)
  · rw [hal p (fun e => by rcases hp with ⟨a, -⟩ | ⟨a, -⟩ | ⟨a, -⟩ <;> omega)]
    by_cases hpq : p = (13, 0)
    · subst hpq
      rw [show zC (zP z cap) (13, 0) = cap from tu_s (zC z) (13, 0) _]
      have e9 : lst (tu al (0, zN z 0) q) (zL (zP z cap)) (13, 0) = lst al (zL z) (13, 0) ++ [q] := by
        rw [lst, show zL (zP z cap) (13, 0) = List.range (zN z 0 + 1) from tu_s (zL z) (13, 0) _, List.range_succ, List.map_append, lst, w3 0 (by decide)]
        congr 1
        · refine List.map_congr_left fun i hi => hal0 _ (fun e => ?_)
          have h8 := List.mem_range.mp hi
          have h9 : i = zN z 0 := congrArg Prod.snd e
          omega
        · show [tu al (0, zN z 0) q (0, zN z 0)] = _
          rw [tu_s]
      rw [e9]
      exact hA
    · rw [show zC (zP z cap) p = zC z p from tu_n _ _ hpq]
      have e9 : lst (tu al (0, zN z 0) q) (zL (zP z cap)) p = lst al (zL z) p := by
        rw [lst, lst, show zL (zP z cap) p = zL z p from tu_n _ _ hpq]
        refine List.map_congr_left fun i hi => hal0 _ (fun e => ?_)
        have h8 := w1 p hp i hi
        have h9 : i = zN z 0 := congrArg Prod.snd e
        have h7 : ek p = 0 := congrArg Prod.fst e
        rw [h7] at h8
        omega
      rw [e9]
      obtain ⟨us2, hu2⟩ := (h2 p hp).hd
      have hpa : al p ≠ al (13, 0) := w_neT hu hu2 (fun e => hpq e.symm)
      refine (h2 p hp).keep fun b x hb hx => hF b x (w_in hq hb) (fun e => ?_) (fun e => ?_)
      · subst e
        rw [hu] at hb
        cases hb
        rcases hx with hx | hx | hx
        · exact hpa hx.symm
        · cases hx
        · cases hx
      · rcases hx with hx | hx | hx
        · subst hx
          rw [hu2] at hb
          cases hb
          have := dol_lt hp; rw [show p = (20, al (13, 0)) from e] at this; omega
        · rw [hx] at e; exact hpa (congrArg Prod.snd e)
        · rw [hx] at e; cases e
  · exact hF _ _ (w_in hq hg) (w_neT hu hg (by decide)) (fun e => by cases e)
  · refine hF b x (w_in hq hb) (fun e => ?_) (fun e => ?_)
    · subst e
      rw [hu] at hb
      cases hb
      have h30 : 30 ≤ 13 := hx
      omega
    · rw [e] at hx
      have h30 : 30 ≤ 20 := hx
      omega
