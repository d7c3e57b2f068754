/-! ===== addPlayer, queue, leave ===== -/
theorem SM.add {c : Nat} {fi : Nat → Nat → Int32} {z : CZ} {sc : Nat → Int32} {ar : Nat → Nat → Int32} (h : SM c fi z sc ar) {r ro : Int32} {cap : Nat} {sc' : Nat → Int32} {ar' : Nat → Nat → Int32} (hlt : zN z 0 < 18) (hcap : cap ≤ 25) (hro : ∃ x, 0 < x ∧ x < 8 ∧ ro = nI x) (hs0 : sc' 0 = nI (zN z 0 + 1)) (hs : ∀ j, j < 4 → j ≠ 0 → sc' j = sc j) (ha : ∀ j, j ≠ 1 → j ≠ 2 → j ≠ 3 → ar' j = ar j) (a1 : ar' 1 = va_up (ar 1) (zN z 0) r) (a2 : ar' 2 = va_up (ar 2) (zN z 0) 350) (a3 : ar' 3 = va_up (ar 3) (zN z 0) ro) : SM c (adF fi (zN z 0) r ro) (zP z cap) sc' ar' := by
  have Fo : ∀ j b, (5 ≤ j ∨ b ≠ zN z 0) → adF fi (zN z 0) r ro j b = fi j b := fun j b hj => adF_ne _ _ _ _ _ _ (hj.imp (fun h5 => by unfold okn; split <;> (try omega); split <;> (try omega); split <;> (try omega); split <;> omega) id)
  have F0 : adF fi (zN z 0) r ro 0 (zN z 0) = ro := by simp [adF, fu, va_up]
  have F1 : adF fi (zN z 0) r ro 1 (zN z 0) = r := by simp [adF, fu, va_up]
  have F2 : adF fi (zN z 0) r ro 2 (zN z 0) = 350 := by simp [adF, fu, va_up]
  have F3 : adF fi (zN z 0) r ro 3 (zN z 0) = 0 := by simp [adF, fu, va_up]
  have F4 : adF fi (zN z 0) r ro 4 (zN z 0) = 0 := by simp [adF, fu, va_up]
  have F5 : adF fi (zN z 0) r ro 5 = fi 5 := funext fun b => Fo 5 b (Or.inl (by decide))
  have F7 : adF fi (zN z 0) r ro 7 = fi 7 := funext fun b => Fo 7 b (Or.inl (by decide))
  have F6 : adF fi (zN z 0) r ro 6 = fi 6 := funext fun b => Fo 6 b (Or.inl (by decide))
  have F8 : adF fi (zN z 0) r ro 8 = fi 8 := funext fun b => Fo 8 b (Or.inl (by decide))
  have Fm : ∀ j, 9 ≤ j → adF fi (zN z 0) r ro j = fi j := fun j hj => funext fun b => Fo j b (Or.inl (by omega))
  have N0 : zN (zP z cap) 0 = zN z 0 + 1 := va_up_self (zN z) 0 _
  have N1 : zN (zP z cap) 1 = zN z 1 := va_up_ne (zN z) (zN z 0 + 1) (show (1 : Nat) ≠ 0 by decide)
  have N2 : zN (zP z cap) 2 = zN z 2 := va_up_ne (zN z) (zN z 0 + 1) (show (2 : Nat) ≠ 0 by decide)
  have L1 : ∀ j p, j ≠ 13 → zL (zP z cap) (j, p) = zL z (j, p) := fun j p hj => tu_n (zL z) (p := (j, p)) (q := (13, 0)) _ (fun e => hj (congrArg Prod.fst e))
  have eA : ∀ k, k ≠ zN z 0 → zA (zP z cap) k = zA z k := fun k hk => if_neg hk
  have eA0 : zA (zP z cap) (zN z 0) = none := if_pos rfl
  have est := q_stC_e F7
  obtain ⟨h0, h1, h2, h3, h4, h5, h6⟩ := id h
  have kn : ∀ t, t < zN z 1 → ∀ k, k < 32 → gb (fi 5 t) k = true → k < zN z 0 := fun t ht k hk hb => by
    by_cases hk2 : k < zN z 0
    · exact hk2
    · rw [h.bw ht k (by omega) hk] at hb; cases hb
  refine ⟨?_, ?_, ?_, ?_, ?_, ?_, ?_⟩
  · obtain ⟨k0, k1, k2, k3, k4, k5, k6, k7, k8⟩ := h0
    refine ⟨?_, ?_, ?_, ?_, ?_, ?_, ?_, ?_, k8⟩
    · rw [N0]; exact hs0
    · rw [N1, hs 1 (by decide) (by decide)]; exact k1
    · rw [N2, hs 2 (by decide) (by decide)]; exact k2
    · rw [hs 3 (by decide) (by decide)]; exact k3
    · rw [Fm 18 (by decide)]; exact k4
    · rw [N0]; omega
    · rw [N1]; exact k6
    · rw [N2]; exact k7
  · refine ⟨fun k hk => ?_, fun k hk hk2 => ?_⟩
    · rw [N0] at hk
      rw [est, ha 4 (by decide) (by decide) (by decide), ha 5 (by decide) (by decide) (by decide), ha 6 (by decide) (by decide) (by decide), a1, a2, a3]
      by_cases hkn : k = zN z 0
      · subst hkn
        rw [F0, F1, F2, F3, F4, eA0, va_up_self, va_up_self, va_up_self]
        obtain ⟨e4, e5, e6⟩ := h1.2 (zN z 0) (Nat.le_refl _) hlt
        exact ⟨rfl, rfl, rfl, e4.symm, e6.symm, e5.symm, ⟨0, by decide, rfl⟩, hro⟩
      · rw [Fo 0 k (Or.inr hkn), Fo 1 k (Or.inr hkn), Fo 2 k (Or.inr hkn), Fo 3 k (Or.inr hkn), Fo 4 k (Or.inr hkn), eA k hkn, va_up_ne _ _ hkn, va_up_ne _ _ hkn, va_up_ne _ _ hkn]
        exact h1.1 k (by omega)
    · rw [N0] at hk
      rw [ha 4 (by decide) (by decide) (by decide), ha 5 (by decide) (by decide) (by decide), ha 6 (by decide) (by decide) (by decide)]
      exact h1.2 k (by omega) hk2
  · intro t ht
    rw [N1] at ht
    have hp := h2 t ht
    rw [F5, F6, F7, F8, L1 11 t (by decide), N0, ha 7 (by decide) (by decide) (by decide), ha 8 (by decide) (by decide) (by decide), ha 9 (by decide) (by decide) (by decide)]
    have hrc : rcL (adF fi (zN z 0) r ro) (zL z (11, t)) = rcL fi (zL z (11, t)) := q_sL_cg fun k hk => by
      rw [h.J ht, q_mJ (by decide)] at hk
      rw [Fo 0 k (Or.inr (by have := kn t ht k (by omega) hk.2; omega))]
    rw [hrc]
    exact ⟨hp.1, hp.2.1, hp.2.2.1, q_bw_m hp.2.2.2.1 (Nat.le_succ _), hp.2.2.2.2⟩
  · refine ⟨fun k hk p hp => ?_, fun t ht k hk hb h0 => ?_⟩
    · rw [N0] at hk
      by_cases hkn : k = zN z 0
      · rw [hkn, eA0] at hp; cases hp
      · rw [eA k hkn] at hp
        rw [N1, F5]
        exact h3.1 k (by omega) p hp
    · rw [N1] at ht
      rw [F5] at hb
      rw [F7] at h0
      have := kn t ht k hk hb
      rw [eA k (by omega)]
      exact h3.2 t ht k hk hb h0
  · unfold SX at h4 ⊢
    simp only [N1, N2, F7, Fm 13 (by decide), L1 12 _ (by decide), ha 10 (by decide) (by decide) (by decide)]
    exact h4
  · unfold SY at h5 ⊢
    simp only [N2, F5, Fm 9 (by decide), Fm 10 (by decide), Fm 11 (by decide), Fm 12 (by decide), Fm 13 (by decide), Fm 14 (by decide), L1 12 _ (by decide), ha 11 (by decide) (by decide) (by decide), ha 12 (by decide) (by decide) (by decide), ha 13 (by decide) (by decide) (by decide), ha 14 (by decide) (by decide) (by decide), ha 15 (by decide) (by decide) (by decide)]
    exact h5
  · obtain ⟨k0, k1, k2, k3, k4⟩ := h6
    have C0 : zC (zP z cap) (13, 0) = cap := tu_s (zC z) (13, 0) cap
    have Cn : ∀ i, i ≠ 0 → zC (zP z cap) (13, i) = zC z (13, i) := fun i hi => tu_n (zC z) (p := (13, i)) (q := (13, 0)) _ (fun e => hi (congrArg Prod.snd e))
    refine ⟨?_, ?_, ?_, ?_, ?_⟩
    · rw [C0]; exact hcap
    · rw [Cn 1 (by decide)]; exact k1
    · rw [Cn 2 (by decide)]; exact k2
    · rw [Cn 3 (by decide)]; exact k3
    · rw [Cn 4 (by decide)]; exact k4
theorem q_bec {np : Nat} {s x : Int32} {g : Nat → Int32} {k : Nat} (hk : k < np) (hnp : np ≤ 18) : becF np s x g k = if gb s k = true then x else g k := by
  unfold becF
  rw [hsI_gb _ (by omega)]
  by_cases h : gb s k = true
  · rw [if_pos ⟨hk, h⟩, if_pos h]
  · rw [if_neg (fun q => h q.2), if_neg h]
theorem q_bec' {np : Nat} {s x : Int32} {g : Nat → Int32} {k : Nat} (hk : np ≤ k) : becF np s x g k = g k := if_neg (fun q => absurd q.1 (by omega))
theorem SM.que {c : Nat} {fi : Nat → Nat → Int32} {z : CZ} {sc : Nat → Int32} {ar : Nat → Nat → Int32} (h : SM c fi z sc ar) {s : Int32} {cap cm : Nat} {sc' : Nat → Int32} {ar' : Nat → Nat → Int32} (hlt : zN z 1 < 100) (hcap : cap ≤ 160) (hbw : q_bw (zN z 0) s) (hJ1 : 1 ≤ (JQ s (zN z 0)).length) (hJ3 : (JQ s (zN z 0)).length ≤ 3) (hid : ∀ k, k < zN z 0 → gb s k = true → stC fi (zA z k) = 0) (hs1 : sc' 1 = nI (zN z 1 + 1)) (hs : ∀ j, j < 4 → j ≠ 1 → sc' j = sc j) (ha : ∀ j, j ≠ 5 → j ≠ 7 → j ≠ 8 → j ≠ 9 → j ≠ 10 → ar' j = ar j) (a5 : ar' 5 = becF (zN z 0) s 1 (ar 5)) (a7 : ar' 7 = va_up (ar 7) (zN z 1) s) (a8 : ar' 8 = va_up (ar 8) (zN z 1) (nI c)) (a9 : ar' 9 = va_up (ar 9) (zN z 1) 1) (a10 : ar' 10 = va_up (ar 10) (zN z 1) (-1)) : SM c (quF fi (zN z 1) s (fi 18 0) (JQ s (zN z 0))) (zQ z (laQ z (JQ s (zN z 0))) (JQ s (zN z 0)) cap cm) sc' ar' := by
  have hJ18 : JQ s (zN z 0) = JQ s 18 := (q_bw_J (n := 18) hbw h.np (by decide)).symm
  have Fo : ∀ j b, (j < 5 ∨ 8 < j ∨ b ≠ zN z 1) → quF fi (zN z 1) s (fi 18 0) (JQ s (zN z 0)) j b = fi j b := fun j b hj => quF_ne _ _ _ _ _ _ _ (by
    rcases hj with h5 | h5 | h5
    · exact Or.inl (by unfold okn; split <;> (try omega))
    · exact Or.inl (by unfold okn; split <;> (try omega); split <;> (try omega); split <;> (try omega); split <;> omega)
    · exact Or.inr h5)
  have F5 : quF fi (zN z 1) s (fi 18 0) (JQ s (zN z 0)) 5 (zN z 1) = s := by simp [quF, fu, va_up]
  have F6 : quF fi (zN z 1) s (fi 18 0) (JQ s (zN z 0)) 6 (zN z 1) = fi 18 0 := by simp [quF, fu, va_up]
  have F7 : quF fi (zN z 1) s (fi 18 0) (JQ s (zN z 0)) 7 (zN z 1) = 1 := by simp [quF, fu, va_up]
  have F8 : quF fi (zN z 1) s (fi 18 0) (JQ s (zN z 0)) 8 (zN z 1) = rcL fi (JQ s (zN z 0)) := by simp [quF, fu, va_up]
  have Fp : ∀ j, j < 5 → quF fi (zN z 1) s (fi 18 0) (JQ s (zN z 0)) j = fi j := fun j hj => funext fun b => Fo j b (Or.inl hj)
  have Fm : ∀ j, 8 < j → quF fi (zN z 1) s (fi 18 0) (JQ s (zN z 0)) j = fi j := fun j hj => funext fun b => Fo j b (Or.inr (Or.inl hj))
  have Ft : ∀ j b, b < zN z 1 → quF fi (zN z 1) s (fi 18 0) (JQ s (zN z 0)) j b = fi j b := fun j b hb => Fo j b (Or.inr (Or.inr (by omega)))
  have N0 : zN (zQ z (laQ z (JQ s (zN z 0))) (JQ s (zN z 0)) cap cm) 0 = zN z 0 := va_up_ne (zN z) (zN z 1 + 1) (show (0 : Nat) ≠ 1 by decide)
  have N1 : zN (zQ z (laQ z (JQ s (zN z 0))) (JQ s (zN z 0)) cap cm) 1 = zN z 1 + 1 := va_up_self (zN z) 1 _
  have N2 : zN (zQ z (laQ z (JQ s (zN z 0))) (JQ s (zN z 0)) cap cm) 2 = zN z 2 := va_up_ne (zN z) (zN z 1 + 1) (show (2 : Nat) ≠ 1 by decide)
  have Ln : zL (zQ z (laQ z (JQ s (zN z 0))) (JQ s (zN z 0)) cap cm) (11, zN z 1) = JQ s (zN z 0) := tu_s _ _ _
  have L11 : ∀ p, p ≠ zN z 1 → zL (zQ z (laQ z (JQ s (zN z 0))) (JQ s (zN z 0)) cap cm) (11, p) = zL z (11, p) := fun p hp => (tu_n (tu (zL z) (13, 1) (List.range (zN z 1 + 1))) (p := (11, p)) (q := (11, zN z 1)) _ (fun e => hp (congrArg Prod.snd e))).trans (tu_n (zL z) (p := (11, p)) (q := (13, 1)) _ (fun e => by cases e))
  have L12 : ∀ p, zL (zQ z (laQ z (JQ s (zN z 0))) (JQ s (zN z 0)) cap cm) (12, p) = zL z (12, p) := fun p => (tu_n (tu (zL z) (13, 1) (List.range (zN z 1 + 1))) (p := (12, p)) (q := (11, zN z 1)) (JQ s (zN z 0)) (fun e => by cases e)).trans (tu_n (zL z) (p := (12, p)) (q := (13, 1)) _ (fun e => by cases e))
  have eA : zA (zQ z (laQ z (JQ s (zN z 0))) (JQ s (zN z 0)) cap cm) = laQ z (JQ s (zN z 0)) := rfl
  have hnp := h.np
  have mJ : ∀ k, k ∈ JQ s (zN z 0) ↔ k < zN z 0 ∧ gb s k = true := fun k => q_mJ (by omega)
  have laT : ∀ k, k < zN z 0 → gb s k = true → laQ z (JQ s (zN z 0)) k = some (zN z 1) := fun k hk hb => if_pos ((mJ k).mpr ⟨hk, hb⟩)
  have laF : ∀ k, ¬ gb s k = true → laQ z (JQ s (zN z 0)) k = zA z k := fun k hb => if_neg (fun q => hb ((mJ k).mp q).2)
  obtain ⟨h0, h1, h2, h3, h4, h5, h6⟩ := id h
  refine ⟨?_, ?_, ?_, ?_, ?_, ?_, ?_⟩
  · obtain ⟨k0, k1, k2, k3, k4, k5, k6, k7, k8⟩ := h0
    refine ⟨?_, ?_, ?_, ?_, ?_, ?_, ?_, ?_, k8⟩
    · rw [N0, hs 0 (by decide) (by decide)]; exact k0
    · rw [N1]; exact hs1
    · rw [N2, hs 2 (by decide) (by decide)]; exact k2
    · rw [hs 3 (by decide) (by decide)]; exact k3
    · rw [Fm 18 (by decide)]; exact k4
    · rw [N0]; exact k5
    · rw [N1]; omega
    · rw [N2]; exact k7
  · refine ⟨fun k hk => ?_, fun k hk hk2 => ?_⟩
    · rw [N0] at hk
      have hp := h1.1 k hk
      rw [Fp 0 (by decide), Fp 1 (by decide), Fp 2 (by decide), Fp 3 (by decide), Fp 4 (by decide), ha 1 (by decide) (by decide) (by decide) (by decide) (by decide), ha 2 (by decide) (by decide) (by decide) (by decide) (by decide), ha 3 (by decide) (by decide) (by decide) (by decide) (by decide), ha 4 (by decide) (by decide) (by decide) (by decide) (by decide), ha 6 (by decide) (by decide) (by decide) (by decide) (by decide), a5, q_bec hk h.np, eA]
      refine ⟨hp.1, hp.2.1, hp.2.2.1, hp.2.2.2.1, hp.2.2.2.2.1, ?_, hp.2.2.2.2.2.2⟩
      by_cases hb : gb s k = true
      · rw [if_pos hb, laT k hk hb]
        exact F7
      · rw [if_neg hb, laF k hb, ← hp.2.2.2.2.2.1]
        cases hz : zA z k with
        | none => rfl
        | some p => exact Ft 7 p (h3.1 k hk p hz).1
    · rw [N0] at hk
      rw [ha 4 (by decide) (by decide) (by decide) (by decide) (by decide), ha 6 (by decide) (by decide) (by decide) (by decide) (by decide), a5, q_bec' hk]
      exact h1.2 k hk hk2
  · intro t ht
    rw [N1] at ht
    have erc := q_rcL_e (Fp 0 (by decide))
    rw [erc, N0, a7, a8, a9]
    by_cases htn : t = zN z 1
    · subst htn
      rw [F5, F6, F7, F8, Ln, va_up_self, va_up_self, va_up_self, h.ck]
      exact ⟨rfl, rfl, hJ18, hbw, ⟨hJ1, hJ3⟩, rfl, rfl, Or.inr (Or.inl rfl), c, Nat.le_refl _, rfl⟩
    · have ht2 : t < zN z 1 := by omega
      rw [Ft 5 t ht2, Ft 6 t ht2, Ft 7 t ht2, Ft 8 t ht2, L11 t htn, va_up_ne _ _ htn, va_up_ne _ _ htn, va_up_ne _ _ htn]
      exact h2 t ht2
  · refine ⟨fun k hk p hp => ?_, fun t ht k hk hb h0 => ?_⟩
    · rw [N0] at hk
      rw [eA] at hp
      rw [N1]
      by_cases hb : gb s k = true
      · rw [laT k hk hb] at hp
        cases hp
        exact ⟨Nat.lt_succ_self _, by rw [F5]; exact hb⟩
      · rw [laF k hb] at hp
        obtain ⟨p1, p2⟩ := h3.1 k hk p hp
        exact ⟨by omega, by rw [Ft 5 p p1]; exact p2⟩
    · rw [N1] at ht
      rw [eA]
      by_cases htn : t = zN z 1
      · subst htn
        rw [F5] at hb
        refine laT k ?_ hb
        by_cases hk2 : k < zN z 0
        · exact hk2
        · rw [hbw k (by omega) hk] at hb; cases hb
      · have ht2 : t < zN z 1 := by omega
        rw [Ft 5 t ht2] at hb
        rw [Ft 7 t ht2] at h0
        have hz := h3.2 t ht2 k hk hb h0
        have hk2 : k < zN z 0 := by
          by_cases hk2 : k < zN z 0
          · exact hk2
          · rw [h.bw ht2 k (by omega) hk] at hb; cases hb
        by_cases hs9 : gb s k = true
        · have := hid k hk2 hs9
          rw [hz] at this
          exact absurd this h0
        · rw [laF k hs9]; exact hz
  · refine ⟨fun t ht h2' => ?_, fun t ht h2' => ?_, fun m hm2 hst t ht => ?_⟩
    · rw [N1] at ht
      by_cases htn : t = zN z 1
      · subst htn; rw [F7] at h2'; exact absurd h2' (by decide)
      · have ht2 : t < zN z 1 := by omega
        rw [Ft 7 t ht2] at h2'
        rw [a10, va_up_ne _ _ htn, N2]
        simp only [Fm 13 (by decide), L12]
        exact h4.1 t ht2 h2'
    · rw [N1] at ht
      rw [a10]
      by_cases htn : t = zN z 1
      · subst htn; rw [va_up_self]
      · have ht2 : t < zN z 1 := by omega
        rw [Ft 7 t ht2] at h2'
        rw [va_up_ne _ _ htn]
        exact h4.2.1 t ht2 h2'
    · rw [N2] at hm2
      rw [Fm 13 (by decide)] at hst
      rw [L12] at ht
      obtain ⟨b1, b2, b3⟩ := h4.2.2 m hm2 hst t ht
      rw [N1, Ft 7 t b1, a10, va_up_ne _ _ (by omega)]
      exact ⟨by omega, b2, b3⟩
  · obtain ⟨hy, hd⟩ := h5
    unfold SY
    simp only [N2, Fm 9 (by decide), Fm 10 (by decide), Fm 11 (by decide), Fm 12 (by decide), Fm 13 (by decide), Fm 14 (by decide), L12, ha 11 (by decide) (by decide) (by decide) (by decide) (by decide), ha 12 (by decide) (by decide) (by decide) (by decide) (by decide), ha 13 (by decide) (by decide) (by decide) (by decide) (by decide), ha 14 (by decide) (by decide) (by decide) (by decide) (by decide), ha 15 (by decide) (by decide) (by decide) (by decide) (by decide)]
    refine ⟨fun m hm => ?_, hd⟩
    obtain ⟨y1, y2, y3, y4, y5, y6, y7⟩ := hy m hm
    refine ⟨y1, y2, y3, y4, y5, fun hst => ⟨fun k hk => ?_, (y6 hst).2⟩, y7⟩
    rw [(y6 hst).1 k hk]
    exact ⟨fun ⟨t, t1, t2⟩ => ⟨t, t1, by rw [Ft 5 t (h4.2.2 m hm hst t t1).1]; exact t2⟩, fun ⟨t, t1, t2⟩ => ⟨t, t1, by rw [Ft 5 t (h4.2.2 m hm hst t t1).1] at t2; exact t2⟩⟩
  · obtain ⟨k0, k1, k2, k3, k4⟩ := h6
    have C1 : zC (zQ z (laQ z (JQ s (zN z 0))) (JQ s (zN z 0)) cap cm) (13, 1) = cap := (tu_n (tu (zC z) (13, 1) cap) (p := (13, 1)) (q := (11, zN z 1)) cm (fun e => by cases e)).trans (tu_s _ _ _)
    have Cn : ∀ i, i ≠ 1 → zC (zQ z (laQ z (JQ s (zN z 0))) (JQ s (zN z 0)) cap cm) (13, i) = zC z (13, i) := fun i hi => (tu_n (tu (zC z) (13, 1) cap) (p := (13, i)) (q := (11, zN z 1)) cm (fun e => by cases e)).trans (tu_n (zC z) (p := (13, i)) (q := (13, 1)) _ (fun e => hi (congrArg Prod.snd e)))
    refine ⟨?_, ?_, ?_, ?_, ?_⟩
    · rw [Cn 0 (by decide)]; exact k0
    · rw [C1]; exact hcap
    · rw [Cn 2 (by decide)]; exact k2
    · rw [Cn 3 (by decide)]; exact k3
    · rw [Cn 4 (by decide)]; exact k4
