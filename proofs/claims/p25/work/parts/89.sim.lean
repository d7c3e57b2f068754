/-! ===== the relation holds behind a make ===== -/
theorem q_perm_mem {A B T : List Nat} (h : (A ++ B).Perm T) (t : Nat) : t ∈ T ↔ t ∈ A ∨ t ∈ B := by
  rw [← h.mem_iff, List.mem_append]
theorem SM.made {c : Nat} {fi : Nat → Nat → Int32} {z : CZ} {sc : Nat → Int32} {ar : Nat → Nat → Int32} (h : SM c fi z sc ar) {g : Nat → Nat → Int32} {z' : CZ} {T A B : List Nat} {df : Int32} {cap cm : Nat} {sc' : Nat → Int32} {ar' : Nat → Nat → Int32} (hg : DQ fi g) (hz : zE z z') (hcp : cpO z') (hcap : cap ≤ 800) (hT : ∀ t ∈ T, t < zN z 1 ∧ fi 7 t = 1) (hTd : T.Pairwise (q_dj (fi 5))) (hAB : (A ++ B).Perm T) (h15 : g 15 0 = q_U (fi 5) A) (h16 : g 16 0 = q_U (fi 5) B) (h17 : g 17 0 = df) (hm : zN z 2 < 512) (hs : ∀ j, j < 4 → j ≠ 2 → sc' j = sc j) (hs2 : sc' 2 = nI (zN z 2 + 1)) (ha : ∀ j, j ≠ 5 → j ≠ 9 → j ≠ 10 → j ≠ 11 → j ≠ 12 → j ≠ 13 → j ≠ 14 → j ≠ 15 → j ≠ 16 → ar' j = ar j) (a5 : ∀ k, k < zN z 0 → ar' 5 k = if gb (q_U (fi 5) T) k = true then 2 else ar 5 k) (a5' : ∀ k, zN z 0 ≤ k → ar' 5 k = ar 5 k) (a9 : ∀ t, ar' 9 t = if t ∈ T then 0 else ar 9 t) (a10 : ∀ t, ar' 10 t = if t ∈ T then nI (zN z 2) else ar 10 t) (a11 : ar' 11 = va_up (va_up (ar 11) (2 * zN z 2) (q_U (fi 5) A)) (2 * zN z 2 + 1) (q_U (fi 5) B)) (a12 : ar' 12 = va_up (ar 12) (zN z 2) df) (a13 : ar' 13 = va_up (ar 13) (zN z 2) (nI c)) (a14 : ar' 14 = va_up (ar 14) (zN z 2) 0) (a15 : ar' 15 = va_up (ar 15) (zN z 2) 0) : SM c (nmF g (zN z 2) (g 18 0) T) (zM z' T cap cm) sc' ar' := by
  have F7 : ∀ t, nmF g (zN z 2) (g 18 0) T 7 t = if t ∈ T then 2 else fi 7 t := fun t => by
    rw [nmF_ne _ _ _ _ _ _ (Or.inl (by decide)), ← hg 7 t (Or.inl (by decide))]
    exact congrFun (va_up_self _ _ _) t
  have Fo : ∀ j b, j ≠ 7 → (j < 9 ∨ 17 < j) → nmF g (zN z 2) (g 18 0) T j b = fi j b := fun j b h7 hj => by
    rw [nmF_ne _ _ _ _ _ _ (Or.inl (by unfold okn; split <;> (try omega); split <;> (try omega); split <;> (try omega); split <;> omega)), sndF_far _ _ _ h7, hg j b (by omega)]
  have Fm : ∀ j b, 9 ≤ j → j ≤ 14 → b ≠ zN z 2 → nmF g (zN z 2) (g 18 0) T j b = fi j b := fun j b h1 h2 hb => by
    rw [nmF_ne _ _ _ _ _ _ (Or.inr hb), sndF_far _ _ _ (by omega), hg j b (by omega)]
  have F9 : nmF g (zN z 2) (g 18 0) T 9 (zN z 2) = q_U (fi 5) A := by rw [← h15]; simp [nmF, fu, va_up]
  have F10 : nmF g (zN z 2) (g 18 0) T 10 (zN z 2) = q_U (fi 5) B := by rw [← h16]; simp [nmF, fu, va_up]
  have F11 : nmF g (zN z 2) (g 18 0) T 11 (zN z 2) = df := by rw [← h17]; simp [nmF, fu, va_up]
  have F12 : nmF g (zN z 2) (g 18 0) T 12 (zN z 2) = nI (c + 3) := by
    have e1 : nmF g (zN z 2) (g 18 0) T 12 (zN z 2) = g 18 0 + 3 := by simp [nmF, fu, va_up]
    rw [e1, hg 18 0 (Or.inr (by decide)), h.ck, show (3 : Int32) = nI 3 from rfl, nI_add]
  have F13 : nmF g (zN z 2) (g 18 0) T 13 (zN z 2) = 0 := by simp [nmF, fu, va_up]
  have F14 : nmF g (zN z 2) (g 18 0) T 14 (zN z 2) = q_U (fi 5) A ||| q_U (fi 5) B := by rw [← h15, ← h16]; simp [nmF, fu, va_up]
  have eN := hz.1
  have N0 : zN (zM z' T cap cm) 0 = zN z 0 := (va_up_ne (zN z') (zN z' 2 + 1) (show (0 : Nat) ≠ 2 by decide)).trans (by rw [eN])
  have N1 : zN (zM z' T cap cm) 1 = zN z 1 := (va_up_ne (zN z') (zN z' 2 + 1) (show (1 : Nat) ≠ 2 by decide)).trans (by rw [eN])
  have N2 : zN (zM z' T cap cm) 2 = zN z 2 + 1 := (va_up_self (zN z') 2 (zN z' 2 + 1)).trans (by rw [eN])
  have eA : zA (zM z' T cap cm) = zA z := hz.2.1
  have L11 : ∀ p, zL (zM z' T cap cm) (11, p) = zL z (11, p) := fun p => (tu_n (tu (zL z') (13, 2) (List.range (zN z' 2 + 1))) (p := (11, p)) (q := (12, zN z' 2)) T (fun e => by cases e)).trans ((tu_n (zL z') (p := (11, p)) (q := (13, 2)) _ (fun e => by cases e)).trans (hz.2.2 (11, p) (fun e => by cases e) (fun e => by cases e)).1)
  have L12n : zL (zM z' T cap cm) (12, zN z 2) = T := by
    rw [← eN]
    exact tu_s _ _ _
  have L12 : ∀ m, m ≠ zN z 2 → zL (zM z' T cap cm) (12, m) = zL z (12, m) := fun m hm => (tu_n (tu (zL z') (13, 2) (List.range (zN z' 2 + 1))) (p := (12, m)) (q := (12, zN z' 2)) T (fun e => hm (by
    have e2 : m = zN z' 2 := congrArg Prod.snd e
    rw [e2, eN]))).trans ((tu_n (zL z') (p := (12, m)) (q := (13, 2)) _ (fun e => by cases e)).trans (hz.2.2 (12, m) (fun e => by cases e) (fun e => by cases e)).1)
  have C13 : ∀ i, i < 5 → i ≠ 2 → zC (zM z' T cap cm) (13, i) = zC z' (13, i) := fun i _ hi => (tu_n (tu (zC z') (13, 2) cap) (p := (13, i)) (q := (12, zN z' 2)) cm (fun e => by cases e)).trans (tu_n (zC z') (p := (13, i)) (q := (13, 2)) cap (fun e => hi (by cases e; rfl)))
  have C2 : zC (zM z' T cap cm) (13, 2) = cap := (tu_n (tu (zC z') (13, 2) cap) (p := (13, 2)) (q := (12, zN z' 2)) cm (fun e => by cases e)).trans (tu_s _ _ _)
  have hT0 : ∀ t ∈ T, fi 7 t ≠ 0 := fun t ht => by rw [(hT t ht).2]; exact q_one_ne
  have all_ne : ∀ m, m ≠ zN z 2 → allI (ar' 11) m = allI (ar 11) m := fun m hm => by
    unfold allI
    rw [a11, va_up_ne _ _ (by omega), va_up_ne _ _ (by omega), va_up_ne _ _ (by omega), va_up_ne _ _ (by omega)]
  have all_n : allI (ar' 11) (zN z 2) = q_U (fi 5) A ||| q_U (fi 5) B := by
    unfold allI
    rw [a11, va_up_ne _ _ (by omega), va_up_self, va_up_self]
  have inT : ∀ k, k < 32 → (gb (q_U (fi 5) A ||| q_U (fi 5) B) k = true ↔ ∃ t ∈ T, gb (fi 5 t) k = true) := fun k _ => by
    rw [gb_or, Bool.or_eq_true, q_U_gb, q_U_gb]
    constructor
    · rintro (⟨t, t1, t2⟩ | ⟨t, t1, t2⟩)
      · exact ⟨t, (q_perm_mem hAB t).mpr (Or.inl t1), t2⟩
      · exact ⟨t, (q_perm_mem hAB t).mpr (Or.inr t1), t2⟩
    · rintro ⟨t, t1, t2⟩
      rcases (q_perm_mem hAB t).mp t1 with h1 | h1
      · exact Or.inl ⟨t, h1, t2⟩
      · exact Or.inr ⟨t, h1, t2⟩
  have hABd := (hAB.pairwise_iff (fun {_ _} q => q_dj_s q)).mpr hTd
  have dj : ∀ k, k < 32 → ¬ (gb (q_U (fi 5) A) k = true ∧ gb (q_U (fi 5) B) k = true) := fun k hk q => by
    obtain ⟨t, t1, t2⟩ := (q_U_gb _ k A).mp q.1
    obtain ⟨u, u1, u2⟩ := (q_U_gb _ k B).mp q.2
    exact (List.pairwise_append.mp hABd).2.2 t t1 u u1 k hk ⟨t2, u2⟩
  obtain ⟨h0, h1, h2, h3, h4, h5, h6⟩ := id h
  refine ⟨?_, ?_, ?_, ?_, ?_, ?_, ?_⟩
  · obtain ⟨k0, k1, k2, k3, k4, k5, k6, k7, k8⟩ := h0
    refine ⟨?_, ?_, ?_, ?_, ?_, ?_, ?_, ?_, k8⟩
    · rw [N0, hs 0 (by decide) (by decide)]; exact k0
    · rw [N1, hs 1 (by decide) (by decide)]; exact k1
    · rw [N2]; exact hs2
    · rw [hs 3 (by decide) (by decide)]; exact k3
    · rw [Fo 18 0 (by decide) (Or.inr (by decide))]; exact k4
    · rw [N0]; exact k5
    · rw [N1]; exact k6
    · rw [N2]; omega
  · refine ⟨fun k hk => ?_, fun k hk hk2 => ?_⟩
    · rw [N0] at hk
      have hp := h1.1 k hk
      rw [Fo 1 k (by decide) (Or.inl (by decide)), Fo 2 k (by decide) (Or.inl (by decide)), Fo 0 k (by decide) (Or.inl (by decide)), Fo 3 k (by decide) (Or.inl (by decide)), Fo 4 k (by decide) (Or.inl (by decide)), ha 1 (by decide) (by decide) (by decide) (by decide) (by decide) (by decide) (by decide) (by decide) (by decide), ha 2 (by decide) (by decide) (by decide) (by decide) (by decide) (by decide) (by decide) (by decide) (by decide), ha 3 (by decide) (by decide) (by decide) (by decide) (by decide) (by decide) (by decide) (by decide) (by decide), ha 4 (by decide) (by decide) (by decide) (by decide) (by decide) (by decide) (by decide) (by decide) (by decide), ha 6 (by decide) (by decide) (by decide) (by decide) (by decide) (by decide) (by decide) (by decide) (by decide), eA]
      refine ⟨hp.1, hp.2.1, hp.2.2.1, hp.2.2.2.1, hp.2.2.2.2.1, ?_, hp.2.2.2.2.2.2⟩
      have hst := hp.2.2.2.2.2.1
      have hnp := h.np
      rw [a5 k hk]
      cases hz9 : zA z k with
      | none =>
        rw [hz9] at hst
        rw [if_neg (fun q => by
          obtain ⟨t, t1, t2⟩ := (q_U_gb _ k T).mp q
          rw [h.la (hT t t1).1 (by omega) t2 (hT0 t t1)] at hz9
          cases hz9)]
        exact hst
      | some p =>
        rw [hz9] at hst
        show nmF g (zN z 2) (g 18 0) T 7 p = _
        have hst2 : fi 7 p = ar 5 k := hst
        obtain ⟨p1, p2⟩ := h3.1 k hk p hz9
        rw [F7]
        by_cases hpT : p ∈ T
        · rw [if_pos hpT, if_pos ((q_U_gb _ k T).mpr ⟨p, hpT, p2⟩)]
        · rw [if_neg hpT, if_neg (fun q => by
            obtain ⟨t, t1, t2⟩ := (q_U_gb _ k T).mp q
            rw [h.la (hT t t1).1 (by omega) t2 (hT0 t t1)] at hz9
            cases hz9
            exact hpT t1)]
          exact hst2
    · rw [N0] at hk
      rw [a5' k hk, ha 4 (by decide) (by decide) (by decide) (by decide) (by decide) (by decide) (by decide) (by decide) (by decide), ha 6 (by decide) (by decide) (by decide) (by decide) (by decide) (by decide) (by decide) (by decide) (by decide)]
      exact h1.2 k hk hk2
  · intro t ht
    rw [N1] at ht
    have hp := h2 t ht
    have erc : rcL (nmF g (zN z 2) (g 18 0) T) = rcL fi := q_rcL_e (funext fun b => Fo 0 b (by decide) (Or.inl (by decide)))
    rw [Fo 5 t (by decide) (Or.inl (by decide)), Fo 6 t (by decide) (Or.inl (by decide)), Fo 8 t (by decide) (Or.inl (by decide)), L11, N0, erc, F7, a9, ha 7 (by decide) (by decide) (by decide) (by decide) (by decide) (by decide) (by decide) (by decide) (by decide), ha 8 (by decide) (by decide) (by decide) (by decide) (by decide) (by decide) (by decide) (by decide) (by decide)]
    refine ⟨hp.1, hp.2.1, hp.2.2.1, hp.2.2.2.1, hp.2.2.2.2.1, hp.2.2.2.2.2.1, ?_, ?_, hp.2.2.2.2.2.2.2.2⟩
    · by_cases htT : t ∈ T
      · rw [if_pos htT, if_pos htT]; rfl
      · rw [if_neg htT, if_neg htT]; exact hp.2.2.2.2.2.2.1
    · by_cases htT : t ∈ T
      · rw [if_pos htT]; exact Or.inr (Or.inr rfl)
      · rw [if_neg htT]; exact hp.2.2.2.2.2.2.2.1
  · refine ⟨fun k hk p hp => ?_, fun t ht k hk hb h0 => ?_⟩
    · rw [N0] at hk
      rw [eA] at hp
      rw [N1, Fo 5 p (by decide) (Or.inl (by decide))]
      exact h3.1 k hk p hp
    · rw [N1] at ht
      rw [Fo 5 t (by decide) (Or.inl (by decide))] at hb
      rw [eA]
      refine h3.2 t ht k hk hb (fun e => h0 ?_)
      rw [F7, if_neg (fun q => hT0 t q e)]
      exact e
  · refine ⟨fun t ht h2' => ?_, fun t ht h2' => ?_, fun m hm2 hst t ht => ?_⟩
    · rw [N1] at ht
      rw [F7] at h2'
      rw [a10, N2]
      by_cases htT : t ∈ T
      · rw [if_pos htT]
        exact ⟨zN z 2, Nat.lt_succ_self _, rfl, Or.inl F13, by rw [L12n]; exact htT⟩
      · rw [if_neg htT] at h2' ⊢
        obtain ⟨m, m1, m2, m3, m4⟩ := h4.1 t ht h2'
        refine ⟨m, by omega, m2, ?_, ?_⟩
        · rw [Fm 13 m (by decide) (by decide) (by omega)]; exact m3
        · rw [L12 m (by omega)]; exact m4
    · rw [N1] at ht
      rw [F7] at h2'
      rw [a10]
      by_cases htT : t ∈ T
      · rw [if_pos htT] at h2'; exact absurd rfl h2'
      · rw [if_neg htT] at h2' ⊢
        exact h4.2.1 t ht h2'
    · rw [N2] at hm2
      rw [N1, F7, a10]
      by_cases hmn : m = zN z 2
      · subst hmn
        rw [L12n] at ht
        rw [if_pos ht, if_pos ht]
        exact ⟨(hT t ht).1, rfl, rfl⟩
      · rw [Fm 13 m (by decide) (by decide) hmn] at hst
        rw [L12 m hmn] at ht
        obtain ⟨b1, b2, b3⟩ := h4.2.2 m (by omega) hst t ht
        have htT : ¬ t ∈ T := fun q => by
          rw [(hT t q).2] at b2
          exact absurd b2 (by decide)
        rw [if_neg htT, if_neg htT]
        exact ⟨b1, b2, b3⟩
  · obtain ⟨hy, d, hd1, hd2⟩ := h5
    refine ⟨fun m hm2 => ?_, fun m => if m = zN z 2 then c else d m, fun m hm2 => ?_, fun m m' hle hm2 => ?_⟩
    · rw [N2] at hm2
      by_cases hmn : m = zN z 2
      · subst hmn
        have hlate : lateI (ar' 11) (ar' 14) (zN z 2) = q_U (fi 5) A ||| q_U (fi 5) B := by
          unfold lateI
          rw [all_n, a14, va_up_self]
          exact gb_ext fun k hk => by rw [gb_and, gb_not _ hk, gb_0]; simp
        rw [F9, F10, F11, F13, F14, L12n, all_n, hlate, a12, a15, va_up_self, va_up_self, a11, va_up_ne _ _ (by omega), va_up_self, va_up_self]
        refine ⟨rfl, rfl, rfl, rfl, Or.inl rfl, fun _ => ⟨fun k hk => ?_, dj⟩, fun _ => ⟨rfl, fun k hk hb => ?_⟩⟩
        · rw [inT k hk]
          exact ⟨fun ⟨t, t1, t2⟩ => ⟨t, t1, by rw [Fo 5 t (by decide) (Or.inl (by decide))]; exact t2⟩, fun ⟨t, t1, t2⟩ => ⟨t, t1, by rw [Fo 5 t (by decide) (Or.inl (by decide))] at t2; exact t2⟩⟩
        · rw [a14, va_up_self, gb_0] at hb
          cases hb
      · have hy2 := hy m (by omega)
        have e14 : ar' 14 m = ar 14 m := by rw [a14, va_up_ne _ _ hmn]
        have hlate : lateI (ar' 11) (ar' 14) m = lateI (ar 11) (ar 14) m := by
          unfold lateI
          rw [all_ne m hmn, e14]
        rw [Fm 9 m (by decide) (by decide) hmn, Fm 10 m (by decide) (by decide) hmn, Fm 11 m (by decide) (by decide) hmn, Fm 13 m (by decide) (by decide) hmn, Fm 14 m (by decide) (by decide) hmn, L12 m hmn, all_ne m hmn, hlate, e14, a12, a15, va_up_ne _ _ hmn, va_up_ne _ _ hmn, a11, va_up_ne _ _ (by omega), va_up_ne _ _ (by omega), va_up_ne _ _ (by omega), va_up_ne _ _ (by omega)]
        refine ⟨hy2.1, hy2.2.1, hy2.2.2.1, hy2.2.2.2.1, hy2.2.2.2.2.1, fun hst => ⟨fun k hk => ?_, (hy2.2.2.2.2.2.1 hst).2⟩, hy2.2.2.2.2.2.2⟩
        rw [(hy2.2.2.2.2.2.1 hst).1 k hk]
        exact ⟨fun ⟨t, t1, t2⟩ => ⟨t, t1, by rw [Fo 5 t (by decide) (Or.inl (by decide))]; exact t2⟩, fun ⟨t, t1, t2⟩ => ⟨t, t1, by rw [Fo 5 t (by decide) (Or.inl (by decide))] at t2; exact t2⟩⟩
    · rw [N2] at hm2
      by_cases hmn : m = zN z 2
      · subst hmn
        simp only [if_pos]
        rw [a13, va_up_self, F12, F13]
        exact ⟨rfl, rfl, Nat.le_refl _, fun _ => by omega⟩
      · simp only [if_neg hmn]
        rw [a13, va_up_ne _ _ hmn, Fm 12 m (by decide) (by decide) hmn, Fm 13 m (by decide) (by decide) hmn]
        exact hd1 m (by omega)
    · rw [N2] at hm2
      show (if m = zN z 2 then c else d m) ≤ (if m' = zN z 2 then c else d m')
      by_cases h2' : m' = zN z 2
      · rw [if_pos h2']
        by_cases h1' : m = zN z 2
        · rw [if_pos h1']; exact Nat.le_refl _
        · rw [if_neg h1']; exact (hd1 m (by omega)).2.2.1
      · rw [if_neg h2', if_neg (show ¬ m = zN z 2 by omega)]
        exact hd2 m m' hle (by omega)
  · obtain ⟨k0, k1, k2, -⟩ := h6
    refine ⟨?_, ?_, ?_, ?_, ?_⟩
    · rw [C13 0 (by decide) (by decide), (hz.2.2 (13, 0) (fun e => by cases e) (fun e => by cases e)).2]; exact k0
    · rw [C13 1 (by decide) (by decide), (hz.2.2 (13, 1) (fun e => by cases e) (fun e => by cases e)).2]; exact k1
    · rw [C2]; exact hcap
    · rw [C13 3 (by decide) (by decide)]; exact hcp.1
    · rw [C13 4 (by decide) (by decide)]; exact hcp.2
