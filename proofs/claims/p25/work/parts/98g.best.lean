/-! ===== the best of all splits, and the first of the best ===== -/
def stO (ok : List Nat → List Nat → Bool) (far : List Nat → List Nat → Int32) (A B : List Nat) : Option (List Nat × List Nat) → Option (List Nat × List Nat)
  | none => if ok A B = true then some (A, B) else none
  | some q => if ok A B = true ∧ far A B < far q.1 q.2 then some (A, B) else some q
/-- p takes a party earlier than p0 does -/
def eaR : List Nat → (Nat → Bool) → (Nat → Bool) → Prop
  | [], _, _ => False
  | a :: R, p, p0 => (p a = true ∧ p0 a = false) ∨ (p a = p0 a ∧ eaR R p p0)
theorem eaR_cg {p p0 p1 : Nat → Bool} : ∀ {R : List Nat}, (∀ t ∈ R, p0 t = p1 t) → eaR R p p0 → eaR R p p1
  | [], _, h => h
  | a :: R, e, h => by
    have ea := e a List.mem_cons_self
    have er : ∀ t ∈ R, p0 t = p1 t := fun t ht => e t (List.mem_cons_of_mem _ ht)
    rcases h with ⟨h1, h2⟩ | ⟨h1, h2⟩
    · exact Or.inl ⟨h1, by rw [← ea]; exact h2⟩
    · exact Or.inr ⟨by rw [← ea]; exact h1, eaR_cg er h2⟩
def FoR (ok : List Nat → List Nat → Bool) (far : List Nat → List Nat → Int32) (R A B : List Nat) (o o' : Option (List Nat × List Nat)) : Prop :=
  (o' = o ∧ ∀ p : Nat → Bool, ok (A ++ R.filter p) (B ++ R.filter (fun t => !p t)) = true → ∃ q, o = some q ∧ far q.1 q.2 ≤ far (A ++ R.filter p) (B ++ R.filter (fun t => !p t))) ∨
  (∃ p0 : Nat → Bool, o' = some (A ++ R.filter p0, B ++ R.filter (fun t => !p0 t)) ∧ ok (A ++ R.filter p0) (B ++ R.filter (fun t => !p0 t)) = true ∧ (∀ q, o = some q → far (A ++ R.filter p0) (B ++ R.filter (fun t => !p0 t)) < far q.1 q.2) ∧
    ∀ p : Nat → Bool, ok (A ++ R.filter p) (B ++ R.filter (fun t => !p t)) = true → far (A ++ R.filter p0) (B ++ R.filter (fun t => !p0 t)) ≤ far (A ++ R.filter p) (B ++ R.filter (fun t => !p t)) ∧ (eaR R p p0 → far (A ++ R.filter p0) (B ++ R.filter (fun t => !p0 t)) < far (A ++ R.filter p) (B ++ R.filter (fun t => !p t))))
theorem fo_t1 {p : Nat → Bool} {a : Nat} {R A : List Nat} (h : p a = true) : A ++ (a :: R).filter p = (A ++ [a]) ++ R.filter p := by rw [List.filter_cons_of_pos h, q_sc]
theorem fo_t2 {p : Nat → Bool} {a : Nat} {R B : List Nat} (h : p a = true) : B ++ (a :: R).filter (fun t => !p t) = B ++ R.filter (fun t => !p t) := by rw [List.filter_cons_of_neg (by rw [h]; decide)]
theorem fo_f1 {p : Nat → Bool} {a : Nat} {R A : List Nat} (h : p a = false) : A ++ (a :: R).filter p = A ++ R.filter p := by rw [List.filter_cons_of_neg (by rw [h]; decide)]
theorem fo_f2 {p : Nat → Bool} {a : Nat} {R B : List Nat} (h : p a = false) : B ++ (a :: R).filter (fun t => !p t) = (B ++ [a]) ++ R.filter (fun t => !p t) := by rw [List.filter_cons_of_pos (by rw [h]; rfl), q_sc]
theorem fo_up {p : Nat → Bool} {a : Nat} {b : Bool} {R : List Nat} (ha : a ∉ R) : R.filter (fun t => if t = a then b else p t) = R.filter p ∧ R.filter (fun t => !(if t = a then b else p t)) = R.filter (fun t => !p t) := by
  constructor
  · exact List.filter_congr fun t ht => if_neg (fun q => ha (by rw [← q]; exact ht))
  · exact List.filter_congr fun t ht => congrArg not (if_neg (fun q => ha (by rw [← q]; exact ht)))
theorem fo_min {ok : List Nat → List Nat → Bool} {far : List Nat → List Nat → Int32} : ∀ (R A B : List Nat) (o : Option (List Nat × List Nat)), R.Nodup → FoR ok far R A B o (q_fo (stO ok far) R A B o)
  | [], A, B, none, _ => by
    show FoR ok far [] A B none (if ok A B = true then some (A, B) else none)
    by_cases h : ok A B = true
    · rw [if_pos h]
      refine Or.inr ⟨fun _ => true, ?_, ?_, (fun q e => by cases e), fun p hp => ⟨Int32.le_refl _, fun q => q.elim⟩⟩
      · simp
      · simpa using h
    · rw [if_neg h]
      exact Or.inl ⟨rfl, fun p hp => absurd (by simpa using hp) h⟩
  | [], A, B, some q, _ => by
    show FoR ok far [] A B (some q) (if ok A B = true ∧ far A B < far q.1 q.2 then some (A, B) else some q)
    by_cases h : ok A B = true ∧ far A B < far q.1 q.2
    · rw [if_pos h]
      refine Or.inr ⟨fun _ => true, ?_, ?_, (fun q' e => by cases e; simpa using h.2), fun p hp => ⟨Int32.le_refl _, fun q => q.elim⟩⟩
      · simp
      · simpa using h.1
    · rw [if_neg h]
      refine Or.inl ⟨rfl, fun p hp => ⟨q, rfl, ?_⟩⟩
      simp only [List.filter_nil, List.append_nil] at hp ⊢
      exact Int32.not_lt.mp fun r => h ⟨hp, r⟩
  | a :: R, A, B, o, hn => by
    obtain ⟨ha, hnR⟩ := List.nodup_cons.mp hn
    rw [q_fo_c]
    have h1 := fo_min (ok := ok) (far := far) R (A ++ [a]) B o hnR
    have h2 := fo_min (ok := ok) (far := far) R A (B ++ [a]) (q_fo (stO ok far) R (A ++ [a]) B o) hnR
    generalize q_fo (stO ok far) R (A ++ [a]) B o = o1 at h1 h2
    generalize q_fo (stO ok far) R A (B ++ [a]) o1 = o2 at h2
    have bc : ∀ p : Nat → Bool, p a = true ∨ p a = false := fun p => by cases p a; exact Or.inr rfl; exact Or.inl rfl
    rcases h1 with ⟨e1, k1⟩ | ⟨p1, e1, ok1, lt1, k1⟩
    · subst e1
      rcases h2 with ⟨e2, k2⟩ | ⟨p2, e2, ok2, lt2, k2⟩
      · refine Or.inl ⟨e2, fun p hp => ?_⟩
        rcases bc p with hb | hb
        · rw [fo_t1 hb, fo_t2 hb] at hp ⊢; exact k1 p hp
        · rw [fo_f1 hb, fo_f2 hb] at hp ⊢; exact k2 p hp
      · have hb0 : (fun t => if t = a then false else p2 t) a = false := if_pos rfl
        have u := fo_up (p := p2) (b := false) ha
        refine Or.inr ⟨fun t => if t = a then false else p2 t, ?_, ?_, ?_, fun p hp => ?_⟩
        · rw [fo_f1 hb0, fo_f2 hb0, u.1, u.2]; exact e2
        · rw [fo_f1 hb0, fo_f2 hb0, u.1, u.2]; exact ok2
        · rw [fo_f1 hb0, fo_f2 hb0, u.1, u.2]; exact lt2
        · rw [fo_f1 hb0, fo_f2 hb0, u.1, u.2]
          rcases bc p with hb | hb
          · rw [fo_t1 hb, fo_t2 hb] at hp ⊢
            obtain ⟨q, q1, q2⟩ := k1 p hp
            have := Int32.lt_of_lt_of_le (lt2 q q1) q2
            exact ⟨Int32.le_of_lt this, fun _ => this⟩
          · rw [fo_f1 hb, fo_f2 hb] at hp ⊢
            obtain ⟨q1, q2⟩ := k2 p hp
            refine ⟨q1, fun q => q2 ?_⟩
            rcases q with ⟨q, -⟩ | ⟨-, q⟩
            · rw [hb] at q; cases q
            · exact eaR_cg (fun t ht => if_neg (fun r => ha (by rw [← r]; exact ht))) q
    · have hb1 : (fun t => if t = a then true else p1 t) a = true := if_pos rfl
      have u1 := fo_up (p := p1) (b := true) ha
      rcases h2 with ⟨e2, k2⟩ | ⟨p2, e2, ok2, lt2, k2⟩
      · subst e2
        refine Or.inr ⟨fun t => if t = a then true else p1 t, ?_, ?_, ?_, fun p hp => ?_⟩
        · rw [fo_t1 hb1, fo_t2 hb1, u1.1, u1.2]; exact e1
        · rw [fo_t1 hb1, fo_t2 hb1, u1.1, u1.2]; exact ok1
        · rw [fo_t1 hb1, fo_t2 hb1, u1.1, u1.2]; exact lt1
        · rw [fo_t1 hb1, fo_t2 hb1, u1.1, u1.2]
          rcases bc p with hb | hb
          · rw [fo_t1 hb, fo_t2 hb] at hp ⊢
            obtain ⟨q1, q2⟩ := k1 p hp
            refine ⟨q1, fun q => q2 ?_⟩
            rcases q with ⟨-, q⟩ | ⟨-, q⟩
            · rw [hb1] at q; cases q
            · exact eaR_cg (fun t ht => if_neg (fun r => ha (by rw [← r]; exact ht))) q
          · rw [fo_f1 hb, fo_f2 hb] at hp ⊢
            obtain ⟨q, q1, q2⟩ := k2 p hp
            rw [e1] at q1
            cases q1
            refine ⟨q2, fun q => ?_⟩
            rcases q with ⟨q, -⟩ | ⟨q, -⟩
            · rw [hb] at q; cases q
            · rw [hb, hb1] at q; cases q
      · have hb0 : (fun t => if t = a then false else p2 t) a = false := if_pos rfl
        have u := fo_up (p := p2) (b := false) ha
        have lt3 := lt2 _ e1
        refine Or.inr ⟨fun t => if t = a then false else p2 t, ?_, ?_, ?_, fun p hp => ?_⟩
        · rw [fo_f1 hb0, fo_f2 hb0, u.1, u.2]; exact e2
        · rw [fo_f1 hb0, fo_f2 hb0, u.1, u.2]; exact ok2
        · rw [fo_f1 hb0, fo_f2 hb0, u.1, u.2]
          exact fun q hq => Int32.lt_trans lt3 (lt1 q hq)
        · rw [fo_f1 hb0, fo_f2 hb0, u.1, u.2]
          rcases bc p with hb | hb
          · rw [fo_t1 hb, fo_t2 hb] at hp ⊢
            have := Int32.lt_of_lt_of_le lt3 (k1 p hp).1
            exact ⟨Int32.le_of_lt this, fun _ => this⟩
          · rw [fo_f1 hb, fo_f2 hb] at hp ⊢
            obtain ⟨q1, q2⟩ := k2 p hp
            refine ⟨q1, fun q => q2 ?_⟩
            rcases q with ⟨q, -⟩ | ⟨-, q⟩
            · rw [hb] at q; cases q
            · exact eaR_cg (fun t ht => if_neg (fun r => ha (by rw [← r]; exact ht))) q
def okS (fi : Nat → Nat → Int32) (z : CZ) (A B : List Nat) : Bool := q_tA fi z A && q_tA fi z B
def RelO (fi : Nat → Nat → Int32) (z : CZ) (g : Nat → Nat → Int32) (o : Option (List Nat × List Nat)) : Prop := DQ fi g ∧ match o with
  | none => g 17 0 = -1
  | some q => g 15 0 = q_U (fi 5) q.1 ∧ g 16 0 = q_U (fi 5) q.2 ∧ g 17 0 = q_far fi z q.1 q.2
theorem relO_step {fi g : Nat → Nat → Int32} {z : CZ} {T A B : List Nat} {o : Option (List Nat × List Nat)} (h6 : q_sN (q_ln z) T = 6) (hp : (A ++ B).Perm T) (hr : RelO fi z g o) : RelO fi z (q_stC z A B g) (stO (okS fi z) (q_far fi z) A B o) := by
  obtain ⟨hDQ, hr⟩ := hr
  have hs : q_sN (q_ln z) A + q_sN (q_ln z) B = 6 := by rw [← q_sN_a, q_sN_perm hp, h6]
  have hA3 : nI (q_sN (q_ln z) A) = 3 ↔ q_sN (q_ln z) A = 3 := ⟨fun e => by
    have e2 := congrArg Int32.toNatClampNeg (e.trans (show (3 : Int32) = nI 3 from rfl))
    rwa [nI_clamp (by omega), nI_clamp (by decide)] at e2, fun e => by rw [e]; rfl⟩
  have hc : ∀ D : Prop, (nI (q_sN (q_ln z) A) = 3 ∧ sfB (q_sL (fi 8) A) 1 = true ∧ sfB (q_sL (fi 8) B) 1 = true ∧ D) ↔ (okS fi z A B = true ∧ D) := fun D => by
    unfold okS q_tA
    rw [Bool.and_eq_true, Bool.and_eq_true, Bool.and_eq_true, decide_eq_true_eq, decide_eq_true_eq]
    constructor
    · rintro ⟨a1, a2, a3, a4⟩
      have a5 := hA3.mp a1
      exact ⟨⟨⟨a5, a2⟩, ⟨by omega, a3⟩⟩, a4⟩
    · rintro ⟨⟨⟨a1, a2⟩, -, a3⟩, a4⟩
      exact ⟨hA3.mpr a1, a2, a3, a4⟩
  unfold q_stC
  rw [q_W_DQ hDQ]
  have hw : wgC g (q_W fi z A B) ↔ (okS fi z A B = true ∧ (g 17 0 = -1 ∨ q_far fi z A B < g 17 0)) := by
    rw [← hc]
    rfl
  have hset : wgC g (q_W fi z A B) → RelO fi z (wgP g (q_W fi z A B)) (some (A, B)) := fun h => by
    refine ⟨hDQ.trans (wgP_DQ _ _), ?_⟩
    unfold wgP
    rw [if_pos h]
    refine ⟨?_, ?_, ?_⟩
    · rw [fu_ne _ _ (Or.inl (by decide)), fu_self]; rfl
    · rw [fu_self]; rfl
    · rw [fu_ne _ _ (Or.inl (by decide)), fu_ne _ _ (Or.inl (by decide)), fu_self]; rfl
  have hno : ¬ wgC g (q_W fi z A B) → wgP g (q_W fi z A B) = g := fun h => by unfold wgP; rw [if_neg h]
  cases o with
  | none =>
    have h17 : g 17 0 = -1 := hr
    show RelO fi z _ (if okS fi z A B = true then some (A, B) else none)
    by_cases h : okS fi z A B = true
    · rw [if_pos h]; exact hset (hw.mpr ⟨h, Or.inl h17⟩)
    · rw [if_neg h, hno (fun q => h (hw.mp q).1)]; exact ⟨hDQ, hr⟩
  | some q =>
    have h17 : g 17 0 = q_far fi z q.1 q.2 := hr.2.2
    show RelO fi z _ (if okS fi z A B = true ∧ q_far fi z A B < q_far fi z q.1 q.2 then some (A, B) else some q)
    by_cases h : okS fi z A B = true ∧ q_far fi z A B < q_far fi z q.1 q.2
    · rw [if_pos h]; exact hset (hw.mpr ⟨h.1, Or.inr (by rw [h17]; exact h.2)⟩)
    · rw [if_neg h, hno (fun q => by
        obtain ⟨q1, q2⟩ := hw.mp q
        rw [h17] at q2
        exact h ⟨q1, q2.resolve_left (q_ab_ne _)⟩)]
      exact ⟨hDQ, hr⟩
theorem q_MS_ok {ok : List Nat → Bool} : ∀ (L T : List Nat), q_MS ok L = some T → ok T = true ∧ T.Sublist L
  | [], T, h => by cases h
  | a :: L, T, h => by
    cases h1 : q_SR ok L [a] with
    | some T' =>
      rw [q_MS_s h1] at h
      cases h
      obtain ⟨o1, U, u1, rfl⟩ := q_SR_ok L [a] T h1
      exact ⟨o1, u1.cons₂ a⟩
    | none =>
      rw [q_MS_n h1] at h
      obtain ⟨o1, o2⟩ := q_MS_ok L T h
      exact ⟨o1, o2.cons a⟩
/-- what a match that is made holds -/
theorem SM.mkF {c : Nat} {fi : Nat → Nat → Int32} {z : CZ} {sc : Nat → Int32} {ar : Nat → Nat → Int32} (h : SM c fi z sc ar) (hr : (mkG z (zN z 1) fi 0).1 = true) : ∃ (hd : Nat) (R : List Nat) (p0 : Nat → Bool), (mkG z (zN z 1) fi 0).2.2 = hd :: R ∧ (hd :: R).Sublist (q_Q fi (zN z 1)) ∧ q_sN (q_ln z) (hd :: R) = 6 ∧ (∀ t ∈ hd :: R, ftC fi z (nI c) t hd = true) ∧ RelO fi z (mkG z (zN z 1) fi 0).2.1 (some (hd :: R.filter p0, R.filter (fun t => !p0 t))) ∧ okS fi z (hd :: R.filter p0) (R.filter (fun t => !p0 t)) = true ∧ ∀ p : Nat → Bool, okS fi z (hd :: R.filter p) (R.filter (fun t => !p t)) = true → q_far fi z (hd :: R.filter p0) (R.filter (fun t => !p0 t)) ≤ q_far fi z (hd :: R.filter p) (R.filter (fun t => !p t)) ∧ (eaR R p p0 → q_far fi z (hd :: R.filter p0) (R.filter (fun t => !p0 t)) < q_far fi z (hd :: R.filter p) (R.filter (fun t => !p t))) := by
  have hmk := h.mk (zN z 1) 0 fi rfl DQ.rf
  rw [q_Qi_0] at hmk
  cases hM : q_MS (q_ok c fi z (q_Q fi (zN z 1))) (q_Q fi (zN z 1)) with
  | none =>
    rw [hM] at hmk
    have h1 : (mkG z (zN z 1) fi 0).1 = false := hmk
    rw [h1] at hr; cases hr
  | some T =>
    rw [hM] at hmk
    obtain ⟨r1, r2, g0, zz, hg0, z4, z11, r3⟩ := hmk
    obtain ⟨o0, hsub⟩ := q_MS_ok _ _ hM
    cases T with
    | nil => cases o0
    | cons hd R =>
      obtain ⟨o1, o2, o3⟩ := q_ok_t.mp o0
      have hQn : (q_Q fi (zN z 1)).Nodup := q_Q_nd _
      have hnd := hQn.sublist hsub
      have hl : R.length ≤ 30 := by
        have h8 := hsub.length_le
        have h9 := h.Q18
        rw [List.length_cons] at h8
        omega
      have hrel := q_split_rel (fi := fi) (g0 := g0) (z := z) (z' := zz) (Q := q_Q fi (zN z 1)) (R := R) (h := hd) hg0 z4 z11 hl o1 (fun t ht => hsub.subset ht) h.Q18
      have hf := q_fo_rel (T := hd :: R) (RelO fi z) (st1 := q_stC z) (st2 := stO (okS fi z) (q_far fi z)) (fun A B q1 q2 hp hq => relO_step o1 hp hq) R [hd] [] (fu g0 17 0 (-1)) none (List.Perm.refl _) ⟨hg0.trans (fun a b hab => fu_ne _ _ (Or.inl (by omega))), fu_self _ _ _ _⟩
      have hsp : q_fo (q_stC z) R [hd] [] (fu g0 17 0 (-1)) = (mkG z (zN z 1) fi 0).2.1 := by rw [r3, q_spF z4 hl, q_stC_c z11]
      rw [hsp] at hf
      rw [← r3] at hrel
      rcases fo_min (ok := okS fi z) (far := q_far fi z) R [hd] [] none (List.nodup_cons.mp hnd).2 with ⟨e1, -⟩ | ⟨p0, e1, k1, -, k2⟩
      · rw [e1] at hf
        have h17 : (mkG z (zN z 1) fi 0).2.1 17 0 = -1 := hf.2
        rcases hrel.2 with ⟨q, -⟩ | ⟨-, -, q, -⟩
        · exact absurd q o3
        · exact absurd h17 q
      · rw [e1] at hf
        exact ⟨hd, R, p0, r2, hsub, o1, o2, hf, k1, k2⟩
