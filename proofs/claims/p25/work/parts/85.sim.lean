/-! ===== the class's search is a search through lists ===== -/
theorem q_sNJ_or {g : Nat → Nat} {a b : Int32} : ∀ {n : Nat}, n ≤ 32 → (∀ k, k < 32 → ¬ (gb a k = true ∧ gb b k = true)) → q_sN g (JQ (a ||| b) n) = q_sN g (JQ a n) + q_sN g (JQ b n)
  | 0, _, _ => rfl
  | n + 1, hn, h => by
    have ih := q_sNJ_or (g := g) (a := a) (b := b) (n := n) (by omega) h
    have hh := h n (by omega)
    have ho : hsI (a ||| b) (nI n) = (hsI a (nI n) || hsI b (nI n)) := by rw [hsI_gb _ (by omega), hsI_gb _ (by omega), hsI_gb _ (by omega), gb_or]
    cases ha : hsI a (nI n) <;> cases hb : hsI b (nI n)
    · rw [JQ_f (by rw [ho, ha, hb]; rfl), JQ_f ha, JQ_f hb, ih]
    · rw [JQ_t (by rw [ho, ha, hb]; rfl), JQ_f ha, JQ_t hb, q_sN_a, q_sN_a, ih]; omega
    · rw [JQ_t (by rw [ho, ha, hb]; rfl), JQ_t ha, JQ_f hb, q_sN_a, q_sN_a, ih]; omega
    · rw [hsI_gb _ (by omega)] at ha hb
      exact absurd ⟨ha, hb⟩ hh
theorem q_sN_U {m : Nat → Int32} {g : Nat → Nat} {n : Nat} (hn : n ≤ 32) : ∀ {T : List Nat}, T.Pairwise (q_dj m) → q_sN g (JQ (q_U m T) n) = q_sN (fun t => q_sN g (JQ (m t) n)) T
  | [], _ => by
    have h0 : ∀ i, i ≤ 32 → JQ (q_U m []) i = [] := by
      intro i
      induction i with
      | zero => intro _; rfl
      | succ i ih => intro hi; rw [JQ_f (by rw [hsI_gb _ (by omega)]; exact gb_0 i), ih (by omega)]
    rw [h0 n hn]
    rfl
  | t :: T, h => by
    obtain ⟨h1, h2⟩ := List.pairwise_cons.mp h
    rw [q_U_c, q_sNJ_or hn (q_dj_U h1), q_sN_c, q_sN_U hn h2]
theorem q_ab_ne (x : Int32) : abC x ≠ -1 := by
  unfold abC
  split
  · rename_i h
    intro e
    rw [e] at h
    exact absurd h (by decide)
  · rename_i h
    intro e
    have e2 : x = 1 := by
      have := congrArg (fun y => (0 : Int32) - y) e
      simp only [Int32.zero_sub, Int32.neg_neg] at this
      rw [this]
    rw [e2] at h
    exact h (by decide)
theorem q_msk_pos {A : List Nat} {t : Nat} (hA : t ∈ A) : ∀ Q : List Nat, t ∈ Q → 0 < q_msk Q A
  | [], h => absurd h List.not_mem_nil
  | a :: L, h => by
    rw [q_msk]
    rcases List.mem_cons.mp h with rfl | h
    · rw [if_pos hA]
      have : 0 < 2 ^ L.length := Nat.pow_pos (by decide)
      omega
    · have := q_msk_pos hA L h
      omega
theorem q_W_DQ {fi g : Nat → Nat → Int32} (h : DQ fi g) (z : CZ) (A B : List Nat) : q_W g z A B = q_W fi z A B := by
  have e1 : g 1 = fi 1 := funext fun b => h 1 b (Or.inl (by decide))
  have e5 : g 5 = fi 5 := funext fun b => h 5 b (Or.inl (by decide))
  have e8 : g 8 = fi 8 := funext fun b => h 8 b (Or.inl (by decide))
  have es : ∀ xs, smC g xs = smC fi xs := fun xs => by rw [q_smC, q_smC, e1]
  unfold q_W
  simp only [es, e5, e8]
theorem q_stC_c {z z' : CZ} (h : ∀ p, zL z' (11, p) = zL z (11, p)) : q_stC z' = q_stC z := by
  funext A B g
  unfold q_stC q_W q_ln
  simp only [h]
def q_Rel (fi : Nat → Nat → Int32) (Q T : List Nat) (g : Nat → Nat → Int32) (q : Int32 × Int32) : Prop := DQ fi g ∧ ((q.1 = 0 ∧ g 17 0 = -1) ∨ (q.1 ≠ 0 ∧ g 17 0 = q.2 ∧ g 17 0 ≠ -1 ∧ ∃ A B, (A ++ B).Perm T ∧ g 15 0 = q_U (fi 5) A ∧ g 16 0 = q_U (fi 5) B ∧ q.1 = nI (q_msk Q A)))
theorem q_step {fi g : Nat → Nat → Int32} {z : CZ} {Q T A B : List Nat} {q : Int32 × Int32} (h6 : q_sN (q_ln z) T = 6) (hTQ : ∀ t ∈ T, t ∈ Q) (hQ : Q.length ≤ 18) (hp : (A ++ B).Perm T) (hr : q_Rel fi Q T g q) : q_Rel fi Q T (q_stC z A B g) (q_stM fi z Q A B q) := by
  obtain ⟨hDQ, hr⟩ := hr
  have hs : q_sN (q_ln z) A + q_sN (q_ln z) B = 6 := by rw [← q_sN_a, q_sN_perm hp, h6]
  have hA3 : nI (q_sN (q_ln z) A) = 3 ↔ q_sN (q_ln z) A = 3 := ⟨fun e => by
    have e2 := congrArg Int32.toNatClampNeg (e.trans (show (3 : Int32) = nI 3 from rfl))
    rwa [nI_clamp (by omega), nI_clamp (by decide)] at e2, fun e => by rw [e]; rfl⟩
  have hc : wgC g (q_W g z A B) ↔ ((q_tA fi z A && q_tA fi z B) = true ∧ (q.1 = 0 ∨ q_far fi z A B < q.2)) := by
    rw [q_W_DQ hDQ]
    unfold wgC q_tA
    rw [Bool.and_eq_true, Bool.and_eq_true, Bool.and_eq_true, decide_eq_true_eq, decide_eq_true_eq]
    have h9 : (g 17 0 = -1 ∨ abC (q_W fi z A B).2.1 < g 17 0) ↔ (q.1 = 0 ∨ q_far fi z A B < q.2) := by
      rcases hr with ⟨a, b⟩ | ⟨a, b, d, -⟩
      · exact ⟨fun _ => Or.inl a, fun _ => Or.inl b⟩
      · rw [b] at d ⊢
        exact ⟨fun h => Or.inr (h.resolve_left d), fun h => Or.inr (h.resolve_left a)⟩
    rw [h9]
    constructor
    · rintro ⟨a1, a2, a3, a4⟩
      have a5 := hA3.mp a1
      exact ⟨⟨⟨a5, a2⟩, ⟨by omega, a3⟩⟩, a4⟩
    · rintro ⟨⟨⟨a1, a2⟩, -, a3⟩, a4⟩
      exact ⟨hA3.mpr a1, a2, a3, a4⟩
  unfold q_stC q_stM
  refine ⟨hDQ.trans (wgP_DQ _ _), ?_⟩
  by_cases h : wgC g (q_W g z A B)
  · have h2 := hc.mp h
    rw [if_pos h2]
    unfold wgP
    rw [if_pos h, q_W_DQ hDQ]
    have hA : 0 < q_msk Q A := by
      have h3 := h2.1
      rw [Bool.and_eq_true] at h3
      unfold q_tA at h3
      rw [Bool.and_eq_true, decide_eq_true_eq] at h3
      cases A with
      | nil => exact absurd h3.1.1 (by show ¬ 0 = 3; decide)
      | cons t A' => exact q_msk_pos List.mem_cons_self Q (hTQ t (hp.subset (List.mem_append_left _ List.mem_cons_self)))
    have hlt := q_msk_lt Q A
    have hle : 2 ^ Q.length ≤ 2 ^ 18 := Nat.pow_le_pow_right (by decide) hQ
    refine Or.inr ⟨nI_ne0 hA (by omega), ?_, ?_, A, B, hp, ?_, ?_, rfl⟩
    · rw [fu_ne _ _ (Or.inl (by decide)), fu_ne _ _ (Or.inl (by decide)), fu_self]; rfl
    · rw [fu_ne _ _ (Or.inl (by decide)), fu_ne _ _ (Or.inl (by decide)), fu_self]; exact q_ab_ne _
    · rw [fu_ne _ _ (Or.inl (by decide)), fu_self]; rfl
    · rw [fu_self]; rfl
  · have h2 := fun q => h (hc.mpr q)
    rw [if_neg h2]
    unfold wgP
    rw [if_neg h]
    exact hr
/-- the class's split of a set of six players -/
theorem q_split_rel {fi g0 : Nat → Nat → Int32} {z z' : CZ} {Q R : List Nat} {h : Nat} (hDQ : DQ fi g0) (h4 : zL z' (13, 4) = h :: R) (h11 : ∀ p, zL z' (11, p) = zL z (11, p)) (hl : R.length ≤ 30) (h6 : q_sN (q_ln z) (h :: R) = 6) (hTQ : ∀ t ∈ h :: R, t ∈ Q) (hQ : Q.length ≤ 18) : q_Rel fi Q (h :: R) (spF g0 z') (q_sp fi z Q h R) := by
  rw [q_spF h4 hl, q_stC_c h11]
  unfold q_sp
  refine q_fo_rel (T := h :: R) (q_Rel fi Q (h :: R)) (fun A B q1 q2 hp hq => q_step (A := A) (B := B) h6 hTQ hQ hp hq) R [h] [] _ ((0 : Int32), (0 : Int32)) (List.Perm.refl _) ⟨hDQ.trans (fun a b hab => fu_ne _ _ (Or.inl (by omega))), Or.inl ⟨rfl, fu_self _ _ _ _⟩⟩
theorem q_sp_t {fi : Nat → Nat → Int32} {z : CZ} {Q R : List Nat} {h : Nat} (hn : (q_sp fi z Q h R).1 ≠ 0) : ∃ A B, (A ++ B).Perm (h :: R) ∧ q_tA fi z A = true ∧ q_tA fi z B = true := by
  have := q_fo_rel (T := h :: R) (fun (q : Int32 × Int32) (_ : Unit) => q.1 ≠ 0 → ∃ A B, (A ++ B).Perm (h :: R) ∧ q_tA fi z A = true ∧ q_tA fi z B = true) (st1 := q_stM fi z Q) (st2 := fun _ _ u => u) (fun A B q1 _ hp hq hn => by
    unfold q_stM at hn
    split at hn
    · rename_i h2
      have h3 := h2.1
      rw [Bool.and_eq_true] at h3
      exact ⟨A, B, hp, h3.1, h3.2⟩
    · exact hq hn) R [h] [] (0, 0) () (List.Perm.refl _) (fun h => absurd rfl h)
  exact this hn
def q_ok (c : Nat) (fi : Nat → Nat → Int32) (z : CZ) (Q : List Nat) : List Nat → Bool
  | [] => false
  | h :: R => decide (q_sN (q_ln z) (h :: R) = 6) && ((h :: R).all (fun t => ftC fi z (nI c) t h) && decide ((q_sp fi z Q h R).1 ≠ 0))
theorem q_ok_t {c : Nat} {fi : Nat → Nat → Int32} {z : CZ} {Q R : List Nat} {h : Nat} : q_ok c fi z Q (h :: R) = true ↔ q_sN (q_ln z) (h :: R) = 6 ∧ (∀ t ∈ h :: R, ftC fi z (nI c) t h = true) ∧ (q_sp fi z Q h R).1 ≠ 0 := by
  unfold q_ok
  rw [Bool.and_eq_true, Bool.and_eq_true, decide_eq_true_eq, decide_eq_true_eq, List.all_eq_true]
theorem q_SR_one {ok : List Nat → Bool} : ∀ (L S : List Nat), (∀ U, U.Sublist L → U ≠ [] → ok (S ++ U) = false) → q_SR ok L S = if ok S = true then some S else none
  | [], _, _ => rfl
  | a :: L, S, h => by
    rw [q_SR_n (q_SR_nil fun U hU => by rw [← q_sc]; exact h (a :: U) (hU.cons₂ a) (List.cons_ne_nil _ _))]
    exact q_SR_one L S fun U hU => h U (hU.cons a)
def q_Res (fi : Nat → Nat → Int32) (zc : CZ) (o : Option (List Nat)) (r : RS) : Prop := match o with
  | none => r.1 = false
  | some T => r.1 = true ∧ r.2.2 = T ∧ ∃ g0, DQ fi g0 ∧ r.2.1 = spF g0 (zPut zc (13, 4) T 0)
theorem q_Res_nd {fi : Nat → Nat → Int32} {zc : CZ} {o : Option (List Nat)} {r : RS} (S : List Nat) (h : q_Res fi zc o r) : q_Res fi zc o (ndF S r) := by
  unfold ndF
  cases o with
  | none =>
    have h1 : r.1 = false := h
    rw [if_neg (by rw [h1]; decide)]
    rfl
  | some T =>
    have h1 : r.1 = true := h.1
    rw [if_pos h1]
    exact h
section SMf
variable {c : Nat} {fi : Nat → Nat → Int32} {z : CZ} {sc : Nat → Int32} {ar : Nat → Nat → Int32}
theorem SM.cn (h : SM c fi z sc ar) {A : List Nat} (hd : A.Pairwise (q_dj (fi 5))) (i : Nat) : q_cn (fi 0) i (JQ (q_U (fi 5) A) 18) = q_sN (fun t => q_cn (fi 0) i (JQ (fi 5 t) 18)) A := q_sN_U (by decide) hd
/-- what can be split has places for all it holds -/
theorem SM.prune (h : SM c fi z sc ar) {Q S U : List Nat} {hd : Nat} {R : List Nat} (hT : S ++ U = hd :: R) (hTd : (hd :: R).Pairwise (q_dj (fi 5))) (hTm : ∀ t ∈ hd :: R, t < zN z 1) (ho : q_ok c fi z Q (hd :: R) = true) : q_sN (q_ln z) S ≤ 6 ∧ sfB (q_sL (fi 8) S) 2 = true := by
  obtain ⟨o1, o2, o3⟩ := q_ok_t.mp ho
  have hS : S.Sublist (hd :: R) := by rw [← hT]; exact List.sublist_append_left _ _
  have h6 : q_sN (q_ln z) S ≤ 6 := by
    rw [← hT, q_sN_a] at o1
    omega
  refine ⟨h6, ?_⟩
  have hSd := hTd.sublist hS
  have hSm : ∀ t ∈ S, t < zN z 1 := fun t ht => hTm t (hS.subset ht)
  rw [h.s8 hSd hSm]
  rw [q_sf2 (fi 0) (by rw [h.lenU hSd hSm]; exact h6)]
  intro i hi
  obtain ⟨A, B, hp, hA, hB⟩ := q_sp_t o3
  have hAB := (hp.pairwise_iff (fun {_ _} q => q_dj_s q)).mpr hTd
  have hAd := hAB.sublist (List.sublist_append_left A B)
  have hBd := hAB.sublist (List.sublist_append_right A B)
  have hAm : ∀ t ∈ A, t < zN z 1 := fun t ht => hTm t (hp.subset (List.mem_append_left _ ht))
  have hBm : ∀ t ∈ B, t < zN z 1 := fun t ht => hTm t (hp.subset (List.mem_append_right _ ht))
  have one : ∀ X : List Nat, X.Pairwise (q_dj (fi 5)) → (∀ t ∈ X, t < zN z 1) → q_tA fi z X = true → q_sN (fun t => q_cn (fi 0) i (JQ (fi 5 t) 18)) X ≤ q_po i := fun X hXd hXm hX => by
    unfold q_tA at hX
    rw [Bool.and_eq_true, decide_eq_true_eq] at hX
    rw [← h.cn hXd]
    have h7 := hX.2
    rw [h.s8 hXd hXm, q_sf1 (fi 0) (by rw [h.lenU hXd hXm, hX.1]; decide)] at h7
    exact h7 i hi
  have h1 := one A hAd hAm hA
  have h2 := one B hBd hBm hB
  have h3 := q_sN_perm (g := fun t => q_cn (fi 0) i (JQ (fi 5 t) 18)) hp
  rw [q_sN_a, ← hT, q_sN_a] at h3
  rw [h.cn hSd]
  omega
theorem SM.fw (h : SM c fi z sc ar) {zc : CZ} {C CL : List Nat} {hd : Nat} (hC : zL zc (13, 3) = C) (hC2 : C = hd :: CL) (h11 : ∀ p, zL zc (11, p) = zL z (11, p)) (hfit : ∀ t ∈ C, ftC fi z (nI c) t hd = true) (hCQ : C.Sublist (q_Q fi (zN z 1))) : ∀ d, (∀ (g : Nat → Nat → Int32) (S : List Nat) (i P : Nat) (ct : Int32), DQ fi g → P = q_sN (q_ln z) S → ct = q_sL (fi 8) S → S.Sublist (C.take i) → ((S = [] ∧ i = 0) ∨ ∃ S', S = hd :: S') → 6 ≤ P + d → P < 6 → ∀ a, C[i]? = some a → q_Res fi zc (q_SR (q_ok c fi z (q_Q fi (zN z 1))) (C.drop (i + 1)) (S ++ [a])) (fwF zc d g S i P ct)) ∧ (∀ (n k : Nat) (g : Nat → Nat → Int32) (S : List Nat) (P : Nat) (ct : Int32), C.length - k = n → DQ fi g → P = q_sN (q_ln z) S → ct = q_sL (fi 8) S → S.Sublist (C.take k) → (∃ S', S = hd :: S') → 6 ≤ P + d → P < 6 → q_Res fi zc (q_SR (q_ok c fi z (q_Q fi (zN z 1))) (C.drop k) S) (itF (fun fi S k => fwF zc d fi S k P ct) n g S k)) := by
  have hQm : ∀ t ∈ q_Q fi (zN z 1), t < zN z 1 := fun t ht => (q_Q_m.mp ht).1
  have hQl := h.Q18
  have hlen1 : ∀ t ∈ C, 1 ≤ q_ln z t := fun t ht => (h.pt (hQm t (hCQ.subset ht))).2.2.2.2.1.1
  -- the loop from one step
  have loop : ∀ d, (∀ (g : Nat → Nat → Int32) (S : List Nat) (i P : Nat) (ct : Int32), DQ fi g → P = q_sN (q_ln z) S → ct = q_sL (fi 8) S → S.Sublist (C.take i) → ((S = [] ∧ i = 0) ∨ ∃ S', S = hd :: S') → 6 ≤ P + d → P < 6 → ∀ a, C[i]? = some a → q_Res fi zc (q_SR (q_ok c fi z (q_Q fi (zN z 1))) (C.drop (i + 1)) (S ++ [a])) (fwF zc d g S i P ct)) → (∀ (n k : Nat) (g : Nat → Nat → Int32) (S : List Nat) (P : Nat) (ct : Int32), C.length - k = n → DQ fi g → P = q_sN (q_ln z) S → ct = q_sL (fi 8) S → S.Sublist (C.take k) → (∃ S', S = hd :: S') → 6 ≤ P + d → P < 6 → q_Res fi zc (q_SR (q_ok c fi z (q_Q fi (zN z 1))) (C.drop k) S) (itF (fun fi S k => fwF zc d fi S k P ct) n g S k)) := by
    intro d hF n
    induction n with
    | zero =>
      intro k g S P ct hn hg hP hct hS hS0 hd6 hP6
      obtain ⟨S', rfl⟩ := hS0
      rw [List.drop_eq_nil_of_le (by omega), q_SR, if_neg (fun ho => by have := (q_ok_t.mp ho).1; omega)]
      rfl
    | succ n ih =>
      intro k g S P ct hn hg hP hct hS hS0 hd6 hP6
      have hk : k < C.length := by omega
      have hCk : C[k]? = some C[k] := List.getElem?_eq_getElem hk
      have h1 := hF g S k P ct hg hP hct hS (Or.inr hS0) hd6 hP6 _ hCk
      rw [List.drop_eq_getElem_cons hk]
      cases ho : q_SR (q_ok c fi z (q_Q fi (zN z 1))) (C.drop (k + 1)) (S ++ [C[k]]) with
      | some T =>
        rw [ho] at h1
        rw [q_SR_s ho]
        obtain ⟨a1, a2⟩ := h1
        rw [itF, if_pos a1]
        exact ⟨a1, a2⟩
      | none =>
        rw [ho] at h1
        have h2 : (fwF zc d g S k P ct).1 = false := h1
        rw [q_SR_n ho, itF, if_neg (by rw [h2]; decide), fwF_S zc d g S k P ct h2]
        exact ih (k + 1) _ S P ct (by omega) (hg.trans (fwF_DQ zc d g S k P ct)) hP hct (hS.trans (by rw [take_1 hCk]; exact List.sublist_append_left _ _)) hS0 hd6 hP6
  intro d
  induction d with
  | zero => exact ⟨fun g S i P ct _ _ _ _ _ h1 h2 => absurd h1 (by omega), fun n k g S P ct _ _ _ _ _ _ h1 h2 => absurd h1 (by omega)⟩
  | succ d ihd =>
    have hF : (∀ (g : Nat → Nat → Int32) (S : List Nat) (i P : Nat) (ct : Int32), DQ fi g → P = q_sN (q_ln z) S → ct = q_sL (fi 8) S → S.Sublist (C.take i) → ((S = [] ∧ i = 0) ∨ ∃ S', S = hd :: S') → 6 ≤ P + (d + 1) → P < 6 → ∀ a, C[i]? = some a → q_Res fi zc (q_SR (q_ok c fi z (q_Q fi (zN z 1))) (C.drop (i + 1)) (S ++ [a])) (fwF zc (d + 1) g S i P ct)) := by
      intro g S i P ct hg hP hct hS hS0 hd6 hP6 a ha
      have hi : i < C.length := (List.getElem?_eq_some_iff.mp ha).1
      have hgd : (zL zc (13, 3)).getD i 0 = a := by rw [hC, List.getD, ha]; rfl
      have hmem : a ∈ C := List.mem_of_getElem? ha
      have hP2 : P + (zL zc (11, a)).length = q_sN (q_ln z) (S ++ [a]) := by
        rw [q_sN_a, h11, hP]; rfl
      have hct2 : ct + g 8 a = q_sL (fi 8) (S ++ [a]) := by
        rw [q_sL_1, hct, hg 8 a (Or.inl (by decide))]
      have hSa : (S ++ [a]).Sublist (C.take (i + 1)) := by rw [take_1 ha]; exact hS.append (List.Sublist.refl _)
      obtain ⟨S2, hS2⟩ : ∃ S2, S ++ [a] = hd :: S2 := by
        rcases hS0 with ⟨rfl, rfl⟩ | ⟨S', rfl⟩
        · rw [hC2] at ha
          have : hd = a := Option.some.inj ha
          exact ⟨[], by rw [this]; rfl⟩
        · exact ⟨S' ++ [a], rfl⟩
      have hfull : ∀ U, U.Sublist (C.drop (i + 1)) → (S ++ [a] ++ U).Sublist C := fun U hU => by
        have := hSa.append hU
        rwa [List.take_append_drop] at this
      have hdrop1 : ∀ U, U.Sublist (C.drop (i + 1)) → U ≠ [] → 1 ≤ q_sN (q_ln z) U := fun U hU hne => by
        have h1 := q_sN_ge (g := q_ln z) (xs := U) (fun t ht => hlen1 t ((List.drop_sublist _ _).subset (hU.subset ht)))
        have h2 : 0 < U.length := List.length_pos_iff.mpr hne
        omega
      rw [fwF_1, hgd, if_pos ⟨by rw [hC]; exact hi, hP6⟩, hP2, hct2]
      by_cases hpr : q_sN (q_ln z) (S ++ [a]) ≤ 6 ∧ sfB (q_sL (fi 8) (S ++ [a])) 2 = true
      · rw [if_pos hpr]
        by_cases h6 : q_sN (q_ln z) (S ++ [a]) = 6
        · rw [if_pos h6]
          have hsub := hfull [] (List.nil_sublist _)
          rw [List.append_nil] at hsub
          have hl : S2.length ≤ 30 := by
            have h1 := hsub.length_le
            have h2 := hCQ.length_le
            rw [hS2, List.length_cons] at h1
            omega
          have hrel := q_split_rel (fi := fi) (g0 := g) (z := z) (z' := zPut zc (13, 4) (S ++ [a]) 0) (Q := q_Q fi (zN z 1)) (R := S2) (h := hd) hg ((zL_put _ _ _ _).trans hS2) (fun p => (zL_pn zc (13, 4) (S ++ [a]) 0 (p := (11, p)) (fun e => by cases e)).trans (h11 p)) hl (by rw [← hS2]; exact h6) (fun t ht => hCQ.subset (hsub.subset (by rw [hS2]; exact ht))) hQl
          rw [q_SR_one _ _ fun U hU hne => by
            have h1 := hdrop1 U hU hne
            rw [hS2, List.cons_append]
            cases ho : q_ok c fi z (q_Q fi (zN z 1)) (hd :: (S2 ++ U)) with
            | false => rfl
            | true =>
              have h2 := (q_ok_t.mp ho).1
              rw [← List.cons_append, ← hS2, q_sN_a] at h2
              omega]
          by_cases hgap : spF g (zPut zc (13, 4) (S ++ [a]) 0) 17 0 ≠ -1
          · have hq : (q_sp fi z (q_Q fi (zN z 1)) hd S2).1 ≠ 0 := by
              rcases hrel.2 with ⟨-, e⟩ | ⟨e, -⟩
              · exact absurd e hgap
              · exact e
            have ho : q_ok c fi z (q_Q fi (zN z 1)) (S ++ [a]) = true := by
              rw [hS2]
              exact q_ok_t.mpr ⟨by rw [← hS2]; exact h6, fun t ht => hfit t (hsub.subset (by rw [hS2]; exact ht)), hq⟩
            rw [if_pos ho]
            unfold ndF
            rw [if_pos (decide_eq_true hgap)]
            exact ⟨decide_eq_true hgap, rfl, g, hg, rfl⟩
          · have hq : (q_sp fi z (q_Q fi (zN z 1)) hd S2).1 = 0 := by
              rcases hrel.2 with ⟨e, -⟩ | ⟨-, -, e, -⟩
              · exact e
              · exact absurd e hgap
            have ho : ¬ q_ok c fi z (q_Q fi (zN z 1)) (S ++ [a]) = true := fun ho => by
              rw [hS2] at ho
              exact (q_ok_t.mp ho).2.2 hq
            rw [if_neg ho]
            unfold ndF
            rw [if_neg (by rw [decide_eq_false hgap]; exact Bool.false_ne_true)]
            rfl
        · rw [if_neg h6]
          have hl := ihd.2 (C.length - (i + 1)) (i + 1) g (S ++ [a]) _ _ rfl hg rfl rfl hSa ⟨S2, hS2⟩ (by
            have h1 := hlen1 a hmem
            have h9 : q_sN (q_ln z) (S ++ [a]) = q_sN (q_ln z) S + (q_ln z a + 0) := q_sN_a _ _ _
            omega) (by omega)
          rw [hC]
          exact q_Res_nd _ hl
      · rw [if_neg hpr, q_SR_nil fun U hU => by
          cases ho : q_ok c fi z (q_Q fi (zN z 1)) (S ++ [a] ++ U) with
          | false => rfl
          | true =>
            have hs := (hfull U hU).trans hCQ
            have hT : S ++ [a] ++ U = hd :: (S2 ++ U) := by rw [hS2]; rfl
            rw [hT] at ho hs
            exact absurd (h.prune hT (h.Qdj.sublist hs) (fun t ht => hQm t (hs.subset ht)) ho) hpr]
        rfl
    exact ⟨hF, loop (d + 1) hF⟩
end SMf
