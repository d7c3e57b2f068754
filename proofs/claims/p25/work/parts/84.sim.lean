/-! ===== splitting: class and model ===== -/
theorem q_ch_cg2 {α : Type} {st st2 : Nat → α → α} {r : Nat} : ∀ (n p : Nat) (q : α), p &&& r = p → (∀ x, x ≤ p → x &&& r = x → ∀ q, st x q = st2 x q) → q_ch st r n p q = q_ch st2 r n p q
  | 0, p, q, hp, h => h p (Nat.le_refl _) hp q
  | n + 1, 0, q, hp, h => by rw [q_ch_0, q_ch_0]; exact h 0 (Nat.le_refl _) hp q
  | n + 1, p + 1, q, hp, h => by
    have : p &&& r ≤ p := Nat.and_le_left
    rw [q_ch_s, q_ch_s, h (p + 1) (Nat.le_refl _) hp, q_ch_cg2 n (p &&& r) _ (by rw [Nat.and_assoc, Nat.and_self]) (fun x hx => h x (by omega))]
theorem q_spG (np mn : Nat) (ar : Nat → Nat → Int32) (ln : Nat → Nat) (fi : Int32) (r : Nat) : ∀ (n p : Nat) (q : Int32 × Int32), spG np mn ar ln fi r n p q = q_ch (fun p q => stS np mn ar ln fi r p q) r n p q
  | 0, _, _ => rfl
  | n + 1, p, q => by
    rw [q_ch]
    show (if p = 0 then stS np mn ar ln fi r p q else spG np mn ar ln fi r n ((p - 1) &&& r) (stS np mn ar ln fi r p q)) = _
    rw [q_spG np mn ar ln fi r n]
theorem q_sel_full : ∀ L : List Nat, q_sel L (2 ^ L.length - 1) = L
  | [] => rfl
  | a :: L => by
    have h : 0 < 2 ^ L.length := Nat.pow_pos (by decide)
    rw [show 2 ^ (a :: L).length - 1 = 2 ^ L.length + (2 ^ L.length - 1) by rw [List.length_cons, Nat.pow_succ]; omega, q_sel_h (by omega), q_sel_full L]
theorem q_U_a (m : Nat → Int32) (t : Nat) : ∀ T : List Nat, q_U m (T ++ [t]) = q_U m T ||| m t
  | [] => by
    show m t ||| 0 = 0 ||| m t
    exact gb_ext fun k _ => by rw [gb_or, gb_or, Bool.or_comm]
  | a :: T => by
    rw [List.cons_append, q_U_c, q_U_c, q_U_a m t T]
    exact gb_ext fun k _ => by rw [gb_or, gb_or, gb_or, gb_or, Bool.or_assoc]
/-! the class's weighing, by lists -/
def q_W (fi : Nat → Nat → Int32) (z : CZ) (A B : List Nat) : W6 := (nI (q_sN (q_ln z) A), q_sL (fun t => smC fi (zL z (11, t))) A - q_sL (fun t => smC fi (zL z (11, t))) B, q_U (fi 5) A, q_U (fi 5) B, q_sL (fi 8) A, q_sL (fi 8) B)
def q_pk (T : List Nat) (b : Nat → Bool) (n : Nat) : List Nat := ((List.range n).filter b).map (fun i => T.getD i 0)
theorem q_pk_t {T : List Nat} {b : Nat → Bool} {n : Nat} (h : b n = true) : q_pk T b (n + 1) = q_pk T b n ++ [T.getD n 0] := by
  unfold q_pk
  rw [List.range_succ, List.filter_append, List.filter_cons_of_pos h, List.map_append]
  rfl
theorem q_pk_f {T : List Nat} {b : Nat → Bool} {n : Nat} (h : b n = false) : q_pk T b (n + 1) = q_pk T b n := by
  unfold q_pk
  rw [List.range_succ, List.filter_append, List.filter_cons_of_neg (by rw [h]; decide), List.map_append]
  exact List.append_nil _
theorem q_pk_sel (x : Nat) : ∀ (T : List Nat) (b : Nat → Bool), (∀ i, i < T.length → b i = x.testBit (T.length - 1 - i)) → q_pk T b T.length = q_sel T x
  | [], _, _ => rfl
  | a :: L, b, h => by
    have h0 : b 0 = x.testBit L.length := h 0 (Nat.succ_pos _)
    have ih := q_pk_sel x L (fun i => b (i + 1)) (fun i hi => by
      rw [h (i + 1) (Nat.succ_lt_succ hi)]
      congr 1
      rw [List.length_cons]; omega)
    have e1 : q_pk (a :: L) b (a :: L).length = (if b 0 = true then [a] else []) ++ q_pk L (fun i => b (i + 1)) L.length := by
      unfold q_pk
      rw [List.length_cons, List.range_succ_eq_map]
      cases hb : b 0 with
      | true =>
        rw [List.filter_cons_of_pos hb, List.filter_map, List.map_cons, List.map_map, if_pos rfl]
        rfl
      | false =>
        rw [List.filter_cons_of_neg (by rw [hb]; decide), List.filter_map, List.map_map, if_neg (by decide)]
        rfl
    rw [e1, ih, q_sel_c, h0]
    split <;> rfl
theorem q_wgL {fi : Nat → Nat → Int32} {z : CZ} {T : List Nat} (hT : zL z (13, 4) = T) (hl : T.length ≤ 31) (X : Nat) : ∀ n, n ≤ T.length → wgL fi z (nI X) n = q_W fi z (q_pk T (fun i => X.testBit (T.length - 1 - i)) n) (q_pk T (fun i => !X.testBit (T.length - 1 - i)) n)
  | 0, _ => by
    show (0, 0, 0, 0, 0, 0) = _
    unfold q_W q_pk
    simp only [List.range_zero, List.filter_nil, List.map_nil]
    show _ = (nI 0, (0 : Int32) - 0, _, _, _, _)
    rw [show (0 : Int32) - 0 = 0 from by decide]
    rfl
  | n + 1, hn => by
    have ih := q_wgL (fi := fi) hT hl X n (by omega)
    have hb : hsI (nI X) (nI T.length - 1 - nI n) = X.testBit (T.length - 1 - n) := by
      rw [nI_m1i (by omega), hsI_gb _ (by omega), gb_nI _ (by omega)]
    show wgS fi z (hsI (nI X) (nI (zL z (13, 4)).length - 1 - nI n)) ((zL z (13, 4)).getD n 0) (wgL fi z (nI X) n) = _
    rw [hT, hb, ih]
    cases hx : X.testBit (T.length - 1 - n) with
    | true =>
      rw [q_pk_t (by rw [hx]), q_pk_f (b := fun i => !X.testBit (T.length - 1 - i)) (by rw [hx]; rfl)]
      unfold wgS q_W
      rw [if_pos rfl]
      simp only [q_sL_1, q_U_a, q_sN_a]
      refine Prod.ext ?_ (Prod.ext ?_ (Prod.ext rfl (Prod.ext rfl (Prod.ext rfl rfl))))
      · show nI _ + nI _ = nI (_ + (q_ln z (T.getD n 0) + 0))
        rw [nI_add]; rfl
      · show _ - _ + _ = _ + _ - _
        rw [Int32.sub_eq_add_neg, Int32.sub_eq_add_neg, Int32.add_assoc, Int32.add_assoc, Int32.add_comm (-_)]
    | false =>
      rw [q_pk_f (by rw [hx]), q_pk_t (b := fun i => !X.testBit (T.length - 1 - i)) (by rw [hx]; rfl)]
      unfold wgS q_W
      rw [if_neg (by decide)]
      simp only [q_sL_1, q_U_a]
      refine Prod.ext rfl (Prod.ext ?_ (Prod.ext rfl (Prod.ext rfl (Prod.ext rfl rfl))))
      show _ - _ - _ = _ - (_ + _)
      rw [Int32.sub_eq_add_neg, Int32.sub_eq_add_neg, Int32.sub_eq_add_neg, Int32.neg_add, Int32.add_assoc, Int32.sub_eq_add_neg]
def q_stC (z : CZ) (A B : List Nat) (g : Nat → Nat → Int32) : Nat → Nat → Int32 := wgP g (q_W g z A B)
theorem q_wgF {fi : Nat → Nat → Int32} {z : CZ} {h : Nat} {R : List Nat} (hT : zL z (13, 4) = h :: R) (hl : R.length ≤ 30) {x : Nat} (hx : x < 2 ^ R.length) : wgF fi z (nI (2 ^ R.length + x)) = q_stC z ([h] ++ q_sel R x) ([] ++ q_sel R ((2 ^ R.length - 1) ^^^ x)) fi := by
  unfold wgF q_stC
  have hp : 0 < 2 ^ R.length := Nat.pow_pos (by decide)
  have hx2 : (2 ^ R.length - 1) ^^^ x < 2 ^ R.length := Nat.xor_lt_two_pow (by omega) hx
  rw [q_wgL hT (by rw [List.length_cons]; omega) _ _ (by rw [hT]; exact Nat.le_refl _), hT]
  rw [q_pk_sel (2 ^ R.length + x) (h :: R) _ (fun _ _ => rfl), q_sel_h hx]
  rw [q_pk_sel ((2 ^ R.length - 1) ^^^ x) (h :: R) _ (fun i hi => by
    rw [q_tb hx, Nat.testBit_xor, Nat.testBit_two_pow_sub_one]
    have hi2 : i < R.length + 1 := hi
    rw [List.length_cons, show R.length + 1 - 1 - i = R.length - i by omega]
    by_cases h9 : i = 0
    · subst h9
      rw [Nat.testBit_lt_two_pow (i := R.length - 0) (by rw [Nat.sub_zero]; exact hx), decide_eq_true (by omega), decide_eq_false (by omega)]
      rfl
    · rw [decide_eq_false (by omega), decide_eq_true (by omega)]
      cases x.testBit (R.length - i) <;> rfl), q_sel_l hx2]
  rfl
theorem q_spL {fi : Nat → Nat → Int32} {z : CZ} {F : Nat} {k : Nat} (hF : F = 2 ^ k) : ∀ p, p < F → q_ch (fun x g => wgF g z (nI (F + x))) (F - 1) p p (spL fi z F (F - 1 - p)) = spL fi z F F
  | 0, hp => by
    rw [q_ch_0]
    obtain ⟨n, hn⟩ : ∃ n, F = n + 1 := ⟨F - 1, by omega⟩
    rw [show F - 1 - 0 = n by omega]
    show wgF (spL fi z F n) z (nI (F + 0)) = _
    conv => rhs; rw [show spL fi z F F = spL fi z F (n + 1) by rw [← hn]]
    show _ = wgF (spL fi z F n) z (nI (2 * F - 1 - n))
    rw [show 2 * F - 1 - n = F + 0 by omega]
  | p + 1, hp => by
    rw [q_ch_s]
    have e1 : p &&& (F - 1) = p := by rw [hF, Nat.and_two_pow_sub_one_eq_mod, Nat.mod_eq_of_lt (by omega)]
    rw [e1, ← q_spL hF p (by omega)]
    congr 1
    show wgF (spL fi z F (F - 1 - (p + 1))) z (nI (F + (p + 1))) = _
    conv => rhs; rw [show F - 1 - p = (F - 1 - (p + 1)) + 1 by omega]
    show _ = wgF (spL fi z F (F - 1 - (p + 1))) z (nI (2 * F - 1 - (F - 1 - (p + 1))))
    rw [show 2 * F - 1 - (F - 1 - (p + 1)) = F + (p + 1) by omega]
theorem q_spF {fi : Nat → Nat → Int32} {z : CZ} {h : Nat} {R : List Nat} (hT : zL z (13, 4) = h :: R) (hl : R.length ≤ 30) : spF fi z = q_fo (q_stC z) R [h] [] (fu fi 17 0 (-1)) := by
  have hp : 0 < 2 ^ R.length := Nat.pow_pos (by decide)
  unfold spF
  rw [hT, show (h :: R).length - 1 = R.length from rfl, ← q_spL (fi := fi) (z := z) (F := 2 ^ R.length) rfl (2 ^ R.length - 1) (by omega), show 2 ^ R.length - 1 - (2 ^ R.length - 1) = 0 by omega]
  show q_ch _ _ _ _ (fu fi 17 0 (-1)) = _
  conv => rhs; rw [← q_sel_full R]
  rw [← q_ch_fo (q_stC z) R (2 ^ R.length - 1) (by omega) [h] []]
  exact q_ch_cg _ _ _ fun x hx g => q_wgF hT hl (by omega)
/-! the model's -/
def q_far (fi : Nat → Nat → Int32) (z : CZ) (A B : List Nat) : Int32 := abC (q_sL (fun t => smC fi (zL z (11, t))) A - q_sL (fun t => smC fi (zL z (11, t))) B)
def q_tA (fi : Nat → Nat → Int32) (z : CZ) (A : List Nat) : Bool := decide (q_sN (q_ln z) A = 3) && sfB (q_sL (fi 8) A) 1
def q_stM (fi : Nat → Nat → Int32) (z : CZ) (Q A B : List Nat) (q : Int32 × Int32) : Int32 × Int32 := if (q_tA fi z A && q_tA fi z B) = true ∧ (q.1 = 0 ∨ q_far fi z A B < q.2) then (nI (q_msk Q A), q_far fi z A B) else q
def q_sp (fi : Nat → Nat → Int32) (z : CZ) (Q : List Nat) (h : Nat) (R : List Nat) : Int32 × Int32 := q_fo (q_stM fi z Q) R [h] [] (0, 0)
section SMq
variable {c : Nat} {fi : Nat → Nat → Int32} {z : CZ} {sc : Nat → Int32} {ar : Nat → Nat → Int32}
theorem SM.U7 (h : SM c fi z sc ar) {A : List Nat} (hm : ∀ t ∈ A, t < zN z 1) : q_U (ar 7) A = q_U (fi 5) A := q_U_cg fun t ht => ((h.pt (hm t ht)).1).symm
theorem SM.Ubw (h : SM c fi z sc ar) {A : List Nat} (hm : ∀ t ∈ A, t < zN z 1) : q_bw (zN z 0) (q_U (fi 5) A) := q_U_bw fun t ht => h.bw (hm t ht)
theorem SM.s8 (h : SM c fi z sc ar) {A : List Nat} (hd : A.Pairwise (q_dj (fi 5))) (hm : ∀ t ∈ A, t < zN z 1) : q_sL (fi 8) A = q_sL (fun k => rcI (fi 0 k)) (JQ (q_U (fi 5) A) 18) := by
  rw [q_sL_U (by decide) hd]
  exact q_sL_cg fun t ht => by
    rw [(h.pt (hm t ht)).2.2.2.2.2.1, h.J (hm t ht)]
    rfl
theorem SM.tm (h : SM c fi z sc ar) {A : List Nat} (hd : A.Pairwise (q_dj (fi 5))) (hm : ∀ t ∈ A, t < zN z 1) : tmB (zN z 0) (ar 3) (q_U (ar 7) A) = q_tA fi z A := by
  rw [h.U7 hm]
  have hb := h.Ubw hm
  have h1 := q_tm (ro := ar 3) hb h.np (fun k hk => by
    obtain ⟨r, r1, r2, r3⟩ := (h.pl hk).2.2.2.2.2.2.2
    exact ⟨r, r1, r2, by rw [← (h.pl hk).2.2.1]; exact r3⟩)
  have h2 := h.lenU hd hm
  have h3 : ∀ i, q_cn (ar 3) i (JQ (q_U (fi 5) A) 18) = q_cn (fi 0) i (JQ (q_U (fi 5) A) 18) := fun i => q_sN_cg fun k hk => by
    rw [q_bw_J hb h.np (by decide)] at hk
    rw [(h.pl (JQ_in hk)).2.2.1]
  have h4 : tmB (zN z 0) (ar 3) (q_U (fi 5) A) = true ↔ q_tA fi z A = true := by
    rw [h1]
    unfold q_tA
    rw [Bool.and_eq_true, decide_eq_true_eq, h2, h.s8 hd hm]
    refine and_congr_right fun h5 => ?_
    rw [q_sf1 (fi 0) (by rw [h2, h5]; decide)]
    exact forall_congr' fun i => by rw [h3]
  cases ha : tmB (zN z 0) (ar 3) (q_U (fi 5) A) <;> cases hb2 : q_tA fi z A
  · rfl
  · rw [ha, hb2] at h4; exact absurd (h4.mpr rfl) (by decide)
  · rw [ha, hb2] at h4; exact absurd (h4.mp rfl) (by decide)
  · rfl
theorem q_abs (x : Int32) : absI x = abC x := by
  unfold absI abC
  rw [Int32.zero_sub]
theorem SM.smU (h : SM c fi z sc ar) {A : List Nat} (hd : A.Pairwise (q_dj (fi 5))) (hm : ∀ t ∈ A, t < zN z 1) : smI (zN z 0) (q_U (ar 7) A) (ar 1) = q_sL (fun t => smC fi (zL z (11, t))) A := by
  rw [h.U7 hm, q_smI, ← q_bw_J (h.Ubw hm) h.np (show 18 ≤ 32 by decide)]
  have e1 : q_sL (ar 1) (JQ (q_U (fi 5) A) 18) = q_sL (fi 1) (JQ (q_U (fi 5) A) 18) := q_sL_cg fun k hk => by
    rw [q_bw_J (h.Ubw hm) h.np (by decide)] at hk
    exact ((h.pl (JQ_in hk)).1).symm
  rw [e1, q_sL_U (by decide) hd]
  exact q_sL_cg fun t ht => by rw [q_smC, h.J (hm t ht)]
theorem q_msk_lt : ∀ L A : List Nat, q_msk L A < 2 ^ L.length
  | [], _ => (show 0 < 1 by decide)
  | a :: L, A => by
    have := q_msk_lt L A
    rw [q_msk, List.length_cons, Nat.pow_succ]
    split <;> omega
/-- the model's splits of the set that x chooses behind the k-th party of the line -/
theorem SM.spl (h : SM c fi z sc ar) {Q pre L : List Nat} {hd : Nat} (hQ : Q = pre ++ hd :: L) (hQd : Q.Pairwise (q_dj (fi 5))) (hQn : Q.Nodup) (hQm : ∀ t ∈ Q, t < zN z 1) (hQ18 : Q.length ≤ 18) {x : Nat} (hx : x < 2 ^ L.length) : spG (zN z 0) Q.length ar (lnQ Q) (nI (2 ^ L.length)) x x x (0, 0) = q_sp fi z Q hd (q_sel L x) := by
  have hl : L.length + 1 ≤ Q.length := by rw [hQ, List.length_append, List.length_cons]; omega
  rw [q_spG]
  unfold q_sp
  rw [← q_ch_fo (q_stM fi z Q) L x hx [hd] []]
  refine q_ch_cg2 _ _ _ (Nat.and_self x) fun p hp hpx q => ?_
  have hp2 : p < 2 ^ L.length := by omega
  have hxp : x ^^^ p < 2 ^ L.length := Nat.xor_lt_two_pow hx hp2
  have e1 : nI p ||| nI (2 ^ L.length) = nI (2 ^ L.length + p) := by
    rw [nI_or]
    congr 1
    exact Nat.eq_of_testBit_eq fun i => by
      rw [Nat.testBit_or, q_tb hp2, Nat.testBit_two_pow, Bool.or_comm, show decide (L.length = i) = decide (i = L.length) by rw [decide_eq_decide]; exact eq_comm]
  have e2 : nI x &&& (nI p ^^^ (-1)) = nI (x ^^^ p) := gb_ext fun k hk => by
    rw [gb_and, gb_not _ hk, gb_nI _ hk, gb_nI _ hk, gb_nI _ hk, Nat.testBit_xor]
    have h9 : p.testBit k = (p.testBit k && x.testBit k) := by rw [← Nat.testBit_and, hpx]
    cases hpk : p.testBit k <;> cases hxk : x.testBit k <;> simp [hpk, hxk] at h9 ⊢
  have s1 : q_sel Q (2 ^ L.length + p) = hd :: q_sel L p := by
    rw [hQ, q_sel_pre (L := hd :: L) (by rw [List.length_cons, Nat.pow_succ]; omega), q_sel_h hp2]
  have s2 : q_sel Q (x ^^^ p) = q_sel L (x ^^^ p) := by
    rw [hQ, q_sel_pre (L := hd :: L) (by rw [List.length_cons, Nat.pow_succ]; omega), q_sel_l hxp]
  have t1 : t0I Q.length ar (lnQ Q) (nI (2 ^ L.length)) p = q_U (ar 7) (hd :: q_sel L p) := by
    unfold t0I
    rw [e1, q_plI (by omega), s1]
  have t2 : t1I Q.length ar (lnQ Q) x p = q_U (ar 7) (q_sel L (x ^^^ p)) := by
    unfold t1I
    rw [e2, q_plI (by omega), s2]
  have u1 : (hd :: q_sel L p).Sublist Q := by rw [← s1]; exact q_sel_sub _ _
  have u2 : (q_sel L (x ^^^ p)).Sublist Q := by rw [← s2]; exact q_sel_sub _ _
  have d1 := hQd.sublist u1
  have d2 := hQd.sublist u2
  have m1 : ∀ t ∈ hd :: q_sel L p, t < zN z 1 := fun t ht => hQm t (u1.subset ht)
  have m2 : ∀ t ∈ q_sel L (x ^^^ p), t < zN z 1 := fun t ht => hQm t (u2.subset ht)
  have f1 : farI (zN z 0) Q.length ar (lnQ Q) (nI (2 ^ L.length)) x p = q_far fi z ([hd] ++ q_sel L p) ([] ++ q_sel L (x ^^^ p)) := by
    unfold farI q_far
    rw [t1, t2, h.smU d1 m1, h.smU d2 m2, q_abs]
    rfl
  have f2 : posB (zN z 0) Q.length ar (lnQ Q) (nI (2 ^ L.length)) x p = (q_tA fi z ([hd] ++ q_sel L p) && q_tA fi z ([] ++ q_sel L (x ^^^ p))) := by
    unfold posB
    rw [t1, t2, h.tm d1 m1, h.tm d2 m2]
    rfl
  have f3 : nI p ||| nI (2 ^ L.length) = nI (q_msk Q ([hd] ++ q_sel L p)) := by
    rw [e1]
    congr 1
    show _ = q_msk Q (hd :: q_sel L p)
    rw [← s1, q_msk_sel Q _ hQn]
    have h8 : 2 ^ (L.length + 1) ≤ 2 ^ Q.length := Nat.pow_le_pow_right (by decide) hl
    rw [Nat.pow_succ] at h8
    omega
  show stS _ _ _ _ _ _ _ _ = q_stM _ _ _ _ _ _
  unfold stS q_stM
  rw [f1, f2, f3]
end SMq
