/-! ===== make, whole ===== -/
section SMz
variable {c : Nat} {fi : Nat → Nat → Int32} {z : CZ} {sc : Nat → Int32} {ar : Nat → Nat → Int32}
theorem SM.mk_no (h : SM c fi z sc ar) {Q : List Nat} (hQQ : Q = q_Q fi (zN z 1)) (hn : ∀ k x, k < Q.length → 0 < x → x < 2 ^ (Q.length - 1 - k) → PS (zN z 0) Q.length (sc 3) ar (lnQ Q) k x = false) : (mkG z (zN z 1) fi 0).1 = false := by
  have hmk := h.mk (zN z 1) 0 fi rfl DQ.rf
  rw [q_Qi_0, ← hQQ, h.q_none hQQ hn] at hmk
  exact hmk
theorem SM.mk_yes (h : SM c fi z sc ar) (hm : zN z 2 < 512) {Q : List Nat} (hQQ : Q = q_Q fi (zN z 1)) {k x : Nat} {S : Int32 × Int32} (hk : k < Q.length) (hx0 : 0 < x) (hx : x < 2 ^ (Q.length - 1 - k)) (ht : PS (zN z 0) Q.length (sc 3) ar (lnQ Q) k x = true) (hn1 : ∀ k' y, k' < k → 0 < y → y < 2 ^ (Q.length - 1 - k') → PS (zN z 0) Q.length (sc 3) ar (lnQ Q) k' y = false) (hn2 : ∀ y, x < y → y < 2 ^ (Q.length - 1 - k) → PS (zN z 0) Q.length (sc 3) ar (lnQ Q) k y = false) (hS : S = spG (zN z 0) Q.length ar (lnQ Q) (nI (2 ^ (Q.length - 1 - k))) x x x (0, 0)) : (mkG z (zN z 1) fi 0).1 = true ∧ ∀ (z1 : CZ) (cap cm : Nat) (sc' : Nat → Int32), zE z z1 → cpO z1 → cap ≤ 800 → (∀ j, j < 4 → j ≠ 2 → sc' j = sc j) → sc' 2 = nI (zN z 2 + 1) → SM c (nmF (mkG z (zN z 1) fi 0).2.1 (zN z 2) ((mkG z (zN z 1) fi 0).2.1 18 0) (mkG z (zN z 1) fi 0).2.2) (zM z1 (mkG z (zN z 1) fi 0).2.2 cap cm) sc' (mkA (zN z 0) Q.length (zN z 2) (lnQ Q) (nI (2 ^ (Q.length - 1 - k)) ||| nI x) (hdA (zN z 2) (plI Q.length S.1 (lnQ Q) (ar 7) Q.length) (plI Q.length ((nI (2 ^ (Q.length - 1 - k)) ||| nI x) &&& (S.1 ^^^ (-1))) (lnQ Q) (ar 7) Q.length) S.2 (sc 3) ar) Q.length) := by
  obtain ⟨pre, hd, L, e, hp, hL, hMS, hok⟩ := h.q_some hQQ hk hx0 hx ht hn1 hn2
  have hQ18 : Q.length ≤ 18 := by rw [hQQ]; exact h.Q18
  have hQd : Q.Pairwise (q_dj (fi 5)) := by rw [hQQ]; exact h.Qdj
  have hQn : Q.Nodup := by rw [hQQ]; exact q_Q_nd _
  have hQm2 : ∀ t ∈ Q, t < zN z 1 ∧ fi 7 t = 1 := fun t ht => by rw [hQQ] at ht; exact q_Q_m.mp ht
  have hQm : ∀ t ∈ Q, t < zN z 1 := fun t ht => (hQm2 t ht).1
  have hl : Q.length = pre.length + (L.length + 1) := by rw [e, List.length_append, List.length_cons]
  rw [← hL] at hx hS ⊢
  have hX : 2 ^ L.length + x < 2 ^ Q.length := by
    have h8 : 2 ^ (L.length + 1) ≤ 2 ^ Q.length := Nat.pow_le_pow_right (by decide) (by omega)
    rw [Nat.pow_succ] at h8
    omega
  have e1 : nI (2 ^ L.length) ||| nI x = nI (2 ^ L.length + x) := by
    rw [nI_or]
    congr 1
    exact Nat.eq_of_testBit_eq fun i => by
      rw [Nat.testBit_or, q_tb hx, Nat.testBit_two_pow, show decide (L.length = i) = decide (i = L.length) by rw [decide_eq_decide]; exact eq_comm]
  have s1 : q_sel Q (2 ^ L.length + x) = hd :: q_sel L x := by
    conv => lhs; rw [e]
    rw [q_sel_pre (L := hd :: L) (by rw [List.length_cons, Nat.pow_succ]; omega), q_sel_h hx]
  have u1 : (hd :: q_sel L x).Sublist Q := by rw [← s1]; exact q_sel_sub _ _
  have hTd := hQd.sublist u1
  have hTn := hQn.sublist u1
  have hTm : ∀ t ∈ hd :: q_sel L x, t < zN z 1 ∧ fi 7 t = 1 := fun t ht => hQm2 t (u1.subset ht)
  obtain ⟨o1, o2, o3⟩ := q_ok_t.mp hok
  have hmk := h.mk (zN z 1) 0 fi rfl DQ.rf
  rw [q_Qi_0, ← hQQ, hMS] at hmk
  obtain ⟨r1, r2, g0, zz, hg0, z4, z11, r3⟩ := hmk
  refine ⟨r1, fun z1 cap cm sc' hz hcp hcap hs hs2 => ?_⟩
  have hrel := q_split_rel (fi := fi) (g0 := g0) (z := z) (z' := zz) (Q := Q) (R := q_sel L x) (h := hd) hg0 z4 z11 (by
    have := u1.length_le
    rw [List.length_cons] at this
    omega) o1 (fun t ht => u1.subset ht) hQ18
  have hsp := h.spl e hQd hQn hQm hQ18 hx
  rw [← hsp, ← hS, ← r3] at hrel
  rw [← hsp, ← hS] at o3
  obtain ⟨hDQ, hr⟩ := hrel
  rcases hr with ⟨h1, -⟩ | ⟨-, g17, -, A', B', hAB, g15, g16, hmsk⟩
  · exact absurd h1 o3
  have hAQ : ∀ t ∈ A', t ∈ Q := fun t ht => u1.subset ((q_perm_mem hAB t).mpr (Or.inl ht))
  have hBT : ∀ t ∈ B', t ∈ hd :: q_sel L x := fun t ht => (q_perm_mem hAB t).mpr (Or.inr ht)
  have hABn : (A' ++ B').Nodup := hAB.nodup_iff.mpr hTn
  have hM := q_msk_lt Q A'
  have t0 : plI Q.length S.1 (lnQ Q) (ar 7) Q.length = q_U (fi 5) A' := by
    rw [hmsk, q_plI (by omega), h.U7 (fun t ht => hQm t ((q_sel_sub _ _).subset ht))]
    exact q_U_ex fun t => by
      rw [q_sel_msk]
      exact ⟨fun q => q.2, fun q => ⟨hAQ t q, q⟩⟩
  have e2 : nI (2 ^ L.length + x) &&& (nI (q_msk Q A') ^^^ (-1)) = nI ((2 ^ L.length + x) ^^^ ((2 ^ L.length + x) &&& q_msk Q A')) := gb_ext fun b hb => by
    rw [gb_and, gb_not _ hb, gb_nI _ hb, gb_nI _ hb, gb_nI _ hb, Nat.testBit_xor, Nat.testBit_and]
    cases (2 ^ L.length + x).testBit b <;> cases (q_msk Q A').testBit b <;> rfl
  have t1 : plI Q.length ((nI (2 ^ L.length) ||| nI x) &&& (S.1 ^^^ (-1))) (lnQ Q) (ar 7) Q.length = q_U (fi 5) B' := by
    rw [hmsk, e1, e2, q_plI (by omega), h.U7 (fun t ht => hQm t ((q_sel_sub _ _).subset ht))]
    exact q_U_ex fun t => by
      rw [q_rest hQn, s1, q_sel_msk]
      constructor
      · rintro ⟨h1, h2⟩
        rcases (q_perm_mem hAB t).mp h1 with h3 | h3
        · exact absurd ⟨hAQ t h3, h3⟩ h2
        · exact h3
      · intro h1
        exact ⟨hBT t h1, fun q => (List.nodup_append.mp hABn).2.2 t q.2 t h1 rfl⟩
  rw [t0, t1, r2, e1]
  have hpk : q_pk Q (fun i => (2 ^ L.length + x).testBit (Q.length - 1 - i)) Q.length = hd :: q_sel L x := by
    rw [q_pk_sel (2 ^ L.length + x) Q _ (fun _ _ => rfl), s1]
  obtain ⟨m5, m5', m9, m10⟩ := q_mkA (m := zN z 2) (X := 2 ^ L.length + x) (A := hdA (zN z 2) (q_U (fi 5) A') (q_U (fi 5) B') S.2 (sc 3) ar) h.np hQ18 Q.length (Nat.le_refl _)
  rw [hpk] at m5 m9 m10
  have hck : sc 3 = nI c := h.1.2.2.2.1
  have mo : ∀ j, j ≠ 5 → j ≠ 9 → j ≠ 10 → mkA (zN z 0) Q.length (zN z 2) (lnQ Q) (nI (2 ^ L.length + x)) (hdA (zN z 2) (q_U (fi 5) A') (q_U (fi 5) B') S.2 (sc 3) ar) Q.length j = hdA (zN z 2) (q_U (fi 5) A') (q_U (fi 5) B') S.2 (sc 3) ar j := fun j h5 h9 h10 => mkA_o h5 h9 h10 Q.length
  have hd7 : hdA (zN z 2) (q_U (fi 5) A') (q_U (fi 5) B') S.2 (sc 3) ar 7 = ar 7 := rfl
  rw [hd7, h.U7 (fun t ht => (hTm t ht).1)] at m5
  exact h.made (T := hd :: q_sel L x) (A := A') (B := B') (df := S.2) hDQ hz hcp hcap hTm hTd hAB g15 g16 g17 hm hs hs2 (fun j h5 h9 h10 h11 h12 h13 h14 h15 _ => by
    rw [mo j h5 h9 h10]
    unfold hdA
    rw [if_neg h11, if_neg h12, if_neg h13, if_neg h14, if_neg h15]) m5 m5' m9 m10 (mo 11 (by decide) (by decide) (by decide)) (mo 12 (by decide) (by decide) (by decide)) (by
    rw [mo 13 (by decide) (by decide) (by decide), ← hck]
    rfl) (mo 14 (by decide) (by decide) (by decide)) (mo 15 (by decide) (by decide) (by decide))
end SMz
