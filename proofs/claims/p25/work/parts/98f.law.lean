/-! ===== the law: isTeam ===== -/
/-- nothing that was there has changed -/
def FrN (f f' : Wo) : Prop := ∀ b x, f b = some x → f' b = some x
theorem FrN.rf {f : Wo} : FrN f f := fun _ _ h => h
theorem FrN.trans {f g h : Wo} (a : FrN f g) (b : FrN g h) : FrN f h := fun x y hx => b x y (a x y hx)
theorem FrN.c {f f' : Wo} (h : FrN f f') : FrC f f' := fun b x hb _ => h b x hb
theorem FrN.a {f f' : Wo} (h : FrN f f') : FrA f f' := fun b x hb _ => h b x hb
theorem FrN.st {f f1 : Wo} {q : Nat} (h : FrN f f1) (hq : f q = none) (t : Tg) (e : va_E) : FrN f (w_up f1 q t e) := fun b x hb => (w_up_ne _ _ _ (w_neN hb hq)).trans (h b x hb)
def kkF (ro : Nat → Int32) (s : Int32) (i : Nat) : Nat → Int32 := fun j => if j < 3 ∧ j < (JQ s i).length then ro ((JQ s i).getD j 0) else 0
theorem getD_al {l : List Nat} {i j : Nat} (h : j < l.length) : (l ++ [i]).getD j 0 = l.getD j 0 := by
  rw [List.getD_eq_getElem?_getD, List.getD_eq_getElem?_getD, List.getElem?_append_left h]
theorem getD_ar (l : List Nat) (i : Nat) : (l ++ [i]).getD l.length 0 = i := by
  rw [List.getD_eq_getElem?_getD, List.getElem?_append_right (Nat.le_refl _), Nat.sub_self]
  rfl
theorem kk_t {ro : Nat → Int32} {s : Int32} {i : Nat} (h : hsI s (nI i) = true) (hl : (JQ s i).length < 3) : va_up (kkF ro s i) (JQ s i).length (ro i) = kkF ro s (i + 1) := by
  funext j
  unfold va_up kkF
  rw [JQ_t h, List.length_append, List.length_singleton]
  by_cases hj : j = (JQ s i).length
  · rw [if_pos hj, if_pos (by omega), hj, getD_ar]
  · rw [if_neg hj]
    by_cases h2 : j < 3 ∧ j < (JQ s i).length
    · rw [if_pos h2, if_pos (by omega), getD_al h2.2]
    · rw [if_neg h2, if_neg (by omega)]
theorem kk_n {ro : Nat → Int32} {s : Int32} {i : Nat} (h : hsI s (nI i) = true) (hl : 3 ≤ (JQ s i).length) : kkF ro s i = kkF ro s (i + 1) := by
  funext j
  unfold kkF
  rw [JQ_t h, List.length_append, List.length_singleton]
  by_cases h2 : j < 3
  · rw [if_pos (by omega), if_pos (by omega), getD_al (by omega)]
  · rw [if_neg (by omega), if_neg (by omega)]
theorem kk_f {ro : Nat → Int32} {s : Int32} {i : Nat} (h : hsI s (nI i) = false) : kkF ro s i = kkF ro s (i + 1) := by
  unfold kkF
  rw [JQ_f h]
def wyC (a b c : Int32) (w : Nat) : Bool := decide (¬ nI (w % 3) = nI (w / 3 % 3)) && (decide (¬ nI (w / 3 % 3) = nI (w / 9)) && (decide (¬ nI (w % 3) = nI (w / 9)) && (hsI a (nI (w % 3)) && (hsI b (nI (w / 3 % 3)) && hsI c (nI (w / 9))))))
def wyB (a b c : Int32) : Nat → Bool
  | 0 => false
  | w + 1 => wyB a b c w || wyC a b c w
theorem wy_all1 : ((List.range 8).all fun a => (List.range 8).all fun b => (List.range 8).all fun c => (wyB (nI a) (nI b) (nI c) 27 == mB (nI c) (nI b) (nI a) 3)) = true := by decide +kernel
theorem wy_all {a b c : Nat} (ha : a < 8) (hb : b < 8) (hc : c < 8) : wyB (nI a) (nI b) (nI c) 27 = mB (nI c) (nI b) (nI a) 3 :=
  beq_iff_eq.mp (List.all_eq_true.mp (List.all_eq_true.mp (List.all_eq_true.mp wy_all1 a (List.mem_range.mpr ha)) b (List.mem_range.mpr hb)) c (List.mem_range.mpr hc))
theorem team_eq {np : Nat} {ro rr : Nat → Int32} {s : Int32} (hb : q_bw np s) (hnp : np ≤ 18) (hro : ∀ k, k < np → rr k = ro k ∧ ∃ r, 0 < r ∧ r < 8 ∧ ro k = nI r) : (wyB (kkF rr s 18 0) (kkF rr s 18 1) (kkF rr s 18 2) 27 && decide ((JQ s 18).length = 3)) = tmB np ro s := by
  unfold tmB
  by_cases h3 : (JQ s 18).length = 3
  · rw [decide_eq_true h3, Bool.and_true, decide_eq_true (show szI s = 3 from (q_sz3 (n := 3) (by decide)).mpr h3), Bool.true_and]
    have hJ := q_bw_J hb hnp (by decide)
    have hlt : ∀ k ∈ JQ s 18, k < np := fun k hk => by rw [hJ] at hk; exact JQ_in hk
    rw [q_scF, ← hJ]
    unfold kkF
    match hl : JQ s 18, h3 with
    | [a, b, c], _ =>
      rw [hl] at hlt
      obtain ⟨ea, ra, a1, a2, a3⟩ := hro a (hlt a (by simp))
      obtain ⟨eb, rb, b1, b2, b3⟩ := hro b (hlt b (by simp))
      obtain ⟨ec, rc, c1, c2, c3⟩ := hro c (hlt c (by simp))
      have ha := hlt a (by simp)
      have hb := hlt b (by simp)
      have hc := hlt c (by simp)
      show wyB (rr a) (rr b) (rr c) 27 = mB (ro (nI c).toNatClampNeg) (ro (nI b).toNatClampNeg) (ro (nI a).toNatClampNeg) 3
      rw [nI_clamp (by omega), nI_clamp (by omega), nI_clamp (by omega), ea, eb, ec, a3, b3, c3]
      exact wy_all a2 b2 c2
  · rw [decide_eq_false h3, Bool.and_false, decide_eq_false (show ¬ szI s = 3 from fun q => h3 ((q_sz3 (n := 3) (by decide)).mp q)), Bool.false_and]

set_option maxHeartbeats 4000000 in
set_option maxRecDepth 100000 in
theorem c_L_isTeam (l : Launch) (G : GG) (f : Wo) (A : Nat → Nat) (lq : Nat → Int64) (la : Nat → Nat → Int32) (hA : LA G A lq la f) (np x : Nat) (ro : Nat → Int32) (hx : x < 262144) (hb : q_bw np (nI x)) (hnp : np ≤ 18) (hro : ∀ k, k < np → la 2 k = ro k ∧ ∃ r, 0 < r ∧ r < 8 ∧ ro k = nI r) : Ct l yL_isTeam wsL_isTeam 2 66 G [.ref (A 2), .int (nI x)] f (fun r f' => r = some (.int (bI (tmB np ro (nI x)))) ∧ FrN f f') 1 3 := by
  refine Ct.of (cc := cL_isTeam) (maxL := 9) (ret := (some .boolean)) (by decide) rfl (Nat.le_of_ble_eq_true rfl) (lv := [(0, _), (1, _)]) rfl (by simp [Value.category]) ?_
  intro K X hL hG hr hnm
  subst hL; subst hG
  refine V_iconst X (v := 3) (by decide) dL_isTeam_0 ?_
  refine V_newI X (kc' := 0) (ks' := 0) (N := 3) (43, 0) (by decide +kernel) (by decide) (by decide) (by decide) (by omega) (by omega) dL_isTeam_1 (fun q hq => ?_)
  have hT : w_up f q (43, 0) (oI (kG K) 3 (fun _ => 0)) q = some ((43, 0), oI (kG K) 3 (kkF (la 2) (nI x) 0)) := (w_up_self _ _ _ _).trans (by unfold kkF JQ; simp)
  have hN : FrN f (w_up f q (43, 0) (oI (kG K) 3 (fun _ => 0))) := FrN.rf.st hq _ _
  revert hT hN
  generalize w_up f q (43, 0) (oI (kG K) 3 (fun _ => 0)) = f1
  intro hT hN
  have L : ∀ (n i : Nat), 18 - i = n → i ≤ 18 → ∀ f1 : Wo, FrN f f1 → f1 q = some ((43, 0), oI (kG K) 3 (kkF (la 2) (nI x) i)) → V K f1 0 0 9 [(0, .ref (A 2)), (1, .int (nI x)), (2, .ref q), (3, .int (nI (min (JQ (nI x) i).length 3))), (4, .int (nI i))] [] := by
    intro n
    induction n using Nat.strongRecOn with
    | ind n ih =>
      intro i hn hi f1 hN hT
      have hA := hA.fr hN.c
      refine V_iload X rfl dL_isTeam_9 ?_
      refine V_bipush X (v := 18) (by decide) dL_isTeam_11 ?_
      refine V_icmp_ge X (tgt := 46) (by decide) dL_isTeam_13 (fun hc13 => ?_) (fun hc13 => ?_)
      · have hiN := lim_ge (N := 18) rfl hc13 hi (by omega)
        subst hiN
        have L2 : ∀ (n i : Nat), 27 - i = n → i ≤ 27 → V K f1 0 0 52 [(0, .ref (A 2)), (1, .int (nI x)), (2, .ref q), (3, .int (nI (min (JQ (nI x) 18).length 3))), (4, .int (bI (wyB (kkF (la 2) (nI x) 18 0) (kkF (la 2) (nI x) 18 1) (kkF (la 2) (nI x) 18 2) i))), (5, .int (nI i))] [] := by
          intro n
          induction n using Nat.strongRecOn with
          | ind n ih =>
            intro i hn hi
            refine V_iload X rfl dL_isTeam_52 ?_
            refine V_bipush X (v := 27) (by decide) dL_isTeam_54 ?_
            refine V_icmp_ge X (tgt := 152) (by decide) dL_isTeam_56 (fun hc56 => ?_) (fun hc56 => ?_)
            · have hiN := lim_ge (N := 27) rfl hc56 hi (by omega)
              subst hiN
              refine V_iload X rfl dL_isTeam_152 ?_
              refine V_if_eq X (tgt := 169) (by decide) dL_isTeam_154 (fun hc154 => ?_) (fun hc154 => ?_)
              · refine V_iconst X (v := 0) (by decide) dL_isTeam_169 ?_
                exact V_zret X hr (by decide) (⟨congrArg (fun v => some (Value.int v)) (Eq.symm (by rw [← team_eq hb hnp hro, bI_eq0 hc154, Bool.false_and]; rfl)), hN⟩) dL_isTeam_170
              · refine V_iload_n X rfl dL_isTeam_157 ?_
                refine V_callSp X (rest := _) (c_L_size _ _ _ x hx) gL_isTeam_L_size rfl hds_L_size (Nat.le_of_ble_eq_true rfl) (Nat.le_of_ble_eq_true rfl) rfl (Nat.le_of_ble_eq_true rfl) dL_isTeam_158 ?_
                refine V_iconst X (v := 3) (by decide) dL_isTeam_161 ?_
                refine V_icmp_ne X (tgt := 169) (by decide) dL_isTeam_162 (fun hc162 => ?_) (fun hc162 => ?_)
                · refine V_iconst X (v := 0) (by decide) dL_isTeam_169 ?_
                  exact V_zret X hr (by decide) (⟨congrArg (fun v => some (Value.int v)) (Eq.symm (by rw [← team_eq hb hnp hro, decide_eq_false (fun q9 => hc162 (by rw [q9]; rfl)), Bool.and_false]; rfl)), hN⟩) dL_isTeam_170
                · refine V_iconst X (v := 1) (by decide) dL_isTeam_165 ?_
                  refine V_goto X (tgt := 170) (by decide) dL_isTeam_166 ?_
                  exact V_zret X hr (by decide) (⟨congrArg (fun v => some (Value.int v)) (Eq.symm (by rw [← team_eq hb hnp hro, bI_ne0 hc154, decide_eq_true ((nI_eq (b := 3) (by have := q_len18 (nI x); omega) (by decide)).mp hc162)]; rfl)), hN⟩) dL_isTeam_170
            · have hlt := lim_lt (N := 27) rfl hc56 hi (by omega)
              refine V_iload X rfl dL_isTeam_59 ?_
              refine V_iconst X (v := 3) (by decide) dL_isTeam_61 ?_
              refine V_irem X (by decide) dL_isTeam_62 ?_
              refine V.top (y := nI (i % 3)) (pk_rem (d := 3) (by omega) (by decide) (by decide)) ?_
              refine V_istore X (lv' := [(6, _), (0, _), (1, _), (2, _), (3, _), (4, _), (5, _)]) (by decide) rfl dL_isTeam_63 ?_
              refine V_iload X rfl dL_isTeam_65 ?_
              refine V_iconst X (v := 3) (by decide) dL_isTeam_67 ?_
              refine V_idiv X (by decide) dL_isTeam_68 ?_
              refine V.top (y := nI (i / 3)) (pk_div (d := 3) (by omega) (by decide) (by decide)) ?_
              refine V_iconst X (v := 3) (by decide) dL_isTeam_69 ?_
              refine V_irem X (by decide) dL_isTeam_70 ?_
              refine V.top (y := nI (i / 3 % 3)) (pk_rem (d := 3) (by omega) (by decide) (by decide)) ?_
              refine V_istore X (lv' := [(7, _), (6, _), (0, _), (1, _), (2, _), (3, _), (4, _), (5, _)]) (by decide) rfl dL_isTeam_71 ?_
              refine V_iload X rfl dL_isTeam_73 ?_
              refine V_bipush X (v := 9) (by decide) dL_isTeam_75 ?_
              refine V_idiv X (by decide) dL_isTeam_77 ?_
              refine V.top (y := nI (i / 9)) (pk_div (d := 9) (by omega) (by decide) (by decide)) ?_
              refine V_istore X (lv' := [(8, _), (7, _), (6, _), (0, _), (1, _), (2, _), (3, _), (4, _), (5, _)]) (by decide) rfl dL_isTeam_78 ?_
              refine V.join (P := fun w => w = bI (wyB (kkF (la 2) (nI x) 18 0) (kkF (la 2) (nI x) 18 1) (kkF (la 2) (nI x) 18 2) (i + 1))) 144 (fun w144 hw144 => ?_) (fun hj144 => ?_)
              · subst hw144
                refine V_istore X (lv' := [(4, _), (8, _), (7, _), (6, _), (0, _), (1, _), (2, _), (3, _), (5, _)]) (by decide) rfl dL_isTeam_144 ?_
                refine V_iinc X (lv' := [(5, _), (4, _), (8, _), (7, _), (6, _), (0, _), (1, _), (2, _), (3, _)]) (v := nI (i + 1)) rfl (nI_1 _) (by decide) rfl dL_isTeam_146 ?_
                refine V_goto X (tgt := 52) (by decide) dL_isTeam_149 ?_
                refine V.lvs (lv' := [(0, _), (1, _), (2, _), (3, _), (4, _), (5, _)]) rfl ?_
                exact ih (27 - (i + 1)) (by omega) (i + 1) rfl (by omega)
              · refine V_iload X rfl dL_isTeam_80 ?_
                refine V_if_ne X (tgt := 139) (by decide) dL_isTeam_82 (fun hc82 => ?_) (fun hc82 => ?_)
                · refine V_iconst X (v := 1) (by decide) dL_isTeam_139 ?_
                  refine V_goto X (tgt := 144) (by decide) dL_isTeam_140 ?_
                  exact hj144 _ ((by show _ = bI (wyB (kkF (la 2) (nI x) 18 0) (kkF (la 2) (nI x) 18 1) (kkF (la 2) (nI x) 18 2) i || _); rw [bI_ne0 hc82]; rfl))
                · refine V_iload X rfl dL_isTeam_85 ?_
                  refine V_iload X rfl dL_isTeam_87 ?_
                  refine V_icmp_eq X (tgt := 143) (by decide) dL_isTeam_89 (fun hc89 => ?_) (fun hc89 => ?_)
                  · refine V_iconst X (v := 0) (by decide) dL_isTeam_143 ?_
                    exact hj144 _ ((by show _ = bI (wyB (kkF (la 2) (nI x) 18 0) (kkF (la 2) (nI x) 18 1) (kkF (la 2) (nI x) 18 2) i || wyC (kkF (la 2) (nI x) 18 0) (kkF (la 2) (nI x) 18 1) (kkF (la 2) (nI x) 18 2) i); rw [bI_eq0 hc82]; unfold wyC; rw [decide_eq_false (fun q9 => q9 hc89)]; rfl))
                  · refine V_iload X rfl dL_isTeam_92 ?_
                    refine V_iload X rfl dL_isTeam_94 ?_
                    refine V_icmp_eq X (tgt := 143) (by decide) dL_isTeam_96 (fun hc96 => ?_) (fun hc96 => ?_)
                    · refine V_iconst X (v := 0) (by decide) dL_isTeam_143 ?_
                      exact hj144 _ ((by show _ = bI (wyB (kkF (la 2) (nI x) 18 0) (kkF (la 2) (nI x) 18 1) (kkF (la 2) (nI x) 18 2) i || wyC (kkF (la 2) (nI x) 18 0) (kkF (la 2) (nI x) 18 1) (kkF (la 2) (nI x) 18 2) i); rw [bI_eq0 hc82]; unfold wyC; rw [decide_eq_true hc89, decide_eq_false (fun q9 => q9 hc96)]; rfl))
                    · refine V_iload X rfl dL_isTeam_99 ?_
                      refine V_iload X rfl dL_isTeam_101 ?_
                      refine V_icmp_eq X (tgt := 143) (by decide) dL_isTeam_103 (fun hc103 => ?_) (fun hc103 => ?_)
                      · refine V_iconst X (v := 0) (by decide) dL_isTeam_143 ?_
                        exact hj144 _ ((by show _ = bI (wyB (kkF (la 2) (nI x) 18 0) (kkF (la 2) (nI x) 18 1) (kkF (la 2) (nI x) 18 2) i || wyC (kkF (la 2) (nI x) 18 0) (kkF (la 2) (nI x) 18 1) (kkF (la 2) (nI x) 18 2) i); rw [bI_eq0 hc82]; unfold wyC; rw [decide_eq_true hc89, decide_eq_true hc96, decide_eq_false (fun q9 => q9 hc103)]; rfl))
                      · refine V_aload_n X rfl dL_isTeam_106 ?_
                        refine V_iconst X (v := 0) (by decide) dL_isTeam_107 ?_
                        refine V_tld X hT (0) (by omega) (by decide) (rfl) dL_isTeam_108 ?_
                        refine V_iload X rfl dL_isTeam_109 ?_
                        refine V_callSp X (rest := _) (c_L_has _ _ _ _ _) gL_isTeam_L_has rfl hds_L_has (Nat.le_of_ble_eq_true rfl) (Nat.le_of_ble_eq_true rfl) rfl (Nat.le_of_ble_eq_true rfl) dL_isTeam_111 ?_
                        refine V_if_eq X (tgt := 143) (by decide) dL_isTeam_114 (fun hc114 => ?_) (fun hc114 => ?_)
                        · refine V_iconst X (v := 0) (by decide) dL_isTeam_143 ?_
                          exact hj144 _ ((by show _ = bI (wyB (kkF (la 2) (nI x) 18 0) (kkF (la 2) (nI x) 18 1) (kkF (la 2) (nI x) 18 2) i || wyC (kkF (la 2) (nI x) 18 0) (kkF (la 2) (nI x) 18 1) (kkF (la 2) (nI x) 18 2) i); rw [bI_eq0 hc82]; unfold wyC; rw [decide_eq_true hc89, decide_eq_true hc96, decide_eq_true hc103, bI_eq0 hc114]; rfl))
                        · refine V_aload_n X rfl dL_isTeam_117 ?_
                          refine V_iconst X (v := 1) (by decide) dL_isTeam_118 ?_
                          refine V_tld X hT (1) (by omega) (by decide) (rfl) dL_isTeam_119 ?_
                          refine V_iload X rfl dL_isTeam_120 ?_
                          refine V_callSp X (rest := _) (c_L_has _ _ _ _ _) gL_isTeam_L_has rfl hds_L_has (Nat.le_of_ble_eq_true rfl) (Nat.le_of_ble_eq_true rfl) rfl (Nat.le_of_ble_eq_true rfl) dL_isTeam_122 ?_
                          refine V_if_eq X (tgt := 143) (by decide) dL_isTeam_125 (fun hc125 => ?_) (fun hc125 => ?_)
                          · refine V_iconst X (v := 0) (by decide) dL_isTeam_143 ?_
                            exact hj144 _ ((by show _ = bI (wyB (kkF (la 2) (nI x) 18 0) (kkF (la 2) (nI x) 18 1) (kkF (la 2) (nI x) 18 2) i || wyC (kkF (la 2) (nI x) 18 0) (kkF (la 2) (nI x) 18 1) (kkF (la 2) (nI x) 18 2) i); rw [bI_eq0 hc82]; unfold wyC; rw [decide_eq_true hc89, decide_eq_true hc96, decide_eq_true hc103, bI_ne0 hc114, bI_eq0 hc125]; rfl))
                          · refine V_aload_n X rfl dL_isTeam_128 ?_
                            refine V_iconst X (v := 2) (by decide) dL_isTeam_129 ?_
                            refine V_tld X hT (2) (by omega) (by decide) (rfl) dL_isTeam_130 ?_
                            refine V_iload X rfl dL_isTeam_131 ?_
                            refine V_callSp X (rest := _) (c_L_has _ _ _ _ _) gL_isTeam_L_has rfl hds_L_has (Nat.le_of_ble_eq_true rfl) (Nat.le_of_ble_eq_true rfl) rfl (Nat.le_of_ble_eq_true rfl) dL_isTeam_133 ?_
                            refine V_if_eq X (tgt := 143) (by decide) dL_isTeam_136 (fun hc136 => ?_) (fun hc136 => ?_)
                            · refine V_iconst X (v := 0) (by decide) dL_isTeam_143 ?_
                              exact hj144 _ ((by show _ = bI (wyB (kkF (la 2) (nI x) 18 0) (kkF (la 2) (nI x) 18 1) (kkF (la 2) (nI x) 18 2) i || wyC (kkF (la 2) (nI x) 18 0) (kkF (la 2) (nI x) 18 1) (kkF (la 2) (nI x) 18 2) i); rw [bI_eq0 hc82]; unfold wyC; rw [decide_eq_true hc89, decide_eq_true hc96, decide_eq_true hc103, bI_ne0 hc114, bI_ne0 hc125, bI_eq0 hc136]; rfl))
                            · refine V_iconst X (v := 1) (by decide) dL_isTeam_139 ?_
                              refine V_goto X (tgt := 144) (by decide) dL_isTeam_140 ?_
                              exact hj144 _ ((by show _ = bI (wyB (kkF (la 2) (nI x) 18 0) (kkF (la 2) (nI x) 18 1) (kkF (la 2) (nI x) 18 2) i || wyC (kkF (la 2) (nI x) 18 0) (kkF (la 2) (nI x) 18 1) (kkF (la 2) (nI x) 18 2) i); rw [bI_eq0 hc82]; unfold wyC; rw [decide_eq_true hc89, decide_eq_true hc96, decide_eq_true hc103, bI_ne0 hc114, bI_ne0 hc125, bI_ne0 hc136]; rfl))
        refine V_iconst X (v := 0) (by decide) dL_isTeam_46 ?_
        refine V_istore X (lv' := [(4, _), (0, _), (1, _), (2, _), (3, _)]) (by decide) rfl dL_isTeam_47 ?_
        refine V_iconst X (v := 0) (by decide) dL_isTeam_49 ?_
        refine V_istore X (lv' := [(5, _), (4, _), (0, _), (1, _), (2, _), (3, _)]) (by decide) rfl dL_isTeam_50 ?_
        refine V.lvs (lv' := [(0, _), (1, _), (2, _), (3, _), (4, _), (5, _)]) rfl ?_
        exact L2 _ 0 rfl (Nat.zero_le _)
      · have hlt := lim_lt (N := 18) rfl hc13 hi (by omega)
        refine V_iload_n X rfl dL_isTeam_16 ?_
        refine V_iload X rfl dL_isTeam_17 ?_
        refine V_callSp X (rest := _) (c_L_has _ _ _ _ _) gL_isTeam_L_has rfl hds_L_has (Nat.le_of_ble_eq_true rfl) (Nat.le_of_ble_eq_true rfl) rfl (Nat.le_of_ble_eq_true rfl) dL_isTeam_19 ?_
        refine V_if_eq X (tgt := 40) (by decide) dL_isTeam_22 (fun hc22 => ?_) (fun hc22 => ?_)
        · refine V_iinc X (lv' := [(4, _), (0, _), (1, _), (2, _), (3, _)]) (v := nI (i + 1)) rfl (nI_1 _) (by decide) rfl dL_isTeam_40 ?_
          refine V_goto X (tgt := 9) (by decide) dL_isTeam_43 ?_
          refine V.lvs (lv' := [(0, _), (1, _), (2, _), (3, _), (4, _)]) rfl ?_
          rw [kk_f (bI_eq0 hc22)] at hT
          rw [← JQ_f (s := nI x) (i := i) (bI_eq0 hc22)]
          exact ih (18 - (i + 1)) (by omega) (i + 1) rfl (by omega) f1 hN hT
        · refine V_iload_n X rfl dL_isTeam_25 ?_
          refine V_iconst X (v := 3) (by decide) dL_isTeam_26 ?_
          refine V_icmp_ge X (tgt := 40) (by decide) dL_isTeam_27 (fun hc27 => ?_) (fun hc27 => ?_)
          · refine V_iinc X (lv' := [(4, _), (0, _), (1, _), (2, _), (3, _)]) (v := nI (i + 1)) rfl (nI_1 _) (by decide) rfl dL_isTeam_40 ?_
            refine V_goto X (tgt := 9) (by decide) dL_isTeam_43 ?_
            have h3 : 3 ≤ (JQ (nI x) i).length := by have := (nI_leI (a := 3) (by decide) (by omega)).mp hc27; omega
            refine V.lvs (lv' := [(0, _), (1, _), (2, _), (3, _), (4, _)]) rfl ?_
            rw [kk_n (bI_ne0 hc22) h3] at hT
            rw [show min (JQ (nI x) i).length 3 = min (JQ (nI x) (i + 1)).length 3 by rw [JQ_t (bI_ne0 hc22), List.length_append, List.length_singleton]; omega]
            exact ih (18 - (i + 1)) (by omega) (i + 1) rfl (by omega) f1 hN hT
          · have h3 : (JQ (nI x) i).length < 3 := by have := mt (nI_leI (a := 3) (b := min (JQ (nI x) i).length 3) (by decide) (by omega)).mpr hc27; omega
            have hmn : min (JQ (nI x) i).length 3 = (JQ (nI x) i).length := by omega
            refine V_aload_n X rfl dL_isTeam_30 ?_
            refine V_iload_n X rfl dL_isTeam_31 ?_
            refine V_aload_n X rfl dL_isTeam_32 ?_
            refine V_iload X rfl dL_isTeam_33 ?_
            refine V_ald X hA 2 (i) 18 (by decide) rfl (by omega) (rfl) dL_isTeam_35 ?_
            refine V_tst X hT (by decide) ((min (JQ (nI x) i).length 3)) (by omega) (by decide) dL_isTeam_36 (fun f9 hf9 => ?_)
            have hT2 : f9 q = some ((43, 0), oI (kG K) 3 (va_up (kkF (la 2) (nI x) i) (min (JQ (nI x) i).length 3) (la 2 i))) := by rw [hf9]; exact w_up_self _ _ _ _
            rw [hmn, kk_t (bI_ne0 hc22) h3] at hT2
            have hN2 : FrN f f9 := by rw [hf9]; exact hN.st hq _ _
            refine V_iinc X (lv' := [(3, _), (0, _), (1, _), (2, _), (4, _)]) (v := nI (min (JQ (nI x) (i + 1)).length 3)) rfl ((nI_1 _).trans (by rw [JQ_t (bI_ne0 hc22), List.length_append, List.length_singleton]; congr 1; omega)) (by decide) rfl dL_isTeam_37 ?_
            refine V_iinc X (lv' := [(4, _), (3, _), (0, _), (1, _), (2, _)]) (v := nI (i + 1)) rfl (nI_1 _) (by decide) rfl dL_isTeam_40 ?_
            refine V_goto X (tgt := 9) (by decide) dL_isTeam_43 ?_
            refine V.lvs (lv' := [(0, _), (1, _), (2, _), (3, _), (4, _)]) rfl ?_
            exact ih (18 - (i + 1)) (by omega) (i + 1) rfl (by omega) f9 hN2 hT2
  refine V_astore_n X (lv' := [(2, _), (0, _), (1, _)]) (by decide) rfl dL_isTeam_3 ?_
  refine V_iconst X (v := 0) (by decide) dL_isTeam_4 ?_
  refine V_istore_n X (lv' := [(3, _), (2, _), (0, _), (1, _)]) (by decide) rfl dL_isTeam_5 ?_
  refine V_iconst X (v := 0) (by decide) dL_isTeam_6 ?_
  refine V_istore X (lv' := [(4, _), (3, _), (2, _), (0, _), (1, _)]) (by decide) rfl dL_isTeam_7 ?_
  refine V.lvs (lv' := [(0, _), (1, _), (2, _), (3, _), (4, _)]) rfl ?_
  exact L _ 0 rfl (Nat.zero_le _) f1 hN hT
