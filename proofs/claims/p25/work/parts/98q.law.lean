/-! ===== the law: makes ===== -/
set_option maxHeartbeats 4000000 in
set_option maxRecDepth 100000 in
theorem c_L_makes (l : Launch) (G : GG) (f : Wo) (al : Tg → Nat) (fi : Nat → Nat → Int32) (z : CZ) (hR : RC G al fi z f) (A : Nat → Nat) (lq : Nat → Int64) (la : Nat → Nat → Int32) (hA : LA G A lq la f) (c : Nat) (sc : Nat → Int32) (ar : Nat → Nat → Int32) (hS : SM c fi z sc ar) (hB : BR ar) (P S Q M : Nat → Nat) (hI : IV c (zN z 0) (zN z 1) (zN z 2) ar lq la P S Q M) (hn30 : zN z 2 < 30) (h4 : la 4 (zN z 2) = 0) (h5 : la 5 (zN z 2) = nI c) : Ct l yL_makes wsL_makes 29 668 G [.ref (al (15, 0)), .ref (A 0), .ref (A 1), .ref (A 2), .ref (A 6)] f (fun r f' => r = some (.int 1) ∧ ∃ nm', nm' ≤ zN z 2 + 1 ∧ LW G A (al (15, 0)) f' c (zN z 0) (zN z 1) nm') 477 9550 := by
  refine Ct.of (cc := cL_makes) (maxL := 10) (ret := (some .boolean)) (by decide) rfl (Nat.le_of_ble_eq_true rfl) (lv := [(0, _), (1, _), (2, _), (3, _), (4, _)]) rfl (by simp [Value.category]) ?_
  intro K X hL hG hr hnm
  subst hL; subst hG
  have h18 := hI.np
  have h60 := hI.nt
  have h2k := hI.cc
  have T1 : V K f 477 9550 48 [(0, .ref (al (15, 0))), (1, .ref (A 0)), (2, .ref (A 1)), (3, .ref (A 2)), (4, .ref (A 6)), (5, .int (nI (wqN P Q (zN z 1))))] [] := by
    refine V_aload_n X rfl dL_makes_48 ?_
    refine V_callV (kc' := 130) (ks' := 390) X (rest := _) (c_X5_make _ _ _ al fi z hR hS.dh hS.2.2.2.2.2.2.2.2.2 hS.2.2.2.2.2.2.2.2.1 hS.nm (by rw [← q_Q_len]; exact hS.Q18)) (hR.2.1 (15, 0) dm15) rfl gL_makes_X5_make rfl hdv_X5_make (Nat.le_of_ble_eq_true rfl) (Nat.le_of_ble_eq_true rfl) rfl (Nat.le_of_ble_eq_true rfl) (by omega) (by omega) dL_makes_49 (fun r9 f9 h9 => ?_)
    rcases h9 with ⟨hG, rfl, z2, hz2, hcp2, hR, hF⟩ | ⟨hG, rfl, al2, z2, cap, cm, hal, hz2, hcp2, hcap, hR, hF⟩
    · refine V_istore X (lv' := [(6, _), (0, _), (1, _), (2, _), (3, _), (4, _), (5, _)]) (by decide) rfl dL_makes_52 ?_
      refine V_iload X rfl dL_makes_54 ?_
      refine V_iconst X (v := (-1)) (by decide) dL_makes_56 ?_
      refine V_icmp_ne X (tgt := 77) (by decide) dL_makes_57 (fun hc57 => absurd hc57 (fun q => q rfl)) (fun hc57 => ?_)
      refine V_aload_n X rfl dL_makes_60 ?_
      have hA := hA.fr hF
      refine V_callVp X (rest := _) (c_X5_matches _ _ _ al _ z2 hR) (hR.2.1 (15, 0) dm15) rfl gL_makes_X5_matches rfl hdv_X5_matches (Nat.le_of_ble_eq_true rfl) (Nat.le_of_ble_eq_true rfl) rfl (Nat.le_of_ble_eq_true rfl) dL_makes_61 ?_
      refine V.top (y := nI (zN z 2)) (by rw [hz2.1]) ?_
      refine V_aload X rfl dL_makes_64 ?_
      refine V_iconst X (v := 3) (by decide) dL_makes_66 ?_
      refine V_ald X hA 6 (3) 4 (by decide) rfl (by omega) (hI.c3) dL_makes_67 ?_
      refine V_icmp_ne X (tgt := 75) (by decide) dL_makes_68 (fun hc68 => absurd hc68 (fun q => q rfl)) (fun hc68 => ?_)
      refine V_iconst X (v := 1) (by decide) dL_makes_71 ?_
      refine V_goto X (tgt := 76) (by decide) dL_makes_72 ?_
      exact V_zret X hr (by decide) (⟨rfl, zN z 2, Nat.le_succ _, al, _, z2, sc, ar, lq, la, P, S, Q, M, rfl, hR, hA, hS.cg (mkG_DQ z _ fi 0) hz2 hcp2 (fun _ _ => rfl) (fun _ _ => rfl), hB, by rw [hz2.1], by rw [hz2.1], by rw [hz2.1], hI⟩) dL_makes_76
    · refine V_istore X (lv' := [(6, _), (0, _), (1, _), (2, _), (3, _), (4, _), (5, _)]) (by decide) rfl dL_makes_52 ?_
      refine V_iload X rfl dL_makes_54 ?_
      refine V_iconst X (v := (-1)) (by decide) dL_makes_56 ?_
      refine V_icmp_ne X (tgt := 77) (by decide) dL_makes_57 (fun hc57 => ?_) (fun hc57 => absurd hc57 (nI_m1 (by omega)))
      obtain ⟨hd, R, p0, eT, hsub, h6, hft, hrel, hok, hmin⟩ := hS.mkF hG
      rw [eT] at hR
      have hA := hA.fr hF
      have hsm := MD.sm (cap := cap) (cm := cm) hS hz2 hcp2 hcap hsub hrel (by omega)
      have hz0 : zN (zM z2 (hd :: R) cap cm) 0 = zN z 0 := (show zN z2 0 = zN z 0 by rw [hz2.1])
      have hz1 : zN (zM z2 (hd :: R) cap cm) 1 = zN z 1 := (show zN z2 1 = zN z 1 by rw [hz2.1])
      have hz29 : zN (zM z2 (hd :: R) cap cm) 2 = zN z 2 + 1 := (show zN z2 2 + 1 = zN z 2 + 1 by rw [hz2.1])
      have hT : ∀ t ∈ (hd :: R), t < zN z 1 ∧ fi 7 t = 1 := fun t ht => q_Q_m.mp (hsub.subset ht)
      have hTd : (hd :: R).Pairwise (q_dj (fi 5)) := hS.Qdj.sublist hsub
      have hTn := (q_Q_nd (fi := fi) (zN z 1)).sublist hsub
      have hAs : (hd :: R.filter p0).Sublist (hd :: R) := List.filter_sublist.cons₂ hd
      have hBs : (R.filter (fun t => !p0 t)).Sublist (hd :: R) := List.filter_sublist.cons hd
      have hTA : ∀ t ∈ (hd :: R.filter p0), t < zN z 1 ∧ fi 7 t = 1 := fun t ht => hT t (hAs.subset ht)
      have hTB : ∀ t ∈ (R.filter (fun t => !p0 t)), t < zN z 1 ∧ fi 7 t = 1 := fun t ht => hT t (hBs.subset ht)
      have hmem : ∀ t, t ∈ (hd :: R) ↔ t ∈ (hd :: R.filter p0) ∨ t ∈ (R.filter (fun t => !p0 t)) := fun t => ⟨fun q => by
          rcases List.mem_cons.mp q with q | q
          · exact Or.inl (by rw [q]; exact List.mem_cons_self)
          · cases hp : p0 t with
            | true => exact Or.inl (List.mem_cons_of_mem _ (List.mem_filter.mpr ⟨q, hp⟩))
            | false => exact Or.inr (List.mem_filter.mpr ⟨q, by rw [hp]; rfl⟩), fun q => q.elim (fun q => hAs.subset q) (fun q => hBs.subset q)⟩
      have hdis : ∀ t, t ∈ (hd :: R.filter p0) → t ∉ (R.filter (fun t => !p0 t)) := fun t ht q => by
        obtain ⟨q1, q2⟩ := List.mem_filter.mp q
        rcases List.mem_cons.mp ht with h | h
        · exact (List.nodup_cons.mp hTn).1 (by rw [← h]; exact q1)
        · rw [(List.mem_filter.mp h).2] at q2; cases q2
      have hsp : ∀ i, i < zN z 1 → (i ∈ (hd :: R) ∧ fi 7 i = 1) ∨ (i ∉ (hd :: R) ∧ fi 7 i = 1) ∨ (i ∉ (hd :: R) ∧ ¬ fi 7 i = 1) := fun i hi => by
        by_cases h : i ∈ (hd :: R)
        · exact Or.inl ⟨h, (hT i h).2⟩
        · by_cases h7 : fi 7 i = 1
          · exact Or.inr (Or.inl ⟨h, h7⟩)
          · exact Or.inr (Or.inr ⟨h, h7⟩)
      obtain ⟨xa, ha1, ha2, ha3, -, -⟩ := PK.set hS (hTd.sublist hAs) (fun t ht => (hTA t ht).1)
      obtain ⟨xb, hb1, hb2, hb3, -, -⟩ := PK.set hS (hTd.sublist hBs) (fun t ht => (hTB t ht).1)
      obtain ⟨U, hU1, hU2, -, -, -⟩ := PK.set hS hTd (fun t ht => (hT t ht).1)
      have hg : ∀ j b, (j < 15 ∨ 17 < j) → (mkG z (zN z 1) fi 0).2.1 j b = fi j b := fun j b h => hrel.1 j b h
      have hf1 : (nmF (mkG z (zN z 1) fi 0).2.1 (zN z 2) ((mkG z (zN z 1) fi 0).2.1 18 0) (hd :: R)) 1 = fi 1 := funext fun b => hg 1 b (Or.inl (by decide))
      have hf9 : (nmF (mkG z (zN z 1) fi 0).2.1 (zN z 2) ((mkG z (zN z 1) fi 0).2.1 18 0) (hd :: R)) 9 (zN z 2) = q_U (fi 5) (hd :: R.filter p0) := by unfold nmF; rw [fu_ne _ _ (Or.inl (by decide)), fu_ne _ _ (Or.inl (by decide)), fu_ne _ _ (Or.inl (by decide)), fu_ne _ _ (Or.inl (by decide)), fu_ne _ _ (Or.inl (by decide)), fu_self]; exact hrel.2.1
      have hf10 : (nmF (mkG z (zN z 1) fi 0).2.1 (zN z 2) ((mkG z (zN z 1) fi 0).2.1 18 0) (hd :: R)) 10 (zN z 2) = q_U (fi 5) (R.filter (fun t => !p0 t)) := by unfold nmF; rw [fu_ne _ _ (Or.inl (by decide)), fu_ne _ _ (Or.inl (by decide)), fu_ne _ _ (Or.inl (by decide)), fu_ne _ _ (Or.inl (by decide)), fu_self]; exact hrel.2.2.1
      have hf11 : (nmF (mkG z (zN z 1) fi 0).2.1 (zN z 2) ((mkG z (zN z 1) fi 0).2.1 18 0) (hd :: R)) 11 (zN z 2) = (q_far fi z (hd :: R.filter p0) (R.filter (fun t => !p0 t))) := by unfold nmF; rw [fu_ne _ _ (Or.inl (by decide)), fu_ne _ _ (Or.inl (by decide)), fu_ne _ _ (Or.inl (by decide)), fu_self]; exact hrel.2.2.2
      have hwq : 6 ≤ wqN P Q (zN z 1) := by rw [MD.wq hS hI _ (Nat.le_refl _), ← h6]; exact q_sN_sub hsub
      have hwl := wqN_le P Q (zN z 1)
      refine V_iload X rfl dL_makes_77 ?_
      refine V_bipush X (v := 6) (by decide) dL_makes_79 ?_
      refine V_icmp_lt X (tgt := 110) (by decide) dL_makes_81 (fun hc81 => absurd hc81 (Int32.not_lt.mpr (nI_le (a := 6) hwq (by omega)))) (fun hc81 => ?_)
      refine V_iload X rfl dL_makes_84 ?_
      refine V_aload X rfl dL_makes_86 ?_
      refine V_iconst X (v := 3) (by decide) dL_makes_88 ?_
      refine V_ald X hA 6 (3) 4 (by decide) rfl (by omega) (hI.c3) dL_makes_89 ?_
      refine V_icmp_ne X (tgt := 110) (by decide) dL_makes_90 (fun hc90 => absurd hc90 (fun q => q rfl)) (fun hc90 => ?_)
      refine V_aload_n X rfl dL_makes_93 ?_
      refine V_aload_n X rfl dL_makes_94 ?_
      refine V_aload_n X rfl dL_makes_95 ?_
      refine V_aload X rfl dL_makes_96 ?_
      refine V_iload X rfl dL_makes_98 ?_
      rw [← hal]
      refine V_callS (kc' := 0) (ks' := 0) X (rest := _) (c_L_isMatch _ _ _ al2 (nmF (mkG z (zN z 1) fi 0).2.1 (zN z 2) ((mkG z (zN z 1) fi 0).2.1 18 0) (hd :: R)) (zM z2 (hd :: R) cap cm) hR A lq la hA c fi z sc ar hS P S Q M hI hz0 hf1 (zN z 2) (by rw [hz29]; omega) hd R p0 hsub h6 hft hok hmin hf9 hf10 hf11) gL_makes_L_isMatch rfl hds_L_isMatch (Nat.le_of_ble_eq_true rfl) (Nat.le_of_ble_eq_true rfl) rfl (Nat.le_of_ble_eq_true rfl) (by omega) (by omega) dL_makes_100 (fun r9 f9 h9 => ?_)
      obtain ⟨rfl, hN9⟩ := h9
      have hR := hR.keepA hN9.a
      have hA := hA.fr hN9.c
      refine V.top (y := 1) (rfl) ?_
      refine V_if_eq X (tgt := 110) (by decide) dL_makes_103 (fun hc103 => absurd hc103 (by decide)) (fun hc103 => ?_)
      refine V_iconst X (v := 1) (by decide) dL_makes_106 ?_
      refine V_goto X (tgt := 111) (by decide) dL_makes_107 ?_
      refine V_istore X (lv' := [(7, _), (6, _), (0, _), (1, _), (2, _), (3, _), (4, _), (5, _)]) (by decide) rfl dL_makes_111 ?_
      have T6 : ∀ f2 : Wo, LA (kG K) A (mixF (zN z 1) (mdQ (zN z 2) (hd :: R) P S lq) lq) la f2 → FrA f9 f2 → V K f2 0 0 197 [(0, .ref (al2 (15, 0))), (1, .ref (A 0)), (2, .ref (A 1)), (3, .ref (A 2)), (4, .ref (A 6)), (5, .int (nI (wqN P Q (zN z 1)))), (6, .int (nI (zN z 2))), (7, .int 1), (8, .int (nI U)), (9, .int (nI (zN z 1)))] [] := by
        intro f2 hA hF
        refine V_aload_n X rfl dL_makes_197 ?_
        refine V_aload X rfl dL_makes_198 ?_
        refine V_iconst X (v := 3) (by decide) dL_makes_200 ?_
        refine V_ald X hA 6 (3) 4 (by decide) rfl (by omega) (hI.c3) dL_makes_201 ?_
        refine V_iload X rfl dL_makes_202 ?_
        refine V_ast X hA 1 ((zN z 2)) 31 (by decide) rfl (by omega) dL_makes_204 (fun f hA hFA => ?_)
        have hF1 := hFA
        refine V_aload X rfl dL_makes_205 ?_
        refine V_iconst X (v := 3) (by decide) dL_makes_207 ?_
        refine V_dup2 X rfl rfl dL_makes_208 ?_
        refine V_ald X hA 6 (3) 4 (by decide) rfl (by omega) ((fu_ne _ _ (Or.inl (by decide))).trans hI.c3) dL_makes_209 ?_
        refine V_iconst X (v := 1) (by decide) dL_makes_210 ?_
        refine V_iadd X dL_makes_211 ?_
        refine V.top (y := nI (zN z 2 + 1)) (nI_1 _) ?_
        refine V_ast X hA 6 (3) 4 (by decide) rfl (by omega) dL_makes_212 (fun f hA hFA => ?_)
        have hF2 := hFA
        refine V_iload X rfl dL_makes_213 ?_
        exact V_zret X hr (by decide) (⟨rfl, zN z 2 + 1, Nat.le_refl _, al2, _, _, _, mdA (zN z 0) (zN z 2) (hd :: R) (hd :: R.filter p0) (R.filter (fun t => !p0 t)) (q_far fi z (hd :: R.filter p0) (R.filter (fun t => !p0 t))) (nI c) (fi 5) ar, _, _, P, S, _, _, hal, ((hR.keepA hF).keepA hF1).keepA hF2, hA, hsm, hB.same rfl rfl, hz0, hz1, hz29, hI.made hn30 hU1 (by rw [← ha2, ← hb2, ← hU2]; exact PK.or hmem) (by rw [← ha2, ← hb2]; exact MD.dj hS hTA hTB hdis) ha3 hb3 h4 h5 (fun _ => rfl) (fun _ => rfl) (by rw [← ha2, ← hb2]; rfl) rfl rfl rfl (fun j j9 j5 => mdA_o _ _ _ _ _ _ _ _ _ j5 (by omega) (by omega) (by omega) (by omega) (by omega) (by omega) (by omega))⟩) dL_makes_215
      have L2 : ∀ (n i : Nat), zN z 1 - i = n → i ≤ zN z 1 → ∀ f2 : Wo, LA (kG K) A (mixF i (mdQ (zN z 2) (hd :: R) P S lq) lq) la f2 → FrA f9 f2 → V K f2 0 0 133 [(0, .ref (al2 (15, 0))), (1, .ref (A 0)), (2, .ref (A 1)), (3, .ref (A 2)), (4, .ref (A 6)), (5, .int (nI (wqN P Q (zN z 1)))), (6, .int (nI (zN z 2))), (7, .int 1), (8, .int (nI U)), (9, .int (nI i))] [] := by
        intro n
        induction n using Nat.strongRecOn with
        | ind n ih =>
          intro i hn hi f2 hA hF
          refine V_iload X rfl dL_makes_133 ?_
          refine V_aload X rfl dL_makes_135 ?_
          refine V_iconst X (v := 2) (by decide) dL_makes_137 ?_
          refine V_ald X hA 6 (2) 4 (by decide) rfl (by omega) (hI.c2) dL_makes_138 ?_
          refine V_icmp_ge X (tgt := 197) (by decide) dL_makes_139 (fun hc139 => ?_) (fun hc139 => ?_)
          · have hiN := lim_ge (N := zN z 1) rfl hc139 hi (by omega)
            rw [hiN] at hA
            rw [hiN]
            refine V.lvs (lv' := [(0, _), (1, _), (2, _), (3, _), (4, _), (5, _), (6, _), (7, _), (8, _), (9, _)]) rfl ?_
            exact T6 _ hA hF
          · have hlt := lim_lt (N := zN z 1) rfl hc139 hi (by omega)
            have hcs := hsp i hlt
            have hok9 := hI.ok hlt
            have hqi := hI.q hlt
            have hqi2 : mixF i (mdQ (zN z 2) (hd :: R) P S lq) lq i = lN (eN (P i) (S i) (Q i) (M i)) := (mixF_i _ _ _).trans hqi
            rcases hcs with ⟨hin, h7⟩ | ⟨hout, h7⟩ | ⟨hout, h7⟩
            · refine V_aload_n X rfl dL_makes_142 ?_
              refine V_iload X rfl dL_makes_143 ?_
              refine V_aload_n X rfl dL_makes_145 ?_
              refine V_iload X rfl dL_makes_146 ?_
              refine V_callSp X (rest := _) (c_L_queues _ _ _ A _ _ hA i (by omega) (P i) (S i) (Q i) (M i) hok9 hqi2) gL_makes_L_queues rfl hds_L_queues (Nat.le_of_ble_eq_true rfl) (Nat.le_of_ble_eq_true rfl) rfl (Nat.le_of_ble_eq_true rfl) dL_makes_148 ?_
              refine V.top (y := 1) (by rw [decide_eq_true ((SI.q1 hS hI hlt).mpr h7)]; rfl) ?_
              refine V_if_eq X (tgt := 186) (by decide) dL_makes_151 (fun hc151 => absurd hc151 (by decide)) (fun hc151 => ?_)
              refine V_aload_n X rfl dL_makes_154 ?_
              refine V_iload X rfl dL_makes_155 ?_
              refine V_callSp X (rest := _) (c_L_players _ _ _ A _ _ hA i (by omega) (P i) (S i) (Q i) (M i) hok9 hqi2) gL_makes_L_players rfl hds_L_players (Nat.le_of_ble_eq_true rfl) (Nat.le_of_ble_eq_true rfl) rfl (Nat.le_of_ble_eq_true rfl) dL_makes_157 ?_
              refine V_iload X rfl dL_makes_160 ?_
              refine V_iand X dL_makes_162 ?_
              refine V_if_eq X (tgt := 186) (by decide) dL_makes_163 (fun hc163 => absurd hc163 (fun q => (PK.in hS hI hT hlt h7).mp (by rw [hU2]; exact q) hin)) (fun hc163 => ?_)
              refine V_aload_n X rfl dL_makes_166 ?_
              refine V_iload X rfl dL_makes_167 ?_
              refine V_qld X hA (i) (by omega) (hqi2) dL_makes_169 ?_
              refine V_ldc2 X (v := (-1099511627777)) (by decide +kernel) dL_makes_170 ?_
              refine V_land X dL_makes_173 ?_
              refine V.topl (y := lN (eN (P i) (S i) 0 0)) ((j_clr hok9).trans (by rw [MD.m0 hS hI hlt (by rw [h7]; decide)])) ?_
              refine V_iload X rfl dL_makes_174 ?_
              refine V_iconst X (v := 1) (by decide) dL_makes_176 ?_
              refine V_iadd X dL_makes_177 ?_
              refine V.top (y := nI (zN z 2 + 1)) (nI_1 _) ?_
              refine V_i2l X dL_makes_178 ?_
              refine V.topl (y := lN (zN z 2 + 1)) (nI_l (by omega)) ?_
              refine V_bipush X (v := 41) (by decide) dL_makes_179 ?_
              refine V_lshl X dL_makes_181 ?_
              refine V_lor X dL_makes_182 ?_
              refine V.topl (y := lN (eN (P i) (S i) 0 (zN z 2 + 1))) (j_or41 hok9.1 hok9.2.1 (by omega)) ?_
              refine V_goto X (tgt := 190) (by decide) dL_makes_183 ?_
              refine V_qst X hA (i) (by omega) dL_makes_190 (fun f hA hFA => ?_)
              refine V_iinc X (lv' := [(9, _), (0, _), (1, _), (2, _), (3, _), (4, _), (5, _), (6, _), (7, _), (8, _)]) (v := nI (i + 1)) rfl (nI_1 _) (by decide) rfl dL_makes_191 ?_
              refine V_goto X (tgt := 133) (by decide) dL_makes_194 ?_
              refine V.lvs (lv' := [(0, _), (1, _), (2, _), (3, _), (4, _), (5, _), (6, _), (7, _), (8, _), (9, _)]) rfl ?_
              rw [mixF_up (show _ = mdQ (zN z 2) (hd :: R) P S lq i from (if_pos hin).symm)] at hA
              exact ih (zN z 1 - (i + 1)) (by omega) (i + 1) rfl (by omega) f hA (hF.trans hFA)
            · refine V_aload_n X rfl dL_makes_142 ?_
              refine V_iload X rfl dL_makes_143 ?_
              refine V_aload_n X rfl dL_makes_145 ?_
              refine V_iload X rfl dL_makes_146 ?_
              refine V_callSp X (rest := _) (c_L_queues _ _ _ A _ _ hA i (by omega) (P i) (S i) (Q i) (M i) hok9 hqi2) gL_makes_L_queues rfl hds_L_queues (Nat.le_of_ble_eq_true rfl) (Nat.le_of_ble_eq_true rfl) rfl (Nat.le_of_ble_eq_true rfl) dL_makes_148 ?_
              refine V.top (y := 1) (by rw [decide_eq_true ((SI.q1 hS hI hlt).mpr h7)]; rfl) ?_
              refine V_if_eq X (tgt := 186) (by decide) dL_makes_151 (fun hc151 => absurd hc151 (by decide)) (fun hc151 => ?_)
              refine V_aload_n X rfl dL_makes_154 ?_
              refine V_iload X rfl dL_makes_155 ?_
              refine V_callSp X (rest := _) (c_L_players _ _ _ A _ _ hA i (by omega) (P i) (S i) (Q i) (M i) hok9 hqi2) gL_makes_L_players rfl hds_L_players (Nat.le_of_ble_eq_true rfl) (Nat.le_of_ble_eq_true rfl) rfl (Nat.le_of_ble_eq_true rfl) dL_makes_157 ?_
              refine V_iload X rfl dL_makes_160 ?_
              refine V_iand X dL_makes_162 ?_
              refine V_if_eq X (tgt := 186) (by decide) dL_makes_163 (fun hc163 => ?_) (fun hc163 => absurd hc163 (not_not_intro (by rw [← hU2]; exact (PK.in hS hI hT hlt h7).mpr hout)))
              refine V_aload_n X rfl dL_makes_186 ?_
              refine V_iload X rfl dL_makes_187 ?_
              refine V_qld X hA (i) (by omega) (hqi2) dL_makes_189 ?_
              refine V_qst X hA (i) (by omega) dL_makes_190 (fun f hA hFA => ?_)
              refine V_iinc X (lv' := [(9, _), (0, _), (1, _), (2, _), (3, _), (4, _), (5, _), (6, _), (7, _), (8, _)]) (v := nI (i + 1)) rfl (nI_1 _) (by decide) rfl dL_makes_191 ?_
              refine V_goto X (tgt := 133) (by decide) dL_makes_194 ?_
              refine V.lvs (lv' := [(0, _), (1, _), (2, _), (3, _), (4, _), (5, _), (6, _), (7, _), (8, _), (9, _)]) rfl ?_
              rw [mixF_up (show _ = mdQ (zN z 2) (hd :: R) P S lq i from hqi.symm.trans (if_neg hout).symm)] at hA
              exact ih (zN z 1 - (i + 1)) (by omega) (i + 1) rfl (by omega) f hA (hF.trans hFA)
            · refine V_aload_n X rfl dL_makes_142 ?_
              refine V_iload X rfl dL_makes_143 ?_
              refine V_aload_n X rfl dL_makes_145 ?_
              refine V_iload X rfl dL_makes_146 ?_
              refine V_callSp X (rest := _) (c_L_queues _ _ _ A _ _ hA i (by omega) (P i) (S i) (Q i) (M i) hok9 hqi2) gL_makes_L_queues rfl hds_L_queues (Nat.le_of_ble_eq_true rfl) (Nat.le_of_ble_eq_true rfl) rfl (Nat.le_of_ble_eq_true rfl) dL_makes_148 ?_
              refine V.top (y := 0) (by rw [decide_eq_false (fun q => h7 ((SI.q1 hS hI hlt).mp q))]; rfl) ?_
              refine V_if_eq X (tgt := 186) (by decide) dL_makes_151 (fun hc151 => ?_) (fun hc151 => absurd hc151 (by decide))
              refine V_aload_n X rfl dL_makes_186 ?_
              refine V_iload X rfl dL_makes_187 ?_
              refine V_qld X hA (i) (by omega) (hqi2) dL_makes_189 ?_
              refine V_qst X hA (i) (by omega) dL_makes_190 (fun f hA hFA => ?_)
              refine V_iinc X (lv' := [(9, _), (0, _), (1, _), (2, _), (3, _), (4, _), (5, _), (6, _), (7, _), (8, _)]) (v := nI (i + 1)) rfl (nI_1 _) (by decide) rfl dL_makes_191 ?_
              refine V_goto X (tgt := 133) (by decide) dL_makes_194 ?_
              refine V.lvs (lv' := [(0, _), (1, _), (2, _), (3, _), (4, _), (5, _), (6, _), (7, _), (8, _), (9, _)]) rfl ?_
              rw [mixF_up (show _ = mdQ (zN z 2) (hd :: R) P S lq i from hqi.symm.trans (if_neg hout).symm)] at hA
              exact ih (zN z 1 - (i + 1)) (by omega) (i + 1) rfl (by omega) f hA (hF.trans hFA)
      refine V_aload_n X rfl dL_makes_113 ?_
      refine V_iload X rfl dL_makes_114 ?_
      refine V_iconst X (v := 0) (by decide) dL_makes_116 ?_
      refine V_callVp X (rest := _) (c_X5_team_t _ _ _ al2 (nmF (mkG z (zN z 1) fi 0).2.1 (zN z 2) ((mkG z (zN z 1) fi 0).2.1 18 0) (hd :: R)) (zM z2 (hd :: R) cap cm) hR (zN z 2) (by rw [hz29]; omega) 0 (Or.inl rfl)) (hR.2.1 (15, 0) dm15) rfl gL_makes_X5_team rfl hdv_X5_team (Nat.le_of_ble_eq_true rfl) (Nat.le_of_ble_eq_true rfl) rfl (Nat.le_of_ble_eq_true rfl) dL_makes_117 ?_
      refine V.top (y := nI xa) ((if_pos rfl).trans (hf9.trans ha2)) ?_
      refine V_aload_n X rfl dL_makes_120 ?_
      refine V_iload X rfl dL_makes_121 ?_
      refine V_iconst X (v := 1) (by decide) dL_makes_123 ?_
      refine V_callVp X (rest := _) (c_X5_team_t _ _ _ al2 (nmF (mkG z (zN z 1) fi 0).2.1 (zN z 2) ((mkG z (zN z 1) fi 0).2.1 18 0) (hd :: R)) (zM z2 (hd :: R) cap cm) hR (zN z 2) (by rw [hz29]; omega) 1 (Or.inr rfl)) (hR.2.1 (15, 0) dm15) rfl gL_makes_X5_team rfl hdv_X5_team (Nat.le_of_ble_eq_true rfl) (Nat.le_of_ble_eq_true rfl) rfl (Nat.le_of_ble_eq_true rfl) dL_makes_124 ?_
      refine V.top (y := nI xb) ((if_neg (by decide)).trans (hf10.trans hb2)) ?_
      refine V_ior X dL_makes_127 ?_
      refine V.top (y := nI U) (by rw [← ha2, ← hb2, ← hU2]; exact PK.or hmem) ?_
      refine V_istore X (lv' := [(8, _), (7, _), (6, _), (0, _), (1, _), (2, _), (3, _), (4, _), (5, _)]) (by decide) rfl dL_makes_128 ?_
      refine V_iconst X (v := 0) (by decide) dL_makes_130 ?_
      refine V_istore X (lv' := [(9, _), (8, _), (7, _), (6, _), (0, _), (1, _), (2, _), (3, _), (4, _), (5, _)]) (by decide) rfl dL_makes_131 ?_
      refine V.lvs (lv' := [(0, _), (1, _), (2, _), (3, _), (4, _), (5, _), (6, _), (7, _), (8, _), (9, _)]) rfl ?_
      refine V.bud (Nat.zero_le _) (Nat.zero_le _) ?_
      exact L2 _ 0 rfl (Nat.zero_le _) _ (by rw [mixF_0]; exact hA) FrA.rf
  have L1 : ∀ (n i : Nat), zN z 1 - i = n → i ≤ zN z 1 → V K f 477 9550 6 [(0, .ref (al (15, 0))), (1, .ref (A 0)), (2, .ref (A 1)), (3, .ref (A 2)), (4, .ref (A 6)), (5, .int (nI (wqN P Q i))), (6, .int (nI i))] [] := by
    intro n
    induction n using Nat.strongRecOn with
    | ind n ih =>
      intro i hn hi
      refine V_iload X rfl dL_makes_6 ?_
      refine V_aload X rfl dL_makes_8 ?_
      refine V_iconst X (v := 2) (by decide) dL_makes_10 ?_
      refine V_ald X hA 6 (2) 4 (by decide) rfl (by omega) (hI.c2) dL_makes_11 ?_
      refine V_icmp_ge X (tgt := 48) (by decide) dL_makes_12 (fun hc12 => ?_) (fun hc12 => ?_)
      · have hiN := lim_ge (N := zN z 1) rfl hc12 hi (by omega)
        refine V.lvs (lv' := [(0, _), (1, _), (2, _), (3, _), (4, _), (5, _)]) rfl ?_
        rw [hiN]
        exact T1
      · have hlt := lim_lt (N := zN z 1) rfl hc12 hi (by omega)
        by_cases hq : Q i = 1
        · refine V_iload X rfl dL_makes_15 ?_
          refine V_aload_n X rfl dL_makes_17 ?_
          refine V_iload X rfl dL_makes_18 ?_
          refine V_callSp X (rest := _) (c_L_queues _ _ _ A lq _ hA (i) (by have := hI.nt; have := hlt; omega) (P (i)) (S (i)) (Q (i)) (M (i)) (hI.ok hlt) (hI.q hlt)) gL_makes_L_queues rfl hds_L_queues (Nat.le_of_ble_eq_true rfl) (Nat.le_of_ble_eq_true rfl) rfl (Nat.le_of_ble_eq_true rfl) dL_makes_20 ?_
          refine V.top (y := 1) (by rw [decide_eq_true hq]; rfl) ?_
          refine V_if_eq X (tgt := 38) (by decide) dL_makes_23 (fun hc23 => absurd hc23 (by decide)) (fun hc23 => ?_)
          refine V_aload_n X rfl dL_makes_26 ?_
          refine V_iload X rfl dL_makes_27 ?_
          refine V_callSp X (rest := _) (c_L_players _ _ _ A lq _ hA (i) (by have := hI.nt; have := hlt; omega) (P (i)) (S (i)) (Q (i)) (M (i)) (hI.ok hlt) (hI.q hlt)) gL_makes_L_players rfl hds_L_players (Nat.le_of_ble_eq_true rfl) (Nat.le_of_ble_eq_true rfl) rfl (Nat.le_of_ble_eq_true rfl) dL_makes_29 ?_
          refine V_callSp X (rest := _) (c_L_size _ _ _ (P i) (hI.ok hlt).1) gL_makes_L_size rfl hds_L_size (Nat.le_of_ble_eq_true rfl) (Nat.le_of_ble_eq_true rfl) rfl (Nat.le_of_ble_eq_true rfl) dL_makes_32 ?_
          refine V_goto X (tgt := 39) (by decide) dL_makes_35 ?_
          refine V_iadd X dL_makes_39 ?_
          refine V.top (y := nI (wqN P Q (i + 1))) ((nI_add _ _).trans (congrArg nI (show _ = wqN P Q i + _ by rw [if_pos hq]))) ?_
          refine V_istore X (lv' := [(5, _), (0, _), (1, _), (2, _), (3, _), (4, _), (6, _)]) (by decide) rfl dL_makes_40 ?_
          refine V_iinc X (lv' := [(6, _), (5, _), (0, _), (1, _), (2, _), (3, _), (4, _)]) (v := nI (i + 1)) rfl (nI_1 _) (by decide) rfl dL_makes_42 ?_
          refine V_goto X (tgt := 6) (by decide) dL_makes_45 ?_
          refine V.lvs (lv' := [(0, _), (1, _), (2, _), (3, _), (4, _), (5, _), (6, _)]) rfl ?_
          exact ih (zN z 1 - (i + 1)) (by omega) (i + 1) rfl (by omega)
        · refine V_iload X rfl dL_makes_15 ?_
          refine V_aload_n X rfl dL_makes_17 ?_
          refine V_iload X rfl dL_makes_18 ?_
          refine V_callSp X (rest := _) (c_L_queues _ _ _ A lq _ hA (i) (by have := hI.nt; have := hlt; omega) (P (i)) (S (i)) (Q (i)) (M (i)) (hI.ok hlt) (hI.q hlt)) gL_makes_L_queues rfl hds_L_queues (Nat.le_of_ble_eq_true rfl) (Nat.le_of_ble_eq_true rfl) rfl (Nat.le_of_ble_eq_true rfl) dL_makes_20 ?_
          refine V.top (y := 0) (by rw [decide_eq_false hq]; rfl) ?_
          refine V_if_eq X (tgt := 38) (by decide) dL_makes_23 (fun hc23 => ?_) (fun hc23 => absurd hc23 (by decide))
          refine V_iconst X (v := 0) (by decide) dL_makes_38 ?_
          refine V_iadd X dL_makes_39 ?_
          refine V.top (y := nI (wqN P Q (i + 1))) ((Int32.add_zero _).trans (congrArg nI (show _ = wqN P Q i + _ by rw [if_neg hq]; rfl))) ?_
          refine V_istore X (lv' := [(5, _), (0, _), (1, _), (2, _), (3, _), (4, _), (6, _)]) (by decide) rfl dL_makes_40 ?_
          refine V_iinc X (lv' := [(6, _), (5, _), (0, _), (1, _), (2, _), (3, _), (4, _)]) (v := nI (i + 1)) rfl (nI_1 _) (by decide) rfl dL_makes_42 ?_
          refine V_goto X (tgt := 6) (by decide) dL_makes_45 ?_
          refine V.lvs (lv' := [(0, _), (1, _), (2, _), (3, _), (4, _), (5, _), (6, _)]) rfl ?_
          exact ih (zN z 1 - (i + 1)) (by omega) (i + 1) rfl (by omega)
  refine V_iconst X (v := 0) (by decide) dL_makes_0 ?_
  refine V_istore X (lv' := [(5, _), (0, _), (1, _), (2, _), (3, _), (4, _)]) (by decide) rfl dL_makes_1 ?_
  refine V_iconst X (v := 0) (by decide) dL_makes_3 ?_
  refine V_istore X (lv' := [(6, _), (5, _), (0, _), (1, _), (2, _), (3, _), (4, _)]) (by decide) rfl dL_makes_4 ?_
  refine V.lvs (lv' := [(0, _), (1, _), (2, _), (3, _), (4, _), (5, _), (6, _)]) rfl ?_
  exact L1 _ 0 rfl (Nat.zero_le _)
