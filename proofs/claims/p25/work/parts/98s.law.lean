/-! ===== the law: passes ===== -/
set_option maxHeartbeats 4000000 in
set_option maxRecDepth 100000 in
theorem c_L_passes (l : Launch) (G : GG) (f : Wo) (al : Tg → Nat) (fi : Nat → Nat → Int32) (z : CZ) (hR : RC G al fi z f) (A : Nat → Nat) (lq : Nat → Int64) (la : Nat → Nat → Int32) (hA : LA G A lq la f) (c : Nat) (sc : Nat → Int32) (ar : Nat → Nat → Int32) (hS : SM c fi z sc ar) (hB : BR ar) (P S Q M : Nat → Nat) (hI : IV c (zN z 0) (zN z 1) (zN z 2) ar lq la P S Q M) (x : Nat) (hx1 : 1 ≤ x) (hx30 : x ≤ 30) (hcx : c + x ≤ 2000) : Ct l yL_passes wsL_passes 13 248 G [.ref (al (15, 0)), .int (nI x), .ref (A 0), .ref (A 1), .ref (A 3), .ref (A 4), .ref (A 5), .ref (A 6)] f (fun r f' => r = some (.int 1) ∧ LW G A (al (15, 0)) f' (c + x) (zN z 0) (zN z 1) (zN z 2)) 1 18 := by
  refine Ct.of (cc := cL_passes) (maxL := 17) (ret := (some .boolean)) (by decide) rfl (Nat.le_of_ble_eq_true rfl) (lv := [(0, _), (1, _), (2, _), (3, _), (4, _), (5, _), (6, _), (7, _)]) rfl (by simp [Value.category]) ?_
  intro K X hL hG hr hnm
  subst hL; subst hG
  have h18 := hI.np
  have h60 := hI.nt
  have h2k := hI.cc
  refine V_bipush X (v := 18) (by decide) dL_passes_0 ?_
  refine V_newT X (kc' := 0) (ks' := 0) (N := 18) (42, 0) (by decide +kernel) (by decide) (by decide) (by decide) (by omega) (by omega) dL_passes_2 (fun q0 f0 hN0 hT0 => ?_)
  have hR := hR.keepA hN0.a
  have hA := hA.fr hN0.c
  obtain ⟨B, hB0⟩ : ∃ B : Nat → Nat, B 0 = q0 := ⟨fun _ => q0, rfl⟩
  have hTT : TA (kG K) 1 B (fun _ => mixF 0 (fi 3) (fun _ => 0)) f0 := fun j hj => by
      have h : j = 0 := by omega
      subst h
      show f0 (B 0) = some ((42, 0), oI (kG K) 18 (mixF 0 (fi 3) (fun _ => 0)))
      rw [mixF_0, hB0]
      exact hT0
  clear hN0 hT0
  rw [← hB0]
  have T4 : ∀ f1 : Wo, TA (kG K) 1 B (fun _ => mixF (zN z 0) (fi 3) (fun _ => 0)) f1 → FrT f0 f1 → V K f1 0 0 41 [(0, .ref (al (15, 0))), (1, .int (nI x)), (2, .ref (A 0)), (3, .ref (A 1)), (4, .ref (A 3)), (5, .ref (A 4)), (6, .ref (A 5)), (7, .ref (A 6)), (8, .ref (B 0)), (9, .int 0), (10, .int 0)] [] := by
    intro f1 hT hF
    have hR := hR.keepT hF
    have hA := hA.ft hF
    refine V_aload_n X rfl dL_passes_41 ?_
    refine V_iload_n X rfl dL_passes_42 ?_
    refine V_callV (kc' := 0) (ks' := 0) X (rest := _) (c_X5_pass_t _ _ _ al fi z hR (nI x) (nI_le (a := 1) hx1 (by omega)) (nI_le (b := 1000) (by omega) (by decide)) (by rw [hS.ck, show (100000 : Int32) = nI 100000 from rfl, pk_sub (by omega)]; exact nI_le (by omega) (by omega))) (hR.2.1 (15, 0) dm15) rfl gL_passes_X5_pass rfl hdv_X5_pass (Nat.le_of_ble_eq_true rfl) (Nat.le_of_ble_eq_true rfl) rfl (Nat.le_of_ble_eq_true rfl) (by omega) (by omega) dL_passes_43 (fun r9 fp h9 => ?_)
    obtain ⟨rfl, hR, hF9⟩ := h9
    have hpas := hS.pas (T := x) (by omega)
    rw [hS.1.2.2.2.1] at hpas
    obtain ⟨told, F', hps⟩ : ∃ a b, psL (fu fi 18 0 (fi 18 0 + nI x)) z (zN z 2) = (a, b) := ⟨_, _, rfl⟩
    rw [hps] at hR hpas
    rw [hps]
    have hA := hA.fr hF9
    have hT9 := hT.fc hF9
    have hJ := PJ.of hS
    have T6 : ∀ (f2 : Wo) (lq : Nat → Int64) (la : Nat → Nat → Int32) (Q M : Nat → Nat) (L : Int32) (g : Nat → Nat → Int32) (w : Int32), outA (zN z 0) (zN z 1) (zN z 2) (nI c) ar x = (g, w) → LA (kG K) A lq la f2 → FrA fp f2 → IV (c + x) (zN z 0) (zN z 1) (zN z 2) g lq la P S Q M → PQ (zN z 0) (zN z 2) ar g L → V K f2 0 0 227 [(0, .ref (al (15, 0))), (1, .int (nI x)), (2, .ref (A 0)), (3, .ref (A 1)), (4, .ref (A 3)), (5, .ref (A 4)), (6, .ref (A 5)), (7, .ref (A 6)), (8, .ref (B 0)), (9, .int w), (10, .int L), (11, .int told)] [] := by
      intro f2 lq la Q M L g w hg hA hF hI hQ
      have hT := hT9.fa hF
      have hR := hR.keepA hF
      have hBg : BR g := by
        have h9 := BR.out (np := zN z 0) (nt := zN z 1) (nm := zN z 2) (c := c) hB x (by omega)
        rw [hg] at h9
        exact h9
      rw [hg] at hpas
      obtain ⟨hS2, htw⟩ := hpas
      have LE : ∀ (n k : Nat), zN z 0 - k = n → k ≤ zN z 0 → V K f2 0 0 244 [(0, .ref (al (15, 0))), (1, .int (nI x)), (2, .ref (A 0)), (3, .ref (A 1)), (4, .ref (A 3)), (5, .ref (A 4)), (6, .ref (A 5)), (7, .ref (A 6)), (8, .ref (B 0)), (9, .int w), (10, .int L), (11, .int told), (12, .int 1), (13, .int (nI k))] [] := by
        intro n
        induction n using Nat.strongRecOn with
        | ind n ih =>
          intro k hn hi
          refine V_iload X rfl dL_passes_244 ?_
          refine V_aload X rfl dL_passes_246 ?_
          refine V_iconst X (v := 1) (by decide) dL_passes_248 ?_
          refine V_ald X hA 6 (1) 4 (by decide) rfl (by omega) (hI.c1) dL_passes_249 ?_
          refine V_icmp_ge X (tgt := 314) (by decide) dL_passes_250 (fun hc250 => ?_) (fun hc250 => ?_)
          · refine V_iload X rfl dL_passes_314 ?_
            exact V_zret X hr (by decide) (⟨rfl, al, F', z, _, g, lq, la, P, S, Q, M, rfl, hR, hA, hS2, hBg, rfl, rfl, rfl, hI⟩) dL_passes_316
          · refine V_iload X rfl dL_passes_253 ?_
            refine V_if_eq X (tgt := 314) (by decide) dL_passes_255 (fun hc255 => absurd hc255 (by decide)) (fun hc255 => ?_)
            have hlt := lim_lt (N := zN z 0) rfl hc250 hi (by omega)
            obtain ⟨-, -, -, e4, -, -, ⟨v, hv5, hv⟩, -⟩ := hS.pl hlt
            have e9 : F' 3 k = g 4 k := (hS2.pl hlt).2.2.2.1
            have hq4 := hQ.2.1 k hlt
            rw [← e4, hv, ← e9] at hq4
            have hcs : hsI L (nI k) = true ∨ hsI L (nI k) = false := by cases hsI L (nI k) <;> simp
            rcases hcs with hp | hp
            · refine V_aload_n X rfl dL_passes_258 ?_
              refine V_iload X rfl dL_passes_259 ?_
              refine V_callVp X (rest := _) (c_X5_level_t _ _ _ al F' z hR k hlt) (hR.2.1 (15, 0) dm15) rfl gL_passes_X5_level rfl hdv_X5_level (Nat.le_of_ble_eq_true rfl) (Nat.le_of_ble_eq_true rfl) rfl (Nat.le_of_ble_eq_true rfl) dL_passes_261 ?_
              refine V.top (y := lvI (nI v)) (by rw [hq4, ← hsI_gb _ (by omega), if_pos hp]) ?_
              refine V_iload X rfl dL_passes_264 ?_
              refine V_iload X rfl dL_passes_266 ?_
              refine V_callSp X (rest := _) (c_L_has _ _ _ _ _) gL_passes_L_has rfl hds_L_has (Nat.le_of_ble_eq_true rfl) (Nat.le_of_ble_eq_true rfl) rfl (Nat.le_of_ble_eq_true rfl) dL_passes_268 ?_
              refine V.top (y := 1) (by rw [hp]; rfl) ?_
              refine V_if_eq X (tgt := 293) (by decide) dL_passes_271 (fun hc271 => absurd hc271 (by decide)) (fun hc271 => ?_)
              refine V_aload X rfl dL_passes_274 ?_
              refine V_iload X rfl dL_passes_276 ?_
              refine V_taL X hT 0 (k) (by decide) (by omega) (mixF_e hlt hv) dL_passes_278 ?_
              refine V_iconst X (v := 5) (by decide) dL_passes_279 ?_
              refine V_icmp_ge X (tgt := 293) (by decide) dL_passes_280 (fun hc280 => ?_) (fun hc280 => ?_)
              · refine V_aload X rfl dL_passes_293 ?_
                refine V_iload X rfl dL_passes_295 ?_
                refine V_taL X hT 0 (k) (by decide) (by omega) (mixF_e hlt hv) dL_passes_297 ?_
                refine V_icmp_ne X (tgt := 305) (by decide) dL_passes_298 (fun hc298 => absurd hc298 (fun q => q (by unfold lvI; rw [if_pos hc280, Int32.add_zero]))) (fun hc298 => ?_)
                refine V_iconst X (v := 1) (by decide) dL_passes_301 ?_
                refine V_goto X (tgt := 306) (by decide) dL_passes_302 ?_
                refine V_istore X (lv' := [(12, _), (0, _), (1, _), (2, _), (3, _), (4, _), (5, _), (6, _), (7, _), (8, _), (9, _), (10, _), (11, _), (13, _)]) (by decide) rfl dL_passes_306 ?_
                refine V_iinc X (lv' := [(13, _), (12, _), (0, _), (1, _), (2, _), (3, _), (4, _), (5, _), (6, _), (7, _), (8, _), (9, _), (10, _), (11, _)]) (v := nI (k + 1)) rfl (nI_1 _) (by decide) rfl dL_passes_308 ?_
                refine V_goto X (tgt := 244) (by decide) dL_passes_311 ?_
                refine V.lvs (lv' := [(0, _), (1, _), (2, _), (3, _), (4, _), (5, _), (6, _), (7, _), (8, _), (9, _), (10, _), (11, _), (12, _), (13, _)]) rfl ?_
                exact ih (zN z 0 - (k + 1)) (by omega) (k + 1) rfl (by omega)
              · refine V_aload X rfl dL_passes_283 ?_
                refine V_iload X rfl dL_passes_285 ?_
                refine V_taL X hT 0 (k) (by decide) (by omega) (mixF_e hlt hv) dL_passes_287 ?_
                refine V_iconst X (v := 1) (by decide) dL_passes_288 ?_
                refine V_iadd X dL_passes_289 ?_
                refine V_goto X (tgt := 298) (by decide) dL_passes_290 ?_
                refine V_icmp_ne X (tgt := 305) (by decide) dL_passes_298 (fun hc298 => absurd hc298 (fun q => q (by unfold lvI; rw [if_neg hc280]))) (fun hc298 => ?_)
                refine V_iconst X (v := 1) (by decide) dL_passes_301 ?_
                refine V_goto X (tgt := 306) (by decide) dL_passes_302 ?_
                refine V_istore X (lv' := [(12, _), (0, _), (1, _), (2, _), (3, _), (4, _), (5, _), (6, _), (7, _), (8, _), (9, _), (10, _), (11, _), (13, _)]) (by decide) rfl dL_passes_306 ?_
                refine V_iinc X (lv' := [(13, _), (12, _), (0, _), (1, _), (2, _), (3, _), (4, _), (5, _), (6, _), (7, _), (8, _), (9, _), (10, _), (11, _)]) (v := nI (k + 1)) rfl (nI_1 _) (by decide) rfl dL_passes_308 ?_
                refine V_goto X (tgt := 244) (by decide) dL_passes_311 ?_
                refine V.lvs (lv' := [(0, _), (1, _), (2, _), (3, _), (4, _), (5, _), (6, _), (7, _), (8, _), (9, _), (10, _), (11, _), (12, _), (13, _)]) rfl ?_
                exact ih (zN z 0 - (k + 1)) (by omega) (k + 1) rfl (by omega)
            · refine V_aload_n X rfl dL_passes_258 ?_
              refine V_iload X rfl dL_passes_259 ?_
              refine V_callVp X (rest := _) (c_X5_level_t _ _ _ al F' z hR k hlt) (hR.2.1 (15, 0) dm15) rfl gL_passes_X5_level rfl hdv_X5_level (Nat.le_of_ble_eq_true rfl) (Nat.le_of_ble_eq_true rfl) rfl (Nat.le_of_ble_eq_true rfl) dL_passes_261 ?_
              refine V.top (y := nI v) (by rw [hq4, ← hsI_gb _ (by omega), if_neg (by rw [hp]; decide)]) ?_
              refine V_iload X rfl dL_passes_264 ?_
              refine V_iload X rfl dL_passes_266 ?_
              refine V_callSp X (rest := _) (c_L_has _ _ _ _ _) gL_passes_L_has rfl hds_L_has (Nat.le_of_ble_eq_true rfl) (Nat.le_of_ble_eq_true rfl) rfl (Nat.le_of_ble_eq_true rfl) dL_passes_268 ?_
              refine V.top (y := 0) (by rw [hp]; rfl) ?_
              refine V_if_eq X (tgt := 293) (by decide) dL_passes_271 (fun hc271 => ?_) (fun hc271 => absurd hc271 (by decide))
              refine V_aload X rfl dL_passes_293 ?_
              refine V_iload X rfl dL_passes_295 ?_
              refine V_taL X hT 0 (k) (by decide) (by omega) (mixF_e hlt hv) dL_passes_297 ?_
              refine V_icmp_ne X (tgt := 305) (by decide) dL_passes_298 (fun hc298 => absurd hc298 (fun q => q rfl)) (fun hc298 => ?_)
              refine V_iconst X (v := 1) (by decide) dL_passes_301 ?_
              refine V_goto X (tgt := 306) (by decide) dL_passes_302 ?_
              refine V_istore X (lv' := [(12, _), (0, _), (1, _), (2, _), (3, _), (4, _), (5, _), (6, _), (7, _), (8, _), (9, _), (10, _), (11, _), (13, _)]) (by decide) rfl dL_passes_306 ?_
              refine V_iinc X (lv' := [(13, _), (12, _), (0, _), (1, _), (2, _), (3, _), (4, _), (5, _), (6, _), (7, _), (8, _), (9, _), (10, _), (11, _)]) (v := nI (k + 1)) rfl (nI_1 _) (by decide) rfl dL_passes_308 ?_
              refine V_goto X (tgt := 244) (by decide) dL_passes_311 ?_
              refine V.lvs (lv' := [(0, _), (1, _), (2, _), (3, _), (4, _), (5, _), (6, _), (7, _), (8, _), (9, _), (10, _), (11, _), (12, _), (13, _)]) rfl ?_
              exact ih (zN z 0 - (k + 1)) (by omega) (k + 1) rfl (by omega)
      refine V_iload X rfl dL_passes_227 ?_
      refine V_iload X rfl dL_passes_229 ?_
      refine V_icmp_ne X (tgt := 238) (by decide) dL_passes_231 (fun hc231 => absurd hc231 (fun q => q htw)) (fun hc231 => ?_)
      refine V_iconst X (v := 1) (by decide) dL_passes_234 ?_
      refine V_goto X (tgt := 239) (by decide) dL_passes_235 ?_
      refine V_istore X (lv' := [(12, _), (0, _), (1, _), (2, _), (3, _), (4, _), (5, _), (6, _), (7, _), (8, _), (9, _), (10, _), (11, _)]) (by decide) rfl dL_passes_239 ?_
      refine V_iconst X (v := 0) (by decide) dL_passes_241 ?_
      refine V_istore X (lv' := [(13, _), (12, _), (0, _), (1, _), (2, _), (3, _), (4, _), (5, _), (6, _), (7, _), (8, _), (9, _), (10, _), (11, _)]) (by decide) rfl dL_passes_242 ?_
      refine V.lvs (lv' := [(0, _), (1, _), (2, _), (3, _), (4, _), (5, _), (6, _), (7, _), (8, _), (9, _), (10, _), (11, _), (12, _), (13, _)]) rfl ?_
      exact LE _ 0 rfl (Nat.zero_le _)
    have LB : ∀ (n t : Nat), x - t = n → t ≤ x → ∀ (f2 : Wo) (lq : Nat → Int64) (la : Nat → Nat → Int32) (Q M : Nat → Nat) (L : Int32) (g : Nat → Nat → Int32) (w : Int32), outA (zN z 0) (zN z 1) (zN z 2) (nI c) ar t = (g, w) → LA (kG K) A lq la f2 → FrA fp f2 → IV (c + t) (zN z 0) (zN z 1) (zN z 2) g lq la P S Q M → PQ (zN z 0) (zN z 2) ar g L → V K f2 0 0 51 [(0, .ref (al (15, 0))), (1, .int (nI x)), (2, .ref (A 0)), (3, .ref (A 1)), (4, .ref (A 3)), (5, .ref (A 4)), (6, .ref (A 5)), (7, .ref (A 6)), (8, .ref (B 0)), (9, .int w), (10, .int L), (11, .int told), (12, .int (nI t))] [] := by
      intro n
      induction n using Nat.strongRecOn with
      | ind n ihB =>
        intro t hn hti f2 lq la Q M L g w hg hA hF hI hQ
        refine V_iload X rfl dL_passes_51 ?_
        refine V_iload_n X rfl dL_passes_53 ?_
        refine V_icmp_ge X (tgt := 227) (by decide) dL_passes_54 (fun hc54 => ?_) (fun hc54 => ?_)
        · have htN := lim_ge (N := x) rfl hc54 hti (by omega)
          subst htN
          refine V.lvs (lv' := [(0, _), (1, _), (2, _), (3, _), (4, _), (5, _), (6, _), (7, _), (8, _), (9, _), (10, _), (11, _)]) rfl ?_
          exact T6 f2 _ _ _ _ _ _ _ hg hA hF hI hQ
        · have hlt := lim_lt (N := x) rfl hc54 hti (by omega)
          have hE0 : PE (c + t) (zN z 2) 0 g := by
            have h9 := (hS.mins t (by omega)).1
            rw [hg] at h9
            exact PE.of h9
          refine V_aload X rfl dL_passes_57 ?_
          refine V_iconst X (v := 0) (by decide) dL_passes_59 ?_
          refine V_dup2 X rfl rfl dL_passes_60 ?_
          refine V_ald X hA 6 (0) 4 (by decide) rfl (by omega) (hI.c0) dL_passes_61 ?_
          refine V_iconst X (v := 1) (by decide) dL_passes_62 ?_
          refine V_iadd X dL_passes_63 ?_
          refine V.top (y := nI (c + t + 1)) (nI_1 _) ?_
          refine V_ast X hA 6 (0) 4 (by decide) rfl (by omega) dL_passes_64 (fun f hA hFA => ?_)
          refine V_iconst X (v := 0) (by decide) dL_passes_65 ?_
          refine V_istore X (lv' := [(13, _), (0, _), (1, _), (2, _), (3, _), (4, _), (5, _), (6, _), (7, _), (8, _), (9, _), (10, _), (11, _), (12, _)]) (by decide) rfl dL_passes_66 ?_
          have LC : ∀ (n i : Nat), zN z 2 - i = n → i ≤ zN z 2 → ∀ (f2 : Wo) (lq : Nat → Int64) (la : Nat → Nat → Int32) (Q M : Nat → Nat) (L : Int32) (g : Nat → Nat → Int32) (w : Int32), innA (zN z 0) (zN z 1) (nI (c + t + 1)) i (outA (zN z 0) (zN z 1) (zN z 2) (nI c) ar t) = (g, w) → LA (kG K) A lq la f2 → FrA fp f2 → IV (c + t + 1) (zN z 0) (zN z 1) (zN z 2) g lq la P S Q M → PQ (zN z 0) (zN z 2) ar g L → PE (c + t) (zN z 2) i g → V K f2 0 0 68 [(0, .ref (al (15, 0))), (1, .int (nI x)), (2, .ref (A 0)), (3, .ref (A 1)), (4, .ref (A 3)), (5, .ref (A 4)), (6, .ref (A 5)), (7, .ref (A 6)), (8, .ref (B 0)), (9, .int w), (10, .int L), (11, .int told), (12, .int (nI t)), (13, .int (nI i))] [] := by
            intro n
            induction n using Nat.strongRecOn with
            | ind n ihC =>
              intro i hn hi f2 lq la Q M L g w hg hA hF hI hQ hE
              have h30 := hI.nm
              refine V_iload X rfl dL_passes_68 ?_
              refine V_aload X rfl dL_passes_70 ?_
              refine V_iconst X (v := 3) (by decide) dL_passes_72 ?_
              refine V_ald X hA 6 (3) 4 (by decide) rfl (by omega) (hI.c3) dL_passes_73 ?_
              refine V_icmp_ge X (tgt := 221) (by decide) dL_passes_74 (fun hc74 => ?_) (fun hc74 => ?_)
              · refine V_iinc X (lv' := [(12, _), (0, _), (1, _), (2, _), (3, _), (4, _), (5, _), (6, _), (7, _), (8, _), (9, _), (10, _), (11, _), (13, _)]) (v := nI (t + 1)) rfl (nI_1 _) (by decide) rfl dL_passes_221 ?_
                refine V_goto X (tgt := 51) (by decide) dL_passes_224 ?_
                have hiN := lim_ge (N := zN z 2) rfl hc74 hi (by omega)
                subst hiN
                refine V.lvs (lv' := [(0, _), (1, _), (2, _), (3, _), (4, _), (5, _), (6, _), (7, _), (8, _), (9, _), (10, _), (11, _), (12, _)]) rfl ?_
                exact ihB (x - (t + 1)) (by omega) (t + 1) rfl (by omega) f2 _ _ _ _ _ _ _ (by show innA _ _ (nI c + nI (t + 1)) _ _ = _; rw [nI_add, ← Nat.add_assoc]; exact hg) hA hF (by rw [← Nat.add_assoc]; exact hI) hQ
              · have hlt := lim_lt (N := zN z 2) rfl hc74 hi (by omega)
                obtain ⟨⟨U, T, hU, hT4, u1, u2, u3⟩, u4, u5, -⟩ := hI.ma hlt
                have hcs : (g 15 i = 0 ∧ 3 ≤ nI (c + t + 1) - g 13 i) ∨ (g 15 i = 0 ∧ ¬ 3 ≤ nI (c + t + 1) - g 13 i) ∨ ¬ g 15 i = 0 := by
                  by_cases a : g 15 i = 0
                  · by_cases b : 3 ≤ nI (c + t + 1) - g 13 i
                    · exact Or.inl ⟨a, b⟩
                    · exact Or.inr (Or.inl ⟨a, b⟩)
                  · exact Or.inr (Or.inr a)
                rcases hcs with ⟨h0, h3⟩ | ⟨h0, h3⟩ | h0
                · refine V_aload_n X rfl dL_passes_77 ?_
                  refine V_iload X rfl dL_passes_78 ?_
                  refine V_ald X hA 1 (i) 31 (by decide) rfl (by omega) (u3) dL_passes_80 ?_
                  refine V_bipush X (v := 18) (by decide) dL_passes_81 ?_
                  refine V_ishr X dL_passes_83 ?_
                  refine V_iconst X (v := 3) (by decide) dL_passes_84 ?_
                  refine V_iand X dL_passes_85 ?_
                  refine V.top (y := nI T) (j_st hU hT4) ?_
                  refine V_if_ne X (tgt := 215) (by decide) dL_passes_86 (fun hc86 => absurd hc86 (fun q => q (u2.symm.trans h0))) (fun hc86 => ?_)
                  have hcd := hE.cond hlt h0 (by omega)
                  refine V_aload X rfl dL_passes_89 ?_
                  refine V_iload X rfl dL_passes_91 ?_
                  refine V_ald X hA 5 (i) 31 (by decide) rfl (by omega) (u5) dL_passes_93 ?_
                  refine V_iconst X (v := 3) (by decide) dL_passes_94 ?_
                  refine V_iadd X dL_passes_95 ?_
                  refine V_aload X rfl dL_passes_96 ?_
                  refine V_iconst X (v := 0) (by decide) dL_passes_98 ?_
                  refine V_ald X hA 6 (0) 4 (by decide) rfl (by omega) (hI.c0) dL_passes_99 ?_
                  refine V_icmp_ne X (tgt := 215) (by decide) dL_passes_100 (fun hc100 => absurd hc100 (fun q => q (hcd.mpr h3))) (fun hc100 => ?_)
                  refine V_aload_n X rfl dL_passes_103 ?_
                  refine V_iload X rfl dL_passes_104 ?_
                  refine V_ald X hA 1 (i) 31 (by decide) rfl (by omega) (u3) dL_passes_106 ?_
                  refine V_ldc X (v := 262143) (by decide +kernel) dL_passes_107 ?_
                  refine V_iand X dL_passes_109 ?_
                  refine V_aload X rfl dL_passes_110 ?_
                  refine V_iload X rfl dL_passes_112 ?_
                  refine V_ald X hA 4 (i) 31 (by decide) rfl (by omega) (u4) dL_passes_114 ?_
                  refine V_iconst X (v := (-1)) (by decide) dL_passes_115 ?_
                  refine V_ixor X dL_passes_116 ?_
                  refine V_iand X dL_passes_117 ?_
                  refine V.top (y := (lateI (g 11) (g 14) i)) (by show _ = allI (g 11) i &&& (g 14 i ^^^ (-1)); rw [u1, j_U hU hT4]) ?_
                  refine V_istore X (lv' := [(14, _), (0, _), (1, _), (2, _), (3, _), (4, _), (5, _), (6, _), (7, _), (8, _), (9, _), (10, _), (11, _), (12, _), (13, _)]) (by decide) rfl dL_passes_118 ?_
                  refine V_aload_n X rfl dL_passes_120 ?_
                  refine V_aload_n X rfl dL_passes_121 ?_
                  refine V_aload X rfl dL_passes_122 ?_
                  refine V_iload X rfl dL_passes_124 ?_
                  refine V_iload X rfl dL_passes_126 ?_
                  refine V_callS (kc' := 0) (ks' := 0) X (rest := _) (c_L_ends _ _ _ A _ _ hA (zN z 1) i hI.c2 hI.nt (by omega) P S Q M hI.2.1 (lateI (g 11) (g 14) i)) gL_passes_L_ends rfl hds_L_ends (Nat.le_of_ble_eq_true rfl) (Nat.le_of_ble_eq_true rfl) rfl (Nat.le_of_ble_eq_true rfl) (by omega) (by omega) dL_passes_128 (fun r9 f9 h9 => ?_)
                  obtain ⟨rfl, hA, hF5⟩ := h9
                  refine V_iload X rfl dL_passes_131 ?_
                  refine V_iload X rfl dL_passes_133 ?_
                  refine V_ior X dL_passes_135 ?_
                  refine V_istore X (lv' := [(10, _), (14, _), (0, _), (1, _), (2, _), (3, _), (4, _), (5, _), (6, _), (7, _), (8, _), (9, _), (11, _), (12, _), (13, _)]) (by decide) rfl dL_passes_136 ?_
                  refine V_iinc X (lv' := [(9, _), (10, _), (14, _), (0, _), (1, _), (2, _), (3, _), (4, _), (5, _), (6, _), (7, _), (8, _), (11, _), (12, _), (13, _)]) (v := w + 1) rfl (rfl) (by decide) rfl dL_passes_138 ?_
                  refine V_iconst X (v := 0) (by decide) dL_passes_141 ?_
                  refine V_istore X (lv' := [(15, _), (9, _), (10, _), (14, _), (0, _), (1, _), (2, _), (3, _), (4, _), (5, _), (6, _), (7, _), (8, _), (11, _), (12, _), (13, _)]) (by decide) rfl dL_passes_142 ?_
                  have LD : ∀ (n j : Nat), zN z 0 - j = n → j ≤ zN z 0 → ∀ f3 : Wo, LA (kG K) A (mixF (zN z 1) (endQ i (lateI (g 11) (g 14) i) P S M lq) lq) (va_up (fu la 1 i ((la 1 i &&& 262143) ||| 524288)) 3 (ifF j (fun k => hsI (lateI (g 11) (g 14) i) (nI k)) (pvG (nI (c + t + 1)) ar) ((fu la 1 i ((la 1 i &&& 262143) ||| 524288)) 3))) f3 → FrA fp f3 → V K f3 0 0 144 [(0, .ref (al (15, 0))), (1, .int (nI x)), (2, .ref (A 0)), (3, .ref (A 1)), (4, .ref (A 3)), (5, .ref (A 4)), (6, .ref (A 5)), (7, .ref (A 6)), (8, .ref (B 0)), (9, .int (w + 1)), (10, .int (L ||| (lateI (g 11) (g 14) i))), (11, .int told), (12, .int (nI t)), (13, .int (nI i)), (14, .int (lateI (g 11) (g 14) i)), (15, .int (nI j))] [] := by
                    intro n
                    induction n using Nat.strongRecOn with
                    | ind n ihD =>
                      intro j hn hj2 f3 hA hF
                      have hT := hT9.fa hF
                      have hcJ : (va_up (fu la 1 i ((la 1 i &&& 262143) ||| 524288)) 3 (ifF j (fun k => hsI (lateI (g 11) (g 14) i) (nI k)) (pvG (nI (c + t + 1)) ar) ((fu la 1 i ((la 1 i &&& 262143) ||| 524288)) 3))) 6 0 = nI (c + t + 1) := by rw [va_up_ne _ _ (by decide), fu_ne _ _ (Or.inl (by decide))]; exact hI.c0
                      have hnJ : (va_up (fu la 1 i ((la 1 i &&& 262143) ||| 524288)) 3 (ifF j (fun k => hsI (lateI (g 11) (g 14) i) (nI k)) (pvG (nI (c + t + 1)) ar) ((fu la 1 i ((la 1 i &&& 262143) ||| 524288)) 3))) 6 1 = nI (zN z 0) := by rw [va_up_ne _ _ (by decide), fu_ne _ _ (Or.inl (by decide))]; exact hI.c1
                      have hcJ2 : ∀ y : Int32, fu (va_up (fu la 1 i ((la 1 i &&& 262143) ||| 524288)) 3 (ifF j (fun k => hsI (lateI (g 11) (g 14) i) (nI k)) (pvG (nI (c + t + 1)) ar) ((fu la 1 i ((la 1 i &&& 262143) ||| 524288)) 3))) 3 j y 6 0 = nI (c + t + 1) := fun y => by rw [fu_ne _ _ (Or.inl (by decide))]; exact hcJ
                      refine V_iload X rfl dL_passes_144 ?_
                      refine V_aload X rfl dL_passes_146 ?_
                      refine V_iconst X (v := 1) (by decide) dL_passes_148 ?_
                      refine V_ald X hA 6 (1) 4 (by decide) rfl (by omega) (hnJ) dL_passes_149 ?_
                      refine V_icmp_ge X (tgt := 215) (by decide) dL_passes_150 (fun hc150 => ?_) (fun hc150 => ?_)
                      · refine V_iinc X (lv' := [(13, _), (0, _), (1, _), (2, _), (3, _), (4, _), (5, _), (6, _), (7, _), (8, _), (9, _), (10, _), (11, _), (12, _), (14, _), (15, _)]) (v := nI (i + 1)) rfl (nI_1 _) (by decide) rfl dL_passes_215 ?_
                        refine V_goto X (tgt := 68) (by decide) dL_passes_218 ?_
                        have hjN := lim_ge (N := zN z 0) rfl hc150 hj2 (by omega)
                        rw [hjN] at hA
                        refine V.lvs (lv' := [(0, _), (1, _), (2, _), (3, _), (4, _), (5, _), (6, _), (7, _), (8, _), (9, _), (10, _), (11, _), (12, _), (13, _)]) rfl ?_
                        exact ihC (zN z 2 - (i + 1)) (by omega) (i + 1) rfl (by omega) f3 _ _ _ _ _ _ _ (by rw [innA_t (by rw [hg]; exact ⟨h0, h3⟩), hg]) hA hF (hQ.iv h18 hI hlt h0) (hQ.exp hJ h18 hlt h0) hE.exp
                      · have hlj := lim_lt (N := zN z 0) rfl hc150 hj2 (by omega)
                        obtain ⟨-, -, -, e4, -, -, ⟨v, hv5, hv⟩, -⟩ := hS.pl hlj
                        have hx9 : nI (c + t + 1) + mtI (nI v) = pvG (nI (c + t + 1)) ar j := by unfold pvG; rw [← e4, hv]
                        have hcs : hsI (lateI (g 11) (g 14) i) (nI j) = true ∨ hsI (lateI (g 11) (g 14) i) (nI j) = false := by cases hsI (lateI (g 11) (g 14) i) (nI j) <;> simp
                        rcases hcs with hp | hp
                        · refine V_iload X rfl dL_passes_153 ?_
                          refine V_iload X rfl dL_passes_155 ?_
                          refine V_callSp X (rest := _) (c_L_has _ _ _ _ _) gL_passes_L_has rfl hds_L_has (Nat.le_of_ble_eq_true rfl) (Nat.le_of_ble_eq_true rfl) rfl (Nat.le_of_ble_eq_true rfl) dL_passes_157 ?_
                          refine V.top (y := 1) (by rw [hp]; rfl) ?_
                          refine V_if_eq X (tgt := 181) (by decide) dL_passes_160 (fun hc160 => absurd hc160 (by decide)) (fun hc160 => ?_)
                          refine V_aload_n X rfl dL_passes_163 ?_
                          refine V_aload X rfl dL_passes_164 ?_
                          refine V_aload X rfl dL_passes_166 ?_
                          refine V_iload X rfl dL_passes_168 ?_
                          refine V_aload X rfl dL_passes_170 ?_
                          refine V_iload X rfl dL_passes_172 ?_
                          refine V_taL X hT 0 (j) (by decide) (by omega) (mixF_e hlj hv) dL_passes_174 ?_
                          refine V_callS (kc' := 0) (ks' := 0) X (rest := _) (c_L_bar _ _ _ A _ _ hA (al (15, 0)) j v (nI (c + t + 1)) hcJ (by omega) hv5) gL_passes_L_bar rfl hds_L_bar (Nat.le_of_ble_eq_true rfl) (Nat.le_of_ble_eq_true rfl) rfl (Nat.le_of_ble_eq_true rfl) (by omega) (by omega) dL_passes_175 (fun r9 f9 h9 => ?_)
                          obtain ⟨rfl, hA, hF7⟩ := h9
                          refine V_goto X (tgt := 182) (by decide) dL_passes_178 ?_
                          refine V_istore X (lv' := [(16, _), (0, _), (1, _), (2, _), (3, _), (4, _), (5, _), (6, _), (7, _), (8, _), (9, _), (10, _), (11, _), (12, _), (13, _), (14, _), (15, _)]) (by decide) rfl dL_passes_182 ?_
                          refine V_aload X rfl dL_passes_184 ?_
                          refine V_iload X rfl dL_passes_186 ?_
                          refine V_iload X rfl dL_passes_188 ?_
                          refine V_if_le X (tgt := 203) (by decide) dL_passes_190 (fun hc190 => absurd hc190 (mt_pos v hv5)) (fun hc190 => ?_)
                          refine V_aload X rfl dL_passes_193 ?_
                          refine V_iconst X (v := 0) (by decide) dL_passes_195 ?_
                          refine V_ald X hA 6 (0) 4 (by decide) rfl (by omega) (hcJ2 _) dL_passes_196 ?_
                          refine V_iload X rfl dL_passes_197 ?_
                          refine V_iadd X dL_passes_199 ?_
                          refine V_goto X (tgt := 208) (by decide) dL_passes_200 ?_
                          refine V_ast X hA 3 (j) 18 (by decide) rfl (by omega) dL_passes_208 (fun f hA hFA => ?_)
                          have hF8 := hFA
                          refine V_iinc X (lv' := [(15, _), (16, _), (0, _), (1, _), (2, _), (3, _), (4, _), (5, _), (6, _), (7, _), (8, _), (9, _), (10, _), (11, _), (12, _), (13, _), (14, _)]) (v := nI (j + 1)) rfl (nI_1 _) (by decide) rfl dL_passes_209 ?_
                          refine V_goto X (tgt := 144) (by decide) dL_passes_212 ?_
                          refine V.lvs (lv' := [(0, _), (1, _), (2, _), (3, _), (4, _), (5, _), (6, _), (7, _), (8, _), (9, _), (10, _), (11, _), (12, _), (13, _), (14, _), (15, _)]) rfl ?_
                          rw [uB_t (la1 := (fu la 1 i ((la 1 i &&& 262143) ||| 524288))) (p := (fun k => hsI (lateI (g 11) (g 14) i) (nI k))) (G := (pvG (nI (c + t + 1)) ar)) (j := j) hp hx9] at hA
                          exact ihD (zN z 0 - (j + 1)) (by omega) (j + 1) rfl (by omega) f hA ((hF.trans hF7).trans hF8)
                        · refine V_iload X rfl dL_passes_153 ?_
                          refine V_iload X rfl dL_passes_155 ?_
                          refine V_callSp X (rest := _) (c_L_has _ _ _ _ _) gL_passes_L_has rfl hds_L_has (Nat.le_of_ble_eq_true rfl) (Nat.le_of_ble_eq_true rfl) rfl (Nat.le_of_ble_eq_true rfl) dL_passes_157 ?_
                          refine V.top (y := 0) (by rw [hp]; rfl) ?_
                          refine V_if_eq X (tgt := 181) (by decide) dL_passes_160 (fun hc160 => ?_) (fun hc160 => absurd hc160 (by decide))
                          refine V_iconst X (v := 0) (by decide) dL_passes_181 ?_
                          refine V_istore X (lv' := [(16, _), (0, _), (1, _), (2, _), (3, _), (4, _), (5, _), (6, _), (7, _), (8, _), (9, _), (10, _), (11, _), (12, _), (13, _), (14, _), (15, _)]) (by decide) rfl dL_passes_182 ?_
                          refine V_aload X rfl dL_passes_184 ?_
                          refine V_iload X rfl dL_passes_186 ?_
                          refine V_iload X rfl dL_passes_188 ?_
                          refine V_if_le X (tgt := 203) (by decide) dL_passes_190 (fun hc190 => ?_) (fun hc190 => absurd hc190 (by decide))
                          refine V_aload X rfl dL_passes_203 ?_
                          refine V_iload X rfl dL_passes_205 ?_
                          refine V_ald X hA 3 (j) 18 (by decide) rfl (by omega) (rfl) dL_passes_207 ?_
                          refine V_ast X hA 3 (j) 18 (by decide) rfl (by omega) dL_passes_208 (fun f hA hFA => ?_)
                          have hF8 := hFA
                          refine V_iinc X (lv' := [(15, _), (16, _), (0, _), (1, _), (2, _), (3, _), (4, _), (5, _), (6, _), (7, _), (8, _), (9, _), (10, _), (11, _), (12, _), (13, _), (14, _)]) (v := nI (j + 1)) rfl (nI_1 _) (by decide) rfl dL_passes_209 ?_
                          refine V_goto X (tgt := 144) (by decide) dL_passes_212 ?_
                          refine V.lvs (lv' := [(0, _), (1, _), (2, _), (3, _), (4, _), (5, _), (6, _), (7, _), (8, _), (9, _), (10, _), (11, _), (12, _), (13, _), (14, _), (15, _)]) rfl ?_
                          rw [uB_f (la1 := (fu la 1 i ((la 1 i &&& 262143) ||| 524288))) (p := (fun k => hsI (lateI (g 11) (g 14) i) (nI k))) (G := (pvG (nI (c + t + 1)) ar)) (j := j) hp] at hA
                          exact ihD (zN z 0 - (j + 1)) (by omega) (j + 1) rfl (by omega) f hA (hF.trans hF8)
                  refine V.lvs (lv' := [(0, _), (1, _), (2, _), (3, _), (4, _), (5, _), (6, _), (7, _), (8, _), (9, _), (10, _), (11, _), (12, _), (13, _), (14, _), (15, _)]) rfl ?_
                  exact LD _ 0 rfl (Nat.zero_le _) f9 (by rw [uB_0]; exact hA) (hF.trans hF5)
                · refine V_aload_n X rfl dL_passes_77 ?_
                  refine V_iload X rfl dL_passes_78 ?_
                  refine V_ald X hA 1 (i) 31 (by decide) rfl (by omega) (u3) dL_passes_80 ?_
                  refine V_bipush X (v := 18) (by decide) dL_passes_81 ?_
                  refine V_ishr X dL_passes_83 ?_
                  refine V_iconst X (v := 3) (by decide) dL_passes_84 ?_
                  refine V_iand X dL_passes_85 ?_
                  refine V.top (y := nI T) (j_st hU hT4) ?_
                  refine V_if_ne X (tgt := 215) (by decide) dL_passes_86 (fun hc86 => absurd hc86 (fun q => q (u2.symm.trans h0))) (fun hc86 => ?_)
                  have hcd := hE.cond hlt h0 (by omega)
                  have hno : ¬ (g 15 i = 0 ∧ 3 ≤ nI (c + t + 1) - g 13 i) := fun q => h3 q.2
                  refine V_aload X rfl dL_passes_89 ?_
                  refine V_iload X rfl dL_passes_91 ?_
                  refine V_ald X hA 5 (i) 31 (by decide) rfl (by omega) (u5) dL_passes_93 ?_
                  refine V_iconst X (v := 3) (by decide) dL_passes_94 ?_
                  refine V_iadd X dL_passes_95 ?_
                  refine V_aload X rfl dL_passes_96 ?_
                  refine V_iconst X (v := 0) (by decide) dL_passes_98 ?_
                  refine V_ald X hA 6 (0) 4 (by decide) rfl (by omega) (hI.c0) dL_passes_99 ?_
                  refine V_icmp_ne X (tgt := 215) (by decide) dL_passes_100 (fun hc100 => ?_) (fun hc100 => absurd hc100 (fun q => h3 (hcd.mp q)))
                  refine V_iinc X (lv' := [(13, _), (0, _), (1, _), (2, _), (3, _), (4, _), (5, _), (6, _), (7, _), (8, _), (9, _), (10, _), (11, _), (12, _)]) (v := nI (i + 1)) rfl (nI_1 _) (by decide) rfl dL_passes_215 ?_
                  refine V_goto X (tgt := 68) (by decide) dL_passes_218 ?_
                  refine V.lvs (lv' := [(0, _), (1, _), (2, _), (3, _), (4, _), (5, _), (6, _), (7, _), (8, _), (9, _), (10, _), (11, _), (12, _), (13, _)]) rfl ?_
                  exact ihC (zN z 2 - (i + 1)) (by omega) (i + 1) rfl (by omega) f2 _ _ _ _ _ _ _ ((innA_f (by rw [hg]; exact hno)).trans hg) hA hF hI hQ hE.next
                · refine V_aload_n X rfl dL_passes_77 ?_
                  refine V_iload X rfl dL_passes_78 ?_
                  refine V_ald X hA 1 (i) 31 (by decide) rfl (by omega) (u3) dL_passes_80 ?_
                  refine V_bipush X (v := 18) (by decide) dL_passes_81 ?_
                  refine V_ishr X dL_passes_83 ?_
                  refine V_iconst X (v := 3) (by decide) dL_passes_84 ?_
                  refine V_iand X dL_passes_85 ?_
                  refine V.top (y := nI T) (j_st hU hT4) ?_
                  refine V_if_ne X (tgt := 215) (by decide) dL_passes_86 (fun hc86 => ?_) (fun hc86 => absurd hc86 (fun q => h0 (u2.trans q)))
                  refine V_iinc X (lv' := [(13, _), (0, _), (1, _), (2, _), (3, _), (4, _), (5, _), (6, _), (7, _), (8, _), (9, _), (10, _), (11, _), (12, _)]) (v := nI (i + 1)) rfl (nI_1 _) (by decide) rfl dL_passes_215 ?_
                  have hno : ¬ (g 15 i = 0 ∧ 3 ≤ nI (c + t + 1) - g 13 i) := fun q => h0 q.1
                  refine V_goto X (tgt := 68) (by decide) dL_passes_218 ?_
                  refine V.lvs (lv' := [(0, _), (1, _), (2, _), (3, _), (4, _), (5, _), (6, _), (7, _), (8, _), (9, _), (10, _), (11, _), (12, _), (13, _)]) rfl ?_
                  exact ihC (zN z 2 - (i + 1)) (by omega) (i + 1) rfl (by omega) f2 _ _ _ _ _ _ _ ((innA_f (by rw [hg]; exact hno)).trans hg) hA hF hI hQ hE.next
          refine V.lvs (lv' := [(0, _), (1, _), (2, _), (3, _), (4, _), (5, _), (6, _), (7, _), (8, _), (9, _), (10, _), (11, _), (12, _), (13, _)]) rfl ?_
          exact LC _ 0 rfl (Nat.zero_le _) f _ _ _ _ _ _ _ hg hA (hF.trans hFA) (hI.tick (c' := c + t + 1) (by omega) (by omega)) hQ hE0
    refine V_istore X (lv' := [(11, _), (0, _), (1, _), (2, _), (3, _), (4, _), (5, _), (6, _), (7, _), (8, _), (9, _), (10, _)]) (by decide) rfl dL_passes_46 ?_
    refine V_iconst X (v := 0) (by decide) dL_passes_48 ?_
    refine V_istore X (lv' := [(12, _), (11, _), (0, _), (1, _), (2, _), (3, _), (4, _), (5, _), (6, _), (7, _), (8, _), (9, _), (10, _)]) (by decide) rfl dL_passes_49 ?_
    refine V.lvs (lv' := [(0, _), (1, _), (2, _), (3, _), (4, _), (5, _), (6, _), (7, _), (8, _), (9, _), (10, _), (11, _), (12, _)]) rfl ?_
    exact LB _ 0 rfl (Nat.zero_le _) _ _ _ _ _ _ _ _ rfl hA FrA.rf hI PQ.zero
  have L1 : ∀ (n i : Nat), zN z 0 - i = n → i ≤ zN z 0 → ∀ f1 : Wo, TA (kG K) 1 B (fun _ => mixF i (fi 3) (fun _ => 0)) f1 → FrT f0 f1 → V K f1 0 0 15 [(0, .ref (al (15, 0))), (1, .int (nI x)), (2, .ref (A 0)), (3, .ref (A 1)), (4, .ref (A 3)), (5, .ref (A 4)), (6, .ref (A 5)), (7, .ref (A 6)), (8, .ref (B 0)), (9, .int 0), (10, .int 0), (11, .int (nI i))] [] := by
    intro n
    induction n using Nat.strongRecOn with
    | ind n ih =>
      intro i hn hi f1 hT hF
      have hR := hR.keepT hF
      have hA := hA.ft hF
      refine V_iload X rfl dL_passes_15 ?_
      refine V_aload X rfl dL_passes_17 ?_
      refine V_iconst X (v := 1) (by decide) dL_passes_19 ?_
      refine V_ald X hA 6 (1) 4 (by decide) rfl (by omega) (hI.c1) dL_passes_20 ?_
      refine V_icmp_ge X (tgt := 41) (by decide) dL_passes_21 (fun hc21 => ?_) (fun hc21 => ?_)
      · have hiN := lim_ge (N := zN z 0) rfl hc21 hi (by omega)
        rw [hiN] at hT
        refine V.lvs (lv' := [(0, _), (1, _), (2, _), (3, _), (4, _), (5, _), (6, _), (7, _), (8, _), (9, _), (10, _)]) rfl ?_
        exact T4 _ hT hF
      · have hlt := lim_lt (N := zN z 0) rfl hc21 hi (by omega)
        refine V_aload X rfl dL_passes_24 ?_
        refine V_iload X rfl dL_passes_26 ?_
        refine V_aload_n X rfl dL_passes_28 ?_
        refine V_iload X rfl dL_passes_29 ?_
        refine V_callVp X (rest := _) (c_X5_level_t _ _ _ al fi z hR i hlt) (hR.2.1 (15, 0) dm15) rfl gL_passes_X5_level rfl hdv_X5_level (Nat.le_of_ble_eq_true rfl) (Nat.le_of_ble_eq_true rfl) rfl (Nat.le_of_ble_eq_true rfl) dL_passes_31 ?_
        refine V_taS X hT 0 (i) (by decide) (by omega) dL_passes_34 (fun f hT hG => ?_)
        have hG1 := hG
        refine V_iinc X (lv' := [(11, _), (0, _), (1, _), (2, _), (3, _), (4, _), (5, _), (6, _), (7, _), (8, _), (9, _), (10, _)]) (v := nI (i + 1)) rfl (nI_1 _) (by decide) rfl dL_passes_35 ?_
        refine V_goto X (tgt := 15) (by decide) dL_passes_38 ?_
        refine V.lvs (lv' := [(0, _), (1, _), (2, _), (3, _), (4, _), (5, _), (6, _), (7, _), (8, _), (9, _), (10, _), (11, _)]) rfl ?_
        exact ih (zN z 0 - (i + 1)) (by omega) (i + 1) rfl (by omega) _ (hT.cg (sr1_step fi i)) (hF.trans hG1)
  refine V_astore X (lv' := [(8, _), (0, _), (1, _), (2, _), (3, _), (4, _), (5, _), (6, _), (7, _)]) (by decide) rfl dL_passes_4 ?_
  refine V_iconst X (v := 0) (by decide) dL_passes_6 ?_
  refine V_istore X (lv' := [(9, _), (8, _), (0, _), (1, _), (2, _), (3, _), (4, _), (5, _), (6, _), (7, _)]) (by decide) rfl dL_passes_7 ?_
  refine V_iconst X (v := 0) (by decide) dL_passes_9 ?_
  refine V_istore X (lv' := [(10, _), (9, _), (8, _), (0, _), (1, _), (2, _), (3, _), (4, _), (5, _), (6, _), (7, _)]) (by decide) rfl dL_passes_10 ?_
  refine V_iconst X (v := 0) (by decide) dL_passes_12 ?_
  refine V_istore X (lv' := [(11, _), (10, _), (9, _), (8, _), (0, _), (1, _), (2, _), (3, _), (4, _), (5, _), (6, _), (7, _)]) (by decide) rfl dL_passes_13 ?_
  refine V.lvs (lv' := [(0, _), (1, _), (2, _), (3, _), (4, _), (5, _), (6, _), (7, _), (8, _), (9, _), (10, _), (11, _)]) rfl ?_
  exact L1 _ 0 rfl (Nat.zero_le _) _ hTT FrT.rf
