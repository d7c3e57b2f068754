/-- a set of the line's parties has six players, each of its parties fits the party pt -/
def okF (np mn : Nat) (ck : Int32) (ar : Nat → Nat → Int32) (ln : Nat → Nat) (st : Int32) (pt i : Nat) : Bool := !hsI st (nI (mn - 1 - i)) || ftI ck (mnI np (ar 7 pt) (ar 1)) (mnI np (ar 7 (ln i)) (ar 1)) (ar 8 pt) (ar 8 (ln i))
def psF (np mn : Nat) (ck : Int32) (ar : Nat → Nat → Int32) (ln : Nat → Nat) (st : Int32) (pt : Nat) : Nat → Bool
  | 0 => decide (szI st ≤ 6) && decide (szI (plI mn st ln (ar 7) mn) = 6)
  | i + 1 => psF np mn ck ar ln st pt i && okF np mn ck ar ln st pt i
theorem psF_f {np mn : Nat} {ck : Int32} {ar : Nat → Nat → Int32} {ln : Nat → Nat} {st : Int32} {pt i : Nat} (h : psF np mn ck ar ln st pt i = false) : ∀ n, i ≤ n → psF np mn ck ar ln st pt n = false
  | 0, hn => by rw [show i = 0 by omega] at h; exact h
  | n + 1, hn => by
    by_cases e : i = n + 1
    · rw [← e]; exact h
    · show (psF np mn ck ar ln st pt n && _) = false
      rw [psF_f h n (by omega)]; rfl
theorem hinX6_isPossible_X6 : ∀ w ∈ wsX60, w ∈ wsX6_isPossible := by decide +kernel
set_option maxHeartbeats 4000000 in
set_option maxRecDepth 100000 in
theorem c_X6_isPossible_f (l : Launch) (G : GG) (f : Wo) (am : Nat → Nat) (sc : Nat → Int32) (ar : Nat → Nat → Int32) (hR : RM G am sc ar f) (np : Nat) (hnp : sc 0 = nI np) (hp18 : np ≤ 18) (mn : Nat) (hmn : sc 4 = nI mn) (hm18 : mn ≤ 18) (ln : Nat → Nat) (hln : ∀ i, i < mn → ar 16 i = nI (ln i) ∧ ln i < 100) (hmem : ∀ i, i < mn → ∀ k, np ≤ k → k < 18 → hsI (ar 7 (ln i)) (nI k) = false) (st fi : Int32) (pt : Nat) (hpt : pt < 100) (hzp : ¬ szI (ar 7 pt) = 0) (hzl : ∀ i, i < mn → ¬ szI (ar 7 (ln i)) = 0) (hps : psF np mn (sc 3) ar ln st pt mn = false) : Cp l yX6_isPossible wsX6_isPossible 4 123 G [.ref (am 0), .int st, .int fi, .int (nI pt)] f (.int 0) := by
  refine Ct.of (cc := cX6_isPossible) (maxL := 6) (ret := (some .boolean)) (by decide) rfl (Nat.le_of_ble_eq_true rfl) (lv := [(0, _), (1, _), (2, _), (3, _)]) rfl (by simp [Value.category]) ?_
  intro K X hL hG hr hnm
  subst hL; subst hG
  have L : ∀ (n i : Nat), mn - i = n → i ≤ mn → V K f 0 0 32 [(0, .ref (am 0)), (1, .int st), (2, .int fi), (3, .int (nI pt)), (4, .int (bI (psF np mn (sc 3) ar ln st pt i))), (5, .int (nI i))] [] := by
    intro n
    induction n using Nat.strongRecOn with
    | ind n ih =>
      intro i hn hi
      refine V_iload X rfl dX6_isPossible_32 ?_
      refine V_aload_n X rfl dX6_isPossible_34 ?_
      refine V_mget X hR (v := .int (nI mn)) 19 (by decide) hinX6_isPossible_X6 (congrArg (fun z => some (Value.int z)) (hmn)) (by decide +kernel) rfl dX6_isPossible_35 ?_
      refine V_icmp_ge X (tgt := 90) (by decide) dX6_isPossible_38 (fun hc38 => ?_) (fun hc38 => ?_)
      · have hi18 := lim_ge (N := mn) rfl hc38 hi (by omega)
        refine V_iload X rfl dX6_isPossible_90 ?_
        refine V_if_eq X (tgt := 108) (by decide) dX6_isPossible_92 (fun hc92 => ?_) (fun hc92 => absurd hc92 (by rw [hi18, hps]; decide))
        refine V_iconst X (v := 0) (by decide) dX6_isPossible_108 ?_
        exact V_zret X hr (by decide) (⟨rfl, rfl⟩) dX6_isPossible_109
      · refine V_iload X rfl dX6_isPossible_41 ?_
        refine V_if_eq X (tgt := 90) (by decide) dX6_isPossible_43 (fun hc43 => ?_) (fun hc43 => ?_)
        · refine V_iload X rfl dX6_isPossible_90 ?_
          refine V_if_eq X (tgt := 108) (by decide) dX6_isPossible_92 (fun hc92 => ?_) (fun hc92 => absurd hc92 (by rw [bI_eq0 hc43]; decide))
          refine V_iconst X (v := 0) (by decide) dX6_isPossible_108 ?_
          exact V_zret X hr (by decide) (⟨rfl, rfl⟩) dX6_isPossible_109
        · have hlt := lim_lt (N := mn) rfl hc38 hi (by omega)
          obtain ⟨hl1, hl2⟩ := hln i hlt
          refine V_iload_n X rfl dX6_isPossible_46 ?_
          refine V_aload_n X rfl dX6_isPossible_47 ?_
          refine V_mget X hR (v := .int (nI mn)) 19 (by decide) hinX6_isPossible_X6 (congrArg (fun z => some (Value.int z)) (hmn)) (by decide +kernel) rfl dX6_isPossible_48 ?_
          refine V_iconst X (v := 1) (by decide) dX6_isPossible_51 ?_
          refine V_isub X dX6_isPossible_52 ?_
          refine V_iload X rfl dX6_isPossible_53 ?_
          refine V_isub X dX6_isPossible_55 ?_
          refine V.top (y := nI (mn - 1 - i)) (nI_m1i hlt) ?_
          refine V_callSp X (rest := _) (c_X6_has _ _ _ _ _) gX6_isPossible_X6_has rfl hds_X6_has (Nat.le_of_ble_eq_true rfl) (Nat.le_of_ble_eq_true rfl) rfl (Nat.le_of_ble_eq_true rfl) dX6_isPossible_56 ?_
          refine V_if_eq X (tgt := 77) (by decide) dX6_isPossible_59 (fun hc59 => ?_) (fun hc59 => ?_)
          · refine V_iconst X (v := 1) (by decide) dX6_isPossible_77 ?_
            refine V_goto X (tgt := 82) (by decide) dX6_isPossible_78 ?_
            refine V.top (y := bI (psF np mn (sc 3) ar ln st pt (i + 1))) (bI_t' (show (_ && okF _ _ _ _ _ _ _ _) = true from by rw [bI_ne0 hc43]; simp [okF, bI_eq0 hc59])) ?_
            refine V_istore X (lv' := [(4, _), (0, _), (1, _), (2, _), (3, _), (5, _)]) (by decide) rfl dX6_isPossible_82 ?_
            refine V_iinc X (lv' := [(5, _), (4, _), (0, _), (1, _), (2, _), (3, _)]) (v := nI (i + 1)) rfl (nI_1 _) (by decide) rfl dX6_isPossible_84 ?_
            refine V_goto X (tgt := 32) (by decide) dX6_isPossible_87 ?_
            refine V.lvs (lv' := [(0, _), (1, _), (2, _), (3, _), (4, _), (5, _)]) rfl ?_
            exact ih (mn - (i + 1)) (by omega) (i + 1) rfl (by omega)
          · refine V_aload_n X rfl dX6_isPossible_62 ?_
            refine V_iload_n X rfl dX6_isPossible_63 ?_
            refine V_aload_n X rfl dX6_isPossible_64 ?_
            refine V_mget X hR (v := .ref (am 16)) 20 (by decide) hinX6_isPossible_X6 (rfl) (by decide +kernel) rfl dX6_isPossible_65 ?_
            refine V_iload X rfl dX6_isPossible_68 ?_
            refine V_mald X hR 16 (i) 18 (by decide) rfl (by omega) (by decide) (w := nI (ln i)) (hl1) dX6_isPossible_70 ?_
            refine V_callVp X (rest := _) (c_X6_fits _ _ _ am _ _ hR np hnp hp18 pt (ln i) hpt hl2 hzp (hzl i hlt)) hR.1 rfl gX6_isPossible_X6_fits rfl hdv_X6_fits (Nat.le_of_ble_eq_true rfl) (Nat.le_of_ble_eq_true rfl) rfl (Nat.le_of_ble_eq_true rfl) dX6_isPossible_71 ?_
            refine V_if_eq X (tgt := 81) (by decide) dX6_isPossible_74 (fun hc74 => ?_) (fun hc74 => ?_)
            · refine V_iconst X (v := 0) (by decide) dX6_isPossible_81 ?_
              refine V.top (y := bI (psF np mn (sc 3) ar ln st pt (i + 1))) (bI_f' (show (_ && okF _ _ _ _ _ _ _ _) = false from by simp [okF, bI_ne0 hc59, bI_eq0 hc74])) ?_
              refine V_istore X (lv' := [(4, _), (0, _), (1, _), (2, _), (3, _), (5, _)]) (by decide) rfl dX6_isPossible_82 ?_
              refine V_iinc X (lv' := [(5, _), (4, _), (0, _), (1, _), (2, _), (3, _)]) (v := nI (i + 1)) rfl (nI_1 _) (by decide) rfl dX6_isPossible_84 ?_
              refine V_goto X (tgt := 32) (by decide) dX6_isPossible_87 ?_
              refine V.lvs (lv' := [(0, _), (1, _), (2, _), (3, _), (4, _), (5, _)]) rfl ?_
              exact ih (mn - (i + 1)) (by omega) (i + 1) rfl (by omega)
            · refine V_iconst X (v := 1) (by decide) dX6_isPossible_77 ?_
              refine V_goto X (tgt := 82) (by decide) dX6_isPossible_78 ?_
              refine V.top (y := bI (psF np mn (sc 3) ar ln st pt (i + 1))) (bI_t' (show (_ && okF _ _ _ _ _ _ _ _) = true from by rw [bI_ne0 hc43]; simp [okF, bI_ne0 hc74])) ?_
              refine V_istore X (lv' := [(4, _), (0, _), (1, _), (2, _), (3, _), (5, _)]) (by decide) rfl dX6_isPossible_82 ?_
              refine V_iinc X (lv' := [(5, _), (4, _), (0, _), (1, _), (2, _), (3, _)]) (v := nI (i + 1)) rfl (nI_1 _) (by decide) rfl dX6_isPossible_84 ?_
              refine V_goto X (tgt := 32) (by decide) dX6_isPossible_87 ?_
              refine V.lvs (lv' := [(0, _), (1, _), (2, _), (3, _), (4, _), (5, _)]) rfl ?_
              exact ih (mn - (i + 1)) (by omega) (i + 1) rfl (by omega)
  refine V_iload_n X rfl dX6_isPossible_0 ?_
  refine V_callSp X (rest := _) (c_X6_size _ _ _ _) gX6_isPossible_X6_size rfl hds_X6_size (Nat.le_of_ble_eq_true rfl) (Nat.le_of_ble_eq_true rfl) rfl (Nat.le_of_ble_eq_true rfl) dX6_isPossible_1 ?_
  refine V_bipush X (v := 6) (by decide) dX6_isPossible_4 ?_
  refine V_icmp_gt X (tgt := 26) (by decide) dX6_isPossible_6 (fun hc6 => ?_) (fun hc6 => ?_)
  · refine V_iconst X (v := 0) (by decide) dX6_isPossible_26 ?_
    refine V.top (y := bI (psF np mn (sc 3) ar ln st pt 0)) (bI_f' (show (_ && _) = false from by rw [decide_eq_false (Int32.not_le.mpr hc6)]; rfl)) ?_
    refine V_istore X (lv' := [(4, _), (0, _), (1, _), (2, _), (3, _)]) (by decide) rfl dX6_isPossible_27 ?_
    refine V_iconst X (v := 0) (by decide) dX6_isPossible_29 ?_
    refine V_istore X (lv' := [(5, _), (4, _), (0, _), (1, _), (2, _), (3, _)]) (by decide) rfl dX6_isPossible_30 ?_
    refine V.lvs (lv' := [(0, _), (1, _), (2, _), (3, _), (4, _), (5, _)]) rfl ?_
    exact L mn 0 (by omega) (by omega)
  · refine V_aload_n X rfl dX6_isPossible_9 ?_
    refine V_iload_n X rfl dX6_isPossible_10 ?_
    refine V_callVp X (rest := _) (c_X6_playersOf _ _ _ am _ _ hR mn hmn hm18 ln hln _) hR.1 rfl gX6_isPossible_X6_playersOf rfl hdv_X6_playersOf (Nat.le_of_ble_eq_true rfl) (Nat.le_of_ble_eq_true rfl) rfl (Nat.le_of_ble_eq_true rfl) dX6_isPossible_11 ?_
    refine V_callSp X (rest := _) (c_X6_size _ _ _ _) gX6_isPossible_X6_size rfl hds_X6_size (Nat.le_of_ble_eq_true rfl) (Nat.le_of_ble_eq_true rfl) rfl (Nat.le_of_ble_eq_true rfl) dX6_isPossible_14 ?_
    refine V_bipush X (v := 6) (by decide) dX6_isPossible_17 ?_
    refine V_icmp_ne X (tgt := 26) (by decide) dX6_isPossible_19 (fun hc19 => ?_) (fun hc19 => ?_)
    · refine V_iconst X (v := 0) (by decide) dX6_isPossible_26 ?_
      refine V.top (y := bI (psF np mn (sc 3) ar ln st pt 0)) (bI_f' (show (_ && _) = false from by rw [decide_eq_false hc19, Bool.and_false])) ?_
      refine V_istore X (lv' := [(4, _), (0, _), (1, _), (2, _), (3, _)]) (by decide) rfl dX6_isPossible_27 ?_
      refine V_iconst X (v := 0) (by decide) dX6_isPossible_29 ?_
      refine V_istore X (lv' := [(5, _), (4, _), (0, _), (1, _), (2, _), (3, _)]) (by decide) rfl dX6_isPossible_30 ?_
      refine V.lvs (lv' := [(0, _), (1, _), (2, _), (3, _), (4, _), (5, _)]) rfl ?_
      exact L mn 0 (by omega) (by omega)
    · refine V_iconst X (v := 1) (by decide) dX6_isPossible_22 ?_
      refine V_goto X (tgt := 27) (by decide) dX6_isPossible_23 ?_
      refine V.top (y := bI (psF np mn (sc 3) ar ln st pt 0)) (bI_t' (show (_ && _) = true from by rw [decide_eq_true (Int32.not_lt.mp hc6), decide_eq_true hc19]; rfl)) ?_
      refine V_istore X (lv' := [(4, _), (0, _), (1, _), (2, _), (3, _)]) (by decide) rfl dX6_isPossible_27 ?_
      refine V_iconst X (v := 0) (by decide) dX6_isPossible_29 ?_
      refine V_istore X (lv' := [(5, _), (4, _), (0, _), (1, _), (2, _), (3, _)]) (by decide) rfl dX6_isPossible_30 ?_
      refine V.lvs (lv' := [(0, _), (1, _), (2, _), (3, _), (4, _), (5, _)]) rfl ?_
      exact L mn 0 (by omega) (by omega)
set_option maxHeartbeats 4000000 in
set_option maxRecDepth 100000 in
theorem c_X6_isPossible_t (l : Launch) (G : GG) (f : Wo) (am : Nat → Nat) (sc : Nat → Int32) (ar : Nat → Nat → Int32) (hR : RM G am sc ar f) (np : Nat) (hnp : sc 0 = nI np) (hp18 : np ≤ 18) (mn : Nat) (hmn : sc 4 = nI mn) (hm18 : mn ≤ 18) (ln : Nat → Nat) (hln : ∀ i, i < mn → ar 16 i = nI (ln i) ∧ ln i < 100) (hmem : ∀ i, i < mn → ∀ k, np ≤ k → k < 18 → hsI (ar 7 (ln i)) (nI k) = false) (st fi : Int32) (r : Nat) (hrest : st &&& (fi ^^^ (-1)) = nI r) (hr31 : r < 2 ^ 31) (pt : Nat) (hpt : pt < 100) (hzp : ¬ szI (ar 7 pt) = 0) (hzl : ∀ i, i < mn → ¬ szI (ar 7 (ln i)) = 0) (hps : psF np mn (sc 3) ar ln st pt mn = true) : Ct l yX6_isPossible wsX6_isPossible 4 123 G [.ref (am 0), .int st, .int fi, .int (nI pt)] f (fun v9 f' => v9 = some (.int (bI (decide (¬ (spG np mn ar ln fi r r r (0, sc 6)).1 = 0)))) ∧ RM G am (va_up (va_up sc 5 (spG np mn ar ln fi r r r (0, sc 6)).1) 6 (spG np mn ar ln fi r r r (0, sc 6)).2) (ar) f' ∧ FrM am f f') 0 0 := by
  refine Ct.of (cc := cX6_isPossible) (maxL := 6) (ret := (some .boolean)) (by decide) rfl (Nat.le_of_ble_eq_true rfl) (lv := [(0, _), (1, _), (2, _), (3, _)]) rfl (by simp [Value.category]) ?_
  intro K X hL hG hr hnm
  subst hL; subst hG
  have hF : FrM am f f := FrM.rf
  have L : ∀ (n i : Nat), mn - i = n → i ≤ mn → V K f 0 0 32 [(0, .ref (am 0)), (1, .int st), (2, .int fi), (3, .int (nI pt)), (4, .int (bI (psF np mn (sc 3) ar ln st pt i))), (5, .int (nI i))] [] := by
    intro n
    induction n using Nat.strongRecOn with
    | ind n ih =>
      intro i hn hi
      refine V_iload X rfl dX6_isPossible_32 ?_
      refine V_aload_n X rfl dX6_isPossible_34 ?_
      refine V_mget X hR (v := .int (nI mn)) 19 (by decide) hinX6_isPossible_X6 (congrArg (fun z => some (Value.int z)) (hmn)) (by decide +kernel) rfl dX6_isPossible_35 ?_
      refine V_icmp_ge X (tgt := 90) (by decide) dX6_isPossible_38 (fun hc38 => ?_) (fun hc38 => ?_)
      · have hi18 := lim_ge (N := mn) rfl hc38 hi (by omega)
        refine V_iload X rfl dX6_isPossible_90 ?_
        refine V_if_eq X (tgt := 108) (by decide) dX6_isPossible_92 (fun hc92 => absurd hc92 (by rw [hi18, hps]; decide)) (fun hc92 => ?_)
        refine V_aload_n X rfl dX6_isPossible_95 ?_
        refine V_iload_n X rfl dX6_isPossible_96 ?_
        refine V_iload_n X rfl dX6_isPossible_97 ?_
        refine V_callV (kc' := 0) (ks' := 0) X (rest := _) (c_X6_splits _ _ _ am _ _ hR np hnp hp18 mn hmn hm18 ln hln hmem st fi r hrest hr31) hR.1 rfl gX6_isPossible_X6_splits rfl hdv_X6_splits (Nat.le_of_ble_eq_true rfl) (Nat.le_of_ble_eq_true rfl) rfl (Nat.le_of_ble_eq_true rfl) (by omega) (by omega) dX6_isPossible_98 (fun r f1 hq => ?_)
        obtain ⟨rfl, hR, hF1⟩ := hq
        have hF := hF.trans hF1
        refine V_if_eq X (tgt := 108) (by decide) dX6_isPossible_101 (fun hc101 => ?_) (fun hc101 => ?_)
        · refine V_iconst X (v := 0) (by decide) dX6_isPossible_108 ?_
          exact V_zret X hr (by decide) (⟨bI_f (bI_eq0 hc101), hR, hF⟩) dX6_isPossible_109
        · refine V_iconst X (v := 1) (by decide) dX6_isPossible_104 ?_
          refine V_goto X (tgt := 109) (by decide) dX6_isPossible_105 ?_
          exact V_zret X hr (by decide) (⟨bI_t (bI_ne0 hc101), hR, hF⟩) dX6_isPossible_109
      · refine V_iload X rfl dX6_isPossible_41 ?_
        refine V_if_eq X (tgt := 90) (by decide) dX6_isPossible_43 (fun hc43 => ?_) (fun hc43 => ?_)
        · exact absurd (psF_f (bI_eq0 hc43) mn hi) (by rw [hps]; decide)
        · have hlt := lim_lt (N := mn) rfl hc38 hi (by omega)
          obtain ⟨hl1, hl2⟩ := hln i hlt
          refine V_iload_n X rfl dX6_isPossible_46 ?_
          refine V_aload_n X rfl dX6_isPossible_47 ?_
          refine V_mget X hR (v := .int (nI mn)) 19 (by decide) hinX6_isPossible_X6 (congrArg (fun z => some (Value.int z)) (hmn)) (by decide +kernel) rfl dX6_isPossible_48 ?_
          refine V_iconst X (v := 1) (by decide) dX6_isPossible_51 ?_
          refine V_isub X dX6_isPossible_52 ?_
          refine V_iload X rfl dX6_isPossible_53 ?_
          refine V_isub X dX6_isPossible_55 ?_
          refine V.top (y := nI (mn - 1 - i)) (nI_m1i hlt) ?_
          refine V_callSp X (rest := _) (c_X6_has _ _ _ _ _) gX6_isPossible_X6_has rfl hds_X6_has (Nat.le_of_ble_eq_true rfl) (Nat.le_of_ble_eq_true rfl) rfl (Nat.le_of_ble_eq_true rfl) dX6_isPossible_56 ?_
          refine V_if_eq X (tgt := 77) (by decide) dX6_isPossible_59 (fun hc59 => ?_) (fun hc59 => ?_)
          · refine V_iconst X (v := 1) (by decide) dX6_isPossible_77 ?_
            refine V_goto X (tgt := 82) (by decide) dX6_isPossible_78 ?_
            refine V.top (y := bI (psF np mn (sc 3) ar ln st pt (i + 1))) (bI_t' (show (_ && okF _ _ _ _ _ _ _ _) = true from by rw [bI_ne0 hc43]; simp [okF, bI_eq0 hc59])) ?_
            refine V_istore X (lv' := [(4, _), (0, _), (1, _), (2, _), (3, _), (5, _)]) (by decide) rfl dX6_isPossible_82 ?_
            refine V_iinc X (lv' := [(5, _), (4, _), (0, _), (1, _), (2, _), (3, _)]) (v := nI (i + 1)) rfl (nI_1 _) (by decide) rfl dX6_isPossible_84 ?_
            refine V_goto X (tgt := 32) (by decide) dX6_isPossible_87 ?_
            refine V.lvs (lv' := [(0, _), (1, _), (2, _), (3, _), (4, _), (5, _)]) rfl ?_
            exact ih (mn - (i + 1)) (by omega) (i + 1) rfl (by omega)
          · refine V_aload_n X rfl dX6_isPossible_62 ?_
            refine V_iload_n X rfl dX6_isPossible_63 ?_
            refine V_aload_n X rfl dX6_isPossible_64 ?_
            refine V_mget X hR (v := .ref (am 16)) 20 (by decide) hinX6_isPossible_X6 (rfl) (by decide +kernel) rfl dX6_isPossible_65 ?_
            refine V_iload X rfl dX6_isPossible_68 ?_
            refine V_mald X hR 16 (i) 18 (by decide) rfl (by omega) (by decide) (w := nI (ln i)) (hl1) dX6_isPossible_70 ?_
            refine V_callVp X (rest := _) (c_X6_fits _ _ _ am _ _ hR np hnp hp18 pt (ln i) hpt hl2 hzp (hzl i hlt)) hR.1 rfl gX6_isPossible_X6_fits rfl hdv_X6_fits (Nat.le_of_ble_eq_true rfl) (Nat.le_of_ble_eq_true rfl) rfl (Nat.le_of_ble_eq_true rfl) dX6_isPossible_71 ?_
            refine V_if_eq X (tgt := 81) (by decide) dX6_isPossible_74 (fun hc74 => ?_) (fun hc74 => ?_)
            · refine V_iconst X (v := 0) (by decide) dX6_isPossible_81 ?_
              refine V.top (y := bI (psF np mn (sc 3) ar ln st pt (i + 1))) (bI_f' (show (_ && okF _ _ _ _ _ _ _ _) = false from by simp [okF, bI_ne0 hc59, bI_eq0 hc74])) ?_
              refine V_istore X (lv' := [(4, _), (0, _), (1, _), (2, _), (3, _), (5, _)]) (by decide) rfl dX6_isPossible_82 ?_
              refine V_iinc X (lv' := [(5, _), (4, _), (0, _), (1, _), (2, _), (3, _)]) (v := nI (i + 1)) rfl (nI_1 _) (by decide) rfl dX6_isPossible_84 ?_
              refine V_goto X (tgt := 32) (by decide) dX6_isPossible_87 ?_
              refine V.lvs (lv' := [(0, _), (1, _), (2, _), (3, _), (4, _), (5, _)]) rfl ?_
              exact ih (mn - (i + 1)) (by omega) (i + 1) rfl (by omega)
            · refine V_iconst X (v := 1) (by decide) dX6_isPossible_77 ?_
              refine V_goto X (tgt := 82) (by decide) dX6_isPossible_78 ?_
              refine V.top (y := bI (psF np mn (sc 3) ar ln st pt (i + 1))) (bI_t' (show (_ && okF _ _ _ _ _ _ _ _) = true from by rw [bI_ne0 hc43]; simp [okF, bI_ne0 hc74])) ?_
              refine V_istore X (lv' := [(4, _), (0, _), (1, _), (2, _), (3, _), (5, _)]) (by decide) rfl dX6_isPossible_82 ?_
              refine V_iinc X (lv' := [(5, _), (4, _), (0, _), (1, _), (2, _), (3, _)]) (v := nI (i + 1)) rfl (nI_1 _) (by decide) rfl dX6_isPossible_84 ?_
              refine V_goto X (tgt := 32) (by decide) dX6_isPossible_87 ?_
              refine V.lvs (lv' := [(0, _), (1, _), (2, _), (3, _), (4, _), (5, _)]) rfl ?_
              exact ih (mn - (i + 1)) (by omega) (i + 1) rfl (by omega)
  refine V_iload_n X rfl dX6_isPossible_0 ?_
  refine V_callSp X (rest := _) (c_X6_size _ _ _ _) gX6_isPossible_X6_size rfl hds_X6_size (Nat.le_of_ble_eq_true rfl) (Nat.le_of_ble_eq_true rfl) rfl (Nat.le_of_ble_eq_true rfl) dX6_isPossible_1 ?_
  refine V_bipush X (v := 6) (by decide) dX6_isPossible_4 ?_
  refine V_icmp_gt X (tgt := 26) (by decide) dX6_isPossible_6 (fun hc6 => ?_) (fun hc6 => ?_)
  · refine V_iconst X (v := 0) (by decide) dX6_isPossible_26 ?_
    refine V.top (y := bI (psF np mn (sc 3) ar ln st pt 0)) (bI_f' (show (_ && _) = false from by rw [decide_eq_false (Int32.not_le.mpr hc6)]; rfl)) ?_
    refine V_istore X (lv' := [(4, _), (0, _), (1, _), (2, _), (3, _)]) (by decide) rfl dX6_isPossible_27 ?_
    refine V_iconst X (v := 0) (by decide) dX6_isPossible_29 ?_
    refine V_istore X (lv' := [(5, _), (4, _), (0, _), (1, _), (2, _), (3, _)]) (by decide) rfl dX6_isPossible_30 ?_
    refine V.lvs (lv' := [(0, _), (1, _), (2, _), (3, _), (4, _), (5, _)]) rfl ?_
    exact L mn 0 (by omega) (by omega)
  · refine V_aload_n X rfl dX6_isPossible_9 ?_
    refine V_iload_n X rfl dX6_isPossible_10 ?_
    refine V_callVp X (rest := _) (c_X6_playersOf _ _ _ am _ _ hR mn hmn hm18 ln hln _) hR.1 rfl gX6_isPossible_X6_playersOf rfl hdv_X6_playersOf (Nat.le_of_ble_eq_true rfl) (Nat.le_of_ble_eq_true rfl) rfl (Nat.le_of_ble_eq_true rfl) dX6_isPossible_11 ?_
    refine V_callSp X (rest := _) (c_X6_size _ _ _ _) gX6_isPossible_X6_size rfl hds_X6_size (Nat.le_of_ble_eq_true rfl) (Nat.le_of_ble_eq_true rfl) rfl (Nat.le_of_ble_eq_true rfl) dX6_isPossible_14 ?_
    refine V_bipush X (v := 6) (by decide) dX6_isPossible_17 ?_
    refine V_icmp_ne X (tgt := 26) (by decide) dX6_isPossible_19 (fun hc19 => ?_) (fun hc19 => ?_)
    · refine V_iconst X (v := 0) (by decide) dX6_isPossible_26 ?_
      refine V.top (y := bI (psF np mn (sc 3) ar ln st pt 0)) (bI_f' (show (_ && _) = false from by rw [decide_eq_false hc19, Bool.and_false])) ?_
      refine V_istore X (lv' := [(4, _), (0, _), (1, _), (2, _), (3, _)]) (by decide) rfl dX6_isPossible_27 ?_
      refine V_iconst X (v := 0) (by decide) dX6_isPossible_29 ?_
      refine V_istore X (lv' := [(5, _), (4, _), (0, _), (1, _), (2, _), (3, _)]) (by decide) rfl dX6_isPossible_30 ?_
      refine V.lvs (lv' := [(0, _), (1, _), (2, _), (3, _), (4, _), (5, _)]) rfl ?_
      exact L mn 0 (by omega) (by omega)
    · refine V_iconst X (v := 1) (by decide) dX6_isPossible_22 ?_
      refine V_goto X (tgt := 27) (by decide) dX6_isPossible_23 ?_
      refine V.top (y := bI (psF np mn (sc 3) ar ln st pt 0)) (bI_t' (show (_ && _) = true from by rw [decide_eq_true (Int32.not_lt.mp hc6), decide_eq_true hc19]; rfl)) ?_
      refine V_istore X (lv' := [(4, _), (0, _), (1, _), (2, _), (3, _)]) (by decide) rfl dX6_isPossible_27 ?_
      refine V_iconst X (v := 0) (by decide) dX6_isPossible_29 ?_
      refine V_istore X (lv' := [(5, _), (4, _), (0, _), (1, _), (2, _), (3, _)]) (by decide) rfl dX6_isPossible_30 ?_
      refine V.lvs (lv' := [(0, _), (1, _), (2, _), (3, _), (4, _), (5, _)]) rfl ?_
      exact L mn 0 (by omega) (by omega)
/-- the arrays while a match m takes the line's parties of a set -/
def tkA (np m t : Nat) (A : Nat → Nat → Int32) : Nat → Nat → Int32 := va_up (va_up (va_up A 9 (va_up (A 9) t 0)) 10 (va_up (A 10) t (nI m))) 5 (becF np (A 7 t) 2 (A 5))
def mkA (np mn m : Nat) (ln : Nat → Nat) (st : Int32) (A : Nat → Nat → Int32) : Nat → (Nat → Nat → Int32)
  | 0 => A
  | i + 1 => if hsI st (nI (mn - 1 - i)) = true then tkA np m (ln i) (mkA np mn m ln st A i) else mkA np mn m ln st A i
theorem mkA_o {np mn m : Nat} {ln : Nat → Nat} {st : Int32} {A : Nat → Nat → Int32} {j : Nat} (h5 : j ≠ 5) (h9 : j ≠ 9) (h10 : j ≠ 10) : ∀ i, mkA np mn m ln st A i j = A j
  | 0 => rfl
  | i + 1 => by
    show (if hsI st (nI (mn - 1 - i)) = true then tkA np m (ln i) (mkA np mn m ln st A i) else mkA np mn m ln st A i) j = A j
    split
    · unfold tkA
      rw [va_up_ne _ _ h5, va_up_ne _ _ h10, va_up_ne _ _ h9]
      exact mkA_o h5 h9 h10 i
    · exact mkA_o h5 h9 h10 i
def hdA (nm : Nat) (t0 t1 df ck : Int32) (ar : Nat → Nat → Int32) : Nat → Nat → Int32 := fun j => if j = 11 then va_up (va_up (ar 11) (2 * nm) t0) (2 * nm + 1) t1 else if j = 12 then va_up (ar 12) nm df else if j = 13 then va_up (ar 13) nm ck else if j = 14 then va_up (ar 14) nm 0 else if j = 15 then va_up (ar 15) nm 0 else ar j
theorem hdA_eq (nm : Nat) (t0 t1 df ck : Int32) (ar : Nat → Nat → Int32) : va_up (va_up (va_up (va_up (va_up ar 11 (va_up (va_up (ar 11) (2 * nm) t0) (2 * nm + 1) t1)) 12 (va_up (ar 12) nm df)) 13 (va_up (ar 13) nm ck)) 14 (va_up (ar 14) nm 0)) 15 (va_up (ar 15) nm 0) = hdA nm t0 t1 df ck ar := by
  funext j
  unfold hdA
  by_cases e15 : j = 15
  · subst e15; rw [va_up_self]; rfl
  rw [va_up_ne _ _ e15]
  by_cases e14 : j = 14
  · subst e14; rw [va_up_self]; rfl
  rw [va_up_ne _ _ e14]
  by_cases e13 : j = 13
  · subst e13; rw [va_up_self]; rfl
  rw [va_up_ne _ _ e13]
  by_cases e12 : j = 12
  · subst e12; rw [va_up_self]; rfl
  rw [va_up_ne _ _ e12]
  by_cases e11 : j = 11
  · subst e11; rw [va_up_self, if_pos rfl]
  rw [va_up_ne _ _ e11, if_neg e11, if_neg e12, if_neg e13, if_neg e14, if_neg e15]
theorem hinX6_makes_X6 : ∀ w ∈ wsX60, w ∈ wsX6_makes := by decide +kernel
set_option maxHeartbeats 4000000 in
set_option maxRecDepth 100000 in
theorem c_X6_makes (l : Launch) (G : GG) (f : Wo) (am : Nat → Nat) (sc : Nat → Int32) (ar : Nat → Nat → Int32) (hR : RM G am sc ar f) (np : Nat) (hnp : sc 0 = nI np) (hp18 : np ≤ 18) (mn : Nat) (hmn : sc 4 = nI mn) (hm18 : mn ≤ 18) (ln : Nat → Nat) (hln : ∀ i, i < mn → ar 16 i = nI (ln i) ∧ ln i < 100) (nm : Nat) (hnm2 : sc 2 = nI nm) (hm600 : nm < 600) (st : Int32) : Ct l yX6_makes wsX6_makes 3 88 G [.ref (am 0), .int st] f (fun v9 f' => v9 = some (.int (nI nm)) ∧ RM G am (va_up sc 2 (nI nm + 1)) (mkA np mn nm ln st (hdA nm (plI mn (sc 5) ln (ar 7) mn) (plI mn (st &&& (sc 5 ^^^ (-1))) ln (ar 7) mn) (sc 6) (sc 3) ar) mn) f' ∧ FrM am f f') 0 0 := by
  refine Ct.of (cc := cX6_makes) (maxL := 3) (ret := (some .int)) (by decide) rfl (Nat.le_of_ble_eq_true rfl) (lv := [(0, _), (1, _)]) rfl (by simp [Value.category]) ?_
  intro K X hL hG hr hnm
  subst hL; subst hG
  have hF : FrM am f f := FrM.rf
  obtain ⟨f0, hf0⟩ : ∃ z, z = f := ⟨_, rfl⟩
  have L : ∀ (n i : Nat), mn - i = n → i ≤ mn → ∀ fw : Wo, RM (kG K) am sc (mkA np mn nm ln st (hdA nm (plI mn (sc 5) ln (ar 7) mn) (plI mn (st &&& (sc 5 ^^^ (-1))) ln (ar 7) mn) (sc 6) (sc 3) ar) i) fw → FrM am f0 fw → V K fw 0 0 92 [(0, .ref (am 0)), (1, .int st), (2, .int (nI i))] [] := by
    intro n
    induction n using Nat.strongRecOn with
    | ind n ih =>
      intro i hn hi f hR hF
      refine V_iload_n X rfl dX6_makes_92 ?_
      refine V_aload_n X rfl dX6_makes_93 ?_
      refine V_mget X hR (v := .int (nI mn)) 19 (by decide) hinX6_makes_X6 (congrArg (fun z => some (Value.int z)) (hmn)) (by decide +kernel) rfl dX6_makes_94 ?_
      refine V_icmp_ge X (tgt := 164) (by decide) dX6_makes_97 (fun hc97 => ?_) (fun hc97 => ?_)
      · have hi18 := lim_ge (N := mn) rfl hc97 hi (by omega)
        rw [hi18] at hR
        refine V_aload_n X rfl dX6_makes_164 ?_
        refine V_dup X rfl dX6_makes_165 ?_
        refine V_mget X hR (v := .int (nI nm)) 12 (by decide) hinX6_makes_X6 (congrArg (fun z => some (Value.int z)) (hnm2)) (by decide +kernel) rfl dX6_makes_166 ?_
        refine V_iconst X (v := 1) (by decide) dX6_makes_169 ?_
        refine V_iadd X dX6_makes_170 ?_
        refine V_mput X hR hF 2 12 (by decide) hinX6_makes_X6 rfl (by decide +kernel) rfl rfl rfl dX6_makes_171 (fun f hR hF => ?_)
        refine V_aload_n X rfl dX6_makes_174 ?_
        refine V_mget X hR (v := .int (nI nm + 1)) 12 (by decide) hinX6_makes_X6 (congrArg (fun z => some (Value.int z)) (rfl)) (by decide +kernel) rfl dX6_makes_175 ?_
        refine V_iconst X (v := 1) (by decide) dX6_makes_178 ?_
        refine V_isub X dX6_makes_179 ?_
        refine V.top (y := nI nm) (by rw [nI_1]; exact nI_pred nm) ?_
        exact V_iret X hr (⟨rfl, hR, by rw [← hf0]; exact hF⟩) dX6_makes_180
      · have hlt := lim_lt (N := mn) rfl hc97 hi (by omega)
        obtain ⟨hl1, hl2⟩ := hln i hlt
        refine V_iload_n X rfl dX6_makes_100 ?_
        refine V_aload_n X rfl dX6_makes_101 ?_
        refine V_mget X hR (v := .int (nI mn)) 19 (by decide) hinX6_makes_X6 (congrArg (fun z => some (Value.int z)) (hmn)) (by decide +kernel) rfl dX6_makes_102 ?_
        refine V_iconst X (v := 1) (by decide) dX6_makes_105 ?_
        refine V_isub X dX6_makes_106 ?_
        refine V_iload_n X rfl dX6_makes_107 ?_
        refine V_isub X dX6_makes_108 ?_
        refine V.top (y := nI (mn - 1 - i)) (nI_m1i hlt) ?_
        refine V_callSp X (rest := _) (c_X6_has _ _ _ _ _) gX6_makes_X6_has rfl hds_X6_has (Nat.le_of_ble_eq_true rfl) (Nat.le_of_ble_eq_true rfl) rfl (Nat.le_of_ble_eq_true rfl) dX6_makes_109 ?_
        refine V_if_eq X (tgt := 158) (by decide) dX6_makes_112 (fun hc112 => ?_) (fun hc112 => ?_)
        · refine V_iinc X (lv' := [(2, _), (0, _), (1, _)]) (v := nI (i + 1)) rfl (nI_1 _) (by decide) rfl dX6_makes_158 ?_
          refine V_goto X (tgt := 92) (by decide) dX6_makes_161 ?_
          refine V.lvs (lv' := [(0, _), (1, _), (2, _)]) rfl ?_
          exact ih (mn - (i + 1)) (by omega) (i + 1) rfl (by omega) _ (by rw [show mkA np mn nm ln st (hdA nm (plI mn (sc 5) ln (ar 7) mn) (plI mn (st &&& (sc 5 ^^^ (-1))) ln (ar 7) mn) (sc 6) (sc 3) ar) (i + 1) = mkA np mn nm ln st (hdA nm (plI mn (sc 5) ln (ar 7) mn) (plI mn (st &&& (sc 5 ^^^ (-1))) ln (ar 7) mn) (sc 6) (sc 3) ar) i from if_neg (by rw [bI_eq0 hc112]; decide)]; exact hR) hF
        · refine V_aload_n X rfl dX6_makes_115 ?_
          refine V_mget X hR (v := .ref (am 9)) 10 (by decide) hinX6_makes_X6 (rfl) (by decide +kernel) rfl dX6_makes_116 ?_
          refine V_aload_n X rfl dX6_makes_119 ?_
          refine V_mget X hR (v := .ref (am 16)) 20 (by decide) hinX6_makes_X6 (rfl) (by decide +kernel) rfl dX6_makes_120 ?_
          refine V_iload_n X rfl dX6_makes_123 ?_
          refine V_mald X hR 16 (i) 18 (by decide) rfl (by omega) (by decide) (w := nI (ln i)) (by rw [mkA_o (by decide) (by decide) (by decide)]; exact hl1) dX6_makes_124 ?_
          refine V_iconst X (v := 0) (by decide) dX6_makes_125 ?_
          refine V_mzst X hR hF ((ln i)) (by omega) (by decide) dX6_makes_126 (fun f hR hF => ?_)
          refine V_aload_n X rfl dX6_makes_127 ?_
          refine V_mget X hR (v := .ref (am 10)) 11 (by decide) hinX6_makes_X6 (rfl) (by decide +kernel) rfl dX6_makes_128 ?_
          refine V_aload_n X rfl dX6_makes_131 ?_
          refine V_mget X hR (v := .ref (am 16)) 20 (by decide) hinX6_makes_X6 (rfl) (by decide +kernel) rfl dX6_makes_132 ?_
          refine V_iload_n X rfl dX6_makes_135 ?_
          refine V_mald X hR 16 (i) 18 (by decide) rfl (by omega) (by decide) (w := nI (ln i)) (by rw [va_up_ne _ _ (by decide), mkA_o (by decide) (by decide) (by decide)]; exact hl1) dX6_makes_136 ?_
          refine V_aload_n X rfl dX6_makes_137 ?_
          refine V_mget X hR (v := .int (nI nm)) 12 (by decide) hinX6_makes_X6 (congrArg (fun z => some (Value.int z)) (hnm2)) (by decide +kernel) rfl dX6_makes_138 ?_
          refine V_mast X hR hF 10 ((ln i)) 100 (by decide) rfl (by omega) (by decide) dX6_makes_141 (fun f hR hF => ?_)
          refine V_aload_n X rfl dX6_makes_142 ?_
          refine V_aload_n X rfl dX6_makes_143 ?_
          refine V_mget X hR (v := .ref (am 7)) 8 (by decide) hinX6_makes_X6 (rfl) (by decide +kernel) rfl dX6_makes_144 ?_
          refine V_aload_n X rfl dX6_makes_147 ?_
          refine V_mget X hR (v := .ref (am 16)) 20 (by decide) hinX6_makes_X6 (rfl) (by decide +kernel) rfl dX6_makes_148 ?_
          refine V_iload_n X rfl dX6_makes_151 ?_
          refine V_mald X hR 16 (i) 18 (by decide) rfl (by omega) (by decide) (w := nI (ln i)) (by rw [va_up_ne _ _ (by decide), va_up_ne _ _ (by decide), mkA_o (by decide) (by decide) (by decide)]; exact hl1) dX6_makes_152 ?_
          refine V_mald X hR 7 ((ln i)) 100 (by decide) rfl (by omega) (by decide) (w := mkA np mn nm ln st (hdA nm (plI mn (sc 5) ln (ar 7) mn) (plI mn (st &&& (sc 5 ^^^ (-1))) ln (ar 7) mn) (sc 6) (sc 3) ar) i 7 (ln i)) (rfl) dX6_makes_153 ?_
          refine V_iconst X (v := 2) (by decide) dX6_makes_154 ?_
          refine V_callV (kc' := 0) (ks' := 0) X (rest := _) (c_X6_become _ _ _ am _ _ hR np hnp hp18 _ _) hR.1 rfl gX6_makes_X6_become rfl hdv_X6_become (Nat.le_of_ble_eq_true rfl) (Nat.le_of_ble_eq_true rfl) rfl (Nat.le_of_ble_eq_true rfl) (by omega) (by omega) dX6_makes_155 (fun r f1 hq => ?_)
          obtain ⟨rfl, hR, hF1⟩ := hq
          have hF := hF.trans hF1
          refine V_iinc X (lv' := [(2, _), (0, _), (1, _)]) (v := nI (i + 1)) rfl (nI_1 _) (by decide) rfl dX6_makes_158 ?_
          refine V_goto X (tgt := 92) (by decide) dX6_makes_161 ?_
          refine V.lvs (lv' := [(0, _), (1, _), (2, _)]) rfl ?_
          exact ih (mn - (i + 1)) (by omega) (i + 1) rfl (by omega) _ (by rw [show mkA np mn nm ln st (hdA nm (plI mn (sc 5) ln (ar 7) mn) (plI mn (st &&& (sc 5 ^^^ (-1))) ln (ar 7) mn) (sc 6) (sc 3) ar) (i + 1) = tkA np nm (ln i) (mkA np mn nm ln st (hdA nm (plI mn (sc 5) ln (ar 7) mn) (plI mn (st &&& (sc 5 ^^^ (-1))) ln (ar 7) mn) (sc 6) (sc 3) ar) i) from if_pos (bI_ne0 hc112)]; exact hR) hF
  refine V_aload_n X rfl dX6_makes_0 ?_
  refine V_mget X hR (v := .ref (am 11)) 13 (by decide) hinX6_makes_X6 (rfl) (by decide +kernel) rfl dX6_makes_1 ?_
  refine V_iconst X (v := 2) (by decide) dX6_makes_4 ?_
  refine V_aload_n X rfl dX6_makes_5 ?_
  refine V_mget X hR (v := .int (nI nm)) 12 (by decide) hinX6_makes_X6 (congrArg (fun z => some (Value.int z)) (hnm2)) (by decide +kernel) rfl dX6_makes_6 ?_
  refine V_imul X dX6_makes_9 ?_
  refine V.top (y := nI (2 * nm)) (nI_2m nm) ?_
  refine V_aload_n X rfl dX6_makes_10 ?_
  refine V_aload_n X rfl dX6_makes_11 ?_
  refine V_mget X hR (v := .int (sc 5)) 21 (by decide) hinX6_makes_X6 (congrArg (fun z => some (Value.int z)) (rfl)) (by decide +kernel) rfl dX6_makes_12 ?_
  refine V_callVp X (rest := _) (c_X6_playersOf _ _ _ am _ _ hR mn hmn hm18 ln hln _) hR.1 rfl gX6_makes_X6_playersOf rfl hdv_X6_playersOf (Nat.le_of_ble_eq_true rfl) (Nat.le_of_ble_eq_true rfl) rfl (Nat.le_of_ble_eq_true rfl) dX6_makes_15 ?_
  refine V_mast X hR hF 11 (2 * nm) 1200 (by decide) rfl (by omega) (by decide) dX6_makes_18 (fun f hR hF => ?_)
  refine V_aload_n X rfl dX6_makes_19 ?_
  refine V_mget X hR (v := .ref (am 11)) 13 (by decide) hinX6_makes_X6 (rfl) (by decide +kernel) rfl dX6_makes_20 ?_
  refine V_iconst X (v := 2) (by decide) dX6_makes_23 ?_
  refine V_aload_n X rfl dX6_makes_24 ?_
  refine V_mget X hR (v := .int (nI nm)) 12 (by decide) hinX6_makes_X6 (congrArg (fun z => some (Value.int z)) (hnm2)) (by decide +kernel) rfl dX6_makes_25 ?_
  refine V_imul X dX6_makes_28 ?_
  refine V.top (y := nI (2 * nm)) (nI_2m nm) ?_
  refine V_iconst X (v := 1) (by decide) dX6_makes_29 ?_
  refine V_iadd X dX6_makes_30 ?_
  refine V.top (y := nI (2 * nm + 1)) (nI_2m1 nm) ?_
  refine V_aload_n X rfl dX6_makes_31 ?_
  refine V_iload_n X rfl dX6_makes_32 ?_
  refine V_aload_n X rfl dX6_makes_33 ?_
  refine V_mget X hR (v := .int (sc 5)) 21 (by decide) hinX6_makes_X6 (congrArg (fun z => some (Value.int z)) (rfl)) (by decide +kernel) rfl dX6_makes_34 ?_
  refine V_iconst X (v := (-1)) (by decide) dX6_makes_37 ?_
  refine V_ixor X dX6_makes_38 ?_
  refine V_iand X dX6_makes_39 ?_
  refine V_callVp X (rest := _) (c_X6_playersOf _ _ _ am _ _ hR mn hmn hm18 ln hln _) hR.1 rfl gX6_makes_X6_playersOf rfl hdv_X6_playersOf (Nat.le_of_ble_eq_true rfl) (Nat.le_of_ble_eq_true rfl) rfl (Nat.le_of_ble_eq_true rfl) dX6_makes_40 ?_
  refine V_mast X hR hF 11 (2 * nm + 1) 1200 (by decide) rfl (by omega) (by decide) dX6_makes_43 (fun f hR hF => ?_)
  rw [va_up_up, va_up_self] at hR
  refine V_aload_n X rfl dX6_makes_44 ?_
  refine V_mget X hR (v := .ref (am 12)) 14 (by decide) hinX6_makes_X6 (rfl) (by decide +kernel) rfl dX6_makes_45 ?_
  refine V_aload_n X rfl dX6_makes_48 ?_
  refine V_mget X hR (v := .int (nI nm)) 12 (by decide) hinX6_makes_X6 (congrArg (fun z => some (Value.int z)) (hnm2)) (by decide +kernel) rfl dX6_makes_49 ?_
  refine V_aload_n X rfl dX6_makes_52 ?_
  refine V_mget X hR (v := .int (sc 6)) 22 (by decide) hinX6_makes_X6 (congrArg (fun z => some (Value.int z)) (rfl)) (by decide +kernel) rfl dX6_makes_53 ?_
  refine V_mast X hR hF 12 (nm) 600 (by decide) rfl (by omega) (by decide) dX6_makes_56 (fun f hR hF => ?_)
  rw [va_up_ne (k := 11) (j := 12) _ _ (by decide)] at hR
  refine V_aload_n X rfl dX6_makes_57 ?_
  refine V_mget X hR (v := .ref (am 13)) 15 (by decide) hinX6_makes_X6 (rfl) (by decide +kernel) rfl dX6_makes_58 ?_
  refine V_aload_n X rfl dX6_makes_61 ?_
  refine V_mget X hR (v := .int (nI nm)) 12 (by decide) hinX6_makes_X6 (congrArg (fun z => some (Value.int z)) (hnm2)) (by decide +kernel) rfl dX6_makes_62 ?_
  refine V_aload_n X rfl dX6_makes_65 ?_
  refine V_mget X hR (v := .int (sc 3)) 18 (by decide) hinX6_makes_X6 (congrArg (fun z => some (Value.int z)) (rfl)) (by decide +kernel) rfl dX6_makes_66 ?_
  refine V_mast X hR hF 13 (nm) 600 (by decide) rfl (by omega) (by decide) dX6_makes_69 (fun f hR hF => ?_)
  rw [va_up_ne (k := 12) (j := 13) _ _ (by decide), va_up_ne (k := 11) (j := 13) _ _ (by decide)] at hR
  refine V_aload_n X rfl dX6_makes_70 ?_
  refine V_mget X hR (v := .ref (am 14)) 16 (by decide) hinX6_makes_X6 (rfl) (by decide +kernel) rfl dX6_makes_71 ?_
  refine V_aload_n X rfl dX6_makes_74 ?_
  refine V_mget X hR (v := .int (nI nm)) 12 (by decide) hinX6_makes_X6 (congrArg (fun z => some (Value.int z)) (hnm2)) (by decide +kernel) rfl dX6_makes_75 ?_
  refine V_iconst X (v := 0) (by decide) dX6_makes_78 ?_
  refine V_mast X hR hF 14 (nm) 600 (by decide) rfl (by omega) (by decide) dX6_makes_79 (fun f hR hF => ?_)
  refine V_aload_n X rfl dX6_makes_80 ?_
  rw [va_up_ne (k := 13) (j := 14) _ _ (by decide), va_up_ne (k := 12) (j := 14) _ _ (by decide), va_up_ne (k := 11) (j := 14) _ _ (by decide)] at hR
  refine V_mget X hR (v := .ref (am 15)) 17 (by decide) hinX6_makes_X6 (rfl) (by decide +kernel) rfl dX6_makes_81 ?_
  refine V_aload_n X rfl dX6_makes_84 ?_
  refine V_mget X hR (v := .int (nI nm)) 12 (by decide) hinX6_makes_X6 (congrArg (fun z => some (Value.int z)) (hnm2)) (by decide +kernel) rfl dX6_makes_85 ?_
  refine V_iconst X (v := 0) (by decide) dX6_makes_88 ?_
  refine V_mast X hR hF 15 (nm) 600 (by decide) rfl (by omega) (by decide) dX6_makes_89 (fun f hR hF => ?_)
  rw [va_up_ne (k := 14) (j := 15) _ _ (by decide), va_up_ne (k := 13) (j := 15) _ _ (by decide), va_up_ne (k := 12) (j := 15) _ _ (by decide), va_up_ne (k := 11) (j := 15) _ _ (by decide)] at hR
  refine V_iconst X (v := 0) (by decide) dX6_makes_90 ?_
  refine V_istore_n X (lv' := [(2, _), (0, _), (1, _)]) (by decide) rfl dX6_makes_91 ?_
  refine V.lvs (lv' := [(0, _), (1, _), (2, _)]) rfl ?_
  exact L mn 0 (by omega) (by omega) _ (by show RM _ am sc (hdA nm (plI mn (sc 5) ln (ar 7) mn) (plI mn (st &&& (sc 5 ^^^ (-1))) ln (ar 7) mn) (sc 6) (sc 3) ar) _; rw [← hdA_eq]; exact hR) (by rw [hf0]; exact hF)
