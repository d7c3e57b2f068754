theorem hinX6_queue_X6 : ∀ w ∈ wsX60, w ∈ wsX6_queue := by decide +kernel
theorem bI_f' {b : Bool} (h : b = false) : (0 : Int32) = bI b := by subst h; rfl
theorem bI_t' {b : Bool} (h : b = true) : (1 : Int32) = bI b := by subst h; rfl
def gdB (np : Nat) (s : Int32) : Bool := decide (0 < s) && (decide (s < 1 <<< (nI np &&& 31)) && decide (szI s ≤ 3))
def okB (st br : Nat → Int32) (ck s : Int32) (k : Nat) : Bool := !hsI s (nI k) || (decide (st k = 0) && decide (br k ≤ ck))
def frB (pn : Int32) (st br : Nat → Int32) (ck s : Int32) : Nat → Bool
  | 0 => decide (¬ 100 ≤ pn)
  | i + 1 => frB pn st br ck s i && okB st br ck s i
section QPRE
set_option maxHeartbeats 4000000 in
set_option maxRecDepth 100000 in
theorem q_X6_queue {K : VK} {f : Wo} {am : Nat → Nat} {sc : Nat → Int32} {ar : Nat → Nat → Int32} {s : Int32} {np : Nat} (X : CX K cX6_queue yX6_queue.cls wsX6_queue 5 3 88) (hR : RM (kG K) am sc ar f) (hnp : sc 0 = nI np) (hp18 : np ≤ 18) (kk : V K f 0 0 104 [(0, .ref (am 0)), (1, .int s), (2, .int (bI (gdB np s))), (3, .int (bI (frB (sc 1) (ar 5) (ar 6) (sc 3) s np))), (4, .int (nI np))] []) : V K f 0 0 0 [(0, .ref (am 0)), (1, .int s)] [] := by
  have L : ∀ (n i : Nat), np - i = n → i ≤ np → V K f 0 0 46 [(0, .ref (am 0)), (1, .int s), (2, .int (bI (gdB np s))), (3, .int (bI (frB (sc 1) (ar 5) (ar 6) (sc 3) s i))), (4, .int (nI i))] [] := by
    intro n
    induction n using Nat.strongRecOn with
    | ind n ih =>
      intro i hn hi
      refine V_iload X rfl dX6_queue_46 ?_
      refine V_aload_n X rfl dX6_queue_48 ?_
      refine V_mget X hR (v := .int (nI np)) 0 (by decide) hinX6_queue_X6 (congrArg (fun z => some (Value.int z)) (hnp)) (by decide +kernel) rfl dX6_queue_49 ?_
      refine V_icmp_ge X (tgt := 104) (by decide) dX6_queue_52 (fun hc52 => ?_) (fun hc52 => ?_)
      · have hi18 := lim_ge (N := np) rfl hc52 hi (by omega)
        subst hi18
        exact kk
      · have hlt := lim_lt (N := np) rfl hc52 hi (by omega)
        refine V_iload_n X rfl dX6_queue_55 ?_
        refine V_if_eq X (tgt := 96) (by decide) dX6_queue_56 (fun hc56 => ?_) (fun hc56 => ?_)
        · refine V_iconst X (v := 0) (by decide) dX6_queue_96 ?_
          refine V.top (y := bI (frB (sc 1) (ar 5) (ar 6) (sc 3) s (i + 1))) (bI_f' (by show (_ && _) = false; rw [bI_eq0 hc56]; rfl)) ?_
          refine V_istore_n X (lv' := [(3, _), (0, _), (1, _), (2, _), (4, _)]) (by decide) rfl dX6_queue_97 ?_
          refine V_iinc X (lv' := [(4, _), (3, _), (0, _), (1, _), (2, _)]) (v := nI (i + 1)) rfl (nI_1 _) (by decide) rfl dX6_queue_98 ?_
          refine V_goto X (tgt := 46) (by decide) dX6_queue_101 ?_
          refine V.lvs (lv' := [(0, _), (1, _), (2, _), (3, _), (4, _)]) rfl ?_
          exact ih (np - (i + 1)) (by omega) (i + 1) rfl (by omega)
        · refine V_iload_n X rfl dX6_queue_59 ?_
          refine V_iload X rfl dX6_queue_60 ?_
          refine V_callSp X (rest := _) (c_X6_has _ _ _ _ _) gX6_queue_X6_has rfl hds_X6_has (Nat.le_of_ble_eq_true rfl) (Nat.le_of_ble_eq_true rfl) rfl (Nat.le_of_ble_eq_true rfl) dX6_queue_62 ?_
          refine V_if_eq X (tgt := 92) (by decide) dX6_queue_65 (fun hc65 => ?_) (fun hc65 => ?_)
          · refine V_iconst X (v := 1) (by decide) dX6_queue_92 ?_
            refine V_goto X (tgt := 97) (by decide) dX6_queue_93 ?_
            refine V.top (y := bI (frB (sc 1) (ar 5) (ar 6) (sc 3) s (i + 1))) (bI_t' (by show (_ && okB _ _ _ _ _) = true; rw [bI_ne0 hc56]; simp [okB, bI_eq0 hc65])) ?_
            refine V_istore_n X (lv' := [(3, _), (0, _), (1, _), (2, _), (4, _)]) (by decide) rfl dX6_queue_97 ?_
            refine V_iinc X (lv' := [(4, _), (3, _), (0, _), (1, _), (2, _)]) (v := nI (i + 1)) rfl (nI_1 _) (by decide) rfl dX6_queue_98 ?_
            refine V_goto X (tgt := 46) (by decide) dX6_queue_101 ?_
            refine V.lvs (lv' := [(0, _), (1, _), (2, _), (3, _), (4, _)]) rfl ?_
            exact ih (np - (i + 1)) (by omega) (i + 1) rfl (by omega)
          · refine V_aload_n X rfl dX6_queue_68 ?_
            refine V_mget X hR (v := .ref (am 5)) 5 (by decide) hinX6_queue_X6 (rfl) (by decide +kernel) rfl dX6_queue_69 ?_
            refine V_iload X rfl dX6_queue_72 ?_
            refine V_mald X hR 5 (i) 18 (by decide) rfl (by omega) (by decide) rfl dX6_queue_74 ?_
            refine V_if_ne X (tgt := 96) (by decide) dX6_queue_75 (fun hc75 => ?_) (fun hc75 => ?_)
            · refine V_iconst X (v := 0) (by decide) dX6_queue_96 ?_
              refine V.top (y := bI (frB (sc 1) (ar 5) (ar 6) (sc 3) s (i + 1))) (bI_f' (by show (_ && okB _ _ _ _ _) = false; simp [okB, bI_ne0 hc65, hc75])) ?_
              refine V_istore_n X (lv' := [(3, _), (0, _), (1, _), (2, _), (4, _)]) (by decide) rfl dX6_queue_97 ?_
              refine V_iinc X (lv' := [(4, _), (3, _), (0, _), (1, _), (2, _)]) (v := nI (i + 1)) rfl (nI_1 _) (by decide) rfl dX6_queue_98 ?_
              refine V_goto X (tgt := 46) (by decide) dX6_queue_101 ?_
              refine V.lvs (lv' := [(0, _), (1, _), (2, _), (3, _), (4, _)]) rfl ?_
              exact ih (np - (i + 1)) (by omega) (i + 1) rfl (by omega)
            · refine V_aload_n X rfl dX6_queue_78 ?_
              refine V_mget X hR (v := .ref (am 6)) 6 (by decide) hinX6_queue_X6 (rfl) (by decide +kernel) rfl dX6_queue_79 ?_
              refine V_iload X rfl dX6_queue_82 ?_
              refine V_mald X hR 6 (i) 18 (by decide) rfl (by omega) (by decide) rfl dX6_queue_84 ?_
              refine V_aload_n X rfl dX6_queue_85 ?_
              refine V_mget X hR (v := .int (sc 3)) 18 (by decide) hinX6_queue_X6 (congrArg (fun z => some (Value.int z)) (rfl)) (by decide +kernel) rfl dX6_queue_86 ?_
              refine V_icmp_gt X (tgt := 96) (by decide) dX6_queue_89 (fun hc89 => ?_) (fun hc89 => ?_)
              · refine V_iconst X (v := 0) (by decide) dX6_queue_96 ?_
                refine V.top (y := bI (frB (sc 1) (ar 5) (ar 6) (sc 3) s (i + 1))) (bI_f' (by show (_ && okB _ _ _ _ _) = false; simp [okB, bI_ne0 hc65, Int32.not_le.mpr hc89])) ?_
                refine V_istore_n X (lv' := [(3, _), (0, _), (1, _), (2, _), (4, _)]) (by decide) rfl dX6_queue_97 ?_
                refine V_iinc X (lv' := [(4, _), (3, _), (0, _), (1, _), (2, _)]) (v := nI (i + 1)) rfl (nI_1 _) (by decide) rfl dX6_queue_98 ?_
                refine V_goto X (tgt := 46) (by decide) dX6_queue_101 ?_
                refine V.lvs (lv' := [(0, _), (1, _), (2, _), (3, _), (4, _)]) rfl ?_
                exact ih (np - (i + 1)) (by omega) (i + 1) rfl (by omega)
              · refine V_iconst X (v := 1) (by decide) dX6_queue_92 ?_
                refine V_goto X (tgt := 97) (by decide) dX6_queue_93 ?_
                refine V.top (y := bI (frB (sc 1) (ar 5) (ar 6) (sc 3) s (i + 1))) (bI_t' (by show (_ && okB _ _ _ _ _) = true; rw [bI_ne0 hc56]; simp [okB, bI_ne0 hc65, hc75, Int32.not_lt.mp hc89])) ?_
                refine V_istore_n X (lv' := [(3, _), (0, _), (1, _), (2, _), (4, _)]) (by decide) rfl dX6_queue_97 ?_
                refine V_iinc X (lv' := [(4, _), (3, _), (0, _), (1, _), (2, _)]) (v := nI (i + 1)) rfl (nI_1 _) (by decide) rfl dX6_queue_98 ?_
                refine V_goto X (tgt := 46) (by decide) dX6_queue_101 ?_
                refine V.lvs (lv' := [(0, _), (1, _), (2, _), (3, _), (4, _)]) rfl ?_
                exact ih (np - (i + 1)) (by omega) (i + 1) rfl (by omega)
  have J : V K f 0 0 27 [(0, .ref (am 0)), (1, .int s)] [.int (bI (gdB np s))] := by
    refine V_istore_n X (lv' := [(2, _), (0, _), (1, _)]) (by decide) rfl dX6_queue_27 ?_
    refine V_aload_n X rfl dX6_queue_28 ?_
    refine V_mget X hR (v := .int (sc 1)) 7 (by decide) hinX6_queue_X6 (congrArg (fun z => some (Value.int z)) (rfl)) (by decide +kernel) rfl dX6_queue_29 ?_
    refine V_bipush X (v := 100) (by decide) dX6_queue_32 ?_
    refine V_icmp_ge X (tgt := 41) (by decide) dX6_queue_34 (fun hc34 => ?_) (fun hc34 => ?_)
    · refine V_iconst X (v := 0) (by decide) dX6_queue_41 ?_
      refine V.top (y := bI (frB (sc 1) (ar 5) (ar 6) (sc 3) s 0)) (bI_f' (decide_eq_false (not_not_intro hc34))) ?_
      refine V_istore_n X (lv' := [(3, _), (2, _), (0, _), (1, _)]) (by decide) rfl dX6_queue_42 ?_
      refine V_iconst X (v := 0) (by decide) dX6_queue_43 ?_
      refine V_istore X (lv' := [(4, _), (3, _), (2, _), (0, _), (1, _)]) (by decide) rfl dX6_queue_44 ?_
      refine V.lvs (lv' := [(0, _), (1, _), (2, _), (3, _), (4, _)]) rfl ?_
      exact L np 0 (by omega) (by omega)
    · refine V_iconst X (v := 1) (by decide) dX6_queue_37 ?_
      refine V_goto X (tgt := 42) (by decide) dX6_queue_38 ?_
      refine V.top (y := bI (frB (sc 1) (ar 5) (ar 6) (sc 3) s 0)) (bI_t' (decide_eq_true hc34)) ?_
      refine V_istore_n X (lv' := [(3, _), (2, _), (0, _), (1, _)]) (by decide) rfl dX6_queue_42 ?_
      refine V_iconst X (v := 0) (by decide) dX6_queue_43 ?_
      refine V_istore X (lv' := [(4, _), (3, _), (2, _), (0, _), (1, _)]) (by decide) rfl dX6_queue_44 ?_
      refine V.lvs (lv' := [(0, _), (1, _), (2, _), (3, _), (4, _)]) rfl ?_
      exact L np 0 (by omega) (by omega)
  refine V_iload_n X rfl dX6_queue_0 ?_
  refine V_if_le X (tgt := 26) (by decide) dX6_queue_1 (fun hc1 => ?_) (fun hc1 => ?_)
  · refine V_iconst X (v := 0) (by decide) dX6_queue_26 ?_
    refine V.top (y := bI (gdB np s)) (bI_f' (by simp [gdB, Int32.not_lt.mpr hc1])) ?_
    exact J
  · refine V_iload_n X rfl dX6_queue_4 ?_
    refine V_iconst X (v := 1) (by decide) dX6_queue_5 ?_
    refine V_aload_n X rfl dX6_queue_6 ?_
    refine V_mget X hR (v := .int (nI np)) 0 (by decide) hinX6_queue_X6 (congrArg (fun z => some (Value.int z)) (hnp)) (by decide +kernel) rfl dX6_queue_7 ?_
    refine V_ishl X dX6_queue_10 ?_
    refine V_icmp_ge X (tgt := 26) (by decide) dX6_queue_11 (fun hc11 => ?_) (fun hc11 => ?_)
    · refine V_iconst X (v := 0) (by decide) dX6_queue_26 ?_
      refine V.top (y := bI (gdB np s)) (bI_f' (by simp [gdB, Int32.not_lt.mpr hc11])) ?_
      exact J
    · refine V_iload_n X rfl dX6_queue_14 ?_
      refine V_callSp X (rest := _) (c_X6_size _ _ _ _) gX6_queue_X6_size rfl hds_X6_size (Nat.le_of_ble_eq_true rfl) (Nat.le_of_ble_eq_true rfl) rfl (Nat.le_of_ble_eq_true rfl) dX6_queue_15 ?_
      refine V_iconst X (v := 3) (by decide) dX6_queue_18 ?_
      refine V_icmp_gt X (tgt := 26) (by decide) dX6_queue_19 (fun hc19 => ?_) (fun hc19 => ?_)
      · refine V_iconst X (v := 0) (by decide) dX6_queue_26 ?_
        refine V.top (y := bI (gdB np s)) (bI_f' (by simp [gdB, Int32.not_le.mpr hc19])) ?_
        exact J
      · refine V_iconst X (v := 1) (by decide) dX6_queue_22 ?_
        refine V_goto X (tgt := 27) (by decide) dX6_queue_23 ?_
        refine V.top (y := bI (gdB np s)) (bI_t' (by simp [gdB, Int32.not_le.mp hc1, Int32.not_le.mp hc11, Int32.not_lt.mp hc19])) ?_
        exact J
end QPRE
set_option maxHeartbeats 4000000 in
set_option maxRecDepth 100000 in
theorem c_X6_queue_1 (l : Launch) (G : GG) (f : Wo) (am : Nat → Nat) (sc : Nat → Int32) (ar : Nat → Nat → Int32) (hR : RM G am sc ar f) (np : Nat) (hnp : sc 0 = nI np) (hp18 : np ≤ 18) (s : Int32) (hg : gdB np s = false) : Ct l yX6_queue wsX6_queue 3 88 G [.ref (am 0), .int s] f (fun v9 f' => v9 = some (.int 0) ∧ RM G am (va_up sc 7 1) (ar) f' ∧ FrM am f f') 0 0 := by
  refine Ct.of (cc := cX6_queue) (maxL := 5) (ret := (some .int)) (by decide) rfl (Nat.le_of_ble_eq_true rfl) (lv := [(0, _), (1, _)]) rfl (by simp [Value.category]) ?_
  intro K X hL hG hr hnm
  subst hL; subst hG
  have hF : FrM am f f := FrM.rf
  refine q_X6_queue X hR hnp hp18 ?_
  refine V_aload_n X rfl dX6_queue_104 ?_
  refine V_iload_n X rfl dX6_queue_105 ?_
  refine V.top (y := 0) (by rw [hg]; rfl) ?_
  refine V_if_ne X (tgt := 113) (by decide) dX6_queue_106 (fun hc106 => absurd hc106 (by decide)) (fun hc106 => ?_)
  refine V_iconst X (v := 1) (by decide) dX6_queue_109 ?_
  refine V_goto X (tgt := 122) (by decide) dX6_queue_110 ?_
  refine V_callV (kc' := 0) (ks' := 0) X (rest := _) (c_X6_can _ _ _ am _ ar hR _) hR.1 rfl gX6_queue_X6_can rfl hdv_X6_can (Nat.le_of_ble_eq_true rfl) (Nat.le_of_ble_eq_true rfl) rfl (Nat.le_of_ble_eq_true rfl) (by omega) (by omega) dX6_queue_122 (fun r f1 hq => ?_)
  obtain ⟨rfl, hR, hF1⟩ := hq
  have hF := hF.trans hF1
  refine V.top (y := 0) (by decide) ?_
  refine V_if_ne X (tgt := 130) (by decide) dX6_queue_125 (fun hc125 => absurd hc125 (by decide)) (fun hc125 => ?_)
  refine V_iconst X (v := 0) (by decide) dX6_queue_128 ?_
  exact V_iret X hr (⟨rfl, hR, hF⟩) dX6_queue_129
set_option maxHeartbeats 4000000 in
set_option maxRecDepth 100000 in
theorem c_X6_queue_2 (l : Launch) (G : GG) (f : Wo) (am : Nat → Nat) (sc : Nat → Int32) (ar : Nat → Nat → Int32) (hR : RM G am sc ar f) (np : Nat) (hnp : sc 0 = nI np) (hp18 : np ≤ 18) (s : Int32) (hg : gdB np s = true) (hf : frB (sc 1) (ar 5) (ar 6) (sc 3) s np = false) : Ct l yX6_queue wsX6_queue 3 88 G [.ref (am 0), .int s] f (fun v9 f' => v9 = some (.int 0) ∧ RM G am (va_up sc 7 2) (ar) f' ∧ FrM am f f') 0 0 := by
  refine Ct.of (cc := cX6_queue) (maxL := 5) (ret := (some .int)) (by decide) rfl (Nat.le_of_ble_eq_true rfl) (lv := [(0, _), (1, _)]) rfl (by simp [Value.category]) ?_
  intro K X hL hG hr hnm
  subst hL; subst hG
  have hF : FrM am f f := FrM.rf
  refine q_X6_queue X hR hnp hp18 ?_
  refine V_aload_n X rfl dX6_queue_104 ?_
  refine V_iload_n X rfl dX6_queue_105 ?_
  refine V.top (y := 1) (by rw [hg]; rfl) ?_
  refine V_if_ne X (tgt := 113) (by decide) dX6_queue_106 (fun hc106 => ?_) (fun hc106 => absurd hc106 (by decide))
  refine V_iload_n X rfl dX6_queue_113 ?_
  refine V.top (y := 0) (by rw [hf]; rfl) ?_
  refine V_if_eq X (tgt := 121) (by decide) dX6_queue_114 (fun hc114 => ?_) (fun hc114 => absurd hc114 (by decide))
  refine V_iconst X (v := 2) (by decide) dX6_queue_121 ?_
  refine V_callV (kc' := 0) (ks' := 0) X (rest := _) (c_X6_can _ _ _ am _ ar hR _) hR.1 rfl gX6_queue_X6_can rfl hdv_X6_can (Nat.le_of_ble_eq_true rfl) (Nat.le_of_ble_eq_true rfl) rfl (Nat.le_of_ble_eq_true rfl) (by omega) (by omega) dX6_queue_122 (fun r f1 hq => ?_)
  obtain ⟨rfl, hR, hF1⟩ := hq
  have hF := hF.trans hF1
  refine V.top (y := 0) (by decide) ?_
  refine V_if_ne X (tgt := 130) (by decide) dX6_queue_125 (fun hc125 => absurd hc125 (by decide)) (fun hc125 => ?_)
  refine V_iconst X (v := 0) (by decide) dX6_queue_128 ?_
  exact V_iret X hr (⟨rfl, hR, hF⟩) dX6_queue_129
set_option maxHeartbeats 4000000 in
set_option maxRecDepth 100000 in
theorem c_X6_queue_0 (l : Launch) (G : GG) (f : Wo) (am : Nat → Nat) (sc : Nat → Int32) (ar : Nat → Nat → Int32) (hR : RM G am sc ar f) (np : Nat) (hnp : sc 0 = nI np) (hp18 : np ≤ 18) (s : Int32) (hg : gdB np s = true) (hf : frB (sc 1) (ar 5) (ar 6) (sc 3) s np = true) (nt : Nat) (hnt : sc 1 = nI nt) (hlt : nt < 100) : Ct l yX6_queue wsX6_queue 3 88 G [.ref (am 0), .int s] f (fun v9 f' => v9 = some (.int (nI nt)) ∧ RM G am (va_up (va_up sc 7 0) 1 (nI nt + 1)) (va_up (va_up (va_up (va_up (va_up ar 7 (va_up (ar 7) nt s)) 8 (va_up (ar 8) nt (sc 3))) 9 (va_up (ar 9) nt 1)) 10 (va_up (ar 10) nt (-1))) 5 (becF np s 1 (ar 5))) f' ∧ FrM am f f') 0 0 := by
  refine Ct.of (cc := cX6_queue) (maxL := 5) (ret := (some .int)) (by decide) rfl (Nat.le_of_ble_eq_true rfl) (lv := [(0, _), (1, _)]) rfl (by simp [Value.category]) ?_
  intro K X hL hG hr hnm
  subst hL; subst hG
  have hF : FrM am f f := FrM.rf
  refine q_X6_queue X hR hnp hp18 ?_
  refine V_aload_n X rfl dX6_queue_104 ?_
  refine V_iload_n X rfl dX6_queue_105 ?_
  refine V.top (y := 1) (by rw [hg]; rfl) ?_
  refine V_if_ne X (tgt := 113) (by decide) dX6_queue_106 (fun hc106 => ?_) (fun hc106 => absurd hc106 (by decide))
  refine V_iload_n X rfl dX6_queue_113 ?_
  refine V.top (y := 1) (by rw [hf]; rfl) ?_
  refine V_if_eq X (tgt := 121) (by decide) dX6_queue_114 (fun hc114 => absurd hc114 (by decide)) (fun hc114 => ?_)
  refine V_iconst X (v := 0) (by decide) dX6_queue_117 ?_
  refine V_goto X (tgt := 122) (by decide) dX6_queue_118 ?_
  refine V_callV (kc' := 0) (ks' := 0) X (rest := _) (c_X6_can _ _ _ am _ ar hR _) hR.1 rfl gX6_queue_X6_can rfl hdv_X6_can (Nat.le_of_ble_eq_true rfl) (Nat.le_of_ble_eq_true rfl) rfl (Nat.le_of_ble_eq_true rfl) (by omega) (by omega) dX6_queue_122 (fun r f1 hq => ?_)
  obtain ⟨rfl, hR, hF1⟩ := hq
  have hF := hF.trans hF1
  refine V.top (y := 1) (by decide) ?_
  refine V_if_ne X (tgt := 130) (by decide) dX6_queue_125 (fun hc125 => ?_) (fun hc125 => absurd hc125 (by decide))
  refine V_aload_n X rfl dX6_queue_130 ?_
  refine V_mget X hR (v := .ref (am 7)) 8 (by decide) hinX6_queue_X6 (rfl) (by decide +kernel) rfl dX6_queue_131 ?_
  refine V_aload_n X rfl dX6_queue_134 ?_
  refine V_mget X hR (v := .int (nI nt)) 7 (by decide) hinX6_queue_X6 (congrArg (fun z => some (Value.int z)) (hnt)) (by decide +kernel) rfl dX6_queue_135 ?_
  refine V_iload_n X rfl dX6_queue_138 ?_
  refine V_mast X hR hF 7 (nt) 100 (by decide) rfl (by omega) (by decide) dX6_queue_139 (fun f hR hF => ?_)
  refine V_aload_n X rfl dX6_queue_140 ?_
  refine V_mget X hR (v := .ref (am 8)) 9 (by decide) hinX6_queue_X6 (rfl) (by decide +kernel) rfl dX6_queue_141 ?_
  refine V_aload_n X rfl dX6_queue_144 ?_
  refine V_mget X hR (v := .int (nI nt)) 7 (by decide) hinX6_queue_X6 (congrArg (fun z => some (Value.int z)) (hnt)) (by decide +kernel) rfl dX6_queue_145 ?_
  refine V_aload_n X rfl dX6_queue_148 ?_
  refine V_mget X hR (v := .int (sc 3)) 18 (by decide) hinX6_queue_X6 (congrArg (fun z => some (Value.int z)) (rfl)) (by decide +kernel) rfl dX6_queue_149 ?_
  refine V_mast X hR hF 8 (nt) 100 (by decide) rfl (by omega) (by decide) dX6_queue_152 (fun f hR hF => ?_)
  refine V_aload_n X rfl dX6_queue_153 ?_
  refine V_mget X hR (v := .ref (am 9)) 10 (by decide) hinX6_queue_X6 (rfl) (by decide +kernel) rfl dX6_queue_154 ?_
  refine V_aload_n X rfl dX6_queue_157 ?_
  refine V_mget X hR (v := .int (nI nt)) 7 (by decide) hinX6_queue_X6 (congrArg (fun z => some (Value.int z)) (hnt)) (by decide +kernel) rfl dX6_queue_158 ?_
  refine V_iconst X (v := 1) (by decide) dX6_queue_161 ?_
  refine V_mzst X hR hF (nt) (by omega) (by decide) dX6_queue_162 (fun f hR hF => ?_)
  refine V_aload_n X rfl dX6_queue_163 ?_
  refine V_mget X hR (v := .ref (am 10)) 11 (by decide) hinX6_queue_X6 (rfl) (by decide +kernel) rfl dX6_queue_164 ?_
  refine V_aload_n X rfl dX6_queue_167 ?_
  refine V_mget X hR (v := .int (nI nt)) 7 (by decide) hinX6_queue_X6 (congrArg (fun z => some (Value.int z)) (hnt)) (by decide +kernel) rfl dX6_queue_168 ?_
  refine V_iconst X (v := (-1)) (by decide) dX6_queue_171 ?_
  refine V_mast X hR hF 10 (nt) 100 (by decide) rfl (by omega) (by decide) dX6_queue_172 (fun f hR hF => ?_)
  refine V_aload_n X rfl dX6_queue_173 ?_
  refine V_iload_n X rfl dX6_queue_174 ?_
  refine V_iconst X (v := 1) (by decide) dX6_queue_175 ?_
  refine V_callV (kc' := 0) (ks' := 0) X (rest := _) (c_X6_become _ _ _ am _ _ hR np hnp hp18 _ _) hR.1 rfl gX6_queue_X6_become rfl hdv_X6_become (Nat.le_of_ble_eq_true rfl) (Nat.le_of_ble_eq_true rfl) rfl (Nat.le_of_ble_eq_true rfl) (by omega) (by omega) dX6_queue_176 (fun r f1 hq => ?_)
  obtain ⟨rfl, hR, hF1⟩ := hq
  have hF := hF.trans hF1
  refine V_aload_n X rfl dX6_queue_179 ?_
  refine V_dup X rfl dX6_queue_180 ?_
  refine V_mget X hR (v := .int (nI nt)) 7 (by decide) hinX6_queue_X6 (congrArg (fun z => some (Value.int z)) (hnt)) (by decide +kernel) rfl dX6_queue_181 ?_
  refine V_iconst X (v := 1) (by decide) dX6_queue_184 ?_
  refine V_iadd X dX6_queue_185 ?_
  refine V_mput X hR hF 1 7 (by decide) hinX6_queue_X6 rfl (by decide +kernel) rfl rfl rfl dX6_queue_186 (fun f hR hF => ?_)
  refine V_aload_n X rfl dX6_queue_189 ?_
  refine V_mget X hR (v := .int (nI nt + 1)) 7 (by decide) hinX6_queue_X6 (congrArg (fun z => some (Value.int z)) (rfl)) (by decide +kernel) rfl dX6_queue_190 ?_
  refine V_iconst X (v := 1) (by decide) dX6_queue_193 ?_
  refine V_isub X dX6_queue_194 ?_
  refine V.top (y := nI nt) (by rw [nI_1]; exact nI_pred nt) ?_
  exact V_iret X hr (⟨rfl, hR, hF⟩) dX6_queue_195
/-- the expected share within its bounds -/
def exI (x : Int32) : Int32 := if 50 ≤ x then (if x ≤ 950 then x else 950) else 50
def e0I (np m : Nat) (ar : Nat → Nat → Int32) : Int32 := 500 + smI np (ar 11 (2 * m)) (ar 1) / 3 - smI np (ar 11 (2 * m + 1)) (ar 1) / 3
def tmI (t0 : Int32) (k : Nat) : Int32 := if hsI t0 (nI k) = true then 0 else 1
def shI (t0 wn ex : Int32) (k : Nat) : Int32 := (if tmI t0 k = wn then 1000 else 0) - (if tmI t0 k = 0 then ex else 1000 - ex)
def clI (x : Int32) : Int32 := if 0 ≤ x then (if x ≤ 4000 then x else 4000) else 0
def nuI (u : Int32) : Int32 := if 50 ≤ u * 9 / 10 then u * 9 / 10 else 50
def nlI (x : Int32) : Int32 := x - (if x ≤ 0 then 0 else 1)
def nrI (ar : Nat → Nat → Int32) (t0 wn ex : Int32) (k : Nat) : Int32 := clI (ar 1 k + downI (ar 2 k * shI t0 wn ex k) 8000)
def finA (np nt m : Nat) (wn : Int32) (ar : Nat → Nat → Int32) : Nat → Nat → Int32 := fun j => if j = 1 then ifF np (fun k => hsI (allI (ar 11) m) (nI k)) (nrI ar (ar 11 (2 * m)) wn (exI (e0I np m ar))) (ar 1) else if j = 2 then ifF np (fun k => hsI (allI (ar 11) m) (nI k)) (fun k => nuI (ar 2 k)) (ar 2) else if j = 4 then ifF np (fun k => hsI (allI (ar 11) m) (nI k)) (fun k => nlI (ar 4 k)) (ar 4) else if j = 10 then ifF nt (eqB (ar 10) (nI m)) (fun _ => -1) (ar 10) else if j = 5 then becF np (allI (ar 11) m) 0 (ar 5) else if j = 15 then va_up (ar 15) m 3 else ar j
set_option maxHeartbeats 4000000 in
set_option maxRecDepth 100000 in
theorem c_X6_finish_1 (l : Launch) (G : GG) (f : Wo) (am : Nat → Nat) (sc : Nat → Int32) (ar : Nat → Nat → Int32) (hR : RM G am sc ar f) (m wn : Int32) (hm : inI m 0 (sc 2 - 1) = false) : Ct l yX6_finish wsX6_finish 3 88 G [.ref (am 0), .int m, .int wn] f (fun v9 f' => v9 = none ∧ RM G am (va_up sc 7 1) (ar) f' ∧ FrM am f f') 0 0 := by
  refine Ct.of (cc := cX6_finish) (maxL := 9) (ret := none) (by decide) rfl (Nat.le_of_ble_eq_true rfl) (lv := [(0, _), (1, _), (2, _)]) rfl (by simp [Value.category]) ?_
  intro K X hL hG hr hnm
  subst hL; subst hG
  have hF : FrM am f f := FrM.rf
  refine V_aload_n X rfl dX6_finish_0 ?_
  refine V_aload_n X rfl dX6_finish_1 ?_
  refine V_iload_n X rfl dX6_finish_2 ?_
  refine V_callVp X (rest := _) (c_X6_isMatch _ _ _ am sc ar hR _) hR.1 rfl gX6_finish_X6_isMatch rfl hdv_X6_isMatch (Nat.le_of_ble_eq_true rfl) (Nat.le_of_ble_eq_true rfl) rfl (Nat.le_of_ble_eq_true rfl) dX6_finish_3 ?_
  refine V.top (y := 0) (by rw [hm]; rfl) ?_
  refine V_if_ne X (tgt := 13) (by decide) dX6_finish_6 (fun hc6 => absurd hc6 (by decide)) (fun hc6 => ?_)
  refine V_iconst X (v := 1) (by decide) dX6_finish_9 ?_
  refine V_goto X (tgt := 41) (by decide) dX6_finish_10 ?_
  refine V_callV (kc' := 0) (ks' := 0) X (rest := _) (c_X6_can _ _ _ am _ ar hR _) hR.1 rfl gX6_finish_X6_can rfl hdv_X6_can (Nat.le_of_ble_eq_true rfl) (Nat.le_of_ble_eq_true rfl) rfl (Nat.le_of_ble_eq_true rfl) (by omega) (by omega) dX6_finish_41 (fun r f1 hq => ?_)
  obtain ⟨rfl, hR, hF1⟩ := hq
  have hF := hF.trans hF1
  refine V.top (y := 0) (by decide) ?_
  refine V_if_ne X (tgt := 48) (by decide) dX6_finish_44 (fun hc44 => absurd hc44 (by decide)) (fun hc44 => ?_)
  exact V_vret X hr (⟨rfl, hR, hF⟩) dX6_finish_47
set_option maxHeartbeats 4000000 in
set_option maxRecDepth 100000 in
theorem c_X6_finish_2 (l : Launch) (G : GG) (f : Wo) (am : Nat → Nat) (sc : Nat → Int32) (ar : Nat → Nat → Int32) (hR : RM G am sc ar f) (m wn : Int32) (hm : inI m 0 (sc 2 - 1) = true) (hw : inI wn 0 1 = false) : Ct l yX6_finish wsX6_finish 3 88 G [.ref (am 0), .int m, .int wn] f (fun v9 f' => v9 = none ∧ RM G am (va_up sc 7 2) (ar) f' ∧ FrM am f f') 0 0 := by
  refine Ct.of (cc := cX6_finish) (maxL := 9) (ret := none) (by decide) rfl (Nat.le_of_ble_eq_true rfl) (lv := [(0, _), (1, _), (2, _)]) rfl (by simp [Value.category]) ?_
  intro K X hL hG hr hnm
  subst hL; subst hG
  have hF : FrM am f f := FrM.rf
  refine V_aload_n X rfl dX6_finish_0 ?_
  refine V_aload_n X rfl dX6_finish_1 ?_
  refine V_iload_n X rfl dX6_finish_2 ?_
  refine V_callVp X (rest := _) (c_X6_isMatch _ _ _ am sc ar hR _) hR.1 rfl gX6_finish_X6_isMatch rfl hdv_X6_isMatch (Nat.le_of_ble_eq_true rfl) (Nat.le_of_ble_eq_true rfl) rfl (Nat.le_of_ble_eq_true rfl) dX6_finish_3 ?_
  refine V.top (y := 1) (by rw [hm]; rfl) ?_
  refine V_if_ne X (tgt := 13) (by decide) dX6_finish_6 (fun hc6 => ?_) (fun hc6 => absurd hc6 (by decide))
  refine V_iload_n X rfl dX6_finish_13 ?_
  refine V_iconst X (v := 0) (by decide) dX6_finish_14 ?_
  refine V_iconst X (v := 1) (by decide) dX6_finish_15 ?_
  refine V_callSp X (rest := _) (c_X6_isIn _ _ _ _ _ _) gX6_finish_X6_isIn rfl hds_X6_isIn (Nat.le_of_ble_eq_true rfl) (Nat.le_of_ble_eq_true rfl) rfl (Nat.le_of_ble_eq_true rfl) dX6_finish_16 ?_
  refine V.top (y := 0) (by rw [hw]; rfl) ?_
  refine V_if_ne X (tgt := 26) (by decide) dX6_finish_19 (fun hc19 => absurd hc19 (by decide)) (fun hc19 => ?_)
  refine V_iconst X (v := 2) (by decide) dX6_finish_22 ?_
  refine V_goto X (tgt := 41) (by decide) dX6_finish_23 ?_
  refine V_callV (kc' := 0) (ks' := 0) X (rest := _) (c_X6_can _ _ _ am _ ar hR _) hR.1 rfl gX6_finish_X6_can rfl hdv_X6_can (Nat.le_of_ble_eq_true rfl) (Nat.le_of_ble_eq_true rfl) rfl (Nat.le_of_ble_eq_true rfl) (by omega) (by omega) dX6_finish_41 (fun r f1 hq => ?_)
  obtain ⟨rfl, hR, hF1⟩ := hq
  have hF := hF.trans hF1
  refine V.top (y := 0) (by decide) ?_
  refine V_if_ne X (tgt := 48) (by decide) dX6_finish_44 (fun hc44 => absurd hc44 (by decide)) (fun hc44 => ?_)
  exact V_vret X hr (⟨rfl, hR, hF⟩) dX6_finish_47
theorem hinX6_finish_X6 : ∀ w ∈ wsX60, w ∈ wsX6_finish := by decide +kernel
set_option maxHeartbeats 4000000 in
set_option maxRecDepth 100000 in
theorem c_X6_finish_3 (l : Launch) (G : GG) (f : Wo) (am : Nat → Nat) (sc : Nat → Int32) (ar : Nat → Nat → Int32) (hR : RM G am sc ar f) (k : Nat) (hk : k < 600) (hm : inI (nI k) 0 (sc 2 - 1) = true) (wn : Int32) (hw : inI wn 0 1 = true) (hs : ¬ ar 15 k = 1) : Ct l yX6_finish wsX6_finish 3 88 G [.ref (am 0), .int (nI k), .int wn] f (fun v9 f' => v9 = none ∧ RM G am (va_up sc 7 3) (ar) f' ∧ FrM am f f') 0 0 := by
  refine Ct.of (cc := cX6_finish) (maxL := 9) (ret := none) (by decide) rfl (Nat.le_of_ble_eq_true rfl) (lv := [(0, _), (1, _), (2, _)]) rfl (by simp [Value.category]) ?_
  intro K X hL hG hr hnm
  subst hL; subst hG
  have hF : FrM am f f := FrM.rf
  refine V_aload_n X rfl dX6_finish_0 ?_
  refine V_aload_n X rfl dX6_finish_1 ?_
  refine V_iload_n X rfl dX6_finish_2 ?_
  refine V_callVp X (rest := _) (c_X6_isMatch _ _ _ am sc ar hR _) hR.1 rfl gX6_finish_X6_isMatch rfl hdv_X6_isMatch (Nat.le_of_ble_eq_true rfl) (Nat.le_of_ble_eq_true rfl) rfl (Nat.le_of_ble_eq_true rfl) dX6_finish_3 ?_
  refine V.top (y := 1) (by rw [hm]; rfl) ?_
  refine V_if_ne X (tgt := 13) (by decide) dX6_finish_6 (fun hc6 => ?_) (fun hc6 => absurd hc6 (by decide))
  refine V_iload_n X rfl dX6_finish_13 ?_
  refine V_iconst X (v := 0) (by decide) dX6_finish_14 ?_
  refine V_iconst X (v := 1) (by decide) dX6_finish_15 ?_
  refine V_callSp X (rest := _) (c_X6_isIn _ _ _ _ _ _) gX6_finish_X6_isIn rfl hds_X6_isIn (Nat.le_of_ble_eq_true rfl) (Nat.le_of_ble_eq_true rfl) rfl (Nat.le_of_ble_eq_true rfl) dX6_finish_16 ?_
  refine V.top (y := 1) (by rw [hw]; rfl) ?_
  refine V_if_ne X (tgt := 26) (by decide) dX6_finish_19 (fun hc19 => ?_) (fun hc19 => absurd hc19 (by decide))
  refine V_aload_n X rfl dX6_finish_26 ?_
  refine V_mget X hR (v := .ref (am 15)) 17 (by decide) hinX6_finish_X6 (rfl) (by decide +kernel) rfl dX6_finish_27 ?_
  refine V_iload_n X rfl dX6_finish_30 ?_
  refine V_mald X hR 15 (k) 600 (by decide) rfl (by omega) (by decide) rfl dX6_finish_31 ?_
  refine V_iconst X (v := 1) (by decide) dX6_finish_32 ?_
  refine V_icmp_ne X (tgt := 40) (by decide) dX6_finish_33 (fun hc33 => ?_) (fun hc33 => absurd hc33 (hs))
  refine V_iconst X (v := 3) (by decide) dX6_finish_40 ?_
  refine V_callV (kc' := 0) (ks' := 0) X (rest := _) (c_X6_can _ _ _ am _ ar hR _) hR.1 rfl gX6_finish_X6_can rfl hdv_X6_can (Nat.le_of_ble_eq_true rfl) (Nat.le_of_ble_eq_true rfl) rfl (Nat.le_of_ble_eq_true rfl) (by omega) (by omega) dX6_finish_41 (fun r f1 hq => ?_)
  obtain ⟨rfl, hR, hF1⟩ := hq
  have hF := hF.trans hF1
  refine V.top (y := 0) (by decide) ?_
  refine V_if_ne X (tgt := 48) (by decide) dX6_finish_44 (fun hc44 => absurd hc44 (by decide)) (fun hc44 => ?_)
  exact V_vret X hr (⟨rfl, hR, hF⟩) dX6_finish_47
theorem finA_of {np nt m : Nat} {wn : Int32} {ar arb ar' : Nat → Nat → Int32} (h10 : ar' 10 = ifF nt (eqB (ar 10) (nI m)) (fun _ => -1) (ar 10)) (hoth : ∀ j, j ≠ 10 → ar' j = arb j) (b1 : arb 1 = ifF np (fun k => hsI (allI (ar 11) m) (nI k)) (nrI ar (ar 11 (2 * m)) wn (exI (e0I np m ar))) (ar 1)) (b2 : arb 2 = ifF np (fun k => hsI (allI (ar 11) m) (nI k)) (fun k => nuI (ar 2 k)) (ar 2)) (b4 : arb 4 = ifF np (fun k => hsI (allI (ar 11) m) (nI k)) (fun k => nlI (ar 4 k)) (ar 4)) (ho : ∀ j, j ≠ 1 → j ≠ 2 → j ≠ 4 → arb j = ar j) : va_up (va_up ar' 5 (becF np (allI (ar 11) m) 0 (ar' 5))) 15 (va_up (va_up ar' 5 (becF np (allI (ar 11) m) 0 (ar' 5)) 15) m 3) = finA np nt m wn ar := by
  funext j
  unfold finA
  by_cases e1 : j = 1
  · rw [if_pos e1, e1, va_up_ne _ _ (by decide), va_up_ne _ _ (by decide), hoth 1 (by decide), b1]
  rw [if_neg e1]
  by_cases e2 : j = 2
  · rw [if_pos e2, e2, va_up_ne _ _ (by decide), va_up_ne _ _ (by decide), hoth 2 (by decide), b2]
  rw [if_neg e2]
  by_cases e4 : j = 4
  · rw [if_pos e4, e4, va_up_ne _ _ (by decide), va_up_ne _ _ (by decide), hoth 4 (by decide), b4]
  rw [if_neg e4]
  by_cases e10 : j = 10
  · rw [if_pos e10, e10, va_up_ne _ _ (by decide), va_up_ne _ _ (by decide), h10]
  rw [if_neg e10]
  by_cases e5 : j = 5
  · rw [if_pos e5, e5, va_up_ne _ _ (by decide), va_up_self, hoth 5 (by decide), ho 5 (by decide) (by decide) (by decide)]
  rw [if_neg e5]
  by_cases e15 : j = 15
  · rw [if_pos e15, e15, va_up_self, va_up_ne _ _ (by decide), hoth 15 (by decide), ho 15 (by decide) (by decide) (by decide)]
  rw [if_neg e15, va_up_ne _ _ e15, va_up_ne _ _ e5, hoth j e10, ho j e1 e2 e4]
set_option maxHeartbeats 4000000 in
set_option maxRecDepth 100000 in
theorem c_X6_finish_0 (l : Launch) (G : GG) (f : Wo) (am : Nat → Nat) (sc : Nat → Int32) (ar : Nat → Nat → Int32) (hR : RM G am sc ar f) (np : Nat) (hnp : sc 0 = nI np) (hp18 : np ≤ 18) (nt : Nat) (hnt : sc 1 = nI nt) (ht100 : nt ≤ 100) (k : Nat) (hk : k < 600) (hm : inI (nI k) 0 (sc 2 - 1) = true) (wn : Int32) (hw : inI wn 0 1 = true) (hs : ar 15 k = 1) : Ct l yX6_finish wsX6_finish 3 88 G [.ref (am 0), .int (nI k), .int wn] f (fun v9 f' => v9 = none ∧ RM G am (va_up sc 7 0) (finA np nt k wn ar) f' ∧ FrM am f f') 0 0 := by
  refine Ct.of (cc := cX6_finish) (maxL := 9) (ret := none) (by decide) rfl (Nat.le_of_ble_eq_true rfl) (lv := [(0, _), (1, _), (2, _)]) rfl (by simp [Value.category]) ?_
  intro K X hL hG hr hnm
  subst hL; subst hG
  have hF : FrM am f f := FrM.rf
  obtain ⟨f0, hf0⟩ : ∃ z, z = f := ⟨_, rfl⟩
  have L2 : ∀ (fb : Wo) (arb : Nat → Nat → Int32), RM (kG K) am (va_up sc 7 0) arb fb → FrM am f0 fb → arb 1 = ifF np (fun k9 => hsI (allI (ar 11) k) (nI k9)) (nrI ar (ar 11 (2 * k)) wn (exI (e0I np k ar))) (ar 1) → arb 2 = ifF np (fun k9 => hsI (allI (ar 11) k) (nI k9)) (fun k => nuI (ar 2 k)) (ar 2) → arb 4 = ifF np (fun k9 => hsI (allI (ar 11) k) (nI k9)) (fun k => nlI (ar 4 k)) (ar 4) → (∀ j, j ≠ 1 → j ≠ 2 → j ≠ 4 → arb j = ar j) → V K fb 0 0 313 [(0, .ref (am 0)), (1, .int (nI k)), (2, .int wn), (3, .int (exI (e0I np k ar))), (4, .int (nI np))] [] := by
    intro fb arb hRb hFb b1 b2 b4 ho
    have LL : ∀ (n i : Nat), nt - i = n → i ≤ nt → ∀ (fw : Wo) (ar' : Nat → Nat → Int32), RM (kG K) am (va_up sc 7 0) ar' fw → FrM am f0 fw → (ar' 10 = ifF i (eqB (ar 10) (nI k)) (fun _ => -1) (ar 10) ∧ ∀ j, j ≠ 10 → ar' j = arb j) → V K fw 0 0 316 [(0, .ref (am 0)), (1, .int (nI k)), (2, .int wn), (3, .int (exI (e0I np k ar))), (4, .int (nI i))] [] := by
      intro n
      induction n using Nat.strongRecOn with
      | ind n ih =>
        intro i hn hi f ar' hR hF ⟨h10, hoth⟩
        refine V_iload X rfl dX6_finish_316 ?_
        refine V_aload_n X rfl dX6_finish_318 ?_
        refine V_mget X hR (v := .int (nI nt)) 7 (by decide) hinX6_finish_X6 (congrArg (fun z => some (Value.int z)) (hnt)) (by decide +kernel) rfl dX6_finish_319 ?_
        refine V_icmp_ge X (tgt := 360) (by decide) dX6_finish_322 (fun hc322 => ?_) (fun hc322 => ?_)
        · have hi18 := lim_ge (N := nt) rfl hc322 hi (by omega)
          rw [hi18] at h10
          refine V_aload_n X rfl dX6_finish_360 ?_
          refine V_aload_n X rfl dX6_finish_361 ?_
          refine V_iload_n X rfl dX6_finish_362 ?_
          refine V_callVp X (rest := _) (c_X6_allOf _ _ _ am _ _ hR k (by omega)) hR.1 rfl gX6_finish_X6_allOf rfl hdv_X6_allOf (Nat.le_of_ble_eq_true rfl) (Nat.le_of_ble_eq_true rfl) rfl (Nat.le_of_ble_eq_true rfl) dX6_finish_363 ?_
          refine V.top (y := allI (ar 11) k) (by unfold allI; rw [hoth 11 (by decide), ho 11 (by decide) (by decide) (by decide)]) ?_
          refine V_iconst X (v := 0) (by decide) dX6_finish_366 ?_
          refine V_callV (kc' := 0) (ks' := 0) X (rest := _) (c_X6_become _ _ _ am _ _ hR np hnp hp18 _ _) hR.1 rfl gX6_finish_X6_become rfl hdv_X6_become (Nat.le_of_ble_eq_true rfl) (Nat.le_of_ble_eq_true rfl) rfl (Nat.le_of_ble_eq_true rfl) (by omega) (by omega) dX6_finish_367 (fun r f1 hq => ?_)
          obtain ⟨rfl, hR, hF1⟩ := hq
          have hF := hF.trans hF1
          refine V_aload_n X rfl dX6_finish_370 ?_
          refine V_mget X hR (v := .ref (am 15)) 17 (by decide) hinX6_finish_X6 (rfl) (by decide +kernel) rfl dX6_finish_371 ?_
          refine V_iload_n X rfl dX6_finish_374 ?_
          refine V_iconst X (v := 3) (by decide) dX6_finish_375 ?_
          refine V_mast X hR hF 15 (k) 600 (by decide) rfl (by omega) (by decide) dX6_finish_376 (fun f hR hF => ?_)
          exact V_vret X hr (⟨rfl, by rw [← finA_of (np := np) (nt := nt) (m := k) (wn := wn) (ar := ar) h10 hoth b1 b2 b4 ho]; exact hR, by rw [← hf0]; exact hF⟩) dX6_finish_377
        · have hlt := lim_lt (N := nt) rfl hc322 hi (by omega)
          refine V_aload_n X rfl dX6_finish_325 ?_
          refine V_mget X hR (v := .ref (am 10)) 11 (by decide) hinX6_finish_X6 (rfl) (by decide +kernel) rfl dX6_finish_326 ?_
          refine V_iload X rfl dX6_finish_329 ?_
          refine V_aload_n X rfl dX6_finish_331 ?_
          refine V_mget X hR (v := .ref (am 10)) 11 (by decide) hinX6_finish_X6 (rfl) (by decide +kernel) rfl dX6_finish_332 ?_
          refine V_iload X rfl dX6_finish_335 ?_
          refine V_mald X hR 10 (i) 100 (by decide) rfl (by omega) (by decide) (w := ar 10 i) (by rw [h10]; exact ifF_i) dX6_finish_337 ?_
          refine V_iload_n X rfl dX6_finish_338 ?_
          refine V_icmp_ne X (tgt := 346) (by decide) dX6_finish_339 (fun hc339 => ?_) (fun hc339 => ?_)
          · refine V_aload_n X rfl dX6_finish_346 ?_
            refine V_mget X hR (v := .ref (am 10)) 11 (by decide) hinX6_finish_X6 (rfl) (by decide +kernel) rfl dX6_finish_347 ?_
            refine V_iload X rfl dX6_finish_350 ?_
            refine V_mald X hR 10 (i) 100 (by decide) rfl (by omega) (by decide) (w := ar 10 i) (by rw [h10]; exact ifF_i) dX6_finish_352 ?_
            refine V_mast X hR hF 10 (i) 100 (by decide) rfl (by omega) (by decide) dX6_finish_353 (fun f hR hF => ?_)
            refine V_iinc X (lv' := [(4, _), (0, _), (1, _), (2, _), (3, _)]) (v := nI (i + 1)) rfl (nI_1 _) (by decide) rfl dX6_finish_354 ?_
            refine V_goto X (tgt := 316) (by decide) dX6_finish_357 ?_
            refine V.lvs (lv' := [(0, _), (1, _), (2, _), (3, _), (4, _)]) rfl ?_
            exact ih (nt - (i + 1)) (by omega) (i + 1) rfl (by omega) _ _ hR hF ⟨by rw [va_up_self, show ar 10 i = ar' 10 i from by rw [h10]; exact ifF_i.symm, va_up_id, h10]; exact ifF_f (decide_eq_false hc339), fun j a => by rw [va_up_ne _ _ a]; exact hoth j a⟩
          · refine V_iconst X (v := (-1)) (by decide) dX6_finish_342 ?_
            refine V_goto X (tgt := 353) (by decide) dX6_finish_343 ?_
            refine V_mast X hR hF 10 (i) 100 (by decide) rfl (by omega) (by decide) dX6_finish_353 (fun f hR hF => ?_)
            refine V_iinc X (lv' := [(4, _), (0, _), (1, _), (2, _), (3, _)]) (v := nI (i + 1)) rfl (nI_1 _) (by decide) rfl dX6_finish_354 ?_
            refine V_goto X (tgt := 316) (by decide) dX6_finish_357 ?_
            refine V.lvs (lv' := [(0, _), (1, _), (2, _), (3, _), (4, _)]) rfl ?_
            exact ih (nt - (i + 1)) (by omega) (i + 1) rfl (by omega) _ _ hR hF ⟨by rw [va_up_self, h10]; exact ifF_t (decide_eq_true hc339) rfl, fun j a => by rw [va_up_ne _ _ a]; exact hoth j a⟩
    refine V_iconst X (v := 0) (by decide) dX6_finish_313 ?_
    refine V_istore X (lv' := [(4, _), (0, _), (1, _), (2, _), (3, _)]) (by decide) rfl dX6_finish_314 ?_
    refine V.lvs (lv' := [(0, _), (1, _), (2, _), (3, _), (4, _)]) rfl ?_
    exact LL nt 0 (by omega) (by omega) fb arb hRb hFb ⟨by rw [ifF_0]; exact ho 10 (by decide) (by decide) (by decide), fun _ _ => rfl⟩
  have L1 : ∀ (n i : Nat), np - i = n → i ≤ np → ∀ (fw : Wo) (ar' : Nat → Nat → Int32), RM (kG K) am (va_up sc 7 0) ar' fw → FrM am f0 fw → (ar' 1 = ifF i (fun k9 => hsI (allI (ar 11) k) (nI k9)) (nrI ar (ar 11 (2 * k)) wn (exI (e0I np k ar))) (ar 1) ∧ ar' 2 = ifF i (fun k9 => hsI (allI (ar 11) k) (nI k9)) (fun k => nuI (ar 2 k)) (ar 2) ∧ ar' 4 = ifF i (fun k9 => hsI (allI (ar 11) k) (nI k9)) (fun k => nlI (ar 4 k)) (ar 4) ∧ ∀ j, j ≠ 1 → j ≠ 2 → j ≠ 4 → ar' j = ar j) → V K fw 0 0 113 [(0, .ref (am 0)), (1, .int (nI k)), (2, .int wn), (3, .int (exI (e0I np k ar))), (4, .int (nI i))] [] := by
    intro n
    induction n using Nat.strongRecOn with
    | ind n ih =>
      intro i hn hi f ar' hR hF ⟨h1, h2, h4, hoth⟩
      refine V_iload X rfl dX6_finish_113 ?_
      refine V_aload_n X rfl dX6_finish_115 ?_
      refine V_mget X hR (v := .int (nI np)) 0 (by decide) hinX6_finish_X6 (congrArg (fun z => some (Value.int z)) (hnp)) (by decide +kernel) rfl dX6_finish_116 ?_
      refine V_icmp_ge X (tgt := 313) (by decide) dX6_finish_119 (fun hc119 => ?_) (fun hc119 => ?_)
      · have hi18 := lim_ge (N := np) rfl hc119 hi (by omega)
        subst hi18
        exact L2 f ar' hR hF h1 h2 h4 hoth
      · have hlt := lim_lt (N := np) rfl hc119 hi (by omega)
        refine V_aload_n X rfl dX6_finish_122 ?_
        refine V_iload_n X rfl dX6_finish_123 ?_
        refine V_callVp X (rest := _) (c_X6_allOf _ _ _ am _ _ hR k (by omega)) hR.1 rfl gX6_finish_X6_allOf rfl hdv_X6_allOf (Nat.le_of_ble_eq_true rfl) (Nat.le_of_ble_eq_true rfl) rfl (Nat.le_of_ble_eq_true rfl) dX6_finish_124 ?_
        refine V.top (y := allI (ar 11) k) (by unfold allI; rw [hoth 11 (by decide) (by decide) (by decide)]) ?_
        refine V_iload X rfl dX6_finish_127 ?_
        refine V_callSp X (rest := _) (c_X6_has _ _ _ _ _) gX6_finish_X6_has rfl hds_X6_has (Nat.le_of_ble_eq_true rfl) (Nat.le_of_ble_eq_true rfl) rfl (Nat.le_of_ble_eq_true rfl) dX6_finish_129 ?_
        refine V_if_eq X (tgt := 307) (by decide) dX6_finish_132 (fun hc132 => ?_) (fun hc132 => ?_)
        · refine V_iinc X (lv' := [(4, _), (0, _), (1, _), (2, _), (3, _)]) (v := nI (i + 1)) rfl (nI_1 _) (by decide) rfl dX6_finish_307 ?_
          refine V_goto X (tgt := 113) (by decide) dX6_finish_310 ?_
          refine V.lvs (lv' := [(0, _), (1, _), (2, _), (3, _), (4, _)]) rfl ?_
          exact ih (np - (i + 1)) (by omega) (i + 1) rfl (by omega) _ ar' hR hF ⟨h1.trans (ifF_f (bI_eq0 hc132)), h2.trans (ifF_f (bI_eq0 hc132)), h4.trans (ifF_f (bI_eq0 hc132)), hoth⟩
        · have J186 : V K f 0 0 186 [(5, .int (tmI (ar 11 (2 * k)) i)), (0, .ref (am 0)), (1, .int (nI k)), (2, .int wn), (3, .int (exI (e0I np k ar))), (4, .int (nI i))] [.int (shI (ar 11 (2 * k)) wn (exI (e0I np k ar)) i)] := by
            refine V_istore X (lv' := [(6, _), (5, _), (0, _), (1, _), (2, _), (3, _), (4, _)]) (by decide) rfl dX6_finish_186 ?_
            refine V_aload_n X rfl dX6_finish_188 ?_
            refine V_mget X hR (v := .ref (am 1)) 1 (by decide) hinX6_finish_X6 (rfl) (by decide +kernel) rfl dX6_finish_189 ?_
            refine V_iload X rfl dX6_finish_192 ?_
            refine V_mald X hR 1 (i) 18 (by decide) rfl (by omega) (by decide) (w := ar 1 i) (by rw [h1]; exact ifF_i) dX6_finish_194 ?_
            refine V_aload_n X rfl dX6_finish_195 ?_
            refine V_mget X hR (v := .ref (am 2)) 2 (by decide) hinX6_finish_X6 (rfl) (by decide +kernel) rfl dX6_finish_196 ?_
            refine V_iload X rfl dX6_finish_199 ?_
            refine V_mald X hR 2 (i) 18 (by decide) rfl (by omega) (by decide) (w := ar 2 i) (by rw [h2]; exact ifF_i) dX6_finish_201 ?_
            refine V_iload X rfl dX6_finish_202 ?_
            refine V_imul X dX6_finish_204 ?_
            refine V_sipush X (v := 8000) (by decide) dX6_finish_205 ?_
            refine V_callSp X (rest := _) (c_X6_down _ _ _ _ _ (by decide)) gX6_finish_X6_down rfl hds_X6_down (Nat.le_of_ble_eq_true rfl) (Nat.le_of_ble_eq_true rfl) rfl (Nat.le_of_ble_eq_true rfl) dX6_finish_208 ?_
            refine V_iadd X dX6_finish_211 ?_
            refine V_istore X (lv' := [(7, _), (6, _), (5, _), (0, _), (1, _), (2, _), (3, _), (4, _)]) (by decide) rfl dX6_finish_212 ?_
            refine V_aload_n X rfl dX6_finish_214 ?_
            refine V_mget X hR (v := .ref (am 1)) 1 (by decide) hinX6_finish_X6 (rfl) (by decide +kernel) rfl dX6_finish_215 ?_
            refine V_iload X rfl dX6_finish_218 ?_
            refine V_iload X rfl dX6_finish_220 ?_
            refine V_if_ge X (tgt := 229) (by decide) dX6_finish_222 (fun hc222 => ?_) (fun hc222 => ?_)
            · refine V_iload X rfl dX6_finish_229 ?_
              refine V_sipush X (v := 4000) (by decide) dX6_finish_231 ?_
              refine V_icmp_le X (tgt := 243) (by decide) dX6_finish_234 (fun hc234 => ?_) (fun hc234 => ?_)
              · refine V_iload X rfl dX6_finish_243 ?_
                refine V.top (y := nrI ar (ar 11 (2 * k)) wn (exI (e0I np k ar)) i) ((show clI _ = _ from (if_pos hc222).trans (if_pos hc234)).symm) ?_
                refine V_mast X hR hF 1 (i) 18 (by decide) rfl (by omega) (by decide) dX6_finish_245 (fun f hR hF => ?_)
                refine V_aload_n X rfl dX6_finish_246 ?_
                refine V_mget X hR (v := .ref (am 2)) 2 (by decide) hinX6_finish_X6 (rfl) (by decide +kernel) rfl dX6_finish_247 ?_
                refine V_iload X rfl dX6_finish_250 ?_
                refine V_mald X hR 2 (i) 18 (by decide) rfl (by omega) (by decide) (w := ar 2 i) (by rw [va_up_ne _ _ (show (2 : Nat) ≠ 1 by decide), h2]; exact ifF_i) dX6_finish_252 ?_
                refine V_bipush X (v := 9) (by decide) dX6_finish_253 ?_
                refine V_imul X dX6_finish_255 ?_
                refine V_bipush X (v := 10) (by decide) dX6_finish_256 ?_
                refine V_idiv X (by decide) dX6_finish_258 ?_
                refine V_istore X (lv' := [(8, _), (7, _), (6, _), (5, _), (0, _), (1, _), (2, _), (3, _), (4, _)]) (by decide) rfl dX6_finish_259 ?_
                refine V_aload_n X rfl dX6_finish_261 ?_
                refine V_mget X hR (v := .ref (am 2)) 2 (by decide) hinX6_finish_X6 (rfl) (by decide +kernel) rfl dX6_finish_262 ?_
                refine V_iload X rfl dX6_finish_265 ?_
                refine V_iload X rfl dX6_finish_267 ?_
                refine V_bipush X (v := 50) (by decide) dX6_finish_269 ?_
                refine V_icmp_ge X (tgt := 279) (by decide) dX6_finish_271 (fun hc271 => ?_) (fun hc271 => ?_)
                · refine V_iload X rfl dX6_finish_279 ?_
                  refine V.top (y := nuI (ar 2 i)) ((if_pos hc271).symm) ?_
                  refine V_mast X hR hF 2 (i) 18 (by decide) rfl (by omega) (by decide) dX6_finish_281 (fun f hR hF => ?_)
                  refine V_aload_n X rfl dX6_finish_282 ?_
                  refine V_mget X hR (v := .ref (am 4)) 4 (by decide) hinX6_finish_X6 (rfl) (by decide +kernel) rfl dX6_finish_283 ?_
                  refine V_iload X rfl dX6_finish_286 ?_
                  refine V_dup2 X rfl rfl dX6_finish_288 ?_
                  refine V_mald X hR 4 (i) 18 (by decide) rfl (by omega) (by decide) (w := ar 4 i) (by rw [va_up_ne _ _ (show (4 : Nat) ≠ 2 by decide), va_up_ne _ _ (show (4 : Nat) ≠ 1 by decide), h4]; exact ifF_i) dX6_finish_289 ?_
                  refine V_aload_n X rfl dX6_finish_290 ?_
                  refine V_mget X hR (v := .ref (am 4)) 4 (by decide) hinX6_finish_X6 (rfl) (by decide +kernel) rfl dX6_finish_291 ?_
                  refine V_iload X rfl dX6_finish_294 ?_
                  refine V_mald X hR 4 (i) 18 (by decide) rfl (by omega) (by decide) (w := ar 4 i) (by rw [va_up_ne _ _ (show (4 : Nat) ≠ 2 by decide), va_up_ne _ _ (show (4 : Nat) ≠ 1 by decide), h4]; exact ifF_i) dX6_finish_296 ?_
                  refine V_if_le X (tgt := 304) (by decide) dX6_finish_297 (fun hc297 => ?_) (fun hc297 => ?_)
                  · refine V_iconst X (v := 0) (by decide) dX6_finish_304 ?_
                    refine V_isub X dX6_finish_305 ?_
                    refine V.top (y := nlI (ar 4 i)) (congrArg (ar 4 i - ·) (if_pos hc297).symm) ?_
                    refine V_mast X hR hF 4 (i) 18 (by decide) rfl (by omega) (by decide) dX6_finish_306 (fun f hR hF => ?_)
                    refine V_iinc X (lv' := [(4, _), (8, _), (7, _), (6, _), (5, _), (0, _), (1, _), (2, _), (3, _)]) (v := nI (i + 1)) rfl (nI_1 _) (by decide) rfl dX6_finish_307 ?_
                    refine V_goto X (tgt := 113) (by decide) dX6_finish_310 ?_
                    refine V.lvs (lv' := [(0, _), (1, _), (2, _), (3, _), (4, _)]) rfl ?_
                    exact ih (np - (i + 1)) (by omega) (i + 1) rfl (by omega) _ _ hR hF ⟨by rw [va_up_ne _ _ (show (1 : Nat) ≠ 4 by decide), va_up_ne _ _ (show (1 : Nat) ≠ 2 by decide), va_up_self, h1]; exact ifF_t (bI_ne0 hc132) rfl, by rw [va_up_ne _ _ (show (2 : Nat) ≠ 4 by decide), va_up_self, va_up_ne _ _ (show (2 : Nat) ≠ 1 by decide), h2]; exact ifF_t (bI_ne0 hc132) rfl, by rw [va_up_self, va_up_ne _ _ (show (4 : Nat) ≠ 2 by decide), va_up_ne _ _ (show (4 : Nat) ≠ 1 by decide), h4]; exact ifF_t (bI_ne0 hc132) rfl, fun j a b c => by rw [va_up_ne _ _ c, va_up_ne _ _ b, va_up_ne _ _ a]; exact hoth j a b c⟩
                  · refine V_iconst X (v := 1) (by decide) dX6_finish_300 ?_
                    refine V_goto X (tgt := 305) (by decide) dX6_finish_301 ?_
                    refine V_isub X dX6_finish_305 ?_
                    refine V.top (y := nlI (ar 4 i)) (congrArg (ar 4 i - ·) (if_neg hc297).symm) ?_
                    refine V_mast X hR hF 4 (i) 18 (by decide) rfl (by omega) (by decide) dX6_finish_306 (fun f hR hF => ?_)
                    refine V_iinc X (lv' := [(4, _), (8, _), (7, _), (6, _), (5, _), (0, _), (1, _), (2, _), (3, _)]) (v := nI (i + 1)) rfl (nI_1 _) (by decide) rfl dX6_finish_307 ?_
                    refine V_goto X (tgt := 113) (by decide) dX6_finish_310 ?_
                    refine V.lvs (lv' := [(0, _), (1, _), (2, _), (3, _), (4, _)]) rfl ?_
                    exact ih (np - (i + 1)) (by omega) (i + 1) rfl (by omega) _ _ hR hF ⟨by rw [va_up_ne _ _ (show (1 : Nat) ≠ 4 by decide), va_up_ne _ _ (show (1 : Nat) ≠ 2 by decide), va_up_self, h1]; exact ifF_t (bI_ne0 hc132) rfl, by rw [va_up_ne _ _ (show (2 : Nat) ≠ 4 by decide), va_up_self, va_up_ne _ _ (show (2 : Nat) ≠ 1 by decide), h2]; exact ifF_t (bI_ne0 hc132) rfl, by rw [va_up_self, va_up_ne _ _ (show (4 : Nat) ≠ 2 by decide), va_up_ne _ _ (show (4 : Nat) ≠ 1 by decide), h4]; exact ifF_t (bI_ne0 hc132) rfl, fun j a b c => by rw [va_up_ne _ _ c, va_up_ne _ _ b, va_up_ne _ _ a]; exact hoth j a b c⟩
                · refine V_bipush X (v := 50) (by decide) dX6_finish_274 ?_
                  refine V_goto X (tgt := 281) (by decide) dX6_finish_276 ?_
                  refine V.top (y := nuI (ar 2 i)) ((if_neg hc271).symm) ?_
                  refine V_mast X hR hF 2 (i) 18 (by decide) rfl (by omega) (by decide) dX6_finish_281 (fun f hR hF => ?_)
                  refine V_aload_n X rfl dX6_finish_282 ?_
                  refine V_mget X hR (v := .ref (am 4)) 4 (by decide) hinX6_finish_X6 (rfl) (by decide +kernel) rfl dX6_finish_283 ?_
                  refine V_iload X rfl dX6_finish_286 ?_
                  refine V_dup2 X rfl rfl dX6_finish_288 ?_
                  refine V_mald X hR 4 (i) 18 (by decide) rfl (by omega) (by decide) (w := ar 4 i) (by rw [va_up_ne _ _ (show (4 : Nat) ≠ 2 by decide), va_up_ne _ _ (show (4 : Nat) ≠ 1 by decide), h4]; exact ifF_i) dX6_finish_289 ?_
                  refine V_aload_n X rfl dX6_finish_290 ?_
                  refine V_mget X hR (v := .ref (am 4)) 4 (by decide) hinX6_finish_X6 (rfl) (by decide +kernel) rfl dX6_finish_291 ?_
                  refine V_iload X rfl dX6_finish_294 ?_
                  refine V_mald X hR 4 (i) 18 (by decide) rfl (by omega) (by decide) (w := ar 4 i) (by rw [va_up_ne _ _ (show (4 : Nat) ≠ 2 by decide), va_up_ne _ _ (show (4 : Nat) ≠ 1 by decide), h4]; exact ifF_i) dX6_finish_296 ?_
                  refine V_if_le X (tgt := 304) (by decide) dX6_finish_297 (fun hc297 => ?_) (fun hc297 => ?_)
                  · refine V_iconst X (v := 0) (by decide) dX6_finish_304 ?_
                    refine V_isub X dX6_finish_305 ?_
                    refine V.top (y := nlI (ar 4 i)) (congrArg (ar 4 i - ·) (if_pos hc297).symm) ?_
                    refine V_mast X hR hF 4 (i) 18 (by decide) rfl (by omega) (by decide) dX6_finish_306 (fun f hR hF => ?_)
                    refine V_iinc X (lv' := [(4, _), (8, _), (7, _), (6, _), (5, _), (0, _), (1, _), (2, _), (3, _)]) (v := nI (i + 1)) rfl (nI_1 _) (by decide) rfl dX6_finish_307 ?_
                    refine V_goto X (tgt := 113) (by decide) dX6_finish_310 ?_
                    refine V.lvs (lv' := [(0, _), (1, _), (2, _), (3, _), (4, _)]) rfl ?_
                    exact ih (np - (i + 1)) (by omega) (i + 1) rfl (by omega) _ _ hR hF ⟨by rw [va_up_ne _ _ (show (1 : Nat) ≠ 4 by decide), va_up_ne _ _ (show (1 : Nat) ≠ 2 by decide), va_up_self, h1]; exact ifF_t (bI_ne0 hc132) rfl, by rw [va_up_ne _ _ (show (2 : Nat) ≠ 4 by decide), va_up_self, va_up_ne _ _ (show (2 : Nat) ≠ 1 by decide), h2]; exact ifF_t (bI_ne0 hc132) rfl, by rw [va_up_self, va_up_ne _ _ (show (4 : Nat) ≠ 2 by decide), va_up_ne _ _ (show (4 : Nat) ≠ 1 by decide), h4]; exact ifF_t (bI_ne0 hc132) rfl, fun j a b c => by rw [va_up_ne _ _ c, va_up_ne _ _ b, va_up_ne _ _ a]; exact hoth j a b c⟩
                  · refine V_iconst X (v := 1) (by decide) dX6_finish_300 ?_
                    refine V_goto X (tgt := 305) (by decide) dX6_finish_301 ?_
                    refine V_isub X dX6_finish_305 ?_
                    refine V.top (y := nlI (ar 4 i)) (congrArg (ar 4 i - ·) (if_neg hc297).symm) ?_
                    refine V_mast X hR hF 4 (i) 18 (by decide) rfl (by omega) (by decide) dX6_finish_306 (fun f hR hF => ?_)
                    refine V_iinc X (lv' := [(4, _), (8, _), (7, _), (6, _), (5, _), (0, _), (1, _), (2, _), (3, _)]) (v := nI (i + 1)) rfl (nI_1 _) (by decide) rfl dX6_finish_307 ?_
                    refine V_goto X (tgt := 113) (by decide) dX6_finish_310 ?_
                    refine V.lvs (lv' := [(0, _), (1, _), (2, _), (3, _), (4, _)]) rfl ?_
                    exact ih (np - (i + 1)) (by omega) (i + 1) rfl (by omega) _ _ hR hF ⟨by rw [va_up_ne _ _ (show (1 : Nat) ≠ 4 by decide), va_up_ne _ _ (show (1 : Nat) ≠ 2 by decide), va_up_self, h1]; exact ifF_t (bI_ne0 hc132) rfl, by rw [va_up_ne _ _ (show (2 : Nat) ≠ 4 by decide), va_up_self, va_up_ne _ _ (show (2 : Nat) ≠ 1 by decide), h2]; exact ifF_t (bI_ne0 hc132) rfl, by rw [va_up_self, va_up_ne _ _ (show (4 : Nat) ≠ 2 by decide), va_up_ne _ _ (show (4 : Nat) ≠ 1 by decide), h4]; exact ifF_t (bI_ne0 hc132) rfl, fun j a b c => by rw [va_up_ne _ _ c, va_up_ne _ _ b, va_up_ne _ _ a]; exact hoth j a b c⟩
              · refine V_sipush X (v := 4000) (by decide) dX6_finish_237 ?_
                refine V_goto X (tgt := 245) (by decide) dX6_finish_240 ?_
                refine V.top (y := nrI ar (ar 11 (2 * k)) wn (exI (e0I np k ar)) i) ((show clI _ = _ from (if_pos hc222).trans (if_neg hc234)).symm) ?_
                refine V_mast X hR hF 1 (i) 18 (by decide) rfl (by omega) (by decide) dX6_finish_245 (fun f hR hF => ?_)
                refine V_aload_n X rfl dX6_finish_246 ?_
                refine V_mget X hR (v := .ref (am 2)) 2 (by decide) hinX6_finish_X6 (rfl) (by decide +kernel) rfl dX6_finish_247 ?_
                refine V_iload X rfl dX6_finish_250 ?_
                refine V_mald X hR 2 (i) 18 (by decide) rfl (by omega) (by decide) (w := ar 2 i) (by rw [va_up_ne _ _ (show (2 : Nat) ≠ 1 by decide), h2]; exact ifF_i) dX6_finish_252 ?_
                refine V_bipush X (v := 9) (by decide) dX6_finish_253 ?_
                refine V_imul X dX6_finish_255 ?_
                refine V_bipush X (v := 10) (by decide) dX6_finish_256 ?_
                refine V_idiv X (by decide) dX6_finish_258 ?_
                refine V_istore X (lv' := [(8, _), (7, _), (6, _), (5, _), (0, _), (1, _), (2, _), (3, _), (4, _)]) (by decide) rfl dX6_finish_259 ?_
                refine V_aload_n X rfl dX6_finish_261 ?_
                refine V_mget X hR (v := .ref (am 2)) 2 (by decide) hinX6_finish_X6 (rfl) (by decide +kernel) rfl dX6_finish_262 ?_
                refine V_iload X rfl dX6_finish_265 ?_
                refine V_iload X rfl dX6_finish_267 ?_
                refine V_bipush X (v := 50) (by decide) dX6_finish_269 ?_
                refine V_icmp_ge X (tgt := 279) (by decide) dX6_finish_271 (fun hc271 => ?_) (fun hc271 => ?_)
                · refine V_iload X rfl dX6_finish_279 ?_
                  refine V.top (y := nuI (ar 2 i)) ((if_pos hc271).symm) ?_
                  refine V_mast X hR hF 2 (i) 18 (by decide) rfl (by omega) (by decide) dX6_finish_281 (fun f hR hF => ?_)
                  refine V_aload_n X rfl dX6_finish_282 ?_
                  refine V_mget X hR (v := .ref (am 4)) 4 (by decide) hinX6_finish_X6 (rfl) (by decide +kernel) rfl dX6_finish_283 ?_
                  refine V_iload X rfl dX6_finish_286 ?_
                  refine V_dup2 X rfl rfl dX6_finish_288 ?_
                  refine V_mald X hR 4 (i) 18 (by decide) rfl (by omega) (by decide) (w := ar 4 i) (by rw [va_up_ne _ _ (show (4 : Nat) ≠ 2 by decide), va_up_ne _ _ (show (4 : Nat) ≠ 1 by decide), h4]; exact ifF_i) dX6_finish_289 ?_
                  refine V_aload_n X rfl dX6_finish_290 ?_
                  refine V_mget X hR (v := .ref (am 4)) 4 (by decide) hinX6_finish_X6 (rfl) (by decide +kernel) rfl dX6_finish_291 ?_
                  refine V_iload X rfl dX6_finish_294 ?_
                  refine V_mald X hR 4 (i) 18 (by decide) rfl (by omega) (by decide) (w := ar 4 i) (by rw [va_up_ne _ _ (show (4 : Nat) ≠ 2 by decide), va_up_ne _ _ (show (4 : Nat) ≠ 1 by decide), h4]; exact ifF_i) dX6_finish_296 ?_
                  refine V_if_le X (tgt := 304) (by decide) dX6_finish_297 (fun hc297 => ?_) (fun hc297 => ?_)
                  · refine V_iconst X (v := 0) (by decide) dX6_finish_304 ?_
                    refine V_isub X dX6_finish_305 ?_
                    refine V.top (y := nlI (ar 4 i)) (congrArg (ar 4 i - ·) (if_pos hc297).symm) ?_
                    refine V_mast X hR hF 4 (i) 18 (by decide) rfl (by omega) (by decide) dX6_finish_306 (fun f hR hF => ?_)
                    refine V_iinc X (lv' := [(4, _), (8, _), (7, _), (6, _), (5, _), (0, _), (1, _), (2, _), (3, _)]) (v := nI (i + 1)) rfl (nI_1 _) (by decide) rfl dX6_finish_307 ?_
                    refine V_goto X (tgt := 113) (by decide) dX6_finish_310 ?_
                    refine V.lvs (lv' := [(0, _), (1, _), (2, _), (3, _), (4, _)]) rfl ?_
                    exact ih (np - (i + 1)) (by omega) (i + 1) rfl (by omega) _ _ hR hF ⟨by rw [va_up_ne _ _ (show (1 : Nat) ≠ 4 by decide), va_up_ne _ _ (show (1 : Nat) ≠ 2 by decide), va_up_self, h1]; exact ifF_t (bI_ne0 hc132) rfl, by rw [va_up_ne _ _ (show (2 : Nat) ≠ 4 by decide), va_up_self, va_up_ne _ _ (show (2 : Nat) ≠ 1 by decide), h2]; exact ifF_t (bI_ne0 hc132) rfl, by rw [va_up_self, va_up_ne _ _ (show (4 : Nat) ≠ 2 by decide), va_up_ne _ _ (show (4 : Nat) ≠ 1 by decide), h4]; exact ifF_t (bI_ne0 hc132) rfl, fun j a b c => by rw [va_up_ne _ _ c, va_up_ne _ _ b, va_up_ne _ _ a]; exact hoth j a b c⟩
                  · refine V_iconst X (v := 1) (by decide) dX6_finish_300 ?_
                    refine V_goto X (tgt := 305) (by decide) dX6_finish_301 ?_
                    refine V_isub X dX6_finish_305 ?_
                    refine V.top (y := nlI (ar 4 i)) (congrArg (ar 4 i - ·) (if_neg hc297).symm) ?_
                    refine V_mast X hR hF 4 (i) 18 (by decide) rfl (by omega) (by decide) dX6_finish_306 (fun f hR hF => ?_)
                    refine V_iinc X (lv' := [(4, _), (8, _), (7, _), (6, _), (5, _), (0, _), (1, _), (2, _), (3, _)]) (v := nI (i + 1)) rfl (nI_1 _) (by decide) rfl dX6_finish_307 ?_
                    refine V_goto X (tgt := 113) (by decide) dX6_finish_310 ?_
                    refine V.lvs (lv' := [(0, _), (1, _), (2, _), (3, _), (4, _)]) rfl ?_
                    exact ih (np - (i + 1)) (by omega) (i + 1) rfl (by omega) _ _ hR hF ⟨by rw [va_up_ne _ _ (show (1 : Nat) ≠ 4 by decide), va_up_ne _ _ (show (1 : Nat) ≠ 2 by decide), va_up_self, h1]; exact ifF_t (bI_ne0 hc132) rfl, by rw [va_up_ne _ _ (show (2 : Nat) ≠ 4 by decide), va_up_self, va_up_ne _ _ (show (2 : Nat) ≠ 1 by decide), h2]; exact ifF_t (bI_ne0 hc132) rfl, by rw [va_up_self, va_up_ne _ _ (show (4 : Nat) ≠ 2 by decide), va_up_ne _ _ (show (4 : Nat) ≠ 1 by decide), h4]; exact ifF_t (bI_ne0 hc132) rfl, fun j a b c => by rw [va_up_ne _ _ c, va_up_ne _ _ b, va_up_ne _ _ a]; exact hoth j a b c⟩
                · refine V_bipush X (v := 50) (by decide) dX6_finish_274 ?_
                  refine V_goto X (tgt := 281) (by decide) dX6_finish_276 ?_
                  refine V.top (y := nuI (ar 2 i)) ((if_neg hc271).symm) ?_
                  refine V_mast X hR hF 2 (i) 18 (by decide) rfl (by omega) (by decide) dX6_finish_281 (fun f hR hF => ?_)
                  refine V_aload_n X rfl dX6_finish_282 ?_
                  refine V_mget X hR (v := .ref (am 4)) 4 (by decide) hinX6_finish_X6 (rfl) (by decide +kernel) rfl dX6_finish_283 ?_
                  refine V_iload X rfl dX6_finish_286 ?_
                  refine V_dup2 X rfl rfl dX6_finish_288 ?_
                  refine V_mald X hR 4 (i) 18 (by decide) rfl (by omega) (by decide) (w := ar 4 i) (by rw [va_up_ne _ _ (show (4 : Nat) ≠ 2 by decide), va_up_ne _ _ (show (4 : Nat) ≠ 1 by decide), h4]; exact ifF_i) dX6_finish_289 ?_
                  refine V_aload_n X rfl dX6_finish_290 ?_
                  refine V_mget X hR (v := .ref (am 4)) 4 (by decide) hinX6_finish_X6 (rfl) (by decide +kernel) rfl dX6_finish_291 ?_
                  refine V_iload X rfl dX6_finish_294 ?_
                  refine V_mald X hR 4 (i) 18 (by decide) rfl (by omega) (by decide) (w := ar 4 i) (by rw [va_up_ne _ _ (show (4 : Nat) ≠ 2 by decide), va_up_ne _ _ (show (4 : Nat) ≠ 1 by decide), h4]; exact ifF_i) dX6_finish_296 ?_
                  refine V_if_le X (tgt := 304) (by decide) dX6_finish_297 (fun hc297 => ?_) (fun hc297 => ?_)
                  · refine V_iconst X (v := 0) (by decide) dX6_finish_304 ?_
                    refine V_isub X dX6_finish_305 ?_
                    refine V.top (y := nlI (ar 4 i)) (congrArg (ar 4 i - ·) (if_pos hc297).symm) ?_
                    refine V_mast X hR hF 4 (i) 18 (by decide) rfl (by omega) (by decide) dX6_finish_306 (fun f hR hF => ?_)
                    refine V_iinc X (lv' := [(4, _), (8, _), (7, _), (6, _), (5, _), (0, _), (1, _), (2, _), (3, _)]) (v := nI (i + 1)) rfl (nI_1 _) (by decide) rfl dX6_finish_307 ?_
                    refine V_goto X (tgt := 113) (by decide) dX6_finish_310 ?_
                    refine V.lvs (lv' := [(0, _), (1, _), (2, _), (3, _), (4, _)]) rfl ?_
                    exact ih (np - (i + 1)) (by omega) (i + 1) rfl (by omega) _ _ hR hF ⟨by rw [va_up_ne _ _ (show (1 : Nat) ≠ 4 by decide), va_up_ne _ _ (show (1 : Nat) ≠ 2 by decide), va_up_self, h1]; exact ifF_t (bI_ne0 hc132) rfl, by rw [va_up_ne _ _ (show (2 : Nat) ≠ 4 by decide), va_up_self, va_up_ne _ _ (show (2 : Nat) ≠ 1 by decide), h2]; exact ifF_t (bI_ne0 hc132) rfl, by rw [va_up_self, va_up_ne _ _ (show (4 : Nat) ≠ 2 by decide), va_up_ne _ _ (show (4 : Nat) ≠ 1 by decide), h4]; exact ifF_t (bI_ne0 hc132) rfl, fun j a b c => by rw [va_up_ne _ _ c, va_up_ne _ _ b, va_up_ne _ _ a]; exact hoth j a b c⟩
                  · refine V_iconst X (v := 1) (by decide) dX6_finish_300 ?_
                    refine V_goto X (tgt := 305) (by decide) dX6_finish_301 ?_
                    refine V_isub X dX6_finish_305 ?_
                    refine V.top (y := nlI (ar 4 i)) (congrArg (ar 4 i - ·) (if_neg hc297).symm) ?_
                    refine V_mast X hR hF 4 (i) 18 (by decide) rfl (by omega) (by decide) dX6_finish_306 (fun f hR hF => ?_)
                    refine V_iinc X (lv' := [(4, _), (8, _), (7, _), (6, _), (5, _), (0, _), (1, _), (2, _), (3, _)]) (v := nI (i + 1)) rfl (nI_1 _) (by decide) rfl dX6_finish_307 ?_
                    refine V_goto X (tgt := 113) (by decide) dX6_finish_310 ?_
                    refine V.lvs (lv' := [(0, _), (1, _), (2, _), (3, _), (4, _)]) rfl ?_
                    exact ih (np - (i + 1)) (by omega) (i + 1) rfl (by omega) _ _ hR hF ⟨by rw [va_up_ne _ _ (show (1 : Nat) ≠ 4 by decide), va_up_ne _ _ (show (1 : Nat) ≠ 2 by decide), va_up_self, h1]; exact ifF_t (bI_ne0 hc132) rfl, by rw [va_up_ne _ _ (show (2 : Nat) ≠ 4 by decide), va_up_self, va_up_ne _ _ (show (2 : Nat) ≠ 1 by decide), h2]; exact ifF_t (bI_ne0 hc132) rfl, by rw [va_up_self, va_up_ne _ _ (show (4 : Nat) ≠ 2 by decide), va_up_ne _ _ (show (4 : Nat) ≠ 1 by decide), h4]; exact ifF_t (bI_ne0 hc132) rfl, fun j a b c => by rw [va_up_ne _ _ c, va_up_ne _ _ b, va_up_ne _ _ a]; exact hoth j a b c⟩
            · refine V_iconst X (v := 0) (by decide) dX6_finish_225 ?_
              refine V_goto X (tgt := 245) (by decide) dX6_finish_226 ?_
              refine V.top (y := nrI ar (ar 11 (2 * k)) wn (exI (e0I np k ar)) i) ((show clI _ = _ from if_neg hc222).symm) ?_
              refine V_mast X hR hF 1 (i) 18 (by decide) rfl (by omega) (by decide) dX6_finish_245 (fun f hR hF => ?_)
              refine V_aload_n X rfl dX6_finish_246 ?_
              refine V_mget X hR (v := .ref (am 2)) 2 (by decide) hinX6_finish_X6 (rfl) (by decide +kernel) rfl dX6_finish_247 ?_
              refine V_iload X rfl dX6_finish_250 ?_
              refine V_mald X hR 2 (i) 18 (by decide) rfl (by omega) (by decide) (w := ar 2 i) (by rw [va_up_ne _ _ (show (2 : Nat) ≠ 1 by decide), h2]; exact ifF_i) dX6_finish_252 ?_
              refine V_bipush X (v := 9) (by decide) dX6_finish_253 ?_
              refine V_imul X dX6_finish_255 ?_
              refine V_bipush X (v := 10) (by decide) dX6_finish_256 ?_
              refine V_idiv X (by decide) dX6_finish_258 ?_
              refine V_istore X (lv' := [(8, _), (7, _), (6, _), (5, _), (0, _), (1, _), (2, _), (3, _), (4, _)]) (by decide) rfl dX6_finish_259 ?_
              refine V_aload_n X rfl dX6_finish_261 ?_
              refine V_mget X hR (v := .ref (am 2)) 2 (by decide) hinX6_finish_X6 (rfl) (by decide +kernel) rfl dX6_finish_262 ?_
              refine V_iload X rfl dX6_finish_265 ?_
              refine V_iload X rfl dX6_finish_267 ?_
              refine V_bipush X (v := 50) (by decide) dX6_finish_269 ?_
              refine V_icmp_ge X (tgt := 279) (by decide) dX6_finish_271 (fun hc271 => ?_) (fun hc271 => ?_)
              · refine V_iload X rfl dX6_finish_279 ?_
                refine V.top (y := nuI (ar 2 i)) ((if_pos hc271).symm) ?_
                refine V_mast X hR hF 2 (i) 18 (by decide) rfl (by omega) (by decide) dX6_finish_281 (fun f hR hF => ?_)
                refine V_aload_n X rfl dX6_finish_282 ?_
                refine V_mget X hR (v := .ref (am 4)) 4 (by decide) hinX6_finish_X6 (rfl) (by decide +kernel) rfl dX6_finish_283 ?_
                refine V_iload X rfl dX6_finish_286 ?_
                refine V_dup2 X rfl rfl dX6_finish_288 ?_
                refine V_mald X hR 4 (i) 18 (by decide) rfl (by omega) (by decide) (w := ar 4 i) (by rw [va_up_ne _ _ (show (4 : Nat) ≠ 2 by decide), va_up_ne _ _ (show (4 : Nat) ≠ 1 by decide), h4]; exact ifF_i) dX6_finish_289 ?_
                refine V_aload_n X rfl dX6_finish_290 ?_
                refine V_mget X hR (v := .ref (am 4)) 4 (by decide) hinX6_finish_X6 (rfl) (by decide +kernel) rfl dX6_finish_291 ?_
                refine V_iload X rfl dX6_finish_294 ?_
                refine V_mald X hR 4 (i) 18 (by decide) rfl (by omega) (by decide) (w := ar 4 i) (by rw [va_up_ne _ _ (show (4 : Nat) ≠ 2 by decide), va_up_ne _ _ (show (4 : Nat) ≠ 1 by decide), h4]; exact ifF_i) dX6_finish_296 ?_
                refine V_if_le X (tgt := 304) (by decide) dX6_finish_297 (fun hc297 => ?_) (fun hc297 => ?_)
                · refine V_iconst X (v := 0) (by decide) dX6_finish_304 ?_
                  refine V_isub X dX6_finish_305 ?_
                  refine V.top (y := nlI (ar 4 i)) (congrArg (ar 4 i - ·) (if_pos hc297).symm) ?_
                  refine V_mast X hR hF 4 (i) 18 (by decide) rfl (by omega) (by decide) dX6_finish_306 (fun f hR hF => ?_)
                  refine V_iinc X (lv' := [(4, _), (8, _), (7, _), (6, _), (5, _), (0, _), (1, _), (2, _), (3, _)]) (v := nI (i + 1)) rfl (nI_1 _) (by decide) rfl dX6_finish_307 ?_
                  refine V_goto X (tgt := 113) (by decide) dX6_finish_310 ?_
                  refine V.lvs (lv' := [(0, _), (1, _), (2, _), (3, _), (4, _)]) rfl ?_
                  exact ih (np - (i + 1)) (by omega) (i + 1) rfl (by omega) _ _ hR hF ⟨by rw [va_up_ne _ _ (show (1 : Nat) ≠ 4 by decide), va_up_ne _ _ (show (1 : Nat) ≠ 2 by decide), va_up_self, h1]; exact ifF_t (bI_ne0 hc132) rfl, by rw [va_up_ne _ _ (show (2 : Nat) ≠ 4 by decide), va_up_self, va_up_ne _ _ (show (2 : Nat) ≠ 1 by decide), h2]; exact ifF_t (bI_ne0 hc132) rfl, by rw [va_up_self, va_up_ne _ _ (show (4 : Nat) ≠ 2 by decide), va_up_ne _ _ (show (4 : Nat) ≠ 1 by decide), h4]; exact ifF_t (bI_ne0 hc132) rfl, fun j a b c => by rw [va_up_ne _ _ c, va_up_ne _ _ b, va_up_ne _ _ a]; exact hoth j a b c⟩
                · refine V_iconst X (v := 1) (by decide) dX6_finish_300 ?_
                  refine V_goto X (tgt := 305) (by decide) dX6_finish_301 ?_
                  refine V_isub X dX6_finish_305 ?_
                  refine V.top (y := nlI (ar 4 i)) (congrArg (ar 4 i - ·) (if_neg hc297).symm) ?_
                  refine V_mast X hR hF 4 (i) 18 (by decide) rfl (by omega) (by decide) dX6_finish_306 (fun f hR hF => ?_)
                  refine V_iinc X (lv' := [(4, _), (8, _), (7, _), (6, _), (5, _), (0, _), (1, _), (2, _), (3, _)]) (v := nI (i + 1)) rfl (nI_1 _) (by decide) rfl dX6_finish_307 ?_
                  refine V_goto X (tgt := 113) (by decide) dX6_finish_310 ?_
                  refine V.lvs (lv' := [(0, _), (1, _), (2, _), (3, _), (4, _)]) rfl ?_
                  exact ih (np - (i + 1)) (by omega) (i + 1) rfl (by omega) _ _ hR hF ⟨by rw [va_up_ne _ _ (show (1 : Nat) ≠ 4 by decide), va_up_ne _ _ (show (1 : Nat) ≠ 2 by decide), va_up_self, h1]; exact ifF_t (bI_ne0 hc132) rfl, by rw [va_up_ne _ _ (show (2 : Nat) ≠ 4 by decide), va_up_self, va_up_ne _ _ (show (2 : Nat) ≠ 1 by decide), h2]; exact ifF_t (bI_ne0 hc132) rfl, by rw [va_up_self, va_up_ne _ _ (show (4 : Nat) ≠ 2 by decide), va_up_ne _ _ (show (4 : Nat) ≠ 1 by decide), h4]; exact ifF_t (bI_ne0 hc132) rfl, fun j a b c => by rw [va_up_ne _ _ c, va_up_ne _ _ b, va_up_ne _ _ a]; exact hoth j a b c⟩
              · refine V_bipush X (v := 50) (by decide) dX6_finish_274 ?_
                refine V_goto X (tgt := 281) (by decide) dX6_finish_276 ?_
                refine V.top (y := nuI (ar 2 i)) ((if_neg hc271).symm) ?_
                refine V_mast X hR hF 2 (i) 18 (by decide) rfl (by omega) (by decide) dX6_finish_281 (fun f hR hF => ?_)
                refine V_aload_n X rfl dX6_finish_282 ?_
                refine V_mget X hR (v := .ref (am 4)) 4 (by decide) hinX6_finish_X6 (rfl) (by decide +kernel) rfl dX6_finish_283 ?_
                refine V_iload X rfl dX6_finish_286 ?_
                refine V_dup2 X rfl rfl dX6_finish_288 ?_
                refine V_mald X hR 4 (i) 18 (by decide) rfl (by omega) (by decide) (w := ar 4 i) (by rw [va_up_ne _ _ (show (4 : Nat) ≠ 2 by decide), va_up_ne _ _ (show (4 : Nat) ≠ 1 by decide), h4]; exact ifF_i) dX6_finish_289 ?_
                refine V_aload_n X rfl dX6_finish_290 ?_
                refine V_mget X hR (v := .ref (am 4)) 4 (by decide) hinX6_finish_X6 (rfl) (by decide +kernel) rfl dX6_finish_291 ?_
                refine V_iload X rfl dX6_finish_294 ?_
                refine V_mald X hR 4 (i) 18 (by decide) rfl (by omega) (by decide) (w := ar 4 i) (by rw [va_up_ne _ _ (show (4 : Nat) ≠ 2 by decide), va_up_ne _ _ (show (4 : Nat) ≠ 1 by decide), h4]; exact ifF_i) dX6_finish_296 ?_
                refine V_if_le X (tgt := 304) (by decide) dX6_finish_297 (fun hc297 => ?_) (fun hc297 => ?_)
                · refine V_iconst X (v := 0) (by decide) dX6_finish_304 ?_
                  refine V_isub X dX6_finish_305 ?_
                  refine V.top (y := nlI (ar 4 i)) (congrArg (ar 4 i - ·) (if_pos hc297).symm) ?_
                  refine V_mast X hR hF 4 (i) 18 (by decide) rfl (by omega) (by decide) dX6_finish_306 (fun f hR hF => ?_)
                  refine V_iinc X (lv' := [(4, _), (8, _), (7, _), (6, _), (5, _), (0, _), (1, _), (2, _), (3, _)]) (v := nI (i + 1)) rfl (nI_1 _) (by decide) rfl dX6_finish_307 ?_
                  refine V_goto X (tgt := 113) (by decide) dX6_finish_310 ?_
                  refine V.lvs (lv' := [(0, _), (1, _), (2, _), (3, _), (4, _)]) rfl ?_
                  exact ih (np - (i + 1)) (by omega) (i + 1) rfl (by omega) _ _ hR hF ⟨by rw [va_up_ne _ _ (show (1 : Nat) ≠ 4 by decide), va_up_ne _ _ (show (1 : Nat) ≠ 2 by decide), va_up_self, h1]; exact ifF_t (bI_ne0 hc132) rfl, by rw [va_up_ne _ _ (show (2 : Nat) ≠ 4 by decide), va_up_self, va_up_ne _ _ (show (2 : Nat) ≠ 1 by decide), h2]; exact ifF_t (bI_ne0 hc132) rfl, by rw [va_up_self, va_up_ne _ _ (show (4 : Nat) ≠ 2 by decide), va_up_ne _ _ (show (4 : Nat) ≠ 1 by decide), h4]; exact ifF_t (bI_ne0 hc132) rfl, fun j a b c => by rw [va_up_ne _ _ c, va_up_ne _ _ b, va_up_ne _ _ a]; exact hoth j a b c⟩
                · refine V_iconst X (v := 1) (by decide) dX6_finish_300 ?_
                  refine V_goto X (tgt := 305) (by decide) dX6_finish_301 ?_
                  refine V_isub X dX6_finish_305 ?_
                  refine V.top (y := nlI (ar 4 i)) (congrArg (ar 4 i - ·) (if_neg hc297).symm) ?_
                  refine V_mast X hR hF 4 (i) 18 (by decide) rfl (by omega) (by decide) dX6_finish_306 (fun f hR hF => ?_)
                  refine V_iinc X (lv' := [(4, _), (8, _), (7, _), (6, _), (5, _), (0, _), (1, _), (2, _), (3, _)]) (v := nI (i + 1)) rfl (nI_1 _) (by decide) rfl dX6_finish_307 ?_
                  refine V_goto X (tgt := 113) (by decide) dX6_finish_310 ?_
                  refine V.lvs (lv' := [(0, _), (1, _), (2, _), (3, _), (4, _)]) rfl ?_
                  exact ih (np - (i + 1)) (by omega) (i + 1) rfl (by omega) _ _ hR hF ⟨by rw [va_up_ne _ _ (show (1 : Nat) ≠ 4 by decide), va_up_ne _ _ (show (1 : Nat) ≠ 2 by decide), va_up_self, h1]; exact ifF_t (bI_ne0 hc132) rfl, by rw [va_up_ne _ _ (show (2 : Nat) ≠ 4 by decide), va_up_self, va_up_ne _ _ (show (2 : Nat) ≠ 1 by decide), h2]; exact ifF_t (bI_ne0 hc132) rfl, by rw [va_up_self, va_up_ne _ _ (show (4 : Nat) ≠ 2 by decide), va_up_ne _ _ (show (4 : Nat) ≠ 1 by decide), h4]; exact ifF_t (bI_ne0 hc132) rfl, fun j a b c => by rw [va_up_ne _ _ c, va_up_ne _ _ b, va_up_ne _ _ a]; exact hoth j a b c⟩
          have J156 : V K f 0 0 156 [(0, .ref (am 0)), (1, .int (nI k)), (2, .int wn), (3, .int (exI (e0I np k ar))), (4, .int (nI i))] [.int (tmI (ar 11 (2 * k)) i)] := by
            refine V_istore X (lv' := [(5, _), (0, _), (1, _), (2, _), (3, _), (4, _)]) (by decide) rfl dX6_finish_156 ?_
            refine V_iload X rfl dX6_finish_158 ?_
            refine V_iload_n X rfl dX6_finish_160 ?_
            refine V_icmp_ne X (tgt := 170) (by decide) dX6_finish_161 (fun hc161 => ?_) (fun hc161 => ?_)
            · refine V_iconst X (v := 0) (by decide) dX6_finish_170 ?_
              refine V.top (y := (if tmI (ar 11 (2 * k)) i = wn then 1000 else 0)) ((if_neg hc161).symm) ?_
              refine V_iload X rfl dX6_finish_171 ?_
              refine V_if_ne X (tgt := 180) (by decide) dX6_finish_173 (fun hc173 => ?_) (fun hc173 => ?_)
              · refine V_sipush X (v := 1000) (by decide) dX6_finish_180 ?_
                refine V_iload_n X rfl dX6_finish_183 ?_
                refine V_isub X dX6_finish_184 ?_
                refine V.top (y := (if tmI (ar 11 (2 * k)) i = 0 then exI (e0I np k ar) else 1000 - exI (e0I np k ar))) ((if_neg hc173).symm) ?_
                refine V_isub X dX6_finish_185 ?_
                exact J186
              · refine V_iload_n X rfl dX6_finish_176 ?_
                refine V_goto X (tgt := 185) (by decide) dX6_finish_177 ?_
                refine V.top (y := (if tmI (ar 11 (2 * k)) i = 0 then exI (e0I np k ar) else 1000 - exI (e0I np k ar))) ((if_pos hc173).symm) ?_
                refine V_isub X dX6_finish_185 ?_
                exact J186
            · refine V_sipush X (v := 1000) (by decide) dX6_finish_164 ?_
              refine V_goto X (tgt := 171) (by decide) dX6_finish_167 ?_
              refine V.top (y := (if tmI (ar 11 (2 * k)) i = wn then 1000 else 0)) ((if_pos hc161).symm) ?_
              refine V_iload X rfl dX6_finish_171 ?_
              refine V_if_ne X (tgt := 180) (by decide) dX6_finish_173 (fun hc173 => ?_) (fun hc173 => ?_)
              · refine V_sipush X (v := 1000) (by decide) dX6_finish_180 ?_
                refine V_iload_n X rfl dX6_finish_183 ?_
                refine V_isub X dX6_finish_184 ?_
                refine V.top (y := (if tmI (ar 11 (2 * k)) i = 0 then exI (e0I np k ar) else 1000 - exI (e0I np k ar))) ((if_neg hc173).symm) ?_
                refine V_isub X dX6_finish_185 ?_
                exact J186
              · refine V_iload_n X rfl dX6_finish_176 ?_
                refine V_goto X (tgt := 185) (by decide) dX6_finish_177 ?_
                refine V.top (y := (if tmI (ar 11 (2 * k)) i = 0 then exI (e0I np k ar) else 1000 - exI (e0I np k ar))) ((if_pos hc173).symm) ?_
                refine V_isub X dX6_finish_185 ?_
                exact J186
          refine V_aload_n X rfl dX6_finish_135 ?_
          refine V_mget X hR (v := .ref (am 11)) 13 (by decide) hinX6_finish_X6 (rfl) (by decide +kernel) rfl dX6_finish_136 ?_
          refine V_iconst X (v := 2) (by decide) dX6_finish_139 ?_
          refine V_iload_n X rfl dX6_finish_140 ?_
          refine V_imul X dX6_finish_141 ?_
          refine V.top (y := nI (2 * k)) (nI_2m k) ?_
          refine V_mald X hR 11 (2 * k) 1200 (by decide) rfl (by omega) (by decide) (w := ar 11 (2 * k)) (by rw [hoth 11 (by decide) (by decide) (by decide)]) dX6_finish_142 ?_
          refine V_iload X rfl dX6_finish_143 ?_
          refine V_callSp X (rest := _) (c_X6_has _ _ _ _ _) gX6_finish_X6_has rfl hds_X6_has (Nat.le_of_ble_eq_true rfl) (Nat.le_of_ble_eq_true rfl) rfl (Nat.le_of_ble_eq_true rfl) dX6_finish_145 ?_
          refine V_if_eq X (tgt := 155) (by decide) dX6_finish_148 (fun hc148 => ?_) (fun hc148 => ?_)
          · refine V_iconst X (v := 1) (by decide) dX6_finish_155 ?_
            refine V.top (y := tmI (ar 11 (2 * k)) i) ((if_neg (by rw [bI_eq0 hc148]; decide)).symm) ?_
            exact J156
          · refine V_iconst X (v := 0) (by decide) dX6_finish_151 ?_
            refine V_goto X (tgt := 156) (by decide) dX6_finish_152 ?_
            refine V.top (y := tmI (ar 11 (2 * k)) i) ((if_pos (bI_ne0 hc148)).symm) ?_
            exact J156
  refine V_aload_n X rfl dX6_finish_0 ?_
  refine V_aload_n X rfl dX6_finish_1 ?_
  refine V_iload_n X rfl dX6_finish_2 ?_
  refine V_callVp X (rest := _) (c_X6_isMatch _ _ _ am sc ar hR _) hR.1 rfl gX6_finish_X6_isMatch rfl hdv_X6_isMatch (Nat.le_of_ble_eq_true rfl) (Nat.le_of_ble_eq_true rfl) rfl (Nat.le_of_ble_eq_true rfl) dX6_finish_3 ?_
  refine V.top (y := 1) (by rw [hm]; rfl) ?_
  refine V_if_ne X (tgt := 13) (by decide) dX6_finish_6 (fun hc6 => ?_) (fun hc6 => absurd hc6 (by decide))
  refine V_iload_n X rfl dX6_finish_13 ?_
  refine V_iconst X (v := 0) (by decide) dX6_finish_14 ?_
  refine V_iconst X (v := 1) (by decide) dX6_finish_15 ?_
  refine V_callSp X (rest := _) (c_X6_isIn _ _ _ _ _ _) gX6_finish_X6_isIn rfl hds_X6_isIn (Nat.le_of_ble_eq_true rfl) (Nat.le_of_ble_eq_true rfl) rfl (Nat.le_of_ble_eq_true rfl) dX6_finish_16 ?_
  refine V.top (y := 1) (by rw [hw]; rfl) ?_
  refine V_if_ne X (tgt := 26) (by decide) dX6_finish_19 (fun hc19 => ?_) (fun hc19 => absurd hc19 (by decide))
  refine V_aload_n X rfl dX6_finish_26 ?_
  refine V_mget X hR (v := .ref (am 15)) 17 (by decide) hinX6_finish_X6 (rfl) (by decide +kernel) rfl dX6_finish_27 ?_
  refine V_iload_n X rfl dX6_finish_30 ?_
  refine V_mald X hR 15 (k) 600 (by decide) rfl (by omega) (by decide) rfl dX6_finish_31 ?_
  refine V_iconst X (v := 1) (by decide) dX6_finish_32 ?_
  refine V_icmp_ne X (tgt := 40) (by decide) dX6_finish_33 (fun hc33 => absurd hc33 (not_not_intro hs)) (fun hc33 => ?_)
  refine V_iconst X (v := 0) (by decide) dX6_finish_36 ?_
  refine V_goto X (tgt := 41) (by decide) dX6_finish_37 ?_
  refine V_callV (kc' := 0) (ks' := 0) X (rest := _) (c_X6_can _ _ _ am _ ar hR _) hR.1 rfl gX6_finish_X6_can rfl hdv_X6_can (Nat.le_of_ble_eq_true rfl) (Nat.le_of_ble_eq_true rfl) rfl (Nat.le_of_ble_eq_true rfl) (by omega) (by omega) dX6_finish_41 (fun r f1 hq => ?_)
  obtain ⟨rfl, hR, hF1⟩ := hq
  have hF := hF.trans hF1
  refine V.top (y := 1) (by decide) ?_
  refine V_if_ne X (tgt := 48) (by decide) dX6_finish_44 (fun hc44 => ?_) (fun hc44 => absurd hc44 (by decide))
  refine V_sipush X (v := 500) (by decide) dX6_finish_48 ?_
  refine V_aload_n X rfl dX6_finish_51 ?_
  refine V_aload_n X rfl dX6_finish_52 ?_
  refine V_mget X hR (v := .ref (am 11)) 13 (by decide) hinX6_finish_X6 (rfl) (by decide +kernel) rfl dX6_finish_53 ?_
  refine V_iconst X (v := 2) (by decide) dX6_finish_56 ?_
  refine V_iload_n X rfl dX6_finish_57 ?_
  refine V_imul X dX6_finish_58 ?_
  refine V.top (y := nI (2 * k)) (nI_2m k) ?_
  refine V_mald X hR 11 (2 * k) 1200 (by decide) rfl (by omega) (by decide) rfl dX6_finish_59 ?_
  refine V_callVp X (rest := _) (c_X6_sumOf _ _ _ am _ _ hR np hnp hp18 _) hR.1 rfl gX6_finish_X6_sumOf rfl hdv_X6_sumOf (Nat.le_of_ble_eq_true rfl) (Nat.le_of_ble_eq_true rfl) rfl (Nat.le_of_ble_eq_true rfl) dX6_finish_60 ?_
  refine V_iconst X (v := 3) (by decide) dX6_finish_63 ?_
  refine V_idiv X (by decide) dX6_finish_64 ?_
  refine V_iadd X dX6_finish_65 ?_
  refine V_aload_n X rfl dX6_finish_66 ?_
  refine V_aload_n X rfl dX6_finish_67 ?_
  refine V_mget X hR (v := .ref (am 11)) 13 (by decide) hinX6_finish_X6 (rfl) (by decide +kernel) rfl dX6_finish_68 ?_
  refine V_iconst X (v := 2) (by decide) dX6_finish_71 ?_
  refine V_iload_n X rfl dX6_finish_72 ?_
  refine V_imul X dX6_finish_73 ?_
  refine V.top (y := nI (2 * k)) (nI_2m k) ?_
  refine V_iconst X (v := 1) (by decide) dX6_finish_74 ?_
  refine V_iadd X dX6_finish_75 ?_
  refine V.top (y := nI (2 * k + 1)) (nI_2m1 k) ?_
  refine V_mald X hR 11 (2 * k + 1) 1200 (by decide) rfl (by omega) (by decide) rfl dX6_finish_76 ?_
  refine V_callVp X (rest := _) (c_X6_sumOf _ _ _ am _ _ hR np hnp hp18 _) hR.1 rfl gX6_finish_X6_sumOf rfl hdv_X6_sumOf (Nat.le_of_ble_eq_true rfl) (Nat.le_of_ble_eq_true rfl) rfl (Nat.le_of_ble_eq_true rfl) dX6_finish_77 ?_
  refine V_iconst X (v := 3) (by decide) dX6_finish_80 ?_
  refine V_idiv X (by decide) dX6_finish_81 ?_
  refine V_isub X dX6_finish_82 ?_
  have J109 : V K f1 0 0 109 [(3, .int (e0I np k ar)), (0, .ref (am 0)), (1, .int (nI k)), (2, .int wn)] [.int (exI (e0I np k ar))] := by
    refine V_istore_n X (lv' := [(3, _), (0, _), (1, _), (2, _)]) (by decide) rfl dX6_finish_109 ?_
    refine V_iconst X (v := 0) (by decide) dX6_finish_110 ?_
    refine V_istore X (lv' := [(4, _), (3, _), (0, _), (1, _), (2, _)]) (by decide) rfl dX6_finish_111 ?_
    refine V.lvs (lv' := [(0, _), (1, _), (2, _), (3, _), (4, _)]) rfl ?_
    exact L1 np 0 (by omega) (by omega) f1 ar hR (by rw [hf0]; exact hF) ⟨by rw [ifF_0], by rw [ifF_0], by rw [ifF_0], fun _ _ _ _ => rfl⟩
  refine V_istore_n X (lv' := [(3, _), (0, _), (1, _), (2, _)]) (by decide) rfl dX6_finish_83 ?_
  refine V_iload_n X rfl dX6_finish_84 ?_
  refine V_bipush X (v := 50) (by decide) dX6_finish_85 ?_
  refine V_icmp_ge X (tgt := 95) (by decide) dX6_finish_87 (fun hc87 => ?_) (fun hc87 => ?_)
  · refine V_iload_n X rfl dX6_finish_95 ?_
    refine V_sipush X (v := 950) (by decide) dX6_finish_96 ?_
    refine V_icmp_le X (tgt := 108) (by decide) dX6_finish_99 (fun hc99 => ?_) (fun hc99 => ?_)
    · refine V_iload_n X rfl dX6_finish_108 ?_
      refine V.top (y := exI (e0I np k ar)) (((if_pos hc87).trans (if_pos hc99)).symm) ?_
      exact J109
    · refine V_sipush X (v := 950) (by decide) dX6_finish_102 ?_
      refine V_goto X (tgt := 109) (by decide) dX6_finish_105 ?_
      refine V.top (y := exI (e0I np k ar)) (((if_pos hc87).trans (if_neg hc99)).symm) ?_
      exact J109
  · refine V_bipush X (v := 50) (by decide) dX6_finish_90 ?_
    refine V_goto X (tgt := 109) (by decide) dX6_finish_92 ?_
    refine V.top (y := exI (e0I np k ar)) ((if_neg hc87).symm) ?_
    exact J109
