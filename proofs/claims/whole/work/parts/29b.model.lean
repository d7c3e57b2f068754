theorem plI_gb {mn k : Nat} {s : Int32} {ln : Nat → Nat} {mem : Nat → Int32} (h : ∀ i, i < mn → gb (mem (ln i)) k = false) : ∀ n, n ≤ mn → gb (plI mn s ln mem n) k = false
  | 0, _ => gb_0 k
  | n + 1, hn => by
    show gb (plI mn s ln mem n ||| (if hsI s (nI (mn - 1 - n)) = true then mem (ln n) else 0)) k = false
    rw [gb_or, plI_gb h n (by omega), Bool.false_or]
    split
    · exact h n (by omega)
    · exact gb_0 k
/-- a split of the line's parties: the team 0, the team 1, how far they are apart; fi: the first party's bit, r: the others, p: those of them in the team 0 -/
def t0I (mn : Nat) (ar : Nat → Nat → Int32) (ln : Nat → Nat) (fi : Int32) (p : Nat) : Int32 := plI mn (nI p ||| fi) ln (ar 7) mn
def t1I (mn : Nat) (ar : Nat → Nat → Int32) (ln : Nat → Nat) (r p : Nat) : Int32 := plI mn (nI r &&& (nI p ^^^ (-1))) ln (ar 7) mn
def farI (np mn : Nat) (ar : Nat → Nat → Int32) (ln : Nat → Nat) (fi : Int32) (r p : Nat) : Int32 := absI (smI np (t0I mn ar ln fi p) (ar 1) - smI np (t1I mn ar ln r p) (ar 1))
def posB (np mn : Nat) (ar : Nat → Nat → Int32) (ln : Nat → Nat) (fi : Int32) (r p : Nat) : Bool := tmB np (ar 3) (t0I mn ar ln fi p) && tmB np (ar 3) (t1I mn ar ln r p)
def stS (np mn : Nat) (ar : Nat → Nat → Int32) (ln : Nat → Nat) (fi : Int32) (r p : Nat) (q : Int32 × Int32) : Int32 × Int32 :=
  if posB np mn ar ln fi r p = true ∧ (q.1 = 0 ∨ farI np mn ar ln fi r p < q.2) then (nI p ||| fi, farI np mn ar ln fi r p) else q
def spG (np mn : Nat) (ar : Nat → Nat → Int32) (ln : Nat → Nat) (fi : Int32) (r : Nat) : Nat → Nat → Int32 × Int32 → Int32 × Int32
  | 0, p, q => stS np mn ar ln fi r p q
  | n + 1, p, q => if p = 0 then stS np mn ar ln fi r p q else spG np mn ar ln fi r n ((p - 1) &&& r) (stS np mn ar ln fi r p q)
theorem hinX6_splits_X6 : ∀ w ∈ wsX60, w ∈ wsX6_splits := by decide +kernel
set_option maxHeartbeats 4000000 in
set_option maxRecDepth 100000 in
theorem c_X6_splits (l : Launch) (G : GG) (f : Wo) (am : Nat → Nat) (sc : Nat → Int32) (ar : Nat → Nat → Int32) (hR : RM G am sc ar f) (np : Nat) (hnp : sc 0 = nI np) (hp18 : np ≤ 18) (mn : Nat) (hmn : sc 4 = nI mn) (hm18 : mn ≤ 18) (ln : Nat → Nat) (hln : ∀ i, i < mn → ar 16 i = nI (ln i) ∧ ln i < 100) (hmem : ∀ i, i < mn → ∀ k, np ≤ k → k < 18 → hsI (ar 7 (ln i)) (nI k) = false) (st fi : Int32) (r : Nat) (hrest : st &&& (fi ^^^ (-1)) = nI r) (hr31 : r < 2 ^ 31) : Ct l yX6_splits wsX6_splits 3 94 G [.ref (am 0), .int st, .int fi] f (fun v9 f' => v9 = some (.int (bI (decide (¬ (spG np mn ar ln fi r r r (0, sc 6)).1 = 0)))) ∧ RM G am (va_up (va_up sc 5 (spG np mn ar ln fi r r r (0, sc 6)).1) 6 (spG np mn ar ln fi r r r (0, sc 6)).2) (ar) f' ∧ FrM am f f') 0 0 := by
  refine Ct.of (cc := cX6_splits) (maxL := 10) (ret := (some .boolean)) (by decide) rfl (Nat.le_of_ble_eq_true rfl) (lv := [(0, _), (1, _), (2, _)]) rfl (by simp [Value.category]) ?_
  intro K X hL hG hr hnm
  subst hL; subst hG
  have hF : FrM am f f := FrM.rf
  obtain ⟨f0, hf0⟩ : ∃ z, z = f := ⟨_, rfl⟩
  obtain ⟨Z, hZdef⟩ : ∃ z, z = spG np mn ar ln fi r r r (0, sc 6) := ⟨_, rfl⟩
  rw [← hZdef] at hr
  have LS : ∀ (m p : Nat), p = m → ∀ (n : Nat) (a b : Int32) (fw : Wo), p ≤ n → p < 2 ^ 31 → spG np mn ar ln fi r n p (a, b) = Z → RM (kG K) am (va_up (va_up sc 5 a) 6 b) ar fw → FrM am f0 fw → V K fw 0 0 17 [(0, .ref (am 0)), (1, .int st), (2, .int fi), (3, .int (nI r)), (4, .int (nI p)), (5, .int 1)] [] := by
    intro m
    induction m using Nat.strongRecOn with
    | ind m ih =>
      intro p hpm n a b fw hpn hp31 hZ hRw hFw
      have hZ9 : (if p = 0 then stS np mn ar ln fi r p (a, b) else spG np mn ar ln fi r (n - 1) ((p - 1) &&& r) (stS np mn ar ln fi r p (a, b))) = Z := by
        rw [← hZ]
        cases n with
        | zero => rw [if_pos (by omega)]; rfl
        | succ n => rfl
      have J153 : ∀ (fw : Wo) (a b : Int32), RM (kG K) am (va_up (va_up sc 5 a) 6 b) ar fw → FrM am f0 fw → (if p = 0 then (a, b) else spG np mn ar ln fi r (n - 1) ((p - 1) &&& r) (a, b)) = Z → V K fw 0 0 153 [(0, .ref (am 0)), (1, .int st), (2, .int fi), (3, .int (nI r)), (4, .int (nI p)), (5, .int 1)] [] := by
        intro f a b hR hF hZ
        refine V_iload X rfl dX6_splits_153 ?_
        refine V_if_le X (tgt := 162) (by decide) dX6_splits_155 (fun hc155 => ?_) (fun hc155 => ?_)
        · have hp0 : p = 0 := by
            have h9 := (nI_leI (a := p) (b := 0) (by omega) (by decide)).mp hc155
            omega
          rw [if_pos hp0] at hZ
          have hz1 : a = Z.1 := congrArg Prod.fst hZ
          have hz2 : b = Z.2 := congrArg Prod.snd hZ
          refine V_iconst X (v := 0) (by decide) dX6_splits_162 ?_
          refine V_istore X (lv' := [(5, _), (0, _), (1, _), (2, _), (3, _), (4, _)]) (by decide) rfl dX6_splits_163 ?_
          refine V_iload X rfl dX6_splits_165 ?_
          refine V_iconst X (v := 1) (by decide) dX6_splits_167 ?_
          refine V_isub X dX6_splits_168 ?_
          refine V_iload_n X rfl dX6_splits_169 ?_
          refine V_iand X dX6_splits_170 ?_
          refine V_istore X (lv' := [(4, _), (5, _), (0, _), (1, _), (2, _), (3, _)]) (by decide) rfl dX6_splits_171 ?_
          refine V_goto X (tgt := 17) (by decide) dX6_splits_173 ?_
          refine V_iload X rfl dX6_splits_17 ?_
          refine V_if_eq X (tgt := 176) (by decide) dX6_splits_19 (fun hc19 => ?_) (fun hc19 => absurd hc19 (by decide))
          refine V_aload_n X rfl dX6_splits_176 ?_
          refine V_mget X hR (v := .int (a)) 21 (by decide) hinX6_splits_X6 (congrArg (fun z => some (Value.int z)) (rfl)) (by decide +kernel) rfl dX6_splits_177 ?_
          refine V_if_eq X (tgt := 187) (by decide) dX6_splits_180 (fun hc180 => ?_) (fun hc180 => ?_)
          · refine V_iconst X (v := 0) (by decide) dX6_splits_187 ?_
            exact V_zret X hr (by decide) (⟨bI_f (decide_eq_false (by rw [← hz1]; exact not_not_intro hc180)), by rw [← hz1, ← hz2]; exact hR, by rw [← hf0]; exact hF⟩) dX6_splits_188
          · refine V_iconst X (v := 1) (by decide) dX6_splits_183 ?_
            refine V_goto X (tgt := 188) (by decide) dX6_splits_184 ?_
            exact V_zret X hr (by decide) (⟨bI_t (decide_eq_true (by rw [← hz1]; exact hc180)), by rw [← hz1, ← hz2]; exact hR, by rw [← hf0]; exact hF⟩) dX6_splits_188
        · have hp0 : ¬ p = 0 := fun e9 => hc155 (by subst e9; decide)
          rw [if_neg hp0] at hZ
          refine V_iconst X (v := 1) (by decide) dX6_splits_158 ?_
          refine V_goto X (tgt := 163) (by decide) dX6_splits_159 ?_
          refine V_istore X (lv' := [(5, _), (0, _), (1, _), (2, _), (3, _), (4, _)]) (by decide) rfl dX6_splits_163 ?_
          refine V_iload X rfl dX6_splits_165 ?_
          refine V_iconst X (v := 1) (by decide) dX6_splits_167 ?_
          refine V_isub X dX6_splits_168 ?_
          refine V_iload_n X rfl dX6_splits_169 ?_
          refine V_iand X dX6_splits_170 ?_
          refine V.top (y := nI ((p - 1) &&& r)) (by rw [show (1 : Int32) = nI 1 from rfl, pk_sub (by omega), nI_and]) ?_
          refine V_istore X (lv' := [(4, _), (5, _), (0, _), (1, _), (2, _), (3, _)]) (by decide) rfl dX6_splits_171 ?_
          refine V_goto X (tgt := 17) (by decide) dX6_splits_173 ?_
          refine V.lvs (lv' := [(0, _), (1, _), (2, _), (3, _), (4, _), (5, _)]) rfl ?_
          exact ih ((p - 1) &&& r) (by rw [← hpm]; have h9 := Nat.and_le_left (n := p - 1) (m := r); omega) _ rfl (n - 1) a b f (by have h9 := Nat.and_le_left (n := p - 1) (m := r); omega) (by have h9 := Nat.and_le_left (n := p - 1) (m := r); omega) hZ hR hF
      have J90 : tmB np (ar 3) (t0I mn ar ln fi p) = true → tmB np (ar 3) (t1I mn ar ln r p) = true → V K fw 0 0 90 [(0, .ref (am 0)), (1, .int st), (2, .int fi), (3, .int (nI r)), (4, .int (nI p)), (5, .int 1)] [.int (farI np mn ar ln fi r p)] := by
        intro ht0 ht1
        have hpos : posB np mn ar ln fi r p = true := by unfold posB; rw [ht0, ht1]; rfl
        have hR := hRw
        have hF := hFw
        refine V_istore X (lv' := [(8, _), (0, _), (1, _), (2, _), (3, _), (4, _), (5, _)]) (by decide) rfl dX6_splits_90 ?_
        refine V_aload_n X rfl dX6_splits_92 ?_
        refine V_mget X hR (v := .int (a)) 21 (by decide) hinX6_splits_X6 (congrArg (fun z => some (Value.int z)) (rfl)) (by decide +kernel) rfl dX6_splits_93 ?_
        refine V_if_eq X (tgt := 108) (by decide) dX6_splits_96 (fun hc96 => ?_) (fun hc96 => ?_)
        · refine V_iconst X (v := 1) (by decide) dX6_splits_108 ?_
          refine V_goto X (tgt := 113) (by decide) dX6_splits_109 ?_
          refine V_istore X (lv' := [(9, _), (8, _), (0, _), (1, _), (2, _), (3, _), (4, _), (5, _)]) (by decide) rfl dX6_splits_113 ?_
          refine V_aload_n X rfl dX6_splits_115 ?_
          refine V_iload X rfl dX6_splits_116 ?_
          refine V_if_eq X (tgt := 126) (by decide) dX6_splits_118 (fun hc118 => absurd hc118 (by decide)) (fun hc118 => ?_)
          refine V_iload X rfl dX6_splits_121 ?_
          refine V_goto X (tgt := 130) (by decide) dX6_splits_123 ?_
          refine V_mput X hR hF 6 22 (by decide) hinX6_splits_X6 rfl (by decide +kernel) rfl rfl rfl dX6_splits_130 (fun f hR hF => ?_)
          refine V_aload_n X rfl dX6_splits_133 ?_
          refine V_iload X rfl dX6_splits_134 ?_
          refine V_if_eq X (tgt := 146) (by decide) dX6_splits_136 (fun hc136 => absurd hc136 (by decide)) (fun hc136 => ?_)
          refine V_iload X rfl dX6_splits_139 ?_
          refine V_iload_n X rfl dX6_splits_141 ?_
          refine V_ior X dX6_splits_142 ?_
          refine V_goto X (tgt := 150) (by decide) dX6_splits_143 ?_
          refine V_mput X hR hF 5 21 (by decide) hinX6_splits_X6 rfl (by decide +kernel) rfl rfl rfl dX6_splits_150 (fun f hR hF => ?_)
          refine V.lvs (lv' := [(0, _), (1, _), (2, _), (3, _), (4, _), (5, _)]) rfl ?_
          exact J153 _ (nI p ||| fi) (farI np mn ar ln fi r p) (by rw [va_up56] at hR; exact hR) hF (by rw [show (nI p ||| fi, farI np mn ar ln fi r p) = stS np mn ar ln fi r p (a, b) from (if_pos ⟨hpos, Or.inl hc96⟩).symm]; exact hZ9)
        · refine V_iload X rfl dX6_splits_99 ?_
          refine V_aload_n X rfl dX6_splits_101 ?_
          refine V_mget X hR (v := .int (b)) 22 (by decide) hinX6_splits_X6 (congrArg (fun z => some (Value.int z)) (rfl)) (by decide +kernel) rfl dX6_splits_102 ?_
          refine V_icmp_ge X (tgt := 112) (by decide) dX6_splits_105 (fun hc105 => ?_) (fun hc105 => ?_)
          · refine V_iconst X (v := 0) (by decide) dX6_splits_112 ?_
            refine V_istore X (lv' := [(9, _), (8, _), (0, _), (1, _), (2, _), (3, _), (4, _), (5, _)]) (by decide) rfl dX6_splits_113 ?_
            refine V_aload_n X rfl dX6_splits_115 ?_
            refine V_iload X rfl dX6_splits_116 ?_
            refine V_if_eq X (tgt := 126) (by decide) dX6_splits_118 (fun hc118 => ?_) (fun hc118 => absurd hc118 (by decide))
            refine V_aload_n X rfl dX6_splits_126 ?_
            refine V_mget X hR (v := .int (b)) 22 (by decide) hinX6_splits_X6 (congrArg (fun z => some (Value.int z)) (rfl)) (by decide +kernel) rfl dX6_splits_127 ?_
            refine V_mput X hR hF 6 22 (by decide) hinX6_splits_X6 rfl (by decide +kernel) rfl rfl rfl dX6_splits_130 (fun f hR hF => ?_)
            refine V_aload_n X rfl dX6_splits_133 ?_
            refine V_iload X rfl dX6_splits_134 ?_
            refine V_if_eq X (tgt := 146) (by decide) dX6_splits_136 (fun hc136 => ?_) (fun hc136 => absurd hc136 (by decide))
            refine V_aload_n X rfl dX6_splits_146 ?_
            refine V_mget X hR (v := .int (a)) 21 (by decide) hinX6_splits_X6 (congrArg (fun z => some (Value.int z)) (rfl)) (by decide +kernel) rfl dX6_splits_147 ?_
            refine V_mput X hR hF 5 21 (by decide) hinX6_splits_X6 rfl (by decide +kernel) rfl rfl rfl dX6_splits_150 (fun f hR hF => ?_)
            refine V.lvs (lv' := [(0, _), (1, _), (2, _), (3, _), (4, _), (5, _)]) rfl ?_
            exact J153 _ a b (by rw [va_up56] at hR; exact hR) hF (by rw [show (a, b) = stS np mn ar ln fi r p (a, b) from (if_neg (fun h9 => h9.2.elim hc96 (fun h8 => absurd h8 (Int32.not_lt.mpr hc105)))).symm]; exact hZ9)
          · refine V_iconst X (v := 1) (by decide) dX6_splits_108 ?_
            refine V_goto X (tgt := 113) (by decide) dX6_splits_109 ?_
            refine V_istore X (lv' := [(9, _), (8, _), (0, _), (1, _), (2, _), (3, _), (4, _), (5, _)]) (by decide) rfl dX6_splits_113 ?_
            refine V_aload_n X rfl dX6_splits_115 ?_
            refine V_iload X rfl dX6_splits_116 ?_
            refine V_if_eq X (tgt := 126) (by decide) dX6_splits_118 (fun hc118 => absurd hc118 (by decide)) (fun hc118 => ?_)
            refine V_iload X rfl dX6_splits_121 ?_
            refine V_goto X (tgt := 130) (by decide) dX6_splits_123 ?_
            refine V_mput X hR hF 6 22 (by decide) hinX6_splits_X6 rfl (by decide +kernel) rfl rfl rfl dX6_splits_130 (fun f hR hF => ?_)
            refine V_aload_n X rfl dX6_splits_133 ?_
            refine V_iload X rfl dX6_splits_134 ?_
            refine V_if_eq X (tgt := 146) (by decide) dX6_splits_136 (fun hc136 => absurd hc136 (by decide)) (fun hc136 => ?_)
            refine V_iload X rfl dX6_splits_139 ?_
            refine V_iload_n X rfl dX6_splits_141 ?_
            refine V_ior X dX6_splits_142 ?_
            refine V_goto X (tgt := 150) (by decide) dX6_splits_143 ?_
            refine V_mput X hR hF 5 21 (by decide) hinX6_splits_X6 rfl (by decide +kernel) rfl rfl rfl dX6_splits_150 (fun f hR hF => ?_)
            refine V.lvs (lv' := [(0, _), (1, _), (2, _), (3, _), (4, _), (5, _)]) rfl ?_
            exact J153 _ (nI p ||| fi) (farI np mn ar ln fi r p) (by rw [va_up56] at hR; exact hR) hF (by rw [show (nI p ||| fi, farI np mn ar ln fi r p) = stS np mn ar ln fi r p (a, b) from (if_pos ⟨hpos, Or.inr (Int32.not_le.mp hc105)⟩).symm]; exact hZ9)
      have hR := hRw
      have hF := hFw
      refine V_iload X rfl dX6_splits_17 ?_
      refine V_if_eq X (tgt := 176) (by decide) dX6_splits_19 (fun hc19 => absurd hc19 (by decide)) (fun hc19 => ?_)
      refine V_aload_n X rfl dX6_splits_22 ?_
      refine V_iload X rfl dX6_splits_23 ?_
      refine V_iload_n X rfl dX6_splits_25 ?_
      refine V_ior X dX6_splits_26 ?_
      refine V_callVp X (rest := _) (c_X6_playersOf _ _ _ am _ _ hR mn hmn hm18 ln hln _) hR.1 rfl gX6_splits_X6_playersOf rfl hdv_X6_playersOf (Nat.le_of_ble_eq_true rfl) (Nat.le_of_ble_eq_true rfl) rfl (Nat.le_of_ble_eq_true rfl) dX6_splits_27 ?_
      refine V_istore X (lv' := [(6, _), (0, _), (1, _), (2, _), (3, _), (4, _), (5, _)]) (by decide) rfl dX6_splits_30 ?_
      refine V_aload_n X rfl dX6_splits_32 ?_
      refine V_iload_n X rfl dX6_splits_33 ?_
      refine V_iload X rfl dX6_splits_34 ?_
      refine V_iconst X (v := (-1)) (by decide) dX6_splits_36 ?_
      refine V_ixor X dX6_splits_37 ?_
      refine V_iand X dX6_splits_38 ?_
      refine V_callVp X (rest := _) (c_X6_playersOf _ _ _ am _ _ hR mn hmn hm18 ln hln _) hR.1 rfl gX6_splits_X6_playersOf rfl hdv_X6_playersOf (Nat.le_of_ble_eq_true rfl) (Nat.le_of_ble_eq_true rfl) rfl (Nat.le_of_ble_eq_true rfl) dX6_splits_39 ?_
      refine V_istore X (lv' := [(7, _), (6, _), (0, _), (1, _), (2, _), (3, _), (4, _), (5, _)]) (by decide) rfl dX6_splits_42 ?_
      refine V_aload_n X rfl dX6_splits_44 ?_
      refine V_iload X rfl dX6_splits_45 ?_
      refine V_callVp X (rest := _) (c_X6_isTeam _ _ _ am _ _ hR np hnp hp18 _ (fun k9 a9 b9 => by rw [hsI_gb _ (by omega)]; exact plI_gb (fun i9 hi9 => by rw [← hsI_gb _ (by omega)]; exact hmem i9 hi9 k9 a9 b9) mn (Nat.le_refl mn))) hR.1 rfl gX6_splits_X6_isTeam rfl hdv_X6_isTeam (Nat.le_of_ble_eq_true rfl) (Nat.le_of_ble_eq_true rfl) rfl (Nat.le_of_ble_eq_true rfl) dX6_splits_47 ?_
      refine V_if_eq X (tgt := 153) (by decide) dX6_splits_50 (fun hc50 => ?_) (fun hc50 => ?_)
      · refine V.lvs (lv' := [(0, _), (1, _), (2, _), (3, _), (4, _), (5, _)]) rfl ?_
        exact J153 _ a b hR hF (by rw [show (a, b) = stS np mn ar ln fi r p (a, b) from (if_neg (fun h9 => by have h8 := h9.1; unfold posB at h8; rw [Bool.and_eq_true] at h8; have h7 := h8.1; rw [show tmB np (ar 3) (t0I mn ar ln fi p) = false from bI_eq0 hc50] at h7; cases h7)).symm]; exact hZ9)
      · refine V_aload_n X rfl dX6_splits_53 ?_
        refine V_iload X rfl dX6_splits_54 ?_
        refine V_callVp X (rest := _) (c_X6_isTeam _ _ _ am _ _ hR np hnp hp18 _ (fun k9 a9 b9 => by rw [hsI_gb _ (by omega)]; exact plI_gb (fun i9 hi9 => by rw [← hsI_gb _ (by omega)]; exact hmem i9 hi9 k9 a9 b9) mn (Nat.le_refl mn))) hR.1 rfl gX6_splits_X6_isTeam rfl hdv_X6_isTeam (Nat.le_of_ble_eq_true rfl) (Nat.le_of_ble_eq_true rfl) rfl (Nat.le_of_ble_eq_true rfl) dX6_splits_56 ?_
        refine V_if_eq X (tgt := 153) (by decide) dX6_splits_59 (fun hc59 => ?_) (fun hc59 => ?_)
        · refine V.lvs (lv' := [(0, _), (1, _), (2, _), (3, _), (4, _), (5, _)]) rfl ?_
          exact J153 _ a b hR hF (by rw [show (a, b) = stS np mn ar ln fi r p (a, b) from (if_neg (fun h9 => by have h8 := h9.1; unfold posB at h8; rw [Bool.and_eq_true] at h8; have h7 := h8.2; rw [show tmB np (ar 3) (t1I mn ar ln r p) = false from bI_eq0 hc59] at h7; cases h7)).symm]; exact hZ9)
        · refine V_aload_n X rfl dX6_splits_62 ?_
          refine V_iload X rfl dX6_splits_63 ?_
          refine V_callVp X (rest := _) (c_X6_sumOf _ _ _ am _ _ hR np hnp hp18 _) hR.1 rfl gX6_splits_X6_sumOf rfl hdv_X6_sumOf (Nat.le_of_ble_eq_true rfl) (Nat.le_of_ble_eq_true rfl) rfl (Nat.le_of_ble_eq_true rfl) dX6_splits_65 ?_
          refine V_aload_n X rfl dX6_splits_68 ?_
          refine V_iload X rfl dX6_splits_69 ?_
          refine V_callVp X (rest := _) (c_X6_sumOf _ _ _ am _ _ hR np hnp hp18 _) hR.1 rfl gX6_splits_X6_sumOf rfl hdv_X6_sumOf (Nat.le_of_ble_eq_true rfl) (Nat.le_of_ble_eq_true rfl) rfl (Nat.le_of_ble_eq_true rfl) dX6_splits_71 ?_
          refine V_isub X dX6_splits_74 ?_
          refine V_istore X (lv' := [(8, _), (7, _), (6, _), (0, _), (1, _), (2, _), (3, _), (4, _), (5, _)]) (by decide) rfl dX6_splits_75 ?_
          refine V_iload X rfl dX6_splits_77 ?_
          refine V_if_ge X (tgt := 88) (by decide) dX6_splits_79 (fun hc79 => ?_) (fun hc79 => ?_)
          · refine V_iload X rfl dX6_splits_88 ?_
            refine V.top (y := farI np mn ar ln fi r p) ((if_pos hc79).symm) ?_
            refine V.lvs (lv' := [(0, _), (1, _), (2, _), (3, _), (4, _), (5, _)]) rfl ?_
            exact J90 (bI_ne0 hc50) (bI_ne0 hc59)
          · refine V_iload X rfl dX6_splits_82 ?_
            refine V_ineg X dX6_splits_84 ?_
            refine V_goto X (tgt := 90) (by decide) dX6_splits_85 ?_
            refine V.top (y := farI np mn ar ln fi r p) ((if_neg hc79).symm) ?_
            refine V.lvs (lv' := [(0, _), (1, _), (2, _), (3, _), (4, _), (5, _)]) rfl ?_
            exact J90 (bI_ne0 hc50) (bI_ne0 hc59)
  refine V_aload_n X rfl dX6_splits_0 ?_
  refine V_iconst X (v := 0) (by decide) dX6_splits_1 ?_
  refine V_mput X hR hF 5 21 (by decide) hinX6_splits_X6 rfl (by decide +kernel) rfl rfl rfl dX6_splits_2 (fun f hR hF => ?_)
  refine V_iload_n X rfl dX6_splits_5 ?_
  refine V_iload_n X rfl dX6_splits_6 ?_
  refine V_iconst X (v := (-1)) (by decide) dX6_splits_7 ?_
  refine V_ixor X dX6_splits_8 ?_
  refine V_iand X dX6_splits_9 ?_
  refine V.top (y := nI r) hrest ?_
  refine V_istore_n X (lv' := [(3, _), (0, _), (1, _), (2, _)]) (by decide) rfl dX6_splits_10 ?_
  refine V_iload_n X rfl dX6_splits_11 ?_
  refine V_istore X (lv' := [(4, _), (3, _), (0, _), (1, _), (2, _)]) (by decide) rfl dX6_splits_12 ?_
  refine V_iconst X (v := 1) (by decide) dX6_splits_14 ?_
  refine V_istore X (lv' := [(5, _), (4, _), (3, _), (0, _), (1, _), (2, _)]) (by decide) rfl dX6_splits_15 ?_
  refine V.lvs (lv' := [(0, _), (1, _), (2, _), (3, _), (4, _), (5, _)]) rfl ?_
  exact LS r r rfl r 0 (sc 6) f (Nat.le_refl r) hr31 hZdef.symm (by rw [show va_up (va_up sc 5 0) 6 (sc 6) = va_up sc 5 0 from va_up_id (va_up sc 5 0) 6]; exact hR) (by rw [hf0]; exact hF)
