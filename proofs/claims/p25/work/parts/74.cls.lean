/-! ===== newMatch ===== -/
theorem RC.mono {G : GG} {al : Tg → Nat} {fi : Nat → Nat → Int32} {z : CZ} {f f' : Wo} (h : RC G al fi z f) (hm : ∀ b x, f b = some x → f' b = some x) : RC G al fi z f' := by
  obtain ⟨hw, h1, h2, g0, hg⟩ := h
  exact ⟨hw, fun q hq => hm _ _ (h1 q hq), fun q hq => (h2 q hq).keep fun b x hb _ => hm b x hb, g0, hm _ _ hg⟩
/-- a list of no concern of the class's yet changes -/
theorem RC.frl {G : GG} {al : Tg → Nat} {fi : Nat → Nat → Int32} {z : CZ} {f f' : Wo} (h : RC G al fi z f) {q : Nat} {tq : Tg} {e : va_E} (hq : f q = some (tq, e)) (hF : FrL q f f') (h1 : ¬ dom (zN z) tq) (h2 : ¬ dol (zN z) tq) (h3 : tq.1 < 20) : RC G al fi z f' ∧ FrC f f' := by
  obtain ⟨hw, k1, k2, g0, hg⟩ := h
  refine ⟨⟨hw, fun p hp => hF _ _ (k1 p hp) (w_neT hq (k1 p hp) (fun e => h1 (by rw [e]; exact hp))) (fun e => by have := dom_lt hp; rw [show p = (20, q) from e] at this; omega), fun p hp => ?_, g0, hF _ _ hg (w_neT hq hg (fun e => by rw [e] at h3; omega)) (fun e => by cases e)⟩, fun b x hb hx => hF b x hb (fun e => by subst e; rw [hq] at hb; cases hb; have h30 : 30 ≤ tq.1 := hx; omega) (fun e => by rw [e] at hx; have h30 : 30 ≤ 20 := hx; omega)⟩
  obtain ⟨us, hu⟩ := (k2 p hp).hd
  have hpa : al p ≠ q := w_neT hq hu (fun e => h2 (by rw [e]; exact hp))
  refine (k2 p hp).keep fun b x hb hx => hF b x hb (fun e => ?_) (fun e => ?_)
  · subst e
    rw [hq] at hb
    cases hb
    rcases hx with hx | hx | hx
    · exact hpa hx.symm
    · rw [show tq = (20, al p) from hx] at h3; omega
    · rw [show tq = (99, 0) from hx] at h3; omega
  · rcases hx with hx | hx | hx
    · subst hx
      rw [hu] at hb
      cases hb
      have := dol_lt hp; rw [show p = (20, q) from e] at this; omega
    · rw [hx] at e; exact hpa (congrArg Prod.snd e)
    · rw [hx] at e; cases e
theorem mtz : ∀ j, j < 7 → defaultValue (tyX1 j) = vp_V [.int 0, .int 0, .int 0, .int 0, .null, .int 0, .int 0] j := fun j hj => by
  have : j = 0 ∨ j = 1 ∨ j = 2 ∨ j = 3 ∨ j = 4 ∨ j = 5 ∨ j = 6 := by omega
  rcases this with rfl | rfl | rfl | rfl | rfl | rfl | rfl <;> rfl
theorem hds2_X1_init : yX1_init.cls ≠ "java/lang/invoke/MethodHandle" ∧ yX1_init.cls ≠ "java/lang/invoke/VarHandle" ∧ (parseMethodDescriptor yX1_init.desc).map (fun d => d.parameters.length) = some 4 := by decide +kernel
/-- the match that is being made -/
def mtC (fi : Nat → Nat → Int32) (mi : Int32) (q : Nat) : va_E := oO 2 [.int (fi 15 0), .int (fi 16 0), .int (fi 17 0), .int (mi + 3), .ref q, .int 0, .int (fi 15 0 ||| fi 16 0)]
def NM (G : GG) (al : Tg → Nat) (fi : Nat → Nat → Int32) (z : CZ) (f0 : Wo) (mi : Int32) (m q : Nat) (xs : List Nat) (f : Wo) : Prop := f0 m = none ∧ f0 q = none ∧ f m = some ((2, zN z 2), mtC fi mi q) ∧ (∃ cap, cap = (if xs = [] then 0 else 10) ∧ AL G f q (12, zN z 2) cap (xs.map (fun i => al (1, i)))) ∧ RC G al (sndF fi 2 xs) z f ∧ FrC f0 f
theorem hinX0_newMatch_X0 : ∀ w ∈ wsX00, w ∈ wsX0_newMatch := by decide +kernel
theorem hinX0_newMatch_X1 : ∀ w ∈ wsX10, w ∈ wsX0_newMatch := by decide +kernel
set_option maxHeartbeats 4000000 in
set_option maxRecDepth 100000 in
theorem c_X0_newMatch (l : Launch) (G : GG) (f : Wo) (al : Tg → Nat) (fi : Nat → Nat → Int32) (z : CZ) (hR : RC G al fi z f) (mi : Int32) (h6 : (zL z (13, 4)).length ≤ 6) : Ct l yX0_newMatch wsX0_newMatch 13 249 G [.ref (al (14, 0)), .int mi] f (fun v9 f' => ∃ m q, v9 = some (.ref m) ∧ NM G al fi z f mi m q (zL z (13, 4)) f') 3 20 := by
  refine Ct.of (cc := cX0_newMatch) (maxL := 4) (ret := (some (.object "LobbyMaker$Match"))) (by decide) rfl (Nat.le_of_ble_eq_true rfl) (lv := [(0, _), (1, _)]) rfl (by simp [Value.category]) ?_
  intro K X hL hG hr hnm
  subst hL; subst hG
  have hL := (hR.cap (dl13 (n := zN z) (k := 4) (by decide))).1
  have hF : FrC f f := FrC.rf
  have hR0 := hR
  have L : ∀ (m q : Nat) (n i : Nat), (zL z (13, 4)).length - i = n → i ≤ (zL z (13, 4)).length → ∀ f1 : Wo, NM (kG K) al fi z f mi m q ((zL z (13, 4)).take i) f1 → V K f1 (if i = 0 then 1 else 0) (if i = 0 then 10 else 0) 25 [(0, .ref (al (14, 0))), (1, .int mi), (2, .ref m), (3, .int (nI i))] [] := by
    intro m q n
    induction n using Nat.strongRecOn with
    | ind n ih =>
      intro i hn hi f1 hN
      obtain ⟨hn1, hn2, hm1, hAL, hR, hFC⟩ := hN
      refine V_iload_n X rfl dX0_newMatch_25 ?_
      refine V_aload_n X rfl dX0_newMatch_26 ?_
      refine V_get X (T := TX0) (N := 5) (v := .ref _) 1 (hR.2.1 (14, 0) (dm14)) rfl hinX0_newMatch_X0 (by decide) (by decide +kernel) (fun _ h9 => h9) (rfl) dX0_newMatch_27 ?_
      refine V_csize X hR (rest := _) (13, 4) (dl13 (by decide)) gX0_newMatch_Jx4a65c_size_8abf5 (Nat.le_of_ble_eq_true rfl) (Nat.le_of_ble_eq_true rfl) (Nat.le_of_ble_eq_true rfl) dX0_newMatch_30 ?_
      refine V_icmp_ge X (tgt := 57) (by decide) dX0_newMatch_33 (fun hc33 => ?_) (fun hc33 => ?_)
      · have hiN := lim_ge (N := (zL z (13, 4)).length) rfl hc33 hi (by omega)
        refine V_aload_n X rfl dX0_newMatch_57 ?_
        exact V_aret X hr (Or.inl ⟨_, rfl⟩) (⟨m, q, rfl, hn1, hn2, hm1, (by rw [hiN, List.take_length] at hAL; exact hAL), (by rw [hiN, List.take_length] at hR; exact hR), hFC⟩) dX0_newMatch_58
      · have hlt := lim_lt (N := (zL z (13, 4)).length) rfl hc33 hi (by omega)
        obtain ⟨j, hj⟩ : ∃ j, (zL z (13, 4))[i]? = some j := ⟨_, List.getElem?_eq_getElem hlt⟩
        have hj1 : j < zN z 1 := hR.el (dl13 (by decide)) hj
        refine V_aload_n X rfl dX0_newMatch_36 ?_
        refine V_aload_n X rfl dX0_newMatch_37 ?_
        refine V_get X (T := TX0) (N := 5) (v := .ref _) 1 (hR.2.1 (14, 0) (dm14)) rfl hinX0_newMatch_X0 (by decide) (by decide +kernel) (fun _ h9 => h9) (rfl) dX0_newMatch_38 ?_
        refine V_iload_n X rfl dX0_newMatch_41 ?_
        refine V_cnth X hR (rest := _) (13, 4) (dl13 (by decide)) (i) (j) (hj) gX0_newMatch_Jx4a65c_get_915e3 (Nat.le_of_ble_eq_true rfl) (Nat.le_of_ble_eq_true rfl) (Nat.le_of_ble_eq_true rfl) dX0_newMatch_42 ?_
        refine V_cast X (hR.2.1 (1, j) (dm1 hj1)) rfl (by decide +kernel) dX0_newMatch_45 ?_
        have hbr : f1 (al (1, j)) = some ((1, j), oO 3 [.int (fi 5 j), .int (fi 6 j), .ref (al (11, j)), .int (sndF fi 2 ((zL z (13, 4)).take i) 7 j), .int (fi 8 j)]) := (hR.2.1 (1, j) (dm1 hj1)).trans (by simp [fsC, ciC, sndF, va_up])
        obtain ⟨cap, hcap, hA⟩ := hAL
        obtain ⟨g0, hg0⟩ := (hR).2.2.2
        have hlen : (((zL z (13, 4)).take i).map (fun i => al (1, i))).length = i := by rw [List.length_map, List.length_take]; omega
        have hcp : cap ≤ 10 ∧ (i = 0 → cap = 0) ∧ (i ≠ 0 → cap = 10) := by
            have hne : (zL z (13, 4)).take i = [] ↔ i = 0 := by
              rw [← List.length_eq_zero_iff, List.length_take]; omega
            refine ⟨by rw [hcap]; split <;> omega, fun h => by rw [hcap, if_pos (hne.mpr h)], fun h => by rw [hcap, if_neg (fun e => h (hne.mp e))]⟩
        have hk0 : adC cap i ≤ (if i = 0 then 1 else 0) ∧ adS cap i ≤ (if i = 0 then 10 else 0) ∧ cap2 cap i = 10 := by
            by_cases h0 : i = 0
            · have e := hcp.2.1 h0; subst e; subst h0; decide
            · have e := hcp.2.2 h0; subst e; have h10 : i < 10 := by omega
              simp [adC, adS, cap2, h10]
        refine V_callV (kc' := 0) (ks' := 0) X (rest := _) (c_X1_join _ _ _ m (al (1, j)) q (2, zN z 2) (1, j) (12, zN z 2) (by show (1 : Nat) ≠ 99; omega) (by show (12 : Nat) ≠ 99; omega) (by show (1 : Nat) ≠ 20; omega) _ _ _ _ _ _ _ _ _ _ _ hm1 hbr cap _ hA (by omega) ⟨_, hg0⟩ (fun x hx => by
            rcases List.mem_cons.mp hx with hx | hx
            · subst hx; exact hR.one (k := 1) (by decide) hj1
            · obtain ⟨y, hy, rfl⟩ := List.mem_map.mp hx
              exact hR.one (k := 1) (by decide) (hR.1.1 (13, 4) (dl13 (by decide)) y (List.mem_of_mem_take hy)) )) hm1 rfl gX0_newMatch_X1_join rfl hdv_X1_join (Nat.le_of_ble_eq_true rfl) (Nat.le_of_ble_eq_true rfl) rfl (Nat.le_of_ble_eq_true rfl) (by rw [hlen]; omega) (by rw [hlen]; omega) dX0_newMatch_48 (fun r9 f9 h9 => ?_)
        obtain ⟨f2, rfl, hA2, hL2, rfl⟩ := h9
        obtain ⟨us, hu⟩ := hA.hd
        obtain ⟨hR2, hF2⟩ := hR.frl hu hL2 (fun h => by rcases h with ⟨h, -⟩ | ⟨h | h, -⟩ <;> simp at h) (fun h => by rcases h with ⟨h, -⟩ | ⟨-, h⟩ | ⟨h, -⟩ <;> simp at h) (by show 12 < 20; omega)
        have hm2 := hL2 m _ hm1 (w_neT hu hm1 (fun e => by cases e)) (fun e => by cases e)
        have hb2 := hR2.2.1 (1, j) (dm1 hj1)
        have hput := hR2.put 7 j 2 (dm1 hj1)
        rw [show oO (ciC (okn 7, j)) (fsC al (fu (sndF fi 2 ((zL z (13, 4)).take i)) 7 j 2) (zA z) (okn 7, j)) = oO 3 [.int (fi 5 j), .int (fi 6 j), .ref (al (11, j)), .int 2, .int (fi 8 j)] by simp [fsC, ciC, okn, fu, sndF, va_up], sndF_1, ← take_1 hj] at hput
        have hNM : NM (kG K) al fi z f mi m q ((zL z (13, 4)).take (i + 1)) (w_up f2 (al (1, j)) (1, j) (oO 3 [.int (fi 5 j), .int (fi 6 j), .ref (al (11, j)), .int 2, .int (fi 8 j)])) := ⟨hn1, hn2, (w_up_ne _ _ _ (w_neT hb2 hm2 (fun e => by cases e))).trans hm2, ⟨10, by rw [if_neg (fun e => by rw [take_1 hj] at e; simp at e)], by
            rw [hlen, hk0.2.2] at hA2
            refine AL.keep (by rw [take_1 hj, List.map_append]; exact hA2) fun b x hb hx => (w_up_ne _ _ _ (w_neT hb2 hb (fun e => ?_))).trans hb
            obtain ⟨us2, hu2⟩ := hA2.hd
            rcases hx with hx | hx | hx
            · subst hx; rw [hu2] at hb; cases hb; cases e
            · rw [← e] at hx; cases hx
            · rw [← e] at hx; cases hx⟩, hput.1, hFC.trans (hF2.trans hput.2)⟩
        refine V_iinc X (lv' := [(3, _), (0, _), (1, _), (2, _)]) (v := nI (i + 1)) rfl (nI_1 _) (by decide) rfl dX0_newMatch_51 ?_
        refine V_goto X (tgt := 25) (by decide) dX0_newMatch_54 ?_
        refine V.lvs (lv' := [(0, _), (1, _), (2, _), (3, _)]) rfl ?_
        have h0 := ih ((zL z (13, 4)).length - (i + 1)) (by omega) (i + 1) rfl (by omega) _ hNM
        rw [if_neg (by omega), if_neg (by omega)] at h0
        exact h0
  refine V_new X (C := RX1) (T := TX1) (N := 7) (ci := 2) (index := 96) (kc' := 2) (ks' := 13) (ty := tyX1) (fs := [.int 0, .int 0, .int 0, .int 0, .null, .int 0, .int 0]) (2, zN z 2) rfl hinX0_newMatch_X1 tyX1_ok (by decide +kernel) (by decide +kernel) (by decide +kernel) mtz (by omega) (by omega) dX0_newMatch_0 (fun m hm => ?_)
  have hR9 := hR
  have hR : RC (kG K) al fi z (w_up f m (2, zN z 2) (oO 2 [.int 0, .int 0, .int 0, .int 0, .null, .int 0, .int 0])) := hR.mono fun b x hb => w_in hm hb
  refine V_dup X rfl dX0_newMatch_3 ?_
  refine V_aload_n X rfl dX0_newMatch_4 ?_
  refine V_get X (T := TX0) (N := 5) (v := .int _) 2 (hR.2.1 (14, 0) (dm14)) rfl hinX0_newMatch_X0 (by decide) (by decide +kernel) (fun _ h9 => h9) (rfl) dX0_newMatch_5 ?_
  refine V_aload_n X rfl dX0_newMatch_8 ?_
  refine V_get X (T := TX0) (N := 5) (v := .int _) 3 (hR.2.1 (14, 0) (dm14)) rfl hinX0_newMatch_X0 (by decide) (by decide +kernel) (fun _ h9 => h9) (rfl) dX0_newMatch_9 ?_
  refine V_aload_n X rfl dX0_newMatch_12 ?_
  refine V_get X (T := TX0) (N := 5) (v := .int _) 4 (hR.2.1 (14, 0) (dm14)) rfl hinX0_newMatch_X0 (by decide) (by decide +kernel) (fun _ h9 => h9) (rfl) dX0_newMatch_13 ?_
  refine V_iload_n X rfl dX0_newMatch_16 ?_
  refine V_iconst X (v := 3) (by decide) dX0_newMatch_17 ?_
  refine V_iadd X dX0_newMatch_18 ?_
  refine V_callI (kc' := 1) (ks' := 10) X (rest := _) (c_X1_init _ _ _ m (2, zN z 2) (12, zN z 2) (by show (2 : Nat) ≠ 99; omega) (by show (12 : Nat) ≠ 99; omega) (fi 15 0) (fi 16 0) (fi 17 0) (mi + 3) (w_up_self _ _ _ _)) gX0_newMatch_X1_init rfl (by decide +kernel) (by decide +kernel) (by decide +kernel) rfl hds2_X1_init (Nat.le_of_ble_eq_true rfl) (Nat.le_of_ble_eq_true rfl) rfl (Nat.le_of_ble_eq_true rfl) (by omega) (by omega) dX0_newMatch_19 (fun r9 f1 h9 => ?_)
  obtain ⟨q, rfl, hq, rfl⟩ := h9
  have hmq : m ≠ q := fun e => by rw [← e, w_up_self] at hq; cases hq
  have hq0 : f q = none := by rw [w_up_ne _ _ _ (Ne.symm hmq)] at hq; exact hq
  rw [w_up_up]
  obtain ⟨g0, hg0⟩ := hR0.2.2.2
  have hmon : ∀ b x, f b = some x → (w_up (w_up (w_up f m (2, zN z 2) (oO 2 [.int (fi 15 0), .int (fi 16 0), .int (fi 17 0), .int (mi + 3), .null, .int 0, .int 0])) q (12, zN z 2) (LE (kG K))) m (2, zN z 2) (mtC fi mi q)) b = some x := fun b x hb => (w_up_ne _ _ _ (w_neN hb hm)).trans ((w_up_ne _ _ _ (w_neN hb hq0)).trans ((w_up_ne _ _ _ (w_neN hb hm)).trans hb))
  have hN0 : NM (kG K) al fi z f mi m q [] (w_up (w_up (w_up f m (2, zN z 2) (oO 2 [.int (fi 15 0), .int (fi 16 0), .int (fi 17 0), .int (mi + 3), .null, .int 0, .int 0])) q (12, zN z 2) (LE (kG K))) m (2, zN z 2) (mtC fi mi q)) := ⟨hm, hq0, w_up_self _ _ _ _, ⟨0, (if_pos rfl).symm, AL.nil ((w_up_ne _ _ _ (Ne.symm hmq)).trans (w_up_self _ _ _ _)) (hmon _ _ hg0)⟩, by rw [sndF_0]; exact hR0.mono hmon, fun b x hb _ => hmon b x hb⟩
  clear hR
  refine V_astore_n X (lv' := [(2, _), (0, _), (1, _)]) (by decide) rfl dX0_newMatch_22 ?_
  refine V_iconst X (v := 0) (by decide) dX0_newMatch_23 ?_
  refine V_istore_n X (lv' := [(3, _), (2, _), (0, _), (1, _)]) (by decide) rfl dX0_newMatch_24 ?_
  refine V.lvs (lv' := [(0, _), (1, _), (2, _), (3, _)]) rfl ?_
  exact L m q _ 0 rfl (Nat.zero_le _) _ (by rw [List.take_zero]; exact hN0)
