/-! ===== LobbyMaker: what there is ===== -/
theorem hinX5_existingPlayer_X5 : ∀ w ∈ wsX50, w ∈ wsX5_existingPlayer := by decide +kernel
set_option maxHeartbeats 4000000 in
set_option maxRecDepth 100000 in
theorem c_X5_existingPlayer_t (l : Launch) (G : GG) (f : Wo) (al : Tg → Nat) (fi : Nat → Nat → Int32) (z : CZ) (hR : RC G al fi z f) (k : Nat) (hk : k < zN z 0) : Cp l yX5_existingPlayer wsX5_existingPlayer 9 160 G [.ref (al (15, 0)), .int (nI k)] f (.ref (al (0, k))) := by
  refine Ct.of (cc := cX5_existingPlayer) (maxL := 2) (ret := (some (.object "LobbyMaker$Player"))) (by decide) rfl (Nat.le_of_ble_eq_true rfl) (lv := [(0, _), (1, _)]) rfl (by simp [Value.category]) ?_
  intro K X hL hG hr hnm
  subst hL; subst hG
  have hN := hR.n1 (j := 0) (by decide)
  refine V_iload_n X rfl dX5_existingPlayer_0 ?_
  refine V_if_lt X (tgt := 15) (by decide) dX5_existingPlayer_1 (fun hc1 => absurd hc1 (nI_pos (by omega))) (fun hc1 => ?_)
  refine V_iload_n X rfl dX5_existingPlayer_4 ?_
  refine V_aload_n X rfl dX5_existingPlayer_5 ?_
  refine V_get X (T := TX5) (N := 5) (v := .ref _) 0 (hR.2.1 (15, 0) (dm15)) rfl hinX5_existingPlayer_X5 (by decide) (by decide +kernel) (fun _ h9 => h9) (rfl) dX5_existingPlayer_6 ?_
  refine V_csize X hR (rest := _) (13, 0) (dl13 (by decide)) gX5_existingPlayer_Jx4a65c_size_8abf5 (Nat.le_of_ble_eq_true rfl) (Nat.le_of_ble_eq_true rfl) (Nat.le_of_ble_eq_true rfl) dX5_existingPlayer_9 ?_
  refine V.top (y := nI (zN z 0)) (by rw [hR.len (by decide)]) ?_
  refine V_icmp_lt X (tgt := 25) (by decide) dX5_existingPlayer_12 (fun hc12 => ?_) (fun hc12 => absurd hc12 (not_not_intro (nI_lt hk (by omega))))
  refine V_aload_n X rfl dX5_existingPlayer_25 ?_
  refine V_get X (T := TX5) (N := 5) (v := .ref _) 0 (hR.2.1 (15, 0) (dm15)) rfl hinX5_existingPlayer_X5 (by decide) (by decide +kernel) (fun _ h9 => h9) (rfl) dX5_existingPlayer_26 ?_
  refine V_iload_n X rfl dX5_existingPlayer_29 ?_
  refine V_cnth X hR (rest := _) (13, 0) (dl13 (by decide)) (k) (k) (hR.main (by decide) hk) gX5_existingPlayer_Jx4a65c_get_915e3 (Nat.le_of_ble_eq_true rfl) (Nat.le_of_ble_eq_true rfl) (Nat.le_of_ble_eq_true rfl) dX5_existingPlayer_30 ?_
  refine V_cast X (hR.2.1 (0, k) (dm0 hk)) rfl (by decide +kernel) dX5_existingPlayer_33 ?_
  exact V_aret X hr (Or.inl ⟨_, rfl⟩) (⟨rfl, rfl⟩) dX5_existingPlayer_36
set_option maxHeartbeats 4000000 in
set_option maxRecDepth 100000 in
theorem c_X5_existingPlayer_x (l : Launch) (hl : l.stackTraces = false) (G : GG) (f : Wo) (al : Tg → Nat) (fi : Nat → Nat → Int32) (z : CZ) (hR : RC G al fi z f) (i : Int32) (h : i < 0 ∨ nI (zN z 0) ≤ i) : Cx l yX5_existingPlayer wsX5_existingPlayer 9 160 G [.ref (al (15, 0)), .int i] f (fun _ _ => False) (fun E f' => E = "java/lang/IndexOutOfBoundsException" ∧ f' = f) 1 6 := by
  refine Cx.of (cc := cX5_existingPlayer) (maxL := 2) (ret := (some (.object "LobbyMaker$Player"))) (by decide) rfl (Nat.le_of_ble_eq_true rfl) (lv := [(0, _), (1, _)]) rfl (by simp [Value.category]) ?_
  intro K X hL hG hr hT
  subst hL; subst hG
  refine V_iload_n X rfl dX5_existingPlayer_0 ?_
  refine V_if_lt X (tgt := 15) (by decide) dX5_existingPlayer_1 (fun hc1 => ?_) (fun hc1 => ?_)
  · exact V_throwS X hl hT "java/lang/IndexOutOfBoundsException" "no such player" 200 202 204 ⟨rfl, rfl⟩ (by decide +kernel) (by decide +kernel) (by decide +kernel) (by decide) (by decide +kernel) xg_ob xo_ob dX5_existingPlayer_15 dX5_existingPlayer_18 dX5_existingPlayer_19 dX5_existingPlayer_21 dX5_existingPlayer_24 (Nat.le_of_ble_eq_true rfl) (Nat.le_of_ble_eq_true rfl) (by omega) (by omega)
  · refine V_iload_n X rfl dX5_existingPlayer_4 ?_
    refine V_aload_n X rfl dX5_existingPlayer_5 ?_
    refine V_get X (T := TX5) (N := 5) (v := .ref _) 0 (hR.2.1 (15, 0) (dm15)) rfl hinX5_existingPlayer_X5 (by decide) (by decide +kernel) (fun _ h9 => h9) (rfl) dX5_existingPlayer_6 ?_
    refine V_csize X hR (rest := _) (13, 0) (dl13 (by decide)) gX5_existingPlayer_Jx4a65c_size_8abf5 (Nat.le_of_ble_eq_true rfl) (Nat.le_of_ble_eq_true rfl) (Nat.le_of_ble_eq_true rfl) dX5_existingPlayer_9 ?_
    refine V.top (y := nI (zN z 0)) (by rw [hR.len (by decide)]) ?_
    refine V_icmp_lt X (tgt := 25) (by decide) dX5_existingPlayer_12 (fun hc12 => ?_) (fun hc12 => ?_)
    · exact absurd h (fun q => q.elim hc1 (fun q => absurd hc12 (Int32.not_lt.mpr q)))
    · exact V_throwS X hl hT "java/lang/IndexOutOfBoundsException" "no such player" 200 202 204 ⟨rfl, rfl⟩ (by decide +kernel) (by decide +kernel) (by decide +kernel) (by decide) (by decide +kernel) xg_ob xo_ob dX5_existingPlayer_15 dX5_existingPlayer_18 dX5_existingPlayer_19 dX5_existingPlayer_21 dX5_existingPlayer_24 (Nat.le_of_ble_eq_true rfl) (Nat.le_of_ble_eq_true rfl) (by omega) (by omega)
theorem hinX5_existingParty_X5 : ∀ w ∈ wsX50, w ∈ wsX5_existingParty := by decide +kernel
set_option maxHeartbeats 4000000 in
set_option maxRecDepth 100000 in
theorem c_X5_existingParty_t (l : Launch) (G : GG) (f : Wo) (al : Tg → Nat) (fi : Nat → Nat → Int32) (z : CZ) (hR : RC G al fi z f) (p : Nat) (hp : p < zN z 1) : Cp l yX5_existingParty wsX5_existingParty 9 160 G [.ref (al (15, 0)), .int (nI p)] f (.ref (al (1, p))) := by
  refine Ct.of (cc := cX5_existingParty) (maxL := 2) (ret := (some (.object "LobbyMaker$Party"))) (by decide) rfl (Nat.le_of_ble_eq_true rfl) (lv := [(0, _), (1, _)]) rfl (by simp [Value.category]) ?_
  intro K X hL hG hr hnm
  subst hL; subst hG
  have hN := hR.n1 (j := 1) (by decide)
  refine V_iload_n X rfl dX5_existingParty_0 ?_
  refine V_if_lt X (tgt := 15) (by decide) dX5_existingParty_1 (fun hc1 => absurd hc1 (nI_pos (by omega))) (fun hc1 => ?_)
  refine V_iload_n X rfl dX5_existingParty_4 ?_
  refine V_aload_n X rfl dX5_existingParty_5 ?_
  refine V_get X (T := TX5) (N := 5) (v := .ref _) 1 (hR.2.1 (15, 0) (dm15)) rfl hinX5_existingParty_X5 (by decide) (by decide +kernel) (fun _ h9 => h9) (rfl) dX5_existingParty_6 ?_
  refine V_csize X hR (rest := _) (13, 1) (dl13 (by decide)) gX5_existingParty_Jx4a65c_size_8abf5 (Nat.le_of_ble_eq_true rfl) (Nat.le_of_ble_eq_true rfl) (Nat.le_of_ble_eq_true rfl) dX5_existingParty_9 ?_
  refine V.top (y := nI (zN z 1)) (by rw [hR.len (by decide)]) ?_
  refine V_icmp_lt X (tgt := 25) (by decide) dX5_existingParty_12 (fun hc12 => ?_) (fun hc12 => absurd hc12 (not_not_intro (nI_lt hp (by omega))))
  refine V_aload_n X rfl dX5_existingParty_25 ?_
  refine V_get X (T := TX5) (N := 5) (v := .ref _) 1 (hR.2.1 (15, 0) (dm15)) rfl hinX5_existingParty_X5 (by decide) (by decide +kernel) (fun _ h9 => h9) (rfl) dX5_existingParty_26 ?_
  refine V_iload_n X rfl dX5_existingParty_29 ?_
  refine V_cnth X hR (rest := _) (13, 1) (dl13 (by decide)) (p) (p) (hR.main (by decide) hp) gX5_existingParty_Jx4a65c_get_915e3 (Nat.le_of_ble_eq_true rfl) (Nat.le_of_ble_eq_true rfl) (Nat.le_of_ble_eq_true rfl) dX5_existingParty_30 ?_
  refine V_cast X (hR.2.1 (1, p) (dm1 hp)) rfl (by decide +kernel) dX5_existingParty_33 ?_
  exact V_aret X hr (Or.inl ⟨_, rfl⟩) (⟨rfl, rfl⟩) dX5_existingParty_36
set_option maxHeartbeats 4000000 in
set_option maxRecDepth 100000 in
theorem c_X5_existingParty_x (l : Launch) (hl : l.stackTraces = false) (G : GG) (f : Wo) (al : Tg → Nat) (fi : Nat → Nat → Int32) (z : CZ) (hR : RC G al fi z f) (i : Int32) (h : i < 0 ∨ nI (zN z 1) ≤ i) : Cx l yX5_existingParty wsX5_existingParty 9 160 G [.ref (al (15, 0)), .int i] f (fun _ _ => False) (fun E f' => E = "java/lang/IndexOutOfBoundsException" ∧ f' = f) 1 6 := by
  refine Cx.of (cc := cX5_existingParty) (maxL := 2) (ret := (some (.object "LobbyMaker$Party"))) (by decide) rfl (Nat.le_of_ble_eq_true rfl) (lv := [(0, _), (1, _)]) rfl (by simp [Value.category]) ?_
  intro K X hL hG hr hT
  subst hL; subst hG
  refine V_iload_n X rfl dX5_existingParty_0 ?_
  refine V_if_lt X (tgt := 15) (by decide) dX5_existingParty_1 (fun hc1 => ?_) (fun hc1 => ?_)
  · exact V_throwS X hl hT "java/lang/IndexOutOfBoundsException" "no such party" 200 205 204 ⟨rfl, rfl⟩ (by decide +kernel) (by decide +kernel) (by decide +kernel) (by decide) (by decide +kernel) xg_ob xo_ob dX5_existingParty_15 dX5_existingParty_18 dX5_existingParty_19 dX5_existingParty_21 dX5_existingParty_24 (Nat.le_of_ble_eq_true rfl) (Nat.le_of_ble_eq_true rfl) (by omega) (by omega)
  · refine V_iload_n X rfl dX5_existingParty_4 ?_
    refine V_aload_n X rfl dX5_existingParty_5 ?_
    refine V_get X (T := TX5) (N := 5) (v := .ref _) 1 (hR.2.1 (15, 0) (dm15)) rfl hinX5_existingParty_X5 (by decide) (by decide +kernel) (fun _ h9 => h9) (rfl) dX5_existingParty_6 ?_
    refine V_csize X hR (rest := _) (13, 1) (dl13 (by decide)) gX5_existingParty_Jx4a65c_size_8abf5 (Nat.le_of_ble_eq_true rfl) (Nat.le_of_ble_eq_true rfl) (Nat.le_of_ble_eq_true rfl) dX5_existingParty_9 ?_
    refine V.top (y := nI (zN z 1)) (by rw [hR.len (by decide)]) ?_
    refine V_icmp_lt X (tgt := 25) (by decide) dX5_existingParty_12 (fun hc12 => ?_) (fun hc12 => ?_)
    · exact absurd h (fun q => q.elim hc1 (fun q => absurd hc12 (Int32.not_lt.mpr q)))
    · exact V_throwS X hl hT "java/lang/IndexOutOfBoundsException" "no such party" 200 205 204 ⟨rfl, rfl⟩ (by decide +kernel) (by decide +kernel) (by decide +kernel) (by decide) (by decide +kernel) xg_ob xo_ob dX5_existingParty_15 dX5_existingParty_18 dX5_existingParty_19 dX5_existingParty_21 dX5_existingParty_24 (Nat.le_of_ble_eq_true rfl) (Nat.le_of_ble_eq_true rfl) (by omega) (by omega)
theorem hinX5_existingMatch_X5 : ∀ w ∈ wsX50, w ∈ wsX5_existingMatch := by decide +kernel
set_option maxHeartbeats 4000000 in
set_option maxRecDepth 100000 in
theorem c_X5_existingMatch_t (l : Launch) (G : GG) (f : Wo) (al : Tg → Nat) (fi : Nat → Nat → Int32) (z : CZ) (hR : RC G al fi z f) (m : Nat) (hm : m < zN z 2) : Cp l yX5_existingMatch wsX5_existingMatch 9 160 G [.ref (al (15, 0)), .int (nI m)] f (.ref (al (2, m))) := by
  refine Ct.of (cc := cX5_existingMatch) (maxL := 2) (ret := (some (.object "LobbyMaker$Match"))) (by decide) rfl (Nat.le_of_ble_eq_true rfl) (lv := [(0, _), (1, _)]) rfl (by simp [Value.category]) ?_
  intro K X hL hG hr hnm
  subst hL; subst hG
  have hN := hR.n1 (j := 2) (by decide)
  refine V_iload_n X rfl dX5_existingMatch_0 ?_
  refine V_if_lt X (tgt := 15) (by decide) dX5_existingMatch_1 (fun hc1 => absurd hc1 (nI_pos (by omega))) (fun hc1 => ?_)
  refine V_iload_n X rfl dX5_existingMatch_4 ?_
  refine V_aload_n X rfl dX5_existingMatch_5 ?_
  refine V_get X (T := TX5) (N := 5) (v := .ref _) 2 (hR.2.1 (15, 0) (dm15)) rfl hinX5_existingMatch_X5 (by decide) (by decide +kernel) (fun _ h9 => h9) (rfl) dX5_existingMatch_6 ?_
  refine V_csize X hR (rest := _) (13, 2) (dl13 (by decide)) gX5_existingMatch_Jx4a65c_size_8abf5 (Nat.le_of_ble_eq_true rfl) (Nat.le_of_ble_eq_true rfl) (Nat.le_of_ble_eq_true rfl) dX5_existingMatch_9 ?_
  refine V.top (y := nI (zN z 2)) (by rw [hR.len (by decide)]) ?_
  refine V_icmp_lt X (tgt := 25) (by decide) dX5_existingMatch_12 (fun hc12 => ?_) (fun hc12 => absurd hc12 (not_not_intro (nI_lt hm (by omega))))
  refine V_aload_n X rfl dX5_existingMatch_25 ?_
  refine V_get X (T := TX5) (N := 5) (v := .ref _) 2 (hR.2.1 (15, 0) (dm15)) rfl hinX5_existingMatch_X5 (by decide) (by decide +kernel) (fun _ h9 => h9) (rfl) dX5_existingMatch_26 ?_
  refine V_iload_n X rfl dX5_existingMatch_29 ?_
  refine V_cnth X hR (rest := _) (13, 2) (dl13 (by decide)) (m) (m) (hR.main (by decide) hm) gX5_existingMatch_Jx4a65c_get_915e3 (Nat.le_of_ble_eq_true rfl) (Nat.le_of_ble_eq_true rfl) (Nat.le_of_ble_eq_true rfl) dX5_existingMatch_30 ?_
  refine V_cast X (hR.2.1 (2, m) (dm2 hm)) rfl (by decide +kernel) dX5_existingMatch_33 ?_
  exact V_aret X hr (Or.inl ⟨_, rfl⟩) (⟨rfl, rfl⟩) dX5_existingMatch_36
set_option maxHeartbeats 4000000 in
set_option maxRecDepth 100000 in
theorem c_X5_existingMatch_x (l : Launch) (hl : l.stackTraces = false) (G : GG) (f : Wo) (al : Tg → Nat) (fi : Nat → Nat → Int32) (z : CZ) (hR : RC G al fi z f) (i : Int32) (h : i < 0 ∨ nI (zN z 2) ≤ i) : Cx l yX5_existingMatch wsX5_existingMatch 9 160 G [.ref (al (15, 0)), .int i] f (fun _ _ => False) (fun E f' => E = "java/lang/IndexOutOfBoundsException" ∧ f' = f) 1 6 := by
  refine Cx.of (cc := cX5_existingMatch) (maxL := 2) (ret := (some (.object "LobbyMaker$Match"))) (by decide) rfl (Nat.le_of_ble_eq_true rfl) (lv := [(0, _), (1, _)]) rfl (by simp [Value.category]) ?_
  intro K X hL hG hr hT
  subst hL; subst hG
  refine V_iload_n X rfl dX5_existingMatch_0 ?_
  refine V_if_lt X (tgt := 15) (by decide) dX5_existingMatch_1 (fun hc1 => ?_) (fun hc1 => ?_)
  · exact V_throwS X hl hT "java/lang/IndexOutOfBoundsException" "no such match" 200 209 204 ⟨rfl, rfl⟩ (by decide +kernel) (by decide +kernel) (by decide +kernel) (by decide) (by decide +kernel) xg_ob xo_ob dX5_existingMatch_15 dX5_existingMatch_18 dX5_existingMatch_19 dX5_existingMatch_21 dX5_existingMatch_24 (Nat.le_of_ble_eq_true rfl) (Nat.le_of_ble_eq_true rfl) (by omega) (by omega)
  · refine V_iload_n X rfl dX5_existingMatch_4 ?_
    refine V_aload_n X rfl dX5_existingMatch_5 ?_
    refine V_get X (T := TX5) (N := 5) (v := .ref _) 2 (hR.2.1 (15, 0) (dm15)) rfl hinX5_existingMatch_X5 (by decide) (by decide +kernel) (fun _ h9 => h9) (rfl) dX5_existingMatch_6 ?_
    refine V_csize X hR (rest := _) (13, 2) (dl13 (by decide)) gX5_existingMatch_Jx4a65c_size_8abf5 (Nat.le_of_ble_eq_true rfl) (Nat.le_of_ble_eq_true rfl) (Nat.le_of_ble_eq_true rfl) dX5_existingMatch_9 ?_
    refine V.top (y := nI (zN z 2)) (by rw [hR.len (by decide)]) ?_
    refine V_icmp_lt X (tgt := 25) (by decide) dX5_existingMatch_12 (fun hc12 => ?_) (fun hc12 => ?_)
    · exact absurd h (fun q => q.elim hc1 (fun q => absurd hc12 (Int32.not_lt.mpr q)))
    · exact V_throwS X hl hT "java/lang/IndexOutOfBoundsException" "no such match" 200 209 204 ⟨rfl, rfl⟩ (by decide +kernel) (by decide +kernel) (by decide +kernel) (by decide) (by decide +kernel) xg_ob xo_ob dX5_existingMatch_15 dX5_existingMatch_18 dX5_existingMatch_19 dX5_existingMatch_21 dX5_existingMatch_24 (Nat.le_of_ble_eq_true rfl) (Nat.le_of_ble_eq_true rfl) (by omega) (by omega)
theorem hinX5_queuingParty_X2 : ∀ w ∈ wsX20, w ∈ wsX5_queuingParty := by decide +kernel
set_option maxHeartbeats 4000000 in
set_option maxRecDepth 100000 in
theorem c_X5_queuingParty_t (l : Launch) (G : GG) (f : Wo) (al : Tg → Nat) (fi : Nat → Nat → Int32) (z : CZ) (hR : RC G al fi z f) (p : Nat) (hp : p < zN z 1) (hq : fi 7 p = 1) : Cp l yX5_queuingParty wsX5_queuingParty 10 181 G [.ref (al (15, 0)), .int (nI p)] f (.ref (al (1, p))) := by
  refine Ct.of (cc := cX5_queuingParty) (maxL := 3) (ret := (some (.object "LobbyMaker$Party"))) (by decide) rfl (Nat.le_of_ble_eq_true rfl) (lv := [(0, _), (1, _)]) rfl (by simp [Value.category]) ?_
  intro K X hL hG hr hnm
  subst hL; subst hG
  refine V_aload_n X rfl dX5_queuingParty_0 ?_
  refine V_iload_n X rfl dX5_queuingParty_1 ?_
  refine V_callVp X (rest := _) (c_X5_existingParty_t _ _ _ al fi z hR p hp) (hR.2.1 (15, 0) (dm15)) rfl gX5_queuingParty_X5_existingParty rfl hdv_X5_existingParty (Nat.le_of_ble_eq_true rfl) (Nat.le_of_ble_eq_true rfl) rfl (Nat.le_of_ble_eq_true rfl) dX5_queuingParty_2 ?_
  refine V_astore_n X (lv' := [(2, _), (0, _), (1, _)]) (by decide) rfl dX5_queuingParty_5 ?_
  refine V_aload_n X rfl dX5_queuingParty_6 ?_
  refine V_get X (T := TX2) (N := 5) (v := .int _) 3 (hR.2.1 (1, p) (dm1 hp)) rfl hinX5_queuingParty_X2 (by decide) (by decide +kernel) (fun _ h9 => h9) (rfl) dX5_queuingParty_7 ?_
  refine V_iconst X (v := 1) (by decide) dX5_queuingParty_10 ?_
  refine V_icmp_eq X (tgt := 24) (by decide) dX5_queuingParty_11 (fun hc11 => ?_) (fun hc11 => absurd hc11 (fun q => q hq))
  refine V_aload_n X rfl dX5_queuingParty_24 ?_
  exact V_aret X hr (Or.inl ⟨_, rfl⟩) (⟨rfl, rfl⟩) dX5_queuingParty_25
set_option maxHeartbeats 4000000 in
set_option maxRecDepth 100000 in
theorem c_X5_queuingParty_x (l : Launch) (hl : l.stackTraces = false) (G : GG) (f : Wo) (al : Tg → Nat) (fi : Nat → Nat → Int32) (z : CZ) (hR : RC G al fi z f) (i : Int32) (h : i < 0 ∨ nI (zN z 1) ≤ i) : Cx l yX5_queuingParty wsX5_queuingParty 10 181 G [.ref (al (15, 0)), .int i] f (fun _ _ => False) (fun E f' => E = "java/lang/IndexOutOfBoundsException" ∧ f' = f) 1 6 := by
  refine Cx.of (cc := cX5_queuingParty) (maxL := 3) (ret := (some (.object "LobbyMaker$Party"))) (by decide) rfl (Nat.le_of_ble_eq_true rfl) (lv := [(0, _), (1, _)]) rfl (by simp [Value.category]) ?_
  intro K X hL hG hr hT
  subst hL; subst hG
  refine V_aload_n X rfl dX5_queuingParty_0 ?_
  refine V_iload_n X rfl dX5_queuingParty_1 ?_
  refine V_callVX (kc' := 0) (ks' := 0) X (rest := _) (c_X5_existingParty_x _ hl _ _ al fi z hR i h) (hR.2.1 (15, 0) (dm15)) rfl gX5_queuingParty_X5_existingParty rfl hdv_X5_existingParty (Nat.le_of_ble_eq_true rfl) (Nat.le_of_ble_eq_true rfl) rfl (Nat.le_of_ble_eq_true rfl) (by omega) (by omega) dX5_queuingParty_2 (fun E f1 hq => ?_) (fun r f1 hq => hq.elim)
  obtain ⟨rfl, rfl⟩ := hq
  exact VX_out X hT ⟨rfl, rfl⟩
set_option maxHeartbeats 4000000 in
set_option maxRecDepth 100000 in
theorem c_X5_queuingParty_s (l : Launch) (hl : l.stackTraces = false) (G : GG) (f : Wo) (al : Tg → Nat) (fi : Nat → Nat → Int32) (z : CZ) (hR : RC G al fi z f) (p : Nat) (hp : p < zN z 1) (hq : fi 7 p ≠ 1) : Cx l yX5_queuingParty wsX5_queuingParty 10 181 G [.ref (al (15, 0)), .int (nI p)] f (fun _ _ => False) (fun E f' => E = "java/lang/IllegalStateException" ∧ f' = f) 1 6 := by
  refine Cx.of (cc := cX5_queuingParty) (maxL := 3) (ret := (some (.object "LobbyMaker$Party"))) (by decide) rfl (Nat.le_of_ble_eq_true rfl) (lv := [(0, _), (1, _)]) rfl (by simp [Value.category]) ?_
  intro K X hL hG hr hT
  subst hL; subst hG
  refine V_aload_n X rfl dX5_queuingParty_0 ?_
  refine V_iload_n X rfl dX5_queuingParty_1 ?_
  refine V_callVp X (rest := _) (c_X5_existingParty_t _ _ _ al fi z hR p hp) (hR.2.1 (15, 0) (dm15)) rfl gX5_queuingParty_X5_existingParty rfl hdv_X5_existingParty (Nat.le_of_ble_eq_true rfl) (Nat.le_of_ble_eq_true rfl) rfl (Nat.le_of_ble_eq_true rfl) dX5_queuingParty_2 ?_
  refine V_astore_n X (lv' := [(2, _), (0, _), (1, _)]) (by decide) rfl dX5_queuingParty_5 ?_
  refine V_aload_n X rfl dX5_queuingParty_6 ?_
  refine V_get X (T := TX2) (N := 5) (v := .int _) 3 (hR.2.1 (1, p) (dm1 hp)) rfl hinX5_queuingParty_X2 (by decide) (by decide +kernel) (fun _ h9 => h9) (rfl) dX5_queuingParty_7 ?_
  refine V_iconst X (v := 1) (by decide) dX5_queuingParty_10 ?_
  refine V_icmp_eq X (tgt := 24) (by decide) dX5_queuingParty_11 (fun hc11 => absurd hc11 (hq)) (fun hc11 => ?_)
  exact V_throwS X hl hT "java/lang/IllegalStateException" "the party does not queue" 44 207 48 ⟨rfl, rfl⟩ (by decide +kernel) (by decide +kernel) (by decide +kernel) (by decide) (by decide +kernel) xg_is xo_is dX5_queuingParty_14 dX5_queuingParty_17 dX5_queuingParty_18 dX5_queuingParty_20 dX5_queuingParty_23 (Nat.le_of_ble_eq_true rfl) (Nat.le_of_ble_eq_true rfl) (by omega) (by omega)
theorem hinX5_rating_X3 : ∀ w ∈ wsX30, w ∈ wsX5_rating := by decide +kernel
set_option maxHeartbeats 4000000 in
set_option maxRecDepth 100000 in
theorem c_X5_rating_t (l : Launch) (G : GG) (f : Wo) (al : Tg → Nat) (fi : Nat → Nat → Int32) (z : CZ) (hR : RC G al fi z f) (k : Nat) (hk : k < zN z 0) : Cp l yX5_rating wsX5_rating 10 181 G [.ref (al (15, 0)), .int (nI k)] f (.int (fi 1 k)) := by
  refine Ct.of (cc := cX5_rating) (maxL := 2) (ret := (some .int)) (by decide) rfl (Nat.le_of_ble_eq_true rfl) (lv := [(0, _), (1, _)]) rfl (by simp [Value.category]) ?_
  intro K X hL hG hr hnm
  subst hL; subst hG
  refine V_aload_n X rfl dX5_rating_0 ?_
  refine V_iload_n X rfl dX5_rating_1 ?_
  refine V_callVp X (rest := _) (c_X5_existingPlayer_t _ _ _ al fi z hR k hk) (hR.2.1 (15, 0) (dm15)) rfl gX5_rating_X5_existingPlayer rfl hdv_X5_existingPlayer (Nat.le_of_ble_eq_true rfl) (Nat.le_of_ble_eq_true rfl) rfl (Nat.le_of_ble_eq_true rfl) dX5_rating_2 ?_
  refine V_get X (T := TX3) (N := 6) (v := .int _) 1 (hR.2.1 (0, k) (dm0 hk)) rfl hinX5_rating_X3 (by decide) (by decide +kernel) (fun _ h9 => h9) (rfl) dX5_rating_5 ?_
  exact V_iret X hr (⟨rfl, rfl⟩) dX5_rating_8
set_option maxHeartbeats 4000000 in
set_option maxRecDepth 100000 in
theorem c_X5_rating_x (l : Launch) (hl : l.stackTraces = false) (G : GG) (f : Wo) (al : Tg → Nat) (fi : Nat → Nat → Int32) (z : CZ) (hR : RC G al fi z f) (i : Int32) (h : i < 0 ∨ nI (zN z 0) ≤ i) : Cx l yX5_rating wsX5_rating 10 181 G [.ref (al (15, 0)), .int i] f (fun _ _ => False) (fun E f' => E = "java/lang/IndexOutOfBoundsException" ∧ f' = f) 1 6 := by
  refine Cx.of (cc := cX5_rating) (maxL := 2) (ret := (some .int)) (by decide) rfl (Nat.le_of_ble_eq_true rfl) (lv := [(0, _), (1, _)]) rfl (by simp [Value.category]) ?_
  intro K X hL hG hr hT
  subst hL; subst hG
  refine V_aload_n X rfl dX5_rating_0 ?_
  refine V_iload_n X rfl dX5_rating_1 ?_
  refine V_callVX (kc' := 0) (ks' := 0) X (rest := _) (c_X5_existingPlayer_x _ hl _ _ al fi z hR i h) (hR.2.1 (15, 0) (dm15)) rfl gX5_rating_X5_existingPlayer rfl hdv_X5_existingPlayer (Nat.le_of_ble_eq_true rfl) (Nat.le_of_ble_eq_true rfl) rfl (Nat.le_of_ble_eq_true rfl) (by omega) (by omega) dX5_rating_2 (fun E f1 hq => ?_) (fun r f1 hq => hq.elim)
  obtain ⟨rfl, rfl⟩ := hq
  exact VX_out X hT ⟨rfl, rfl⟩
theorem hinX5_uncertainty_X3 : ∀ w ∈ wsX30, w ∈ wsX5_uncertainty := by decide +kernel
set_option maxHeartbeats 4000000 in
set_option maxRecDepth 100000 in
theorem c_X5_uncertainty_t (l : Launch) (G : GG) (f : Wo) (al : Tg → Nat) (fi : Nat → Nat → Int32) (z : CZ) (hR : RC G al fi z f) (k : Nat) (hk : k < zN z 0) : Cp l yX5_uncertainty wsX5_uncertainty 10 181 G [.ref (al (15, 0)), .int (nI k)] f (.int (fi 2 k)) := by
  refine Ct.of (cc := cX5_uncertainty) (maxL := 2) (ret := (some .int)) (by decide) rfl (Nat.le_of_ble_eq_true rfl) (lv := [(0, _), (1, _)]) rfl (by simp [Value.category]) ?_
  intro K X hL hG hr hnm
  subst hL; subst hG
  refine V_aload_n X rfl dX5_uncertainty_0 ?_
  refine V_iload_n X rfl dX5_uncertainty_1 ?_
  refine V_callVp X (rest := _) (c_X5_existingPlayer_t _ _ _ al fi z hR k hk) (hR.2.1 (15, 0) (dm15)) rfl gX5_uncertainty_X5_existingPlayer rfl hdv_X5_existingPlayer (Nat.le_of_ble_eq_true rfl) (Nat.le_of_ble_eq_true rfl) rfl (Nat.le_of_ble_eq_true rfl) dX5_uncertainty_2 ?_
  refine V_get X (T := TX3) (N := 6) (v := .int _) 2 (hR.2.1 (0, k) (dm0 hk)) rfl hinX5_uncertainty_X3 (by decide) (by decide +kernel) (fun _ h9 => h9) (rfl) dX5_uncertainty_5 ?_
  exact V_iret X hr (⟨rfl, rfl⟩) dX5_uncertainty_8
set_option maxHeartbeats 4000000 in
set_option maxRecDepth 100000 in
theorem c_X5_uncertainty_x (l : Launch) (hl : l.stackTraces = false) (G : GG) (f : Wo) (al : Tg → Nat) (fi : Nat → Nat → Int32) (z : CZ) (hR : RC G al fi z f) (i : Int32) (h : i < 0 ∨ nI (zN z 0) ≤ i) : Cx l yX5_uncertainty wsX5_uncertainty 10 181 G [.ref (al (15, 0)), .int i] f (fun _ _ => False) (fun E f' => E = "java/lang/IndexOutOfBoundsException" ∧ f' = f) 1 6 := by
  refine Cx.of (cc := cX5_uncertainty) (maxL := 2) (ret := (some .int)) (by decide) rfl (Nat.le_of_ble_eq_true rfl) (lv := [(0, _), (1, _)]) rfl (by simp [Value.category]) ?_
  intro K X hL hG hr hT
  subst hL; subst hG
  refine V_aload_n X rfl dX5_uncertainty_0 ?_
  refine V_iload_n X rfl dX5_uncertainty_1 ?_
  refine V_callVX (kc' := 0) (ks' := 0) X (rest := _) (c_X5_existingPlayer_x _ hl _ _ al fi z hR i h) (hR.2.1 (15, 0) (dm15)) rfl gX5_uncertainty_X5_existingPlayer rfl hdv_X5_existingPlayer (Nat.le_of_ble_eq_true rfl) (Nat.le_of_ble_eq_true rfl) rfl (Nat.le_of_ble_eq_true rfl) (by omega) (by omega) dX5_uncertainty_2 (fun E f1 hq => ?_) (fun r f1 hq => hq.elim)
  obtain ⟨rfl, rfl⟩ := hq
  exact VX_out X hT ⟨rfl, rfl⟩
theorem hinX5_level_X3 : ∀ w ∈ wsX30, w ∈ wsX5_level := by decide +kernel
set_option maxHeartbeats 4000000 in
set_option maxRecDepth 100000 in
theorem c_X5_level_t (l : Launch) (G : GG) (f : Wo) (al : Tg → Nat) (fi : Nat → Nat → Int32) (z : CZ) (hR : RC G al fi z f) (k : Nat) (hk : k < zN z 0) : Cp l yX5_level wsX5_level 10 181 G [.ref (al (15, 0)), .int (nI k)] f (.int (fi 3 k)) := by
  refine Ct.of (cc := cX5_level) (maxL := 2) (ret := (some .int)) (by decide) rfl (Nat.le_of_ble_eq_true rfl) (lv := [(0, _), (1, _)]) rfl (by simp [Value.category]) ?_
  intro K X hL hG hr hnm
  subst hL; subst hG
  refine V_aload_n X rfl dX5_level_0 ?_
  refine V_iload_n X rfl dX5_level_1 ?_
  refine V_callVp X (rest := _) (c_X5_existingPlayer_t _ _ _ al fi z hR k hk) (hR.2.1 (15, 0) (dm15)) rfl gX5_level_X5_existingPlayer rfl hdv_X5_existingPlayer (Nat.le_of_ble_eq_true rfl) (Nat.le_of_ble_eq_true rfl) rfl (Nat.le_of_ble_eq_true rfl) dX5_level_2 ?_
  refine V_get X (T := TX3) (N := 6) (v := .int _) 3 (hR.2.1 (0, k) (dm0 hk)) rfl hinX5_level_X3 (by decide) (by decide +kernel) (fun _ h9 => h9) (rfl) dX5_level_5 ?_
  exact V_iret X hr (⟨rfl, rfl⟩) dX5_level_8
set_option maxHeartbeats 4000000 in
set_option maxRecDepth 100000 in
theorem c_X5_level_x (l : Launch) (hl : l.stackTraces = false) (G : GG) (f : Wo) (al : Tg → Nat) (fi : Nat → Nat → Int32) (z : CZ) (hR : RC G al fi z f) (i : Int32) (h : i < 0 ∨ nI (zN z 0) ≤ i) : Cx l yX5_level wsX5_level 10 181 G [.ref (al (15, 0)), .int i] f (fun _ _ => False) (fun E f' => E = "java/lang/IndexOutOfBoundsException" ∧ f' = f) 1 6 := by
  refine Cx.of (cc := cX5_level) (maxL := 2) (ret := (some .int)) (by decide) rfl (Nat.le_of_ble_eq_true rfl) (lv := [(0, _), (1, _)]) rfl (by simp [Value.category]) ?_
  intro K X hL hG hr hT
  subst hL; subst hG
  refine V_aload_n X rfl dX5_level_0 ?_
  refine V_iload_n X rfl dX5_level_1 ?_
  refine V_callVX (kc' := 0) (ks' := 0) X (rest := _) (c_X5_existingPlayer_x _ hl _ _ al fi z hR i h) (hR.2.1 (15, 0) (dm15)) rfl gX5_level_X5_existingPlayer rfl hdv_X5_existingPlayer (Nat.le_of_ble_eq_true rfl) (Nat.le_of_ble_eq_true rfl) rfl (Nat.le_of_ble_eq_true rfl) (by omega) (by omega) dX5_level_2 (fun E f1 hq => ?_) (fun r f1 hq => hq.elim)
  obtain ⟨rfl, rfl⟩ := hq
  exact VX_out X hT ⟨rfl, rfl⟩
theorem hinX5_matchState_X1 : ∀ w ∈ wsX10, w ∈ wsX5_matchState := by decide +kernel
set_option maxHeartbeats 4000000 in
set_option maxRecDepth 100000 in
theorem c_X5_matchState_t (l : Launch) (G : GG) (f : Wo) (al : Tg → Nat) (fi : Nat → Nat → Int32) (z : CZ) (hR : RC G al fi z f) (m : Nat) (hm : m < zN z 2) : Cp l yX5_matchState wsX5_matchState 10 181 G [.ref (al (15, 0)), .int (nI m)] f (.int (fi 13 m)) := by
  refine Ct.of (cc := cX5_matchState) (maxL := 2) (ret := (some .int)) (by decide) rfl (Nat.le_of_ble_eq_true rfl) (lv := [(0, _), (1, _)]) rfl (by simp [Value.category]) ?_
  intro K X hL hG hr hnm
  subst hL; subst hG
  refine V_aload_n X rfl dX5_matchState_0 ?_
  refine V_iload_n X rfl dX5_matchState_1 ?_
  refine V_callVp X (rest := _) (c_X5_existingMatch_t _ _ _ al fi z hR m hm) (hR.2.1 (15, 0) (dm15)) rfl gX5_matchState_X5_existingMatch rfl hdv_X5_existingMatch (Nat.le_of_ble_eq_true rfl) (Nat.le_of_ble_eq_true rfl) rfl (Nat.le_of_ble_eq_true rfl) dX5_matchState_2 ?_
  refine V_get X (T := TX1) (N := 7) (v := .int _) 5 (hR.2.1 (2, m) (dm2 hm)) rfl hinX5_matchState_X1 (by decide) (by decide +kernel) (fun _ h9 => h9) (rfl) dX5_matchState_5 ?_
  exact V_iret X hr (⟨rfl, rfl⟩) dX5_matchState_8
set_option maxHeartbeats 4000000 in
set_option maxRecDepth 100000 in
theorem c_X5_matchState_x (l : Launch) (hl : l.stackTraces = false) (G : GG) (f : Wo) (al : Tg → Nat) (fi : Nat → Nat → Int32) (z : CZ) (hR : RC G al fi z f) (i : Int32) (h : i < 0 ∨ nI (zN z 2) ≤ i) : Cx l yX5_matchState wsX5_matchState 10 181 G [.ref (al (15, 0)), .int i] f (fun _ _ => False) (fun E f' => E = "java/lang/IndexOutOfBoundsException" ∧ f' = f) 1 6 := by
  refine Cx.of (cc := cX5_matchState) (maxL := 2) (ret := (some .int)) (by decide) rfl (Nat.le_of_ble_eq_true rfl) (lv := [(0, _), (1, _)]) rfl (by simp [Value.category]) ?_
  intro K X hL hG hr hT
  subst hL; subst hG
  refine V_aload_n X rfl dX5_matchState_0 ?_
  refine V_iload_n X rfl dX5_matchState_1 ?_
  refine V_callVX (kc' := 0) (ks' := 0) X (rest := _) (c_X5_existingMatch_x _ hl _ _ al fi z hR i h) (hR.2.1 (15, 0) (dm15)) rfl gX5_matchState_X5_existingMatch rfl hdv_X5_existingMatch (Nat.le_of_ble_eq_true rfl) (Nat.le_of_ble_eq_true rfl) rfl (Nat.le_of_ble_eq_true rfl) (by omega) (by omega) dX5_matchState_2 (fun E f1 hq => ?_) (fun r f1 hq => hq.elim)
  obtain ⟨rfl, rfl⟩ := hq
  exact VX_out X hT ⟨rfl, rfl⟩
theorem hinX5_unevenness_X1 : ∀ w ∈ wsX10, w ∈ wsX5_unevenness := by decide +kernel
set_option maxHeartbeats 4000000 in
set_option maxRecDepth 100000 in
theorem c_X5_unevenness_t (l : Launch) (G : GG) (f : Wo) (al : Tg → Nat) (fi : Nat → Nat → Int32) (z : CZ) (hR : RC G al fi z f) (m : Nat) (hm : m < zN z 2) : Cp l yX5_unevenness wsX5_unevenness 10 181 G [.ref (al (15, 0)), .int (nI m)] f (.int (fi 11 m)) := by
  refine Ct.of (cc := cX5_unevenness) (maxL := 2) (ret := (some .int)) (by decide) rfl (Nat.le_of_ble_eq_true rfl) (lv := [(0, _), (1, _)]) rfl (by simp [Value.category]) ?_
  intro K X hL hG hr hnm
  subst hL; subst hG
  refine V_aload_n X rfl dX5_unevenness_0 ?_
  refine V_iload_n X rfl dX5_unevenness_1 ?_
  refine V_callVp X (rest := _) (c_X5_existingMatch_t _ _ _ al fi z hR m hm) (hR.2.1 (15, 0) (dm15)) rfl gX5_unevenness_X5_existingMatch rfl hdv_X5_existingMatch (Nat.le_of_ble_eq_true rfl) (Nat.le_of_ble_eq_true rfl) rfl (Nat.le_of_ble_eq_true rfl) dX5_unevenness_2 ?_
  refine V_get X (T := TX1) (N := 7) (v := .int _) 2 (hR.2.1 (2, m) (dm2 hm)) rfl hinX5_unevenness_X1 (by decide) (by decide +kernel) (fun _ h9 => h9) (rfl) dX5_unevenness_5 ?_
  exact V_iret X hr (⟨rfl, rfl⟩) dX5_unevenness_8
set_option maxHeartbeats 4000000 in
set_option maxRecDepth 100000 in
theorem c_X5_unevenness_x (l : Launch) (hl : l.stackTraces = false) (G : GG) (f : Wo) (al : Tg → Nat) (fi : Nat → Nat → Int32) (z : CZ) (hR : RC G al fi z f) (i : Int32) (h : i < 0 ∨ nI (zN z 2) ≤ i) : Cx l yX5_unevenness wsX5_unevenness 10 181 G [.ref (al (15, 0)), .int i] f (fun _ _ => False) (fun E f' => E = "java/lang/IndexOutOfBoundsException" ∧ f' = f) 1 6 := by
  refine Cx.of (cc := cX5_unevenness) (maxL := 2) (ret := (some .int)) (by decide) rfl (Nat.le_of_ble_eq_true rfl) (lv := [(0, _), (1, _)]) rfl (by simp [Value.category]) ?_
  intro K X hL hG hr hT
  subst hL; subst hG
  refine V_aload_n X rfl dX5_unevenness_0 ?_
  refine V_iload_n X rfl dX5_unevenness_1 ?_
  refine V_callVX (kc' := 0) (ks' := 0) X (rest := _) (c_X5_existingMatch_x _ hl _ _ al fi z hR i h) (hR.2.1 (15, 0) (dm15)) rfl gX5_unevenness_X5_existingMatch rfl hdv_X5_existingMatch (Nat.le_of_ble_eq_true rfl) (Nat.le_of_ble_eq_true rfl) rfl (Nat.le_of_ble_eq_true rfl) (by omega) (by omega) dX5_unevenness_2 (fun E f1 hq => ?_) (fun r f1 hq => hq.elim)
  obtain ⟨rfl, rfl⟩ := hq
  exact VX_out X hT ⟨rfl, rfl⟩
set_option maxHeartbeats 4000000 in
set_option maxRecDepth 100000 in
theorem c_X5_state_t (l : Launch) (G : GG) (f : Wo) (al : Tg → Nat) (fi : Nat → Nat → Int32) (z : CZ) (hR : RC G al fi z f) (k : Nat) (hk : k < zN z 0) : Cp l yX5_state wsX5_state 10 181 G [.ref (al (15, 0)), .int (nI k)] f (.int (stC fi (zA z k))) := by
  refine Ct.of (cc := cX5_state) (maxL := 2) (ret := (some .int)) (by decide) rfl (Nat.le_of_ble_eq_true rfl) (lv := [(0, _), (1, _)]) rfl (by simp [Value.category]) ?_
  intro K X hL hG hr hnm
  subst hL; subst hG
  refine V_aload_n X rfl dX5_state_0 ?_
  refine V_iload_n X rfl dX5_state_1 ?_
  refine V_callVp X (rest := _) (c_X5_existingPlayer_t _ _ _ al fi z hR k hk) (hR.2.1 (15, 0) (dm15)) rfl gX5_state_X5_existingPlayer rfl hdv_X5_existingPlayer (Nat.le_of_ble_eq_true rfl) (Nat.le_of_ble_eq_true rfl) rfl (Nat.le_of_ble_eq_true rfl) dX5_state_2 ?_
  refine V_callVp X (rest := _) (c_X3_standing _ _ _ al fi z hR k hk) (hR.2.1 (0, k) (dm0 hk)) rfl gX5_state_X3_standing rfl hdv_X3_standing (Nat.le_of_ble_eq_true rfl) (Nat.le_of_ble_eq_true rfl) rfl (Nat.le_of_ble_eq_true rfl) dX5_state_5 ?_
  exact V_iret X hr (⟨rfl, rfl⟩) dX5_state_8
set_option maxHeartbeats 4000000 in
set_option maxRecDepth 100000 in
theorem c_X5_state_x (l : Launch) (hl : l.stackTraces = false) (G : GG) (f : Wo) (al : Tg → Nat) (fi : Nat → Nat → Int32) (z : CZ) (hR : RC G al fi z f) (i : Int32) (h : i < 0 ∨ nI (zN z 0) ≤ i) : Cx l yX5_state wsX5_state 10 181 G [.ref (al (15, 0)), .int i] f (fun _ _ => False) (fun E f' => E = "java/lang/IndexOutOfBoundsException" ∧ f' = f) 1 6 := by
  refine Cx.of (cc := cX5_state) (maxL := 2) (ret := (some .int)) (by decide) rfl (Nat.le_of_ble_eq_true rfl) (lv := [(0, _), (1, _)]) rfl (by simp [Value.category]) ?_
  intro K X hL hG hr hT
  subst hL; subst hG
  refine V_aload_n X rfl dX5_state_0 ?_
  refine V_iload_n X rfl dX5_state_1 ?_
  refine V_callVX (kc' := 0) (ks' := 0) X (rest := _) (c_X5_existingPlayer_x _ hl _ _ al fi z hR i h) (hR.2.1 (15, 0) (dm15)) rfl gX5_state_X5_existingPlayer rfl hdv_X5_existingPlayer (Nat.le_of_ble_eq_true rfl) (Nat.le_of_ble_eq_true rfl) rfl (Nat.le_of_ble_eq_true rfl) (by omega) (by omega) dX5_state_2 (fun E f1 hq => ?_) (fun r f1 hq => hq.elim)
  obtain ⟨rfl, rfl⟩ := hq
  exact VX_out X hT ⟨rfl, rfl⟩
theorem hinX5_barred_X3 : ∀ w ∈ wsX30, w ∈ wsX5_barred := by decide +kernel
theorem hinX5_barred_X5 : ∀ w ∈ wsX50, w ∈ wsX5_barred := by decide +kernel
set_option maxHeartbeats 4000000 in
set_option maxRecDepth 100000 in
theorem c_X5_barred_t (l : Launch) (G : GG) (f : Wo) (al : Tg → Nat) (fi : Nat → Nat → Int32) (z : CZ) (hR : RC G al fi z f) (k : Nat) (hk : k < zN z 0) : Cp l yX5_barred wsX5_barred 10 181 G [.ref (al (15, 0)), .int (nI k)] f (.int (if 0 < fi 4 k - fi 18 0 then fi 4 k - fi 18 0 else 0)) := by
  refine Ct.of (cc := cX5_barred) (maxL := 2) (ret := (some .int)) (by decide) rfl (Nat.le_of_ble_eq_true rfl) (lv := [(0, _), (1, _)]) rfl (by simp [Value.category]) ?_
  intro K X hL hG hr hnm
  subst hL; subst hG
  refine V_iconst X (v := 0) (by decide) dX5_barred_0 ?_
  refine V_aload_n X rfl dX5_barred_1 ?_
  refine V_iload_n X rfl dX5_barred_2 ?_
  refine V_callVp X (rest := _) (c_X5_existingPlayer_t _ _ _ al fi z hR k hk) (hR.2.1 (15, 0) (dm15)) rfl gX5_barred_X5_existingPlayer rfl hdv_X5_existingPlayer (Nat.le_of_ble_eq_true rfl) (Nat.le_of_ble_eq_true rfl) rfl (Nat.le_of_ble_eq_true rfl) dX5_barred_3 ?_
  refine V_get X (T := TX3) (N := 6) (v := .int _) 4 (hR.2.1 (0, k) (dm0 hk)) rfl hinX5_barred_X3 (by decide) (by decide +kernel) (fun _ h9 => h9) (rfl) dX5_barred_6 ?_
  refine V_aload_n X rfl dX5_barred_9 ?_
  refine V_get X (T := TX5) (N := 5) (v := .int _) 4 (hR.2.1 (15, 0) (dm15)) rfl hinX5_barred_X5 (by decide) (by decide +kernel) (fun _ h9 => h9) (rfl) dX5_barred_10 ?_
  refine V_isub X dX5_barred_13 ?_
  refine V_max X (by decide +kernel) (by decide +kernel) (by decide +kernel) (by decide +kernel) (Nat.le_of_ble_eq_true rfl) (Nat.le_of_ble_eq_true rfl) dX5_barred_14 ?_
  exact V_iret X hr (⟨rfl, rfl⟩) dX5_barred_17
set_option maxHeartbeats 4000000 in
set_option maxRecDepth 100000 in
theorem c_X5_barred_x (l : Launch) (hl : l.stackTraces = false) (G : GG) (f : Wo) (al : Tg → Nat) (fi : Nat → Nat → Int32) (z : CZ) (hR : RC G al fi z f) (i : Int32) (h : i < 0 ∨ nI (zN z 0) ≤ i) : Cx l yX5_barred wsX5_barred 10 181 G [.ref (al (15, 0)), .int i] f (fun _ _ => False) (fun E f' => E = "java/lang/IndexOutOfBoundsException" ∧ f' = f) 1 6 := by
  refine Cx.of (cc := cX5_barred) (maxL := 2) (ret := (some .int)) (by decide) rfl (Nat.le_of_ble_eq_true rfl) (lv := [(0, _), (1, _)]) rfl (by simp [Value.category]) ?_
  intro K X hL hG hr hT
  subst hL; subst hG
  refine V_iconst X (v := 0) (by decide) dX5_barred_0 ?_
  refine V_aload_n X rfl dX5_barred_1 ?_
  refine V_iload_n X rfl dX5_barred_2 ?_
  refine V_callVX (kc' := 0) (ks' := 0) X (rest := _) (c_X5_existingPlayer_x _ hl _ _ al fi z hR i h) (hR.2.1 (15, 0) (dm15)) rfl gX5_barred_X5_existingPlayer rfl hdv_X5_existingPlayer (Nat.le_of_ble_eq_true rfl) (Nat.le_of_ble_eq_true rfl) rfl (Nat.le_of_ble_eq_true rfl) (by omega) (by omega) dX5_barred_3 (fun E f1 hq => ?_) (fun r f1 hq => hq.elim)
  obtain ⟨rfl, rfl⟩ := hq
  exact VX_out X hT ⟨rfl, rfl⟩
theorem hinX5_clock_X5 : ∀ w ∈ wsX50, w ∈ wsX5_clock := by decide +kernel
set_option maxHeartbeats 4000000 in
set_option maxRecDepth 100000 in
theorem c_X5_clock (l : Launch) (G : GG) (f : Wo) (al : Tg → Nat) (fi : Nat → Nat → Int32) (z : CZ) (hR : RC G al fi z f) : Cp l yX5_clock wsX5_clock 1 44 G [.ref (al (15, 0))] f (.int (fi 18 0)) := by
  refine Ct.of (cc := cX5_clock) (maxL := 1) (ret := (some .int)) (by decide) rfl (Nat.le_of_ble_eq_true rfl) (lv := [(0, _)]) rfl (by simp [Value.category]) ?_
  intro K X hL hG hr hnm
  subst hL; subst hG
  refine V_aload_n X rfl dX5_clock_0 ?_
  refine V_get X (T := TX5) (N := 5) (v := .int _) 4 (hR.2.1 (15, 0) (dm15)) rfl hinX5_clock_X5 (by decide) (by decide +kernel) (fun _ h9 => h9) (rfl) dX5_clock_1 ?_
  exact V_iret X hr (⟨rfl, rfl⟩) dX5_clock_4
theorem hinX5_players_X5 : ∀ w ∈ wsX50, w ∈ wsX5_players := by decide +kernel
set_option maxHeartbeats 4000000 in
set_option maxRecDepth 100000 in
theorem c_X5_players (l : Launch) (G : GG) (f : Wo) (al : Tg → Nat) (fi : Nat → Nat → Int32) (z : CZ) (hR : RC G al fi z f) : Cp l yX5_players wsX5_players 2 64 G [.ref (al (15, 0))] f (.int (nI (zN z 0))) := by
  refine Ct.of (cc := cX5_players) (maxL := 1) (ret := (some .int)) (by decide) rfl (Nat.le_of_ble_eq_true rfl) (lv := [(0, _)]) rfl (by simp [Value.category]) ?_
  intro K X hL hG hr hnm
  subst hL; subst hG
  refine V_aload_n X rfl dX5_players_0 ?_
  refine V_get X (T := TX5) (N := 5) (v := .ref _) 0 (hR.2.1 (15, 0) (dm15)) rfl hinX5_players_X5 (by decide) (by decide +kernel) (fun _ h9 => h9) (rfl) dX5_players_1 ?_
  refine V_csize X hR (rest := _) (13, 0) (dl13 (by decide)) gX5_players_Jx4a65c_size_8abf5 (Nat.le_of_ble_eq_true rfl) (Nat.le_of_ble_eq_true rfl) (Nat.le_of_ble_eq_true rfl) dX5_players_4 ?_
  refine V.top (y := nI (zN z 0)) (by rw [hR.len (by decide)]) ?_
  exact V_iret X hr (⟨rfl, rfl⟩) dX5_players_7
theorem hinX5_matches_X5 : ∀ w ∈ wsX50, w ∈ wsX5_matches := by decide +kernel
set_option maxHeartbeats 4000000 in
set_option maxRecDepth 100000 in
theorem c_X5_matches (l : Launch) (G : GG) (f : Wo) (al : Tg → Nat) (fi : Nat → Nat → Int32) (z : CZ) (hR : RC G al fi z f) : Cp l yX5_matches wsX5_matches 2 64 G [.ref (al (15, 0))] f (.int (nI (zN z 2))) := by
  refine Ct.of (cc := cX5_matches) (maxL := 1) (ret := (some .int)) (by decide) rfl (Nat.le_of_ble_eq_true rfl) (lv := [(0, _)]) rfl (by simp [Value.category]) ?_
  intro K X hL hG hr hnm
  subst hL; subst hG
  refine V_aload_n X rfl dX5_matches_0 ?_
  refine V_get X (T := TX5) (N := 5) (v := .ref _) 2 (hR.2.1 (15, 0) (dm15)) rfl hinX5_matches_X5 (by decide) (by decide +kernel) (fun _ h9 => h9) (rfl) dX5_matches_1 ?_
  refine V_csize X hR (rest := _) (13, 2) (dl13 (by decide)) gX5_matches_Jx4a65c_size_8abf5 (Nat.le_of_ble_eq_true rfl) (Nat.le_of_ble_eq_true rfl) (Nat.le_of_ble_eq_true rfl) dX5_matches_4 ?_
  refine V.top (y := nI (zN z 2)) (by rw [hR.len (by decide)]) ?_
  exact V_iret X hr (⟨rfl, rfl⟩) dX5_matches_7
theorem hinX5_window_X5 : ∀ w ∈ wsX50, w ∈ wsX5_window := by decide +kernel
set_option maxHeartbeats 4000000 in
set_option maxRecDepth 100000 in
theorem c_X5_window_t (l : Launch) (G : GG) (f : Wo) (al : Tg → Nat) (fi : Nat → Nat → Int32) (z : CZ) (hR : RC G al fi z f) (p : Nat) (hp : p < zN z 1) (hq : fi 7 p = 1) : Cp l yX5_window wsX5_window 11 203 G [.ref (al (15, 0)), .int (nI p)] f (.int (wnC fi p (fi 18 0))) := by
  refine Ct.of (cc := cX5_window) (maxL := 2) (ret := (some .int)) (by decide) rfl (Nat.le_of_ble_eq_true rfl) (lv := [(0, _), (1, _)]) rfl (by simp [Value.category]) ?_
  intro K X hL hG hr hnm
  subst hL; subst hG
  refine V_aload_n X rfl dX5_window_0 ?_
  refine V_iload_n X rfl dX5_window_1 ?_
  refine V_callVp X (rest := _) (c_X5_queuingParty_t _ _ _ al fi z hR p hp hq) (hR.2.1 (15, 0) (dm15)) rfl gX5_window_X5_queuingParty rfl hdv_X5_queuingParty (Nat.le_of_ble_eq_true rfl) (Nat.le_of_ble_eq_true rfl) rfl (Nat.le_of_ble_eq_true rfl) dX5_window_2 ?_
  refine V_aload_n X rfl dX5_window_5 ?_
  refine V_get X (T := TX5) (N := 5) (v := .int _) 4 (hR.2.1 (15, 0) (dm15)) rfl hinX5_window_X5 (by decide) (by decide +kernel) (fun _ h9 => h9) (rfl) dX5_window_6 ?_
  refine V_callVp X (rest := _) (c_X2_windowAt _ _ _ al fi z hR p hp _) (hR.2.1 (1, p) (dm1 hp)) rfl gX5_window_X2_windowAt rfl hdv_X2_windowAt (Nat.le_of_ble_eq_true rfl) (Nat.le_of_ble_eq_true rfl) rfl (Nat.le_of_ble_eq_true rfl) dX5_window_9 ?_
  exact V_iret X hr (⟨rfl, rfl⟩) dX5_window_12
set_option maxHeartbeats 4000000 in
set_option maxRecDepth 100000 in
theorem c_X5_window_x (l : Launch) (hl : l.stackTraces = false) (G : GG) (f : Wo) (al : Tg → Nat) (fi : Nat → Nat → Int32) (z : CZ) (hR : RC G al fi z f) (i : Int32) (h : i < 0 ∨ nI (zN z 1) ≤ i) : Cx l yX5_window wsX5_window 11 203 G [.ref (al (15, 0)), .int i] f (fun _ _ => False) (fun E f' => E = "java/lang/IndexOutOfBoundsException" ∧ f' = f) 1 6 := by
  refine Cx.of (cc := cX5_window) (maxL := 2) (ret := (some .int)) (by decide) rfl (Nat.le_of_ble_eq_true rfl) (lv := [(0, _), (1, _)]) rfl (by simp [Value.category]) ?_
  intro K X hL hG hr hT
  subst hL; subst hG
  refine V_aload_n X rfl dX5_window_0 ?_
  refine V_iload_n X rfl dX5_window_1 ?_
  refine V_callVX (kc' := 0) (ks' := 0) X (rest := _) (c_X5_queuingParty_x _ hl _ _ al fi z hR i h) (hR.2.1 (15, 0) (dm15)) rfl gX5_window_X5_queuingParty rfl hdv_X5_queuingParty (Nat.le_of_ble_eq_true rfl) (Nat.le_of_ble_eq_true rfl) rfl (Nat.le_of_ble_eq_true rfl) (by omega) (by omega) dX5_window_2 (fun E f1 hq => ?_) (fun r f1 hq => hq.elim)
  obtain ⟨rfl, rfl⟩ := hq
  exact VX_out X hT ⟨rfl, rfl⟩
set_option maxHeartbeats 4000000 in
set_option maxRecDepth 100000 in
theorem c_X5_window_s (l : Launch) (hl : l.stackTraces = false) (G : GG) (f : Wo) (al : Tg → Nat) (fi : Nat → Nat → Int32) (z : CZ) (hR : RC G al fi z f) (p : Nat) (hp : p < zN z 1) (hq : fi 7 p ≠ 1) : Cx l yX5_window wsX5_window 11 203 G [.ref (al (15, 0)), .int (nI p)] f (fun _ _ => False) (fun E f' => E = "java/lang/IllegalStateException" ∧ f' = f) 1 6 := by
  refine Cx.of (cc := cX5_window) (maxL := 2) (ret := (some .int)) (by decide) rfl (Nat.le_of_ble_eq_true rfl) (lv := [(0, _), (1, _)]) rfl (by simp [Value.category]) ?_
  intro K X hL hG hr hT
  subst hL; subst hG
  refine V_aload_n X rfl dX5_window_0 ?_
  refine V_iload_n X rfl dX5_window_1 ?_
  refine V_callVX (kc' := 0) (ks' := 0) X (rest := _) (c_X5_queuingParty_s _ hl _ _ al fi z hR p hp hq) (hR.2.1 (15, 0) (dm15)) rfl gX5_window_X5_queuingParty rfl hdv_X5_queuingParty (Nat.le_of_ble_eq_true rfl) (Nat.le_of_ble_eq_true rfl) rfl (Nat.le_of_ble_eq_true rfl) (by omega) (by omega) dX5_window_2 (fun E f1 hq => ?_) (fun r f1 hq => hq.elim)
  obtain ⟨rfl, rfl⟩ := hq
  exact VX_out X hT ⟨rfl, rfl⟩
