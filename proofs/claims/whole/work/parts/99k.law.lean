/-! ===== the law, from its entry to its end ===== -/
theorem z_5 : ∀ j, j < 5 → defaultValue (tyX5 j) = vp_V [.null, .null, .null, .null, .int 0] j := fun j hj => by
  have : j = 0 ∨ j = 1 ∨ j = 2 ∨ j = 3 ∨ j = 4 := by omega
  rcases this with rfl | rfl | rfl | rfl | rfl <;> rfl
theorem z_6 : ∀ j, j < 24 → defaultValue (tyX6 j) = vp_V (miF 0 (fun _ => 0)) j := fun j hj => by
  have : j = 0 ∨ j = 1 ∨ j = 2 ∨ j = 3 ∨ j = 4 ∨ j = 5 ∨ j = 6 ∨ j = 7 ∨ j = 8 ∨ j = 9 ∨ j = 10 ∨ j = 11 ∨ j = 12 ∨ j = 13 ∨ j = 14 ∨ j = 15 ∨ j = 16 ∨ j = 17 ∨ j = 18 ∨ j = 19 ∨ j = 20 ∨ j = 21 ∨ j = 22 ∨ j = 23 := by omega
  rcases this with rfl | rfl | rfl | rfl | rfl | rfl | rfl | rfl | rfl | rfl | rfl | rfl | rfl | rfl | rfl | rfl | rfl | rfl | rfl | rfl | rfl | rfl | rfl | rfl <;> rfl
theorem hds_5i : yX5_init.cls ≠ "java/lang/invoke/MethodHandle" ∧ yX5_init.cls ≠ "java/lang/invoke/VarHandle" ∧ (parseMethodDescriptor yX5_init.desc).map (fun d => d.parameters.length) = some 0 := by decide +kernel
theorem hds_6i : yX6_init.cls ≠ "java/lang/invoke/MethodHandle" ∧ yX6_init.cls ≠ "java/lang/invoke/VarHandle" ∧ (parseMethodDescriptor yX6_init.desc).map (fun d => d.parameters.length) = some 0 := by decide +kernel
theorem miF_0 (o : Nat) : miF 0 (fun _ => 0) = miF 0 (fun _ => o) := rfl
set_option maxHeartbeats 4000000 in
set_option maxRecDepth 100000 in
theorem law_body {K : VK} (X : CX K cL_law RL wsL_law 7 2048 84000) (hCF : CF (kS K)) (hl : (kL K).stackTraces = false) {b L : Nat} {xs : Nat → Int32} {f0 : Wo} (hX : va_X b L xs (kS K) (kS K).heap) (hbl : b < (kS K).heap.size) (hbA : ¬ gA (kG K) b) (hL : L ≤ 1536) (hf : f0 (gE (kG K)) = some ((99, 0), oQ (kG K) 0 (fun _ => none))) (kk : ∀ (f : Wo) (kc ks : Nat) (lv : List (Nat × Value)), V K f kc ks 1229 lv []) : V K f0 601024 7293034 0 [(0, .ref b)] [] := by
  refine V_new X (C := RX5) (T := TX5) (N := 5) (ci := 5) (index := 8) (kc' := 601023) (ks' := 7293029) (ty := tyX5) (fs := [.null, .null, .null, .null, .int 0]) (15, 0) rfl inlX5 tyX5_ok (by decide +kernel) (by decide +kernel) (by decide +kernel) z_5 (by omega) (by omega) dL_law_0 (fun x hx => ?_)
  have hg1 : (w_up f0 x (15, 0) (oO 5 [.null, .null, .null, .null, .int 0])) (gE (kG K)) = some ((99, 0), oQ (kG K) 0 (fun _ => none)) := (w_up_ne _ _ _ (w_neN hf hx)).trans hf
  refine V_dup X rfl dL_law_3 ?_
  refine V_callI (kc' := 601017) (ks' := 7293009) X (rest := [.ref x]) (c_X5_init _ _ _ x _ (w_up_self _ _ _ _) hg1) gL_law_X5_init rfl (by decide +kernel) (by decide +kernel) (by decide +kernel) rfl hds_5i (Nat.le_of_ble_eq_true rfl) (Nat.le_of_ble_eq_true rfl) rfl (Nat.le_of_ble_eq_true rfl) (by omega) (by omega) dL_law_4 (fun r f1 h9 => ?_)
  obtain ⟨al, rfl, rfl, hR1, -⟩ := h9
  refine V_astore_n X (lv' := [(1, _), (0, _)]) (by decide) rfl dL_law_7 ?_
  refine V_new X (C := RX6) (T := TX6) (N := 24) (ci := 6) (index := 71) (kc' := 601016) (ks' := 7292985) (ty := tyX6) (fs := miF 0 (fun _ => 0)) (30, 0) rfl inlX6 tyX6_ok (by decide +kernel) (by decide +kernel) (by decide +kernel) z_6 (by omega) (by omega) dL_law_8 (fun y hy => ?_)
  rw [miF_0 y]
  refine V_dup X rfl dL_law_11 ?_
  refine V_callI (kc' := 601000) (ks' := 7288859) X (rest := [.ref y]) (c_X6_init _ _ _ y (w_up_self _ _ _ _)) gL_law_X6_init rfl (by decide +kernel) (by decide +kernel) (by decide +kernel) rfl hds_6i (Nat.le_of_ble_eq_true rfl) (Nat.le_of_ble_eq_true rfl) rfl (Nat.le_of_ble_eq_true rfl) (by omega) (by omega) dL_law_12 (fun r f3 h9 => ?_)
  obtain ⟨rfl, am, hm0, hM3, -, hF⟩ := h9
  refine V_astore_n X (lv' := [(2, _), (1, _), (0, _)]) (by decide) rfl dL_law_15 ?_
  refine V_iconst X (v := 1) (by decide) dL_law_16 ?_
  refine V_newJ X (kc' := 600999) (ks' := 7288858) (N := 1) (40, 0) (by decide +kernel) (by decide) (by decide) (by decide) (by omega) (by omega) dL_law_17 (fun o ho => ?_)
  refine V_astore_n X (lv' := [(3, _), (2, _), (1, _), (0, _)]) (by decide) rfl dL_law_19 ?_
  refine V_iconst X (v := 0) (by decide) dL_law_20 ?_
  refine V_istore X (lv' := [(4, _), (3, _), (2, _), (1, _), (0, _)]) (by decide) rfl dL_law_21 ?_
  refine V.lvs (lv' := [(0, .ref b), (1, .ref (al (15, 0))), (2, .ref y), (3, .ref o), (4, .int (nI (3 * 0)))]) rfl ?_
  refine V.bud (kc' := 512 * 350) (ks' := 512 * 9200) (by omega) (by omega) ?_
  refine law_loop X hCF hl hX hbl hbA hL kk 512 0 _ 0 0 rfl ⟨al, am, f0C, z0C, fun _ => 0, fun _ _ => 0, 0, fun _ => 0, rfl, hm0, ?_, ?_, SB.zero, Nat.le_refl _, w_up_self _ _ _ _, rfl, rfl⟩
  · refine hR1.keep fun q z hq h30 h40 => ?_
    have h1 : (w_up f1 y (30, 0) (oO 6 (miF 0 (fun _ => y)))) q = some z := (w_up_ne _ _ _ (w_neN hq hy)).trans hq
    have h2 : f3 q = some z := (hF q (by rw [h1]; exact fun e => by cases e) (w_neN hq hy)).trans h1
    exact (w_up_ne _ _ _ (w_neN h2 ho)).trans h2
  · exact hM3.keep fun q z hq _ => (w_up_ne _ _ _ (w_neN hq ho)).trans hq
set_option maxHeartbeats 4000000 in
set_option maxRecDepth 100000 in
theorem whole_start {p : Program} {e : Env} {s : State} {m : MethodId} {below : List Frame} {meth : Method} {c : Code} (l : Launch) (hflags : l.flags = flags0) {b L : Nat} {xs : Nat → Int32} (hL : L ≤ 1536) (C0 : lw_At p s m meth c b L xs) : W p l e room_1 s m #[Value.ref b] below meth c s.heap [] 0 0 (lw_Z below #[Value.ref b] s) (entryFrame m ([Value.ref b] : List Value).toArray 7) := by
  obtain ⟨hexec, hcode, hret, hml, hown, hts, hXs, hbl, hlocks, hgv⟩ := C0
  have hst : l.stackTraces = false := by
    unfold Launch.stackTraces
    rw [hflags]
    decide +kernel
  obtain ⟨G, hN, hKK, hCF, f0, hf1, hf2, -⟩ := k_start hts hgv
  have hX : CX ((p, l, e, room_1, s), (m, #[Value.ref b], below, meth, c), (G, 7, 601024, 7293034, lw_Z below #[Value.ref b] s)) cL_law RL wsL_law 7 2048 84000 := ⟨hexec, hcode, hml, hown, fun w hw => hts w (wsL_law_in w hw), hKK, hlocks, rfl, rfl⟩
  have hbA : ¬ gA G b := fun q => by
    have q : gN G ≤ b := q
    omega
  have key := law_body hX hCF hst hXs hbl hbA hL hf2 (fun f kc ks lv => V_iconst hX (v := 1) (by decide) dL_law_1229 (fun H locs ls cells slots a1 a2 a3 a4 a5 => va_forget (fun q hq => by
    have := a2.2.2 q hq
    have : gN G ≤ q.base := this
    show s.heap.size ≤ q.base
    omega) (W.widen (k := 601024) (n := 7293034) (show cells ≤ 601024 from Nat.le_trans (Nat.le_add_right _ _) a4) (show slots ≤ 7293034 from Nat.le_trans (Nat.le_add_right _ _) a5) (lw_ret hexec hcode hret hlocks dL_law_1230))))
  have hlen : (lg_sl [Value.ref b]).length ≤ 7 := by show 1 ≤ 7; omega
  have hl := lv_entry [Value.ref b] (n := 7) hlen
  rw [lg_entry_eq]
  exact key s.heap [] _ 0 0 hf1 va_S.rf ⟨hl, fun q hq => by cases List.mem_singleton.mp hq; rfl⟩ (by show 0 + 601024 ≤ 601024; omega) (by show 0 + 7293034 ≤ 7293034; omega)
