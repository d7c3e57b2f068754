/-! ===== the law: the loop over the script ===== -/
theorem LI.up {G : GG} {x y o n : Nat} {s7 : Int32} {w : Int64} {f : Wo} (h : LI G x y o n s7 w f) : LI G x y o (n + 1) s7 w f := by
  obtain ⟨al, am, fi, z, sc, ar, c, g, e1, e2, hR, hM, hS, hn, h5⟩ := h
  exact ⟨al, am, fi, z, sc, ar, c, g, e1, e2, hR, hM, hS, Nat.le_succ_of_le hn, h5⟩
theorem e_31 : ∀ k, k < 32 → gb 31 k = decide (k < 5) := by decide +kernel
theorem e_op (a : Int32) : ∃ j, j < 32 ∧ a &&& 31 = nI j := by
  refine ⟨a.toBitVec.toNat % 2 ^ 5, Nat.mod_lt _ (by decide), gb_ext fun k hk => ?_⟩
  rw [gb_and, e_31 k hk, gb_nI _ hk, Nat.testBit_mod_two_pow]
  unfold gb
  rw [BitVec.testBit_toNat, Bool.and_comm]
theorem e_more {L k : Nat} (hL : L ≤ 1536) (hk : k ≤ 512) : nI L - 3 < nI (3 * k) ∨ 3 * k + 2 < L := by
  by_cases h : 3 * k + 2 < L
  · exact Or.inr h
  · refine Or.inl ?_
    have e : (nI L - 3).toInt = (L : Int) - 3 := by
      match L with
      | 0 => decide
      | 1 => decide
      | 2 => decide
      | L + 3 =>
        rw [show (3 : Int32) = nI 3 from rfl, q_nsub (by omega), nI_toInt (by omega)]
        omega
    rw [Int32.lt_iff_toInt_lt, e, nI_toInt (by omega)]
    omega
theorem e_more' {L k : Nat} (hk : 3 * k + 2 < L) (hL : L ≤ 1536) : ¬ nI L - 3 < nI (3 * k) := by
  rw [show (3 : Int32) = nI 3 from rfl, q_nsub (by omega)]
  exact nI_nlt (by omega) (by omega)
set_option maxHeartbeats 1000000 in
set_option maxRecDepth 100000 in
theorem law_op {K : VK} (X : CX K cL_law RL wsL_law 7 2048 84000) (hCF : CF (kS K)) (hl : (kL K).stackTraces = false) {f : Wo} {x y b o L k kc ks : Nat} {xs : Nat → Int32} {s7 : Int32} {w0 : Int64} (hI : LI (kG K) x y o k s7 w0 f) (hX : va_X b L xs (kS K) (kS K).heap) (hbl : b < (kS K).heap.size) (hbA : ¬ gA (kG K) b) (hk : 3 * k + 2 < L) (hL : L ≤ 1536) (kk : ∀ (f2 : Wo) (s7 : Int32) (w0 : Int64), LI (kG K) x y o (k + 1) s7 w0 f2 → V K f2 kc ks 1223 [(0, .ref b), (1, .ref x), (2, .ref y), (3, .ref o), (4, .int (nI (3 * k)))] []) : V K f (kc + 350) (ks + 9200) 39 [(0, .ref b), (1, .ref x), (2, .ref y), (3, .ref o), (4, .int (nI (3 * k)))] [.int (xs (3 * k) &&& 31)] := by
  obtain ⟨j, hj, e⟩ := e_op (xs (3 * k))
  rw [e]
  by_cases h21 : 21 < j
  · refine V_tableOut X (tgt := 1223) dL_law_39 (Or.inr ?_) (by decide) ?_
    · rw [nI_toInt (by omega)]
      omega
    · exact V.bud (by omega) (by omega) (kk f _ _ hI.up)
  have hlt : k < 512 := by omega
  have hc : j = 0 ∨ j = 1 ∨ j = 2 ∨ j = 3 ∨ j = 4 ∨ j = 5 ∨ j = 6 ∨ j = 7 ∨ j = 8 ∨ j = 9 ∨ j = 10 ∨ j = 11 ∨ j = 12 ∨ j = 13 ∨ j = 14 ∨ j = 15 ∨ j = 16 ∨ j = 17 ∨ j = 18 ∨ j = 19 ∨ j = 20 ∨ j = 21 := by omega
  rcases hc with rfl | rfl | rfl | rfl | rfl | rfl | rfl | rfl | rfl | rfl | rfl | rfl | rfl | rfl | rfl | rfl | rfl | rfl | rfl | rfl | rfl | rfl
  · exact V_tableIn X (tgt := 140) dL_law_39 (by decide) (by decide) rfl (by decide) (s_addPlayer X hCF hl hI hX hbl hbA hk hL kk)
  · exact V_tableIn X (tgt := 208) dL_law_39 (by decide) (by decide) rfl (by decide) (s_queue X hCF hl hI hX hbl hbA hk hL kk)
  · exact V_tableIn X (tgt := 264) dL_law_39 (by decide) (by decide) rfl (by decide) (s_leave X hCF hl hI hX hbl hbA hk hL kk)
  · exact V_tableIn X (tgt := 320) dL_law_39 (by decide) (by decide) rfl (by decide) (s_players X hCF hl hI hX hbl hbA hk hL kk)
  · exact V_tableIn X (tgt := 333) dL_law_39 (by decide) (by decide) rfl (by decide) (s_state X hCF hl hI hX hbl hbA hk hL kk)
  · exact V_tableIn X (tgt := 389) dL_law_39 (by decide) (by decide) rfl (by decide) (s_rating X hCF hl hI hX hbl hbA hk hL kk)
  · exact V_tableIn X (tgt := 445) dL_law_39 (by decide) (by decide) rfl (by decide) (s_uncertainty X hCF hl hI hX hbl hbA hk hL kk)
  · exact V_tableIn X (tgt := 501) dL_law_39 (by decide) (by decide) rfl (by decide) (s_level X hCF hl hI hX hbl hbA hk hL kk)
  · exact V_tableIn X (tgt := 557) dL_law_39 (by decide) (by decide) rfl (by decide) (s_barred X hCF hl hI hX hbl hbA hk hL kk)
  · exact V_tableIn X (tgt := 613) dL_law_39 (by decide) (by decide) rfl (by decide) (s_queued X hCF hl hI hX hbl hbA hk hL kk)
  · exact V_tableIn X (tgt := 626) dL_law_39 (by decide) (by decide) rfl (by decide) (s_window X hCF hl hI hX hbl hbA hk hL kk)
  · exact V_tableIn X (tgt := 682) dL_law_39 (by decide) (by decide) rfl (by decide) (s_fit X hCF hl hI hX hbl hbA hk hL kk)
  · exact V_tableIn X (tgt := 757) dL_law_39 (by decide) (by decide) rfl (by decide) (s_make X hCF hl hI hX hbl hbA hk hL hlt kk)
  · exact V_tableIn X (tgt := 770) dL_law_39 (by decide) (by decide) rfl (by decide) (s_accept X hCF hl hI hX hbl hbA hk hL kk)
  · exact V_tableIn X (tgt := 845) dL_law_39 (by decide) (by decide) rfl (by decide) (s_decline X hCF hl hI hX hbl hbA hk hL kk)
  · exact V_tableIn X (tgt := 913) dL_law_39 (by decide) (by decide) rfl (by decide) (s_finish X hCF hl hI hX hbl hbA hk hL kk)
  · exact V_tableIn X (tgt := 961) dL_law_39 (by decide) (by decide) rfl (by decide) (s_matches X hCF hl hI hX hbl hbA hk hL kk)
  · exact V_tableIn X (tgt := 974) dL_law_39 (by decide) (by decide) rfl (by decide) (s_matchState X hCF hl hI hX hbl hbA hk hL kk)
  · exact V_tableIn X (tgt := 1030) dL_law_39 (by decide) (by decide) rfl (by decide) (s_team X hCF hl hI hX hbl hbA hk hL kk)
  · exact V_tableIn X (tgt := 1098) dL_law_39 (by decide) (by decide) rfl (by decide) (s_unevenness X hCF hl hI hX hbl hbA hk hL kk)
  · exact V_tableIn X (tgt := 1154) dL_law_39 (by decide) (by decide) rfl (by decide) (s_pass X hCF hl hI hX hbl hbA hk hL kk)
  · exact V_tableIn X (tgt := 1210) dL_law_39 (by decide) (by decide) rfl (by decide) (s_clock X hCF hl hI hX hbl hbA hk hL kk)
set_option maxHeartbeats 1000000 in
set_option maxRecDepth 100000 in
theorem law_loop {K : VK} (X : CX K cL_law RL wsL_law 7 2048 84000) (hCF : CF (kS K)) (hl : (kL K).stackTraces = false) {x y b o L : Nat} {xs : Nat → Int32} (hX : va_X b L xs (kS K) (kS K).heap) (hbl : b < (kS K).heap.size) (hbA : ¬ gA (kG K) b) (hL : L ≤ 1536) (kk : ∀ (f : Wo) (kc ks : Nat) (lv : List (Nat × Value)), V K f kc ks 1229 lv []) : ∀ (r k : Nat) (f : Wo) (s7 : Int32) (w0 : Int64), k + r = 512 → LI (kG K) x y o k s7 w0 f → V K f (r * 350) (r * 9200) 23 [(0, .ref b), (1, .ref x), (2, .ref y), (3, .ref o), (4, .int (nI (3 * k)))] [] := by
  intro r
  induction r with
  | zero =>
    intro k f s7 w0 hr hI
    refine V_iload X rfl dL_law_23 ?_
    refine V_aload_n X rfl dL_law_25 ?_
    refine V_slen X hX hbl hbA dL_law_26 ?_
    refine V_iconst X (v := 3) (by decide) dL_law_27 ?_
    refine V_isub X dL_law_28 ?_
    exact V_icmp_gt X (tgt := 1229) (by decide) dL_law_29 (fun _ => kk f _ _ _) (fun h => absurd ((e_more hL (by omega)).resolve_right (by omega)) h)
  | succ r ih =>
    intro k f s7 w0 hr hI
    rw [Nat.succ_mul, Nat.succ_mul]
    refine V_iload X rfl dL_law_23 ?_
    refine V_aload_n X rfl dL_law_25 ?_
    refine V_slen X hX hbl hbA dL_law_26 ?_
    refine V_iconst X (v := 3) (by decide) dL_law_27 ?_
    refine V_isub X dL_law_28 ?_
    refine V_icmp_gt X (tgt := 1229) (by decide) dL_law_29 (fun _ => kk f _ _ _) (fun h => ?_)
    have hk : 3 * k + 2 < L := (e_more hL (by omega)).resolve_left h
    refine V_aload_n X rfl dL_law_32 ?_
    refine V_iload X rfl dL_law_33 ?_
    refine V_sald X hX hbl hbA (vp_in_nI (n := 3 * k) (N := L) (by omega) (by omega)) dL_law_35 ?_
    refine V.top (y := xs (3 * k)) (congrArg xs (nI_clamp (by omega))) ?_
    refine V_bipush X (v := 31) (by decide) dL_law_36 ?_
    refine V_iand X dL_law_38 ?_
    refine law_op X hCF hl hI hX hbl hbA hk hL (fun f2 s7 w0 hI2 => ?_)
    refine V_iinc X (lv' := [(4, .int (nI (3 * (k + 1)))), (0, _), (1, _), (2, _), (3, _)]) (v := nI (3 * (k + 1))) rfl (nI_add (3 * k) 3) (by decide) rfl dL_law_1223 ?_
    refine V_goto X (tgt := 23) (by decide) dL_law_1226 ?_
    refine V.lvs (lv' := [(0, _), (1, _), (2, _), (3, _), (4, _)]) rfl ?_
    exact ih (k + 1) f2 s7 w0 (by omega) hI2
def R_law : String := "LobbyMakerLaw"
def lw_P (b : Addr) (xs : List Int32) (args : Array Value) (s : State) : Prop := args = #[.ref b] ∧ s.IntsAt b xs ∧ xs.length ≤ 1536 ∧ (Jvm.Cond.and given_1 narrow_1).before args s = true
def lw_Q (_ : Array Value) (s : State) (o : Outcome) (t : State) : Prop := o = .returned (some (.int 1)) ∧ Framed s o t [] 601024 7293034
def lw_Z (below : List Frame) (a : Array Value) (s : State) : State → Prop := fun t => ∃ o, t.status = .running ∧ Ended t below o ∧ lw_Q a s o t
/-- the law's own end, with 1 on the stack, nothing written that was there before, its room as the claim has it -/
theorem lw_ret {p : Program} {l : Launch} {e : Env} {s : State} {m : MethodId} {below : List Frame} {meth : Method} {c : Code} {b : Nat} (hx : p.tables.exec = Jvm.exec) (hb : c.code = code) (hr : meth.sig.returnType = ret) (hlocks : meth.locks = false) {pc : Nat} {H : Heap} {ls : Array Slot} (hdg : decode code pc = .ok (.ireturn, 1)) : W p l e room_1 s m #[Value.ref b] below meth c H [] 601024 7293034 (lw_Z below #[Value.ref b] s) (F0 m pc ls [.int 1]) := by
  intro T hT X
  obtain ⟨fs, hret, hrun, hended, hW, hframe⟩ := X.leave (v := some (.int 1)) (hlocks := hlocks) (fun h => by rw [hr] at h; cases h)
  have hmeth' : T.vm.method? m = some meth := X.method'
  refine ⟨T.setFrames fs, ?_, .returned (some (.int 1)), hrun, hended, rfl, ⟨_, rfl⟩, hW, hframe⟩
  jvm_step X.here [X.here.top, hx, hb, hdg, hmeth', hr, ret, narrow_b1]
  (try refine ⟨rfl, ?_⟩); (try refine ⟨rfl, ?_⟩)
  first | (intro acts; rw [hret _ acts rfl rfl rfl]) | rw [hret _ _ rfl rfl rfl]
  exact Steps.refl _
/-- what holds at the law's entry: the machine, the code, the tables' words (any of lw_tbl by 'hts w (by decide +kernel)'), the script of L ints xs at the cell b, what the Statement gives of the start (any of its parts by flat_of_before) -/
def lw_At (p : Program) (s : State) (m : MethodId) (meth : Method) (c : Code) (b L : Nat) (xs : Nat → Int32) : Prop :=
  p.tables.exec = Jvm.exec ∧ c.code = code ∧ meth.sig.returnType = ret ∧ c.maxLocals = 7 ∧ s.vm.findClass R_law = some m.cls ∧ (∀ w ∈ lw_tbl, w.before #[Value.ref b] s = true) ∧ va_X b L xs s s.heap ∧ b < s.heap.size ∧ meth.locks = false ∧ (Jvm.Cond.and given_1 narrow_1).before #[Value.ref b] s = true
