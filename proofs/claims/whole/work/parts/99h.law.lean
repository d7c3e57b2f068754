/-! ===== the law: one operation of the script ===== -/
theorem hds_L_addPlayer : yL_addPlayer.cls ≠ "java/lang/invoke/MethodHandle" ∧ yL_addPlayer.cls ≠ "java/lang/invoke/VarHandle" ∧ (parseMethodDescriptor yL_addPlayer.desc).map (fun d => d.parameters.length) = some 4 := by decide +kernel
theorem hds_L_queue : yL_queue.cls ≠ "java/lang/invoke/MethodHandle" ∧ yL_queue.cls ≠ "java/lang/invoke/VarHandle" ∧ (parseMethodDescriptor yL_queue.desc).map (fun d => d.parameters.length) = some 3 := by decide +kernel
theorem hds_L_leave : yL_leave.cls ≠ "java/lang/invoke/MethodHandle" ∧ yL_leave.cls ≠ "java/lang/invoke/VarHandle" ∧ (parseMethodDescriptor yL_leave.desc).map (fun d => d.parameters.length) = some 3 := by decide +kernel
theorem hds_L_state : yL_state.cls ≠ "java/lang/invoke/MethodHandle" ∧ yL_state.cls ≠ "java/lang/invoke/VarHandle" ∧ (parseMethodDescriptor yL_state.desc).map (fun d => d.parameters.length) = some 3 := by decide +kernel
theorem hds_L_rating : yL_rating.cls ≠ "java/lang/invoke/MethodHandle" ∧ yL_rating.cls ≠ "java/lang/invoke/VarHandle" ∧ (parseMethodDescriptor yL_rating.desc).map (fun d => d.parameters.length) = some 3 := by decide +kernel
theorem hds_L_uncertainty : yL_uncertainty.cls ≠ "java/lang/invoke/MethodHandle" ∧ yL_uncertainty.cls ≠ "java/lang/invoke/VarHandle" ∧ (parseMethodDescriptor yL_uncertainty.desc).map (fun d => d.parameters.length) = some 3 := by decide +kernel
theorem hds_L_level : yL_level.cls ≠ "java/lang/invoke/MethodHandle" ∧ yL_level.cls ≠ "java/lang/invoke/VarHandle" ∧ (parseMethodDescriptor yL_level.desc).map (fun d => d.parameters.length) = some 3 := by decide +kernel
theorem hds_L_barred : yL_barred.cls ≠ "java/lang/invoke/MethodHandle" ∧ yL_barred.cls ≠ "java/lang/invoke/VarHandle" ∧ (parseMethodDescriptor yL_barred.desc).map (fun d => d.parameters.length) = some 3 := by decide +kernel
theorem hds_L_window : yL_window.cls ≠ "java/lang/invoke/MethodHandle" ∧ yL_window.cls ≠ "java/lang/invoke/VarHandle" ∧ (parseMethodDescriptor yL_window.desc).map (fun d => d.parameters.length) = some 3 := by decide +kernel
theorem hds_L_fit : yL_fit.cls ≠ "java/lang/invoke/MethodHandle" ∧ yL_fit.cls ≠ "java/lang/invoke/VarHandle" ∧ (parseMethodDescriptor yL_fit.desc).map (fun d => d.parameters.length) = some 4 := by decide +kernel
theorem hds_L_accept : yL_accept.cls ≠ "java/lang/invoke/MethodHandle" ∧ yL_accept.cls ≠ "java/lang/invoke/VarHandle" ∧ (parseMethodDescriptor yL_accept.desc).map (fun d => d.parameters.length) = some 4 := by decide +kernel
theorem hds_L_decline : yL_decline.cls ≠ "java/lang/invoke/MethodHandle" ∧ yL_decline.cls ≠ "java/lang/invoke/VarHandle" ∧ (parseMethodDescriptor yL_decline.desc).map (fun d => d.parameters.length) = some 4 := by decide +kernel
theorem hds_L_finish : yL_finish.cls ≠ "java/lang/invoke/MethodHandle" ∧ yL_finish.cls ≠ "java/lang/invoke/VarHandle" ∧ (parseMethodDescriptor yL_finish.desc).map (fun d => d.parameters.length) = some 3 := by decide +kernel
theorem hds_L_matchState : yL_matchState.cls ≠ "java/lang/invoke/MethodHandle" ∧ yL_matchState.cls ≠ "java/lang/invoke/VarHandle" ∧ (parseMethodDescriptor yL_matchState.desc).map (fun d => d.parameters.length) = some 3 := by decide +kernel
theorem hds_L_team : yL_team.cls ≠ "java/lang/invoke/MethodHandle" ∧ yL_team.cls ≠ "java/lang/invoke/VarHandle" ∧ (parseMethodDescriptor yL_team.desc).map (fun d => d.parameters.length) = some 4 := by decide +kernel
theorem hds_L_unevenness : yL_unevenness.cls ≠ "java/lang/invoke/MethodHandle" ∧ yL_unevenness.cls ≠ "java/lang/invoke/VarHandle" ∧ (parseMethodDescriptor yL_unevenness.desc).map (fun d => d.parameters.length) = some 3 := by decide +kernel
theorem hds_L_pass : yL_pass.cls ≠ "java/lang/invoke/MethodHandle" ∧ yL_pass.cls ≠ "java/lang/invoke/VarHandle" ∧ (parseMethodDescriptor yL_pass.desc).map (fun d => d.parameters.length) = some 3 := by decide +kernel
theorem LI.thr {G : GG} {x y o n : Nat} {s7 : Int32} {w : Int64} {f : Wo} (l : Launch) (h : LI G x y o n s7 w f) : Cp l yX6_thrown wsX6_thrown 1 44 G [.ref y] f (.int s7) ∧ (∃ fs, f y = some ((30, 0), oO 6 fs)) ∧ ∃ g, f o = some ((40, 0), oJ1 G g) ∧ g 0 = w := by
  obtain ⟨al, am, fi, z, sc, ar, c, g, -, e2, -, hM, -, -, hW, h7, h0⟩ := h
  subst e2; subst h7
  exact ⟨c_X6_thrown l G f am sc ar hM, ⟨_, hM.1⟩, g, hW, h0⟩
theorem lg_cmp_self (x : Int64) : lg_cmp x x = 0 := by
  unfold lg_cmp
  simp [Int64.lt_irrefl]
section VL2
variable {K : VK} {cc : ByteArray} {own : String} {Ts : List Cond} {nL fr lo : Nat} {f : Wo} {kc ks pc : Nat} {lv lv' : List (Nat × Value)} {st : List Value}
theorem V_sald (X : CX K cc own Ts nL fr lo) {b L : Nat} {xs : Nat → Int32} {i : Int32} (hX : va_X b L xs (kS K) (kS K).heap) (hbl : b < (kS K).heap.size) (hbA : ¬ gA (kG K) b) (hin : vp_in i L) (hdg : decode cc pc = .ok (.iaload, 1)) (kk : V K f kc ks (pc + 1) lv (.int (xs i.toNatClampNeg) :: st)) : V K f kc ks pc lv (.int i :: .ref b :: st) := fun H locs ls cells slots a1 a2 a3 a4 a5 => va_sld X.1 X.2.1 hX hbl hbA a2 hin hdg (kk H locs ls cells slots a1 a2 a3 a4 a5)
theorem V_slen (X : CX K cc own Ts nL fr lo) {b L : Nat} {xs : Nat → Int32} (hX : va_X b L xs (kS K) (kS K).heap) (hbl : b < (kS K).heap.size) (hbA : ¬ gA (kG K) b) (hdg : decode cc pc = .ok (.arraylength, 1)) (kk : V K f kc ks (pc + 1) lv (.int (nI L) :: st)) : V K f kc ks pc lv (.ref b :: st) := fun H locs ls cells slots a1 a2 a3 a4 a5 => va_slen X.1 X.2.1 hX hbl hbA a2 hdg (kk H locs ls cells slots a1 a2 a3 a4 a5)
theorem V_scr (X : CX K cc own Ts nL fr lo) {b L k j : Nat} {xs : Nat → Int32} {jj : Int} (hX : va_X b L xs (kS K) (kS K).heap) (hbl : b < (kS K).heap.size) (hbA : ¬ gA (kG K) b) (hj : 3 * k + j < L) (hL : L ≤ 1536) (hjj : Int32.ofInt jj = nI j) (h0 : lk lv 0 = some (.ref b)) (h4 : lk lv 4 = some (.int (nI (3 * k)))) (d0 : decode cc pc = .ok (.aload_n 0, 1)) (d1 : decode cc (pc + 1) = .ok (.iload 4, 2)) (d2 : decode cc (pc + 1 + 2) = .ok (.iconst jj, 1)) (d3 : decode cc (pc + 1 + 2 + 1) = .ok (.iadd, 1)) (d4 : decode cc (pc + 1 + 2 + 1 + 1) = .ok (.iaload, 1)) (kk : V K f kc ks (pc + 1 + 2 + 1 + 1 + 1) lv (.int (xs (3 * k + j)) :: st)) : V K f kc ks pc lv st := by
  refine V_aload_n X h0 d0 ?_
  refine V_iload X h4 d1 ?_
  refine V_iconst X hjj d2 ?_
  refine V_iadd X d3 ?_
  refine V.top (y := nI (3 * k + j)) (nI_add _ _) ?_
  refine V_sald X hX hbl hbA (vp_in_nI (n := 3 * k + j) (N := L) hj (by omega)) d4 ?_
  exact V.top (y := xs (3 * k + j)) (congrArg xs (nI_clamp (by omega))) kk
end VL2
set_option maxHeartbeats 1000000 in
set_option maxRecDepth 100000 in
theorem s_addPlayer {K : VK} (X : CX K cL_law RL wsL_law 7 2048 84000) (hCF : CF (kS K)) (hl : (kL K).stackTraces = false) {f : Wo} {x y b o L k kc ks : Nat} {xs : Nat → Int32} {s7 : Int32} {w0 : Int64} (hI : LI (kG K) x y o k s7 w0 f) (hX : va_X b L xs (kS K) (kS K).heap) (hbl : b < (kS K).heap.size) (hbA : ¬ gA (kG K) b) (hk : 3 * k + 2 < L) (hL : L ≤ 1536) (kk : ∀ (f2 : Wo) (s7 : Int32) (w0 : Int64), LI (kG K) x y o (k + 1) s7 w0 f2 → V K f2 kc ks 1223 [(0, .ref b), (1, .ref x), (2, .ref y), (3, .ref o), (4, .int (nI (3 * k)))] []) : V K f (kc + 350) (ks + 9200) 140 [(0, .ref b), (1, .ref x), (2, .ref y), (3, .ref o), (4, .int (nI (3 * k)))] [] := by
  obtain ⟨al, am, fi, z, sc, ar, c, g, rfl, rfl, hR, hM, hS, hn, hW, h7, h0⟩ := hI
  obtain ⟨k1, mc, ms, Q, hmc, hms, hA, hB⟩ := o_addPlayer (n := k + 1) (kL K) hl hR hM hS hW (by omega) (xs (3 * k + 1)) (xs (3 * k + 2))
  refine V_aload_n X rfl dL_law_140 ?_
  refine V_scr X (j := 1) hX hbl hbA (by omega) hL (by decide) rfl rfl dL_law_141 dL_law_142 dL_law_144 dL_law_145 dL_law_146 ?_
  refine V_scr X (j := 2) hX hbl hbA (by omega) hL (by decide) rfl rfl dL_law_147 dL_law_148 dL_law_150 dL_law_151 dL_law_152 ?_
  refine V_aload_n X rfl dL_law_153 ?_
  refine V_callSH (kc' := kc + 346) (ks' := ks + 9000) X (rest := []) hCF hA gL_law_L_addPlayer rfl hds_L_addPlayer (Nat.le_of_ble_eq_true rfl) (Nat.le_of_ble_eq_true rfl) rfl (Nat.le_of_ble_eq_true rfl) (by omega) (by omega) dL_law_154 (fun r9 f1 h9 => ?_)
  obtain ⟨rfl, hq⟩ := h9
  refine V_istore X (lv' := [(5, _), (0, _), (1, _), (2, _), (3, _), (4, _)]) (by decide) rfl dL_law_157 ?_
  obtain ⟨⟨fs1, hy1⟩, v, w1, hE, hC⟩ := hB f1 hq
  refine V_aload_n X rfl dL_law_159 ?_
  refine V_scr X (j := 1) hX hbl hbA (by omega) hL (by decide) rfl rfl dL_law_160 dL_law_161 dL_law_163 dL_law_164 dL_law_165 ?_
  refine V_scr X (j := 2) hX hbl hbA (by omega) hL (by decide) rfl rfl dL_law_166 dL_law_167 dL_law_169 dL_law_170 dL_law_171 ?_
  refine V_callV (kc' := kc + 346) (ks' := ks + 9000) X (rest := []) hC hy1 rfl gL_law_X6_addPlayer rfl hdv_X6_addPlayer (Nat.le_of_ble_eq_true rfl) (Nat.le_of_ble_eq_true rfl) rfl (Nat.le_of_ble_eq_true rfl) (by omega) (by omega) dL_law_172 (fun r9 f2 h9 => ?_)
  obtain ⟨rfl, hI2⟩ := h9
  obtain ⟨hth, ⟨fs2, hy2⟩, g2, ho2, hg2⟩ := hI2.thr (kL K)
  refine V_istore X (lv' := [(6, _), (5, _), (0, _), (1, _), (2, _), (3, _), (4, _)]) (by decide) rfl dL_law_175 ?_
  have J : V K f2 (kc + 346) (ks + 9000) 205 [(6, .int v), (5, .int k1), (0, .ref b), (1, .ref (al (15, 0))), (2, .ref (am 0)), (3, .ref o), (4, .int (nI (3 * k)))] [] := by
    refine V_goto X (tgt := 1223) (by decide) dL_law_205 ?_
    refine V.lvs (lv' := [(0, _), (1, _), (2, _), (3, _), (4, _)]) rfl ?_
    exact V.bud (by omega) (by omega) (kk f2 _ _ hI2)
  refine V_aload_n X rfl dL_law_177 ?_
  refine V_callVp X (rest := []) hth hy2 rfl gL_law_X6_thrown rfl hdv_X6_thrown (Nat.le_of_ble_eq_true rfl) (Nat.le_of_ble_eq_true rfl) rfl (Nat.le_of_ble_eq_true rfl) dL_law_178 ?_
  refine V_iload X rfl dL_law_181 ?_
  refine V_icmp_eq X (tgt := 188) (by decide) dL_law_183 (fun _ => ?_) (fun h9 => absurd rfl h9)
  refine V_iload X rfl dL_law_188 ?_
  refine V_if_ne X (tgt := 205) (by decide) dL_law_190 (fun _ => J) (fun h9 => ?_)
  refine V_aload_n X rfl dL_law_193 ?_
  refine V_iconst X (v := 0) (by decide) dL_law_194 ?_
  refine V_lald X ho2 (vp_in_nI (n := 0) (N := 1) (by decide) (by decide)) dL_law_195 ?_
  refine V.stk (st' := [.long v.toInt64]) (by rw [show g2 (0 : Int32).toNatClampNeg = w1 from hg2, show w1 = v.toInt64 from hE h9]) ?_
  refine V_iload X rfl dL_law_196 ?_
  refine V_i2l X dL_law_198 ?_
  refine V_lcmp X dL_law_199 ?_
  refine V.top (y := 0) (lg_cmp_self _) ?_
  exact V_if_eq X (tgt := 205) (by decide) dL_law_200 (fun _ => J) (fun h9 => absurd rfl h9)
set_option maxHeartbeats 1000000 in
set_option maxRecDepth 100000 in
theorem s_queue {K : VK} (X : CX K cL_law RL wsL_law 7 2048 84000) (hCF : CF (kS K)) (hl : (kL K).stackTraces = false) {f : Wo} {x y b o L k kc ks : Nat} {xs : Nat → Int32} {s7 : Int32} {w0 : Int64} (hI : LI (kG K) x y o k s7 w0 f) (hX : va_X b L xs (kS K) (kS K).heap) (hbl : b < (kS K).heap.size) (hbA : ¬ gA (kG K) b) (hk : 3 * k + 2 < L) (hL : L ≤ 1536) (kk : ∀ (f2 : Wo) (s7 : Int32) (w0 : Int64), LI (kG K) x y o (k + 1) s7 w0 f2 → V K f2 kc ks 1223 [(0, .ref b), (1, .ref x), (2, .ref y), (3, .ref o), (4, .int (nI (3 * k)))] []) : V K f (kc + 350) (ks + 9200) 208 [(0, .ref b), (1, .ref x), (2, .ref y), (3, .ref o), (4, .int (nI (3 * k)))] [] := by
  obtain ⟨al, am, fi, z, sc, ar, c, g, rfl, rfl, hR, hM, hS, hn, hW, h7, h0⟩ := hI
  obtain ⟨k1, mc, ms, Q, hmc, hms, hA, hB⟩ := o_queue (n := k + 1) (kL K) hl hR hM hS hW (by omega) (xs (3 * k + 1))
  refine V_aload_n X rfl dL_law_208 ?_
  refine V_scr X (j := 1) hX hbl hbA (by omega) hL (by decide) rfl rfl dL_law_209 dL_law_210 dL_law_212 dL_law_213 dL_law_214 ?_
  refine V_aload_n X rfl dL_law_215 ?_
  refine V_callSH (kc' := kc + 346) (ks' := ks + 9000) X (rest := []) hCF hA gL_law_L_queue rfl hds_L_queue (Nat.le_of_ble_eq_true rfl) (Nat.le_of_ble_eq_true rfl) rfl (Nat.le_of_ble_eq_true rfl) (by omega) (by omega) dL_law_216 (fun r9 f1 h9 => ?_)
  obtain ⟨rfl, hq⟩ := h9
  refine V_istore X (lv' := [(5, _), (0, _), (1, _), (2, _), (3, _), (4, _)]) (by decide) rfl dL_law_219 ?_
  obtain ⟨⟨fs1, hy1⟩, v, w1, hE, hC⟩ := hB f1 hq
  refine V_aload_n X rfl dL_law_221 ?_
  refine V_scr X (j := 1) hX hbl hbA (by omega) hL (by decide) rfl rfl dL_law_222 dL_law_223 dL_law_225 dL_law_226 dL_law_227 ?_
  refine V_callV (kc' := kc + 346) (ks' := ks + 9000) X (rest := []) hC hy1 rfl gL_law_X6_queue rfl hdv_X6_queue (Nat.le_of_ble_eq_true rfl) (Nat.le_of_ble_eq_true rfl) rfl (Nat.le_of_ble_eq_true rfl) (by omega) (by omega) dL_law_228 (fun r9 f2 h9 => ?_)
  obtain ⟨rfl, hI2⟩ := h9
  obtain ⟨hth, ⟨fs2, hy2⟩, g2, ho2, hg2⟩ := hI2.thr (kL K)
  refine V_istore X (lv' := [(6, _), (5, _), (0, _), (1, _), (2, _), (3, _), (4, _)]) (by decide) rfl dL_law_231 ?_
  have J : V K f2 (kc + 346) (ks + 9000) 261 [(6, .int v), (5, .int k1), (0, .ref b), (1, .ref (al (15, 0))), (2, .ref (am 0)), (3, .ref o), (4, .int (nI (3 * k)))] [] := by
    refine V_goto X (tgt := 1223) (by decide) dL_law_261 ?_
    refine V.lvs (lv' := [(0, _), (1, _), (2, _), (3, _), (4, _)]) rfl ?_
    exact V.bud (by omega) (by omega) (kk f2 _ _ hI2)
  refine V_aload_n X rfl dL_law_233 ?_
  refine V_callVp X (rest := []) hth hy2 rfl gL_law_X6_thrown rfl hdv_X6_thrown (Nat.le_of_ble_eq_true rfl) (Nat.le_of_ble_eq_true rfl) rfl (Nat.le_of_ble_eq_true rfl) dL_law_234 ?_
  refine V_iload X rfl dL_law_237 ?_
  refine V_icmp_eq X (tgt := 244) (by decide) dL_law_239 (fun _ => ?_) (fun h9 => absurd rfl h9)
  refine V_iload X rfl dL_law_244 ?_
  refine V_if_ne X (tgt := 261) (by decide) dL_law_246 (fun _ => J) (fun h9 => ?_)
  refine V_aload_n X rfl dL_law_249 ?_
  refine V_iconst X (v := 0) (by decide) dL_law_250 ?_
  refine V_lald X ho2 (vp_in_nI (n := 0) (N := 1) (by decide) (by decide)) dL_law_251 ?_
  refine V.stk (st' := [.long v.toInt64]) (by rw [show g2 (0 : Int32).toNatClampNeg = w1 from hg2, show w1 = v.toInt64 from hE h9]) ?_
  refine V_iload X rfl dL_law_252 ?_
  refine V_i2l X dL_law_254 ?_
  refine V_lcmp X dL_law_255 ?_
  refine V.top (y := 0) (lg_cmp_self _) ?_
  exact V_if_eq X (tgt := 261) (by decide) dL_law_256 (fun _ => J) (fun h9 => absurd rfl h9)
set_option maxHeartbeats 1000000 in
set_option maxRecDepth 100000 in
theorem s_leave {K : VK} (X : CX K cL_law RL wsL_law 7 2048 84000) (hCF : CF (kS K)) (hl : (kL K).stackTraces = false) {f : Wo} {x y b o L k kc ks : Nat} {xs : Nat → Int32} {s7 : Int32} {w0 : Int64} (hI : LI (kG K) x y o k s7 w0 f) (hX : va_X b L xs (kS K) (kS K).heap) (hbl : b < (kS K).heap.size) (hbA : ¬ gA (kG K) b) (hk : 3 * k + 2 < L) (hL : L ≤ 1536) (kk : ∀ (f2 : Wo) (s7 : Int32) (w0 : Int64), LI (kG K) x y o (k + 1) s7 w0 f2 → V K f2 kc ks 1223 [(0, .ref b), (1, .ref x), (2, .ref y), (3, .ref o), (4, .int (nI (3 * k)))] []) : V K f (kc + 350) (ks + 9200) 264 [(0, .ref b), (1, .ref x), (2, .ref y), (3, .ref o), (4, .int (nI (3 * k)))] [] := by
  obtain ⟨al, am, fi, z, sc, ar, c, g, rfl, rfl, hR, hM, hS, hn, hW, h7, h0⟩ := hI
  obtain ⟨k1, mc, ms, Q, hmc, hms, hA, hB⟩ := o_leave (n := k + 1) (kL K) hl hR hM hS hW (by omega) (xs (3 * k + 1))
  refine V_aload_n X rfl dL_law_264 ?_
  refine V_scr X (j := 1) hX hbl hbA (by omega) hL (by decide) rfl rfl dL_law_265 dL_law_266 dL_law_268 dL_law_269 dL_law_270 ?_
  refine V_aload_n X rfl dL_law_271 ?_
  refine V_callSH (kc' := kc + 346) (ks' := ks + 9000) X (rest := []) hCF hA gL_law_L_leave rfl hds_L_leave (Nat.le_of_ble_eq_true rfl) (Nat.le_of_ble_eq_true rfl) rfl (Nat.le_of_ble_eq_true rfl) (by omega) (by omega) dL_law_272 (fun r9 f1 h9 => ?_)
  obtain ⟨rfl, hq⟩ := h9
  refine V_istore X (lv' := [(5, _), (0, _), (1, _), (2, _), (3, _), (4, _)]) (by decide) rfl dL_law_275 ?_
  obtain ⟨⟨fs1, hy1⟩, v, w1, hE, hC⟩ := hB f1 hq
  refine V_aload_n X rfl dL_law_277 ?_
  refine V_scr X (j := 1) hX hbl hbA (by omega) hL (by decide) rfl rfl dL_law_278 dL_law_279 dL_law_281 dL_law_282 dL_law_283 ?_
  refine V_callV (kc' := kc + 346) (ks' := ks + 9000) X (rest := []) hC hy1 rfl gL_law_X6_leave rfl hdv_X6_leave (Nat.le_of_ble_eq_true rfl) (Nat.le_of_ble_eq_true rfl) rfl (Nat.le_of_ble_eq_true rfl) (by omega) (by omega) dL_law_284 (fun r9 f2 h9 => ?_)
  obtain ⟨rfl, hI2⟩ := h9
  obtain ⟨hth, ⟨fs2, hy2⟩, g2, ho2, hg2⟩ := hI2.thr (kL K)
  refine V_istore X (lv' := [(6, _), (5, _), (0, _), (1, _), (2, _), (3, _), (4, _)]) (by decide) rfl dL_law_287 ?_
  have J : V K f2 (kc + 346) (ks + 9000) 317 [(6, .int v), (5, .int k1), (0, .ref b), (1, .ref (al (15, 0))), (2, .ref (am 0)), (3, .ref o), (4, .int (nI (3 * k)))] [] := by
    refine V_goto X (tgt := 1223) (by decide) dL_law_317 ?_
    refine V.lvs (lv' := [(0, _), (1, _), (2, _), (3, _), (4, _)]) rfl ?_
    exact V.bud (by omega) (by omega) (kk f2 _ _ hI2)
  refine V_aload_n X rfl dL_law_289 ?_
  refine V_callVp X (rest := []) hth hy2 rfl gL_law_X6_thrown rfl hdv_X6_thrown (Nat.le_of_ble_eq_true rfl) (Nat.le_of_ble_eq_true rfl) rfl (Nat.le_of_ble_eq_true rfl) dL_law_290 ?_
  refine V_iload X rfl dL_law_293 ?_
  refine V_icmp_eq X (tgt := 300) (by decide) dL_law_295 (fun _ => ?_) (fun h9 => absurd rfl h9)
  refine V_iload X rfl dL_law_300 ?_
  refine V_if_ne X (tgt := 317) (by decide) dL_law_302 (fun _ => J) (fun h9 => ?_)
  refine V_aload_n X rfl dL_law_305 ?_
  refine V_iconst X (v := 0) (by decide) dL_law_306 ?_
  refine V_lald X ho2 (vp_in_nI (n := 0) (N := 1) (by decide) (by decide)) dL_law_307 ?_
  refine V.stk (st' := [.long v.toInt64]) (by rw [show g2 (0 : Int32).toNatClampNeg = w1 from hg2, show w1 = v.toInt64 from hE h9]) ?_
  refine V_iload X rfl dL_law_308 ?_
  refine V_i2l X dL_law_310 ?_
  refine V_lcmp X dL_law_311 ?_
  refine V.top (y := 0) (lg_cmp_self _) ?_
  exact V_if_eq X (tgt := 317) (by decide) dL_law_312 (fun _ => J) (fun h9 => absurd rfl h9)
set_option maxHeartbeats 1000000 in
set_option maxRecDepth 100000 in
theorem s_players {K : VK} (X : CX K cL_law RL wsL_law 7 2048 84000) (hCF : CF (kS K)) (hl : (kL K).stackTraces = false) {f : Wo} {x y b o L k kc ks : Nat} {xs : Nat → Int32} {s7 : Int32} {w0 : Int64} (hI : LI (kG K) x y o k s7 w0 f) (hX : va_X b L xs (kS K) (kS K).heap) (hbl : b < (kS K).heap.size) (hbA : ¬ gA (kG K) b) (hk : 3 * k + 2 < L) (hL : L ≤ 1536) (kk : ∀ (f2 : Wo) (s7 : Int32) (w0 : Int64), LI (kG K) x y o (k + 1) s7 w0 f2 → V K f2 kc ks 1223 [(0, .ref b), (1, .ref x), (2, .ref y), (3, .ref o), (4, .int (nI (3 * k)))] []) : V K f (kc + 350) (ks + 9200) 320 [(0, .ref b), (1, .ref x), (2, .ref y), (3, .ref o), (4, .int (nI (3 * k)))] [] := by
  obtain ⟨al, am, fi, z, sc, ar, c, g, rfl, rfl, hR, hM, hS, hn, hW, h7, h0⟩ := hI
  obtain ⟨v, mc, ms, Q, hmc, hms, hA, hB⟩ := o_players (kL K) hR hM hS hW hn
  refine V_aload_n X rfl dL_law_320 ?_
  refine V_callV (kc' := kc + 3) (ks' := ks + 40) X (rest := []) hA (hR.2.1 (15, 0) dm15) rfl gL_law_X5_players rfl hdv_X5_players (Nat.le_of_ble_eq_true rfl) (Nat.le_of_ble_eq_true rfl) rfl (Nat.le_of_ble_eq_true rfl) (by omega) (by omega) dL_law_321 (fun r9 f1 h9 => ?_)
  obtain ⟨rfl, hq⟩ := h9
  obtain ⟨⟨fs1, hy1⟩, k1, w1, hC⟩ := hB f1 hq
  refine V_aload_n X rfl dL_law_324 ?_
  refine V_callV (kc' := kc) (ks' := ks) X (rest := [.int v]) hC hy1 rfl gL_law_X6_players rfl hdv_X6_players (Nat.le_of_ble_eq_true rfl) (Nat.le_of_ble_eq_true rfl) rfl (Nat.le_of_ble_eq_true rfl) (by omega) (by omega) dL_law_325 (fun r9 f2 h9 => ?_)
  obtain ⟨rfl, hI2⟩ := h9
  exact V_icmp_eq X (tgt := 1223) (by decide) dL_law_328 (fun _ => kk f2 _ _ hI2) (fun h9 => absurd rfl h9)
set_option maxHeartbeats 1000000 in
set_option maxRecDepth 100000 in
theorem s_state {K : VK} (X : CX K cL_law RL wsL_law 7 2048 84000) (hCF : CF (kS K)) (hl : (kL K).stackTraces = false) {f : Wo} {x y b o L k kc ks : Nat} {xs : Nat → Int32} {s7 : Int32} {w0 : Int64} (hI : LI (kG K) x y o k s7 w0 f) (hX : va_X b L xs (kS K) (kS K).heap) (hbl : b < (kS K).heap.size) (hbA : ¬ gA (kG K) b) (hk : 3 * k + 2 < L) (hL : L ≤ 1536) (kk : ∀ (f2 : Wo) (s7 : Int32) (w0 : Int64), LI (kG K) x y o (k + 1) s7 w0 f2 → V K f2 kc ks 1223 [(0, .ref b), (1, .ref x), (2, .ref y), (3, .ref o), (4, .int (nI (3 * k)))] []) : V K f (kc + 350) (ks + 9200) 333 [(0, .ref b), (1, .ref x), (2, .ref y), (3, .ref o), (4, .int (nI (3 * k)))] [] := by
  obtain ⟨al, am, fi, z, sc, ar, c, g, rfl, rfl, hR, hM, hS, hn, hW, h7, h0⟩ := hI
  obtain ⟨k1, mc, ms, Q, hmc, hms, hA, hB⟩ := o_state (n := k + 1) (kL K) hl hR hM hS hW (by omega) (xs (3 * k + 1))
  refine V_aload_n X rfl dL_law_333 ?_
  refine V_scr X (j := 1) hX hbl hbA (by omega) hL (by decide) rfl rfl dL_law_334 dL_law_335 dL_law_337 dL_law_338 dL_law_339 ?_
  refine V_aload_n X rfl dL_law_340 ?_
  refine V_callSH (kc' := kc + 346) (ks' := ks + 9000) X (rest := []) hCF hA gL_law_L_state rfl hds_L_state (Nat.le_of_ble_eq_true rfl) (Nat.le_of_ble_eq_true rfl) rfl (Nat.le_of_ble_eq_true rfl) (by omega) (by omega) dL_law_341 (fun r9 f1 h9 => ?_)
  obtain ⟨rfl, hq⟩ := h9
  refine V_istore X (lv' := [(5, _), (0, _), (1, _), (2, _), (3, _), (4, _)]) (by decide) rfl dL_law_344 ?_
  obtain ⟨⟨fs1, hy1⟩, v, w1, hE, hC⟩ := hB f1 hq
  refine V_aload_n X rfl dL_law_346 ?_
  refine V_scr X (j := 1) hX hbl hbA (by omega) hL (by decide) rfl rfl dL_law_347 dL_law_348 dL_law_350 dL_law_351 dL_law_352 ?_
  refine V_callV (kc' := kc + 346) (ks' := ks + 9000) X (rest := []) hC hy1 rfl gL_law_X6_state rfl hdv_X6_state (Nat.le_of_ble_eq_true rfl) (Nat.le_of_ble_eq_true rfl) rfl (Nat.le_of_ble_eq_true rfl) (by omega) (by omega) dL_law_353 (fun r9 f2 h9 => ?_)
  obtain ⟨rfl, hI2⟩ := h9
  obtain ⟨hth, ⟨fs2, hy2⟩, g2, ho2, hg2⟩ := hI2.thr (kL K)
  refine V_istore X (lv' := [(6, _), (5, _), (0, _), (1, _), (2, _), (3, _), (4, _)]) (by decide) rfl dL_law_356 ?_
  have J : V K f2 (kc + 346) (ks + 9000) 386 [(6, .int v), (5, .int k1), (0, .ref b), (1, .ref (al (15, 0))), (2, .ref (am 0)), (3, .ref o), (4, .int (nI (3 * k)))] [] := by
    refine V_goto X (tgt := 1223) (by decide) dL_law_386 ?_
    refine V.lvs (lv' := [(0, _), (1, _), (2, _), (3, _), (4, _)]) rfl ?_
    exact V.bud (by omega) (by omega) (kk f2 _ _ hI2)
  refine V_aload_n X rfl dL_law_358 ?_
  refine V_callVp X (rest := []) hth hy2 rfl gL_law_X6_thrown rfl hdv_X6_thrown (Nat.le_of_ble_eq_true rfl) (Nat.le_of_ble_eq_true rfl) rfl (Nat.le_of_ble_eq_true rfl) dL_law_359 ?_
  refine V_iload X rfl dL_law_362 ?_
  refine V_icmp_eq X (tgt := 369) (by decide) dL_law_364 (fun _ => ?_) (fun h9 => absurd rfl h9)
  refine V_iload X rfl dL_law_369 ?_
  refine V_if_ne X (tgt := 386) (by decide) dL_law_371 (fun _ => J) (fun h9 => ?_)
  refine V_aload_n X rfl dL_law_374 ?_
  refine V_iconst X (v := 0) (by decide) dL_law_375 ?_
  refine V_lald X ho2 (vp_in_nI (n := 0) (N := 1) (by decide) (by decide)) dL_law_376 ?_
  refine V.stk (st' := [.long v.toInt64]) (by rw [show g2 (0 : Int32).toNatClampNeg = w1 from hg2, show w1 = v.toInt64 from hE h9]) ?_
  refine V_iload X rfl dL_law_377 ?_
  refine V_i2l X dL_law_379 ?_
  refine V_lcmp X dL_law_380 ?_
  refine V.top (y := 0) (lg_cmp_self _) ?_
  exact V_if_eq X (tgt := 386) (by decide) dL_law_381 (fun _ => J) (fun h9 => absurd rfl h9)
set_option maxHeartbeats 1000000 in
set_option maxRecDepth 100000 in
theorem s_rating {K : VK} (X : CX K cL_law RL wsL_law 7 2048 84000) (hCF : CF (kS K)) (hl : (kL K).stackTraces = false) {f : Wo} {x y b o L k kc ks : Nat} {xs : Nat → Int32} {s7 : Int32} {w0 : Int64} (hI : LI (kG K) x y o k s7 w0 f) (hX : va_X b L xs (kS K) (kS K).heap) (hbl : b < (kS K).heap.size) (hbA : ¬ gA (kG K) b) (hk : 3 * k + 2 < L) (hL : L ≤ 1536) (kk : ∀ (f2 : Wo) (s7 : Int32) (w0 : Int64), LI (kG K) x y o (k + 1) s7 w0 f2 → V K f2 kc ks 1223 [(0, .ref b), (1, .ref x), (2, .ref y), (3, .ref o), (4, .int (nI (3 * k)))] []) : V K f (kc + 350) (ks + 9200) 389 [(0, .ref b), (1, .ref x), (2, .ref y), (3, .ref o), (4, .int (nI (3 * k)))] [] := by
  obtain ⟨al, am, fi, z, sc, ar, c, g, rfl, rfl, hR, hM, hS, hn, hW, h7, h0⟩ := hI
  obtain ⟨k1, mc, ms, Q, hmc, hms, hA, hB⟩ := o_rating (n := k + 1) (kL K) hl hR hM hS hW (by omega) (xs (3 * k + 1))
  refine V_aload_n X rfl dL_law_389 ?_
  refine V_scr X (j := 1) hX hbl hbA (by omega) hL (by decide) rfl rfl dL_law_390 dL_law_391 dL_law_393 dL_law_394 dL_law_395 ?_
  refine V_aload_n X rfl dL_law_396 ?_
  refine V_callSH (kc' := kc + 346) (ks' := ks + 9000) X (rest := []) hCF hA gL_law_L_rating rfl hds_L_rating (Nat.le_of_ble_eq_true rfl) (Nat.le_of_ble_eq_true rfl) rfl (Nat.le_of_ble_eq_true rfl) (by omega) (by omega) dL_law_397 (fun r9 f1 h9 => ?_)
  obtain ⟨rfl, hq⟩ := h9
  refine V_istore X (lv' := [(5, _), (0, _), (1, _), (2, _), (3, _), (4, _)]) (by decide) rfl dL_law_400 ?_
  obtain ⟨⟨fs1, hy1⟩, v, w1, hE, hC⟩ := hB f1 hq
  refine V_aload_n X rfl dL_law_402 ?_
  refine V_scr X (j := 1) hX hbl hbA (by omega) hL (by decide) rfl rfl dL_law_403 dL_law_404 dL_law_406 dL_law_407 dL_law_408 ?_
  refine V_callV (kc' := kc + 346) (ks' := ks + 9000) X (rest := []) hC hy1 rfl gL_law_X6_rating rfl hdv_X6_rating (Nat.le_of_ble_eq_true rfl) (Nat.le_of_ble_eq_true rfl) rfl (Nat.le_of_ble_eq_true rfl) (by omega) (by omega) dL_law_409 (fun r9 f2 h9 => ?_)
  obtain ⟨rfl, hI2⟩ := h9
  obtain ⟨hth, ⟨fs2, hy2⟩, g2, ho2, hg2⟩ := hI2.thr (kL K)
  refine V_istore X (lv' := [(6, _), (5, _), (0, _), (1, _), (2, _), (3, _), (4, _)]) (by decide) rfl dL_law_412 ?_
  have J : V K f2 (kc + 346) (ks + 9000) 442 [(6, .int v), (5, .int k1), (0, .ref b), (1, .ref (al (15, 0))), (2, .ref (am 0)), (3, .ref o), (4, .int (nI (3 * k)))] [] := by
    refine V_goto X (tgt := 1223) (by decide) dL_law_442 ?_
    refine V.lvs (lv' := [(0, _), (1, _), (2, _), (3, _), (4, _)]) rfl ?_
    exact V.bud (by omega) (by omega) (kk f2 _ _ hI2)
  refine V_aload_n X rfl dL_law_414 ?_
  refine V_callVp X (rest := []) hth hy2 rfl gL_law_X6_thrown rfl hdv_X6_thrown (Nat.le_of_ble_eq_true rfl) (Nat.le_of_ble_eq_true rfl) rfl (Nat.le_of_ble_eq_true rfl) dL_law_415 ?_
  refine V_iload X rfl dL_law_418 ?_
  refine V_icmp_eq X (tgt := 425) (by decide) dL_law_420 (fun _ => ?_) (fun h9 => absurd rfl h9)
  refine V_iload X rfl dL_law_425 ?_
  refine V_if_ne X (tgt := 442) (by decide) dL_law_427 (fun _ => J) (fun h9 => ?_)
  refine V_aload_n X rfl dL_law_430 ?_
  refine V_iconst X (v := 0) (by decide) dL_law_431 ?_
  refine V_lald X ho2 (vp_in_nI (n := 0) (N := 1) (by decide) (by decide)) dL_law_432 ?_
  refine V.stk (st' := [.long v.toInt64]) (by rw [show g2 (0 : Int32).toNatClampNeg = w1 from hg2, show w1 = v.toInt64 from hE h9]) ?_
  refine V_iload X rfl dL_law_433 ?_
  refine V_i2l X dL_law_435 ?_
  refine V_lcmp X dL_law_436 ?_
  refine V.top (y := 0) (lg_cmp_self _) ?_
  exact V_if_eq X (tgt := 442) (by decide) dL_law_437 (fun _ => J) (fun h9 => absurd rfl h9)
set_option maxHeartbeats 1000000 in
set_option maxRecDepth 100000 in
theorem s_uncertainty {K : VK} (X : CX K cL_law RL wsL_law 7 2048 84000) (hCF : CF (kS K)) (hl : (kL K).stackTraces = false) {f : Wo} {x y b o L k kc ks : Nat} {xs : Nat → Int32} {s7 : Int32} {w0 : Int64} (hI : LI (kG K) x y o k s7 w0 f) (hX : va_X b L xs (kS K) (kS K).heap) (hbl : b < (kS K).heap.size) (hbA : ¬ gA (kG K) b) (hk : 3 * k + 2 < L) (hL : L ≤ 1536) (kk : ∀ (f2 : Wo) (s7 : Int32) (w0 : Int64), LI (kG K) x y o (k + 1) s7 w0 f2 → V K f2 kc ks 1223 [(0, .ref b), (1, .ref x), (2, .ref y), (3, .ref o), (4, .int (nI (3 * k)))] []) : V K f (kc + 350) (ks + 9200) 445 [(0, .ref b), (1, .ref x), (2, .ref y), (3, .ref o), (4, .int (nI (3 * k)))] [] := by
  obtain ⟨al, am, fi, z, sc, ar, c, g, rfl, rfl, hR, hM, hS, hn, hW, h7, h0⟩ := hI
  obtain ⟨k1, mc, ms, Q, hmc, hms, hA, hB⟩ := o_uncertainty (n := k + 1) (kL K) hl hR hM hS hW (by omega) (xs (3 * k + 1))
  refine V_aload_n X rfl dL_law_445 ?_
  refine V_scr X (j := 1) hX hbl hbA (by omega) hL (by decide) rfl rfl dL_law_446 dL_law_447 dL_law_449 dL_law_450 dL_law_451 ?_
  refine V_aload_n X rfl dL_law_452 ?_
  refine V_callSH (kc' := kc + 346) (ks' := ks + 9000) X (rest := []) hCF hA gL_law_L_uncertainty rfl hds_L_uncertainty (Nat.le_of_ble_eq_true rfl) (Nat.le_of_ble_eq_true rfl) rfl (Nat.le_of_ble_eq_true rfl) (by omega) (by omega) dL_law_453 (fun r9 f1 h9 => ?_)
  obtain ⟨rfl, hq⟩ := h9
  refine V_istore X (lv' := [(5, _), (0, _), (1, _), (2, _), (3, _), (4, _)]) (by decide) rfl dL_law_456 ?_
  obtain ⟨⟨fs1, hy1⟩, v, w1, hE, hC⟩ := hB f1 hq
  refine V_aload_n X rfl dL_law_458 ?_
  refine V_scr X (j := 1) hX hbl hbA (by omega) hL (by decide) rfl rfl dL_law_459 dL_law_460 dL_law_462 dL_law_463 dL_law_464 ?_
  refine V_callV (kc' := kc + 346) (ks' := ks + 9000) X (rest := []) hC hy1 rfl gL_law_X6_uncertainty rfl hdv_X6_uncertainty (Nat.le_of_ble_eq_true rfl) (Nat.le_of_ble_eq_true rfl) rfl (Nat.le_of_ble_eq_true rfl) (by omega) (by omega) dL_law_465 (fun r9 f2 h9 => ?_)
  obtain ⟨rfl, hI2⟩ := h9
  obtain ⟨hth, ⟨fs2, hy2⟩, g2, ho2, hg2⟩ := hI2.thr (kL K)
  refine V_istore X (lv' := [(6, _), (5, _), (0, _), (1, _), (2, _), (3, _), (4, _)]) (by decide) rfl dL_law_468 ?_
  have J : V K f2 (kc + 346) (ks + 9000) 498 [(6, .int v), (5, .int k1), (0, .ref b), (1, .ref (al (15, 0))), (2, .ref (am 0)), (3, .ref o), (4, .int (nI (3 * k)))] [] := by
    refine V_goto X (tgt := 1223) (by decide) dL_law_498 ?_
    refine V.lvs (lv' := [(0, _), (1, _), (2, _), (3, _), (4, _)]) rfl ?_
    exact V.bud (by omega) (by omega) (kk f2 _ _ hI2)
  refine V_aload_n X rfl dL_law_470 ?_
  refine V_callVp X (rest := []) hth hy2 rfl gL_law_X6_thrown rfl hdv_X6_thrown (Nat.le_of_ble_eq_true rfl) (Nat.le_of_ble_eq_true rfl) rfl (Nat.le_of_ble_eq_true rfl) dL_law_471 ?_
  refine V_iload X rfl dL_law_474 ?_
  refine V_icmp_eq X (tgt := 481) (by decide) dL_law_476 (fun _ => ?_) (fun h9 => absurd rfl h9)
  refine V_iload X rfl dL_law_481 ?_
  refine V_if_ne X (tgt := 498) (by decide) dL_law_483 (fun _ => J) (fun h9 => ?_)
  refine V_aload_n X rfl dL_law_486 ?_
  refine V_iconst X (v := 0) (by decide) dL_law_487 ?_
  refine V_lald X ho2 (vp_in_nI (n := 0) (N := 1) (by decide) (by decide)) dL_law_488 ?_
  refine V.stk (st' := [.long v.toInt64]) (by rw [show g2 (0 : Int32).toNatClampNeg = w1 from hg2, show w1 = v.toInt64 from hE h9]) ?_
  refine V_iload X rfl dL_law_489 ?_
  refine V_i2l X dL_law_491 ?_
  refine V_lcmp X dL_law_492 ?_
  refine V.top (y := 0) (lg_cmp_self _) ?_
  exact V_if_eq X (tgt := 498) (by decide) dL_law_493 (fun _ => J) (fun h9 => absurd rfl h9)
set_option maxHeartbeats 1000000 in
set_option maxRecDepth 100000 in
theorem s_level {K : VK} (X : CX K cL_law RL wsL_law 7 2048 84000) (hCF : CF (kS K)) (hl : (kL K).stackTraces = false) {f : Wo} {x y b o L k kc ks : Nat} {xs : Nat → Int32} {s7 : Int32} {w0 : Int64} (hI : LI (kG K) x y o k s7 w0 f) (hX : va_X b L xs (kS K) (kS K).heap) (hbl : b < (kS K).heap.size) (hbA : ¬ gA (kG K) b) (hk : 3 * k + 2 < L) (hL : L ≤ 1536) (kk : ∀ (f2 : Wo) (s7 : Int32) (w0 : Int64), LI (kG K) x y o (k + 1) s7 w0 f2 → V K f2 kc ks 1223 [(0, .ref b), (1, .ref x), (2, .ref y), (3, .ref o), (4, .int (nI (3 * k)))] []) : V K f (kc + 350) (ks + 9200) 501 [(0, .ref b), (1, .ref x), (2, .ref y), (3, .ref o), (4, .int (nI (3 * k)))] [] := by
  obtain ⟨al, am, fi, z, sc, ar, c, g, rfl, rfl, hR, hM, hS, hn, hW, h7, h0⟩ := hI
  obtain ⟨k1, mc, ms, Q, hmc, hms, hA, hB⟩ := o_level (n := k + 1) (kL K) hl hR hM hS hW (by omega) (xs (3 * k + 1))
  refine V_aload_n X rfl dL_law_501 ?_
  refine V_scr X (j := 1) hX hbl hbA (by omega) hL (by decide) rfl rfl dL_law_502 dL_law_503 dL_law_505 dL_law_506 dL_law_507 ?_
  refine V_aload_n X rfl dL_law_508 ?_
  refine V_callSH (kc' := kc + 346) (ks' := ks + 9000) X (rest := []) hCF hA gL_law_L_level rfl hds_L_level (Nat.le_of_ble_eq_true rfl) (Nat.le_of_ble_eq_true rfl) rfl (Nat.le_of_ble_eq_true rfl) (by omega) (by omega) dL_law_509 (fun r9 f1 h9 => ?_)
  obtain ⟨rfl, hq⟩ := h9
  refine V_istore X (lv' := [(5, _), (0, _), (1, _), (2, _), (3, _), (4, _)]) (by decide) rfl dL_law_512 ?_
  obtain ⟨⟨fs1, hy1⟩, v, w1, hE, hC⟩ := hB f1 hq
  refine V_aload_n X rfl dL_law_514 ?_
  refine V_scr X (j := 1) hX hbl hbA (by omega) hL (by decide) rfl rfl dL_law_515 dL_law_516 dL_law_518 dL_law_519 dL_law_520 ?_
  refine V_callV (kc' := kc + 346) (ks' := ks + 9000) X (rest := []) hC hy1 rfl gL_law_X6_level rfl hdv_X6_level (Nat.le_of_ble_eq_true rfl) (Nat.le_of_ble_eq_true rfl) rfl (Nat.le_of_ble_eq_true rfl) (by omega) (by omega) dL_law_521 (fun r9 f2 h9 => ?_)
  obtain ⟨rfl, hI2⟩ := h9
  obtain ⟨hth, ⟨fs2, hy2⟩, g2, ho2, hg2⟩ := hI2.thr (kL K)
  refine V_istore X (lv' := [(6, _), (5, _), (0, _), (1, _), (2, _), (3, _), (4, _)]) (by decide) rfl dL_law_524 ?_
  have J : V K f2 (kc + 346) (ks + 9000) 554 [(6, .int v), (5, .int k1), (0, .ref b), (1, .ref (al (15, 0))), (2, .ref (am 0)), (3, .ref o), (4, .int (nI (3 * k)))] [] := by
    refine V_goto X (tgt := 1223) (by decide) dL_law_554 ?_
    refine V.lvs (lv' := [(0, _), (1, _), (2, _), (3, _), (4, _)]) rfl ?_
    exact V.bud (by omega) (by omega) (kk f2 _ _ hI2)
  refine V_aload_n X rfl dL_law_526 ?_
  refine V_callVp X (rest := []) hth hy2 rfl gL_law_X6_thrown rfl hdv_X6_thrown (Nat.le_of_ble_eq_true rfl) (Nat.le_of_ble_eq_true rfl) rfl (Nat.le_of_ble_eq_true rfl) dL_law_527 ?_
  refine V_iload X rfl dL_law_530 ?_
  refine V_icmp_eq X (tgt := 537) (by decide) dL_law_532 (fun _ => ?_) (fun h9 => absurd rfl h9)
  refine V_iload X rfl dL_law_537 ?_
  refine V_if_ne X (tgt := 554) (by decide) dL_law_539 (fun _ => J) (fun h9 => ?_)
  refine V_aload_n X rfl dL_law_542 ?_
  refine V_iconst X (v := 0) (by decide) dL_law_543 ?_
  refine V_lald X ho2 (vp_in_nI (n := 0) (N := 1) (by decide) (by decide)) dL_law_544 ?_
  refine V.stk (st' := [.long v.toInt64]) (by rw [show g2 (0 : Int32).toNatClampNeg = w1 from hg2, show w1 = v.toInt64 from hE h9]) ?_
  refine V_iload X rfl dL_law_545 ?_
  refine V_i2l X dL_law_547 ?_
  refine V_lcmp X dL_law_548 ?_
  refine V.top (y := 0) (lg_cmp_self _) ?_
  exact V_if_eq X (tgt := 554) (by decide) dL_law_549 (fun _ => J) (fun h9 => absurd rfl h9)
set_option maxHeartbeats 1000000 in
set_option maxRecDepth 100000 in
theorem s_barred {K : VK} (X : CX K cL_law RL wsL_law 7 2048 84000) (hCF : CF (kS K)) (hl : (kL K).stackTraces = false) {f : Wo} {x y b o L k kc ks : Nat} {xs : Nat → Int32} {s7 : Int32} {w0 : Int64} (hI : LI (kG K) x y o k s7 w0 f) (hX : va_X b L xs (kS K) (kS K).heap) (hbl : b < (kS K).heap.size) (hbA : ¬ gA (kG K) b) (hk : 3 * k + 2 < L) (hL : L ≤ 1536) (kk : ∀ (f2 : Wo) (s7 : Int32) (w0 : Int64), LI (kG K) x y o (k + 1) s7 w0 f2 → V K f2 kc ks 1223 [(0, .ref b), (1, .ref x), (2, .ref y), (3, .ref o), (4, .int (nI (3 * k)))] []) : V K f (kc + 350) (ks + 9200) 557 [(0, .ref b), (1, .ref x), (2, .ref y), (3, .ref o), (4, .int (nI (3 * k)))] [] := by
  obtain ⟨al, am, fi, z, sc, ar, c, g, rfl, rfl, hR, hM, hS, hn, hW, h7, h0⟩ := hI
  obtain ⟨k1, mc, ms, Q, hmc, hms, hA, hB⟩ := o_barred (n := k + 1) (kL K) hl hR hM hS hW (by omega) (xs (3 * k + 1))
  refine V_aload_n X rfl dL_law_557 ?_
  refine V_scr X (j := 1) hX hbl hbA (by omega) hL (by decide) rfl rfl dL_law_558 dL_law_559 dL_law_561 dL_law_562 dL_law_563 ?_
  refine V_aload_n X rfl dL_law_564 ?_
  refine V_callSH (kc' := kc + 346) (ks' := ks + 9000) X (rest := []) hCF hA gL_law_L_barred rfl hds_L_barred (Nat.le_of_ble_eq_true rfl) (Nat.le_of_ble_eq_true rfl) rfl (Nat.le_of_ble_eq_true rfl) (by omega) (by omega) dL_law_565 (fun r9 f1 h9 => ?_)
  obtain ⟨rfl, hq⟩ := h9
  refine V_istore X (lv' := [(5, _), (0, _), (1, _), (2, _), (3, _), (4, _)]) (by decide) rfl dL_law_568 ?_
  obtain ⟨⟨fs1, hy1⟩, v, w1, hE, hC⟩ := hB f1 hq
  refine V_aload_n X rfl dL_law_570 ?_
  refine V_scr X (j := 1) hX hbl hbA (by omega) hL (by decide) rfl rfl dL_law_571 dL_law_572 dL_law_574 dL_law_575 dL_law_576 ?_
  refine V_callV (kc' := kc + 346) (ks' := ks + 9000) X (rest := []) hC hy1 rfl gL_law_X6_barred rfl hdv_X6_barred (Nat.le_of_ble_eq_true rfl) (Nat.le_of_ble_eq_true rfl) rfl (Nat.le_of_ble_eq_true rfl) (by omega) (by omega) dL_law_577 (fun r9 f2 h9 => ?_)
  obtain ⟨rfl, hI2⟩ := h9
  obtain ⟨hth, ⟨fs2, hy2⟩, g2, ho2, hg2⟩ := hI2.thr (kL K)
  refine V_istore X (lv' := [(6, _), (5, _), (0, _), (1, _), (2, _), (3, _), (4, _)]) (by decide) rfl dL_law_580 ?_
  have J : V K f2 (kc + 346) (ks + 9000) 610 [(6, .int v), (5, .int k1), (0, .ref b), (1, .ref (al (15, 0))), (2, .ref (am 0)), (3, .ref o), (4, .int (nI (3 * k)))] [] := by
    refine V_goto X (tgt := 1223) (by decide) dL_law_610 ?_
    refine V.lvs (lv' := [(0, _), (1, _), (2, _), (3, _), (4, _)]) rfl ?_
    exact V.bud (by omega) (by omega) (kk f2 _ _ hI2)
  refine V_aload_n X rfl dL_law_582 ?_
  refine V_callVp X (rest := []) hth hy2 rfl gL_law_X6_thrown rfl hdv_X6_thrown (Nat.le_of_ble_eq_true rfl) (Nat.le_of_ble_eq_true rfl) rfl (Nat.le_of_ble_eq_true rfl) dL_law_583 ?_
  refine V_iload X rfl dL_law_586 ?_
  refine V_icmp_eq X (tgt := 593) (by decide) dL_law_588 (fun _ => ?_) (fun h9 => absurd rfl h9)
  refine V_iload X rfl dL_law_593 ?_
  refine V_if_ne X (tgt := 610) (by decide) dL_law_595 (fun _ => J) (fun h9 => ?_)
  refine V_aload_n X rfl dL_law_598 ?_
  refine V_iconst X (v := 0) (by decide) dL_law_599 ?_
  refine V_lald X ho2 (vp_in_nI (n := 0) (N := 1) (by decide) (by decide)) dL_law_600 ?_
  refine V.stk (st' := [.long v.toInt64]) (by rw [show g2 (0 : Int32).toNatClampNeg = w1 from hg2, show w1 = v.toInt64 from hE h9]) ?_
  refine V_iload X rfl dL_law_601 ?_
  refine V_i2l X dL_law_603 ?_
  refine V_lcmp X dL_law_604 ?_
  refine V.top (y := 0) (lg_cmp_self _) ?_
  exact V_if_eq X (tgt := 610) (by decide) dL_law_605 (fun _ => J) (fun h9 => absurd rfl h9)
set_option maxHeartbeats 1000000 in
set_option maxRecDepth 100000 in
theorem s_queued {K : VK} (X : CX K cL_law RL wsL_law 7 2048 84000) (hCF : CF (kS K)) (hl : (kL K).stackTraces = false) {f : Wo} {x y b o L k kc ks : Nat} {xs : Nat → Int32} {s7 : Int32} {w0 : Int64} (hI : LI (kG K) x y o k s7 w0 f) (hX : va_X b L xs (kS K) (kS K).heap) (hbl : b < (kS K).heap.size) (hbA : ¬ gA (kG K) b) (hk : 3 * k + 2 < L) (hL : L ≤ 1536) (kk : ∀ (f2 : Wo) (s7 : Int32) (w0 : Int64), LI (kG K) x y o (k + 1) s7 w0 f2 → V K f2 kc ks 1223 [(0, .ref b), (1, .ref x), (2, .ref y), (3, .ref o), (4, .int (nI (3 * k)))] []) : V K f (kc + 350) (ks + 9200) 613 [(0, .ref b), (1, .ref x), (2, .ref y), (3, .ref o), (4, .int (nI (3 * k)))] [] := by
  obtain ⟨al, am, fi, z, sc, ar, c, g, rfl, rfl, hR, hM, hS, hn, hW, h7, h0⟩ := hI
  obtain ⟨v, mc, ms, Q, hmc, hms, hA, hB⟩ := o_queued (kL K) hR hM hS hW hn
  refine V_aload_n X rfl dL_law_613 ?_
  refine V_callV (kc' := kc + 3) (ks' := ks + 40) X (rest := []) hA (hR.2.1 (15, 0) dm15) rfl gL_law_X5_queued rfl hdv_X5_queued (Nat.le_of_ble_eq_true rfl) (Nat.le_of_ble_eq_true rfl) rfl (Nat.le_of_ble_eq_true rfl) (by omega) (by omega) dL_law_614 (fun r9 f1 h9 => ?_)
  obtain ⟨rfl, hq⟩ := h9
  obtain ⟨⟨fs1, hy1⟩, k1, w1, hC⟩ := hB f1 hq
  refine V_aload_n X rfl dL_law_617 ?_
  refine V_callV (kc' := kc) (ks' := ks) X (rest := [.int v]) hC hy1 rfl gL_law_X6_queued rfl hdv_X6_queued (Nat.le_of_ble_eq_true rfl) (Nat.le_of_ble_eq_true rfl) rfl (Nat.le_of_ble_eq_true rfl) (by omega) (by omega) dL_law_618 (fun r9 f2 h9 => ?_)
  obtain ⟨rfl, hI2⟩ := h9
  exact V_icmp_eq X (tgt := 1223) (by decide) dL_law_621 (fun _ => kk f2 _ _ hI2) (fun h9 => absurd rfl h9)
set_option maxHeartbeats 1000000 in
set_option maxRecDepth 100000 in
theorem s_window {K : VK} (X : CX K cL_law RL wsL_law 7 2048 84000) (hCF : CF (kS K)) (hl : (kL K).stackTraces = false) {f : Wo} {x y b o L k kc ks : Nat} {xs : Nat → Int32} {s7 : Int32} {w0 : Int64} (hI : LI (kG K) x y o k s7 w0 f) (hX : va_X b L xs (kS K) (kS K).heap) (hbl : b < (kS K).heap.size) (hbA : ¬ gA (kG K) b) (hk : 3 * k + 2 < L) (hL : L ≤ 1536) (kk : ∀ (f2 : Wo) (s7 : Int32) (w0 : Int64), LI (kG K) x y o (k + 1) s7 w0 f2 → V K f2 kc ks 1223 [(0, .ref b), (1, .ref x), (2, .ref y), (3, .ref o), (4, .int (nI (3 * k)))] []) : V K f (kc + 350) (ks + 9200) 626 [(0, .ref b), (1, .ref x), (2, .ref y), (3, .ref o), (4, .int (nI (3 * k)))] [] := by
  obtain ⟨al, am, fi, z, sc, ar, c, g, rfl, rfl, hR, hM, hS, hn, hW, h7, h0⟩ := hI
  obtain ⟨k1, mc, ms, Q, hmc, hms, hA, hB⟩ := o_window (n := k + 1) (kL K) hl hR hM hS hW (by omega) (xs (3 * k + 1))
  refine V_aload_n X rfl dL_law_626 ?_
  refine V_scr X (j := 1) hX hbl hbA (by omega) hL (by decide) rfl rfl dL_law_627 dL_law_628 dL_law_630 dL_law_631 dL_law_632 ?_
  refine V_aload_n X rfl dL_law_633 ?_
  refine V_callSH (kc' := kc + 346) (ks' := ks + 9000) X (rest := []) hCF hA gL_law_L_window rfl hds_L_window (Nat.le_of_ble_eq_true rfl) (Nat.le_of_ble_eq_true rfl) rfl (Nat.le_of_ble_eq_true rfl) (by omega) (by omega) dL_law_634 (fun r9 f1 h9 => ?_)
  obtain ⟨rfl, hq⟩ := h9
  refine V_istore X (lv' := [(5, _), (0, _), (1, _), (2, _), (3, _), (4, _)]) (by decide) rfl dL_law_637 ?_
  obtain ⟨⟨fs1, hy1⟩, v, w1, hE, hC⟩ := hB f1 hq
  refine V_aload_n X rfl dL_law_639 ?_
  refine V_scr X (j := 1) hX hbl hbA (by omega) hL (by decide) rfl rfl dL_law_640 dL_law_641 dL_law_643 dL_law_644 dL_law_645 ?_
  refine V_callV (kc' := kc + 346) (ks' := ks + 9000) X (rest := []) hC hy1 rfl gL_law_X6_window rfl hdv_X6_window (Nat.le_of_ble_eq_true rfl) (Nat.le_of_ble_eq_true rfl) rfl (Nat.le_of_ble_eq_true rfl) (by omega) (by omega) dL_law_646 (fun r9 f2 h9 => ?_)
  obtain ⟨rfl, hI2⟩ := h9
  obtain ⟨hth, ⟨fs2, hy2⟩, g2, ho2, hg2⟩ := hI2.thr (kL K)
  refine V_istore X (lv' := [(6, _), (5, _), (0, _), (1, _), (2, _), (3, _), (4, _)]) (by decide) rfl dL_law_649 ?_
  have J : V K f2 (kc + 346) (ks + 9000) 679 [(6, .int v), (5, .int k1), (0, .ref b), (1, .ref (al (15, 0))), (2, .ref (am 0)), (3, .ref o), (4, .int (nI (3 * k)))] [] := by
    refine V_goto X (tgt := 1223) (by decide) dL_law_679 ?_
    refine V.lvs (lv' := [(0, _), (1, _), (2, _), (3, _), (4, _)]) rfl ?_
    exact V.bud (by omega) (by omega) (kk f2 _ _ hI2)
  refine V_aload_n X rfl dL_law_651 ?_
  refine V_callVp X (rest := []) hth hy2 rfl gL_law_X6_thrown rfl hdv_X6_thrown (Nat.le_of_ble_eq_true rfl) (Nat.le_of_ble_eq_true rfl) rfl (Nat.le_of_ble_eq_true rfl) dL_law_652 ?_
  refine V_iload X rfl dL_law_655 ?_
  refine V_icmp_eq X (tgt := 662) (by decide) dL_law_657 (fun _ => ?_) (fun h9 => absurd rfl h9)
  refine V_iload X rfl dL_law_662 ?_
  refine V_if_ne X (tgt := 679) (by decide) dL_law_664 (fun _ => J) (fun h9 => ?_)
  refine V_aload_n X rfl dL_law_667 ?_
  refine V_iconst X (v := 0) (by decide) dL_law_668 ?_
  refine V_lald X ho2 (vp_in_nI (n := 0) (N := 1) (by decide) (by decide)) dL_law_669 ?_
  refine V.stk (st' := [.long v.toInt64]) (by rw [show g2 (0 : Int32).toNatClampNeg = w1 from hg2, show w1 = v.toInt64 from hE h9]) ?_
  refine V_iload X rfl dL_law_670 ?_
  refine V_i2l X dL_law_672 ?_
  refine V_lcmp X dL_law_673 ?_
  refine V.top (y := 0) (lg_cmp_self _) ?_
  exact V_if_eq X (tgt := 679) (by decide) dL_law_674 (fun _ => J) (fun h9 => absurd rfl h9)
set_option maxHeartbeats 1000000 in
set_option maxRecDepth 100000 in
theorem s_fit {K : VK} (X : CX K cL_law RL wsL_law 7 2048 84000) (hCF : CF (kS K)) (hl : (kL K).stackTraces = false) {f : Wo} {x y b o L k kc ks : Nat} {xs : Nat → Int32} {s7 : Int32} {w0 : Int64} (hI : LI (kG K) x y o k s7 w0 f) (hX : va_X b L xs (kS K) (kS K).heap) (hbl : b < (kS K).heap.size) (hbA : ¬ gA (kG K) b) (hk : 3 * k + 2 < L) (hL : L ≤ 1536) (kk : ∀ (f2 : Wo) (s7 : Int32) (w0 : Int64), LI (kG K) x y o (k + 1) s7 w0 f2 → V K f2 kc ks 1223 [(0, .ref b), (1, .ref x), (2, .ref y), (3, .ref o), (4, .int (nI (3 * k)))] []) : V K f (kc + 350) (ks + 9200) 682 [(0, .ref b), (1, .ref x), (2, .ref y), (3, .ref o), (4, .int (nI (3 * k)))] [] := by
  obtain ⟨al, am, fi, z, sc, ar, c, g, rfl, rfl, hR, hM, hS, hn, hW, h7, h0⟩ := hI
  obtain ⟨k1, mc, ms, Q, hmc, hms, hA, hB⟩ := o_fit (n := k + 1) (kL K) hl hR hM hS hW (by omega) (xs (3 * k + 1)) (xs (3 * k + 2))
  refine V_aload_n X rfl dL_law_682 ?_
  refine V_scr X (j := 1) hX hbl hbA (by omega) hL (by decide) rfl rfl dL_law_683 dL_law_684 dL_law_686 dL_law_687 dL_law_688 ?_
  refine V_scr X (j := 2) hX hbl hbA (by omega) hL (by decide) rfl rfl dL_law_689 dL_law_690 dL_law_692 dL_law_693 dL_law_694 ?_
  refine V_aload_n X rfl dL_law_695 ?_
  refine V_callSH (kc' := kc + 346) (ks' := ks + 9000) X (rest := []) hCF hA gL_law_L_fit rfl hds_L_fit (Nat.le_of_ble_eq_true rfl) (Nat.le_of_ble_eq_true rfl) rfl (Nat.le_of_ble_eq_true rfl) (by omega) (by omega) dL_law_696 (fun r9 f1 h9 => ?_)
  obtain ⟨rfl, hq⟩ := h9
  refine V_istore X (lv' := [(5, _), (0, _), (1, _), (2, _), (3, _), (4, _)]) (by decide) rfl dL_law_699 ?_
  obtain ⟨⟨fs1, hy1⟩, v, w1, hE, hC⟩ := hB f1 hq
  refine V_aload_n X rfl dL_law_701 ?_
  refine V_scr X (j := 1) hX hbl hbA (by omega) hL (by decide) rfl rfl dL_law_702 dL_law_703 dL_law_705 dL_law_706 dL_law_707 ?_
  refine V_scr X (j := 2) hX hbl hbA (by omega) hL (by decide) rfl rfl dL_law_708 dL_law_709 dL_law_711 dL_law_712 dL_law_713 ?_
  refine V_callV (kc' := kc + 346) (ks' := ks + 9000) X (rest := []) hC hy1 rfl gL_law_X6_fit rfl hdv_X6_fit (Nat.le_of_ble_eq_true rfl) (Nat.le_of_ble_eq_true rfl) rfl (Nat.le_of_ble_eq_true rfl) (by omega) (by omega) dL_law_714 (fun r9 f2 h9 => ?_)
  obtain ⟨rfl, hI2⟩ := h9
  obtain ⟨hth, ⟨fs2, hy2⟩, g2, ho2, hg2⟩ := hI2.thr (kL K)
  refine V_istore X (lv' := [(6, _), (5, _), (0, _), (1, _), (2, _), (3, _), (4, _)]) (by decide) rfl dL_law_717 ?_
  have J : V K f2 (kc + 346) (ks + 9000) 754 [(6, .int v), (5, .int k1), (0, .ref b), (1, .ref (al (15, 0))), (2, .ref (am 0)), (3, .ref o), (4, .int (nI (3 * k)))] [] := by
    refine V_goto X (tgt := 1223) (by decide) dL_law_754 ?_
    refine V.lvs (lv' := [(0, _), (1, _), (2, _), (3, _), (4, _)]) rfl ?_
    exact V.bud (by omega) (by omega) (kk f2 _ _ hI2)
  refine V_aload_n X rfl dL_law_719 ?_
  refine V_callVp X (rest := []) hth hy2 rfl gL_law_X6_thrown rfl hdv_X6_thrown (Nat.le_of_ble_eq_true rfl) (Nat.le_of_ble_eq_true rfl) rfl (Nat.le_of_ble_eq_true rfl) dL_law_720 ?_
  refine V_iload X rfl dL_law_723 ?_
  refine V_icmp_eq X (tgt := 730) (by decide) dL_law_725 (fun _ => ?_) (fun h9 => absurd rfl h9)
  refine V_iload X rfl dL_law_730 ?_
  refine V_if_ne X (tgt := 754) (by decide) dL_law_732 (fun _ => J) (fun h9 => ?_)
  refine V_aload_n X rfl dL_law_735 ?_
  refine V_iconst X (v := 0) (by decide) dL_law_736 ?_
  refine V_lald X ho2 (vp_in_nI (n := 0) (N := 1) (by decide) (by decide)) dL_law_737 ?_
  obtain ⟨q, hv, hw⟩ := hE h9
  refine V.stk (st' := [.long (bJ q)]) (by rw [show g2 (0 : Int32).toNatClampNeg = w1 from hg2, hw]) ?_
  refine V_iload X rfl dL_law_738 ?_
  refine V.top hv ?_
  cases q with
  | true =>
    refine V_if_eq X (tgt := 747) (by decide) dL_law_740 (fun h8 => absurd h8 (by decide)) (fun _ => ?_)
    refine V_lconst X (v := 1) (by decide) dL_law_743 ?_
    refine V_goto X (tgt := 748) (by decide) dL_law_744 ?_
    refine V_lcmp X dL_law_748 ?_
    refine V.top (y := 0) (lg_cmp_self _) ?_
    exact V_if_eq X (tgt := 754) (by decide) dL_law_749 (fun _ => J) (fun h9 => absurd rfl h9)
  | false =>
    refine V_if_eq X (tgt := 747) (by decide) dL_law_740 (fun _ => ?_) (fun h8 => absurd rfl h8)
    refine V_lconst X (v := 0) (by decide) dL_law_747 ?_
    refine V_lcmp X dL_law_748 ?_
    refine V.top (y := 0) (lg_cmp_self _) ?_
    exact V_if_eq X (tgt := 754) (by decide) dL_law_749 (fun _ => J) (fun h9 => absurd rfl h9)
set_option maxHeartbeats 1000000 in
set_option maxRecDepth 100000 in
theorem s_make {K : VK} (X : CX K cL_law RL wsL_law 7 2048 84000) (hCF : CF (kS K)) (hl : (kL K).stackTraces = false) {f : Wo} {x y b o L k kc ks : Nat} {xs : Nat → Int32} {s7 : Int32} {w0 : Int64} (hI : LI (kG K) x y o k s7 w0 f) (hX : va_X b L xs (kS K) (kS K).heap) (hbl : b < (kS K).heap.size) (hbA : ¬ gA (kG K) b) (hk : 3 * k + 2 < L) (hL : L ≤ 1536) (hlt : k < 512) (kk : ∀ (f2 : Wo) (s7 : Int32) (w0 : Int64), LI (kG K) x y o (k + 1) s7 w0 f2 → V K f2 kc ks 1223 [(0, .ref b), (1, .ref x), (2, .ref y), (3, .ref o), (4, .int (nI (3 * k)))] []) : V K f (kc + 350) (ks + 9200) 757 [(0, .ref b), (1, .ref x), (2, .ref y), (3, .ref o), (4, .int (nI (3 * k)))] [] := by
  obtain ⟨al, am, fi, z, sc, ar, c, g, rfl, rfl, hR, hM, hS, hn, hW, h7, h0⟩ := hI
  obtain ⟨v, mc, ms, Q, hmc, hms, hA, hB⟩ := o_make (kL K) hR hM hS hW hn hlt
  refine V_aload_n X rfl dL_law_757 ?_
  refine V_callV (kc' := kc + 3) (ks' := ks + 40) X (rest := []) hA (hR.2.1 (15, 0) dm15) rfl gL_law_X5_make rfl hdv_X5_make (Nat.le_of_ble_eq_true rfl) (Nat.le_of_ble_eq_true rfl) rfl (Nat.le_of_ble_eq_true rfl) (by omega) (by omega) dL_law_758 (fun r9 f1 h9 => ?_)
  obtain ⟨rfl, hq⟩ := h9
  obtain ⟨⟨fs1, hy1⟩, k1, w1, hC⟩ := hB f1 hq
  refine V_aload_n X rfl dL_law_761 ?_
  refine V_callV (kc' := kc) (ks' := ks) X (rest := [.int v]) hC hy1 rfl gL_law_X6_make rfl hdv_X6_make (Nat.le_of_ble_eq_true rfl) (Nat.le_of_ble_eq_true rfl) rfl (Nat.le_of_ble_eq_true rfl) (by omega) (by omega) dL_law_762 (fun r9 f2 h9 => ?_)
  obtain ⟨rfl, hI2⟩ := h9
  exact V_icmp_eq X (tgt := 1223) (by decide) dL_law_765 (fun _ => kk f2 _ _ hI2) (fun h9 => absurd rfl h9)
set_option maxHeartbeats 1000000 in
set_option maxRecDepth 100000 in
theorem s_accept {K : VK} (X : CX K cL_law RL wsL_law 7 2048 84000) (hCF : CF (kS K)) (hl : (kL K).stackTraces = false) {f : Wo} {x y b o L k kc ks : Nat} {xs : Nat → Int32} {s7 : Int32} {w0 : Int64} (hI : LI (kG K) x y o k s7 w0 f) (hX : va_X b L xs (kS K) (kS K).heap) (hbl : b < (kS K).heap.size) (hbA : ¬ gA (kG K) b) (hk : 3 * k + 2 < L) (hL : L ≤ 1536) (kk : ∀ (f2 : Wo) (s7 : Int32) (w0 : Int64), LI (kG K) x y o (k + 1) s7 w0 f2 → V K f2 kc ks 1223 [(0, .ref b), (1, .ref x), (2, .ref y), (3, .ref o), (4, .int (nI (3 * k)))] []) : V K f (kc + 350) (ks + 9200) 770 [(0, .ref b), (1, .ref x), (2, .ref y), (3, .ref o), (4, .int (nI (3 * k)))] [] := by
  obtain ⟨al, am, fi, z, sc, ar, c, g, rfl, rfl, hR, hM, hS, hn, hW, h7, h0⟩ := hI
  obtain ⟨k1, mc, ms, Q, hmc, hms, hA, hB⟩ := o_accept (n := k + 1) (kL K) hl hR hM hS hW (by omega) (xs (3 * k + 1)) (xs (3 * k + 2))
  refine V_aload_n X rfl dL_law_770 ?_
  refine V_scr X (j := 1) hX hbl hbA (by omega) hL (by decide) rfl rfl dL_law_771 dL_law_772 dL_law_774 dL_law_775 dL_law_776 ?_
  refine V_scr X (j := 2) hX hbl hbA (by omega) hL (by decide) rfl rfl dL_law_777 dL_law_778 dL_law_780 dL_law_781 dL_law_782 ?_
  refine V_aload_n X rfl dL_law_783 ?_
  refine V_callSH (kc' := kc + 346) (ks' := ks + 9000) X (rest := []) hCF hA gL_law_L_accept rfl hds_L_accept (Nat.le_of_ble_eq_true rfl) (Nat.le_of_ble_eq_true rfl) rfl (Nat.le_of_ble_eq_true rfl) (by omega) (by omega) dL_law_784 (fun r9 f1 h9 => ?_)
  obtain ⟨rfl, hq⟩ := h9
  refine V_istore X (lv' := [(5, _), (0, _), (1, _), (2, _), (3, _), (4, _)]) (by decide) rfl dL_law_787 ?_
  obtain ⟨⟨fs1, hy1⟩, v, w1, hE, hC⟩ := hB f1 hq
  refine V_aload_n X rfl dL_law_789 ?_
  refine V_scr X (j := 1) hX hbl hbA (by omega) hL (by decide) rfl rfl dL_law_790 dL_law_791 dL_law_793 dL_law_794 dL_law_795 ?_
  refine V_scr X (j := 2) hX hbl hbA (by omega) hL (by decide) rfl rfl dL_law_796 dL_law_797 dL_law_799 dL_law_800 dL_law_801 ?_
  refine V_callV (kc' := kc + 346) (ks' := ks + 9000) X (rest := []) hC hy1 rfl gL_law_X6_accept rfl hdv_X6_accept (Nat.le_of_ble_eq_true rfl) (Nat.le_of_ble_eq_true rfl) rfl (Nat.le_of_ble_eq_true rfl) (by omega) (by omega) dL_law_802 (fun r9 f2 h9 => ?_)
  obtain ⟨rfl, hI2⟩ := h9
  obtain ⟨hth, ⟨fs2, hy2⟩, g2, ho2, hg2⟩ := hI2.thr (kL K)
  refine V_istore X (lv' := [(6, _), (5, _), (0, _), (1, _), (2, _), (3, _), (4, _)]) (by decide) rfl dL_law_805 ?_
  have J : V K f2 (kc + 346) (ks + 9000) 842 [(6, .int v), (5, .int k1), (0, .ref b), (1, .ref (al (15, 0))), (2, .ref (am 0)), (3, .ref o), (4, .int (nI (3 * k)))] [] := by
    refine V_goto X (tgt := 1223) (by decide) dL_law_842 ?_
    refine V.lvs (lv' := [(0, _), (1, _), (2, _), (3, _), (4, _)]) rfl ?_
    exact V.bud (by omega) (by omega) (kk f2 _ _ hI2)
  refine V_aload_n X rfl dL_law_807 ?_
  refine V_callVp X (rest := []) hth hy2 rfl gL_law_X6_thrown rfl hdv_X6_thrown (Nat.le_of_ble_eq_true rfl) (Nat.le_of_ble_eq_true rfl) rfl (Nat.le_of_ble_eq_true rfl) dL_law_808 ?_
  refine V_iload X rfl dL_law_811 ?_
  refine V_icmp_eq X (tgt := 818) (by decide) dL_law_813 (fun _ => ?_) (fun h9 => absurd rfl h9)
  refine V_iload X rfl dL_law_818 ?_
  refine V_if_ne X (tgt := 842) (by decide) dL_law_820 (fun _ => J) (fun h9 => ?_)
  refine V_aload_n X rfl dL_law_823 ?_
  refine V_iconst X (v := 0) (by decide) dL_law_824 ?_
  refine V_lald X ho2 (vp_in_nI (n := 0) (N := 1) (by decide) (by decide)) dL_law_825 ?_
  obtain ⟨q, hv, hw⟩ := hE h9
  refine V.stk (st' := [.long (bJ q)]) (by rw [show g2 (0 : Int32).toNatClampNeg = w1 from hg2, hw]) ?_
  refine V_iload X rfl dL_law_826 ?_
  refine V.top hv ?_
  cases q with
  | true =>
    refine V_if_eq X (tgt := 835) (by decide) dL_law_828 (fun h8 => absurd h8 (by decide)) (fun _ => ?_)
    refine V_lconst X (v := 1) (by decide) dL_law_831 ?_
    refine V_goto X (tgt := 836) (by decide) dL_law_832 ?_
    refine V_lcmp X dL_law_836 ?_
    refine V.top (y := 0) (lg_cmp_self _) ?_
    exact V_if_eq X (tgt := 842) (by decide) dL_law_837 (fun _ => J) (fun h9 => absurd rfl h9)
  | false =>
    refine V_if_eq X (tgt := 835) (by decide) dL_law_828 (fun _ => ?_) (fun h8 => absurd rfl h8)
    refine V_lconst X (v := 0) (by decide) dL_law_835 ?_
    refine V_lcmp X dL_law_836 ?_
    refine V.top (y := 0) (lg_cmp_self _) ?_
    exact V_if_eq X (tgt := 842) (by decide) dL_law_837 (fun _ => J) (fun h9 => absurd rfl h9)
set_option maxHeartbeats 1000000 in
set_option maxRecDepth 100000 in
theorem s_decline {K : VK} (X : CX K cL_law RL wsL_law 7 2048 84000) (hCF : CF (kS K)) (hl : (kL K).stackTraces = false) {f : Wo} {x y b o L k kc ks : Nat} {xs : Nat → Int32} {s7 : Int32} {w0 : Int64} (hI : LI (kG K) x y o k s7 w0 f) (hX : va_X b L xs (kS K) (kS K).heap) (hbl : b < (kS K).heap.size) (hbA : ¬ gA (kG K) b) (hk : 3 * k + 2 < L) (hL : L ≤ 1536) (kk : ∀ (f2 : Wo) (s7 : Int32) (w0 : Int64), LI (kG K) x y o (k + 1) s7 w0 f2 → V K f2 kc ks 1223 [(0, .ref b), (1, .ref x), (2, .ref y), (3, .ref o), (4, .int (nI (3 * k)))] []) : V K f (kc + 350) (ks + 9200) 845 [(0, .ref b), (1, .ref x), (2, .ref y), (3, .ref o), (4, .int (nI (3 * k)))] [] := by
  obtain ⟨al, am, fi, z, sc, ar, c, g, rfl, rfl, hR, hM, hS, hn, hW, h7, h0⟩ := hI
  obtain ⟨k1, mc, ms, Q, hmc, hms, hA, hB⟩ := o_decline (n := k + 1) (kL K) hl hR hM hS hW (by omega) (xs (3 * k + 1)) (xs (3 * k + 2))
  refine V_aload_n X rfl dL_law_845 ?_
  refine V_scr X (j := 1) hX hbl hbA (by omega) hL (by decide) rfl rfl dL_law_846 dL_law_847 dL_law_849 dL_law_850 dL_law_851 ?_
  refine V_scr X (j := 2) hX hbl hbA (by omega) hL (by decide) rfl rfl dL_law_852 dL_law_853 dL_law_855 dL_law_856 dL_law_857 ?_
  refine V_aload_n X rfl dL_law_858 ?_
  refine V_callSH (kc' := kc + 346) (ks' := ks + 9000) X (rest := []) hCF hA gL_law_L_decline rfl hds_L_decline (Nat.le_of_ble_eq_true rfl) (Nat.le_of_ble_eq_true rfl) rfl (Nat.le_of_ble_eq_true rfl) (by omega) (by omega) dL_law_859 (fun r9 f1 h9 => ?_)
  obtain ⟨rfl, hq⟩ := h9
  refine V_istore X (lv' := [(5, _), (0, _), (1, _), (2, _), (3, _), (4, _)]) (by decide) rfl dL_law_862 ?_
  obtain ⟨⟨fs1, hy1⟩, v, w1, hE, hC⟩ := hB f1 hq
  refine V_aload_n X rfl dL_law_864 ?_
  refine V_scr X (j := 1) hX hbl hbA (by omega) hL (by decide) rfl rfl dL_law_865 dL_law_866 dL_law_868 dL_law_869 dL_law_870 ?_
  refine V_scr X (j := 2) hX hbl hbA (by omega) hL (by decide) rfl rfl dL_law_871 dL_law_872 dL_law_874 dL_law_875 dL_law_876 ?_
  refine V_callV (kc' := kc + 346) (ks' := ks + 9000) X (rest := []) hC hy1 rfl gL_law_X6_decline rfl hdv_X6_decline (Nat.le_of_ble_eq_true rfl) (Nat.le_of_ble_eq_true rfl) rfl (Nat.le_of_ble_eq_true rfl) (by omega) (by omega) dL_law_877 (fun r9 f2 h9 => ?_)
  obtain ⟨rfl, hI2⟩ := h9
  obtain ⟨hth, ⟨fs2, hy2⟩, g2, ho2, hg2⟩ := hI2.thr (kL K)
  refine V_istore X (lv' := [(6, _), (5, _), (0, _), (1, _), (2, _), (3, _), (4, _)]) (by decide) rfl dL_law_880 ?_
  have J : V K f2 (kc + 346) (ks + 9000) 910 [(6, .int v), (5, .int k1), (0, .ref b), (1, .ref (al (15, 0))), (2, .ref (am 0)), (3, .ref o), (4, .int (nI (3 * k)))] [] := by
    refine V_goto X (tgt := 1223) (by decide) dL_law_910 ?_
    refine V.lvs (lv' := [(0, _), (1, _), (2, _), (3, _), (4, _)]) rfl ?_
    exact V.bud (by omega) (by omega) (kk f2 _ _ hI2)
  refine V_aload_n X rfl dL_law_882 ?_
  refine V_callVp X (rest := []) hth hy2 rfl gL_law_X6_thrown rfl hdv_X6_thrown (Nat.le_of_ble_eq_true rfl) (Nat.le_of_ble_eq_true rfl) rfl (Nat.le_of_ble_eq_true rfl) dL_law_883 ?_
  refine V_iload X rfl dL_law_886 ?_
  refine V_icmp_eq X (tgt := 893) (by decide) dL_law_888 (fun _ => ?_) (fun h9 => absurd rfl h9)
  refine V_iload X rfl dL_law_893 ?_
  refine V_if_ne X (tgt := 910) (by decide) dL_law_895 (fun _ => J) (fun h9 => ?_)
  refine V_aload_n X rfl dL_law_898 ?_
  refine V_iconst X (v := 0) (by decide) dL_law_899 ?_
  refine V_lald X ho2 (vp_in_nI (n := 0) (N := 1) (by decide) (by decide)) dL_law_900 ?_
  refine V.stk (st' := [.long v.toInt64]) (by rw [show g2 (0 : Int32).toNatClampNeg = w1 from hg2, show w1 = v.toInt64 from hE h9]) ?_
  refine V_iload X rfl dL_law_901 ?_
  refine V_i2l X dL_law_903 ?_
  refine V_lcmp X dL_law_904 ?_
  refine V.top (y := 0) (lg_cmp_self _) ?_
  exact V_if_eq X (tgt := 910) (by decide) dL_law_905 (fun _ => J) (fun h9 => absurd rfl h9)
set_option maxHeartbeats 1000000 in
set_option maxRecDepth 100000 in
theorem s_finish {K : VK} (X : CX K cL_law RL wsL_law 7 2048 84000) (hCF : CF (kS K)) (hl : (kL K).stackTraces = false) {f : Wo} {x y b o L k kc ks : Nat} {xs : Nat → Int32} {s7 : Int32} {w0 : Int64} (hI : LI (kG K) x y o k s7 w0 f) (hX : va_X b L xs (kS K) (kS K).heap) (hbl : b < (kS K).heap.size) (hbA : ¬ gA (kG K) b) (hk : 3 * k + 2 < L) (hL : L ≤ 1536) (kk : ∀ (f2 : Wo) (s7 : Int32) (w0 : Int64), LI (kG K) x y o (k + 1) s7 w0 f2 → V K f2 kc ks 1223 [(0, .ref b), (1, .ref x), (2, .ref y), (3, .ref o), (4, .int (nI (3 * k)))] []) : V K f (kc + 350) (ks + 9200) 913 [(0, .ref b), (1, .ref x), (2, .ref y), (3, .ref o), (4, .int (nI (3 * k)))] [] := by
  obtain ⟨al, am, fi, z, sc, ar, c, g, rfl, rfl, hR, hM, hS, hn, hW, h7, h0⟩ := hI
  obtain ⟨k1, mc, ms, Q, hmc, hms, hA, hB⟩ := o_finish (n := k + 1) (kL K) hl hR hM hS hW (by omega) (xs (3 * k + 1)) (xs (3 * k + 2))
  refine V_aload_n X rfl dL_law_913 ?_
  refine V_scr X (j := 1) hX hbl hbA (by omega) hL (by decide) rfl rfl dL_law_914 dL_law_915 dL_law_917 dL_law_918 dL_law_919 ?_
  refine V_scr X (j := 2) hX hbl hbA (by omega) hL (by decide) rfl rfl dL_law_920 dL_law_921 dL_law_923 dL_law_924 dL_law_925 ?_
  refine V_callSH (kc' := kc + 346) (ks' := ks + 9000) X (rest := []) hCF hA gL_law_L_finish rfl hds_L_finish (Nat.le_of_ble_eq_true rfl) (Nat.le_of_ble_eq_true rfl) rfl (Nat.le_of_ble_eq_true rfl) (by omega) (by omega) dL_law_926 (fun r9 f1 h9 => ?_)
  obtain ⟨rfl, hq⟩ := h9
  refine V_istore X (lv' := [(5, _), (0, _), (1, _), (2, _), (3, _), (4, _)]) (by decide) rfl dL_law_929 ?_
  obtain ⟨⟨fs1, hy1⟩, w1, hC⟩ := hB f1 hq
  refine V_aload_n X rfl dL_law_931 ?_
  refine V_scr X (j := 1) hX hbl hbA (by omega) hL (by decide) rfl rfl dL_law_932 dL_law_933 dL_law_935 dL_law_936 dL_law_937 ?_
  refine V_scr X (j := 2) hX hbl hbA (by omega) hL (by decide) rfl rfl dL_law_938 dL_law_939 dL_law_941 dL_law_942 dL_law_943 ?_
  refine V_callV (kc' := kc + 346) (ks' := ks + 9000) X (rest := []) hC hy1 rfl gL_law_X6_finish rfl hdv_X6_finish (Nat.le_of_ble_eq_true rfl) (Nat.le_of_ble_eq_true rfl) rfl (Nat.le_of_ble_eq_true rfl) (by omega) (by omega) dL_law_944 (fun r9 f2 h9 => ?_)
  obtain ⟨rfl, hI2⟩ := h9
  obtain ⟨hth, ⟨fs2, hy2⟩, g2, ho2, hg2⟩ := hI2.thr (kL K)
  have J : V K f2 (kc + 346) (ks + 9000) 958 [(5, .int k1), (0, .ref b), (1, .ref (al (15, 0))), (2, .ref (am 0)), (3, .ref o), (4, .int (nI (3 * k)))] [] := by
    refine V_goto X (tgt := 1223) (by decide) dL_law_958 ?_
    refine V.lvs (lv' := [(0, _), (1, _), (2, _), (3, _), (4, _)]) rfl ?_
    exact V.bud (by omega) (by omega) (kk f2 _ _ hI2)
  refine V_aload_n X rfl dL_law_947 ?_
  refine V_callVp X (rest := []) hth hy2 rfl gL_law_X6_thrown rfl hdv_X6_thrown (Nat.le_of_ble_eq_true rfl) (Nat.le_of_ble_eq_true rfl) rfl (Nat.le_of_ble_eq_true rfl) dL_law_948 ?_
  refine V_iload X rfl dL_law_951 ?_
  exact V_icmp_eq X (tgt := 958) (by decide) dL_law_953 (fun _ => J) (fun h9 => absurd rfl h9)
set_option maxHeartbeats 1000000 in
set_option maxRecDepth 100000 in
theorem s_matches {K : VK} (X : CX K cL_law RL wsL_law 7 2048 84000) (hCF : CF (kS K)) (hl : (kL K).stackTraces = false) {f : Wo} {x y b o L k kc ks : Nat} {xs : Nat → Int32} {s7 : Int32} {w0 : Int64} (hI : LI (kG K) x y o k s7 w0 f) (hX : va_X b L xs (kS K) (kS K).heap) (hbl : b < (kS K).heap.size) (hbA : ¬ gA (kG K) b) (hk : 3 * k + 2 < L) (hL : L ≤ 1536) (kk : ∀ (f2 : Wo) (s7 : Int32) (w0 : Int64), LI (kG K) x y o (k + 1) s7 w0 f2 → V K f2 kc ks 1223 [(0, .ref b), (1, .ref x), (2, .ref y), (3, .ref o), (4, .int (nI (3 * k)))] []) : V K f (kc + 350) (ks + 9200) 961 [(0, .ref b), (1, .ref x), (2, .ref y), (3, .ref o), (4, .int (nI (3 * k)))] [] := by
  obtain ⟨al, am, fi, z, sc, ar, c, g, rfl, rfl, hR, hM, hS, hn, hW, h7, h0⟩ := hI
  obtain ⟨v, mc, ms, Q, hmc, hms, hA, hB⟩ := o_matches (kL K) hR hM hS hW hn
  refine V_aload_n X rfl dL_law_961 ?_
  refine V_callV (kc' := kc + 3) (ks' := ks + 40) X (rest := []) hA (hR.2.1 (15, 0) dm15) rfl gL_law_X5_matches rfl hdv_X5_matches (Nat.le_of_ble_eq_true rfl) (Nat.le_of_ble_eq_true rfl) rfl (Nat.le_of_ble_eq_true rfl) (by omega) (by omega) dL_law_962 (fun r9 f1 h9 => ?_)
  obtain ⟨rfl, hq⟩ := h9
  obtain ⟨⟨fs1, hy1⟩, k1, w1, hC⟩ := hB f1 hq
  refine V_aload_n X rfl dL_law_965 ?_
  refine V_callV (kc' := kc) (ks' := ks) X (rest := [.int v]) hC hy1 rfl gL_law_X6_matches rfl hdv_X6_matches (Nat.le_of_ble_eq_true rfl) (Nat.le_of_ble_eq_true rfl) rfl (Nat.le_of_ble_eq_true rfl) (by omega) (by omega) dL_law_966 (fun r9 f2 h9 => ?_)
  obtain ⟨rfl, hI2⟩ := h9
  exact V_icmp_eq X (tgt := 1223) (by decide) dL_law_969 (fun _ => kk f2 _ _ hI2) (fun h9 => absurd rfl h9)
set_option maxHeartbeats 1000000 in
set_option maxRecDepth 100000 in
theorem s_matchState {K : VK} (X : CX K cL_law RL wsL_law 7 2048 84000) (hCF : CF (kS K)) (hl : (kL K).stackTraces = false) {f : Wo} {x y b o L k kc ks : Nat} {xs : Nat → Int32} {s7 : Int32} {w0 : Int64} (hI : LI (kG K) x y o k s7 w0 f) (hX : va_X b L xs (kS K) (kS K).heap) (hbl : b < (kS K).heap.size) (hbA : ¬ gA (kG K) b) (hk : 3 * k + 2 < L) (hL : L ≤ 1536) (kk : ∀ (f2 : Wo) (s7 : Int32) (w0 : Int64), LI (kG K) x y o (k + 1) s7 w0 f2 → V K f2 kc ks 1223 [(0, .ref b), (1, .ref x), (2, .ref y), (3, .ref o), (4, .int (nI (3 * k)))] []) : V K f (kc + 350) (ks + 9200) 974 [(0, .ref b), (1, .ref x), (2, .ref y), (3, .ref o), (4, .int (nI (3 * k)))] [] := by
  obtain ⟨al, am, fi, z, sc, ar, c, g, rfl, rfl, hR, hM, hS, hn, hW, h7, h0⟩ := hI
  obtain ⟨k1, mc, ms, Q, hmc, hms, hA, hB⟩ := o_matchState (n := k + 1) (kL K) hl hR hM hS hW (by omega) (xs (3 * k + 1))
  refine V_aload_n X rfl dL_law_974 ?_
  refine V_scr X (j := 1) hX hbl hbA (by omega) hL (by decide) rfl rfl dL_law_975 dL_law_976 dL_law_978 dL_law_979 dL_law_980 ?_
  refine V_aload_n X rfl dL_law_981 ?_
  refine V_callSH (kc' := kc + 346) (ks' := ks + 9000) X (rest := []) hCF hA gL_law_L_matchState rfl hds_L_matchState (Nat.le_of_ble_eq_true rfl) (Nat.le_of_ble_eq_true rfl) rfl (Nat.le_of_ble_eq_true rfl) (by omega) (by omega) dL_law_982 (fun r9 f1 h9 => ?_)
  obtain ⟨rfl, hq⟩ := h9
  refine V_istore X (lv' := [(5, _), (0, _), (1, _), (2, _), (3, _), (4, _)]) (by decide) rfl dL_law_985 ?_
  obtain ⟨⟨fs1, hy1⟩, v, w1, hE, hC⟩ := hB f1 hq
  refine V_aload_n X rfl dL_law_987 ?_
  refine V_scr X (j := 1) hX hbl hbA (by omega) hL (by decide) rfl rfl dL_law_988 dL_law_989 dL_law_991 dL_law_992 dL_law_993 ?_
  refine V_callV (kc' := kc + 346) (ks' := ks + 9000) X (rest := []) hC hy1 rfl gL_law_X6_matchState rfl hdv_X6_matchState (Nat.le_of_ble_eq_true rfl) (Nat.le_of_ble_eq_true rfl) rfl (Nat.le_of_ble_eq_true rfl) (by omega) (by omega) dL_law_994 (fun r9 f2 h9 => ?_)
  obtain ⟨rfl, hI2⟩ := h9
  obtain ⟨hth, ⟨fs2, hy2⟩, g2, ho2, hg2⟩ := hI2.thr (kL K)
  refine V_istore X (lv' := [(6, _), (5, _), (0, _), (1, _), (2, _), (3, _), (4, _)]) (by decide) rfl dL_law_997 ?_
  have J : V K f2 (kc + 346) (ks + 9000) 1027 [(6, .int v), (5, .int k1), (0, .ref b), (1, .ref (al (15, 0))), (2, .ref (am 0)), (3, .ref o), (4, .int (nI (3 * k)))] [] := by
    refine V_goto X (tgt := 1223) (by decide) dL_law_1027 ?_
    refine V.lvs (lv' := [(0, _), (1, _), (2, _), (3, _), (4, _)]) rfl ?_
    exact V.bud (by omega) (by omega) (kk f2 _ _ hI2)
  refine V_aload_n X rfl dL_law_999 ?_
  refine V_callVp X (rest := []) hth hy2 rfl gL_law_X6_thrown rfl hdv_X6_thrown (Nat.le_of_ble_eq_true rfl) (Nat.le_of_ble_eq_true rfl) rfl (Nat.le_of_ble_eq_true rfl) dL_law_1000 ?_
  refine V_iload X rfl dL_law_1003 ?_
  refine V_icmp_eq X (tgt := 1010) (by decide) dL_law_1005 (fun _ => ?_) (fun h9 => absurd rfl h9)
  refine V_iload X rfl dL_law_1010 ?_
  refine V_if_ne X (tgt := 1027) (by decide) dL_law_1012 (fun _ => J) (fun h9 => ?_)
  refine V_aload_n X rfl dL_law_1015 ?_
  refine V_iconst X (v := 0) (by decide) dL_law_1016 ?_
  refine V_lald X ho2 (vp_in_nI (n := 0) (N := 1) (by decide) (by decide)) dL_law_1017 ?_
  refine V.stk (st' := [.long v.toInt64]) (by rw [show g2 (0 : Int32).toNatClampNeg = w1 from hg2, show w1 = v.toInt64 from hE h9]) ?_
  refine V_iload X rfl dL_law_1018 ?_
  refine V_i2l X dL_law_1020 ?_
  refine V_lcmp X dL_law_1021 ?_
  refine V.top (y := 0) (lg_cmp_self _) ?_
  exact V_if_eq X (tgt := 1027) (by decide) dL_law_1022 (fun _ => J) (fun h9 => absurd rfl h9)
set_option maxHeartbeats 1000000 in
set_option maxRecDepth 100000 in
theorem s_team {K : VK} (X : CX K cL_law RL wsL_law 7 2048 84000) (hCF : CF (kS K)) (hl : (kL K).stackTraces = false) {f : Wo} {x y b o L k kc ks : Nat} {xs : Nat → Int32} {s7 : Int32} {w0 : Int64} (hI : LI (kG K) x y o k s7 w0 f) (hX : va_X b L xs (kS K) (kS K).heap) (hbl : b < (kS K).heap.size) (hbA : ¬ gA (kG K) b) (hk : 3 * k + 2 < L) (hL : L ≤ 1536) (kk : ∀ (f2 : Wo) (s7 : Int32) (w0 : Int64), LI (kG K) x y o (k + 1) s7 w0 f2 → V K f2 kc ks 1223 [(0, .ref b), (1, .ref x), (2, .ref y), (3, .ref o), (4, .int (nI (3 * k)))] []) : V K f (kc + 350) (ks + 9200) 1030 [(0, .ref b), (1, .ref x), (2, .ref y), (3, .ref o), (4, .int (nI (3 * k)))] [] := by
  obtain ⟨al, am, fi, z, sc, ar, c, g, rfl, rfl, hR, hM, hS, hn, hW, h7, h0⟩ := hI
  obtain ⟨k1, mc, ms, Q, hmc, hms, hA, hB⟩ := o_team (n := k + 1) (kL K) hl hR hM hS hW (by omega) (xs (3 * k + 1)) (xs (3 * k + 2))
  refine V_aload_n X rfl dL_law_1030 ?_
  refine V_scr X (j := 1) hX hbl hbA (by omega) hL (by decide) rfl rfl dL_law_1031 dL_law_1032 dL_law_1034 dL_law_1035 dL_law_1036 ?_
  refine V_scr X (j := 2) hX hbl hbA (by omega) hL (by decide) rfl rfl dL_law_1037 dL_law_1038 dL_law_1040 dL_law_1041 dL_law_1042 ?_
  refine V_aload_n X rfl dL_law_1043 ?_
  refine V_callSH (kc' := kc + 346) (ks' := ks + 9000) X (rest := []) hCF hA gL_law_L_team rfl hds_L_team (Nat.le_of_ble_eq_true rfl) (Nat.le_of_ble_eq_true rfl) rfl (Nat.le_of_ble_eq_true rfl) (by omega) (by omega) dL_law_1044 (fun r9 f1 h9 => ?_)
  obtain ⟨rfl, hq⟩ := h9
  refine V_istore X (lv' := [(5, _), (0, _), (1, _), (2, _), (3, _), (4, _)]) (by decide) rfl dL_law_1047 ?_
  obtain ⟨⟨fs1, hy1⟩, v, w1, hE, hC⟩ := hB f1 hq
  refine V_aload_n X rfl dL_law_1049 ?_
  refine V_scr X (j := 1) hX hbl hbA (by omega) hL (by decide) rfl rfl dL_law_1050 dL_law_1051 dL_law_1053 dL_law_1054 dL_law_1055 ?_
  refine V_scr X (j := 2) hX hbl hbA (by omega) hL (by decide) rfl rfl dL_law_1056 dL_law_1057 dL_law_1059 dL_law_1060 dL_law_1061 ?_
  refine V_callV (kc' := kc + 346) (ks' := ks + 9000) X (rest := []) hC hy1 rfl gL_law_X6_team rfl hdv_X6_team (Nat.le_of_ble_eq_true rfl) (Nat.le_of_ble_eq_true rfl) rfl (Nat.le_of_ble_eq_true rfl) (by omega) (by omega) dL_law_1062 (fun r9 f2 h9 => ?_)
  obtain ⟨rfl, hI2⟩ := h9
  obtain ⟨hth, ⟨fs2, hy2⟩, g2, ho2, hg2⟩ := hI2.thr (kL K)
  refine V_istore X (lv' := [(6, _), (5, _), (0, _), (1, _), (2, _), (3, _), (4, _)]) (by decide) rfl dL_law_1065 ?_
  have J : V K f2 (kc + 346) (ks + 9000) 1095 [(6, .int v), (5, .int k1), (0, .ref b), (1, .ref (al (15, 0))), (2, .ref (am 0)), (3, .ref o), (4, .int (nI (3 * k)))] [] := by
    refine V_goto X (tgt := 1223) (by decide) dL_law_1095 ?_
    refine V.lvs (lv' := [(0, _), (1, _), (2, _), (3, _), (4, _)]) rfl ?_
    exact V.bud (by omega) (by omega) (kk f2 _ _ hI2)
  refine V_aload_n X rfl dL_law_1067 ?_
  refine V_callVp X (rest := []) hth hy2 rfl gL_law_X6_thrown rfl hdv_X6_thrown (Nat.le_of_ble_eq_true rfl) (Nat.le_of_ble_eq_true rfl) rfl (Nat.le_of_ble_eq_true rfl) dL_law_1068 ?_
  refine V_iload X rfl dL_law_1071 ?_
  refine V_icmp_eq X (tgt := 1078) (by decide) dL_law_1073 (fun _ => ?_) (fun h9 => absurd rfl h9)
  refine V_iload X rfl dL_law_1078 ?_
  refine V_if_ne X (tgt := 1095) (by decide) dL_law_1080 (fun _ => J) (fun h9 => ?_)
  refine V_aload_n X rfl dL_law_1083 ?_
  refine V_iconst X (v := 0) (by decide) dL_law_1084 ?_
  refine V_lald X ho2 (vp_in_nI (n := 0) (N := 1) (by decide) (by decide)) dL_law_1085 ?_
  refine V.stk (st' := [.long v.toInt64]) (by rw [show g2 (0 : Int32).toNatClampNeg = w1 from hg2, show w1 = v.toInt64 from hE h9]) ?_
  refine V_iload X rfl dL_law_1086 ?_
  refine V_i2l X dL_law_1088 ?_
  refine V_lcmp X dL_law_1089 ?_
  refine V.top (y := 0) (lg_cmp_self _) ?_
  exact V_if_eq X (tgt := 1095) (by decide) dL_law_1090 (fun _ => J) (fun h9 => absurd rfl h9)
set_option maxHeartbeats 1000000 in
set_option maxRecDepth 100000 in
theorem s_unevenness {K : VK} (X : CX K cL_law RL wsL_law 7 2048 84000) (hCF : CF (kS K)) (hl : (kL K).stackTraces = false) {f : Wo} {x y b o L k kc ks : Nat} {xs : Nat → Int32} {s7 : Int32} {w0 : Int64} (hI : LI (kG K) x y o k s7 w0 f) (hX : va_X b L xs (kS K) (kS K).heap) (hbl : b < (kS K).heap.size) (hbA : ¬ gA (kG K) b) (hk : 3 * k + 2 < L) (hL : L ≤ 1536) (kk : ∀ (f2 : Wo) (s7 : Int32) (w0 : Int64), LI (kG K) x y o (k + 1) s7 w0 f2 → V K f2 kc ks 1223 [(0, .ref b), (1, .ref x), (2, .ref y), (3, .ref o), (4, .int (nI (3 * k)))] []) : V K f (kc + 350) (ks + 9200) 1098 [(0, .ref b), (1, .ref x), (2, .ref y), (3, .ref o), (4, .int (nI (3 * k)))] [] := by
  obtain ⟨al, am, fi, z, sc, ar, c, g, rfl, rfl, hR, hM, hS, hn, hW, h7, h0⟩ := hI
  obtain ⟨k1, mc, ms, Q, hmc, hms, hA, hB⟩ := o_unevenness (n := k + 1) (kL K) hl hR hM hS hW (by omega) (xs (3 * k + 1))
  refine V_aload_n X rfl dL_law_1098 ?_
  refine V_scr X (j := 1) hX hbl hbA (by omega) hL (by decide) rfl rfl dL_law_1099 dL_law_1100 dL_law_1102 dL_law_1103 dL_law_1104 ?_
  refine V_aload_n X rfl dL_law_1105 ?_
  refine V_callSH (kc' := kc + 346) (ks' := ks + 9000) X (rest := []) hCF hA gL_law_L_unevenness rfl hds_L_unevenness (Nat.le_of_ble_eq_true rfl) (Nat.le_of_ble_eq_true rfl) rfl (Nat.le_of_ble_eq_true rfl) (by omega) (by omega) dL_law_1106 (fun r9 f1 h9 => ?_)
  obtain ⟨rfl, hq⟩ := h9
  refine V_istore X (lv' := [(5, _), (0, _), (1, _), (2, _), (3, _), (4, _)]) (by decide) rfl dL_law_1109 ?_
  obtain ⟨⟨fs1, hy1⟩, v, w1, hE, hC⟩ := hB f1 hq
  refine V_aload_n X rfl dL_law_1111 ?_
  refine V_scr X (j := 1) hX hbl hbA (by omega) hL (by decide) rfl rfl dL_law_1112 dL_law_1113 dL_law_1115 dL_law_1116 dL_law_1117 ?_
  refine V_callV (kc' := kc + 346) (ks' := ks + 9000) X (rest := []) hC hy1 rfl gL_law_X6_unevenness rfl hdv_X6_unevenness (Nat.le_of_ble_eq_true rfl) (Nat.le_of_ble_eq_true rfl) rfl (Nat.le_of_ble_eq_true rfl) (by omega) (by omega) dL_law_1118 (fun r9 f2 h9 => ?_)
  obtain ⟨rfl, hI2⟩ := h9
  obtain ⟨hth, ⟨fs2, hy2⟩, g2, ho2, hg2⟩ := hI2.thr (kL K)
  refine V_istore X (lv' := [(6, _), (5, _), (0, _), (1, _), (2, _), (3, _), (4, _)]) (by decide) rfl dL_law_1121 ?_
  have J : V K f2 (kc + 346) (ks + 9000) 1151 [(6, .int v), (5, .int k1), (0, .ref b), (1, .ref (al (15, 0))), (2, .ref (am 0)), (3, .ref o), (4, .int (nI (3 * k)))] [] := by
    refine V_goto X (tgt := 1223) (by decide) dL_law_1151 ?_
    refine V.lvs (lv' := [(0, _), (1, _), (2, _), (3, _), (4, _)]) rfl ?_
    exact V.bud (by omega) (by omega) (kk f2 _ _ hI2)
  refine V_aload_n X rfl dL_law_1123 ?_
  refine V_callVp X (rest := []) hth hy2 rfl gL_law_X6_thrown rfl hdv_X6_thrown (Nat.le_of_ble_eq_true rfl) (Nat.le_of_ble_eq_true rfl) rfl (Nat.le_of_ble_eq_true rfl) dL_law_1124 ?_
  refine V_iload X rfl dL_law_1127 ?_
  refine V_icmp_eq X (tgt := 1134) (by decide) dL_law_1129 (fun _ => ?_) (fun h9 => absurd rfl h9)
  refine V_iload X rfl dL_law_1134 ?_
  refine V_if_ne X (tgt := 1151) (by decide) dL_law_1136 (fun _ => J) (fun h9 => ?_)
  refine V_aload_n X rfl dL_law_1139 ?_
  refine V_iconst X (v := 0) (by decide) dL_law_1140 ?_
  refine V_lald X ho2 (vp_in_nI (n := 0) (N := 1) (by decide) (by decide)) dL_law_1141 ?_
  refine V.stk (st' := [.long v.toInt64]) (by rw [show g2 (0 : Int32).toNatClampNeg = w1 from hg2, show w1 = v.toInt64 from hE h9]) ?_
  refine V_iload X rfl dL_law_1142 ?_
  refine V_i2l X dL_law_1144 ?_
  refine V_lcmp X dL_law_1145 ?_
  refine V.top (y := 0) (lg_cmp_self _) ?_
  exact V_if_eq X (tgt := 1151) (by decide) dL_law_1146 (fun _ => J) (fun h9 => absurd rfl h9)
set_option maxHeartbeats 1000000 in
set_option maxRecDepth 100000 in
theorem s_pass {K : VK} (X : CX K cL_law RL wsL_law 7 2048 84000) (hCF : CF (kS K)) (hl : (kL K).stackTraces = false) {f : Wo} {x y b o L k kc ks : Nat} {xs : Nat → Int32} {s7 : Int32} {w0 : Int64} (hI : LI (kG K) x y o k s7 w0 f) (hX : va_X b L xs (kS K) (kS K).heap) (hbl : b < (kS K).heap.size) (hbA : ¬ gA (kG K) b) (hk : 3 * k + 2 < L) (hL : L ≤ 1536) (kk : ∀ (f2 : Wo) (s7 : Int32) (w0 : Int64), LI (kG K) x y o (k + 1) s7 w0 f2 → V K f2 kc ks 1223 [(0, .ref b), (1, .ref x), (2, .ref y), (3, .ref o), (4, .int (nI (3 * k)))] []) : V K f (kc + 350) (ks + 9200) 1154 [(0, .ref b), (1, .ref x), (2, .ref y), (3, .ref o), (4, .int (nI (3 * k)))] [] := by
  obtain ⟨al, am, fi, z, sc, ar, c, g, rfl, rfl, hR, hM, hS, hn, hW, h7, h0⟩ := hI
  obtain ⟨k1, mc, ms, Q, hmc, hms, hA, hB⟩ := o_pass (n := k + 1) (kL K) hl hR hM hS hW (by omega) (xs (3 * k + 1))
  refine V_aload_n X rfl dL_law_1154 ?_
  refine V_scr X (j := 1) hX hbl hbA (by omega) hL (by decide) rfl rfl dL_law_1155 dL_law_1156 dL_law_1158 dL_law_1159 dL_law_1160 ?_
  refine V_aload_n X rfl dL_law_1161 ?_
  refine V_callSH (kc' := kc + 346) (ks' := ks + 9000) X (rest := []) hCF hA gL_law_L_pass rfl hds_L_pass (Nat.le_of_ble_eq_true rfl) (Nat.le_of_ble_eq_true rfl) rfl (Nat.le_of_ble_eq_true rfl) (by omega) (by omega) dL_law_1162 (fun r9 f1 h9 => ?_)
  obtain ⟨rfl, hq⟩ := h9
  refine V_istore X (lv' := [(5, _), (0, _), (1, _), (2, _), (3, _), (4, _)]) (by decide) rfl dL_law_1165 ?_
  obtain ⟨⟨fs1, hy1⟩, v, w1, hE, hC⟩ := hB f1 hq
  refine V_aload_n X rfl dL_law_1167 ?_
  refine V_scr X (j := 1) hX hbl hbA (by omega) hL (by decide) rfl rfl dL_law_1168 dL_law_1169 dL_law_1171 dL_law_1172 dL_law_1173 ?_
  refine V_callV (kc' := kc + 346) (ks' := ks + 9000) X (rest := []) hC hy1 rfl gL_law_X6_pass rfl hdv_X6_pass (Nat.le_of_ble_eq_true rfl) (Nat.le_of_ble_eq_true rfl) rfl (Nat.le_of_ble_eq_true rfl) (by omega) (by omega) dL_law_1174 (fun r9 f2 h9 => ?_)
  obtain ⟨rfl, hI2⟩ := h9
  obtain ⟨hth, ⟨fs2, hy2⟩, g2, ho2, hg2⟩ := hI2.thr (kL K)
  refine V_istore X (lv' := [(6, _), (5, _), (0, _), (1, _), (2, _), (3, _), (4, _)]) (by decide) rfl dL_law_1177 ?_
  have J : V K f2 (kc + 346) (ks + 9000) 1207 [(6, .int v), (5, .int k1), (0, .ref b), (1, .ref (al (15, 0))), (2, .ref (am 0)), (3, .ref o), (4, .int (nI (3 * k)))] [] := by
    refine V_goto X (tgt := 1223) (by decide) dL_law_1207 ?_
    refine V.lvs (lv' := [(0, _), (1, _), (2, _), (3, _), (4, _)]) rfl ?_
    exact V.bud (by omega) (by omega) (kk f2 _ _ hI2)
  refine V_aload_n X rfl dL_law_1179 ?_
  refine V_callVp X (rest := []) hth hy2 rfl gL_law_X6_thrown rfl hdv_X6_thrown (Nat.le_of_ble_eq_true rfl) (Nat.le_of_ble_eq_true rfl) rfl (Nat.le_of_ble_eq_true rfl) dL_law_1180 ?_
  refine V_iload X rfl dL_law_1183 ?_
  refine V_icmp_eq X (tgt := 1190) (by decide) dL_law_1185 (fun _ => ?_) (fun h9 => absurd rfl h9)
  refine V_iload X rfl dL_law_1190 ?_
  refine V_if_ne X (tgt := 1207) (by decide) dL_law_1192 (fun _ => J) (fun h9 => ?_)
  refine V_aload_n X rfl dL_law_1195 ?_
  refine V_iconst X (v := 0) (by decide) dL_law_1196 ?_
  refine V_lald X ho2 (vp_in_nI (n := 0) (N := 1) (by decide) (by decide)) dL_law_1197 ?_
  refine V.stk (st' := [.long v.toInt64]) (by rw [show g2 (0 : Int32).toNatClampNeg = w1 from hg2, show w1 = v.toInt64 from hE h9]) ?_
  refine V_iload X rfl dL_law_1198 ?_
  refine V_i2l X dL_law_1200 ?_
  refine V_lcmp X dL_law_1201 ?_
  refine V.top (y := 0) (lg_cmp_self _) ?_
  exact V_if_eq X (tgt := 1207) (by decide) dL_law_1202 (fun _ => J) (fun h9 => absurd rfl h9)
set_option maxHeartbeats 1000000 in
set_option maxRecDepth 100000 in
theorem s_clock {K : VK} (X : CX K cL_law RL wsL_law 7 2048 84000) (hCF : CF (kS K)) (hl : (kL K).stackTraces = false) {f : Wo} {x y b o L k kc ks : Nat} {xs : Nat → Int32} {s7 : Int32} {w0 : Int64} (hI : LI (kG K) x y o k s7 w0 f) (hX : va_X b L xs (kS K) (kS K).heap) (hbl : b < (kS K).heap.size) (hbA : ¬ gA (kG K) b) (hk : 3 * k + 2 < L) (hL : L ≤ 1536) (kk : ∀ (f2 : Wo) (s7 : Int32) (w0 : Int64), LI (kG K) x y o (k + 1) s7 w0 f2 → V K f2 kc ks 1223 [(0, .ref b), (1, .ref x), (2, .ref y), (3, .ref o), (4, .int (nI (3 * k)))] []) : V K f (kc + 350) (ks + 9200) 1210 [(0, .ref b), (1, .ref x), (2, .ref y), (3, .ref o), (4, .int (nI (3 * k)))] [] := by
  obtain ⟨al, am, fi, z, sc, ar, c, g, rfl, rfl, hR, hM, hS, hn, hW, h7, h0⟩ := hI
  obtain ⟨v, mc, ms, Q, hmc, hms, hA, hB⟩ := o_clock (kL K) hR hM hS hW hn
  refine V_aload_n X rfl dL_law_1210 ?_
  refine V_callV (kc' := kc + 3) (ks' := ks + 40) X (rest := []) hA (hR.2.1 (15, 0) dm15) rfl gL_law_X5_clock rfl hdv_X5_clock (Nat.le_of_ble_eq_true rfl) (Nat.le_of_ble_eq_true rfl) rfl (Nat.le_of_ble_eq_true rfl) (by omega) (by omega) dL_law_1211 (fun r9 f1 h9 => ?_)
  obtain ⟨rfl, hq⟩ := h9
  obtain ⟨⟨fs1, hy1⟩, k1, w1, hC⟩ := hB f1 hq
  refine V_aload_n X rfl dL_law_1214 ?_
  refine V_callV (kc' := kc) (ks' := ks) X (rest := [.int v]) hC hy1 rfl gL_law_X6_clock rfl hdv_X6_clock (Nat.le_of_ble_eq_true rfl) (Nat.le_of_ble_eq_true rfl) rfl (Nat.le_of_ble_eq_true rfl) (by omega) (by omega) dL_law_1215 (fun r9 f2 h9 => ?_)
  obtain ⟨rfl, hI2⟩ := h9
  exact V_icmp_eq X (tgt := 1223) (by decide) dL_law_1218 (fun _ => kk f2 _ _ hI2) (fun h9 => absurd rfl h9)
