/-! ===== the draft weighs a choice ===== -/
abbrev W6 : Type := Int32 × Int32 × Int32 × Int32 × Int32 × Int32
def wgS (fi : Nat → Nat → Int32) (z : CZ) (b : Bool) (p : Nat) (s : W6) : W6 := if b = true then (s.1 + nI (zL z (11, p)).length, s.2.1 + smC fi (zL z (11, p)), s.2.2.1 ||| fi 5 p, s.2.2.2.1, s.2.2.2.2.1 + fi 8 p, s.2.2.2.2.2) else (s.1, s.2.1 - smC fi (zL z (11, p)), s.2.2.1, s.2.2.2.1 ||| fi 5 p, s.2.2.2.2.1, s.2.2.2.2.2 + fi 8 p)
def wgL (fi : Nat → Nat → Int32) (z : CZ) (c : Int32) : Nat → W6
  | 0 => (0, 0, 0, 0, 0, 0)
  | n + 1 => wgS fi z (hsI c (nI (zL z (13, 4)).length - 1 - nI n)) ((zL z (13, 4)).getD n 0) (wgL fi z c n)
theorem wgL_1 {fi : Nat → Nat → Int32} {z : CZ} {c : Int32} {i j : Nat} {b : Bool} (hj : (zL z (13, 4))[i]? = some j) (hb : hsI c (nI (zL z (13, 4)).length - 1 - nI i) = b) : wgL fi z c (i + 1) = wgS fi z b j (wgL fi z c i) := by
  show wgS fi z (hsI c _) ((zL z (13, 4)).getD i 0) _ = _
  rw [hb, show (zL z (13, 4)).getD i 0 = j by simp [List.getD, hj]]
def abC (x : Int32) : Int32 := if 0 ≤ x then x else 0 - x
abbrev wgC (fi : Nat → Nat → Int32) (s : W6) : Prop := s.1 = 3 ∧ sfB s.2.2.2.2.1 1 = true ∧ sfB s.2.2.2.2.2 1 = true ∧ (fi 17 0 = -1 ∨ abC s.2.1 < fi 17 0)
def wgP (fi : Nat → Nat → Int32) (s : W6) : Nat → Nat → Int32 := if wgC fi s then fu (fu (fu fi 17 0 (abC s.2.1)) 15 0 s.2.2.1) 16 0 s.2.2.2.1 else fi
def wgF (fi : Nat → Nat → Int32) (z : CZ) (c : Int32) : Nat → Nat → Int32 := wgP fi (wgL fi z c (zL z (13, 4)).length)
theorem hinX0_weigh_X0 : ∀ w ∈ wsX00, w ∈ wsX0_weigh := by decide +kernel
theorem hinX0_weigh_X2 : ∀ w ∈ wsX20, w ∈ wsX0_weigh := by decide +kernel
set_option maxHeartbeats 4000000 in
set_option maxRecDepth 100000 in
theorem c_X0_weigh (l : Launch) (G : GG) (f : Wo) (al : Tg → Nat) (fi : Nat → Nat → Int32) (z : CZ) (hR : RC G al fi z f) (c : Int32) : Ct l yX0_weigh wsX0_weigh 10 182 G [.ref (al (14, 0)), .int c] f (fun v9 f' => v9 = none ∧ RC G al (wgF fi z c) (z) f' ∧ FrC f f') 0 0 := by
  refine Ct.of (cc := cX0_weigh) (maxL := 10) (ret := none) (by decide) rfl (Nat.le_of_ble_eq_true rfl) (lv := [(0, _), (1, _)]) rfl (by simp [Value.category]) ?_
  intro K X hL hG hr hnm
  subst hL; subst hG
  have hF : FrC f f := FrC.rf
  have hL := (hR.cap (dl13 (n := zN z) (k := 4) (by decide))).1
  have hL2 := (hR.cap (dl13 (n := zN z) (k := 4) (by decide))).2
  have L : ∀ (n i : Nat), (zL z (13, 4)).length - i = n → i ≤ (zL z (13, 4)).length → V K f 0 0 19 [(0, .ref (al (14, 0))), (1, .int c), (2, .int (wgL fi z c i).1), (3, .int (wgL fi z c i).2.1), (4, .int (wgL fi z c i).2.2.1), (5, .int (wgL fi z c i).2.2.2.1), (6, .int (wgL fi z c i).2.2.2.2.1), (7, .int (wgL fi z c i).2.2.2.2.2), (8, .int (nI i))] [] := by
    intro n
    induction n using Nat.strongRecOn with
    | ind n ih =>
      intro i hn hi
      refine V_iload X rfl dX0_weigh_19 ?_
      refine V_aload_n X rfl dX0_weigh_21 ?_
      refine V_get X (T := TX0) (N := 5) (v := .ref _) 1 (hR.2.1 (14, 0) (dm14)) rfl hinX0_weigh_X0 (by decide) (by decide +kernel) (fun _ h9 => h9) (rfl) dX0_weigh_22 ?_
      refine V_csize X hR (rest := _) (13, 4) (dl13 (by decide)) gX0_weigh_Jx4a65c_size_8abf5 (Nat.le_of_ble_eq_true rfl) (Nat.le_of_ble_eq_true rfl) (Nat.le_of_ble_eq_true rfl) dX0_weigh_25 ?_
      refine V_icmp_ge X (tgt := 140) (by decide) dX0_weigh_28 (fun hc28 => ?_) (fun hc28 => ?_)
      · have hiN := lim_ge (N := (zL z (13, 4)).length) rfl hc28 hi (by omega)
        rw [hiN]
        refine V_iload X rfl dX0_weigh_140 ?_
        refine V_iconst X (v := 1) (by decide) dX0_weigh_142 ?_
        refine V_callSp X (rest := _) (c_X4_suffice _ _ _ _ _) gX0_weigh_X4_suffice rfl hds_X4_suffice (Nat.le_of_ble_eq_true rfl) (Nat.le_of_ble_eq_true rfl) rfl (Nat.le_of_ble_eq_true rfl) dX0_weigh_143 ?_
        refine V_if_eq X (tgt := 162) (by decide) dX0_weigh_146 (fun hc146 => ?_) (fun hc146 => ?_)
        · refine V_iconst X (v := 0) (by decide) dX0_weigh_162 ?_
          refine V_istore X (lv' := [(8, _), (0, _), (1, _), (2, _), (3, _), (4, _), (5, _), (6, _), (7, _)]) (by decide) rfl dX0_weigh_163 ?_
          refine V_iload_n X rfl dX0_weigh_165 ?_
          refine V_iconst X (v := 3) (by decide) dX0_weigh_166 ?_
          refine V_icmp_ne X (tgt := 214) (by decide) dX0_weigh_167 (fun hc167 => ?_) (fun hc167 => ?_)
          · exact V_vret X hr (⟨rfl, (by rw [show wgF fi z c = fi from if_neg (fun q : wgC fi (wgL fi z c (zL z (13, 4)).length) => hc167 q.1)]; exact hR), hF⟩) dX0_weigh_214
          · refine V_iload X rfl dX0_weigh_170 ?_
            refine V_if_eq X (tgt := 214) (by decide) dX0_weigh_172 (fun hc172 => ?_) (fun hc172 => absurd hc172 (by decide))
            exact V_vret X hr (⟨rfl, (by rw [show wgF fi z c = fi from if_neg (fun q : wgC fi (wgL fi z c (zL z (13, 4)).length) => absurd q.2.1 (by rw [show sfB _ 1 = false from bI_eq0 hc146]; decide))]; exact hR), hF⟩) dX0_weigh_214
        · refine V_iload X rfl dX0_weigh_149 ?_
          refine V_iconst X (v := 1) (by decide) dX0_weigh_151 ?_
          refine V_callSp X (rest := _) (c_X4_suffice _ _ _ _ _) gX0_weigh_X4_suffice rfl hds_X4_suffice (Nat.le_of_ble_eq_true rfl) (Nat.le_of_ble_eq_true rfl) rfl (Nat.le_of_ble_eq_true rfl) dX0_weigh_152 ?_
          refine V_if_eq X (tgt := 162) (by decide) dX0_weigh_155 (fun hc155 => ?_) (fun hc155 => ?_)
          · refine V_iconst X (v := 0) (by decide) dX0_weigh_162 ?_
            refine V_istore X (lv' := [(8, _), (0, _), (1, _), (2, _), (3, _), (4, _), (5, _), (6, _), (7, _)]) (by decide) rfl dX0_weigh_163 ?_
            refine V_iload_n X rfl dX0_weigh_165 ?_
            refine V_iconst X (v := 3) (by decide) dX0_weigh_166 ?_
            refine V_icmp_ne X (tgt := 214) (by decide) dX0_weigh_167 (fun hc167 => ?_) (fun hc167 => ?_)
            · exact V_vret X hr (⟨rfl, (by rw [show wgF fi z c = fi from if_neg (fun q : wgC fi (wgL fi z c (zL z (13, 4)).length) => hc167 q.1)]; exact hR), hF⟩) dX0_weigh_214
            · refine V_iload X rfl dX0_weigh_170 ?_
              refine V_if_eq X (tgt := 214) (by decide) dX0_weigh_172 (fun hc172 => ?_) (fun hc172 => absurd hc172 (by decide))
              exact V_vret X hr (⟨rfl, (by rw [show wgF fi z c = fi from if_neg (fun q : wgC fi (wgL fi z c (zL z (13, 4)).length) => absurd q.2.2.1 (by rw [show sfB _ 1 = false from bI_eq0 hc155]; decide))]; exact hR), hF⟩) dX0_weigh_214
          · refine V_iconst X (v := 1) (by decide) dX0_weigh_158 ?_
            refine V_goto X (tgt := 163) (by decide) dX0_weigh_159 ?_
            refine V_istore X (lv' := [(8, _), (0, _), (1, _), (2, _), (3, _), (4, _), (5, _), (6, _), (7, _)]) (by decide) rfl dX0_weigh_163 ?_
            refine V_iload_n X rfl dX0_weigh_165 ?_
            refine V_iconst X (v := 3) (by decide) dX0_weigh_166 ?_
            refine V_icmp_ne X (tgt := 214) (by decide) dX0_weigh_167 (fun hc167 => ?_) (fun hc167 => ?_)
            · exact V_vret X hr (⟨rfl, (by rw [show wgF fi z c = fi from if_neg (fun q : wgC fi (wgL fi z c (zL z (13, 4)).length) => hc167 q.1)]; exact hR), hF⟩) dX0_weigh_214
            · refine V_iload X rfl dX0_weigh_170 ?_
              refine V_if_eq X (tgt := 214) (by decide) dX0_weigh_172 (fun hc172 => absurd hc172 (by decide)) (fun hc172 => ?_)
              refine V_aload_n X rfl dX0_weigh_175 ?_
              refine V_get X (T := TX0) (N := 5) (v := .int _) 4 (hR.2.1 (14, 0) (dm14)) rfl hinX0_weigh_X0 (by decide) (by decide +kernel) (fun _ h9 => h9) (rfl) dX0_weigh_176 ?_
              refine V_iconst X (v := (-1)) (by decide) dX0_weigh_179 ?_
              refine V_icmp_eq X (tgt := 194) (by decide) dX0_weigh_180 (fun hc180 => ?_) (fun hc180 => ?_)
              · refine V_aload_n X rfl dX0_weigh_194 ?_
                refine V_iload_n X rfl dX0_weigh_195 ?_
                refine V_abs X (by decide +kernel) (by decide +kernel) (by decide +kernel) (by decide +kernel) (Nat.le_of_ble_eq_true rfl) (Nat.le_of_ble_eq_true rfl) dX0_weigh_196 ?_
                refine V_cput X hR hF (T := TX0) (N := 5) 17 0 4 (dm14) rfl hinX0_weigh_X0 tyX0_ok nmX0 (by decide) (by decide +kernel) (fun _ h9 => h9) rfl rfl (Nat.le_of_ble_eq_true rfl) (fst_17 _ _ _ _ _) dX0_weigh_199 (fun f hR hF => ?_)
                refine V_aload_n X rfl dX0_weigh_202 ?_
                refine V_iload X rfl dX0_weigh_203 ?_
                refine V_cput X hR hF (T := TX0) (N := 5) 15 0 2 (dm14) rfl hinX0_weigh_X0 tyX0_ok nmX0 (by decide) (by decide +kernel) (fun _ h9 => h9) rfl rfl (Nat.le_of_ble_eq_true rfl) (fst_15 _ _ _ _ _) dX0_weigh_205 (fun f hR hF => ?_)
                refine V_aload_n X rfl dX0_weigh_208 ?_
                refine V_iload X rfl dX0_weigh_209 ?_
                refine V_cput X hR hF (T := TX0) (N := 5) 16 0 3 (dm14) rfl hinX0_weigh_X0 tyX0_ok nmX0 (by decide) (by decide +kernel) (fun _ h9 => h9) rfl rfl (Nat.le_of_ble_eq_true rfl) (fst_16 _ _ _ _ _) dX0_weigh_211 (fun f hR hF => ?_)
                exact V_vret X hr (⟨rfl, (by rw [show wgF fi z c = fu (fu (fu fi 17 0 (abC (wgL fi z c (zL z (13, 4)).length).2.1)) 15 0 (wgL fi z c (zL z (13, 4)).length).2.2.1) 16 0 (wgL fi z c (zL z (13, 4)).length).2.2.2.1 from if_pos (show wgC fi (wgL fi z c (zL z (13, 4)).length) from ⟨hc167, bI_ne0 hc146, bI_ne0 hc155, Or.inl hc180⟩)]; exact hR), hF⟩) dX0_weigh_214
              · refine V_iload_n X rfl dX0_weigh_183 ?_
                refine V_abs X (by decide +kernel) (by decide +kernel) (by decide +kernel) (by decide +kernel) (Nat.le_of_ble_eq_true rfl) (Nat.le_of_ble_eq_true rfl) dX0_weigh_184 ?_
                refine V_aload_n X rfl dX0_weigh_187 ?_
                refine V_get X (T := TX0) (N := 5) (v := .int _) 4 (hR.2.1 (14, 0) (dm14)) rfl hinX0_weigh_X0 (by decide) (by decide +kernel) (fun _ h9 => h9) (rfl) dX0_weigh_188 ?_
                refine V_icmp_ge X (tgt := 214) (by decide) dX0_weigh_191 (fun hc191 => ?_) (fun hc191 => ?_)
                · exact V_vret X hr (⟨rfl, (by rw [show wgF fi z c = fi from if_neg (fun q : wgC fi (wgL fi z c (zL z (13, 4)).length) => q.2.2.2.elim (fun q => hc180 q) (fun q => absurd q (Int32.not_lt.mpr hc191)))]; exact hR), hF⟩) dX0_weigh_214
                · refine V_aload_n X rfl dX0_weigh_194 ?_
                  refine V_iload_n X rfl dX0_weigh_195 ?_
                  refine V_abs X (by decide +kernel) (by decide +kernel) (by decide +kernel) (by decide +kernel) (Nat.le_of_ble_eq_true rfl) (Nat.le_of_ble_eq_true rfl) dX0_weigh_196 ?_
                  refine V_cput X hR hF (T := TX0) (N := 5) 17 0 4 (dm14) rfl hinX0_weigh_X0 tyX0_ok nmX0 (by decide) (by decide +kernel) (fun _ h9 => h9) rfl rfl (Nat.le_of_ble_eq_true rfl) (fst_17 _ _ _ _ _) dX0_weigh_199 (fun f hR hF => ?_)
                  refine V_aload_n X rfl dX0_weigh_202 ?_
                  refine V_iload X rfl dX0_weigh_203 ?_
                  refine V_cput X hR hF (T := TX0) (N := 5) 15 0 2 (dm14) rfl hinX0_weigh_X0 tyX0_ok nmX0 (by decide) (by decide +kernel) (fun _ h9 => h9) rfl rfl (Nat.le_of_ble_eq_true rfl) (fst_15 _ _ _ _ _) dX0_weigh_205 (fun f hR hF => ?_)
                  refine V_aload_n X rfl dX0_weigh_208 ?_
                  refine V_iload X rfl dX0_weigh_209 ?_
                  refine V_cput X hR hF (T := TX0) (N := 5) 16 0 3 (dm14) rfl hinX0_weigh_X0 tyX0_ok nmX0 (by decide) (by decide +kernel) (fun _ h9 => h9) rfl rfl (Nat.le_of_ble_eq_true rfl) (fst_16 _ _ _ _ _) dX0_weigh_211 (fun f hR hF => ?_)
                  exact V_vret X hr (⟨rfl, (by rw [show wgF fi z c = fu (fu (fu fi 17 0 (abC (wgL fi z c (zL z (13, 4)).length).2.1)) 15 0 (wgL fi z c (zL z (13, 4)).length).2.2.1) 16 0 (wgL fi z c (zL z (13, 4)).length).2.2.2.1 from if_pos (show wgC fi (wgL fi z c (zL z (13, 4)).length) from ⟨hc167, bI_ne0 hc146, bI_ne0 hc155, Or.inr (Int32.not_le.mp hc191)⟩)]; exact hR), hF⟩) dX0_weigh_214
      · have hlt := lim_lt (N := (zL z (13, 4)).length) rfl hc28 hi (by omega)
        obtain ⟨j, hj⟩ : ∃ j, (zL z (13, 4))[i]? = some j := ⟨_, List.getElem?_eq_getElem hlt⟩
        have hj1 : j < zN z 1 := hR.el (dl13 (by decide)) hj
        refine V_aload_n X rfl dX0_weigh_31 ?_
        refine V_get X (T := TX0) (N := 5) (v := .ref _) 1 (hR.2.1 (14, 0) (dm14)) rfl hinX0_weigh_X0 (by decide) (by decide +kernel) (fun _ h9 => h9) (rfl) dX0_weigh_32 ?_
        refine V_iload X rfl dX0_weigh_35 ?_
        refine V_cnth X hR (rest := _) (13, 4) (dl13 (by decide)) (i) (j) (hj) gX0_weigh_Jx4a65c_get_915e3 (Nat.le_of_ble_eq_true rfl) (Nat.le_of_ble_eq_true rfl) (Nat.le_of_ble_eq_true rfl) dX0_weigh_37 ?_
        refine V_cast X (hR.2.1 (1, j) (dm1 hj1)) rfl (by decide +kernel) dX0_weigh_40 ?_
        refine V_astore X (lv' := [(9, _), (0, _), (1, _), (2, _), (3, _), (4, _), (5, _), (6, _), (7, _), (8, _)]) (by decide) rfl dX0_weigh_43 ?_
        refine V_iload_n X rfl dX0_weigh_45 ?_
        refine V_aload_n X rfl dX0_weigh_46 ?_
        refine V_get X (T := TX0) (N := 5) (v := .ref _) 1 (hR.2.1 (14, 0) (dm14)) rfl hinX0_weigh_X0 (by decide) (by decide +kernel) (fun _ h9 => h9) (rfl) dX0_weigh_47 ?_
        refine V_csize X hR (rest := _) (13, 4) (dl13 (by decide)) gX0_weigh_Jx4a65c_size_8abf5 (Nat.le_of_ble_eq_true rfl) (Nat.le_of_ble_eq_true rfl) (Nat.le_of_ble_eq_true rfl) dX0_weigh_50 ?_
        refine V_iconst X (v := 1) (by decide) dX0_weigh_53 ?_
        refine V_isub X dX0_weigh_54 ?_
        refine V_iload X rfl dX0_weigh_55 ?_
        refine V_isub X dX0_weigh_57 ?_
        refine V_ishr X dX0_weigh_58 ?_
        refine V_iconst X (v := 1) (by decide) dX0_weigh_59 ?_
        refine V_iand X dX0_weigh_60 ?_
        refine V_if_eq X (tgt := 106) (by decide) dX0_weigh_61 (fun hc61 => ?_) (fun hc61 => ?_)
        · refine V_iload_n X rfl dX0_weigh_106 ?_
          refine V_aload X rfl dX0_weigh_107 ?_
          refine V_callVp X (rest := _) (c_X2_points _ _ _ al fi z hR j hj1) (hR.2.1 (1, j) (dm1 hj1)) rfl gX0_weigh_X2_points rfl hdv_X2_points (Nat.le_of_ble_eq_true rfl) (Nat.le_of_ble_eq_true rfl) rfl (Nat.le_of_ble_eq_true rfl) dX0_weigh_109 ?_
          refine V_isub X dX0_weigh_112 ?_
          refine V_istore_n X (lv' := [(3, _), (9, _), (0, _), (1, _), (2, _), (4, _), (5, _), (6, _), (7, _), (8, _)]) (by decide) rfl dX0_weigh_113 ?_
          refine V_iload X rfl dX0_weigh_114 ?_
          refine V_aload X rfl dX0_weigh_116 ?_
          refine V_get X (T := TX2) (N := 5) (v := .int _) 0 (hR.2.1 (1, j) (dm1 hj1)) rfl hinX0_weigh_X2 (by decide) (by decide +kernel) (fun _ h9 => h9) (rfl) dX0_weigh_118 ?_
          refine V_ior X dX0_weigh_121 ?_
          refine V_istore X (lv' := [(5, _), (3, _), (9, _), (0, _), (1, _), (2, _), (4, _), (6, _), (7, _), (8, _)]) (by decide) rfl dX0_weigh_122 ?_
          refine V_iload X rfl dX0_weigh_124 ?_
          refine V_aload X rfl dX0_weigh_126 ?_
          refine V_get X (T := TX2) (N := 5) (v := .int _) 4 (hR.2.1 (1, j) (dm1 hj1)) rfl hinX0_weigh_X2 (by decide) (by decide +kernel) (fun _ h9 => h9) (rfl) dX0_weigh_128 ?_
          refine V_iadd X dX0_weigh_131 ?_
          refine V_istore X (lv' := [(7, _), (5, _), (3, _), (9, _), (0, _), (1, _), (2, _), (4, _), (6, _), (8, _)]) (by decide) rfl dX0_weigh_132 ?_
          refine V_iinc X (lv' := [(8, _), (7, _), (5, _), (3, _), (9, _), (0, _), (1, _), (2, _), (4, _), (6, _)]) (v := nI (i + 1)) rfl (nI_1 _) (by decide) rfl dX0_weigh_134 ?_
          refine V_goto X (tgt := 19) (by decide) dX0_weigh_137 ?_
          refine V.lvs (lv' := [(0, _), (1, _), (2, _), (3, _), (4, _), (5, _), (6, _), (7, _), (8, _)]) rfl ?_
          have h9 := ih ((zL z (13, 4)).length - (i + 1)) (by omega) (i + 1) rfl (by omega)
          rw [wgL_1 (fi := fi) hj (show hsI c _ = false from hs_eq hc61)] at h9
          exact h9
        · refine V_iload_n X rfl dX0_weigh_64 ?_
          refine V_aload X rfl dX0_weigh_65 ?_
          refine V_get X (T := TX2) (N := 5) (v := .ref _) 2 (hR.2.1 (1, j) (dm1 hj1)) rfl hinX0_weigh_X2 (by decide) (by decide +kernel) (fun _ h9 => h9) (rfl) dX0_weigh_67 ?_
          refine V_csize X hR (rest := _) (11, j) (dl11 hj1) gX0_weigh_Jx4a65c_size_8abf5 (Nat.le_of_ble_eq_true rfl) (Nat.le_of_ble_eq_true rfl) (Nat.le_of_ble_eq_true rfl) dX0_weigh_70 ?_
          refine V_iadd X dX0_weigh_73 ?_
          refine V_istore_n X (lv' := [(2, _), (9, _), (0, _), (1, _), (3, _), (4, _), (5, _), (6, _), (7, _), (8, _)]) (by decide) rfl dX0_weigh_74 ?_
          refine V_iload_n X rfl dX0_weigh_75 ?_
          refine V_aload X rfl dX0_weigh_76 ?_
          refine V_callVp X (rest := _) (c_X2_points _ _ _ al fi z hR j hj1) (hR.2.1 (1, j) (dm1 hj1)) rfl gX0_weigh_X2_points rfl hdv_X2_points (Nat.le_of_ble_eq_true rfl) (Nat.le_of_ble_eq_true rfl) rfl (Nat.le_of_ble_eq_true rfl) dX0_weigh_78 ?_
          refine V_iadd X dX0_weigh_81 ?_
          refine V_istore_n X (lv' := [(3, _), (2, _), (9, _), (0, _), (1, _), (4, _), (5, _), (6, _), (7, _), (8, _)]) (by decide) rfl dX0_weigh_82 ?_
          refine V_iload X rfl dX0_weigh_83 ?_
          refine V_aload X rfl dX0_weigh_85 ?_
          refine V_get X (T := TX2) (N := 5) (v := .int _) 0 (hR.2.1 (1, j) (dm1 hj1)) rfl hinX0_weigh_X2 (by decide) (by decide +kernel) (fun _ h9 => h9) (rfl) dX0_weigh_87 ?_
          refine V_ior X dX0_weigh_90 ?_
          refine V_istore X (lv' := [(4, _), (3, _), (2, _), (9, _), (0, _), (1, _), (5, _), (6, _), (7, _), (8, _)]) (by decide) rfl dX0_weigh_91 ?_
          refine V_iload X rfl dX0_weigh_93 ?_
          refine V_aload X rfl dX0_weigh_95 ?_
          refine V_get X (T := TX2) (N := 5) (v := .int _) 4 (hR.2.1 (1, j) (dm1 hj1)) rfl hinX0_weigh_X2 (by decide) (by decide +kernel) (fun _ h9 => h9) (rfl) dX0_weigh_97 ?_
          refine V_iadd X dX0_weigh_100 ?_
          refine V_istore X (lv' := [(6, _), (4, _), (3, _), (2, _), (9, _), (0, _), (1, _), (5, _), (7, _), (8, _)]) (by decide) rfl dX0_weigh_101 ?_
          refine V_goto X (tgt := 134) (by decide) dX0_weigh_103 ?_
          refine V_iinc X (lv' := [(8, _), (6, _), (4, _), (3, _), (2, _), (9, _), (0, _), (1, _), (5, _), (7, _)]) (v := nI (i + 1)) rfl (nI_1 _) (by decide) rfl dX0_weigh_134 ?_
          refine V_goto X (tgt := 19) (by decide) dX0_weigh_137 ?_
          refine V.lvs (lv' := [(0, _), (1, _), (2, _), (3, _), (4, _), (5, _), (6, _), (7, _), (8, _)]) rfl ?_
          have h9 := ih ((zL z (13, 4)).length - (i + 1)) (by omega) (i + 1) rfl (by omega)
          rw [wgL_1 (fi := fi) hj (show hsI c _ = true from hs_ne hc61)] at h9
          exact h9
  refine V_iconst X (v := 0) (by decide) dX0_weigh_0 ?_
  refine V_istore_n X (lv' := [(2, _), (0, _), (1, _)]) (by decide) rfl dX0_weigh_1 ?_
  refine V_iconst X (v := 0) (by decide) dX0_weigh_2 ?_
  refine V_istore_n X (lv' := [(3, _), (2, _), (0, _), (1, _)]) (by decide) rfl dX0_weigh_3 ?_
  refine V_iconst X (v := 0) (by decide) dX0_weigh_4 ?_
  refine V_istore X (lv' := [(4, _), (3, _), (2, _), (0, _), (1, _)]) (by decide) rfl dX0_weigh_5 ?_
  refine V_iconst X (v := 0) (by decide) dX0_weigh_7 ?_
  refine V_istore X (lv' := [(5, _), (4, _), (3, _), (2, _), (0, _), (1, _)]) (by decide) rfl dX0_weigh_8 ?_
  refine V_iconst X (v := 0) (by decide) dX0_weigh_10 ?_
  refine V_istore X (lv' := [(6, _), (5, _), (4, _), (3, _), (2, _), (0, _), (1, _)]) (by decide) rfl dX0_weigh_11 ?_
  refine V_iconst X (v := 0) (by decide) dX0_weigh_13 ?_
  refine V_istore X (lv' := [(7, _), (6, _), (5, _), (4, _), (3, _), (2, _), (0, _), (1, _)]) (by decide) rfl dX0_weigh_14 ?_
  refine V_iconst X (v := 0) (by decide) dX0_weigh_16 ?_
  refine V_istore X (lv' := [(8, _), (7, _), (6, _), (5, _), (4, _), (3, _), (2, _), (0, _), (1, _)]) (by decide) rfl dX0_weigh_17 ?_
  refine V.lvs (lv' := [(0, _), (1, _), (2, _), (3, _), (4, _), (5, _), (6, _), (7, _), (8, _)]) rfl ?_
  exact L _ 0 rfl (Nat.zero_le _)
def spL (fi : Nat → Nat → Int32) (z : CZ) (F : Nat) : Nat → Nat → Nat → Int32
  | 0 => fu fi 17 0 (-1)
  | n + 1 => wgF (spL fi z F n) z (nI (2 * F - 1 - n))
def spF (fi : Nat → Nat → Int32) (z : CZ) : Nat → Nat → Int32 := spL fi z (2 ^ ((zL z (13, 4)).length - 1)) (2 ^ ((zL z (13, 4)).length - 1))
theorem hinX0_split_X0 : ∀ w ∈ wsX00, w ∈ wsX0_split := by decide +kernel
set_option maxHeartbeats 4000000 in
set_option maxRecDepth 100000 in
theorem c_X0_split (l : Launch) (G : GG) (f : Wo) (al : Tg → Nat) (fi : Nat → Nat → Int32) (z : CZ) (hR : RC G al fi z f) (h1 : 1 ≤ (zL z (13, 4)).length) (h6 : (zL z (13, 4)).length ≤ 6) : Ct l yX0_split wsX0_split 11 211 G [.ref (al (14, 0))] f (fun v9 f' => v9 = some (.int (bI (decide (spF fi z 17 0 ≠ -1)))) ∧ RC G al (spF fi z) (z) f' ∧ FrC f f') 0 0 := by
  refine Ct.of (cc := cX0_split) (maxL := 3) (ret := (some .boolean)) (by decide) rfl (Nat.le_of_ble_eq_true rfl) (lv := [(0, _)]) rfl (by simp [Value.category]) ?_
  intro K X hL hG hr hnm
  subst hL; subst hG
  have hF : FrC f f := FrC.rf
  have hL := (hR.cap (dl13 (n := zN z) (k := 4) (by decide))).1
  have e1 : spF fi z = spL fi z (2 ^ ((zL z (13, 4)).length - 1)) (2 ^ ((zL z (13, 4)).length - 1)) := rfl
  have e2 : ((1 : Int32) <<< (nI ((zL z (13, 4)).length - 1) &&& 31)) = nI (2 ^ ((zL z (13, 4)).length - 1)) := nI_shl (by omega)
  have e3 : 2 ^ ((zL z (13, 4)).length - 1) ≤ 32 := by
    have h5 : 2 ^ ((zL z (13, 4)).length - 1) ≤ 2 ^ 5 := Nat.pow_le_pow_right (by decide) (by omega)
    exact h5
  have e4 : 1 ≤ 2 ^ ((zL z (13, 4)).length - 1) := Nat.one_le_two_pow
  rw [e1] at hr
  generalize 2 ^ ((zL z (13, 4)).length - 1) = F at hr e2 e3 e4
  have L : ∀ (n i : Nat), F - i = n → i ≤ F → ∀ f1 : Wo, RC (kG K) al (spL fi z F i) z f1 → FrC f f1 → V K f1 0 0 23 [(0, .ref (al (14, 0))), (1, .int (nI F)), (2, .int (nI (2 * F - 1 - i)))] [] := by
    intro n
    induction n using Nat.strongRecOn with
    | ind n ih =>
      intro i hn hi f1 hR hF
      refine V_iload_n X rfl dX0_split_23 ?_
      refine V_iload_n X rfl dX0_split_24 ?_
      refine V_icmp_lt X (tgt := 39) (by decide) dX0_split_25 (fun hc25 => ?_) (fun hc25 => ?_)
      · have hiN : i = F := by
          by_cases h9 : i = F
          · exact h9
          · exact absurd hc25 (nI_nlt (by omega) (by omega))
        rw [hiN] at hR
        refine V_aload_n X rfl dX0_split_39 ?_
        refine V_get X (T := TX0) (N := 5) (v := .int _) 4 (hR.2.1 (14, 0) (dm14)) rfl hinX0_split_X0 (by decide) (by decide +kernel) (fun _ h9 => h9) (rfl) dX0_split_40 ?_
        refine V_iconst X (v := (-1)) (by decide) dX0_split_43 ?_
        refine V_icmp_eq X (tgt := 51) (by decide) dX0_split_44 (fun hc44 => ?_) (fun hc44 => ?_)
        · refine V_iconst X (v := 0) (by decide) dX0_split_51 ?_
          exact V_zret X hr (by decide) (⟨bI_f (decide_eq_false (fun q => q hc44)), hR, hF⟩) dX0_split_52
        · refine V_iconst X (v := 1) (by decide) dX0_split_47 ?_
          refine V_goto X (tgt := 52) (by decide) dX0_split_48 ?_
          exact V_zret X hr (by decide) (⟨bI_t (decide_eq_true hc44), hR, hF⟩) dX0_split_52
      · have hlt : i < F := by
          by_cases h9 : i < F
          · exact h9
          · exact absurd (nI_lt (a := 2 * F - 1 - i) (b := F) (by omega) (by omega)) hc25
        refine V_aload_n X rfl dX0_split_28 ?_
        refine V_iload_n X rfl dX0_split_29 ?_
        refine V_callV (kc' := 0) (ks' := 0) X (rest := _) (c_X0_weigh _ _ _ al _ z hR _) (hR.2.1 (14, 0) (dm14)) rfl gX0_split_X0_weigh rfl hdv_X0_weigh (Nat.le_of_ble_eq_true rfl) (Nat.le_of_ble_eq_true rfl) rfl (Nat.le_of_ble_eq_true rfl) (by omega) (by omega) dX0_split_30 (fun r f1 hq => ?_)
        obtain ⟨rfl, hR, hF1⟩ := hq
        have hF := hF.trans hF1
        refine V_iinc X (lv' := [(2, _), (0, _), (1, _)]) (v := nI (2 * F - 1 - (i + 1))) rfl (by rw [show 2 * F - 1 - i = (2 * F - 1 - (i + 1)) + 1 by omega]; exact pk_m1 _) (by decide) rfl dX0_split_33 ?_
        refine V_goto X (tgt := 23) (by decide) dX0_split_36 ?_
        refine V.lvs (lv' := [(0, _), (1, _), (2, _)]) rfl ?_
        exact ih (F - (i + 1)) (by omega) (i + 1) rfl (by omega) _ hR hF
  refine V_aload_n X rfl dX0_split_0 ?_
  refine V_iconst X (v := (-1)) (by decide) dX0_split_1 ?_
  refine V_cput X hR hF (T := TX0) (N := 5) 17 0 4 (dm14) rfl hinX0_split_X0 tyX0_ok nmX0 (by decide) (by decide +kernel) (fun _ h9 => h9) rfl rfl (Nat.le_of_ble_eq_true rfl) (fst_17 _ _ _ _ _) dX0_split_2 (fun f hR hF => ?_)
  refine V_iconst X (v := 1) (by decide) dX0_split_5 ?_
  refine V_aload_n X rfl dX0_split_6 ?_
  refine V_get X (T := TX0) (N := 5) (v := .ref _) 1 (hR.2.1 (14, 0) (dm14)) rfl hinX0_split_X0 (by decide) (by decide +kernel) (fun _ h9 => h9) (rfl) dX0_split_7 ?_
  refine V_csize X hR (rest := _) (13, 4) (dl13 (by decide)) gX0_split_Jx4a65c_size_8abf5 (Nat.le_of_ble_eq_true rfl) (Nat.le_of_ble_eq_true rfl) (Nat.le_of_ble_eq_true rfl) dX0_split_10 ?_
  refine V_iconst X (v := 1) (by decide) dX0_split_13 ?_
  refine V_isub X dX0_split_14 ?_
  refine V.top (y := nI ((zL z (13, 4)).length - 1)) (pk_sub (by omega)) ?_
  refine V_ishl X dX0_split_15 ?_
  refine V.top (y := nI F) (e2) ?_
  refine V_istore_n X (lv' := [(1, _), (0, _)]) (by decide) rfl dX0_split_16 ?_
  refine V_iconst X (v := 2) (by decide) dX0_split_17 ?_
  refine V_iload_n X rfl dX0_split_18 ?_
  refine V_imul X dX0_split_19 ?_
  refine V.top (y := nI (2 * F)) (pk_mul 2 F) ?_
  refine V_iconst X (v := 1) (by decide) dX0_split_20 ?_
  refine V_isub X dX0_split_21 ?_
  refine V.top (y := nI (2 * F - 1)) (pk_sub (a := 2 * F) (b := 1) (by omega)) ?_
  refine V_istore_n X (lv' := [(2, _), (1, _), (0, _)]) (by decide) rfl dX0_split_22 ?_
  refine V.lvs (lv' := [(0, _), (1, _), (2, _)]) rfl ?_
  exact L _ 0 rfl (Nat.zero_le _) _ hR hF
