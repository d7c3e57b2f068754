/-! ===== the class's lists change ===== -/
def tu {α : Type} (g : Tg → α) (q : Tg) (v : α) : Tg → α := fun p => if p = q then v else g p
theorem tu_s {α : Type} (g : Tg → α) (q : Tg) (v : α) : tu g q v q = v := if_pos rfl
theorem tu_n {α : Type} (g : Tg → α) {p q : Tg} (v : α) (h : p ≠ q) : tu g q v p = g p := if_neg h
def zPut (z : CZ) (q : Tg) (ys : List Nat) (cap : Nat) : CZ := (tu (zL z) q ys, zA z, zN z, tu (zC z) q cap)
theorem RC.lchg {G : GG} {al : Tg → Nat} {fi : Nat → Nat → Int32} {z : CZ} {f f' : Wo} (h : RC G al fi z f) {q : Tg} (hq : dol (zN z) q) (h3 : q.1 ≠ 13 ∨ 3 ≤ q.2) {ys : List Nat} {cap : Nat} (hA : AL G f' (al q) q cap (ys.map (fun i => al (ek q, i)))) (hF : FrL (al q) f f') (hy : ∀ y ∈ ys, y < zN z (ek q)) (hc : cap ≤ 1000) : RC G al fi (zPut z q ys cap) f' ∧ FrC f f' := by
  obtain ⟨⟨w1, w2, w3, w4, w5⟩, h1, h2, g0, hg⟩ := h
  obtain ⟨vs, hv⟩ := (h2 q hq).hd
  refine ⟨⟨⟨fun p hp j hj => ?_, w2, fun j hj => ?_, fun p hp => ?_, w5⟩, fun p hp => ?_, fun p hp => ?_, g0, ?_⟩, fun b x hb hx => ?_⟩
  · by_cases hpq : p = q
    · subst hpq
      rw [show zL (zPut z p ys cap) p = ys from tu_s _ _ _] at hj
      exact hy j hj
    · rw [show zL (zPut z q ys cap) p = zL z p from tu_n _ _ hpq] at hj
      exact w1 p hp j hj
  · have hne : ((13, j) : Tg) ≠ q := fun e => by subst e; rcases h3 with h | h <;> simp at h; omega
    exact (tu_n _ _ hne).trans (w3 j hj)
  · by_cases hpq : p = q
    · subst hpq
      rw [show zC (zPut z p ys cap) p = cap from tu_s _ _ _]; exact hc
    · rw [show zC (zPut z q ys cap) p = zC z p from tu_n _ _ hpq]; exact w4 p hp
  · exact hF _ _ (h1 p hp) (w_neT hv (h1 p hp) (dom_ne hp hq).symm) (fun e => by have := dom_lt hp; rw [show p = (20, al q) from e] at this; omega)
  · by_cases hpq : p = q
    · subst hpq
      rw [show zC (zPut z p ys cap) p = cap from tu_s _ _ _, lst, show zL (zPut z p ys cap) p = ys from tu_s _ _ _]
      exact hA
    · rw [show zC (zPut z q ys cap) p = zC z p from tu_n _ _ hpq, lst, show zL (zPut z q ys cap) p = zL z p from tu_n _ _ hpq]
      obtain ⟨us, hu⟩ := (h2 p hp).hd
      have hpa : al p ≠ al q := w_neT hv hu (fun e => hpq e.symm)
      refine (h2 p hp).keep fun b x hb hx => hF b x hb (fun e => ?_) (fun e => ?_)
      · subst e
        rw [hv] at hb
        cases hb
        rcases hx with hx | hx | hx
        · exact hpa hx.symm
        · have := dol_lt hq; rw [show q = (20, al p) from hx] at this; omega
        · have := dol_lt hq; rw [show q = (99, 0) from hx] at this; omega
      · rcases hx with hx | hx | hx
        · subst hx
          rw [hu] at hb
          cases hb
          have := dol_lt hp; rw [show p = (20, al q) from e] at this; omega
        · rw [hx] at e; exact hpa (congrArg Prod.snd e)
        · rw [hx] at e; cases e
  · refine hF _ _ hg (w_neT hv hg (fun e => by have := dol_lt hq; rw [e] at this; omega)) (fun e => by cases e)
  · refine hF b x hb (fun e => ?_) (fun e => ?_)
    · subst e
      rw [hv] at hb
      cases hb
      have := dol_lt hq
      have h30 : 30 ≤ q.1 := hx
      omega
    · rw [e] at hx
      have h30 : 30 ≤ 20 := hx
      omega
def CN (k : Nat) : String := if k = 0 then RX3 else if k = 1 then RX2 else RX1
theorem CN_x {k : Nat} (hk : k ≤ 2) : Cond.castable (CN k) "java/lang/Object" ∈ xC ∧ CN k ≠ RJx4a65c := by
  have : k = 0 ∨ k = 1 ∨ k = 2 := by omega
  rcases this with rfl | rfl | rfl <;> exact ⟨by decide +kernel, by decide +kernel⟩
theorem ek_le (q : Tg) : ek q ≤ 2 := by unfold ek; split <;> (try omega); split <;> (try omega); split <;> (try omega); split <;> omega
theorem RC.one {G : GG} {al : Tg → Nat} {fi : Nat → Nat → Int32} {z : CZ} {f : Wo} (h : RC G al fi z f) {k j : Nat} (hk : k ≤ 2) (hj : j < zN z k) : ∃ (t : Tg) (ci : Nat) (vs : List Value) (T : u_T) (N : Nat), f (al (k, j)) = some (t, .inr (ci, vs)) ∧ vwCl[ci]? = some (CN k, T, N) ∧ t.1 ≠ 20 := by
  have hd : dom (zN z) (k, j) := Or.inl ⟨hk, hj⟩
  have : k = 0 ∨ k = 1 ∨ k = 2 := by omega
  rcases this with rfl | rfl | rfl
  · exact ⟨_, _, _, _, _, h.2.1 _ hd, rfl, by show (0 : Nat) ≠ 20; omega⟩
  · exact ⟨_, _, _, _, _, h.2.1 _ hd, rfl, by show (1 : Nat) ≠ 20; omega⟩
  · exact ⟨_, _, _, _, _, h.2.1 _ hd, rfl, by show (2 : Nat) ≠ 20; omega⟩
theorem RC.els {G : GG} {al : Tg → Nat} {fi : Nat → Nat → Int32} {z : CZ} {f : Wo} (h : RC G al fi z f) {q : Tg} (hq : dol (zN z) q) {i : Nat} (hi : i < zN z (ek q)) : EL f (CN (ek q)) (al (ek q, i) :: lst al (zL z) q) := fun x hx => by
  rcases List.mem_cons.mp hx with hx | hx
  · subst hx; exact h.one (ek_le q) hi
  · obtain ⟨j, hj, rfl⟩ := List.mem_map.mp hx
    exact h.one (ek_le q) (h.1.1 q hq j hj)
section VL
variable {K : VK} {cc : ByteArray} {own : String} {Ts : List Cond} {nL fr lo : Nat} {f f0 : Wo} {kc ks pc : Nat} {lv lv' : List (Nat × Value)} {st : List Value} {al : Tg → Nat} {fi : Nat → Nat → Int32} {z : CZ}
theorem V_cadd (X : CX K cc own Ts nL fr lo) (hR : RC (kG K) al fi z f) (hF : FrC f0 f) {rest : List Value} {index kc' ks' : Nat} (q : Tg) (hq : dol (zN z) q) (h3 : q.1 ≠ 13 ∨ 3 ≤ q.2) (i : Nat) (hi : i < zN z (ek q)) (hcp : cap2 (zC z q) (zL z q).length ≤ 1000) (hT : GoodIn Ts (wsV own index RJx4a65c yJx4a65c_add_9ea2d wsJx4a65c_add_9ea2d)) (hfr : 11 + 1 ≤ fr) (hlo : 8 + (2 + 11) + 207 ≤ lo) (hcat : (rest.map fun v => v.category).sum ≤ 8) (hkc : kc' + adC (zC z q) (zL z q).length ≤ kc) (hks : ks' + adS (zC z q) (zL z q).length ≤ ks) (hdg : decode cc pc = .ok (.invokevirtual index, 3)) (kk : ∀ f' : Wo, RC (kG K) al fi (zPut z q (zL z q ++ [i]) (cap2 (zC z q) (zL z q).length)) f' → FrC f0 f' → V K f' kc' ks' (pc + 3) lv (.int 1 :: rest)) : V K f kc ks pc lv (.ref (al (ek q, i)) :: .ref (al q) :: rest) := by
  obtain ⟨vs, hb⟩ := hR.lat hq
  have hl : (lst al (zL z) q).length = (zL z q).length := by rw [lst, List.length_map]
  obtain ⟨g0, hg0⟩ := hR.2.2.2
  have hq9 : q.1 ≠ 99 := by have := dol_lt hq; omega
  refine V_callV (kc' := kc') (ks' := ks') X (rest := rest) (c_Jx4a65c_add_9ea2d _ _ _ (al q) q hq9 _ _ (hR.2.2.1 q hq) (by have := (hR.cap hq).1; omega) ⟨_, hg0⟩ (CN (ek q)) (CN_x (ek_le q)).1 (CN_x (ek_le q)).2 (al (ek q, i)) (hR.els hq hi)) hb rfl hT rfl hdv_Jx4a65c_add_9ea2d hfr hlo rfl hcat (by rw [hl]; exact hkc) (by rw [hl]; exact hks) hdg (fun r f1 h => ?_)
  obtain ⟨rfl, hA, hL⟩ := h
  rw [hl] at hA
  have hA2 : AL (kG K) f1 (al q) q (cap2 (zC z q) (zL z q).length) ((zL z q ++ [i]).map (fun i => al (ek q, i))) := by rw [List.map_append]; exact hA
  obtain ⟨r1, r2⟩ := hR.lchg hq h3 hA2 hL (fun y hy => by
    rcases List.mem_append.mp hy with h | h
    · exact hR.1.1 q hq y h
    · rw [List.mem_singleton.mp h]; exact hi) hcp
  exact kk f1 r1 (hF.trans r2)
theorem V_cclr (X : CX K cc own Ts nL fr lo) (hR : RC (kG K) al fi z f) (hF : FrC f0 f) {rest : List Value} {index : Nat} (q : Tg) (hq : dol (zN z) q) (h3 : q.1 ≠ 13 ∨ 3 ≤ q.2) (hT : GoodIn Ts (wsV own index RJx4a65c yJx4a65c_clear_da8c8 wsJx4a65c_clear_da8c8)) (hfr : 1 + 1 ≤ fr) (hlo : 8 + (4 + 11) + 44 ≤ lo) (hcat : (rest.map fun v => v.category).sum ≤ 8) (hdg : decode cc pc = .ok (.invokevirtual index, 3)) (kk : ∀ f' : Wo, RC (kG K) al fi (zPut z q [] (zC z q)) f' → FrC f0 f' → V K f' kc ks (pc + 3) lv rest) : V K f kc ks pc lv (.ref (al q) :: rest) := by
  obtain ⟨vs, hb⟩ := hR.lat hq
  have hq9 : q.1 ≠ 99 := by have := dol_lt hq; omega
  refine V_callV (kc' := kc) (ks' := ks) X (rest := rest) (c_Jx4a65c_clear_da8c8 _ _ _ (al q) q hq9 _ _ (hR.2.2.1 q hq) (by have := (hR.cap hq).1; omega)) hb rfl hT rfl hdv_Jx4a65c_clear_da8c8 hfr hlo rfl hcat (by omega) (by omega) hdg (fun r f1 h => ?_)
  obtain ⟨rfl, hA, hL⟩ := h
  obtain ⟨r1, r2⟩ := hR.lchg hq h3 (ys := []) hA hL (fun y hy => absurd hy (by simp)) (hR.cap hq).1
  exact kk f1 r1 (hF.trans r2)
theorem V_crem (X : CX K cc own Ts nL fr lo) (hR : RC (kG K) al fi z f) (hF : FrC f0 f) {rest : List Value} {index : Nat} (q : Tg) (hq : dol (zN z) q) (h3 : q.1 ≠ 13 ∨ 3 ≤ q.2) (ys : List Nat) (y : Nat) (hys : zL z q = ys ++ [y]) (hT : GoodIn Ts (wsV own index RJx4a65c yJx4a65c_remove_915e3 wsJx4a65c_remove_915e3)) (hfr : 8 + 1 ≤ fr) (hlo : 8 + (4 + 11) + 139 ≤ lo) (hcat : (rest.map fun v => v.category).sum ≤ 8) (hdg : decode cc pc = .ok (.invokevirtual index, 3)) (kk : ∀ f' : Wo, RC (kG K) al fi (zPut z q ys (zC z q)) f' → FrC f0 f' → V K f' kc ks (pc + 3) lv (.ref (al (ek q, y)) :: rest)) : V K f kc ks pc lv (.int (nI ys.length) :: .ref (al q) :: rest) := by
  obtain ⟨vs, hb⟩ := hR.lat hq
  have hq9 : q.1 ≠ 99 := by have := dol_lt hq; omega
  have hA0 := hR.2.2.1 q hq
  rw [lst, hys, List.map_append] at hA0
  have h0 := c_Jx4a65c_remove_915e3 (kL K) (kG K) f (al q) q hq9 _ _ (al (ek q, y)) hA0 (by have := (hR.cap hq).1; omega)
  rw [List.length_map] at h0
  refine V_callV (kc' := kc) (ks' := ks) X (rest := rest) h0 hb rfl hT rfl hdv_Jx4a65c_remove_915e3 hfr hlo rfl hcat (by omega) (by omega) hdg (fun r f1 h => ?_)
  obtain ⟨rfl, hA, hL⟩ := h
  obtain ⟨r1, r2⟩ := hR.lchg hq h3 (ys := ys) hA hL (fun v hv => hR.1.1 q hq v (by rw [hys]; exact List.mem_append_left _ hv)) (hR.cap hq).1
  exact kk f1 r1 (hF.trans r2)
theorem V_cemp (X : CX K cc own Ts nL fr lo) (hR : RC (kG K) al fi z f) {rest : List Value} {index : Nat} (q : Tg) (hq : dol (zN z) q) (hT : GoodIn Ts (wsV own index RJx4a65c yJx4a65c_isEmpty_aae02 wsJx4a65c_isEmpty_aae02)) (hfr : 1 + 1 ≤ fr) (hlo : 8 + (1 + 11) + 44 ≤ lo) (hcat : (rest.map fun v => v.category).sum ≤ 8) (hdg : decode cc pc = .ok (.invokevirtual index, 3)) (kk : V K f kc ks (pc + 3) lv (.int (bI (decide ((zL z q).length = 0))) :: rest)) : V K f kc ks pc lv (.ref (al q) :: rest) := by
  obtain ⟨vs, hb⟩ := hR.lat hq
  refine V_callVp X (rest := rest) (c_Jx4a65c_isEmpty_aae02 _ _ _ (al q) q _ _ (hR.2.2.1 q hq) (by have := (hR.cap hq).1; omega)) hb rfl hT rfl hdv_Jx4a65c_isEmpty_aae02 hfr hlo rfl hcat hdg ?_
  rw [lst, List.length_map]
  exact kk
end VL
