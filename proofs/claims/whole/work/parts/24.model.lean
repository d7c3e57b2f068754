/-- changed where p says so, below n -/
def ifF (n : Nat) (p : Nat → Bool) (a b : Nat → Int32) : Nat → Int32 := fun k => if k < n ∧ p k = true then a k else b k
theorem ifF_0 (p : Nat → Bool) (a b : Nat → Int32) : ifF 0 p a b = b := funext fun k => if_neg (fun h => absurd h.1 (Nat.not_lt_zero k))
theorem ifF_t {i : Nat} {p : Nat → Bool} {a b : Nat → Int32} {x : Int32} (h : p i = true) (hx : x = a i) : va_up (ifF i p a b) i x = ifF (i + 1) p a b := by
  subst hx
  funext k
  unfold va_up ifF
  by_cases hk : k = i
  · subst hk
    rw [if_pos rfl, if_pos ⟨Nat.lt_succ_self k, h⟩]
  · rw [if_neg hk]
    by_cases h2 : k < i ∧ p k = true
    · rw [if_pos h2, if_pos ⟨by omega, h2.2⟩]
    · rw [if_neg h2, if_neg (fun h3 => h2 ⟨by omega, h3.2⟩)]
theorem ifF_f {i : Nat} {p : Nat → Bool} {a b : Nat → Int32} (h : p i = false) : ifF i p a b = ifF (i + 1) p a b := by
  funext k
  unfold ifF
  by_cases h2 : k < i ∧ p k = true
  · rw [if_pos h2, if_pos ⟨by omega, h2.2⟩]
  · rw [if_neg h2, if_neg (fun h3 => h2 ⟨by
      have : k ≠ i := fun e => by subst e; rw [h] at h3; cases h3.2
      omega, h3.2⟩)]
theorem ifF_i {i : Nat} {p : Nat → Bool} {a b : Nat → Int32} : ifF i p a b i = b i := if_neg (fun h => absurd h.1 (Nat.lt_irrefl i))
def smI (n : Nat) (s : Int32) (rt : Nat → Int32) : Int32 := sumI (fun k => if hsI s (nI k) = true then rt k else 0) n
theorem smI_t {i : Nat} {s : Int32} {rt : Nat → Int32} (h : hsI s (nI i) = true) : smI i s rt + rt i = smI (i + 1) s rt := by
  show _ = sumI _ i + (if hsI s (nI i) = true then rt i else 0)
  rw [if_pos h]; rfl
theorem smI_f {i : Nat} {s : Int32} {rt : Nat → Int32} (h : hsI s (nI i) = false) : smI i s rt + 0 = smI (i + 1) s rt := by
  show _ = sumI _ i + (if hsI s (nI i) = true then rt i else 0)
  rw [if_neg (by rw [h]; decide)]; rfl
def cntI (n : Nat) (q : Nat → Int32) : Int32 := sumI (fun k => if q k = 0 then 0 else 1) n
theorem cntI_t {i : Nat} {q : Nat → Int32} (h : q i = 0) : cntI i q + 0 = cntI (i + 1) q := by
  show _ = sumI _ i + (if q i = 0 then 0 else 1)
  rw [if_pos h]; rfl
theorem cntI_f {i : Nat} {q : Nat → Int32} (h : ¬ q i = 0) : cntI i q + 1 = cntI (i + 1) q := by
  show _ = sumI _ i + (if q i = 0 then 0 else 1)
  rw [if_neg h]; rfl
def wnI (ck si : Int32) : Int32 := 100 + 20 * (ck - si)
def absI (x : Int32) : Int32 := if 0 ≤ x then x else -x
def ftI (ck m1 m2 s1 s2 : Int32) : Bool := decide (absI (m1 - m2) ≤ wnI ck s1) && decide (absI (m1 - m2) ≤ wnI ck s2)
def mnI (n : Nat) (s : Int32) (rt : Nat → Int32) : Int32 := smI n s rt / szI s
/-- the players of the line's parties in a set -/
def plI (mn : Nat) (s : Int32) (ln : Nat → Nat) (mem : Nat → Int32) : Nat → Int32
  | 0 => 0
  | i + 1 => plI mn s ln mem i ||| (if hsI s (nI (mn - 1 - i)) = true then mem (ln i) else 0)
theorem plI_t {mn i : Nat} {s : Int32} {ln : Nat → Nat} {mem : Nat → Int32} (h : hsI s (nI (mn - 1 - i)) = true) : plI mn s ln mem i ||| mem (ln i) = plI mn s ln mem (i + 1) := by
  show _ = plI mn s ln mem i ||| (if hsI s (nI (mn - 1 - i)) = true then mem (ln i) else 0)
  rw [if_pos h]
theorem plI_f {mn i : Nat} {s : Int32} {ln : Nat → Nat} {mem : Nat → Int32} (h : hsI s (nI (mn - 1 - i)) = false) : plI mn s ln mem i ||| 0 = plI mn s ln mem (i + 1) := by
  show _ = plI mn s ln mem i ||| (if hsI s (nI (mn - 1 - i)) = true then mem (ln i) else 0)
  rw [if_neg (by rw [h]; decide)]
theorem nI_m1i {mn i : Nat} (h : i < mn) : nI mn - 1 - nI i = nI (mn - 1 - i) := by
  rw [show (1 : Int32) = nI 1 from rfl, pk_sub (by omega), pk_sub (by omega)]

theorem hinX6_sumOf_X6 : ∀ w ∈ wsX60, w ∈ wsX6_sumOf := by decide +kernel
set_option maxHeartbeats 4000000 in
set_option maxRecDepth 100000 in
theorem c_X6_sumOf (l : Launch) (G : GG) (f : Wo) (am : Nat → Nat) (sc : Nat → Int32) (ar : Nat → Nat → Int32) (hR : RM G am sc ar f) (np : Nat) (hnp : sc 0 = nI np) (hp18 : np ≤ 18) (s : Int32) : Cp l yX6_sumOf wsX6_sumOf 2 65 G [.ref (am 0), .int s] f (.int (smI np s (ar 1))) := by
  refine Ct.of (cc := cX6_sumOf) (maxL := 4) (ret := (some .int)) (by decide) rfl (Nat.le_of_ble_eq_true rfl) (lv := [(0, _), (1, _)]) rfl (by simp [Value.category]) ?_
  intro K X hL hG hr hnm
  subst hL; subst hG
  have L : ∀ (n i : Nat), np - i = n → i ≤ np → V K f 0 0 4 [(0, .ref (am 0)), (1, .int s), (2, .int (smI i s (ar 1))), (3, .int (nI i))] [] := by
    intro n
    induction n using Nat.strongRecOn with
    | ind n ih =>
      intro i hn hi
      refine V_iload_n X rfl dX6_sumOf_4 ?_
      refine V_aload_n X rfl dX6_sumOf_5 ?_
      refine V_mget X hR (v := .int (nI np)) 0 (by decide) hinX6_sumOf_X6 (congrArg (fun z => some (Value.int z)) (hnp)) (by decide +kernel) rfl dX6_sumOf_6 ?_
      refine V_icmp_ge X (tgt := 39) (by decide) dX6_sumOf_9 (fun hc9 => ?_) (fun hc9 => ?_)
      · have hi18 := lim_ge (N := np) rfl hc9 hi (by omega)
        subst hi18
        refine V_iload_n X rfl dX6_sumOf_39 ?_
        exact V_iret X hr (⟨rfl, rfl⟩) dX6_sumOf_40
      · have hlt := lim_lt (N := np) rfl hc9 hi (by omega)
        refine V_iload_n X rfl dX6_sumOf_12 ?_
        refine V_iload_n X rfl dX6_sumOf_13 ?_
        refine V_iload_n X rfl dX6_sumOf_14 ?_
        refine V_callSp X (rest := _) (c_X6_has _ _ _ _ _) gX6_sumOf_X6_has rfl hds_X6_has (Nat.le_of_ble_eq_true rfl) (Nat.le_of_ble_eq_true rfl) rfl (Nat.le_of_ble_eq_true rfl) dX6_sumOf_15 ?_
        refine V_if_eq X (tgt := 30) (by decide) dX6_sumOf_18 (fun hc18 => ?_) (fun hc18 => ?_)
        · refine V_iconst X (v := 0) (by decide) dX6_sumOf_30 ?_
          refine V_iadd X dX6_sumOf_31 ?_
          refine V.top (y := smI (i + 1) s (ar 1)) (smI_f (bI_eq0 hc18)) ?_
          refine V_istore_n X (lv' := [(2, _), (0, _), (1, _), (3, _)]) (by decide) rfl dX6_sumOf_32 ?_
          refine V_iinc X (lv' := [(3, _), (2, _), (0, _), (1, _)]) (v := nI (i + 1)) rfl (nI_1 _) (by decide) rfl dX6_sumOf_33 ?_
          refine V_goto X (tgt := 4) (by decide) dX6_sumOf_36 ?_
          refine V.lvs (lv' := [(0, _), (1, _), (2, _), (3, _)]) rfl ?_
          exact ih (np - (i + 1)) (by omega) (i + 1) rfl (by omega)
        · refine V_aload_n X rfl dX6_sumOf_21 ?_
          refine V_mget X hR (v := .ref (am 1)) 1 (by decide) hinX6_sumOf_X6 (rfl) (by decide +kernel) rfl dX6_sumOf_22 ?_
          refine V_iload_n X rfl dX6_sumOf_25 ?_
          refine V_mald X hR 1 (i) 18 (by decide) rfl (by omega) (by decide) rfl dX6_sumOf_26 ?_
          refine V_goto X (tgt := 31) (by decide) dX6_sumOf_27 ?_
          refine V_iadd X dX6_sumOf_31 ?_
          refine V.top (y := smI (i + 1) s (ar 1)) (smI_t (bI_ne0 hc18)) ?_
          refine V_istore_n X (lv' := [(2, _), (0, _), (1, _), (3, _)]) (by decide) rfl dX6_sumOf_32 ?_
          refine V_iinc X (lv' := [(3, _), (2, _), (0, _), (1, _)]) (v := nI (i + 1)) rfl (nI_1 _) (by decide) rfl dX6_sumOf_33 ?_
          refine V_goto X (tgt := 4) (by decide) dX6_sumOf_36 ?_
          refine V.lvs (lv' := [(0, _), (1, _), (2, _), (3, _)]) rfl ?_
          exact ih (np - (i + 1)) (by omega) (i + 1) rfl (by omega)
  refine V_iconst X (v := 0) (by decide) dX6_sumOf_0 ?_
  refine V_istore_n X (lv' := [(2, _), (0, _), (1, _)]) (by decide) rfl dX6_sumOf_1 ?_
  refine V_iconst X (v := 0) (by decide) dX6_sumOf_2 ?_
  refine V_istore_n X (lv' := [(3, _), (2, _), (0, _), (1, _)]) (by decide) rfl dX6_sumOf_3 ?_
  refine V.lvs (lv' := [(0, _), (1, _), (2, _), (3, _)]) rfl ?_
  exact L np 0 (by omega) (by omega)
theorem hinX6_windowOf_X6 : ∀ w ∈ wsX60, w ∈ wsX6_windowOf := by decide +kernel
set_option maxHeartbeats 4000000 in
set_option maxRecDepth 100000 in
theorem c_X6_windowOf (l : Launch) (G : GG) (f : Wo) (am : Nat → Nat) (sc : Nat → Int32) (ar : Nat → Nat → Int32) (hR : RM G am sc ar f) (k : Nat) (hk : k < 100) : Cp l yX6_windowOf wsX6_windowOf 1 44 G [.ref (am 0), .int (nI k)] f (.int (wnI (sc 3) (ar 8 k))) := by
  refine Ct.of (cc := cX6_windowOf) (maxL := 2) (ret := (some .int)) (by decide) rfl (Nat.le_of_ble_eq_true rfl) (lv := [(0, _), (1, _)]) rfl (by simp [Value.category]) ?_
  intro K X hL hG hr hnm
  subst hL; subst hG
  refine V_bipush X (v := 100) (by decide) dX6_windowOf_0 ?_
  refine V_bipush X (v := 20) (by decide) dX6_windowOf_2 ?_
  refine V_aload_n X rfl dX6_windowOf_4 ?_
  refine V_mget X hR (v := .int (sc 3)) 18 (by decide) hinX6_windowOf_X6 (congrArg (fun z => some (Value.int z)) (rfl)) (by decide +kernel) rfl dX6_windowOf_5 ?_
  refine V_aload_n X rfl dX6_windowOf_8 ?_
  refine V_mget X hR (v := .ref (am 8)) 9 (by decide) hinX6_windowOf_X6 (rfl) (by decide +kernel) rfl dX6_windowOf_9 ?_
  refine V_iload_n X rfl dX6_windowOf_12 ?_
  refine V_mald X hR 8 (k) 100 (by decide) rfl (by omega) (by decide) rfl dX6_windowOf_13 ?_
  refine V_isub X dX6_windowOf_14 ?_
  refine V_imul X dX6_windowOf_15 ?_
  refine V_iadd X dX6_windowOf_16 ?_
  exact V_iret X hr (⟨rfl, rfl⟩) dX6_windowOf_17
theorem hinX6_fits_X6 : ∀ w ∈ wsX60, w ∈ wsX6_fits := by decide +kernel
set_option maxHeartbeats 4000000 in
set_option maxRecDepth 100000 in
theorem c_X6_fits (l : Launch) (G : GG) (f : Wo) (am : Nat → Nat) (sc : Nat → Int32) (ar : Nat → Nat → Int32) (hR : RM G am sc ar f) (np : Nat) (hnp : sc 0 = nI np) (hp18 : np ≤ 18) (a b : Nat) (ha : a < 100) (hb : b < 100) (hza : ¬ szI (ar 7 a) = 0) (hzb : ¬ szI (ar 7 b) = 0) : Cp l yX6_fits wsX6_fits 3 88 G [.ref (am 0), .int (nI a), .int (nI b)] f (.int (bI (ftI (sc 3) (mnI np (ar 7 a) (ar 1)) (mnI np (ar 7 b) (ar 1)) (ar 8 a) (ar 8 b)))) := by
  refine Ct.of (cc := cX6_fits) (maxL := 4) (ret := (some .boolean)) (by decide) rfl (Nat.le_of_ble_eq_true rfl) (lv := [(0, _), (1, _), (2, _)]) rfl (by simp [Value.category]) ?_
  intro K X hL hG hr hnm
  subst hL; subst hG
  refine V_aload_n X rfl dX6_fits_0 ?_
  refine V_aload_n X rfl dX6_fits_1 ?_
  refine V_mget X hR (v := .ref (am 7)) 8 (by decide) hinX6_fits_X6 (rfl) (by decide +kernel) rfl dX6_fits_2 ?_
  refine V_iload_n X rfl dX6_fits_5 ?_
  refine V_mald X hR 7 (a) 100 (by decide) rfl (by omega) (by decide) rfl dX6_fits_6 ?_
  refine V_callVp X (rest := _) (c_X6_sumOf _ _ _ am sc ar hR np hnp hp18 _) hR.1 rfl gX6_fits_X6_sumOf rfl hdv_X6_sumOf (Nat.le_of_ble_eq_true rfl) (Nat.le_of_ble_eq_true rfl) rfl (Nat.le_of_ble_eq_true rfl) dX6_fits_7 ?_
  refine V_aload_n X rfl dX6_fits_10 ?_
  refine V_mget X hR (v := .ref (am 7)) 8 (by decide) hinX6_fits_X6 (rfl) (by decide +kernel) rfl dX6_fits_11 ?_
  refine V_iload_n X rfl dX6_fits_14 ?_
  refine V_mald X hR 7 (a) 100 (by decide) rfl (by omega) (by decide) rfl dX6_fits_15 ?_
  refine V_callSp X (rest := _) (c_X6_size _ _ _ _) gX6_fits_X6_size rfl hds_X6_size (Nat.le_of_ble_eq_true rfl) (Nat.le_of_ble_eq_true rfl) rfl (Nat.le_of_ble_eq_true rfl) dX6_fits_16 ?_
  refine V_idiv X (hza) dX6_fits_19 ?_
  refine V_aload_n X rfl dX6_fits_20 ?_
  refine V_aload_n X rfl dX6_fits_21 ?_
  refine V_mget X hR (v := .ref (am 7)) 8 (by decide) hinX6_fits_X6 (rfl) (by decide +kernel) rfl dX6_fits_22 ?_
  refine V_iload_n X rfl dX6_fits_25 ?_
  refine V_mald X hR 7 (b) 100 (by decide) rfl (by omega) (by decide) rfl dX6_fits_26 ?_
  refine V_callVp X (rest := _) (c_X6_sumOf _ _ _ am sc ar hR np hnp hp18 _) hR.1 rfl gX6_fits_X6_sumOf rfl hdv_X6_sumOf (Nat.le_of_ble_eq_true rfl) (Nat.le_of_ble_eq_true rfl) rfl (Nat.le_of_ble_eq_true rfl) dX6_fits_27 ?_
  refine V_aload_n X rfl dX6_fits_30 ?_
  refine V_mget X hR (v := .ref (am 7)) 8 (by decide) hinX6_fits_X6 (rfl) (by decide +kernel) rfl dX6_fits_31 ?_
  refine V_iload_n X rfl dX6_fits_34 ?_
  refine V_mald X hR 7 (b) 100 (by decide) rfl (by omega) (by decide) rfl dX6_fits_35 ?_
  refine V_callSp X (rest := _) (c_X6_size _ _ _ _) gX6_fits_X6_size rfl hds_X6_size (Nat.le_of_ble_eq_true rfl) (Nat.le_of_ble_eq_true rfl) rfl (Nat.le_of_ble_eq_true rfl) dX6_fits_36 ?_
  refine V_idiv X (hzb) dX6_fits_39 ?_
  refine V_isub X dX6_fits_40 ?_
  refine V_istore_n X (lv' := [(3, _), (0, _), (1, _), (2, _)]) (by decide) rfl dX6_fits_41 ?_
  refine V_iload_n X rfl dX6_fits_42 ?_
  refine V_if_ge X (tgt := 51) (by decide) dX6_fits_43 (fun hc43 => ?_) (fun hc43 => ?_)
  · refine V_iload_n X rfl dX6_fits_51 ?_
    refine V.top (y := absI (mnI np (ar 7 a) (ar 1) - mnI np (ar 7 b) (ar 1))) ((if_pos hc43).symm) ?_
    refine V_istore_n X (lv' := [(3, _), (0, _), (1, _), (2, _)]) (by decide) rfl dX6_fits_52 ?_
    refine V_iload_n X rfl dX6_fits_53 ?_
    refine V_aload_n X rfl dX6_fits_54 ?_
    refine V_iload_n X rfl dX6_fits_55 ?_
    refine V_callVp X (rest := _) (c_X6_windowOf _ _ _ am sc ar hR a (by omega)) hR.1 rfl gX6_fits_X6_windowOf rfl hdv_X6_windowOf (Nat.le_of_ble_eq_true rfl) (Nat.le_of_ble_eq_true rfl) rfl (Nat.le_of_ble_eq_true rfl) dX6_fits_56 ?_
    refine V_icmp_gt X (tgt := 75) (by decide) dX6_fits_59 (fun hc59 => ?_) (fun hc59 => ?_)
    · refine V_iconst X (v := 0) (by decide) dX6_fits_75 ?_
      exact V_zret X hr (by decide) (⟨bI_f (by unfold ftI; rw [Bool.and_eq_false_iff]; exact Or.inl (decide_eq_false (Int32.not_le.mpr hc59))), rfl⟩) dX6_fits_76
    · refine V_iload_n X rfl dX6_fits_62 ?_
      refine V_aload_n X rfl dX6_fits_63 ?_
      refine V_iload_n X rfl dX6_fits_64 ?_
      refine V_callVp X (rest := _) (c_X6_windowOf _ _ _ am sc ar hR b (by omega)) hR.1 rfl gX6_fits_X6_windowOf rfl hdv_X6_windowOf (Nat.le_of_ble_eq_true rfl) (Nat.le_of_ble_eq_true rfl) rfl (Nat.le_of_ble_eq_true rfl) dX6_fits_65 ?_
      refine V_icmp_gt X (tgt := 75) (by decide) dX6_fits_68 (fun hc68 => ?_) (fun hc68 => ?_)
      · refine V_iconst X (v := 0) (by decide) dX6_fits_75 ?_
        exact V_zret X hr (by decide) (⟨bI_f (by unfold ftI; rw [Bool.and_eq_false_iff]; exact Or.inr (decide_eq_false (Int32.not_le.mpr hc68))), rfl⟩) dX6_fits_76
      · refine V_iconst X (v := 1) (by decide) dX6_fits_71 ?_
        refine V_goto X (tgt := 76) (by decide) dX6_fits_72 ?_
        exact V_zret X hr (by decide) (⟨bI_t (by unfold ftI; rw [Bool.and_eq_true]; exact ⟨decide_eq_true (Int32.not_lt.mp hc59), decide_eq_true (Int32.not_lt.mp hc68)⟩), rfl⟩) dX6_fits_76
  · refine V_iload_n X rfl dX6_fits_46 ?_
    refine V_ineg X dX6_fits_47 ?_
    refine V_goto X (tgt := 52) (by decide) dX6_fits_48 ?_
    refine V.top (y := absI (mnI np (ar 7 a) (ar 1) - mnI np (ar 7 b) (ar 1))) ((if_neg hc43).symm) ?_
    refine V_istore_n X (lv' := [(3, _), (0, _), (1, _), (2, _)]) (by decide) rfl dX6_fits_52 ?_
    refine V_iload_n X rfl dX6_fits_53 ?_
    refine V_aload_n X rfl dX6_fits_54 ?_
    refine V_iload_n X rfl dX6_fits_55 ?_
    refine V_callVp X (rest := _) (c_X6_windowOf _ _ _ am sc ar hR a (by omega)) hR.1 rfl gX6_fits_X6_windowOf rfl hdv_X6_windowOf (Nat.le_of_ble_eq_true rfl) (Nat.le_of_ble_eq_true rfl) rfl (Nat.le_of_ble_eq_true rfl) dX6_fits_56 ?_
    refine V_icmp_gt X (tgt := 75) (by decide) dX6_fits_59 (fun hc59 => ?_) (fun hc59 => ?_)
    · refine V_iconst X (v := 0) (by decide) dX6_fits_75 ?_
      exact V_zret X hr (by decide) (⟨bI_f (by unfold ftI; rw [Bool.and_eq_false_iff]; exact Or.inl (decide_eq_false (Int32.not_le.mpr hc59))), rfl⟩) dX6_fits_76
    · refine V_iload_n X rfl dX6_fits_62 ?_
      refine V_aload_n X rfl dX6_fits_63 ?_
      refine V_iload_n X rfl dX6_fits_64 ?_
      refine V_callVp X (rest := _) (c_X6_windowOf _ _ _ am sc ar hR b (by omega)) hR.1 rfl gX6_fits_X6_windowOf rfl hdv_X6_windowOf (Nat.le_of_ble_eq_true rfl) (Nat.le_of_ble_eq_true rfl) rfl (Nat.le_of_ble_eq_true rfl) dX6_fits_65 ?_
      refine V_icmp_gt X (tgt := 75) (by decide) dX6_fits_68 (fun hc68 => ?_) (fun hc68 => ?_)
      · refine V_iconst X (v := 0) (by decide) dX6_fits_75 ?_
        exact V_zret X hr (by decide) (⟨bI_f (by unfold ftI; rw [Bool.and_eq_false_iff]; exact Or.inr (decide_eq_false (Int32.not_le.mpr hc68))), rfl⟩) dX6_fits_76
      · refine V_iconst X (v := 1) (by decide) dX6_fits_71 ?_
        refine V_goto X (tgt := 76) (by decide) dX6_fits_72 ?_
        exact V_zret X hr (by decide) (⟨bI_t (by unfold ftI; rw [Bool.and_eq_true]; exact ⟨decide_eq_true (Int32.not_lt.mp hc59), decide_eq_true (Int32.not_lt.mp hc68)⟩), rfl⟩) dX6_fits_76
set_option maxHeartbeats 4000000 in
set_option maxRecDepth 100000 in
theorem c_X6_leave_1 (l : Launch) (G : GG) (f : Wo) (am : Nat → Nat) (sc : Nat → Int32) (ar : Nat → Nat → Int32) (hR : RM G am sc ar f) (p : Int32) (hq : inI p 0 (sc 1 - 1) = false) : Ct l yX6_leave wsX6_leave 3 88 G [.ref (am 0), .int p] f (fun v9 f' => v9 = some (.int 0) ∧ RM G am (va_up sc 7 1) (ar) f' ∧ FrM am f f') 0 0 := by
  refine Ct.of (cc := cX6_leave) (maxL := 2) (ret := (some .int)) (by decide) rfl (Nat.le_of_ble_eq_true rfl) (lv := [(0, _), (1, _)]) rfl (by simp [Value.category]) ?_
  intro K X hL hG hr hnm
  subst hL; subst hG
  have hF : FrM am f f := FrM.rf
  refine V_aload_n X rfl dX6_leave_0 ?_
  refine V_aload_n X rfl dX6_leave_1 ?_
  refine V_iload_n X rfl dX6_leave_2 ?_
  refine V_callVp X (rest := _) (c_X6_isParty _ _ _ am sc ar hR _) hR.1 rfl gX6_leave_X6_isParty rfl hdv_X6_isParty (Nat.le_of_ble_eq_true rfl) (Nat.le_of_ble_eq_true rfl) rfl (Nat.le_of_ble_eq_true rfl) dX6_leave_3 ?_
  refine V.top (y := 0) (by rw [hq]; rfl) ?_
  refine V_if_ne X (tgt := 13) (by decide) dX6_leave_6 (fun hc6 => absurd hc6 (by decide)) (fun hc6 => ?_)
  refine V_iconst X (v := 1) (by decide) dX6_leave_9 ?_
  refine V_goto X (tgt := 26) (by decide) dX6_leave_10 ?_
  refine V_callV (kc' := 0) (ks' := 0) X (rest := _) (c_X6_can _ _ _ am _ ar hR _) hR.1 rfl gX6_leave_X6_can rfl hdv_X6_can (Nat.le_of_ble_eq_true rfl) (Nat.le_of_ble_eq_true rfl) rfl (Nat.le_of_ble_eq_true rfl) (by omega) (by omega) dX6_leave_26 (fun r f1 hq => ?_)
  obtain ⟨rfl, hR, hF1⟩ := hq
  have hF := hF.trans hF1
  refine V.top (y := 0) (by decide) ?_
  refine V_if_ne X (tgt := 34) (by decide) dX6_leave_29 (fun hc29 => absurd hc29 (by decide)) (fun hc29 => ?_)
  refine V_iconst X (v := 0) (by decide) dX6_leave_32 ?_
  exact V_iret X hr (⟨rfl, hR, hF⟩) dX6_leave_33
set_option maxHeartbeats 4000000 in
set_option maxRecDepth 100000 in
theorem c_X6_leave_2 (l : Launch) (G : GG) (f : Wo) (am : Nat → Nat) (sc : Nat → Int32) (ar : Nat → Nat → Int32) (hR : RM G am sc ar f) (k : Nat) (hk : k < 100) (hq : inI (nI k) 0 (sc 1 - 1) = true) (hb : ar 9 k = bI false) : Ct l yX6_leave wsX6_leave 3 88 G [.ref (am 0), .int (nI k)] f (fun v9 f' => v9 = some (.int 0) ∧ RM G am (va_up sc 7 2) (ar) f' ∧ FrM am f f') 0 0 := by
  refine Ct.of (cc := cX6_leave) (maxL := 2) (ret := (some .int)) (by decide) rfl (Nat.le_of_ble_eq_true rfl) (lv := [(0, _), (1, _)]) rfl (by simp [Value.category]) ?_
  intro K X hL hG hr hnm
  subst hL; subst hG
  have hF : FrM am f f := FrM.rf
  refine V_aload_n X rfl dX6_leave_0 ?_
  refine V_aload_n X rfl dX6_leave_1 ?_
  refine V_iload_n X rfl dX6_leave_2 ?_
  refine V_callVp X (rest := _) (c_X6_isParty _ _ _ am sc ar hR _) hR.1 rfl gX6_leave_X6_isParty rfl hdv_X6_isParty (Nat.le_of_ble_eq_true rfl) (Nat.le_of_ble_eq_true rfl) rfl (Nat.le_of_ble_eq_true rfl) dX6_leave_3 ?_
  refine V.top (y := 1) (by rw [hq]; rfl) ?_
  refine V_if_ne X (tgt := 13) (by decide) dX6_leave_6 (fun hc6 => ?_) (fun hc6 => absurd hc6 (by decide))
  refine V_aload_n X rfl dX6_leave_13 ?_
  refine V_iload_n X rfl dX6_leave_14 ?_
  refine V_callVp X (rest := _) (c_X6_queues _ _ _ am sc ar hR k (by omega) false hb) hR.1 rfl gX6_leave_X6_queues rfl hdv_X6_queues (Nat.le_of_ble_eq_true rfl) (Nat.le_of_ble_eq_true rfl) rfl (Nat.le_of_ble_eq_true rfl) dX6_leave_15 ?_
  refine V.top (y := 0) rfl ?_
  refine V_if_eq X (tgt := 25) (by decide) dX6_leave_18 (fun hc18 => ?_) (fun hc18 => absurd hc18 (by decide))
  refine V_iconst X (v := 2) (by decide) dX6_leave_25 ?_
  refine V_callV (kc' := 0) (ks' := 0) X (rest := _) (c_X6_can _ _ _ am _ ar hR _) hR.1 rfl gX6_leave_X6_can rfl hdv_X6_can (Nat.le_of_ble_eq_true rfl) (Nat.le_of_ble_eq_true rfl) rfl (Nat.le_of_ble_eq_true rfl) (by omega) (by omega) dX6_leave_26 (fun r f1 hq => ?_)
  obtain ⟨rfl, hR, hF1⟩ := hq
  have hF := hF.trans hF1
  refine V.top (y := 0) (by decide) ?_
  refine V_if_ne X (tgt := 34) (by decide) dX6_leave_29 (fun hc29 => absurd hc29 (by decide)) (fun hc29 => ?_)
  refine V_iconst X (v := 0) (by decide) dX6_leave_32 ?_
  exact V_iret X hr (⟨rfl, hR, hF⟩) dX6_leave_33
set_option maxHeartbeats 4000000 in
set_option maxRecDepth 100000 in
theorem c_X6_window_1 (l : Launch) (G : GG) (f : Wo) (am : Nat → Nat) (sc : Nat → Int32) (ar : Nat → Nat → Int32) (hR : RM G am sc ar f) (p : Int32) (hq : inI p 0 (sc 1 - 1) = false) : Ct l yX6_window wsX6_window 3 87 G [.ref (am 0), .int p] f (fun v9 f' => v9 = some (.int 0) ∧ RM G am (va_up sc 7 1) (ar) f' ∧ FrM am f f') 0 0 := by
  refine Ct.of (cc := cX6_window) (maxL := 2) (ret := (some .int)) (by decide) rfl (Nat.le_of_ble_eq_true rfl) (lv := [(0, _), (1, _)]) rfl (by simp [Value.category]) ?_
  intro K X hL hG hr hnm
  subst hL; subst hG
  have hF : FrM am f f := FrM.rf
  refine V_aload_n X rfl dX6_window_0 ?_
  refine V_aload_n X rfl dX6_window_1 ?_
  refine V_iload_n X rfl dX6_window_2 ?_
  refine V_callVp X (rest := _) (c_X6_isParty _ _ _ am sc ar hR _) hR.1 rfl gX6_window_X6_isParty rfl hdv_X6_isParty (Nat.le_of_ble_eq_true rfl) (Nat.le_of_ble_eq_true rfl) rfl (Nat.le_of_ble_eq_true rfl) dX6_window_3 ?_
  refine V.top (y := 0) (by rw [hq]; rfl) ?_
  refine V_if_ne X (tgt := 13) (by decide) dX6_window_6 (fun hc6 => absurd hc6 (by decide)) (fun hc6 => ?_)
  refine V_iconst X (v := 1) (by decide) dX6_window_9 ?_
  refine V_goto X (tgt := 26) (by decide) dX6_window_10 ?_
  refine V_callV (kc' := 0) (ks' := 0) X (rest := _) (c_X6_can _ _ _ am _ ar hR _) hR.1 rfl gX6_window_X6_can rfl hdv_X6_can (Nat.le_of_ble_eq_true rfl) (Nat.le_of_ble_eq_true rfl) rfl (Nat.le_of_ble_eq_true rfl) (by omega) (by omega) dX6_window_26 (fun r f1 hq => ?_)
  obtain ⟨rfl, hR, hF1⟩ := hq
  have hF := hF.trans hF1
  refine V.top (y := 0) (by decide) ?_
  refine V_if_eq X (tgt := 40) (by decide) dX6_window_29 (fun hc29 => ?_) (fun hc29 => absurd hc29 (by decide))
  refine V_iconst X (v := 0) (by decide) dX6_window_40 ?_
  exact V_iret X hr (⟨rfl, hR, hF⟩) dX6_window_41
set_option maxHeartbeats 4000000 in
set_option maxRecDepth 100000 in
theorem c_X6_window_2 (l : Launch) (G : GG) (f : Wo) (am : Nat → Nat) (sc : Nat → Int32) (ar : Nat → Nat → Int32) (hR : RM G am sc ar f) (k : Nat) (hk : k < 100) (hq : inI (nI k) 0 (sc 1 - 1) = true) (hb : ar 9 k = bI false) : Ct l yX6_window wsX6_window 3 87 G [.ref (am 0), .int (nI k)] f (fun v9 f' => v9 = some (.int 0) ∧ RM G am (va_up sc 7 2) (ar) f' ∧ FrM am f f') 0 0 := by
  refine Ct.of (cc := cX6_window) (maxL := 2) (ret := (some .int)) (by decide) rfl (Nat.le_of_ble_eq_true rfl) (lv := [(0, _), (1, _)]) rfl (by simp [Value.category]) ?_
  intro K X hL hG hr hnm
  subst hL; subst hG
  have hF : FrM am f f := FrM.rf
  refine V_aload_n X rfl dX6_window_0 ?_
  refine V_aload_n X rfl dX6_window_1 ?_
  refine V_iload_n X rfl dX6_window_2 ?_
  refine V_callVp X (rest := _) (c_X6_isParty _ _ _ am sc ar hR _) hR.1 rfl gX6_window_X6_isParty rfl hdv_X6_isParty (Nat.le_of_ble_eq_true rfl) (Nat.le_of_ble_eq_true rfl) rfl (Nat.le_of_ble_eq_true rfl) dX6_window_3 ?_
  refine V.top (y := 1) (by rw [hq]; rfl) ?_
  refine V_if_ne X (tgt := 13) (by decide) dX6_window_6 (fun hc6 => ?_) (fun hc6 => absurd hc6 (by decide))
  refine V_aload_n X rfl dX6_window_13 ?_
  refine V_iload_n X rfl dX6_window_14 ?_
  refine V_callVp X (rest := _) (c_X6_queues _ _ _ am sc ar hR k (by omega) false hb) hR.1 rfl gX6_window_X6_queues rfl hdv_X6_queues (Nat.le_of_ble_eq_true rfl) (Nat.le_of_ble_eq_true rfl) rfl (Nat.le_of_ble_eq_true rfl) dX6_window_15 ?_
  refine V.top (y := 0) rfl ?_
  refine V_if_eq X (tgt := 25) (by decide) dX6_window_18 (fun hc18 => ?_) (fun hc18 => absurd hc18 (by decide))
  refine V_iconst X (v := 2) (by decide) dX6_window_25 ?_
  refine V_callV (kc' := 0) (ks' := 0) X (rest := _) (c_X6_can _ _ _ am _ ar hR _) hR.1 rfl gX6_window_X6_can rfl hdv_X6_can (Nat.le_of_ble_eq_true rfl) (Nat.le_of_ble_eq_true rfl) rfl (Nat.le_of_ble_eq_true rfl) (by omega) (by omega) dX6_window_26 (fun r f1 hq => ?_)
  obtain ⟨rfl, hR, hF1⟩ := hq
  have hF := hF.trans hF1
  refine V.top (y := 0) (by decide) ?_
  refine V_if_eq X (tgt := 40) (by decide) dX6_window_29 (fun hc29 => ?_) (fun hc29 => absurd hc29 (by decide))
  refine V_iconst X (v := 0) (by decide) dX6_window_40 ?_
  exact V_iret X hr (⟨rfl, hR, hF⟩) dX6_window_41
set_option maxHeartbeats 4000000 in
set_option maxRecDepth 100000 in
theorem c_X6_window_0 (l : Launch) (G : GG) (f : Wo) (am : Nat → Nat) (sc : Nat → Int32) (ar : Nat → Nat → Int32) (hR : RM G am sc ar f) (k : Nat) (hk : k < 100) (hq : inI (nI k) 0 (sc 1 - 1) = true) (hb : ar 9 k = bI true) : Ct l yX6_window wsX6_window 3 87 G [.ref (am 0), .int (nI k)] f (fun v9 f' => v9 = some (.int (wnI (sc 3) (ar 8 k))) ∧ RM G am (va_up sc 7 0) (ar) f' ∧ FrM am f f') 0 0 := by
  refine Ct.of (cc := cX6_window) (maxL := 2) (ret := (some .int)) (by decide) rfl (Nat.le_of_ble_eq_true rfl) (lv := [(0, _), (1, _)]) rfl (by simp [Value.category]) ?_
  intro K X hL hG hr hnm
  subst hL; subst hG
  have hF : FrM am f f := FrM.rf
  refine V_aload_n X rfl dX6_window_0 ?_
  refine V_aload_n X rfl dX6_window_1 ?_
  refine V_iload_n X rfl dX6_window_2 ?_
  refine V_callVp X (rest := _) (c_X6_isParty _ _ _ am sc ar hR _) hR.1 rfl gX6_window_X6_isParty rfl hdv_X6_isParty (Nat.le_of_ble_eq_true rfl) (Nat.le_of_ble_eq_true rfl) rfl (Nat.le_of_ble_eq_true rfl) dX6_window_3 ?_
  refine V.top (y := 1) (by rw [hq]; rfl) ?_
  refine V_if_ne X (tgt := 13) (by decide) dX6_window_6 (fun hc6 => ?_) (fun hc6 => absurd hc6 (by decide))
  refine V_aload_n X rfl dX6_window_13 ?_
  refine V_iload_n X rfl dX6_window_14 ?_
  refine V_callVp X (rest := _) (c_X6_queues _ _ _ am sc ar hR k (by omega) true hb) hR.1 rfl gX6_window_X6_queues rfl hdv_X6_queues (Nat.le_of_ble_eq_true rfl) (Nat.le_of_ble_eq_true rfl) rfl (Nat.le_of_ble_eq_true rfl) dX6_window_15 ?_
  refine V.top (y := 1) rfl ?_
  refine V_if_eq X (tgt := 25) (by decide) dX6_window_18 (fun hc18 => absurd hc18 (by decide)) (fun hc18 => ?_)
  refine V_iconst X (v := 0) (by decide) dX6_window_21 ?_
  refine V_goto X (tgt := 26) (by decide) dX6_window_22 ?_
  refine V_callV (kc' := 0) (ks' := 0) X (rest := _) (c_X6_can _ _ _ am _ ar hR _) hR.1 rfl gX6_window_X6_can rfl hdv_X6_can (Nat.le_of_ble_eq_true rfl) (Nat.le_of_ble_eq_true rfl) rfl (Nat.le_of_ble_eq_true rfl) (by omega) (by omega) dX6_window_26 (fun r f1 hq => ?_)
  obtain ⟨rfl, hR, hF1⟩ := hq
  have hF := hF.trans hF1
  refine V.top (y := 1) (by decide) ?_
  refine V_if_eq X (tgt := 40) (by decide) dX6_window_29 (fun hc29 => absurd hc29 (by decide)) (fun hc29 => ?_)
  refine V_aload_n X rfl dX6_window_32 ?_
  refine V_iload_n X rfl dX6_window_33 ?_
  refine V_callVp X (rest := _) (c_X6_windowOf _ _ _ am _ ar hR k (by omega)) hR.1 rfl gX6_window_X6_windowOf rfl hdv_X6_windowOf (Nat.le_of_ble_eq_true rfl) (Nat.le_of_ble_eq_true rfl) rfl (Nat.le_of_ble_eq_true rfl) dX6_window_34 ?_
  refine V_goto X (tgt := 41) (by decide) dX6_window_37 ?_
  exact V_iret X hr (⟨rfl, hR, hF⟩) dX6_window_41
theorem hinX6_leave_X6 : ∀ w ∈ wsX60, w ∈ wsX6_leave := by decide +kernel
set_option maxHeartbeats 4000000 in
set_option maxRecDepth 100000 in
theorem c_X6_leave_0 (l : Launch) (G : GG) (f : Wo) (am : Nat → Nat) (sc : Nat → Int32) (ar : Nat → Nat → Int32) (hR : RM G am sc ar f) (np : Nat) (hnp : sc 0 = nI np) (hp18 : np ≤ 18) (k : Nat) (hk : k < 100) (hq : inI (nI k) 0 (sc 1 - 1) = true) (hb : ar 9 k = bI true) : Ct l yX6_leave wsX6_leave 3 88 G [.ref (am 0), .int (nI k)] f (fun v9 f' => v9 = some (.int (sc 3 - ar 8 k)) ∧ RM G am (va_up sc 7 0) (va_up (va_up ar 9 (va_up (ar 9) k 0)) 5 (becF np (ar 7 k) 0 (ar 5))) f' ∧ FrM am f f') 0 0 := by
  refine Ct.of (cc := cX6_leave) (maxL := 2) (ret := (some .int)) (by decide) rfl (Nat.le_of_ble_eq_true rfl) (lv := [(0, _), (1, _)]) rfl (by simp [Value.category]) ?_
  intro K X hL hG hr hnm
  subst hL; subst hG
  have hF : FrM am f f := FrM.rf
  refine V_aload_n X rfl dX6_leave_0 ?_
  refine V_aload_n X rfl dX6_leave_1 ?_
  refine V_iload_n X rfl dX6_leave_2 ?_
  refine V_callVp X (rest := _) (c_X6_isParty _ _ _ am sc ar hR _) hR.1 rfl gX6_leave_X6_isParty rfl hdv_X6_isParty (Nat.le_of_ble_eq_true rfl) (Nat.le_of_ble_eq_true rfl) rfl (Nat.le_of_ble_eq_true rfl) dX6_leave_3 ?_
  refine V.top (y := 1) (by rw [hq]; rfl) ?_
  refine V_if_ne X (tgt := 13) (by decide) dX6_leave_6 (fun hc6 => ?_) (fun hc6 => absurd hc6 (by decide))
  refine V_aload_n X rfl dX6_leave_13 ?_
  refine V_iload_n X rfl dX6_leave_14 ?_
  refine V_callVp X (rest := _) (c_X6_queues _ _ _ am sc ar hR k (by omega) true hb) hR.1 rfl gX6_leave_X6_queues rfl hdv_X6_queues (Nat.le_of_ble_eq_true rfl) (Nat.le_of_ble_eq_true rfl) rfl (Nat.le_of_ble_eq_true rfl) dX6_leave_15 ?_
  refine V.top (y := 1) rfl ?_
  refine V_if_eq X (tgt := 25) (by decide) dX6_leave_18 (fun hc18 => absurd hc18 (by decide)) (fun hc18 => ?_)
  refine V_iconst X (v := 0) (by decide) dX6_leave_21 ?_
  refine V_goto X (tgt := 26) (by decide) dX6_leave_22 ?_
  refine V_callV (kc' := 0) (ks' := 0) X (rest := _) (c_X6_can _ _ _ am _ ar hR _) hR.1 rfl gX6_leave_X6_can rfl hdv_X6_can (Nat.le_of_ble_eq_true rfl) (Nat.le_of_ble_eq_true rfl) rfl (Nat.le_of_ble_eq_true rfl) (by omega) (by omega) dX6_leave_26 (fun r f1 hq => ?_)
  obtain ⟨rfl, hR, hF1⟩ := hq
  have hF := hF.trans hF1
  refine V.top (y := 1) (by decide) ?_
  refine V_if_ne X (tgt := 34) (by decide) dX6_leave_29 (fun hc29 => ?_) (fun hc29 => absurd hc29 (by decide))
  refine V_aload_n X rfl dX6_leave_34 ?_
  refine V_mget X hR (v := .ref (am 9)) 10 (by decide) hinX6_leave_X6 (rfl) (by decide +kernel) rfl dX6_leave_35 ?_
  refine V_iload_n X rfl dX6_leave_38 ?_
  refine V_iconst X (v := 0) (by decide) dX6_leave_39 ?_
  refine V_mzst X hR hF (k) (by omega) (by decide) dX6_leave_40 (fun f hR hF => ?_)
  refine V_aload_n X rfl dX6_leave_41 ?_
  refine V_aload_n X rfl dX6_leave_42 ?_
  refine V_mget X hR (v := .ref (am 7)) 8 (by decide) hinX6_leave_X6 (rfl) (by decide +kernel) rfl dX6_leave_43 ?_
  refine V_iload_n X rfl dX6_leave_46 ?_
  refine V_mald X hR 7 (k) 100 (by decide) rfl (by omega) (by decide) (w := ar 7 k) (rfl) dX6_leave_47 ?_
  refine V_iconst X (v := 0) (by decide) dX6_leave_48 ?_
  refine V_callV (kc' := 0) (ks' := 0) X (rest := _) (c_X6_become _ _ _ am _ _ hR np hnp hp18 _ _) hR.1 rfl gX6_leave_X6_become rfl hdv_X6_become (Nat.le_of_ble_eq_true rfl) (Nat.le_of_ble_eq_true rfl) rfl (Nat.le_of_ble_eq_true rfl) (by omega) (by omega) dX6_leave_49 (fun r f1 hq => ?_)
  obtain ⟨rfl, hR, hF1⟩ := hq
  have hF := hF.trans hF1
  refine V_aload_n X rfl dX6_leave_52 ?_
  refine V_mget X hR (v := .int (sc 3)) 18 (by decide) hinX6_leave_X6 (congrArg (fun z => some (Value.int z)) (rfl)) (by decide +kernel) rfl dX6_leave_53 ?_
  refine V_aload_n X rfl dX6_leave_56 ?_
  refine V_mget X hR (v := .ref (am 8)) 9 (by decide) hinX6_leave_X6 (rfl) (by decide +kernel) rfl dX6_leave_57 ?_
  refine V_iload_n X rfl dX6_leave_60 ?_
  refine V_mald X hR 8 (k) 100 (by decide) rfl (by omega) (by decide) (w := ar 8 k) (rfl) dX6_leave_61 ?_
  refine V_isub X dX6_leave_62 ?_
  exact V_iret X hr (⟨rfl, hR, hF⟩) dX6_leave_63
set_option maxHeartbeats 4000000 in
set_option maxRecDepth 100000 in
theorem c_X6_fit_1a (l : Launch) (G : GG) (f : Wo) (am : Nat → Nat) (sc : Nat → Int32) (ar : Nat → Nat → Int32) (hR : RM G am sc ar f) (p o : Int32) (hp : inI p 0 (sc 1 - 1) = false) : Ct l yX6_fit wsX6_fit 4 111 G [.ref (am 0), .int p, .int o] f (fun v9 f' => v9 = some (.int 0) ∧ RM G am (va_up sc 7 1) (ar) f' ∧ FrM am f f') 0 0 := by
  refine Ct.of (cc := cX6_fit) (maxL := 4) (ret := (some .boolean)) (by decide) rfl (Nat.le_of_ble_eq_true rfl) (lv := [(0, _), (1, _), (2, _)]) rfl (by simp [Value.category]) ?_
  intro K X hL hG hr hnm
  subst hL; subst hG
  have hF : FrM am f f := FrM.rf
  refine V_aload_n X rfl dX6_fit_0 ?_
  refine V_iload_n X rfl dX6_fit_1 ?_
  refine V_callVp X (rest := _) (c_X6_isParty _ _ _ am sc ar hR _) hR.1 rfl gX6_fit_X6_isParty rfl hdv_X6_isParty (Nat.le_of_ble_eq_true rfl) (Nat.le_of_ble_eq_true rfl) rfl (Nat.le_of_ble_eq_true rfl) dX6_fit_2 ?_
  refine V.top (y := 0) (by rw [hp]; rfl) ?_
  refine V_if_eq X (tgt := 20) (by decide) dX6_fit_5 (fun hc5 => ?_) (fun hc5 => absurd hc5 (by decide))
  refine V_iconst X (v := 0) (by decide) dX6_fit_20 ?_
  refine V_istore_n X (lv' := [(3, _), (0, _), (1, _), (2, _)]) (by decide) rfl dX6_fit_21 ?_
  refine V_aload_n X rfl dX6_fit_22 ?_
  refine V_iload_n X rfl dX6_fit_23 ?_
  refine V_if_ne X (tgt := 31) (by decide) dX6_fit_24 (fun hc24 => absurd hc24 (by decide)) (fun hc24 => ?_)
  refine V_iconst X (v := 1) (by decide) dX6_fit_27 ?_
  refine V_goto X (tgt := 52) (by decide) dX6_fit_28 ?_
  refine V_callV (kc' := 0) (ks' := 0) X (rest := _) (c_X6_can _ _ _ am _ ar hR _) hR.1 rfl gX6_fit_X6_can rfl hdv_X6_can (Nat.le_of_ble_eq_true rfl) (Nat.le_of_ble_eq_true rfl) rfl (Nat.le_of_ble_eq_true rfl) (by omega) (by omega) dX6_fit_52 (fun r f1 hq => ?_)
  obtain ⟨rfl, hR, hF1⟩ := hq
  have hF := hF.trans hF1
  refine V.top (y := 0) (by decide) ?_
  refine V_if_eq X (tgt := 71) (by decide) dX6_fit_55 (fun hc55 => ?_) (fun hc55 => absurd hc55 (by decide))
  refine V_iconst X (v := 0) (by decide) dX6_fit_71 ?_
  exact V_zret X hr (by decide) (⟨rfl, hR, hF⟩) dX6_fit_72
set_option maxHeartbeats 4000000 in
set_option maxRecDepth 100000 in
theorem c_X6_fit_1b (l : Launch) (G : GG) (f : Wo) (am : Nat → Nat) (sc : Nat → Int32) (ar : Nat → Nat → Int32) (hR : RM G am sc ar f) (p o : Int32) (hp : inI p 0 (sc 1 - 1) = true) (ho : inI o 0 (sc 1 - 1) = false) : Ct l yX6_fit wsX6_fit 4 111 G [.ref (am 0), .int p, .int o] f (fun v9 f' => v9 = some (.int 0) ∧ RM G am (va_up sc 7 1) (ar) f' ∧ FrM am f f') 0 0 := by
  refine Ct.of (cc := cX6_fit) (maxL := 4) (ret := (some .boolean)) (by decide) rfl (Nat.le_of_ble_eq_true rfl) (lv := [(0, _), (1, _), (2, _)]) rfl (by simp [Value.category]) ?_
  intro K X hL hG hr hnm
  subst hL; subst hG
  have hF : FrM am f f := FrM.rf
  refine V_aload_n X rfl dX6_fit_0 ?_
  refine V_iload_n X rfl dX6_fit_1 ?_
  refine V_callVp X (rest := _) (c_X6_isParty _ _ _ am sc ar hR _) hR.1 rfl gX6_fit_X6_isParty rfl hdv_X6_isParty (Nat.le_of_ble_eq_true rfl) (Nat.le_of_ble_eq_true rfl) rfl (Nat.le_of_ble_eq_true rfl) dX6_fit_2 ?_
  refine V.top (y := 1) (by rw [hp]; rfl) ?_
  refine V_if_eq X (tgt := 20) (by decide) dX6_fit_5 (fun hc5 => absurd hc5 (by decide)) (fun hc5 => ?_)
  refine V_aload_n X rfl dX6_fit_8 ?_
  refine V_iload_n X rfl dX6_fit_9 ?_
  refine V_callVp X (rest := _) (c_X6_isParty _ _ _ am sc ar hR _) hR.1 rfl gX6_fit_X6_isParty rfl hdv_X6_isParty (Nat.le_of_ble_eq_true rfl) (Nat.le_of_ble_eq_true rfl) rfl (Nat.le_of_ble_eq_true rfl) dX6_fit_10 ?_
  refine V.top (y := 0) (by rw [ho]; rfl) ?_
  refine V_if_eq X (tgt := 20) (by decide) dX6_fit_13 (fun hc13 => ?_) (fun hc13 => absurd hc13 (by decide))
  refine V_iconst X (v := 0) (by decide) dX6_fit_20 ?_
  refine V_istore_n X (lv' := [(3, _), (0, _), (1, _), (2, _)]) (by decide) rfl dX6_fit_21 ?_
  refine V_aload_n X rfl dX6_fit_22 ?_
  refine V_iload_n X rfl dX6_fit_23 ?_
  refine V_if_ne X (tgt := 31) (by decide) dX6_fit_24 (fun hc24 => absurd hc24 (by decide)) (fun hc24 => ?_)
  refine V_iconst X (v := 1) (by decide) dX6_fit_27 ?_
  refine V_goto X (tgt := 52) (by decide) dX6_fit_28 ?_
  refine V_callV (kc' := 0) (ks' := 0) X (rest := _) (c_X6_can _ _ _ am _ ar hR _) hR.1 rfl gX6_fit_X6_can rfl hdv_X6_can (Nat.le_of_ble_eq_true rfl) (Nat.le_of_ble_eq_true rfl) rfl (Nat.le_of_ble_eq_true rfl) (by omega) (by omega) dX6_fit_52 (fun r f1 hq => ?_)
  obtain ⟨rfl, hR, hF1⟩ := hq
  have hF := hF.trans hF1
  refine V.top (y := 0) (by decide) ?_
  refine V_if_eq X (tgt := 71) (by decide) dX6_fit_55 (fun hc55 => ?_) (fun hc55 => absurd hc55 (by decide))
  refine V_iconst X (v := 0) (by decide) dX6_fit_71 ?_
  exact V_zret X hr (by decide) (⟨rfl, hR, hF⟩) dX6_fit_72
set_option maxHeartbeats 4000000 in
set_option maxRecDepth 100000 in
theorem c_X6_fit_2a (l : Launch) (G : GG) (f : Wo) (am : Nat → Nat) (sc : Nat → Int32) (ar : Nat → Nat → Int32) (hR : RM G am sc ar f) (a b : Nat) (ha : a < 100) (hb : b < 100) (hp : inI (nI a) 0 (sc 1 - 1) = true) (ho : inI (nI b) 0 (sc 1 - 1) = true) (hba : ar 9 a = bI false) : Ct l yX6_fit wsX6_fit 4 111 G [.ref (am 0), .int (nI a), .int (nI b)] f (fun v9 f' => v9 = some (.int 0) ∧ RM G am (va_up sc 7 2) (ar) f' ∧ FrM am f f') 0 0 := by
  refine Ct.of (cc := cX6_fit) (maxL := 4) (ret := (some .boolean)) (by decide) rfl (Nat.le_of_ble_eq_true rfl) (lv := [(0, _), (1, _), (2, _)]) rfl (by simp [Value.category]) ?_
  intro K X hL hG hr hnm
  subst hL; subst hG
  have hF : FrM am f f := FrM.rf
  refine V_aload_n X rfl dX6_fit_0 ?_
  refine V_iload_n X rfl dX6_fit_1 ?_
  refine V_callVp X (rest := _) (c_X6_isParty _ _ _ am sc ar hR _) hR.1 rfl gX6_fit_X6_isParty rfl hdv_X6_isParty (Nat.le_of_ble_eq_true rfl) (Nat.le_of_ble_eq_true rfl) rfl (Nat.le_of_ble_eq_true rfl) dX6_fit_2 ?_
  refine V.top (y := 1) (by rw [hp]; rfl) ?_
  refine V_if_eq X (tgt := 20) (by decide) dX6_fit_5 (fun hc5 => absurd hc5 (by decide)) (fun hc5 => ?_)
  refine V_aload_n X rfl dX6_fit_8 ?_
  refine V_iload_n X rfl dX6_fit_9 ?_
  refine V_callVp X (rest := _) (c_X6_isParty _ _ _ am sc ar hR _) hR.1 rfl gX6_fit_X6_isParty rfl hdv_X6_isParty (Nat.le_of_ble_eq_true rfl) (Nat.le_of_ble_eq_true rfl) rfl (Nat.le_of_ble_eq_true rfl) dX6_fit_10 ?_
  refine V.top (y := 1) (by rw [ho]; rfl) ?_
  refine V_if_eq X (tgt := 20) (by decide) dX6_fit_13 (fun hc13 => absurd hc13 (by decide)) (fun hc13 => ?_)
  refine V_iconst X (v := 1) (by decide) dX6_fit_16 ?_
  refine V_goto X (tgt := 21) (by decide) dX6_fit_17 ?_
  refine V_istore_n X (lv' := [(3, _), (0, _), (1, _), (2, _)]) (by decide) rfl dX6_fit_21 ?_
  refine V_aload_n X rfl dX6_fit_22 ?_
  refine V_iload_n X rfl dX6_fit_23 ?_
  refine V_if_ne X (tgt := 31) (by decide) dX6_fit_24 (fun hc24 => ?_) (fun hc24 => absurd hc24 (by decide))
  refine V_aload_n X rfl dX6_fit_31 ?_
  refine V_iload_n X rfl dX6_fit_32 ?_
  refine V_callVp X (rest := _) (c_X6_queues _ _ _ am sc ar hR a (by omega) false hba) hR.1 rfl gX6_fit_X6_queues rfl hdv_X6_queues (Nat.le_of_ble_eq_true rfl) (Nat.le_of_ble_eq_true rfl) rfl (Nat.le_of_ble_eq_true rfl) dX6_fit_33 ?_
  refine V.top (y := 0) rfl ?_
  refine V_if_eq X (tgt := 51) (by decide) dX6_fit_36 (fun hc36 => ?_) (fun hc36 => absurd hc36 (by decide))
  refine V_iconst X (v := 2) (by decide) dX6_fit_51 ?_
  refine V_callV (kc' := 0) (ks' := 0) X (rest := _) (c_X6_can _ _ _ am _ ar hR _) hR.1 rfl gX6_fit_X6_can rfl hdv_X6_can (Nat.le_of_ble_eq_true rfl) (Nat.le_of_ble_eq_true rfl) rfl (Nat.le_of_ble_eq_true rfl) (by omega) (by omega) dX6_fit_52 (fun r f1 hq => ?_)
  obtain ⟨rfl, hR, hF1⟩ := hq
  have hF := hF.trans hF1
  refine V.top (y := 0) (by decide) ?_
  refine V_if_eq X (tgt := 71) (by decide) dX6_fit_55 (fun hc55 => ?_) (fun hc55 => absurd hc55 (by decide))
  refine V_iconst X (v := 0) (by decide) dX6_fit_71 ?_
  exact V_zret X hr (by decide) (⟨rfl, hR, hF⟩) dX6_fit_72
set_option maxHeartbeats 4000000 in
set_option maxRecDepth 100000 in
theorem c_X6_fit_2b (l : Launch) (G : GG) (f : Wo) (am : Nat → Nat) (sc : Nat → Int32) (ar : Nat → Nat → Int32) (hR : RM G am sc ar f) (a b : Nat) (ha : a < 100) (hb : b < 100) (hp : inI (nI a) 0 (sc 1 - 1) = true) (ho : inI (nI b) 0 (sc 1 - 1) = true) (hba : ar 9 a = bI true) (hbb : ar 9 b = bI false) : Ct l yX6_fit wsX6_fit 4 111 G [.ref (am 0), .int (nI a), .int (nI b)] f (fun v9 f' => v9 = some (.int 0) ∧ RM G am (va_up sc 7 2) (ar) f' ∧ FrM am f f') 0 0 := by
  refine Ct.of (cc := cX6_fit) (maxL := 4) (ret := (some .boolean)) (by decide) rfl (Nat.le_of_ble_eq_true rfl) (lv := [(0, _), (1, _), (2, _)]) rfl (by simp [Value.category]) ?_
  intro K X hL hG hr hnm
  subst hL; subst hG
  have hF : FrM am f f := FrM.rf
  refine V_aload_n X rfl dX6_fit_0 ?_
  refine V_iload_n X rfl dX6_fit_1 ?_
  refine V_callVp X (rest := _) (c_X6_isParty _ _ _ am sc ar hR _) hR.1 rfl gX6_fit_X6_isParty rfl hdv_X6_isParty (Nat.le_of_ble_eq_true rfl) (Nat.le_of_ble_eq_true rfl) rfl (Nat.le_of_ble_eq_true rfl) dX6_fit_2 ?_
  refine V.top (y := 1) (by rw [hp]; rfl) ?_
  refine V_if_eq X (tgt := 20) (by decide) dX6_fit_5 (fun hc5 => absurd hc5 (by decide)) (fun hc5 => ?_)
  refine V_aload_n X rfl dX6_fit_8 ?_
  refine V_iload_n X rfl dX6_fit_9 ?_
  refine V_callVp X (rest := _) (c_X6_isParty _ _ _ am sc ar hR _) hR.1 rfl gX6_fit_X6_isParty rfl hdv_X6_isParty (Nat.le_of_ble_eq_true rfl) (Nat.le_of_ble_eq_true rfl) rfl (Nat.le_of_ble_eq_true rfl) dX6_fit_10 ?_
  refine V.top (y := 1) (by rw [ho]; rfl) ?_
  refine V_if_eq X (tgt := 20) (by decide) dX6_fit_13 (fun hc13 => absurd hc13 (by decide)) (fun hc13 => ?_)
  refine V_iconst X (v := 1) (by decide) dX6_fit_16 ?_
  refine V_goto X (tgt := 21) (by decide) dX6_fit_17 ?_
  refine V_istore_n X (lv' := [(3, _), (0, _), (1, _), (2, _)]) (by decide) rfl dX6_fit_21 ?_
  refine V_aload_n X rfl dX6_fit_22 ?_
  refine V_iload_n X rfl dX6_fit_23 ?_
  refine V_if_ne X (tgt := 31) (by decide) dX6_fit_24 (fun hc24 => ?_) (fun hc24 => absurd hc24 (by decide))
  refine V_aload_n X rfl dX6_fit_31 ?_
  refine V_iload_n X rfl dX6_fit_32 ?_
  refine V_callVp X (rest := _) (c_X6_queues _ _ _ am sc ar hR a (by omega) true hba) hR.1 rfl gX6_fit_X6_queues rfl hdv_X6_queues (Nat.le_of_ble_eq_true rfl) (Nat.le_of_ble_eq_true rfl) rfl (Nat.le_of_ble_eq_true rfl) dX6_fit_33 ?_
  refine V.top (y := 1) rfl ?_
  refine V_if_eq X (tgt := 51) (by decide) dX6_fit_36 (fun hc36 => absurd hc36 (by decide)) (fun hc36 => ?_)
  refine V_aload_n X rfl dX6_fit_39 ?_
  refine V_iload_n X rfl dX6_fit_40 ?_
  refine V_callVp X (rest := _) (c_X6_queues _ _ _ am sc ar hR b (by omega) false hbb) hR.1 rfl gX6_fit_X6_queues rfl hdv_X6_queues (Nat.le_of_ble_eq_true rfl) (Nat.le_of_ble_eq_true rfl) rfl (Nat.le_of_ble_eq_true rfl) dX6_fit_41 ?_
  refine V.top (y := 0) rfl ?_
  refine V_if_eq X (tgt := 51) (by decide) dX6_fit_44 (fun hc44 => ?_) (fun hc44 => absurd hc44 (by decide))
  refine V_iconst X (v := 2) (by decide) dX6_fit_51 ?_
  refine V_callV (kc' := 0) (ks' := 0) X (rest := _) (c_X6_can _ _ _ am _ ar hR _) hR.1 rfl gX6_fit_X6_can rfl hdv_X6_can (Nat.le_of_ble_eq_true rfl) (Nat.le_of_ble_eq_true rfl) rfl (Nat.le_of_ble_eq_true rfl) (by omega) (by omega) dX6_fit_52 (fun r f1 hq => ?_)
  obtain ⟨rfl, hR, hF1⟩ := hq
  have hF := hF.trans hF1
  refine V.top (y := 0) (by decide) ?_
  refine V_if_eq X (tgt := 71) (by decide) dX6_fit_55 (fun hc55 => ?_) (fun hc55 => absurd hc55 (by decide))
  refine V_iconst X (v := 0) (by decide) dX6_fit_71 ?_
  exact V_zret X hr (by decide) (⟨rfl, hR, hF⟩) dX6_fit_72
set_option maxHeartbeats 4000000 in
set_option maxRecDepth 100000 in
theorem c_X6_fit_0 (l : Launch) (G : GG) (f : Wo) (am : Nat → Nat) (sc : Nat → Int32) (ar : Nat → Nat → Int32) (hR : RM G am sc ar f) (np : Nat) (hnp : sc 0 = nI np) (hp18 : np ≤ 18) (a b : Nat) (ha : a < 100) (hb : b < 100) (hp : inI (nI a) 0 (sc 1 - 1) = true) (ho : inI (nI b) 0 (sc 1 - 1) = true) (hba : ar 9 a = bI true) (hbb : ar 9 b = bI true) (hza : ¬ szI (ar 7 a) = 0) (hzb : ¬ szI (ar 7 b) = 0) : Ct l yX6_fit wsX6_fit 4 111 G [.ref (am 0), .int (nI a), .int (nI b)] f (fun v9 f' => v9 = some (.int (bI (ftI (sc 3) (mnI np (ar 7 a) (ar 1)) (mnI np (ar 7 b) (ar 1)) (ar 8 a) (ar 8 b)))) ∧ RM G am (va_up sc 7 0) (ar) f' ∧ FrM am f f') 0 0 := by
  refine Ct.of (cc := cX6_fit) (maxL := 4) (ret := (some .boolean)) (by decide) rfl (Nat.le_of_ble_eq_true rfl) (lv := [(0, _), (1, _), (2, _)]) rfl (by simp [Value.category]) ?_
  intro K X hL hG hr hnm
  subst hL; subst hG
  have hF : FrM am f f := FrM.rf
  refine V_aload_n X rfl dX6_fit_0 ?_
  refine V_iload_n X rfl dX6_fit_1 ?_
  refine V_callVp X (rest := _) (c_X6_isParty _ _ _ am sc ar hR _) hR.1 rfl gX6_fit_X6_isParty rfl hdv_X6_isParty (Nat.le_of_ble_eq_true rfl) (Nat.le_of_ble_eq_true rfl) rfl (Nat.le_of_ble_eq_true rfl) dX6_fit_2 ?_
  refine V.top (y := 1) (by rw [hp]; rfl) ?_
  refine V_if_eq X (tgt := 20) (by decide) dX6_fit_5 (fun hc5 => absurd hc5 (by decide)) (fun hc5 => ?_)
  refine V_aload_n X rfl dX6_fit_8 ?_
  refine V_iload_n X rfl dX6_fit_9 ?_
  refine V_callVp X (rest := _) (c_X6_isParty _ _ _ am sc ar hR _) hR.1 rfl gX6_fit_X6_isParty rfl hdv_X6_isParty (Nat.le_of_ble_eq_true rfl) (Nat.le_of_ble_eq_true rfl) rfl (Nat.le_of_ble_eq_true rfl) dX6_fit_10 ?_
  refine V.top (y := 1) (by rw [ho]; rfl) ?_
  refine V_if_eq X (tgt := 20) (by decide) dX6_fit_13 (fun hc13 => absurd hc13 (by decide)) (fun hc13 => ?_)
  refine V_iconst X (v := 1) (by decide) dX6_fit_16 ?_
  refine V_goto X (tgt := 21) (by decide) dX6_fit_17 ?_
  refine V_istore_n X (lv' := [(3, _), (0, _), (1, _), (2, _)]) (by decide) rfl dX6_fit_21 ?_
  refine V_aload_n X rfl dX6_fit_22 ?_
  refine V_iload_n X rfl dX6_fit_23 ?_
  refine V_if_ne X (tgt := 31) (by decide) dX6_fit_24 (fun hc24 => ?_) (fun hc24 => absurd hc24 (by decide))
  refine V_aload_n X rfl dX6_fit_31 ?_
  refine V_iload_n X rfl dX6_fit_32 ?_
  refine V_callVp X (rest := _) (c_X6_queues _ _ _ am sc ar hR a (by omega) true hba) hR.1 rfl gX6_fit_X6_queues rfl hdv_X6_queues (Nat.le_of_ble_eq_true rfl) (Nat.le_of_ble_eq_true rfl) rfl (Nat.le_of_ble_eq_true rfl) dX6_fit_33 ?_
  refine V.top (y := 1) rfl ?_
  refine V_if_eq X (tgt := 51) (by decide) dX6_fit_36 (fun hc36 => absurd hc36 (by decide)) (fun hc36 => ?_)
  refine V_aload_n X rfl dX6_fit_39 ?_
  refine V_iload_n X rfl dX6_fit_40 ?_
  refine V_callVp X (rest := _) (c_X6_queues _ _ _ am sc ar hR b (by omega) true hbb) hR.1 rfl gX6_fit_X6_queues rfl hdv_X6_queues (Nat.le_of_ble_eq_true rfl) (Nat.le_of_ble_eq_true rfl) rfl (Nat.le_of_ble_eq_true rfl) dX6_fit_41 ?_
  refine V.top (y := 1) rfl ?_
  refine V_if_eq X (tgt := 51) (by decide) dX6_fit_44 (fun hc44 => absurd hc44 (by decide)) (fun hc44 => ?_)
  refine V_iconst X (v := 0) (by decide) dX6_fit_47 ?_
  refine V_goto X (tgt := 52) (by decide) dX6_fit_48 ?_
  refine V_callV (kc' := 0) (ks' := 0) X (rest := _) (c_X6_can _ _ _ am _ ar hR _) hR.1 rfl gX6_fit_X6_can rfl hdv_X6_can (Nat.le_of_ble_eq_true rfl) (Nat.le_of_ble_eq_true rfl) rfl (Nat.le_of_ble_eq_true rfl) (by omega) (by omega) dX6_fit_52 (fun r f1 hq => ?_)
  obtain ⟨rfl, hR, hF1⟩ := hq
  have hF := hF.trans hF1
  refine V.top (y := 1) (by decide) ?_
  refine V_if_eq X (tgt := 71) (by decide) dX6_fit_55 (fun hc55 => absurd hc55 (by decide)) (fun hc55 => ?_)
  refine V_aload_n X rfl dX6_fit_58 ?_
  refine V_iload_n X rfl dX6_fit_59 ?_
  refine V_iload_n X rfl dX6_fit_60 ?_
  refine V_callVp X (rest := _) (c_X6_fits _ _ _ am _ ar hR np hnp hp18 a b ha hb hza hzb) hR.1 rfl gX6_fit_X6_fits rfl hdv_X6_fits (Nat.le_of_ble_eq_true rfl) (Nat.le_of_ble_eq_true rfl) rfl (Nat.le_of_ble_eq_true rfl) dX6_fit_61 ?_
  refine V_if_eq X (tgt := 71) (by decide) dX6_fit_64 (fun hc64 => ?_) (fun hc64 => ?_)
  · refine V_iconst X (v := 0) (by decide) dX6_fit_71 ?_
    exact V_zret X hr (by decide) (⟨bI_f (bI_eq0 hc64), hR, hF⟩) dX6_fit_72
  · refine V_iconst X (v := 1) (by decide) dX6_fit_67 ?_
    refine V_goto X (tgt := 72) (by decide) dX6_fit_68 ?_
    exact V_zret X hr (by decide) (⟨bI_t (bI_ne0 hc64), hR, hF⟩) dX6_fit_72
theorem hinX6_queued_X6 : ∀ w ∈ wsX60, w ∈ wsX6_queued := by decide +kernel
set_option maxHeartbeats 4000000 in
set_option maxRecDepth 100000 in
theorem c_X6_queued (l : Launch) (G : GG) (f : Wo) (am : Nat → Nat) (sc : Nat → Int32) (ar : Nat → Nat → Int32) (hR : RM G am sc ar f) (nt : Nat) (hnt : sc 1 = nI nt) (ht100 : nt ≤ 100) : Ct l yX6_queued wsX6_queued 1 44 G [.ref (am 0)] f (fun v9 f' => v9 = some (.int (cntI nt (ar 9))) ∧ RM G am (va_up sc 7 0) (ar) f' ∧ FrM am f f') 0 0 := by
  refine Ct.of (cc := cX6_queued) (maxL := 3) (ret := (some .int)) (by decide) rfl (Nat.le_of_ble_eq_true rfl) (lv := [(0, _)]) rfl (by simp [Value.category]) ?_
  intro K X hL hG hr hnm
  subst hL; subst hG
  have hF : FrM am f f := FrM.rf
  have L : ∀ (n i : Nat), nt - i = n → i ≤ nt → ∀ fw : Wo, RM (kG K) am (va_up sc 7 0) ar fw → FrM am f fw → V K fw 0 0 9 [(0, .ref (am 0)), (1, .int (cntI i (ar 9))), (2, .int (nI i))] [] := by
    intro n
    induction n using Nat.strongRecOn with
    | ind n ih =>
      intro i hn hi f hR hF
      refine V_iload_n X rfl dX6_queued_9 ?_
      refine V_aload_n X rfl dX6_queued_10 ?_
      refine V_mget X hR (v := .int (nI nt)) 7 (by decide) hinX6_queued_X6 (congrArg (fun z => some (Value.int z)) (hnt)) (by decide +kernel) rfl dX6_queued_11 ?_
      refine V_icmp_ge X (tgt := 40) (by decide) dX6_queued_14 (fun hc14 => ?_) (fun hc14 => ?_)
      · have hi18 := lim_ge (N := nt) rfl hc14 hi (by omega)
        subst hi18
        refine V_iload_n X rfl dX6_queued_40 ?_
        exact V_iret X hr (⟨rfl, hR, hF⟩) dX6_queued_41
      · have hlt := lim_lt (N := nt) rfl hc14 hi (by omega)
        refine V_iload_n X rfl dX6_queued_17 ?_
        refine V_aload_n X rfl dX6_queued_18 ?_
        refine V_mget X hR (v := .ref (am 9)) 10 (by decide) hinX6_queued_X6 (rfl) (by decide +kernel) rfl dX6_queued_19 ?_
        refine V_iload_n X rfl dX6_queued_22 ?_
        refine V_mzld X hR (i) (by omega) rfl dX6_queued_23 ?_
        refine V_if_eq X (tgt := 31) (by decide) dX6_queued_24 (fun hc24 => ?_) (fun hc24 => ?_)
        · refine V_iconst X (v := 0) (by decide) dX6_queued_31 ?_
          refine V_iadd X dX6_queued_32 ?_
          refine V.top (y := cntI (i + 1) (ar 9)) (cntI_t hc24) ?_
          refine V_istore_n X (lv' := [(1, _), (0, _), (2, _)]) (by decide) rfl dX6_queued_33 ?_
          refine V_iinc X (lv' := [(2, _), (1, _), (0, _)]) (v := nI (i + 1)) rfl (nI_1 _) (by decide) rfl dX6_queued_34 ?_
          refine V_goto X (tgt := 9) (by decide) dX6_queued_37 ?_
          refine V.lvs (lv' := [(0, _), (1, _), (2, _)]) rfl ?_
          exact ih (nt - (i + 1)) (by omega) (i + 1) rfl (by omega) _ hR hF
        · refine V_iconst X (v := 1) (by decide) dX6_queued_27 ?_
          refine V_goto X (tgt := 32) (by decide) dX6_queued_28 ?_
          refine V_iadd X dX6_queued_32 ?_
          refine V.top (y := cntI (i + 1) (ar 9)) (cntI_f hc24) ?_
          refine V_istore_n X (lv' := [(1, _), (0, _), (2, _)]) (by decide) rfl dX6_queued_33 ?_
          refine V_iinc X (lv' := [(2, _), (1, _), (0, _)]) (v := nI (i + 1)) rfl (nI_1 _) (by decide) rfl dX6_queued_34 ?_
          refine V_goto X (tgt := 9) (by decide) dX6_queued_37 ?_
          refine V.lvs (lv' := [(0, _), (1, _), (2, _)]) rfl ?_
          exact ih (nt - (i + 1)) (by omega) (i + 1) rfl (by omega) _ hR hF
  refine V_aload_n X rfl dX6_queued_0 ?_
  refine V_iconst X (v := 0) (by decide) dX6_queued_1 ?_
  refine V_mput X hR hF 7 23 (by decide) hinX6_queued_X6 rfl (by decide +kernel) rfl rfl rfl dX6_queued_2 (fun f hR hF => ?_)
  refine V_iconst X (v := 0) (by decide) dX6_queued_5 ?_
  refine V_istore_n X (lv' := [(1, _), (0, _)]) (by decide) rfl dX6_queued_6 ?_
  refine V_iconst X (v := 0) (by decide) dX6_queued_7 ?_
  refine V_istore_n X (lv' := [(2, _), (1, _), (0, _)]) (by decide) rfl dX6_queued_8 ?_
  refine V.lvs (lv' := [(0, _), (1, _), (2, _)]) rfl ?_
  exact L nt 0 (by omega) (by omega) _ hR hF
theorem hinX6_playersOf_X6 : ∀ w ∈ wsX60, w ∈ wsX6_playersOf := by decide +kernel
set_option maxHeartbeats 4000000 in
set_option maxRecDepth 100000 in
theorem c_X6_playersOf (l : Launch) (G : GG) (f : Wo) (am : Nat → Nat) (sc : Nat → Int32) (ar : Nat → Nat → Int32) (hR : RM G am sc ar f) (mn : Nat) (hmn : sc 4 = nI mn) (hm18 : mn ≤ 18) (ln : Nat → Nat) (hln : ∀ i, i < mn → ar 16 i = nI (ln i) ∧ ln i < 100) (s : Int32) : Cp l yX6_playersOf wsX6_playersOf 2 65 G [.ref (am 0), .int s] f (.int (plI mn s ln (ar 7) mn)) := by
  refine Ct.of (cc := cX6_playersOf) (maxL := 4) (ret := (some .int)) (by decide) rfl (Nat.le_of_ble_eq_true rfl) (lv := [(0, _), (1, _)]) rfl (by simp [Value.category]) ?_
  intro K X hL hG hr hnm
  subst hL; subst hG
  have L : ∀ (n i : Nat), mn - i = n → i ≤ mn → V K f 0 0 4 [(0, .ref (am 0)), (1, .int s), (2, .int (plI mn s ln (ar 7) i)), (3, .int (nI i))] [] := by
    intro n
    induction n using Nat.strongRecOn with
    | ind n ih =>
      intro i hn hi
      refine V_iload_n X rfl dX6_playersOf_4 ?_
      refine V_aload_n X rfl dX6_playersOf_5 ?_
      refine V_mget X hR (v := .int (nI mn)) 19 (by decide) hinX6_playersOf_X6 (congrArg (fun z => some (Value.int z)) (hmn)) (by decide +kernel) rfl dX6_playersOf_6 ?_
      refine V_icmp_ge X (tgt := 51) (by decide) dX6_playersOf_9 (fun hc9 => ?_) (fun hc9 => ?_)
      · have hi18 := lim_ge (N := mn) rfl hc9 hi (by omega)
        subst hi18
        refine V_iload_n X rfl dX6_playersOf_51 ?_
        exact V_iret X hr (⟨rfl, rfl⟩) dX6_playersOf_52
      · have hlt := lim_lt (N := mn) rfl hc9 hi (by omega)
        obtain ⟨hl1, hl2⟩ := hln i hlt
        refine V_iload_n X rfl dX6_playersOf_12 ?_
        refine V_iload_n X rfl dX6_playersOf_13 ?_
        refine V_aload_n X rfl dX6_playersOf_14 ?_
        refine V_mget X hR (v := .int (nI mn)) 19 (by decide) hinX6_playersOf_X6 (congrArg (fun z => some (Value.int z)) (hmn)) (by decide +kernel) rfl dX6_playersOf_15 ?_
        refine V_iconst X (v := 1) (by decide) dX6_playersOf_18 ?_
        refine V_isub X dX6_playersOf_19 ?_
        refine V_iload_n X rfl dX6_playersOf_20 ?_
        refine V_isub X dX6_playersOf_21 ?_
        refine V.top (y := nI (mn - 1 - i)) (nI_m1i hlt) ?_
        refine V_callSp X (rest := _) (c_X6_has _ _ _ _ _) gX6_playersOf_X6_has rfl hds_X6_has (Nat.le_of_ble_eq_true rfl) (Nat.le_of_ble_eq_true rfl) rfl (Nat.le_of_ble_eq_true rfl) dX6_playersOf_22 ?_
        refine V_if_eq X (tgt := 42) (by decide) dX6_playersOf_25 (fun hc25 => ?_) (fun hc25 => ?_)
        · refine V_iconst X (v := 0) (by decide) dX6_playersOf_42 ?_
          refine V_ior X dX6_playersOf_43 ?_
          refine V.top (y := plI mn s ln (ar 7) (i + 1)) (plI_f (bI_eq0 hc25)) ?_
          refine V_istore_n X (lv' := [(2, _), (0, _), (1, _), (3, _)]) (by decide) rfl dX6_playersOf_44 ?_
          refine V_iinc X (lv' := [(3, _), (2, _), (0, _), (1, _)]) (v := nI (i + 1)) rfl (nI_1 _) (by decide) rfl dX6_playersOf_45 ?_
          refine V_goto X (tgt := 4) (by decide) dX6_playersOf_48 ?_
          refine V.lvs (lv' := [(0, _), (1, _), (2, _), (3, _)]) rfl ?_
          exact ih (mn - (i + 1)) (by omega) (i + 1) rfl (by omega)
        · refine V_aload_n X rfl dX6_playersOf_28 ?_
          refine V_mget X hR (v := .ref (am 7)) 8 (by decide) hinX6_playersOf_X6 (rfl) (by decide +kernel) rfl dX6_playersOf_29 ?_
          refine V_aload_n X rfl dX6_playersOf_32 ?_
          refine V_mget X hR (v := .ref (am 16)) 20 (by decide) hinX6_playersOf_X6 (rfl) (by decide +kernel) rfl dX6_playersOf_33 ?_
          refine V_iload_n X rfl dX6_playersOf_36 ?_
          refine V_mald X hR 16 (i) 18 (by decide) rfl (by omega) (by decide) (w := nI (ln i)) (hl1) dX6_playersOf_37 ?_
          refine V_mald X hR 7 ((ln i)) 100 (by decide) rfl (by omega) (by decide) rfl dX6_playersOf_38 ?_
          refine V_goto X (tgt := 43) (by decide) dX6_playersOf_39 ?_
          refine V_ior X dX6_playersOf_43 ?_
          refine V.top (y := plI mn s ln (ar 7) (i + 1)) (plI_t (bI_ne0 hc25)) ?_
          refine V_istore_n X (lv' := [(2, _), (0, _), (1, _), (3, _)]) (by decide) rfl dX6_playersOf_44 ?_
          refine V_iinc X (lv' := [(3, _), (2, _), (0, _), (1, _)]) (v := nI (i + 1)) rfl (nI_1 _) (by decide) rfl dX6_playersOf_45 ?_
          refine V_goto X (tgt := 4) (by decide) dX6_playersOf_48 ?_
          refine V.lvs (lv' := [(0, _), (1, _), (2, _), (3, _)]) rfl ?_
          exact ih (mn - (i + 1)) (by omega) (i + 1) rfl (by omega)
  refine V_iconst X (v := 0) (by decide) dX6_playersOf_0 ?_
  refine V_istore_n X (lv' := [(2, _), (0, _), (1, _)]) (by decide) rfl dX6_playersOf_1 ?_
  refine V_iconst X (v := 0) (by decide) dX6_playersOf_2 ?_
  refine V_istore_n X (lv' := [(3, _), (2, _), (0, _), (1, _)]) (by decide) rfl dX6_playersOf_3 ?_
  refine V.lvs (lv' := [(0, _), (1, _), (2, _), (3, _)]) rfl ?_
  exact L mn 0 (by omega) (by omega)
theorem nI_2m (m : Nat) : 2 * nI m = nI (2 * m) := by rw [show (2 : Int32) = nI 2 from rfl, pk_mul]
theorem nI_2m1 (m : Nat) : nI (2 * m) + 1 = nI (2 * m + 1) := nI_1 _
def allI (tm : Nat → Int32) (m : Nat) : Int32 := tm (2 * m) ||| tm (2 * m + 1)
theorem hinX6_allOf_X6 : ∀ w ∈ wsX60, w ∈ wsX6_allOf := by decide +kernel
set_option maxHeartbeats 4000000 in
set_option maxRecDepth 100000 in
theorem c_X6_allOf (l : Launch) (G : GG) (f : Wo) (am : Nat → Nat) (sc : Nat → Int32) (ar : Nat → Nat → Int32) (hR : RM G am sc ar f) (k : Nat) (hk : k < 600) : Cp l yX6_allOf wsX6_allOf 1 44 G [.ref (am 0), .int (nI k)] f (.int (allI (ar 11) k)) := by
  refine Ct.of (cc := cX6_allOf) (maxL := 2) (ret := (some .int)) (by decide) rfl (Nat.le_of_ble_eq_true rfl) (lv := [(0, _), (1, _)]) rfl (by simp [Value.category]) ?_
  intro K X hL hG hr hnm
  subst hL; subst hG
  refine V_aload_n X rfl dX6_allOf_0 ?_
  refine V_mget X hR (v := .ref (am 11)) 13 (by decide) hinX6_allOf_X6 (rfl) (by decide +kernel) rfl dX6_allOf_1 ?_
  refine V_iconst X (v := 2) (by decide) dX6_allOf_4 ?_
  refine V_iload_n X rfl dX6_allOf_5 ?_
  refine V_imul X dX6_allOf_6 ?_
  refine V.top (y := nI (2 * k)) (nI_2m k) ?_
  refine V_mald X hR 11 (2 * k) 1200 (by decide) rfl (by omega) (by decide) rfl dX6_allOf_7 ?_
  refine V_aload_n X rfl dX6_allOf_8 ?_
  refine V_mget X hR (v := .ref (am 11)) 13 (by decide) hinX6_allOf_X6 (rfl) (by decide +kernel) rfl dX6_allOf_9 ?_
  refine V_iconst X (v := 2) (by decide) dX6_allOf_12 ?_
  refine V_iload_n X rfl dX6_allOf_13 ?_
  refine V_imul X dX6_allOf_14 ?_
  refine V.top (y := nI (2 * k)) (nI_2m k) ?_
  refine V_iconst X (v := 1) (by decide) dX6_allOf_15 ?_
  refine V_iadd X dX6_allOf_16 ?_
  refine V.top (y := nI (2 * k + 1)) (nI_2m1 k) ?_
  refine V_mald X hR 11 (2 * k + 1) 1200 (by decide) rfl (by omega) (by decide) rfl dX6_allOf_17 ?_
  refine V_ior X dX6_allOf_18 ?_
  exact V_iret X hr (⟨rfl, rfl⟩) dX6_allOf_19
