/-! ===== roles: counts of sets, and Hall's condition for three ===== -/
def q_ri (r : Int32) (i : Nat) : Nat := if r &&& (nI (i + 1) ^^^ (-1)) = 0 then 1 else 0
theorem q_ri_le (r : Int32) (i : Nat) : q_ri r i ≤ 1 := by unfold q_ri; split <;> omega
def q_po (i : Nat) : Nat := if i = 0 ∨ i = 1 ∨ i = 3 then 1 else 2
theorem q_s16 : ∀ i, i < 6 → (1 : Int32) <<< ((4 * nI (i + 1)) &&& 31) = nI (16 ^ (i + 1)) := by decide +kernel
theorem q_rcT (r : Int32) {i : Nat} (h : i < 6) : rcT r i = nI (q_ri r i * 16 ^ (i + 1)) := by
  unfold rcT q_ri
  split
  · rw [q_s16 i h, Nat.one_mul]
  · rw [Nat.zero_mul]; rfl
def q_rN (r : Int32) : Nat := q_ri r 0 * 16 + q_ri r 1 * 256 + q_ri r 2 * 4096 + q_ri r 3 * 65536 + q_ri r 4 * 1048576 + q_ri r 5 * 16777216
theorem q_rcI (r : Int32) : rcI r = nI (q_rN r) := by
  show (((((0 + rcT r 0) + rcT r 1) + rcT r 2) + rcT r 3) + rcT r 4) + rcT r 5 = _
  rw [q_rcT r (by decide), q_rcT r (by decide), q_rcT r (by decide), q_rcT r (by decide), q_rcT r (by decide), q_rcT r (by decide), Int32.zero_add, nI_add, nI_add, nI_add, nI_add, nI_add]
  rfl
def q_cn (ro : Nat → Int32) (i : Nat) (ks : List Nat) : Nat := q_sN (fun k => q_ri (ro k) i) ks
theorem q_cn_le (ro : Nat → Int32) (i : Nat) : ∀ ks : List Nat, q_cn ro i ks ≤ ks.length
  | [] => Nat.le_refl _
  | a :: t => by
    show q_ri (ro a) i + q_cn ro i t ≤ t.length + 1
    have h1 := q_ri_le (ro a) i
    have h2 := q_cn_le ro i t
    omega
theorem q_cn_a (ro : Nat → Int32) (i : Nat) (xs ys : List Nat) : q_cn ro i (xs ++ ys) = q_cn ro i xs + q_cn ro i ys := q_sN_a _ _ _
theorem q_cn_c (ro : Nat → Int32) (i : Nat) (a : Nat) (xs : List Nat) : q_cn ro i (a :: xs) = q_ri (ro a) i + q_cn ro i xs := rfl
def q_CN (ro : Nat → Int32) (ks : List Nat) : Nat := q_cn ro 0 ks * 16 + q_cn ro 1 ks * 256 + q_cn ro 2 ks * 4096 + q_cn ro 3 ks * 65536 + q_cn ro 4 ks * 1048576 + q_cn ro 5 ks * 16777216
theorem q_CN_s (ro : Nat → Int32) : ∀ ks : List Nat, q_sN (fun k => q_rN (ro k)) ks = q_CN ro ks
  | [] => (show (0 : Nat) = 0 * 16 + 0 * 256 + 0 * 4096 + 0 * 65536 + 0 * 1048576 + 0 * 16777216 by decide)
  | a :: t => by
    rw [q_sN_c, q_CN_s ro t]
    unfold q_CN q_rN
    rw [q_cn_c, q_cn_c, q_cn_c, q_cn_c, q_cn_c, q_cn_c]
    omega
theorem q_rcs (ro : Nat → Int32) (ks : List Nat) : q_sL (fun k => rcI (ro k)) ks = nI (q_CN ro ks) := by
  rw [← q_CN_s]
  exact q_sLN fun k _ => q_rcI (ro k)
theorem q_shk : ∀ i, i < 6 → (((4 * nI (i + 1)) &&& 31).toBitVec.smod 32).toNat = 4 * (i + 1) := by decide +kernel
theorem q_pop1 : ∀ i, i < 6 → (1 : Int32) * bcI (nI (i + 1)) = nI (q_po i) := by decide +kernel
theorem q_pop2 : ∀ i, i < 6 → (2 : Int32) * bcI (nI (i + 1)) = nI (2 * q_po i) := by decide +kernel
theorem q_nib {a b c d e f : Nat} (ha : a ≤ 15) (hb : b ≤ 15) (hc : c ≤ 15) (hd : d ≤ 15) (he : e ≤ 15) (hf : f ≤ 15) : let C := a * 16 + b * 256 + c * 4096 + d * 65536 + e * 1048576 + f * 16777216; C / 2 ^ 4 % 16 = a ∧ C / 2 ^ 8 % 16 = b ∧ C / 2 ^ 12 % 16 = c ∧ C / 2 ^ 16 % 16 = d ∧ C / 2 ^ 20 % 16 = e ∧ C / 2 ^ 24 % 16 = f := by
  intro C
  refine ⟨?_, ?_, ?_, ?_, ?_, ?_⟩ <;> (show (a * 16 + b * 256 + c * 4096 + d * 65536 + e * 1048576 + f * 16777216) / _ % 16 = _) <;> omega
theorem q_nibC (ro : Nat → Int32) {ks : List Nat} (h : ks.length ≤ 6) {i : Nat} (hi : i < 6) : q_CN ro ks / 2 ^ (4 * (i + 1)) % 16 = q_cn ro i ks := by
  have hh : ∀ j, q_cn ro j ks ≤ 15 := fun j => Nat.le_trans (q_cn_le ro j ks) (by omega)
  obtain ⟨h0, h1, h2, h3, h4, h5⟩ := q_nib (hh 0) (hh 1) (hh 2) (hh 3) (hh 4) (hh 5)
  have : i = 0 ∨ i = 1 ∨ i = 2 ∨ i = 3 ∨ i = 4 ∨ i = 5 := by omega
  rcases this with rfl | rfl | rfl | rfl | rfl | rfl
  · exact h0
  · exact h1
  · exact h2
  · exact h3
  · exact h4
  · exact h5
theorem q_CN_lt (ro : Nat → Int32) {ks : List Nat} (h : ks.length ≤ 6) : q_CN ro ks < 2 ^ 31 := by
  have hh : ∀ j, q_cn ro j ks ≤ 6 := fun j => Nat.le_trans (q_cn_le ro j ks) h
  have h0 := hh 0; have h1 := hh 1; have h2 := hh 2; have h3 := hh 3; have h4 := hh 4; have h5 := hh 5
  unfold q_CN
  omega
theorem q_sfx (ro : Nat → Int32) {ks : List Nat} (h : ks.length ≤ 6) {i : Nat} (hi : i < 6) : (nI (q_CN ro ks) >>> ((4 * nI (i + 1)) &&& 31)) &&& 15 = nI (q_cn ro i ks) := by
  rw [pk_shrN (q_CN_lt ro h) _ (4 * (i + 1)) (q_shk i hi), show (15 : Int32) = nI 15 from rfl, nI_and, show (15 : Nat) = 2 ^ 4 - 1 from rfl, Nat.and_two_pow_sub_one_eq_mod, show (2 : Nat) ^ 4 = 16 from rfl, q_nibC ro h hi]
theorem q_sf_t {c t : Int32} : sfB c t = true ↔ ∀ i, i < 6 → sfT c t i = true := ⟨fun h i hi => List.all_eq_true.mp h i (List.mem_range.mpr hi), sfB_t⟩
theorem q_sf1 (ro : Nat → Int32) {ks : List Nat} (h : ks.length ≤ 6) : sfB (q_sL (fun k => rcI (ro k)) ks) 1 = true ↔ ∀ i, i < 6 → q_cn ro i ks ≤ q_po i := by
  rw [q_sf_t, q_rcs]
  refine forall_congr' fun i => imp_congr_right fun hi => ?_
  unfold sfT
  rw [q_sfx ro h hi, q_pop1 i hi, decide_eq_true_eq]
  have h1 := q_cn_le ro i ks
  have h2 : q_po i ≤ 2 := by unfold q_po; split <;> omega
  exact ⟨fun q => Nat.not_lt.mp fun q2 => nI_ge q2 (by omega) q, fun q => nI_le q (by omega)⟩
theorem q_sf2 (ro : Nat → Int32) {ks : List Nat} (h : ks.length ≤ 6) : sfB (q_sL (fun k => rcI (ro k)) ks) 2 = true ↔ ∀ i, i < 6 → q_cn ro i ks ≤ 2 * q_po i := by
  rw [q_sf_t, q_rcs]
  refine forall_congr' fun i => imp_congr_right fun hi => ?_
  unfold sfT
  rw [q_sfx ro h hi, q_pop2 i hi, decide_eq_true_eq]
  have h1 := q_cn_le ro i ks
  have h2 : q_po i ≤ 2 := by unfold q_po; split <;> omega
  exact ⟨fun q => Nat.not_lt.mp fun q2 => nI_ge q2 (by omega) q, fun q => nI_le q (by omega)⟩
def q_hB (a b c : Nat) : Bool := (List.range 6).all fun i => decide (q_ri (nI a) i + q_ri (nI b) i + q_ri (nI c) i ≤ q_po i)
theorem q_hall1 : ((List.range 8).all fun a => (List.range 8).all fun b => (List.range 8).all fun c => a == 0 || (b == 0 || (c == 0 || (mB (nI c) (nI b) (nI a) 3 == q_hB a b c)))) = true := by decide +kernel
theorem q_hall0 (a : Nat) (ha : a < 8) (b : Nat) (hb : b < 8) (c : Nat) (hc : c < 8) (a0 : 0 < a) (b0 : 0 < b) (c0 : 0 < c) : mB (nI c) (nI b) (nI a) 3 = q_hB a b c := by
  have h := List.all_eq_true.mp (List.all_eq_true.mp (List.all_eq_true.mp q_hall1 a (List.mem_range.mpr ha)) b (List.mem_range.mpr hb)) c (List.mem_range.mpr hc)
  rw [Bool.or_eq_true, Bool.or_eq_true, Bool.or_eq_true, beq_iff_eq, beq_iff_eq, beq_iff_eq, beq_iff_eq] at h
  rcases h with h | h | h | h
  · omega
  · omega
  · omega
  · exact h
def q_la : List Nat → Int32 × Int32 × Int32
  | [] => (-1, -1, -1)
  | [a] => (nI a, -1, -1)
  | [a, b] => (nI a, nI b, -1)
  | a :: b :: c :: _ => (nI a, nI b, nI c)
theorem q_la_c (i : Nat) : ∀ l : List Nat, q_la (i :: l) = (nI i, (q_la l).1, (q_la l).2.1)
  | [] => rfl
  | [_] => rfl
  | [_, _] => rfl
  | _ :: _ :: _ :: _ => rfl
theorem q_scF (s : Int32) : ∀ i, scF s i = q_la (JQ s i).reverse
  | 0 => rfl
  | i + 1 => by
    show (if hsI s (nI i) = true then (nI i, (scF s i).1, (scF s i).2.1) else scF s i) = _
    cases h : hsI s (nI i) with
    | true => rw [if_pos rfl, JQ_t h, List.reverse_append, q_scF s i]; exact (q_la_c i _).symm
    | false => rw [if_neg (by decide), JQ_f h, q_scF s i]
theorem q_len18 (s : Int32) : (JQ s 18).length ≤ 18 := by
  have h := (List.filter_sublist (p := fun k => hsI s (nI k)) (l := List.range 18)).length_le
  rw [List.length_range] at h
  exact h
theorem q_sz3 {s : Int32} {n : Nat} (hn : n < 2 ^ 31) : szI s = nI n ↔ (JQ s 18).length = n := by
  rw [q_szI]
  refine ⟨fun h => ?_, fun h => by rw [h]⟩
  have h2 := congrArg Int32.toNatClampNeg h
  have := q_len18 s
  rwa [nI_clamp (by omega), nI_clamp hn] at h2
theorem q_tm {np : Nat} {ro : Nat → Int32} {s : Int32} (hb : q_bw np s) (hnp : np ≤ 18) (hro : ∀ k, k < np → ∃ r, 0 < r ∧ r < 8 ∧ ro k = nI r) : tmB np ro s = true ↔ (JQ s 18).length = 3 ∧ ∀ i, i < 6 → q_cn ro i (JQ s 18) ≤ q_po i := by
  unfold tmB
  rw [Bool.and_eq_true, decide_eq_true_eq, show (3 : Int32) = nI 3 from rfl, q_sz3 (by decide)]
  refine and_congr_right fun h3 => ?_
  have hJ := q_bw_J hb hnp (by decide)
  have hlt : ∀ k ∈ JQ s 18, k < np := fun k hk => by rw [hJ] at hk; exact JQ_in hk
  rw [q_scF, ← hJ]
  match hl : JQ s 18, h3 with
  | [a, b, c], _ =>
    rw [hl] at hlt
    obtain ⟨ra, a1, a2, a3⟩ := hro a (hlt a (by simp))
    obtain ⟨rb, b1, b2, b3⟩ := hro b (hlt b (by simp))
    obtain ⟨rc, c1, c2, c3⟩ := hro c (hlt c (by simp))
    have ha := hlt a (by simp)
    have hb := hlt b (by simp)
    have hc := hlt c (by simp)
    show mB (ro (nI c).toNatClampNeg) (ro (nI b).toNatClampNeg) (ro (nI a).toNatClampNeg) 3 = true ↔ _
    rw [nI_clamp (by omega), nI_clamp (by omega), nI_clamp (by omega), a3, b3, c3, q_hall0 ra a2 rb b2 rc c2 a1 b1 c1]
    unfold q_hB
    rw [List.all_eq_true]
    refine ⟨fun h i hi => ?_, fun h i hi => ?_⟩
    · have := h i (List.mem_range.mpr hi)
      rw [decide_eq_true_eq] at this
      show q_ri (ro a) i + (q_ri (ro b) i + (q_ri (ro c) i + 0)) ≤ _
      rw [a3, b3, c3]
      omega
    · rw [decide_eq_true_eq]
      have h9 : q_ri (ro a) i + (q_ri (ro b) i + (q_ri (ro c) i + 0)) ≤ _ := h i (List.mem_range.mp hi)
      rw [a3, b3, c3] at h9
      omega
