/-! ===== the search ===== -/
abbrev RS : Type := Bool × (Nat → Nat → Int32) × List Nat
def itF (g : (Nat → Nat → Int32) → List Nat → Nat → RS) : Nat → (Nat → Nat → Int32) → List Nat → Nat → RS
  | 0, fi, S, _ => (false, fi, S)
  | n + 1, fi, S, k => if (g fi S k).1 = true then g fi S k else itF g n (g fi S k).2.1 (g fi S k).2.2 (k + 1)
def ndF (S : List Nat) (r : RS) : RS := if r.1 = true then r else (false, r.2.1, S)
theorem ndF_S {S : List Nat} {r : RS} (h : (ndF S r).1 = false) : (ndF S r).2.2 = S := by
  unfold ndF at h ⊢
  by_cases hb : r.1 = true
  · rw [if_pos hb] at h; rw [hb] at h; cases h
  · rw [if_neg hb]
def fwF (z : CZ) : Nat → (Nat → Nat → Int32) → List Nat → Nat → Nat → Int32 → RS
  | 0, fi, S, _, _, _ => (false, fi, S)
  | d + 1, fi, S, i, P, ct =>
    if i < (zL z (13, 3)).length ∧ P < 6 then
      let p := (zL z (13, 3)).getD i 0
      let P2 := P + (zL z (11, p)).length
      let ct2 := ct + fi 8 p
      if P2 ≤ 6 ∧ sfB ct2 2 = true then
        ndF S (if P2 = 6 then (decide (spF fi (zPut z (13, 4) (S ++ [p]) 0) 17 0 ≠ -1), spF fi (zPut z (13, 4) (S ++ [p]) 0), S ++ [p]) else itF (fun fi S k => fwF z d fi S k P2 ct2) ((zL z (13, 3)).length - (i + 1)) fi (S ++ [p]) (i + 1))
      else (false, fi, S)
    else (false, fi, S)
theorem itF_S {g : (Nat → Nat → Int32) → List Nat → Nat → RS} (hg : ∀ fi S k, (g fi S k).1 = false → (g fi S k).2.2 = S) : ∀ (n : Nat) (fi : Nat → Nat → Int32) (S : List Nat) (k : Nat), (itF g n fi S k).1 = false → (itF g n fi S k).2.2 = S
  | 0, _, _, _, _ => rfl
  | n + 1, fi, S, k, h => by
    unfold itF at h ⊢
    by_cases hb : (g fi S k).1 = true
    · rw [if_pos hb] at h; rw [hb] at h; cases h
    · rw [if_neg hb] at h ⊢
      have h0 : (g fi S k).1 = false := by simpa using hb
      rw [hg fi S k h0] at h ⊢
      exact itF_S hg n _ S (k + 1) h
theorem fwF_S (z : CZ) : ∀ (d : Nat) (fi : Nat → Nat → Int32) (S : List Nat) (i P : Nat) (ct : Int32), (fwF z d fi S i P ct).1 = false → (fwF z d fi S i P ct).2.2 = S
  | 0, _, _, _, _, _, _ => rfl
  | d + 1, fi, S, i, P, ct, h => by
    unfold fwF at h ⊢
    split at h
    · rename_i h1
      rw [if_pos h1]
      dsimp only at h ⊢
      split at h
      · rename_i h2
        rw [if_pos h2]
        exact ndF_S h
      · rename_i h2
        rw [if_neg h2]
    · rename_i h1
      rw [if_neg h1]
theorem wgL_c {z z' : CZ} (h : zL z = zL z') (fi : Nat → Nat → Int32) (c : Int32) : ∀ n, wgL fi z c n = wgL fi z' c n
  | 0 => rfl
  | n + 1 => by unfold wgL wgS; rw [wgL_c h fi c n, h]
theorem wgF_c {z z' : CZ} (h : zL z = zL z') (fi : Nat → Nat → Int32) (c : Int32) : wgF fi z c = wgF fi z' c := by unfold wgF; rw [wgL_c h, h]
theorem spL_c {z z' : CZ} (h : zL z = zL z') (fi : Nat → Nat → Int32) (F : Nat) : ∀ n, spL fi z F n = spL fi z' F n
  | 0 => rfl
  | n + 1 => by unfold spL; rw [spL_c h fi F n, wgF_c h]
theorem spF_c {z z' : CZ} (h : zL z = zL z') (fi : Nat → Nat → Int32) : spF fi z = spF fi z' := by unfold spF; rw [spL_c h, h]
