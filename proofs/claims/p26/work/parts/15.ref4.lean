/-! ===== the reference: rows copied, records, what is told ===== -/
def cpF (src dst : Nat → Nat) (s d n : Nat) : Nat → Nat := fun j => if d ≤ j ∧ j < d + n then src (s + (j - d)) else dst j
theorem cpF_0 (src dst : Nat → Nat) (s d : Nat) : cpF src dst s d 0 = dst := by
  funext j
  unfold cpF
  rw [if_neg (by omega)]
theorem cpF_s (src dst : Nat → Nat) (s d i : Nat) : fU (cpF src dst s d i) (d + i) (src (s + i)) = cpF src dst s d (i + 1) := by
  funext j
  unfold cpF fU
  by_cases e : j = d + i
  · rw [if_pos e, if_pos (by omega), e, show d + i - d = i by omega]
  · rw [if_neg e]
    dsimp only
    by_cases g : d ≤ j ∧ j < d + i
    · rw [if_pos g, if_pos (by omega)]
    · rw [if_neg g, if_neg (by omega)]
theorem cpF_in {src dst : Nat → Nat} {s d n j : Nat} (h : d ≤ j) (h2 : j < d + n) : cpF src dst s d n j = src (s + (j - d)) := by
  unfold cpF
  rw [if_pos ⟨h, h2⟩]
theorem cpF_out {src dst : Nat → Nat} {s d n j : Nat} (h : ¬ (d ≤ j ∧ j < d + n)) : cpF src dst s d n j = dst j := by
  unfold cpF
  rw [if_neg h]
def shF (o : Nat → Nat) (i : Nat) : Nat → Nat := fun j => if j < i then o (198 + j) else o j
theorem shF_0 (o : Nat → Nat) : shF o 0 = o := by
  funext j
  unfold shF
  rw [if_neg (by omega)]
theorem shF_s (o : Nat → Nat) (i : Nat) : fU (shF o i) i (shF o i (198 + i)) = shF o (i + 1) := by
  funext j
  unfold shF fU
  by_cases e : j = i
  · rw [if_pos e, if_neg (show ¬ 198 + i < i by omega), if_pos (by omega), e]
  · rw [if_neg e]
    dsimp only
    by_cases g : j < i
    · rw [if_pos g, if_pos (by omega)]
    · rw [if_neg g, if_neg (by omega)]
def rN (n : Nat) : Nat := if n = 4 then 4 else n + 1
def oRec (n : Nat) (o z : Nat → Nat) : Nat → Nat := if n = 4 then cpF z (shF o 594) 0 594 198 else cpF z o 0 (198 * n) 198
theorem gIw_ok {j lo hi : Nat} (h1 : lo ≤ j) (h2 : j ≤ hi) (hh : hi < 2 ^ 31) : gIw (nI j) lo hi = true := (gIw_n (Nat.lt_of_le_of_lt h2 hh)).mpr ⟨h1, h2⟩
def oSl (o : Nat → Nat) (i : Nat) : Nat → Nat := fun j => o (198 * i + j)
