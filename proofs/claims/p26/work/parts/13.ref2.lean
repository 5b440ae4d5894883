theorem zWhy_0 {z : Nat → Nat} {kind n : Nat} (h : zWhy z kind n = 0) : ¬ ((2 ≤ kind ∧ kind ≤ 5 ∧ 64 ≤ n) ∨ (kind = 6 ∧ (4 ≤ n / 10 ∨ 8 ≤ n % 10)) ∨ (kind = 7 ∧ 8 ≤ n / 10)) ∧ ¬ (kind = 7 ∧ z 116 = 8) ∧ ¬ (kind = 8 ∧ z 116 = 0) := by
  unfold zWhy at h
  by_cases h1 : (2 ≤ kind ∧ kind ≤ 5 ∧ 64 ≤ n) ∨ (kind = 6 ∧ (4 ≤ n / 10 ∨ 8 ≤ n % 10)) ∨ (kind = 7 ∧ 8 ≤ n / 10)
  · rw [if_pos h1] at h; omega
  · rw [if_neg h1] at h
    by_cases h2 : kind = 7 ∧ z 116 = 8
    · rw [if_pos h2] at h; omega
    · rw [if_neg h2] at h
      by_cases h3 : kind = 8 ∧ z 116 = 0
      · rw [if_pos h3] at h; omega
      · exact ⟨h1, h2, h3⟩
theorem zSh_step {z : Nat → Nat} {i : Nat} (h : 2 ≤ i) (hi : i + 1 < 3 * z 141) : zSh z (i + 1) = fU (zSh z (i + 1 + 1)) (142 + (i + 1)) (zSh z (i + 1 + 1) (142 + (i + 1) - 3)) := by
  funext j
  unfold zSh fU
  by_cases e : j = 142 + (i + 1)
  · subst e
    rw [if_pos rfl, if_pos (by omega), if_neg (by omega)]
  · rw [if_neg e]
    dsimp only
    by_cases g : 142 + (i + 1) ≤ j ∧ j < 142 + 3 * z 141
    · rw [if_pos g, if_pos (by omega)]
    · rw [if_neg g, if_neg (by omega)]
theorem zSh_0 (z : Nat → Nat) : zSh z (3 * z 141) = z := by
  funext j
  unfold zSh
  rw [if_neg (by omega)]
theorem zKp0_141 {z : Nat → Nat} (h : z 141 ≤ 12) : 1 ≤ zKp0 z 141 ∧ zKp0 z 141 ≤ 12 := by
  unfold zKp0
  by_cases e : z 141 < 12
  · rw [if_pos e, fU_s]; omega
  · rw [if_neg e]; omega
