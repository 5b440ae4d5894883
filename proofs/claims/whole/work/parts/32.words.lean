/-! ===== the beginnings of words ===== -/
theorem gCh_pos0 : ∀ i, i < 10 → ∀ j, j < 5 → (Nat.ble (gLn i) j || Nat.blt 0 (gCh i j)) = true := by decide +kernel
theorem gCh_pos {i j : Nat} (hi : i < 10) (hj : j < gLn i) : 0 < gCh i j := by
  have h := gCh_pos0 i hi j (by have := gLn_all i hi; omega)
  simp only [Bool.or_eq_true, Nat.ble_eq, Nat.blt_eq] at h
  omega
theorem gLn_pos0 : ∀ i, i < 10 → 3 ≤ gLn i := by decide +kernel
def pwr (n : Nat) (t : Nat → Nat) (p9 i : Nat) : Nat → Nat → Nat
  | 0, k => k
  | d + 1, k => if pSg n t (p9 + k) = gCh i k then pwr n t p9 i d (k + 1) else k
def pw (n : Nat) (t : Nat → Nat) (p9 i : Nat) : Nat := pwr n t p9 i (gLn i) 0
theorem pwr_le {n : Nat} {t : Nat → Nat} {p9 i : Nat} : ∀ d k, k ≤ pwr n t p9 i d k ∧ pwr n t p9 i d k ≤ k + d
  | 0, k => ⟨Nat.le_refl _, Nat.le_refl _⟩
  | d + 1, k => by
    have h := pwr_le (n := n) (t := t) (p9 := p9) (i := i) d (k + 1)
    unfold pwr
    split <;> omega
theorem pw_le {n : Nat} {t : Nat → Nat} {p9 i : Nat} (hi : i < 10) : pw n t p9 i ≤ 5 := by
  have h1 := (pwr_le (n := n) (t := t) (p9 := p9) (i := i) (gLn i) 0).2
  have h2 := gLn_all i hi
  unfold pw
  omega
theorem pw_p {n : Nat} {t : Nat → Nat} {p9 i : Nat} (hp : p9 ≤ n) : ∀ d k, p9 + k ≤ n → i < 10 → k + d ≤ gLn i → p9 + pwr n t p9 i d k ≤ n
  | 0, k, h, _, _ => h
  | d + 1, k, h, hi, hd => by
    unfold pwr
    by_cases e : pSg n t (p9 + k) = gCh i k
    · rw [if_pos e]
      have h0 := gCh_pos (i := i) (j := k) hi (by omega)
      have h1 := pSg_in (n := n) (t := t) (p9 := p9 + k) (by omega)
      exact pw_p hp d (k + 1) (by omega) hi (by omega)
    · rw [if_neg e]; exact h
/-- the longest beginning among the first words, and its word -/
def kB (n : Nat) (t : Nat → Nat) (p9 : Nat) : Nat → Nat × Nat
  | 0 => (0, 0)
  | i + 1 => if (kB n t p9 i).1 < pw n t p9 i then (pw n t p9 i, i) else kB n t p9 i
theorem kB_lt {n : Nat} {t : Nat → Nat} {p9 : Nat} : ∀ i, i ≤ 10 → (kB n t p9 i).2 < 10 ∧ (kB n t p9 i).1 ≤ 5
  | 0, _ => ⟨by show 0 < 10; decide, by show 0 ≤ 5; decide⟩
  | i + 1, h => by
    have ih := kB_lt (n := n) (t := t) (p9 := p9) i (by omega)
    have h2 := pw_le (n := n) (t := t) (p9 := p9) (i := i) (by omega)
    unfold kB
    split
    · exact ⟨by show i < 10; omega, h2⟩
    · exact ih
theorem kB_u {n : Nat} {t : Nat → Nat} {p9 c9 : Nat} (hc : c9 < 10) (hp : 0 < pw n t p9 c9) (h : ∀ i, i < 10 → ¬ i = c9 → pw n t p9 i = 0) : kB n t p9 10 = (pw n t p9 c9, c9) := by
  have key : ∀ i, i ≤ 10 → kB n t p9 i = if c9 < i then (pw n t p9 c9, c9) else (0, 0) := by
    intro i
    induction i with
    | zero => intro _; rw [if_neg (by omega)]; rfl
    | succ i ih =>
      intro hi
      have ih := ih (by omega)
      unfold kB
      rw [ih]
      by_cases e : i = c9
      · subst e
        rw [if_neg (show ¬ i < i by omega), if_pos (show (0, 0).1 < pw n t p9 i from hp), if_pos (by omega)]
      · rw [h i (by omega) e, if_neg (by omega)]
        by_cases g : c9 < i
        · rw [if_pos g, if_pos (by omega)]
        · rw [if_neg g, if_neg (by omega)]
  rw [key 10 (by decide), if_pos hc]
theorem kB_0 {n : Nat} {t : Nat → Nat} {p9 : Nat} (h : ∀ i, i < 10 → pw n t p9 i = 0) : kB n t p9 10 = (0, 0) := by
  have key : ∀ i, i ≤ 10 → kB n t p9 i = (0, 0) := by
    intro i
    induction i with
    | zero => intro _; rfl
    | succ i ih =>
      intro hi
      unfold kB
      rw [ih (by omega), h i (by omega)]
      exact if_neg (by decide)
  exact key 10 (by decide)
theorem kB_s {n : Nat} {t : Nat → Nat} {p9 : Nat} (hp : 0 < pw n t p9 3) (h : ∀ i, i < 10 → ¬ i = 3 → ¬ i = 6 → pw n t p9 i = 0) : kB n t p9 10 = if pw n t p9 3 < pw n t p9 6 then (pw n t p9 6, 6) else (pw n t p9 3, 3) := by
  have key : ∀ i, i ≤ 10 → kB n t p9 i = if 6 < i then (if pw n t p9 3 < pw n t p9 6 then (pw n t p9 6, 6) else (pw n t p9 3, 3)) else if 3 < i then (pw n t p9 3, 3) else (0, 0) := by
    intro i
    induction i with
    | zero => intro _; rw [if_neg (by omega), if_neg (by omega)]; rfl
    | succ i ih =>
      intro hi
      have ih := ih (by omega)
      unfold kB
      rw [ih]
      by_cases e : i = 3
      · subst e
        rw [if_neg (show ¬ 6 < 3 by decide), if_neg (show ¬ 3 < 3 by decide), if_pos (show (0, 0).1 < pw n t p9 3 from hp), if_neg (by decide), if_pos (by decide)]
      · by_cases e6 : i = 6
        · subst e6
          rw [if_neg (show ¬ 6 < 6 by decide), if_pos (show 3 < 6 by decide), if_pos (show 6 < 6 + 1 by decide)]
        · rw [h i (by omega) e e6, if_neg (Nat.not_lt_zero _)]
          by_cases g : 6 < i
          · rw [if_pos g, if_pos (show 6 < i + 1 by omega)]
          · rw [if_neg g, if_neg (show ¬ 6 < i + 1 by omega)]
            by_cases g3 : 3 < i
            · rw [if_pos g3, if_pos (show 3 < i + 1 by omega)]
            · rw [if_neg g3, if_neg (show ¬ 3 < i + 1 by omega)]
  rw [key 10 (by decide), if_pos (by decide)]
theorem pw_z {n : Nat} {t : Nat → Nat} {p9 i : Nat} (hi : i < 10) (h : ¬ pSg n t p9 = gCh i 0) : pw n t p9 i = 0 := by
  have h3 := gLn_pos0 i hi
  unfold pw
  rw [show gLn i = (gLn i - 1) + 1 by omega]
  unfold pwr
  exact if_neg h
theorem pTx_0 (n : Nat) (t : Nat → Nat) (x c9 : Nat) : pTc n t (x, 0) c9 = if pSg n t x = c9 then (x + 1, 0) else (x, 1) := by
  unfold pTc pTk
  by_cases h : pSg n t x = c9
  · rw [if_pos h, if_pos (show pSg n t (x, 0).1 = c9 from h)]; rfl
  · rw [if_neg h, if_neg (show ¬ pSg n t (x, 0).1 = c9 from h)]; rfl
theorem pTx_1 (n : Nat) (t : Nat → Nat) (x c9 : Nat) : pTc n t (x, 1) c9 = (x, 1) := by
  unfold pTc pTk
  exact if_neg (fun z => absurd (show 1 = 0 from z.1) (by decide))
theorem pNq_1 (n : Nat) (t : Nat → Nat) (x m9 : Nat) : pNq n t (x, 1) m9 = (x, 1) := by
  have e1 : pN1 n t (x, 1) = (x, 1) := pTx_1 _ _ _ _
  have e2 : pN2 n t (x, 1) m9 = (x, 1) := by
    unfold pN2
    rw [e1]
    exact if_neg (fun z => absurd (show 1 = 0 from z.1) (by decide))
  unfold pNq
  rw [e2]
  exact if_neg (fun z => absurd (show 1 = 0 from z.1) (by decide))
theorem pRs_3 {n : Nat} {t : Nat → Nat} {x c1 c2 : Nat} : pRs n t (x, 0) c1 c2 0 0 = if pSg n t x = c1 then (if pSg n t (x + 1) = c2 then (x + 1 + 1, 0) else (x + 1, 1)) else (x, 1) := by
  unfold pRs pR3 pR2
  rw [if_neg (by decide), if_neg (by decide), pTx_0]
  by_cases h1 : pSg n t x = c1
  · rw [if_pos h1, if_pos h1, pTx_0]
  · rw [if_neg h1, if_neg h1, pTx_1]
theorem pRs_4 {n : Nat} {t : Nat → Nat} {x c1 c2 c3 : Nat} (h3 : 0 < c3) : pRs n t (x, 0) c1 c2 c3 0 = if pSg n t x = c1 then (if pSg n t (x + 1) = c2 then (if pSg n t (x + 1 + 1) = c3 then (x + 1 + 1 + 1, 0) else (x + 1 + 1, 1)) else (x + 1, 1)) else (x, 1) := by
  unfold pRs pR3 pR2
  rw [if_neg (by decide), if_pos h3, pTx_0]
  by_cases h1 : pSg n t x = c1
  · rw [if_pos h1, if_pos h1, pTx_0]
    by_cases h2 : pSg n t (x + 1) = c2
    · rw [if_pos h2, if_pos h2, pTx_0]
    · rw [if_neg h2, if_neg h2, pTx_1]
  · rw [if_neg h1, if_neg h1, pTx_1, pTx_1]
theorem pRs_5 {n : Nat} {t : Nat → Nat} {x c1 c2 c3 c4 : Nat} (h3 : 0 < c3) (h4 : 0 < c4) : pRs n t (x, 0) c1 c2 c3 c4 = if pSg n t x = c1 then (if pSg n t (x + 1) = c2 then (if pSg n t (x + 1 + 1) = c3 then (if pSg n t (x + 1 + 1 + 1) = c4 then (x + 1 + 1 + 1 + 1, 0) else (x + 1 + 1 + 1, 1)) else (x + 1 + 1, 1)) else (x + 1, 1)) else (x, 1) := by
  unfold pRs pR3 pR2
  rw [if_pos h4, if_pos h3, pTx_0]
  by_cases h1 : pSg n t x = c1
  · rw [if_pos h1, if_pos h1, pTx_0]
    by_cases h2 : pSg n t (x + 1) = c2
    · rw [if_pos h2, if_pos h2, pTx_0]
      by_cases h3 : pSg n t (x + 1 + 1) = c3
      · rw [if_pos h3, if_pos h3, pTx_0]
      · rw [if_neg h3, if_neg h3, pTx_1]
    · rw [if_neg h2, if_neg h2, pTx_1, pTx_1]
  · rw [if_neg h1, if_neg h1, pTx_1, pTx_1, pTx_1]
theorem pw_0 (n : Nat) (t : Nat → Nat) (p9 : Nat) : pw n t p9 0 = if pSg n t (p9) = 104 then (if pSg n t (p9 + 1) = 97 then (if pSg n t (p9 + 1 + 1) = 108 then (if pSg n t (p9 + 1 + 1 + 1) = 116 then 4 else 3) else 2) else 1) else 0 := rfl
theorem pw_1 (n : Nat) (t : Nat → Nat) (p9 : Nat) : pw n t p9 1 = if pSg n t (p9) = 108 then (if pSg n t (p9 + 1) = 111 then (if pSg n t (p9 + 1 + 1) = 97 then (if pSg n t (p9 + 1 + 1 + 1) = 100 then 4 else 3) else 2) else 1) else 0 := rfl
theorem pw_2 (n : Nat) (t : Nat → Nat) (p9 : Nat) : pw n t p9 2 = if pSg n t (p9) = 97 then (if pSg n t (p9 + 1) = 100 then (if pSg n t (p9 + 1 + 1) = 100 then 3 else 2) else 1) else 0 := rfl
theorem pw_3 (n : Nat) (t : Nat → Nat) (p9 : Nat) : pw n t p9 3 = if pSg n t (p9) = 115 then (if pSg n t (p9 + 1) = 116 then (if pSg n t (p9 + 1 + 1) = 111 then (if pSg n t (p9 + 1 + 1 + 1) = 114 then (if pSg n t (p9 + 1 + 1 + 1 + 1) = 101 then 5 else 4) else 3) else 2) else 1) else 0 := rfl
theorem pw_4 (n : Nat) (t : Nat → Nat) (p9 : Nat) : pw n t p9 4 = if pSg n t (p9) = 106 then (if pSg n t (p9 + 1) = 117 then (if pSg n t (p9 + 1 + 1) = 109 then (if pSg n t (p9 + 1 + 1 + 1) = 112 then 4 else 3) else 2) else 1) else 0 := rfl
theorem pw_5 (n : Nat) (t : Nat → Nat) (p9 : Nat) : pw n t p9 5 = if pSg n t (p9) = 122 then (if pSg n t (p9 + 1) = 101 then (if pSg n t (p9 + 1 + 1) = 114 then (if pSg n t (p9 + 1 + 1 + 1) = 111 then 4 else 3) else 2) else 1) else 0 := rfl
theorem pw_6 (n : Nat) (t : Nat → Nat) (p9 : Nat) : pw n t p9 6 = if pSg n t (p9) = 115 then (if pSg n t (p9 + 1) = 104 then (if pSg n t (p9 + 1 + 1) = 111 then (if pSg n t (p9 + 1 + 1 + 1) = 119 then 4 else 3) else 2) else 1) else 0 := rfl
theorem pw_7 (n : Nat) (t : Nat → Nat) (p9 : Nat) : pw n t p9 7 = if pSg n t (p9) = 99 then (if pSg n t (p9 + 1) = 97 then (if pSg n t (p9 + 1 + 1) = 108 then (if pSg n t (p9 + 1 + 1 + 1) = 108 then 4 else 3) else 2) else 1) else 0 := rfl
theorem pw_8 (n : Nat) (t : Nat → Nat) (p9 : Nat) : pw n t p9 8 = if pSg n t (p9) = 98 then (if pSg n t (p9 + 1) = 97 then (if pSg n t (p9 + 1 + 1) = 99 then (if pSg n t (p9 + 1 + 1 + 1) = 107 then 4 else 3) else 2) else 1) else 0 := rfl
theorem pw_9 (n : Nat) (t : Nat → Nat) (p9 : Nat) : pw n t p9 9 = if pSg n t (p9) = 112 then (if pSg n t (p9 + 1) = 108 then (if pSg n t (p9 + 1 + 1) = 117 then (if pSg n t (p9 + 1 + 1 + 1) = 115 then 4 else 3) else 2) else 1) else 0 := rfl
theorem kU_0 {n : Nat} {t : Nat → Nat} {p9 : Nat} (h0 : pSg n t p9 = 104) : kB n t p9 10 = (pw n t p9 0, 0) := by
  refine kB_u (by decide) (by rw [pw_0, if_pos h0]; split <;> (try split) <;> (try split) <;> decide) (fun i hi hc => pw_z hi ?_)
  rcases (show i = 1 ∨ i = 2 ∨ i = 3 ∨ i = 4 ∨ i = 5 ∨ i = 6 ∨ i = 7 ∨ i = 8 ∨ i = 9 by omega) with rfl | rfl | rfl | rfl | rfl | rfl | rfl | rfl | rfl
  · show ¬ pSg n t p9 = 108
    omega
  · show ¬ pSg n t p9 = 97
    omega
  · show ¬ pSg n t p9 = 115
    omega
  · show ¬ pSg n t p9 = 106
    omega
  · show ¬ pSg n t p9 = 122
    omega
  · show ¬ pSg n t p9 = 115
    omega
  · show ¬ pSg n t p9 = 99
    omega
  · show ¬ pSg n t p9 = 98
    omega
  · show ¬ pSg n t p9 = 112
    omega
theorem kN_0 {n : Nat} {t : Nat → Nat} {p9 : Nat} (h0 : pSg n t p9 = 104) (h : ¬ pw n t p9 0 = 4) : pOq n t p9 = (p9 + pw n t p9 0, 1) := by
  rw [pw_0, if_pos h0] at h ⊢
  unfold pOq
  rw [if_pos h0, pRs_4 (by decide)]
  by_cases h1 : pSg n t (p9 + 1) = 97
  · rw [if_pos h1] at h ⊢
    rw [if_pos h1]
    by_cases h2 : pSg n t (p9 + 1 + 1) = 108
    · rw [if_pos h2] at h ⊢
      rw [if_pos h2]
      by_cases h3 : pSg n t (p9 + 1 + 1 + 1) = 116
      · rw [if_pos h3] at h
        exact absurd rfl h
      · rw [if_neg h3, if_neg h3]
    · rw [if_neg h2, if_neg h2]
  · rw [if_neg h1, if_neg h1]
theorem kY_0 {n : Nat} {t : Nat → Nat} {p9 : Nat} (h : pw n t p9 0 = 4) : pOq n t p9 = (p9 + 4, 0) ∧ pOv n t p9 = 0 := by
  rw [pw_0] at h
  have h0 : pSg n t (p9) = 104 := by
    by_cases e : pSg n t (p9) = 104
    · exact e
    · rw [if_neg e] at h
      exact absurd h (by decide)
  rw [if_pos h0] at h
  have h1 : pSg n t (p9 + 1) = 97 := by
    by_cases e : pSg n t (p9 + 1) = 97
    · exact e
    · rw [if_neg e] at h
      exact absurd h (by decide)
  rw [if_pos h1] at h
  have h2 : pSg n t (p9 + 1 + 1) = 108 := by
    by_cases e : pSg n t (p9 + 1 + 1) = 108
    · exact e
    · rw [if_neg e] at h
      exact absurd h (by decide)
  rw [if_pos h2] at h
  have h3 : pSg n t (p9 + 1 + 1 + 1) = 116 := by
    by_cases e : pSg n t (p9 + 1 + 1 + 1) = 116
    · exact e
    · rw [if_neg e] at h
      exact absurd h (by decide)
  have e9 : (pRs n t (p9 + 1, 0) 97 108 116 0) = (p9 + 4, 0) := by
    rw [pRs_4 (by decide), if_pos h1, if_pos h2, if_pos h3]
  unfold pOq pOv
  constructor
  · rw [if_pos h0, e9]
  · rw [if_pos h0]
theorem kU_1 {n : Nat} {t : Nat → Nat} {p9 : Nat} (h0 : pSg n t p9 = 108) : kB n t p9 10 = (pw n t p9 1, 1) := by
  refine kB_u (by decide) (by rw [pw_1, if_pos h0]; split <;> (try split) <;> (try split) <;> decide) (fun i hi hc => pw_z hi ?_)
  rcases (show i = 0 ∨ i = 2 ∨ i = 3 ∨ i = 4 ∨ i = 5 ∨ i = 6 ∨ i = 7 ∨ i = 8 ∨ i = 9 by omega) with rfl | rfl | rfl | rfl | rfl | rfl | rfl | rfl | rfl
  · show ¬ pSg n t p9 = 104
    omega
  · show ¬ pSg n t p9 = 97
    omega
  · show ¬ pSg n t p9 = 115
    omega
  · show ¬ pSg n t p9 = 106
    omega
  · show ¬ pSg n t p9 = 122
    omega
  · show ¬ pSg n t p9 = 115
    omega
  · show ¬ pSg n t p9 = 99
    omega
  · show ¬ pSg n t p9 = 98
    omega
  · show ¬ pSg n t p9 = 112
    omega
theorem kN_1 {n : Nat} {t : Nat → Nat} {p9 : Nat} (h0 : pSg n t p9 = 108) (h : ¬ pw n t p9 1 = 4) : pOq n t p9 = (p9 + pw n t p9 1, 1) := by
  rw [pw_1, if_pos h0] at h ⊢
  unfold pOq
  rw [if_neg (show ¬ pSg n t p9 = 104 by omega), if_pos h0, pRs_4 (by decide)]
  by_cases h1 : pSg n t (p9 + 1) = 111
  · rw [if_pos h1] at h ⊢
    rw [if_pos h1]
    by_cases h2 : pSg n t (p9 + 1 + 1) = 97
    · rw [if_pos h2] at h ⊢
      rw [if_pos h2]
      by_cases h3 : pSg n t (p9 + 1 + 1 + 1) = 100
      · rw [if_pos h3] at h
        exact absurd rfl h
      · rw [if_neg h3, if_neg h3, pNq_1]
    · rw [if_neg h2, if_neg h2, pNq_1]
  · rw [if_neg h1, if_neg h1, pNq_1]
theorem kY_1 {n : Nat} {t : Nat → Nat} {p9 : Nat} (h : pw n t p9 1 = 4) : pOq n t p9 = (pNq n t (p9 + 4, 0) 99) ∧ pOv n t p9 = 100 + pNv n t (p9 + 4, 0) 99 := by
  rw [pw_1] at h
  have h0 : pSg n t (p9) = 108 := by
    by_cases e : pSg n t (p9) = 108
    · exact e
    · rw [if_neg e] at h
      exact absurd h (by decide)
  rw [if_pos h0] at h
  have h1 : pSg n t (p9 + 1) = 111 := by
    by_cases e : pSg n t (p9 + 1) = 111
    · exact e
    · rw [if_neg e] at h
      exact absurd h (by decide)
  rw [if_pos h1] at h
  have h2 : pSg n t (p9 + 1 + 1) = 97 := by
    by_cases e : pSg n t (p9 + 1 + 1) = 97
    · exact e
    · rw [if_neg e] at h
      exact absurd h (by decide)
  rw [if_pos h2] at h
  have h3 : pSg n t (p9 + 1 + 1 + 1) = 100 := by
    by_cases e : pSg n t (p9 + 1 + 1 + 1) = 100
    · exact e
    · rw [if_neg e] at h
      exact absurd h (by decide)
  have e9 : (pRs n t (p9 + 1, 0) 111 97 100 0) = (p9 + 4, 0) := by
    rw [pRs_4 (by decide), if_pos h1, if_pos h2, if_pos h3]
  unfold pOq pOv
  constructor
  · rw [if_neg (show ¬ pSg n t p9 = 104 by omega), if_pos h0, e9]
  · rw [if_neg (show ¬ pSg n t p9 = 104 by omega), if_pos h0, e9]
theorem kU_2 {n : Nat} {t : Nat → Nat} {p9 : Nat} (h0 : pSg n t p9 = 97) : kB n t p9 10 = (pw n t p9 2, 2) := by
  refine kB_u (by decide) (by rw [pw_2, if_pos h0]; split <;> (try split) <;> (try split) <;> decide) (fun i hi hc => pw_z hi ?_)
  rcases (show i = 0 ∨ i = 1 ∨ i = 3 ∨ i = 4 ∨ i = 5 ∨ i = 6 ∨ i = 7 ∨ i = 8 ∨ i = 9 by omega) with rfl | rfl | rfl | rfl | rfl | rfl | rfl | rfl | rfl
  · show ¬ pSg n t p9 = 104
    omega
  · show ¬ pSg n t p9 = 108
    omega
  · show ¬ pSg n t p9 = 115
    omega
  · show ¬ pSg n t p9 = 106
    omega
  · show ¬ pSg n t p9 = 122
    omega
  · show ¬ pSg n t p9 = 115
    omega
  · show ¬ pSg n t p9 = 99
    omega
  · show ¬ pSg n t p9 = 98
    omega
  · show ¬ pSg n t p9 = 112
    omega
theorem kN_2 {n : Nat} {t : Nat → Nat} {p9 : Nat} (h0 : pSg n t p9 = 97) (h : ¬ pw n t p9 2 = 3) : pOq n t p9 = (p9 + pw n t p9 2, 1) := by
  rw [pw_2, if_pos h0] at h ⊢
  unfold pOq
  rw [if_neg (show ¬ pSg n t p9 = 104 by omega), if_neg (show ¬ pSg n t p9 = 108 by omega), if_pos h0, pRs_3]
  by_cases h1 : pSg n t (p9 + 1) = 100
  · rw [if_pos h1] at h ⊢
    rw [if_pos h1]
    by_cases h2 : pSg n t (p9 + 1 + 1) = 100
    · rw [if_pos h2] at h
      exact absurd rfl h
    · rw [if_neg h2, if_neg h2, pNq_1]
  · rw [if_neg h1, if_neg h1, pNq_1]
theorem kY_2 {n : Nat} {t : Nat → Nat} {p9 : Nat} (h : pw n t p9 2 = 3) : pOq n t p9 = (pNq n t (p9 + 3, 0) 63) ∧ pOv n t p9 = 200 + pNv n t (p9 + 3, 0) 63 := by
  rw [pw_2] at h
  have h0 : pSg n t (p9) = 97 := by
    by_cases e : pSg n t (p9) = 97
    · exact e
    · rw [if_neg e] at h
      exact absurd h (by decide)
  rw [if_pos h0] at h
  have h1 : pSg n t (p9 + 1) = 100 := by
    by_cases e : pSg n t (p9 + 1) = 100
    · exact e
    · rw [if_neg e] at h
      exact absurd h (by decide)
  rw [if_pos h1] at h
  have h2 : pSg n t (p9 + 1 + 1) = 100 := by
    by_cases e : pSg n t (p9 + 1 + 1) = 100
    · exact e
    · rw [if_neg e] at h
      exact absurd h (by decide)
  have e9 : (pRs n t (p9 + 1, 0) 100 100 0 0) = (p9 + 3, 0) := by
    rw [pRs_3, if_pos h1, if_pos h2]
  unfold pOq pOv
  constructor
  · rw [if_neg (show ¬ pSg n t p9 = 104 by omega), if_neg (show ¬ pSg n t p9 = 108 by omega), if_pos h0, e9]
  · rw [if_neg (show ¬ pSg n t p9 = 104 by omega), if_neg (show ¬ pSg n t p9 = 108 by omega), if_pos h0, e9]
theorem kU_4 {n : Nat} {t : Nat → Nat} {p9 : Nat} (h0 : pSg n t p9 = 106) : kB n t p9 10 = (pw n t p9 4, 4) := by
  refine kB_u (by decide) (by rw [pw_4, if_pos h0]; split <;> (try split) <;> (try split) <;> decide) (fun i hi hc => pw_z hi ?_)
  rcases (show i = 0 ∨ i = 1 ∨ i = 2 ∨ i = 3 ∨ i = 5 ∨ i = 6 ∨ i = 7 ∨ i = 8 ∨ i = 9 by omega) with rfl | rfl | rfl | rfl | rfl | rfl | rfl | rfl | rfl
  · show ¬ pSg n t p9 = 104
    omega
  · show ¬ pSg n t p9 = 108
    omega
  · show ¬ pSg n t p9 = 97
    omega
  · show ¬ pSg n t p9 = 115
    omega
  · show ¬ pSg n t p9 = 122
    omega
  · show ¬ pSg n t p9 = 115
    omega
  · show ¬ pSg n t p9 = 99
    omega
  · show ¬ pSg n t p9 = 98
    omega
  · show ¬ pSg n t p9 = 112
    omega
theorem kN_4 {n : Nat} {t : Nat → Nat} {p9 : Nat} (h0 : pSg n t p9 = 106) (h : ¬ pw n t p9 4 = 4) : pOq n t p9 = (p9 + pw n t p9 4, 1) := by
  rw [pw_4, if_pos h0] at h ⊢
  unfold pOq
  rw [if_neg (show ¬ pSg n t p9 = 104 by omega), if_neg (show ¬ pSg n t p9 = 108 by omega), if_neg (show ¬ pSg n t p9 = 97 by omega), if_neg (show ¬ pSg n t p9 = 115 by omega), if_pos h0, pRs_4 (by decide)]
  by_cases h1 : pSg n t (p9 + 1) = 117
  · rw [if_pos h1] at h ⊢
    rw [if_pos h1]
    by_cases h2 : pSg n t (p9 + 1 + 1) = 109
    · rw [if_pos h2] at h ⊢
      rw [if_pos h2]
      by_cases h3 : pSg n t (p9 + 1 + 1 + 1) = 112
      · rw [if_pos h3] at h
        exact absurd rfl h
      · rw [if_neg h3, if_neg h3, pNq_1]
    · rw [if_neg h2, if_neg h2, pNq_1]
  · rw [if_neg h1, if_neg h1, pNq_1]
theorem kY_4 {n : Nat} {t : Nat → Nat} {p9 : Nat} (h : pw n t p9 4 = 4) : pOq n t p9 = (pNq n t (p9 + 4, 0) 63) ∧ pOv n t p9 = 400 + pNv n t (p9 + 4, 0) 63 := by
  rw [pw_4] at h
  have h0 : pSg n t (p9) = 106 := by
    by_cases e : pSg n t (p9) = 106
    · exact e
    · rw [if_neg e] at h
      exact absurd h (by decide)
  rw [if_pos h0] at h
  have h1 : pSg n t (p9 + 1) = 117 := by
    by_cases e : pSg n t (p9 + 1) = 117
    · exact e
    · rw [if_neg e] at h
      exact absurd h (by decide)
  rw [if_pos h1] at h
  have h2 : pSg n t (p9 + 1 + 1) = 109 := by
    by_cases e : pSg n t (p9 + 1 + 1) = 109
    · exact e
    · rw [if_neg e] at h
      exact absurd h (by decide)
  rw [if_pos h2] at h
  have h3 : pSg n t (p9 + 1 + 1 + 1) = 112 := by
    by_cases e : pSg n t (p9 + 1 + 1 + 1) = 112
    · exact e
    · rw [if_neg e] at h
      exact absurd h (by decide)
  have e9 : (pRs n t (p9 + 1, 0) 117 109 112 0) = (p9 + 4, 0) := by
    rw [pRs_4 (by decide), if_pos h1, if_pos h2, if_pos h3]
  unfold pOq pOv
  constructor
  · rw [if_neg (show ¬ pSg n t p9 = 104 by omega), if_neg (show ¬ pSg n t p9 = 108 by omega), if_neg (show ¬ pSg n t p9 = 97 by omega), if_neg (show ¬ pSg n t p9 = 115 by omega), if_pos h0, e9]
  · rw [if_neg (show ¬ pSg n t p9 = 104 by omega), if_neg (show ¬ pSg n t p9 = 108 by omega), if_neg (show ¬ pSg n t p9 = 97 by omega), if_neg (show ¬ pSg n t p9 = 115 by omega), if_pos h0, e9]
theorem kU_5 {n : Nat} {t : Nat → Nat} {p9 : Nat} (h0 : pSg n t p9 = 122) : kB n t p9 10 = (pw n t p9 5, 5) := by
  refine kB_u (by decide) (by rw [pw_5, if_pos h0]; split <;> (try split) <;> (try split) <;> decide) (fun i hi hc => pw_z hi ?_)
  rcases (show i = 0 ∨ i = 1 ∨ i = 2 ∨ i = 3 ∨ i = 4 ∨ i = 6 ∨ i = 7 ∨ i = 8 ∨ i = 9 by omega) with rfl | rfl | rfl | rfl | rfl | rfl | rfl | rfl | rfl
  · show ¬ pSg n t p9 = 104
    omega
  · show ¬ pSg n t p9 = 108
    omega
  · show ¬ pSg n t p9 = 97
    omega
  · show ¬ pSg n t p9 = 115
    omega
  · show ¬ pSg n t p9 = 106
    omega
  · show ¬ pSg n t p9 = 115
    omega
  · show ¬ pSg n t p9 = 99
    omega
  · show ¬ pSg n t p9 = 98
    omega
  · show ¬ pSg n t p9 = 112
    omega
theorem kN_5 {n : Nat} {t : Nat → Nat} {p9 : Nat} (h0 : pSg n t p9 = 122) (h : ¬ pw n t p9 5 = 4) : pOq n t p9 = (p9 + pw n t p9 5, 1) := by
  rw [pw_5, if_pos h0] at h ⊢
  unfold pOq
  rw [if_neg (show ¬ pSg n t p9 = 104 by omega), if_neg (show ¬ pSg n t p9 = 108 by omega), if_neg (show ¬ pSg n t p9 = 97 by omega), if_neg (show ¬ pSg n t p9 = 115 by omega), if_neg (show ¬ pSg n t p9 = 106 by omega), if_pos h0, pRs_4 (by decide)]
  by_cases h1 : pSg n t (p9 + 1) = 101
  · rw [if_pos h1] at h ⊢
    rw [if_pos h1]
    by_cases h2 : pSg n t (p9 + 1 + 1) = 114
    · rw [if_pos h2] at h ⊢
      rw [if_pos h2]
      by_cases h3 : pSg n t (p9 + 1 + 1 + 1) = 111
      · rw [if_pos h3] at h
        exact absurd rfl h
      · rw [if_neg h3, if_neg h3, pNq_1]
    · rw [if_neg h2, if_neg h2, pNq_1]
  · rw [if_neg h1, if_neg h1, pNq_1]
theorem kY_5 {n : Nat} {t : Nat → Nat} {p9 : Nat} (h : pw n t p9 5 = 4) : pOq n t p9 = (pNq n t (p9 + 4, 0) 63) ∧ pOv n t p9 = 500 + pNv n t (p9 + 4, 0) 63 := by
  rw [pw_5] at h
  have h0 : pSg n t (p9) = 122 := by
    by_cases e : pSg n t (p9) = 122
    · exact e
    · rw [if_neg e] at h
      exact absurd h (by decide)
  rw [if_pos h0] at h
  have h1 : pSg n t (p9 + 1) = 101 := by
    by_cases e : pSg n t (p9 + 1) = 101
    · exact e
    · rw [if_neg e] at h
      exact absurd h (by decide)
  rw [if_pos h1] at h
  have h2 : pSg n t (p9 + 1 + 1) = 114 := by
    by_cases e : pSg n t (p9 + 1 + 1) = 114
    · exact e
    · rw [if_neg e] at h
      exact absurd h (by decide)
  rw [if_pos h2] at h
  have h3 : pSg n t (p9 + 1 + 1 + 1) = 111 := by
    by_cases e : pSg n t (p9 + 1 + 1 + 1) = 111
    · exact e
    · rw [if_neg e] at h
      exact absurd h (by decide)
  have e9 : (pRs n t (p9 + 1, 0) 101 114 111 0) = (p9 + 4, 0) := by
    rw [pRs_4 (by decide), if_pos h1, if_pos h2, if_pos h3]
  unfold pOq pOv
  constructor
  · rw [if_neg (show ¬ pSg n t p9 = 104 by omega), if_neg (show ¬ pSg n t p9 = 108 by omega), if_neg (show ¬ pSg n t p9 = 97 by omega), if_neg (show ¬ pSg n t p9 = 115 by omega), if_neg (show ¬ pSg n t p9 = 106 by omega), if_pos h0, e9]
  · rw [if_neg (show ¬ pSg n t p9 = 104 by omega), if_neg (show ¬ pSg n t p9 = 108 by omega), if_neg (show ¬ pSg n t p9 = 97 by omega), if_neg (show ¬ pSg n t p9 = 115 by omega), if_neg (show ¬ pSg n t p9 = 106 by omega), if_pos h0, e9]
theorem kU_7 {n : Nat} {t : Nat → Nat} {p9 : Nat} (h0 : pSg n t p9 = 99) : kB n t p9 10 = (pw n t p9 7, 7) := by
  refine kB_u (by decide) (by rw [pw_7, if_pos h0]; split <;> (try split) <;> (try split) <;> decide) (fun i hi hc => pw_z hi ?_)
  rcases (show i = 0 ∨ i = 1 ∨ i = 2 ∨ i = 3 ∨ i = 4 ∨ i = 5 ∨ i = 6 ∨ i = 8 ∨ i = 9 by omega) with rfl | rfl | rfl | rfl | rfl | rfl | rfl | rfl | rfl
  · show ¬ pSg n t p9 = 104
    omega
  · show ¬ pSg n t p9 = 108
    omega
  · show ¬ pSg n t p9 = 97
    omega
  · show ¬ pSg n t p9 = 115
    omega
  · show ¬ pSg n t p9 = 106
    omega
  · show ¬ pSg n t p9 = 122
    omega
  · show ¬ pSg n t p9 = 115
    omega
  · show ¬ pSg n t p9 = 98
    omega
  · show ¬ pSg n t p9 = 112
    omega
theorem kN_7 {n : Nat} {t : Nat → Nat} {p9 : Nat} (h0 : pSg n t p9 = 99) (h : ¬ pw n t p9 7 = 4) : pOq n t p9 = (p9 + pw n t p9 7, 1) := by
  rw [pw_7, if_pos h0] at h ⊢
  unfold pOq
  rw [if_neg (show ¬ pSg n t p9 = 104 by omega), if_neg (show ¬ pSg n t p9 = 108 by omega), if_neg (show ¬ pSg n t p9 = 97 by omega), if_neg (show ¬ pSg n t p9 = 115 by omega), if_neg (show ¬ pSg n t p9 = 106 by omega), if_neg (show ¬ pSg n t p9 = 122 by omega), if_pos h0, pRs_4 (by decide)]
  by_cases h1 : pSg n t (p9 + 1) = 97
  · rw [if_pos h1] at h ⊢
    rw [if_pos h1]
    by_cases h2 : pSg n t (p9 + 1 + 1) = 108
    · rw [if_pos h2] at h ⊢
      rw [if_pos h2]
      by_cases h3 : pSg n t (p9 + 1 + 1 + 1) = 108
      · rw [if_pos h3] at h
        exact absurd rfl h
      · rw [if_neg h3, if_neg h3, pNq_1, pNq_1]
    · rw [if_neg h2, if_neg h2, pNq_1, pNq_1]
  · rw [if_neg h1, if_neg h1, pNq_1, pNq_1]
theorem kY_7 {n : Nat} {t : Nat → Nat} {p9 : Nat} (h : pw n t p9 7 = 4) : pOq n t p9 = (pNq n t (pNq n t (p9 + 4, 0) 7) 9) ∧ pOv n t p9 = 700 + 10 * pNv n t (p9 + 4, 0) 7 + pNv n t (pNq n t (p9 + 4, 0) 7) 9 := by
  rw [pw_7] at h
  have h0 : pSg n t (p9) = 99 := by
    by_cases e : pSg n t (p9) = 99
    · exact e
    · rw [if_neg e] at h
      exact absurd h (by decide)
  rw [if_pos h0] at h
  have h1 : pSg n t (p9 + 1) = 97 := by
    by_cases e : pSg n t (p9 + 1) = 97
    · exact e
    · rw [if_neg e] at h
      exact absurd h (by decide)
  rw [if_pos h1] at h
  have h2 : pSg n t (p9 + 1 + 1) = 108 := by
    by_cases e : pSg n t (p9 + 1 + 1) = 108
    · exact e
    · rw [if_neg e] at h
      exact absurd h (by decide)
  rw [if_pos h2] at h
  have h3 : pSg n t (p9 + 1 + 1 + 1) = 108 := by
    by_cases e : pSg n t (p9 + 1 + 1 + 1) = 108
    · exact e
    · rw [if_neg e] at h
      exact absurd h (by decide)
  have e9 : (pRs n t (p9 + 1, 0) 97 108 108 0) = (p9 + 4, 0) := by
    rw [pRs_4 (by decide), if_pos h1, if_pos h2, if_pos h3]
  unfold pOq pOv
  constructor
  · rw [if_neg (show ¬ pSg n t p9 = 104 by omega), if_neg (show ¬ pSg n t p9 = 108 by omega), if_neg (show ¬ pSg n t p9 = 97 by omega), if_neg (show ¬ pSg n t p9 = 115 by omega), if_neg (show ¬ pSg n t p9 = 106 by omega), if_neg (show ¬ pSg n t p9 = 122 by omega), if_pos h0, e9]
  · rw [if_neg (show ¬ pSg n t p9 = 104 by omega), if_neg (show ¬ pSg n t p9 = 108 by omega), if_neg (show ¬ pSg n t p9 = 97 by omega), if_neg (show ¬ pSg n t p9 = 115 by omega), if_neg (show ¬ pSg n t p9 = 106 by omega), if_neg (show ¬ pSg n t p9 = 122 by omega), if_pos h0, e9]
theorem kU_8 {n : Nat} {t : Nat → Nat} {p9 : Nat} (h0 : pSg n t p9 = 98) : kB n t p9 10 = (pw n t p9 8, 8) := by
  refine kB_u (by decide) (by rw [pw_8, if_pos h0]; split <;> (try split) <;> (try split) <;> decide) (fun i hi hc => pw_z hi ?_)
  rcases (show i = 0 ∨ i = 1 ∨ i = 2 ∨ i = 3 ∨ i = 4 ∨ i = 5 ∨ i = 6 ∨ i = 7 ∨ i = 9 by omega) with rfl | rfl | rfl | rfl | rfl | rfl | rfl | rfl | rfl
  · show ¬ pSg n t p9 = 104
    omega
  · show ¬ pSg n t p9 = 108
    omega
  · show ¬ pSg n t p9 = 97
    omega
  · show ¬ pSg n t p9 = 115
    omega
  · show ¬ pSg n t p9 = 106
    omega
  · show ¬ pSg n t p9 = 122
    omega
  · show ¬ pSg n t p9 = 115
    omega
  · show ¬ pSg n t p9 = 99
    omega
  · show ¬ pSg n t p9 = 112
    omega
theorem kN_8 {n : Nat} {t : Nat → Nat} {p9 : Nat} (h0 : pSg n t p9 = 98) (h : ¬ pw n t p9 8 = 4) : pOq n t p9 = (p9 + pw n t p9 8, 1) := by
  rw [pw_8, if_pos h0] at h ⊢
  unfold pOq
  rw [if_neg (show ¬ pSg n t p9 = 104 by omega), if_neg (show ¬ pSg n t p9 = 108 by omega), if_neg (show ¬ pSg n t p9 = 97 by omega), if_neg (show ¬ pSg n t p9 = 115 by omega), if_neg (show ¬ pSg n t p9 = 106 by omega), if_neg (show ¬ pSg n t p9 = 122 by omega), if_neg (show ¬ pSg n t p9 = 99 by omega), if_pos h0, pRs_4 (by decide)]
  by_cases h1 : pSg n t (p9 + 1) = 97
  · rw [if_pos h1] at h ⊢
    rw [if_pos h1]
    by_cases h2 : pSg n t (p9 + 1 + 1) = 99
    · rw [if_pos h2] at h ⊢
      rw [if_pos h2]
      by_cases h3 : pSg n t (p9 + 1 + 1 + 1) = 107
      · rw [if_pos h3] at h
        exact absurd rfl h
      · rw [if_neg h3, if_neg h3]
    · rw [if_neg h2, if_neg h2]
  · rw [if_neg h1, if_neg h1]
theorem kY_8 {n : Nat} {t : Nat → Nat} {p9 : Nat} (h : pw n t p9 8 = 4) : pOq n t p9 = (p9 + 4, 0) ∧ pOv n t p9 = 800 := by
  rw [pw_8] at h
  have h0 : pSg n t (p9) = 98 := by
    by_cases e : pSg n t (p9) = 98
    · exact e
    · rw [if_neg e] at h
      exact absurd h (by decide)
  rw [if_pos h0] at h
  have h1 : pSg n t (p9 + 1) = 97 := by
    by_cases e : pSg n t (p9 + 1) = 97
    · exact e
    · rw [if_neg e] at h
      exact absurd h (by decide)
  rw [if_pos h1] at h
  have h2 : pSg n t (p9 + 1 + 1) = 99 := by
    by_cases e : pSg n t (p9 + 1 + 1) = 99
    · exact e
    · rw [if_neg e] at h
      exact absurd h (by decide)
  rw [if_pos h2] at h
  have h3 : pSg n t (p9 + 1 + 1 + 1) = 107 := by
    by_cases e : pSg n t (p9 + 1 + 1 + 1) = 107
    · exact e
    · rw [if_neg e] at h
      exact absurd h (by decide)
  have e9 : (pRs n t (p9 + 1, 0) 97 99 107 0) = (p9 + 4, 0) := by
    rw [pRs_4 (by decide), if_pos h1, if_pos h2, if_pos h3]
  unfold pOq pOv
  constructor
  · rw [if_neg (show ¬ pSg n t p9 = 104 by omega), if_neg (show ¬ pSg n t p9 = 108 by omega), if_neg (show ¬ pSg n t p9 = 97 by omega), if_neg (show ¬ pSg n t p9 = 115 by omega), if_neg (show ¬ pSg n t p9 = 106 by omega), if_neg (show ¬ pSg n t p9 = 122 by omega), if_neg (show ¬ pSg n t p9 = 99 by omega), if_pos h0, e9]
  · rw [if_neg (show ¬ pSg n t p9 = 104 by omega), if_neg (show ¬ pSg n t p9 = 108 by omega), if_neg (show ¬ pSg n t p9 = 97 by omega), if_neg (show ¬ pSg n t p9 = 115 by omega), if_neg (show ¬ pSg n t p9 = 106 by omega), if_neg (show ¬ pSg n t p9 = 122 by omega), if_neg (show ¬ pSg n t p9 = 99 by omega), if_pos h0]
theorem kU_9 {n : Nat} {t : Nat → Nat} {p9 : Nat} (h0 : pSg n t p9 = 112) : kB n t p9 10 = (pw n t p9 9, 9) := by
  refine kB_u (by decide) (by rw [pw_9, if_pos h0]; split <;> (try split) <;> (try split) <;> decide) (fun i hi hc => pw_z hi ?_)
  rcases (show i = 0 ∨ i = 1 ∨ i = 2 ∨ i = 3 ∨ i = 4 ∨ i = 5 ∨ i = 6 ∨ i = 7 ∨ i = 8 by omega) with rfl | rfl | rfl | rfl | rfl | rfl | rfl | rfl | rfl
  · show ¬ pSg n t p9 = 104
    omega
  · show ¬ pSg n t p9 = 108
    omega
  · show ¬ pSg n t p9 = 97
    omega
  · show ¬ pSg n t p9 = 115
    omega
  · show ¬ pSg n t p9 = 106
    omega
  · show ¬ pSg n t p9 = 122
    omega
  · show ¬ pSg n t p9 = 115
    omega
  · show ¬ pSg n t p9 = 99
    omega
  · show ¬ pSg n t p9 = 98
    omega
theorem kN_9 {n : Nat} {t : Nat → Nat} {p9 : Nat} (h0 : pSg n t p9 = 112) (h : ¬ pw n t p9 9 = 4) : pOq n t p9 = (p9 + pw n t p9 9, 1) := by
  rw [pw_9, if_pos h0] at h ⊢
  unfold pOq
  rw [if_neg (show ¬ pSg n t p9 = 104 by omega), if_neg (show ¬ pSg n t p9 = 108 by omega), if_neg (show ¬ pSg n t p9 = 97 by omega), if_neg (show ¬ pSg n t p9 = 115 by omega), if_neg (show ¬ pSg n t p9 = 106 by omega), if_neg (show ¬ pSg n t p9 = 122 by omega), if_neg (show ¬ pSg n t p9 = 99 by omega), if_neg (show ¬ pSg n t p9 = 98 by omega), if_pos h0, pRs_4 (by decide)]
  by_cases h1 : pSg n t (p9 + 1) = 108
  · rw [if_pos h1] at h ⊢
    rw [if_pos h1]
    by_cases h2 : pSg n t (p9 + 1 + 1) = 117
    · rw [if_pos h2] at h ⊢
      rw [if_pos h2]
      by_cases h3 : pSg n t (p9 + 1 + 1 + 1) = 115
      · rw [if_pos h3] at h
        exact absurd rfl h
      · rw [if_neg h3, if_neg h3, pNq_1]
    · rw [if_neg h2, if_neg h2, pNq_1]
  · rw [if_neg h1, if_neg h1, pNq_1]
theorem kY_9 {n : Nat} {t : Nat → Nat} {p9 : Nat} (h : pw n t p9 9 = 4) : pOq n t p9 = (pNq n t (p9 + 4, 0) 99) ∧ pOv n t p9 = 900 + pNv n t (p9 + 4, 0) 99 := by
  rw [pw_9] at h
  have h0 : pSg n t (p9) = 112 := by
    by_cases e : pSg n t (p9) = 112
    · exact e
    · rw [if_neg e] at h
      exact absurd h (by decide)
  rw [if_pos h0] at h
  have h1 : pSg n t (p9 + 1) = 108 := by
    by_cases e : pSg n t (p9 + 1) = 108
    · exact e
    · rw [if_neg e] at h
      exact absurd h (by decide)
  rw [if_pos h1] at h
  have h2 : pSg n t (p9 + 1 + 1) = 117 := by
    by_cases e : pSg n t (p9 + 1 + 1) = 117
    · exact e
    · rw [if_neg e] at h
      exact absurd h (by decide)
  rw [if_pos h2] at h
  have h3 : pSg n t (p9 + 1 + 1 + 1) = 115 := by
    by_cases e : pSg n t (p9 + 1 + 1 + 1) = 115
    · exact e
    · rw [if_neg e] at h
      exact absurd h (by decide)
  have e9 : (pRs n t (p9 + 1, 0) 108 117 115 0) = (p9 + 4, 0) := by
    rw [pRs_4 (by decide), if_pos h1, if_pos h2, if_pos h3]
  unfold pOq pOv
  constructor
  · rw [if_neg (show ¬ pSg n t p9 = 104 by omega), if_neg (show ¬ pSg n t p9 = 108 by omega), if_neg (show ¬ pSg n t p9 = 97 by omega), if_neg (show ¬ pSg n t p9 = 115 by omega), if_neg (show ¬ pSg n t p9 = 106 by omega), if_neg (show ¬ pSg n t p9 = 122 by omega), if_neg (show ¬ pSg n t p9 = 99 by omega), if_neg (show ¬ pSg n t p9 = 98 by omega), if_pos h0, e9]
  · rw [if_neg (show ¬ pSg n t p9 = 104 by omega), if_neg (show ¬ pSg n t p9 = 108 by omega), if_neg (show ¬ pSg n t p9 = 97 by omega), if_neg (show ¬ pSg n t p9 = 115 by omega), if_neg (show ¬ pSg n t p9 = 106 by omega), if_neg (show ¬ pSg n t p9 = 122 by omega), if_neg (show ¬ pSg n t p9 = 99 by omega), if_neg (show ¬ pSg n t p9 = 98 by omega), e9]
