/-! ===== the reference's calls: what is told ===== -/
theorem zAt_hz {z : Nat → Nat} (hz : zI z) {i : Nat} (hi : i < 64) : zAt z i < 2 ^ 31 := by have := hz.at hi; omega
theorem i_m1 : nI 0 + Int32.ofInt (-1) = -1 := by decide
theorem gFrame_q (z : Nat → Nat) (hz : zI z) {q w : Nat} (hq : q < 8) (hw : w ≤ 2) : 117 + 3 * q + w < 198 := by omega
theorem zBack_0 {z : Nat → Nat} {n : Nat} (h : zBack z n = 0) (h1 : zRun z n 115 = 0) (h2 : ¬ zRun z (n + 1) 116 < z 116) : zBack z (n + 1) = 0 := by
  show (if zBack z n = 0 ∧ zRun z n 115 = 0 ∧ zRun z (n + 1) 116 < z 116 then n + 1 else zBack z n) = 0
  rw [if_neg (fun q => h2 q.2.2), h]
theorem zBack_1 {z : Nat → Nat} {n : Nat} (h : zBack z n = 0) (h1 : zRun z n 115 = 0) (h2 : zRun z (n + 1) 116 < z 116) : ∀ d, zBack z (n + 1 + d) = n + 1
  | 0 => if_pos ⟨h, h1, h2⟩
  | d + 1 => by
    have e := zBack_1 h h1 h2 d
    show (if zBack z (n + 1 + d) = 0 ∧ _ then _ else zBack z (n + 1 + d)) = n + 1
    rw [if_neg (fun q => by have := q.1; rw [e] at this; omega), e]
theorem zBack_st {z : Nat → Nat} {n : Nat} (h : zBack z n = 0) (h1 : ¬ zRun z n 115 = 0) : ∀ d, zBack z (n + d) = 0
  | 0 => h
  | d + 1 => by
    have e := zBack_st h h1 d
    show (if zBack z (n + d) = 0 ∧ zRun z (n + d) 115 = 0 ∧ _ then _ else zBack z (n + d)) = 0
    rw [if_neg (fun q => h1 (by have := q.2.1; rw [(zRun_stop h1 d).1] at this; exact this)), e]
theorem zBack_no {z : Nat → Nat} (h : z 116 = 0) : ∀ n, zBack z n = 0
  | 0 => rfl
  | n + 1 => by
    show (if zBack z n = 0 ∧ zRun z n 115 = 0 ∧ zRun z (n + 1) 116 < z 116 then n + 1 else zBack z n) = 0
    rw [if_neg (fun q => absurd q.2.2 (by omega)), zBack_no h n]
