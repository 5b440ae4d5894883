/-! ===== what a step keeps ===== -/
theorem zI_congr {z y : Nat → Nat} (h : zI z) (e : ∀ j, j < 142 → y j = z j) : zI y := by
  obtain ⟨g1, g2, g3, g4, g5, g6, g7, g8, g9, g10⟩ := h
  refine ⟨fun i hi => by rw [e i (by omega)]; exact g1 i hi, fun i hi => by rw [e _ (by omega)]; exact g2 i hi, fun i hi => by rw [e _ (by omega)]; exact g3 i hi, by rw [e _ (by omega)]; exact g4, by rw [e _ (by omega)]; exact g5, by rw [e _ (by omega)]; exact g6, by rw [e _ (by omega)]; exact g7, by rw [e _ (by omega)]; exact g8, fun q hq => by rw [e _ (by omega), e _ (by omega), e _ (by omega)]; exact g9 q hq, by rw [e _ (by omega)]; exact g10⟩
theorem zSm_le {x y : Nat} (hx : x ≤ 999) (hy : y ≤ 999) : zSm x y ≤ 999 := by
  unfold zSm
  by_cases h : x + y ≤ 999
  · rw [if_pos h]; exact h
  · rw [if_neg h]; omega
theorem zI_wr {z : Nat → Nat} {i : Nat} (hz : zI z) (hi : i < 64) : zI (zWr z i) := by
  have hb := hz.bk hi
  have hat := hz.at hi
  have h113 := hz.2.2.2.2.1
  unfold zWr
  by_cases c : z (104 + zBk z i) = 1
  · rw [if_pos c]
    have h1 : zI (zWr1 z (zBk z i)) := (hz).upd9 (by omega) (by omega) (by omega) (by omega) (by omega) (by omega) (by omega) (by omega) (fun q hq => by omega) (by omega)
    have h2 : zI (zWr2 z (zBk z i)) := (h1).upd9 (by omega) (by omega) (by omega) (by omega) (by omega) (by omega) (by omega) (by omega) (fun q hq => by omega) (by omega)
    have hx : (if zWr2 z (zBk z i) 112 = 1 then 2 else 0) ≤ 2 := by split <;> omega
    unfold zWr3
    generalize (if zWr2 z (zBk z i) 112 = 1 then 2 else 0) = x at hx
    exact (h2).upd9 (by omega) (by omega) (by omega) (by omega) (by omega) (by omega) (by omega) (by omega) (fun q hq => by omega) (by omega)
  · rw [if_neg c]
    have h1 : zI (zWs1 z (zBk z i) i) := (hz).upd9 (by omega) (by omega) (by omega) (by omega) (by omega) (by omega) (by omega) (by omega) (fun q hq => by omega) (by omega)
    have h2 : zI (zWs2 z (zBk z i) i) := (h1).upd9 (by omega) (by omega) (by omega) (by omega) (by omega) (by omega) (by omega) (by omega) (fun q hq => by omega) (by omega)
    exact (h2).upd9 (by omega) (by omega) (by omega) (by omega) (by omega) (by omega) (by omega) (by omega) (fun q hq => by omega) (by omega)
theorem zI_cl {z : Nat → Nat} {w n : Nat} (hz : zI z) (hw : w < 4) (hn : n / 10 < 8) (h8 : z 116 < 8) : zI (zCl z w n) := by
  have h1 : zI (zCl1 z w) := (hz).upd9 (by omega) (by omega) (by omega) (by omega) (by omega) (by omega) (by omega) (by omega) (fun q hq => by omega) (by omega)
  have v1 : zCl1 z w (100 + w) < 8 := h1.2.1 w hw
  have h2 : zI (zCl2 z w) := (h1).upd9 (by omega) (by omega) (by omega) (by omega) (by omega) (by omega) (by omega) (by omega) (fun q hq => by omega) (by omega)
  have v2 : zCl2 z w 114 ≤ 64 := h2.2.2.2.2.2.1
  have h3 : zI (zCl3 z w) := (h2).upd9 (by omega) (by omega) (by omega) (by omega) (by omega) (by omega) (by omega) (by omega) (fun q hq => by omega) (by omega)
  have v3 : zCl3 z w 116 = z 116 := by
    unfold zCl3 zCl2 zCl1
    rw [fU_n _ _ (by omega), fU_n _ _ (by omega), fU_n _ _ (by omega)]
  have h4 : zI (zCl4 z w) := (h3).upd9 (by omega) (by omega) (by omega) (by omega) (by omega) (by omega) (by omega) (by omega) (fun q hq => by omega) (by omega)
  have h5 : zI (zCl5 z w) := (h4).upd9 (by omega) (by omega) (by omega) (by omega) (by omega) (by omega) (by omega) (by omega) (fun q hq => by omega) (by omega)
  have h6 : zI (fU (zCl5 z w) (100 + w) (n / 10)) := (h5).upd9 (by omega) (by omega) (by omega) (by omega) (by omega) (by omega) (by omega) (by omega) (fun q hq => by omega) (by omega)
  exact (h6).upd9 (by omega) (by omega) (by omega) (by omega) (by omega) (by omega) (by omega) (by omega) (fun q hq => by omega) (by omega)
theorem zI_bc {z : Nat → Nat} (hz : zI z) (h8 : 0 < z 116) : zI (zBc z) := by
  have h116 := hz.2.2.2.2.2.2.2.1
  obtain ⟨q1, q2, q3⟩ := hz.2.2.2.2.2.2.2.2.1 (z 116 - 1) (by omega)
  have h1 : zI (zBc1 z) := (hz).upd9 (by omega) (by omega) (by omega) (by omega) (by omega) (by omega) (by omega) (by omega) (fun q hq => by omega) (by omega)
  obtain ⟨r1, r2, r3⟩ := h1.2.2.2.2.2.2.2.2.1 (z 116 - 1) (by omega)
  have e2 : 118 + 3 * (z 116 - 1) = 117 + 3 * (z 116 - 1) + 1 := by omega
  rw [e2] at r2
  have h2 : zI (zBc2 z) := (h1).upd9 (by omega) (by omega) (by omega) (by omega) (by omega) (by omega) (by omega) (by omega) (fun q hq => by omega) (by omega)
  obtain ⟨s1, s2, s3⟩ := h2.2.2.2.2.2.2.2.2.1 (z 116 - 1) (by omega)
  have e3 : 119 + 3 * (z 116 - 1) = 117 + 3 * (z 116 - 1) + 2 := by omega
  rw [e3] at s3
  exact (h2).upd9 (by omega) (by omega) (by omega) (by omega) (by omega) (by omega) (by omega) (by omega) (fun q hq => by omega) (by omega)
theorem zI_ord {z : Nat → Nat} {kind n w : Nat} (hz : zI z) (hk : kind < 10) (hn : n < 100) (hw : w < 4) (hy : zWhy z kind n = 0) : zI (zOrd z kind n w) := by
  have h113 := hz.2.2.2.2.1
  have h114 := hz.2.2.2.2.2.1
  have h116 := hz.2.2.2.2.2.2.2.1
  obtain ⟨y1, y2, y3⟩ := zWhy_0 hy
  match kind, hk with
  | 0, _ => exact (hz).upd9 (by omega) (by omega) (by omega) (by omega) (by omega) (by omega) (by omega) (by omega) (fun q hq => by omega) (by omega)
  | 1, _ => exact (hz).upd9 (by omega) (by omega) (by omega) (by omega) (by omega) (by omega) (by omega) (by omega) (fun q hq => by omega) (by omega)
  | 2, _ =>
    have hx := zSm_le h113 (hz.1 _ (hz.at (show n < 64 by omega)))
    show zI (fU z 113 (zSm (z 113) (z (zAt z n))))
    exact (hz).upd9 (by omega) (by omega) (by omega) (by omega) (by omega) (by omega) (by omega) (by omega) (fun q hq => by omega) (by omega)
  | 3, _ => exact zI_wr hz (by omega)
  | 4, _ => exact (hz).upd9 (by omega) (by omega) (by omega) (by omega) (by omega) (by omega) (by omega) (by omega) (fun q hq => by omega) (by omega)
  | 5, _ =>
    have hx : (if z 113 = 0 then n else z 114) ≤ 64 := by split <;> omega
    show zI (fU z 114 (if z 113 = 0 then n else z 114))
    generalize (if z 113 = 0 then n else z 114) = x at hx
    exact (hz).upd9 (by omega) (by omega) (by omega) (by omega) (by omega) (by omega) (by omega) (by omega) (fun q hq => by omega) (by omega)
  | 6, _ => exact (hz).upd9 (by omega) (by omega) (by omega) (by omega) (by omega) (by omega) (by omega) (by omega) (fun q hq => by omega) (by omega)
  | 7, _ => exact zI_cl hz hw (by omega) (by omega)
  | 8, _ => exact zI_bc hz (by omega)
  | 9, _ =>
    have hx := zSm_le h113 (show n ≤ 999 by omega)
    show zI (fU z 113 (zSm (z 113) n))
    exact (hz).upd9 (by omega) (by omega) (by omega) (by omega) (by omega) (by omega) (by omega) (by omega) (fun q hq => by omega) (by omega)
  | k + 10, h => exact absurd h (by omega)
theorem zKp0_lo {z : Nat → Nat} {j : Nat} (h : j < 141) : zKp0 z j = z j := by
  unfold zKp0
  by_cases e : z 141 < 12
  · rw [if_pos e, fU_n _ _ (by omega)]
  · rw [if_neg e]
theorem zKp_lo {z : Nat → Nat} {ad num j : Nat} (h : j < 142) : zKp z ad num j = zKp0 z j := by
  unfold zKp zKp2 zKp1 zSh
  rw [fU_n _ _ (by omega), fU_n _ _ (by omega), fU_n _ _ (by omega)]
  rw [if_neg (by omega)]
theorem zI_kp {z : Nat → Nat} {ad num : Nat} (hz : zI z) : zI (zKp z ad num) := by
  have h0 : zI (zKp0 z) := by
    unfold zKp0
    by_cases e : z 141 < 12
    · rw [if_pos e]
      exact (hz).upd9 (by omega) (by omega) (by omega) (by omega) (by omega) (by omega) (by omega) (by omega) (fun q hq => by omega) (by omega)
    · rw [if_neg e]
      exact hz
  exact zI_congr h0 (fun j hj => zKp_lo hj)
theorem zWhy_le (z : Nat → Nat) (kind n : Nat) : zWhy z kind n ≤ 5 := by
  unfold zWhy
  split
  · decide
  · split
    · decide
    · split <;> decide
theorem zWhy_eq {z y : Nat → Nat} (h : y 116 = z 116) (kind n : Nat) : zWhy y kind n = zWhy z kind n := by
  unfold zWhy
  rw [h]
theorem zI_st1 {z : Nat → Nat} (hz : zI z) : zI (zSt1 z) := zI_kp hz
theorem zSt1_lo {z : Nat → Nat} {j : Nat} (h : j < 141) : zSt1 z j = z j := by
  unfold zSt1
  rw [zKp_lo (by omega), zKp0_lo h]
theorem zI_st2 {z : Nat → Nat} (hz : zI z) : zI (zSt2 z) := ((zI_st1 hz)).upd9 (by omega) (by omega) (by omega) (by omega) (by omega) (by omega) (by omega) (by omega) (fun q hq => by omega) (by omega)
theorem zSt2_lo {z : Nat → Nat} {j : Nat} (h : j < 141) : zSt2 z j = z j := by
  unfold zSt2
  rw [fU_n _ _ (by omega), zSt1_lo h]
theorem zI_st3 {z : Nat → Nat} (hz : zI z) (had : z 114 < 64) : zI (zSt3 z) := by
  have e := zSt2_lo (z := z) (j := 114) (by decide)
  have h2 := zI_st2 hz
  exact (h2).upd9 (by omega) (by omega) (by omega) (by omega) (by omega) (by omega) (by omega) (by omega) (fun q hq => by omega) (by omega)
theorem zI_st4 {z : Nat → Nat} (hz : zI z) (had : z 114 < 64) : zI (zSt4 z) := by
  have h3 := zI_st3 hz had
  have hy := zWhy_le (zSt3 z) (z (zAt z (z 114)) / 100) (z (zAt z (z 114)) % 100)
  exact (h3).upd9 (by omega) (by omega) (by omega) (by omega) (by omega) (by omega) (by omega) (by omega) (fun q hq => by omega) (by omega)
theorem zSt4_115 (z : Nat → Nat) : zSt4 z 115 = zWhy (zSt3 z) (z (zAt z (z 114)) / 100) (z (zAt z (z 114)) % 100) := by
  unfold zSt4
  rw [fU_s]
theorem zSt4_why {z : Nat → Nat} (h : zSt4 z 115 = 0) : zWhy (zSt4 z) (z (zAt z (z 114)) / 100) (z (zAt z (z 114)) % 100) = 0 := by
  rw [zSt4_115] at h
  rw [zWhy_eq (z := zSt3 z) (by unfold zSt4; rw [fU_n _ _ (by omega)]), h]
theorem zI_num {z : Nat → Nat} (hz : zI z) (had : z 114 < 64) : z (zAt z (z 114)) ≤ 999 := hz.1 _ (hz.at had)
theorem zI_st5 {z : Nat → Nat} (hz : zI z) (had : z 114 < 64) : zI (zSt5 z) := by
  have h4 := zI_st4 hz had
  have hn := zI_num hz had
  unfold zSt5
  by_cases c : zSt4 z 115 = 0
  · rw [if_pos c]
    exact zI_ord h4 (by omega) (by omega) (by omega) (zSt4_why c)
  · rw [if_neg c]
    exact h4
theorem zI_step {z : Nat → Nat} (hz : zI z) (had : z 114 < 64) : zI (zStep z) := by
  have h5 := zI_st5 hz had
  unfold zStep
  by_cases c : zSt5 z 115 = 0 ∧ zSt5 z 114 = 64
  · rw [if_pos c]
    exact (h5).upd9 (by omega) (by omega) (by omega) (by omega) (by omega) (by omega) (by omega) (by omega) (fun q hq => by omega) (by omega)
  · rw [if_neg c]
    exact h5
/-- a machine that runs stands in the windows -/
def zG (z : Nat → Nat) : Prop := z 115 = 0 → z 114 < 64
theorem zG_step {z : Nat → Nat} (hz : zI z) (had : z 114 < 64) : zG (zStep z) := by
  have h5 := (zI_st5 hz had).2.2.2.2.2.1
  unfold zG zStep
  by_cases c : zSt5 z 115 = 0 ∧ zSt5 z 114 = 64
  · rw [if_pos c, fU_s]
    intro h
    cases h
  · rw [if_neg c]
    intro h
    omega
/-- some steps, as long as it runs; and how many -/
def zRun (z : Nat → Nat) : Nat → (Nat → Nat)
  | 0 => z
  | n + 1 => if zRun z n 115 = 0 then zStep (zRun z n) else zRun z n
def zTk (z : Nat → Nat) : Nat → Nat
  | 0 => 0
  | n + 1 => if zRun z n 115 = 0 then n + 1 else zTk z n
theorem zRun_I {z : Nat → Nat} (hz : zI z) (hg : zG z) : ∀ n, zI (zRun z n) ∧ zG (zRun z n)
  | 0 => ⟨hz, hg⟩
  | n + 1 => by
    obtain ⟨h1, h2⟩ := zRun_I hz hg n
    show zI (if zRun z n 115 = 0 then zStep (zRun z n) else zRun z n) ∧ zG (if zRun z n 115 = 0 then zStep (zRun z n) else zRun z n)
    by_cases c : zRun z n 115 = 0
    · rw [if_pos c]
      exact ⟨zI_step h1 (h2 c), zG_step h1 (h2 c)⟩
    · rw [if_neg c]
      exact ⟨h1, h2⟩
theorem zRun_stop {z : Nat → Nat} {i : Nat} (h : ¬ zRun z i 115 = 0) : ∀ d, zRun z (i + d) = zRun z i ∧ zTk z (i + d) = zTk z i
  | 0 => ⟨rfl, rfl⟩
  | d + 1 => by
    obtain ⟨h1, h2⟩ := zRun_stop h d
    show (if zRun z (i + d) 115 = 0 then zStep (zRun z (i + d)) else zRun z (i + d)) = zRun z i ∧ (if zRun z (i + d) 115 = 0 then i + d + 1 else zTk z (i + d)) = zTk z i
    rw [h1, if_neg h, if_neg h]
    exact ⟨rfl, h2⟩
theorem zTk_run {z : Nat → Nat} : ∀ i, zRun z i 115 = 0 → zTk z i = i
  | 0, _ => rfl
  | i + 1, h => by
    show (if zRun z i 115 = 0 then i + 1 else zTk z i) = i + 1
    by_cases c : zRun z i 115 = 0
    · rw [if_pos c]
    · have e : zRun z (i + 1) = zRun z i := (zRun_stop c 1).1
      rw [e] at h
      exact absurd h c
theorem zTk_le {z : Nat → Nat} : ∀ i, zTk z i ≤ i
  | 0 => Nat.le_refl _
  | i + 1 => by
    have h := zTk_le (z := z) i
    show (if zRun z i 115 = 0 then i + 1 else zTk z i) ≤ i + 1
    split <;> omega
