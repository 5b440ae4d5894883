/-! ===== what always holds goes on to hold ===== -/
theorem zT_lo {z : Nat → Nat} {i x : Nat} (h : zT z) (hi : i < 141 ∨ i = 179) : zT (fU z i x) := by
  obtain ⟨h1, h2, h3⟩ := h
  refine ⟨?_, ?_, ?_⟩
  · rw [fU_n _ _ (by omega), fU_n _ _ (by omega)]; exact h1
  · rw [fU_n _ _ (by omega), h2]
    exact gSum_cg 8 (fun b hb => (fU_n _ _ (by omega)).symm)
  · rw [fU_n _ _ (by omega), h3]
    exact gSum_cg 8 (fun b hb => (fU_n _ _ (by omega)).symm)
theorem zT_cg {z y : Nat → Nat} (h : zT z) (e : ∀ j, j = 141 ∨ 178 ≤ j → y j = z j) : zT y := by
  obtain ⟨h1, h2, h3⟩ := h
  refine ⟨?_, ?_, ?_⟩
  · rw [e _ (by omega), e _ (by omega)]; exact h1
  · rw [e _ (by omega), h2]
    exact gSum_cg 8 (fun b hb => (e _ (by omega)).symm)
  · rw [e _ (by omega), h3]
    exact gSum_cg 8 (fun b hb => (e _ (by omega)).symm)
theorem gSum_inc {f : Nat → Nat} {k : Nat} : ∀ n, k < n → gSum (fU f k (f k + 1)) n = gSum f n + 1
  | 0, h => absurd h (Nat.not_lt_zero _)
  | n + 1, h => by
    show gSum (fU f k (f k + 1)) n + fU f k (f k + 1) n = gSum f n + f n + 1
    by_cases e : k = n
    · subst e
      rw [fU_s, gSum_cg (g := f) k (fun i hi => fU_n _ _ (by omega))]
      omega
    · rw [gSum_inc n (by omega), fU_n _ _ (by omega)]
      omega
theorem gSum_inc2 {z : Nat → Nat} {base b : Nat} (hb : b < 8) : gSum (fun q => fU z (base + b) (z (base + b) + 1) (base + q)) 8 = gSum (fun q => z (base + q)) 8 + 1 := by
  rw [← gSum_inc (f := fun q => z (base + q)) (k := b) 8 hb]
  refine gSum_cg 8 (fun q hq => ?_)
  by_cases e : q = b
  · subst e
    rw [fU_s, fU_s]
  · rw [fU_n _ _ e, fU_n _ _ (by omega)]
theorem zT_w0 {z : Nat → Nat} {b : Nat} (h : zT z) (hb : b < 8) : zT (fU (fU z 180 (z 180 + 1)) (182 + b) (fU z 180 (z 180 + 1) (182 + b) + 1)) := by
  obtain ⟨h1, h2, h3⟩ := h
  have e : fU z 180 (z 180 + 1) (182 + b) = z (182 + b) := fU_n _ _ (by omega)
  rw [e]
  refine ⟨?_, ?_, ?_⟩
  · rw [fU_n _ _ (by omega), fU_n _ _ (by omega), fU_n _ _ (by omega), fU_n _ _ (by omega)]; exact h1
  · rw [fU_n _ _ (by omega), fU_s, h2, ← gSum_inc2 hb]
    refine gSum_cg 8 (fun q hq => ?_)
    by_cases e : q = b
    · subst e; rw [fU_s, fU_s]
    · rw [fU_n _ _ (by omega), fU_n _ _ (by omega), fU_n _ _ (by omega)]
  · rw [fU_n _ _ (by omega), fU_n _ _ (by omega), h3]
    exact gSum_cg 8 (fun q hq => by rw [fU_n _ _ (by omega), fU_n _ _ (by omega)])
theorem zT_w1 {z : Nat → Nat} {b : Nat} (h : zT z) (hb : b < 8) : zT (fU (fU z 181 (z 181 + 1)) (190 + b) (fU z 181 (z 181 + 1) (190 + b) + 1)) := by
  obtain ⟨h1, h2, h3⟩ := h
  have e : fU z 181 (z 181 + 1) (190 + b) = z (190 + b) := fU_n _ _ (by omega)
  rw [e]
  refine ⟨?_, ?_, ?_⟩
  · rw [fU_n _ _ (by omega), fU_n _ _ (by omega), fU_n _ _ (by omega), fU_n _ _ (by omega)]; exact h1
  · rw [fU_n _ _ (by omega), fU_n _ _ (by omega), h2]
    exact gSum_cg 8 (fun q hq => by rw [fU_n _ _ (by omega), fU_n _ _ (by omega)])
  · rw [fU_n _ _ (by omega), fU_s, h3, ← gSum_inc2 hb]
    refine gSum_cg 8 (fun q hq => ?_)
    by_cases e : q = b
    · subst e; rw [fU_s, fU_s]
    · rw [fU_n _ _ (by omega), fU_n _ _ (by omega), fU_n _ _ (by omega)]
theorem zT_wr {z : Nat → Nat} {a : Nat} (h : zT z) (hb : zBk z a < 8) (hat : zAt z a < 100) : zT (zWr z a) := by
  unfold zWr
  by_cases c : z (104 + zBk z a) = 1
  · rw [if_pos c]
    exact zT_lo (zT_w1 h hb) (by omega)
  · rw [if_neg c]
    exact zT_w0 (zT_lo h (by omega)) hb
theorem zT_ord {z : Nat → Nat} {kind n w : Nat} (h : zT z) (hz : zI z) (hk : kind < 10) (hn : n < 100) (hw : w < 4) (hy : zWhy z kind n = 0) : zT (zOrd z kind n w) := by
  have h116 := hz.2.2.2.2.2.2.2.1
  obtain ⟨y1, y2, y3⟩ := zWhy_0 hy
  match kind, hk with
  | 0, _ => exact zT_lo h (by omega)
  | 1, _ => exact zT_lo h (by omega)
  | 2, _ => exact zT_lo h (by omega)
  | 3, _ => exact zT_wr h (hz.bk (by omega)) (hz.at (by omega))
  | 4, _ => exact zT_lo h (by omega)
  | 5, _ => exact zT_lo h (by omega)
  | 6, _ => exact zT_lo h (by omega)
  | 7, _ =>
    show zT (zCl z w n)
    rw [zCl_eq hw (by omega)]
    exact zT_lo (zT_lo (zT_lo (zT_lo (zT_lo (zT_lo (zT_lo h (by omega)) (by omega)) (by omega)) (by omega)) (by omega)) (by omega)) (by omega)
  | 8, _ =>
    obtain ⟨q1, q2, q3⟩ := hz.2.2.2.2.2.2.2.2.1 (z 116 - 1) (by omega)
    show zT (zBc z)
    rw [zBc_eq (by omega) h116 q1]
    exact zT_lo (zT_lo (zT_lo h (by omega)) (by omega)) (by omega)
  | 9, _ => exact zT_lo h (by omega)
  | k + 10, h => exact absurd h (by omega)
theorem zT_st2 {z : Nat → Nat} (h : zT z) (hz : zI z) (had : z 114 < 64) : zT (zSt2 z) := by
  have h12 := hz.2.2.2.2.2.2.2.2.2
  rw [zSt1_eq had h12]
  obtain ⟨h1, h2, h3⟩ := h
  have k1 : zKp0 z 141 = min (z 178 + 1) 12 := by
    unfold zKp0
    by_cases e : z 141 < 12
    · rw [if_pos e, fU_s]; omega
    · rw [if_neg e]; omega
  have hi : ∀ j, 179 ≤ j → fU (zKq z (z 114) (zBk z (z 114)) (z (zAt z (z 114)))) 178 (z 178 + 1) j = z j := by
    intro j hj
    rw [fU_n _ _ (by omega)]
    unfold zKq
    rw [fU_n _ _ (by omega), fU_n _ _ (by omega), fU_n _ _ (by omega)]
    unfold zSh
    rw [if_neg (by omega), zKp0_hi (by omega)]
  refine ⟨?_, ?_, ?_⟩
  · rw [fU_s, fU_n _ _ (by omega)]
    unfold zKq
    rw [fU_n _ _ (by omega), fU_n _ _ (by omega), fU_n _ _ (by omega)]
    unfold zSh
    rw [if_neg (by omega)]
    exact k1
  · rw [hi _ (by omega), h2]
    exact gSum_cg 8 (fun q hq => (hi _ (by omega)).symm)
  · rw [hi _ (by omega), h3]
    exact gSum_cg 8 (fun q hq => (hi _ (by omega)).symm)
theorem zT_step {z : Nat → Nat} (h : zT z) (hz : zI z) (had : z 114 < 64) : zT (zStep z) := by
  have hord := hz.1 _ (hz.at had)
  have h4 : zT (zSt4 z) := zT_lo (zT_lo (zT_st2 h hz had) (by omega)) (by omega)
  have h5 : zT (zSt5 z) := by
    unfold zSt5
    by_cases c : zSt4 z 115 = 0
    · rw [if_pos c]
      exact zT_ord h4 (zI_st4 hz had) (by omega) (by omega) (by omega) (zSt4_why c)
    · rw [if_neg c]; exact h4
  unfold zStep
  by_cases c : zSt5 z 115 = 0 ∧ zSt5 z 114 = 64
  · rw [if_pos c]; exact zT_lo h5 (by omega)
  · rw [if_neg c]; exact h5
theorem zT_run {z : Nat → Nat} (h : zT z) (hz : zI z) (hg : zG z) : ∀ n, zT (zRun z n)
  | 0 => h
  | n + 1 => by
    have ih := zT_run h hz hg n
    obtain ⟨h1, h2⟩ := zRun_I hz hg n
    show zT (if zRun z n 115 = 0 then zStep (zRun z n) else zRun z n)
    by_cases c : zRun z n 115 = 0
    · rw [if_pos c]; exact zT_step ih h1 (h2 c)
    · rw [if_neg c]; exact ih
theorem zV_lo {z : Nat → Nat} {i x : Nat} (h : zV z) (hi : i < 114) (hz : zI (fU z i x)) : zV (fU z i x) := by
  obtain ⟨h1, h2, h3, h4⟩ := h
  refine ⟨hz, ?_, ?_, zT_lo h4 (by omega)⟩
  · unfold zG
    rw [fU_n _ _ (by omega), fU_n _ _ (by omega)]
    exact h2
  · unfold zB
    rw [fU_n _ _ (by omega)]
    exact h3
theorem zV_cell {z : Nat → Nat} {i x : Nat} (h : zV z) (hi : i < 100) (hx : x ≤ 999) : zV (fU z i x) := zV_lo h (by omega) (h.1.upd9 (by omega) (by omega) (by omega) (by omega) (by omega) (by omega) (by omega) (by omega) (fun q hq => by omega) (by omega))
theorem zV_cp {z : Nat → Nat} {fr to : Nat} (h : zV z) (hf : fr < 8) (ht : to < 8) : ∀ n, n ≤ 12 → zV (zCp z fr to n)
  | 0, _ => h
  | n + 1, hn => by
    have ih := zV_cp h hf ht n (by omega)
    exact zV_cell ih (zIx_lt ht (by omega)) (ih.1.1 _ (zIx_lt hf (by omega)))
theorem zV_bg {z : Nat → Nat} {p9 : Nat} (h : zV z) (hp : p9 < 64) : zV (zBg z p9) := by
  obtain ⟨h1, h2, h3, h4⟩ := h
  refine ⟨?_, ?_, ?_, zT_lo (zT_lo (zT_lo (zT_lo h4 (by omega)) (by omega)) (by omega)) (by omega)⟩
  · have a1 : zI (fU z 114 p9) := h1.upd9 (by omega) (by omega) (by omega) (by omega) (by omega) (by omega) (by omega) (by omega) (fun q hq => by omega) (by omega)
    have a2 : zI (fU (fU z 114 p9) 113 0) := a1.upd9 (by omega) (by omega) (by omega) (by omega) (by omega) (by omega) (by omega) (by omega) (fun q hq => by omega) (by omega)
    have a3 : zI (fU (fU (fU z 114 p9) 113 0) 115 0) := a2.upd9 (by omega) (by omega) (by omega) (by omega) (by omega) (by omega) (by omega) (by omega) (fun q hq => by omega) (by omega)
    exact a3.upd9 (by omega) (by omega) (by omega) (by omega) (by omega) (by omega) (by omega) (by omega) (fun q hq => by omega) (by omega)
  · intro _
    unfold zBg
    rw [fU_n _ _ (by omega), fU_n _ _ (by omega), fU_n _ _ (by omega), fU_s]
    exact hp
  · unfold zB zBg
    rw [fU_n _ _ (by omega), fU_n _ _ (by omega), fU_n _ _ (by omega), fU_n _ _ (by omega)]
    exact h3
theorem zV_run {z : Nat → Nat} {n : Nat} (h : zV z) (hn : z 178 + n ≤ 999999) : zV (zRun z n) := by
  obtain ⟨h1, h2, h3, h4⟩ := h
  have a := zRun_I h1 h2 n
  have b := zRun_178 h1 h2 n
  exact ⟨a.1, a.2, by unfold zB; omega, zT_run h4 h1 h2 n⟩
theorem aI_rec {S : aS} (h : aI S) (h4 : aN S ≤ 4) : aI (aRec S) := by
  obtain ⟨h1, h2, h3, h5⟩ := h
  refine ⟨h1, fun i hi => ?_, h3, h5⟩
  have hi' : i < rN (aN S) := hi
  show zV (aHr (aN S) (aH S) (aZ S) i)
  unfold aHr
  unfold rN at hi'
  by_cases c : aN S = 4
  · rw [if_pos c] at hi'
    rw [if_pos c]
    by_cases e : i = 3
    · rw [if_pos e]; exact h1
    · rw [if_neg e]; exact h2 _ (by omega)
  · rw [if_neg c] at hi'
    rw [if_neg c]
    by_cases e : i = aN S
    · rw [e, fU_s]; exact h1
    · rw [fU_n _ _ e]; exact h2 _ (by omega)
theorem aI_z {S : aS} {y : Nat → Nat} (h : aI S) (hy : zV y) : aI (aPz S y) := ⟨hy, h.2⟩
