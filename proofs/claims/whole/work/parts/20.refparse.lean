/-! ===== the reference reads a text ===== -/
def pSg (n : Nat) (t : Nat → Nat) (p9 : Nat) : Nat := if p9 < n then t p9 else 0
/-- place and fault (0 or 1) behind a sign that can stand there or not -/
def pTk (q : Nat × Nat) (can : Nat) : Nat × Nat := if q.2 = 0 ∧ ¬ can = 0 then (q.1 + 1, 0) else (q.1, 1)
def pTc (n : Nat) (t : Nat → Nat) (q : Nat × Nat) (ch : Nat) : Nat × Nat := pTk q (if pSg n t q.1 = ch then 1 else 0)
def pR2 (n : Nat) (t : Nat → Nat) (q : Nat × Nat) (c1 c2 : Nat) : Nat × Nat := pTc n t (pTc n t q c1) c2
def pR3 (n : Nat) (t : Nat → Nat) (q : Nat × Nat) (c1 c2 c3 : Nat) : Nat × Nat := if 0 < c3 then pTc n t (pR2 n t q c1 c2) c3 else pR2 n t q c1 c2
def pRs (n : Nat) (t : Nat → Nat) (q : Nat × Nat) (c1 c2 c3 c4 : Nat) : Nat × Nat := if 0 < c4 then pTc n t (pR3 n t q c1 c2 c3) c4 else pR3 n t q c1 c2 c3
def pN1 (n : Nat) (t : Nat → Nat) (q : Nat × Nat) : Nat × Nat := pTc n t q 32
def pN2 (n : Nat) (t : Nat → Nat) (q : Nat × Nat) (most : Nat) : Nat × Nat := pTk (pN1 n t q) (if (48 ≤ pSg n t (pN1 n t q).1 ∧ pSg n t (pN1 n t q).1 ≤ 57) ∧ pSg n t (pN1 n t q).1 - 48 ≤ most then 1 else 0)
def pNa (n : Nat) (t : Nat → Nat) (q : Nat × Nat) : Nat := pSg n t (pN1 n t q).1 - 48
def pNb (n : Nat) (t : Nat → Nat) (q : Nat × Nat) (most : Nat) : Nat := 10 * pNa n t q + pSg n t (pN2 n t q most).1 - 48
/-- whether a second digit follows -/
def pNc (n : Nat) (t : Nat → Nat) (q : Nat × Nat) (most : Nat) : Prop := 0 < pNa n t q ∧ (48 ≤ pSg n t (pN2 n t q most).1 ∧ pSg n t (pN2 n t q most).1 ≤ 57) ∧ pNb n t q most ≤ most
def pNq (n : Nat) (t : Nat → Nat) (q : Nat × Nat) (most : Nat) : Nat × Nat := if (pN2 n t q most).2 = 0 ∧ 0 < pNa n t q ∧ (48 ≤ pSg n t (pN2 n t q most).1 ∧ pSg n t (pN2 n t q most).1 ≤ 57) ∧ pNb n t q most ≤ most then ((pN2 n t q most).1 + 1, 0) else pN2 n t q most
def pNv (n : Nat) (t : Nat → Nat) (q : Nat × Nat) (most : Nat) : Nat := if 0 < pNa n t q ∧ (48 ≤ pSg n t (pN2 n t q most).1 ∧ pSg n t (pN2 n t q most).1 ≤ 57) ∧ pNb n t q most ≤ most then pNb n t q most else pNa n t q
/-- an order from place p on: where it ends, and what it is -/
def pOq (n : Nat) (t : Nat → Nat) (p9 : Nat) : Nat × Nat :=
  if pSg n t p9 = 104 then pRs n t (p9 + 1, 0) 97 108 116 0
  else if pSg n t p9 = 108 then pNq n t (pRs n t (p9 + 1, 0) 111 97 100 0) 99
  else if pSg n t p9 = 97 then pNq n t (pRs n t (p9 + 1, 0) 100 100 0 0) 63
  else if pSg n t p9 = 115 then (if pSg n t (p9 + 1) = 116 then pNq n t (pRs n t (p9 + 1, 0) 116 111 114 101) 63 else pNq n t (pNq n t (pRs n t (p9 + 1, 0) 104 111 119 0) 3) 7)
  else if pSg n t p9 = 106 then pNq n t (pRs n t (p9 + 1, 0) 117 109 112 0) 63
  else if pSg n t p9 = 122 then pNq n t (pRs n t (p9 + 1, 0) 101 114 111 0) 63
  else if pSg n t p9 = 99 then pNq n t (pNq n t (pRs n t (p9 + 1, 0) 97 108 108 0) 7) 9
  else if pSg n t p9 = 98 then pRs n t (p9 + 1, 0) 97 99 107 0
  else if pSg n t p9 = 112 then pNq n t (pRs n t (p9 + 1, 0) 108 117 115 0) 99
  else (p9, 1)
def pOv (n : Nat) (t : Nat → Nat) (p9 : Nat) : Nat :=
  if pSg n t p9 = 104 then 0
  else if pSg n t p9 = 108 then 100 + pNv n t (pRs n t (p9 + 1, 0) 111 97 100 0) 99
  else if pSg n t p9 = 97 then 200 + pNv n t (pRs n t (p9 + 1, 0) 100 100 0 0) 63
  else if pSg n t p9 = 115 then (if pSg n t (p9 + 1) = 116 then 300 + pNv n t (pRs n t (p9 + 1, 0) 116 111 114 101) 63 else 600 + 10 * pNv n t (pRs n t (p9 + 1, 0) 104 111 119 0) 3 + pNv n t (pNq n t (pRs n t (p9 + 1, 0) 104 111 119 0) 3) 7)
  else if pSg n t p9 = 106 then 400 + pNv n t (pRs n t (p9 + 1, 0) 117 109 112 0) 63
  else if pSg n t p9 = 122 then 500 + pNv n t (pRs n t (p9 + 1, 0) 101 114 111 0) 63
  else if pSg n t p9 = 99 then 700 + 10 * pNv n t (pRs n t (p9 + 1, 0) 97 108 108 0) 7 + pNv n t (pNq n t (pRs n t (p9 + 1, 0) 97 108 108 0) 7) 9
  else if pSg n t p9 = 98 then 800
  else 900 + pNv n t (pRs n t (p9 + 1, 0) 108 117 115 0) 99
theorem pSg_lt {n : Nat} {t : Nat → Nat} (ht : ∀ j, j < n → t j < 65536) (p9 : Nat) : pSg n t p9 < 65536 := by
  unfold pSg
  by_cases h : p9 < n
  · rw [if_pos h]; exact ht p9 h
  · rw [if_neg h]; decide
theorem pSg_in {n : Nat} {t : Nat → Nat} {p9 : Nat} (h : ¬ pSg n t p9 = 0) : p9 < n := by
  unfold pSg at h
  by_cases e : p9 < n
  · exact e
  · rw [if_neg e] at h; exact absurd rfl h
theorem pTk_w (q : Nat × Nat) (can : Nat) : (pTk q can).2 < 2 := by
  unfold pTk
  split
  · show 0 < 2
    decide
  · show 1 < 2
    decide
theorem pTk_le {n : Nat} {q : Nat × Nat} {can : Nat} (hq : q.1 ≤ n) (h : ¬ can = 0 → q.1 < n) : (pTk q can).1 ≤ n := by
  unfold pTk
  by_cases e : q.2 = 0 ∧ ¬ can = 0
  · rw [if_pos e]; exact h e.2
  · rw [if_neg e]; exact hq
theorem pTc_le {n : Nat} {t : Nat → Nat} {q : Nat × Nat} {ch : Nat} (hq : q.1 ≤ n) (hc : ¬ ch = 0) : (pTc n t q ch).1 ≤ n := by
  unfold pTc
  refine pTk_le hq (fun h => ?_)
  by_cases e : pSg n t q.1 = ch
  · exact pSg_in (t := t) (by omega)
  · rw [if_neg e] at h; exact absurd rfl h
theorem pTc_w (n : Nat) (t : Nat → Nat) (q : Nat × Nat) (ch : Nat) : (pTc n t q ch).2 < 2 := pTk_w _ _
theorem pR3_le {n : Nat} {t : Nat → Nat} {q : Nat × Nat} {c1 c2 c3 : Nat} (hq : q.1 ≤ n) (h1 : ¬ c1 = 0) (h2 : ¬ c2 = 0) : (pR3 n t q c1 c2 c3).1 ≤ n ∧ (pR3 n t q c1 c2 c3).2 < 2 := by
  have e := pTc_le (t := t) (pTc_le (t := t) hq h1) h2
  unfold pR3 pR2
  by_cases h : 0 < c3
  · rw [if_pos h]; exact ⟨pTc_le e (by omega), pTc_w _ _ _ _⟩
  · rw [if_neg h]; exact ⟨e, pTc_w _ _ _ _⟩
theorem pRs_le {n : Nat} {t : Nat → Nat} {q : Nat × Nat} {c1 c2 c3 c4 : Nat} (hq : q.1 ≤ n) (h1 : ¬ c1 = 0) (h2 : ¬ c2 = 0) : (pRs n t q c1 c2 c3 c4).1 ≤ n ∧ (pRs n t q c1 c2 c3 c4).2 < 2 := by
  have e := pR3_le (t := t) (c3 := c3) hq h1 h2
  unfold pRs
  by_cases h : 0 < c4
  · rw [if_pos h]; exact ⟨pTc_le e.1 (by omega), pTc_w _ _ _ _⟩
  · rw [if_neg h]; exact e
theorem pN2_le {n : Nat} {t : Nat → Nat} {q : Nat × Nat} {most : Nat} (hq : q.1 ≤ n) : (pN2 n t q most).1 ≤ n := by
  unfold pN2
  refine pTk_le (pTc_le hq (by decide)) (fun h => ?_)
  by_cases e : (48 ≤ pSg n t (pN1 n t q).1 ∧ pSg n t (pN1 n t q).1 ≤ 57) ∧ pSg n t (pN1 n t q).1 - 48 ≤ most
  · exact pSg_in (t := t) (by omega)
  · rw [if_neg e] at h; exact absurd rfl h
theorem pNq_le {n : Nat} {t : Nat → Nat} {q : Nat × Nat} {most : Nat} (hq : q.1 ≤ n) : (pNq n t q most).1 ≤ n ∧ (pNq n t q most).2 < 2 := by
  unfold pNq
  by_cases e : (pN2 n t q most).2 = 0 ∧ 0 < pNa n t q ∧ (48 ≤ pSg n t (pN2 n t q most).1 ∧ pSg n t (pN2 n t q most).1 ≤ 57) ∧ pNb n t q most ≤ most
  · rw [if_pos e]
    have := pSg_in (n := n) (t := t) (p9 := (pN2 n t q most).1) (by omega)
    exact ⟨this, by show 0 < 2; decide⟩
  · rw [if_neg e]
    exact ⟨pN2_le hq, pTk_w _ _⟩
def pT (f : Nat → Nat) (q : Nat × Nat) : Nat → Nat := fun j => if j = 8 then q.1 else if j = 9 then q.2 else f j
theorem pT_9 (f : Nat → Nat) (q : Nat × Nat) (w : Nat) : fU (pT f q) 9 w = pT f (q.1, w) := by
  funext j
  unfold fU pT
  by_cases h : j = 9
  · rw [if_pos h, if_neg (by omega), if_pos h]
  · rw [if_neg h]
    by_cases g : j = 8
    · rw [if_pos g, if_pos g]
    · rw [if_neg g, if_neg h, if_neg g, if_neg h]
theorem pT_8 (f : Nat → Nat) (q : Nat × Nat) (p9 : Nat) : fU (pT f q) 8 p9 = pT f (p9, q.2) := by
  funext j
  unfold fU pT
  by_cases g : j = 8
  · rw [if_pos g, if_pos g]
  · rw [if_neg g, if_neg g, if_neg g]
theorem pT_self (f : Nat → Nat) : pT f (f 8, f 9) = f := by
  funext j
  unfold pT
  by_cases g : j = 8
  · rw [if_pos g, g]
  · rw [if_neg g]
    by_cases h : j = 9
    · rw [if_pos h, h]
    · rw [if_neg h]
theorem pT_n {f : Nat → Nat} {q : Nat × Nat} {j : Nat} (h : ¬ j = 8) (h2 : ¬ j = 9) : pT f q j = f j := by
  unfold pT
  rw [if_neg h, if_neg h2]
theorem pT_o {f : Nat → Nat} {q : Nat × Nat} {i x : Nat} (h : ¬ i = 8) (h2 : ¬ i = 9) : fU (pT f q) i x = pT (fU f i x) q := by
  funext j
  unfold fU pT
  dsimp only
  by_cases g : j = i
  · rw [if_pos g, if_neg (by omega), if_neg (by omega), if_pos g]
  · rw [if_neg g]
    by_cases g8 : j = 8
    · rw [if_pos g8, if_pos g8]
    · rw [if_neg g8, if_neg g8]
      by_cases g9 : j = 9
      · rw [if_pos g9, if_pos g9]
      · rw [if_neg g9, if_neg g9, if_neg g]
theorem gIw_sub0 : ∀ s9, s9 < 48 → gIw (nI s9 - nI 48) 0 9 = false := by decide +kernel
theorem gIw_sub {s9 : Nat} (h : s9 < 65536) : gIw (nI s9 - nI 48) 0 9 = true ↔ 48 ≤ s9 ∧ s9 ≤ 57 := by
  by_cases e : 48 ≤ s9
  · rw [pk_sub e, gIw_n (by omega)]
    omega
  · constructor
    · intro g
      rw [gIw_sub0 s9 (by omega)] at g
      cases g
    · intro g
      omega
set_option maxRecDepth 100000 in
set_option maxHeartbeats 4000000 in
/-- sign -/
theorem c_X9_sign (l : Launch) {X : gX} (hI : gInj X) {mem : gM} {f z a o k t r : Nat → Nat} {q : Nat × Nat} (h7 : f 7 ≤ 80) (ht : ∀ j, j < f 7 → t j < 65536) (hq : q.1 ≤ f 7) : gF l yX9_sign cX9_sign 1 (some .int) 0 0 X [.ref (gAd X 8 0)] (gM8 mem (pT f q) z a o k t r) (some (.int (nI (pSg (f 7) t q.1)))) (gM8 mem (pT f q) z a o k t r) := by
  refine gMt.of (own := RX9) (by decide) rfl hI (by simp [Value.category]) (Nat.le_of_ble_eq_true rfl) ?_
  intro p e s m args below meth c ls H locs C hnm hl hR hS
  refine g_aload_n C hl dX9_sign_0 rfl ?_
  refine rt_8 C hR fl_X9_108 dX9_sign_1 ?_
  rw [show pT f q 8 = q.1 from rfl]
  refine g_aload_n C hl dX9_sign_4 rfl ?_
  refine rt_7 C hR fl_X9_105 dX9_sign_5 ?_
  rw [show pT f q 7 = f 7 from rfl]
  refine g_icmp_ge (tgt := 23) C dX9_sign_8 (by decide) (by omega) (by omega) (fun c8 => ?_) (fun c8 => ?_)
  · -- 8 T
    refine g_iconst 0 C dX9_sign_23 (by decide) ?_
    refine g_iret C hR hS dX9_sign_24 ?_
    refine ⟨?_, rfl⟩
    unfold pSg
    first | rw [if_pos (by omega)] | rw [if_neg (by omega)]
  · -- 8 F
    refine g_aload_n C hl dX9_sign_11 rfl ?_
    refine gt_X9_6 C hR fl_X9_22 dX9_sign_12 ?_
    refine g_aload_n C hl dX9_sign_15 rfl ?_
    refine rt_8 C hR fl_X9_108 dX9_sign_16 ?_
    rw [show pT f q 8 = q.1 from rfl]
    refine r_ald5 C hR (by omega) dX9_sign_19 ?_
    refine g_goto (tgt := 24) C dX9_sign_20 (by decide) ?_
    refine g_iret C hR hS dX9_sign_24 ?_
    refine ⟨?_, rfl⟩
    unfold pSg
    first | rw [if_pos (by omega)] | rw [if_neg (by omega)]
set_option maxRecDepth 100000 in
set_option maxHeartbeats 4000000 in
/-- take -/
theorem c_X9_take (l : Launch) {X : gX} (hI : gInj X) {mem : gM} {f z a o k t r : Nat → Nat} {q : Nat × Nat} {can : Nat} (hq : q.1 ≤ 80) (hw9 : q.2 < 2) (hc : can < 2) : gF l yX9_take cX9_take 2 none 0 0 X [.ref (gAd X 8 0), .int (nI can)] (gM8 mem (pT f q) z a o k t r) none (gM8 mem (pT f (pTk q can)) z a o k t r) := by
  refine gMt.of (own := RX9) (by decide) rfl hI (by simp [Value.category]) (Nat.le_of_ble_eq_true rfl) ?_
  intro p e s m args below meth c ls H locs C hnm hl hR hS
  refine g_aload_n C hl dX9_take_0 rfl ?_
  refine g_aload_n C hl dX9_take_1 rfl ?_
  refine rt_9 C hR fl_X9_111 dX9_take_2 ?_
  rw [show pT f q 9 = q.2 from rfl]
  refine g_if_ne (tgt := 12) C dX9_take_5 (by decide) (by omega) (fun c5 => ?_) (fun c5 => ?_)
  · -- 5 T
    refine g_iconst 1 C dX9_take_12 (by decide) ?_
    refine g_goto (tgt := 17) C dX9_take_13 (by decide) ?_
    refine rp_9 C hR hS (by decide) fl_X9_111 dX9_take_17 (fun H locs hR hS => ?_)
    rw [pT_9] at hR
    refine g_aload_n C hl dX9_take_20 rfl ?_
    refine g_dup C dX9_take_21 rfl ?_
    refine rt_8 C hR fl_X9_108 dX9_take_22 ?_
    rw [show pT f (q.1, 1) 8 = q.1 from rfl]
    refine g_aload_n C hl dX9_take_25 rfl ?_
    refine rt_9 C hR fl_X9_111 dX9_take_26 ?_
    rw [show pT f (q.1, 1) 9 = 1 from rfl]
    refine g_if_eq (tgt := 36) C dX9_take_29 (by decide) (by omega) (fun z9 => absurd z9 (by omega)) (fun c29 => ?_)
    refine g_iconst 0 C dX9_take_32 (by decide) ?_
    refine g_goto (tgt := 37) C dX9_take_33 (by decide) ?_
    refine g_iadd C dX9_take_37 ?_
    refine rp_8 C hR hS fl_X9_108 dX9_take_38 (fun H locs hR hS => ?_)
    rw [pT_8] at hR
    refine g_vret C hR hS dX9_take_41 ?_
    refine ⟨rfl, ?_⟩
    unfold pTk
    first | (rw [if_pos (by omega)]; done) | (rw [if_neg (by omega)]; rfl)
  · -- 5 F
    refine g_iload_n C hl dX9_take_8 rfl ?_
    refine g_if_ne (tgt := 16) C dX9_take_9 (by decide) (by omega) (fun c9 => ?_) (fun c9 => ?_)
    · -- 9 T
      refine g_iconst 0 C dX9_take_16 (by decide) ?_
      refine rp_9 C hR hS (by decide) fl_X9_111 dX9_take_17 (fun H locs hR hS => ?_)
      rw [pT_9] at hR
      refine g_aload_n C hl dX9_take_20 rfl ?_
      refine g_dup C dX9_take_21 rfl ?_
      refine rt_8 C hR fl_X9_108 dX9_take_22 ?_
      rw [show pT f (q.1, 0) 8 = q.1 from rfl]
      refine g_aload_n C hl dX9_take_25 rfl ?_
      refine rt_9 C hR fl_X9_111 dX9_take_26 ?_
      rw [show pT f (q.1, 0) 9 = 0 from rfl]
      refine g_if_eq (tgt := 36) C dX9_take_29 (by decide) (by omega) (fun c29 => ?_) (fun z9 => absurd z9 (by omega))
      refine g_iconst 1 C dX9_take_36 (by decide) ?_
      refine g_iadd C dX9_take_37 ?_
      refine rp_8 C hR hS fl_X9_108 dX9_take_38 (fun H locs hR hS => ?_)
      rw [pT_8] at hR
      refine g_vret C hR hS dX9_take_41 ?_
      refine ⟨rfl, ?_⟩
      unfold pTk
      first | (rw [if_pos (by omega)]; done) | (rw [if_neg (by omega)]; rfl)
    · -- 9 F
      refine g_iconst 1 C dX9_take_12 (by decide) ?_
      refine g_goto (tgt := 17) C dX9_take_13 (by decide) ?_
      refine rp_9 C hR hS (by decide) fl_X9_111 dX9_take_17 (fun H locs hR hS => ?_)
      rw [pT_9] at hR
      refine g_aload_n C hl dX9_take_20 rfl ?_
      refine g_dup C dX9_take_21 rfl ?_
      refine rt_8 C hR fl_X9_108 dX9_take_22 ?_
      rw [show pT f (q.1, 1) 8 = q.1 from rfl]
      refine g_aload_n C hl dX9_take_25 rfl ?_
      refine rt_9 C hR fl_X9_111 dX9_take_26 ?_
      rw [show pT f (q.1, 1) 9 = 1 from rfl]
      refine g_if_eq (tgt := 36) C dX9_take_29 (by decide) (by omega) (fun z9 => absurd z9 (by omega)) (fun c29 => ?_)
      refine g_iconst 0 C dX9_take_32 (by decide) ?_
      refine g_goto (tgt := 37) C dX9_take_33 (by decide) ?_
      refine g_iadd C dX9_take_37 ?_
      refine rp_8 C hR hS fl_X9_108 dX9_take_38 (fun H locs hR hS => ?_)
      rw [pT_8] at hR
      refine g_vret C hR hS dX9_take_41 ?_
      refine ⟨rfl, ?_⟩
      unfold pTk
      first | (rw [if_pos (by omega)]; done) | (rw [if_neg (by omega)]; rfl)
set_option maxRecDepth 100000 in
set_option maxHeartbeats 4000000 in
/-- takeRest -/
theorem c_X9_takeRest (l : Launch) {X : gX} (hI : gInj X) {mem : gM} {f z a o k t r : Nat → Nat} {q : Nat × Nat} {c1 c2 c3 c4 : Nat} (h7 : f 7 ≤ 80) (ht : ∀ j, j < f 7 → t j < 65536) (hq : q.1 ≤ f 7) (hw9 : q.2 < 2) (h1 : ¬ c1 = 0) (h2 : ¬ c2 = 0) (l1 : c1 < 65536) (l2 : c2 < 65536) (l3 : c3 < 65536) (l4 : c4 < 65536) : gF l yX9_takeRest cX9_takeRest 5 none 1 21 X [.ref (gAd X 8 0), .int (nI c1), .int (nI c2), .int (nI c3), .int (nI c4)] (gM8 mem (pT f q) z a o k t r) none (gM8 mem (pT f (pRs (f 7) t q c1 c2 c3 c4)) z a o k t r) := by
  refine gMt.of (own := RX9) (by decide) rfl hI (by simp [Value.category]) (Nat.le_of_ble_eq_true rfl) ?_
  intro p e s m args below meth c ls H locs C hnm hl hR hS
  have b0 := pSg_lt ht q.1
  have b1 := pTc_le (t := t) hq h1
  have w1 := pTc_w (f 7) t q c1
  have b2 : (pR2 (f 7) t q c1 c2).1 ≤ f 7 := pTc_le (t := t) b1 h2
  have w2 : (pR2 (f 7) t q c1 c2).2 < 2 := pTc_w _ _ _ _
  have b3 := pR3_le (t := t) (c3 := c3) hq h1 h2
  have s1 := pSg_lt ht (pTc (f 7) t q c1).1
  have s2 := pSg_lt ht (pR2 (f 7) t q c1 c2).1
  have s3 := pSg_lt ht (pR3 (f 7) t q c1 c2 c3).1
  refine g_aload_n C hl dX9_takeRest_0 rfl ?_
  refine g_aload_n C hl dX9_takeRest_1 rfl ?_
  refine g_callVi C hl.1 hR hS rc_X9 md_X9_sign ml_X9_114 (c_X9_sign l hI h7 ht hq) rfl rfl ⟨Nat.le_of_ble_eq_true rfl, Nat.le_of_ble_eq_true rfl⟩ ⟨Nat.le_refl _, Nat.le_refl _⟩ (Nat.le_of_ble_eq_true rfl) dX9_takeRest_2 (fun H locs hR hS => ?_)
  refine g_iload_n C hl dX9_takeRest_5 rfl ?_
  refine g_icmp_ne (tgt := 13) C dX9_takeRest_6 (by decide) (by omega) (by omega) (fun c6 => ?_) (fun c6 => ?_)
  · -- 6 T
    refine g_iconst 0 C dX9_takeRest_13 (by decide) ?_
    refine g_callVv C hl.1 hR hS rc_X9 md_X9_take ml_X9_117 (c_X9_take l hI (by omega) hw9 (by decide)) rfl rfl ⟨Nat.le_of_ble_eq_true rfl, Nat.le_of_ble_eq_true rfl⟩ ⟨Nat.le_refl _, Nat.le_refl _⟩ (Nat.le_of_ble_eq_true rfl) dX9_takeRest_14 (fun H locs hR hS => ?_)
    have hR : gRep X (gM8 mem (pT f (pTc (f 7) t q c1)) z a o k t r) H := by unfold pTc; (first | rw [if_pos c6] | rw [if_neg c6]); exact hR
    refine g_aload_n C hl dX9_takeRest_17 rfl ?_
    refine g_aload_n C hl dX9_takeRest_18 rfl ?_
    refine g_callVi C hl.1 hR hS rc_X9 md_X9_sign ml_X9_114 (c_X9_sign l hI h7 ht b1) rfl rfl ⟨Nat.le_of_ble_eq_true rfl, Nat.le_of_ble_eq_true rfl⟩ ⟨Nat.le_refl _, Nat.le_refl _⟩ (Nat.le_of_ble_eq_true rfl) dX9_takeRest_19 (fun H locs hR hS => ?_)
    refine g_iload_n C hl dX9_takeRest_22 rfl ?_
    refine g_icmp_ne (tgt := 30) C dX9_takeRest_23 (by decide) (by omega) (by omega) (fun c23 => ?_) (fun c23 => ?_)
    · -- 23 T
      refine g_iconst 0 C dX9_takeRest_30 (by decide) ?_
      refine g_callVv C hl.1 hR hS rc_X9 md_X9_take ml_X9_117 (c_X9_take l hI (by omega) w1 (by decide)) rfl rfl ⟨Nat.le_of_ble_eq_true rfl, Nat.le_of_ble_eq_true rfl⟩ ⟨Nat.le_refl _, Nat.le_refl _⟩ (Nat.le_of_ble_eq_true rfl) dX9_takeRest_31 (fun H locs hR hS => ?_)
      have hR : gRep X (gM8 mem (pT f (pR2 (f 7) t q c1 c2)) z a o k t r) H := by unfold pR2; rw [show pTc (f 7) t (pTc (f 7) t q c1) c2 = pTk (pTc (f 7) t q c1) (if pSg (f 7) t (pTc (f 7) t q c1).1 = c2 then 1 else 0) from rfl]; (first | rw [if_pos c23] | rw [if_neg c23]); exact hR
      refine g_iload_n C hl dX9_takeRest_34 rfl ?_
      refine g_if_le (tgt := 55) C dX9_takeRest_35 (by decide) (by omega) (fun c35 => ?_) (fun c35 => ?_)
      · -- 35 T
        have hR : gRep X (gM8 mem (pT f (pR3 (f 7) t q c1 c2 c3)) z a o k t r) H := by unfold pR3; rw [if_neg (by omega)]; exact hR
        refine g_iload C hl dX9_takeRest_55 rfl ?_
        refine g_if_le (tgt := 78) C dX9_takeRest_57 (by decide) (by omega) (fun c57 => ?_) (fun c57 => ?_)
        · -- 57 T
          refine g_vret C hR hS dX9_takeRest_78 ?_
          refine ⟨rfl, ?_⟩
          unfold pRs
          rw [if_neg (by omega)]
        · -- 57 F
          refine g_aload_n C hl dX9_takeRest_60 rfl ?_
          refine g_aload_n C hl dX9_takeRest_61 rfl ?_
          refine g_callVi C hl.1 hR hS rc_X9 md_X9_sign ml_X9_114 (c_X9_sign l hI h7 ht b3.1) rfl rfl ⟨Nat.le_of_ble_eq_true rfl, Nat.le_of_ble_eq_true rfl⟩ ⟨Nat.le_refl _, Nat.le_refl _⟩ (Nat.le_of_ble_eq_true rfl) dX9_takeRest_62 (fun H locs hR hS => ?_)
          refine g_iload C hl dX9_takeRest_65 rfl ?_
          refine g_icmp_ne (tgt := 74) C dX9_takeRest_67 (by decide) (by omega) (by omega) (fun c67 => ?_) (fun c67 => ?_)
          · -- 67 T
            refine g_iconst 0 C dX9_takeRest_74 (by decide) ?_
            refine g_callVv C hl.1 hR hS rc_X9 md_X9_take ml_X9_117 (c_X9_take l hI (by have := b3.1; omega) b3.2 (by decide)) rfl rfl ⟨Nat.le_of_ble_eq_true rfl, Nat.le_of_ble_eq_true rfl⟩ ⟨Nat.le_refl _, Nat.le_refl _⟩ (Nat.le_of_ble_eq_true rfl) dX9_takeRest_75 (fun H locs hR hS => ?_)
            refine g_vret C hR hS dX9_takeRest_78 ?_
            refine ⟨rfl, ?_⟩
            unfold pRs
            rw [if_pos c57]
            rw [show pTc (f 7) t (pR3 (f 7) t q c1 c2 c3) c4 = pTk (pR3 (f 7) t q c1 c2 c3) (if pSg (f 7) t (pR3 (f 7) t q c1 c2 c3).1 = c4 then 1 else 0) from rfl]
            first | rw [if_pos c67] | rw [if_neg c67]
          · -- 67 F
            refine g_iconst 1 C dX9_takeRest_70 (by decide) ?_
            refine g_goto (tgt := 75) C dX9_takeRest_71 (by decide) ?_
            refine g_callVv C hl.1 hR hS rc_X9 md_X9_take ml_X9_117 (c_X9_take l hI (by have := b3.1; omega) b3.2 (by decide)) rfl rfl ⟨Nat.le_of_ble_eq_true rfl, Nat.le_of_ble_eq_true rfl⟩ ⟨Nat.le_refl _, Nat.le_refl _⟩ (Nat.le_of_ble_eq_true rfl) dX9_takeRest_75 (fun H locs hR hS => ?_)
            refine g_vret C hR hS dX9_takeRest_78 ?_
            refine ⟨rfl, ?_⟩
            unfold pRs
            rw [if_pos c57]
            rw [show pTc (f 7) t (pR3 (f 7) t q c1 c2 c3) c4 = pTk (pR3 (f 7) t q c1 c2 c3) (if pSg (f 7) t (pR3 (f 7) t q c1 c2 c3).1 = c4 then 1 else 0) from rfl]
            first | rw [if_pos c67] | rw [if_neg c67]
      · -- 35 F
        refine g_aload_n C hl dX9_takeRest_38 rfl ?_
        refine g_aload_n C hl dX9_takeRest_39 rfl ?_
        refine g_callVi C hl.1 hR hS rc_X9 md_X9_sign ml_X9_114 (c_X9_sign l hI h7 ht b2) rfl rfl ⟨Nat.le_of_ble_eq_true rfl, Nat.le_of_ble_eq_true rfl⟩ ⟨Nat.le_refl _, Nat.le_refl _⟩ (Nat.le_of_ble_eq_true rfl) dX9_takeRest_40 (fun H locs hR hS => ?_)
        refine g_iload_n C hl dX9_takeRest_43 rfl ?_
        refine g_icmp_ne (tgt := 51) C dX9_takeRest_44 (by decide) (by omega) (by omega) (fun c44 => ?_) (fun c44 => ?_)
        · -- 44 T
          refine g_iconst 0 C dX9_takeRest_51 (by decide) ?_
          refine g_callVv C hl.1 hR hS rc_X9 md_X9_take ml_X9_117 (c_X9_take l hI (by omega) w2 (by decide)) rfl rfl ⟨Nat.le_of_ble_eq_true rfl, Nat.le_of_ble_eq_true rfl⟩ ⟨Nat.le_refl _, Nat.le_refl _⟩ (Nat.le_of_ble_eq_true rfl) dX9_takeRest_52 (fun H locs hR hS => ?_)
          have hR : gRep X (gM8 mem (pT f (pR3 (f 7) t q c1 c2 c3)) z a o k t r) H := by unfold pR3; rw [if_pos c35]; unfold pTc; (first | rw [if_pos c44] | rw [if_neg c44]); exact hR
          refine g_iload C hl dX9_takeRest_55 rfl ?_
          refine g_if_le (tgt := 78) C dX9_takeRest_57 (by decide) (by omega) (fun c57 => ?_) (fun c57 => ?_)
          · -- 57 T
            refine g_vret C hR hS dX9_takeRest_78 ?_
            refine ⟨rfl, ?_⟩
            unfold pRs
            rw [if_neg (by omega)]
          · -- 57 F
            refine g_aload_n C hl dX9_takeRest_60 rfl ?_
            refine g_aload_n C hl dX9_takeRest_61 rfl ?_
            refine g_callVi C hl.1 hR hS rc_X9 md_X9_sign ml_X9_114 (c_X9_sign l hI h7 ht b3.1) rfl rfl ⟨Nat.le_of_ble_eq_true rfl, Nat.le_of_ble_eq_true rfl⟩ ⟨Nat.le_refl _, Nat.le_refl _⟩ (Nat.le_of_ble_eq_true rfl) dX9_takeRest_62 (fun H locs hR hS => ?_)
            refine g_iload C hl dX9_takeRest_65 rfl ?_
            refine g_icmp_ne (tgt := 74) C dX9_takeRest_67 (by decide) (by omega) (by omega) (fun c67 => ?_) (fun c67 => ?_)
            · -- 67 T
              refine g_iconst 0 C dX9_takeRest_74 (by decide) ?_
              refine g_callVv C hl.1 hR hS rc_X9 md_X9_take ml_X9_117 (c_X9_take l hI (by have := b3.1; omega) b3.2 (by decide)) rfl rfl ⟨Nat.le_of_ble_eq_true rfl, Nat.le_of_ble_eq_true rfl⟩ ⟨Nat.le_refl _, Nat.le_refl _⟩ (Nat.le_of_ble_eq_true rfl) dX9_takeRest_75 (fun H locs hR hS => ?_)
              refine g_vret C hR hS dX9_takeRest_78 ?_
              refine ⟨rfl, ?_⟩
              unfold pRs
              rw [if_pos c57]
              rw [show pTc (f 7) t (pR3 (f 7) t q c1 c2 c3) c4 = pTk (pR3 (f 7) t q c1 c2 c3) (if pSg (f 7) t (pR3 (f 7) t q c1 c2 c3).1 = c4 then 1 else 0) from rfl]
              first | rw [if_pos c67] | rw [if_neg c67]
            · -- 67 F
              refine g_iconst 1 C dX9_takeRest_70 (by decide) ?_
              refine g_goto (tgt := 75) C dX9_takeRest_71 (by decide) ?_
              refine g_callVv C hl.1 hR hS rc_X9 md_X9_take ml_X9_117 (c_X9_take l hI (by have := b3.1; omega) b3.2 (by decide)) rfl rfl ⟨Nat.le_of_ble_eq_true rfl, Nat.le_of_ble_eq_true rfl⟩ ⟨Nat.le_refl _, Nat.le_refl _⟩ (Nat.le_of_ble_eq_true rfl) dX9_takeRest_75 (fun H locs hR hS => ?_)
              refine g_vret C hR hS dX9_takeRest_78 ?_
              refine ⟨rfl, ?_⟩
              unfold pRs
              rw [if_pos c57]
              rw [show pTc (f 7) t (pR3 (f 7) t q c1 c2 c3) c4 = pTk (pR3 (f 7) t q c1 c2 c3) (if pSg (f 7) t (pR3 (f 7) t q c1 c2 c3).1 = c4 then 1 else 0) from rfl]
              first | rw [if_pos c67] | rw [if_neg c67]
        · -- 44 F
          refine g_iconst 1 C dX9_takeRest_47 (by decide) ?_
          refine g_goto (tgt := 52) C dX9_takeRest_48 (by decide) ?_
          refine g_callVv C hl.1 hR hS rc_X9 md_X9_take ml_X9_117 (c_X9_take l hI (by omega) w2 (by decide)) rfl rfl ⟨Nat.le_of_ble_eq_true rfl, Nat.le_of_ble_eq_true rfl⟩ ⟨Nat.le_refl _, Nat.le_refl _⟩ (Nat.le_of_ble_eq_true rfl) dX9_takeRest_52 (fun H locs hR hS => ?_)
          have hR : gRep X (gM8 mem (pT f (pR3 (f 7) t q c1 c2 c3)) z a o k t r) H := by unfold pR3; rw [if_pos c35]; unfold pTc; (first | rw [if_pos c44] | rw [if_neg c44]); exact hR
          refine g_iload C hl dX9_takeRest_55 rfl ?_
          refine g_if_le (tgt := 78) C dX9_takeRest_57 (by decide) (by omega) (fun c57 => ?_) (fun c57 => ?_)
          · -- 57 T
            refine g_vret C hR hS dX9_takeRest_78 ?_
            refine ⟨rfl, ?_⟩
            unfold pRs
            rw [if_neg (by omega)]
          · -- 57 F
            refine g_aload_n C hl dX9_takeRest_60 rfl ?_
            refine g_aload_n C hl dX9_takeRest_61 rfl ?_
            refine g_callVi C hl.1 hR hS rc_X9 md_X9_sign ml_X9_114 (c_X9_sign l hI h7 ht b3.1) rfl rfl ⟨Nat.le_of_ble_eq_true rfl, Nat.le_of_ble_eq_true rfl⟩ ⟨Nat.le_refl _, Nat.le_refl _⟩ (Nat.le_of_ble_eq_true rfl) dX9_takeRest_62 (fun H locs hR hS => ?_)
            refine g_iload C hl dX9_takeRest_65 rfl ?_
            refine g_icmp_ne (tgt := 74) C dX9_takeRest_67 (by decide) (by omega) (by omega) (fun c67 => ?_) (fun c67 => ?_)
            · -- 67 T
              refine g_iconst 0 C dX9_takeRest_74 (by decide) ?_
              refine g_callVv C hl.1 hR hS rc_X9 md_X9_take ml_X9_117 (c_X9_take l hI (by have := b3.1; omega) b3.2 (by decide)) rfl rfl ⟨Nat.le_of_ble_eq_true rfl, Nat.le_of_ble_eq_true rfl⟩ ⟨Nat.le_refl _, Nat.le_refl _⟩ (Nat.le_of_ble_eq_true rfl) dX9_takeRest_75 (fun H locs hR hS => ?_)
              refine g_vret C hR hS dX9_takeRest_78 ?_
              refine ⟨rfl, ?_⟩
              unfold pRs
              rw [if_pos c57]
              rw [show pTc (f 7) t (pR3 (f 7) t q c1 c2 c3) c4 = pTk (pR3 (f 7) t q c1 c2 c3) (if pSg (f 7) t (pR3 (f 7) t q c1 c2 c3).1 = c4 then 1 else 0) from rfl]
              first | rw [if_pos c67] | rw [if_neg c67]
            · -- 67 F
              refine g_iconst 1 C dX9_takeRest_70 (by decide) ?_
              refine g_goto (tgt := 75) C dX9_takeRest_71 (by decide) ?_
              refine g_callVv C hl.1 hR hS rc_X9 md_X9_take ml_X9_117 (c_X9_take l hI (by have := b3.1; omega) b3.2 (by decide)) rfl rfl ⟨Nat.le_of_ble_eq_true rfl, Nat.le_of_ble_eq_true rfl⟩ ⟨Nat.le_refl _, Nat.le_refl _⟩ (Nat.le_of_ble_eq_true rfl) dX9_takeRest_75 (fun H locs hR hS => ?_)
              refine g_vret C hR hS dX9_takeRest_78 ?_
              refine ⟨rfl, ?_⟩
              unfold pRs
              rw [if_pos c57]
              rw [show pTc (f 7) t (pR3 (f 7) t q c1 c2 c3) c4 = pTk (pR3 (f 7) t q c1 c2 c3) (if pSg (f 7) t (pR3 (f 7) t q c1 c2 c3).1 = c4 then 1 else 0) from rfl]
              first | rw [if_pos c67] | rw [if_neg c67]
    · -- 23 F
      refine g_iconst 1 C dX9_takeRest_26 (by decide) ?_
      refine g_goto (tgt := 31) C dX9_takeRest_27 (by decide) ?_
      refine g_callVv C hl.1 hR hS rc_X9 md_X9_take ml_X9_117 (c_X9_take l hI (by omega) w1 (by decide)) rfl rfl ⟨Nat.le_of_ble_eq_true rfl, Nat.le_of_ble_eq_true rfl⟩ ⟨Nat.le_refl _, Nat.le_refl _⟩ (Nat.le_of_ble_eq_true rfl) dX9_takeRest_31 (fun H locs hR hS => ?_)
      have hR : gRep X (gM8 mem (pT f (pR2 (f 7) t q c1 c2)) z a o k t r) H := by unfold pR2; rw [show pTc (f 7) t (pTc (f 7) t q c1) c2 = pTk (pTc (f 7) t q c1) (if pSg (f 7) t (pTc (f 7) t q c1).1 = c2 then 1 else 0) from rfl]; (first | rw [if_pos c23] | rw [if_neg c23]); exact hR
      refine g_iload_n C hl dX9_takeRest_34 rfl ?_
      refine g_if_le (tgt := 55) C dX9_takeRest_35 (by decide) (by omega) (fun c35 => ?_) (fun c35 => ?_)
      · -- 35 T
        have hR : gRep X (gM8 mem (pT f (pR3 (f 7) t q c1 c2 c3)) z a o k t r) H := by unfold pR3; rw [if_neg (by omega)]; exact hR
        refine g_iload C hl dX9_takeRest_55 rfl ?_
        refine g_if_le (tgt := 78) C dX9_takeRest_57 (by decide) (by omega) (fun c57 => ?_) (fun c57 => ?_)
        · -- 57 T
          refine g_vret C hR hS dX9_takeRest_78 ?_
          refine ⟨rfl, ?_⟩
          unfold pRs
          rw [if_neg (by omega)]
        · -- 57 F
          refine g_aload_n C hl dX9_takeRest_60 rfl ?_
          refine g_aload_n C hl dX9_takeRest_61 rfl ?_
          refine g_callVi C hl.1 hR hS rc_X9 md_X9_sign ml_X9_114 (c_X9_sign l hI h7 ht b3.1) rfl rfl ⟨Nat.le_of_ble_eq_true rfl, Nat.le_of_ble_eq_true rfl⟩ ⟨Nat.le_refl _, Nat.le_refl _⟩ (Nat.le_of_ble_eq_true rfl) dX9_takeRest_62 (fun H locs hR hS => ?_)
          refine g_iload C hl dX9_takeRest_65 rfl ?_
          refine g_icmp_ne (tgt := 74) C dX9_takeRest_67 (by decide) (by omega) (by omega) (fun c67 => ?_) (fun c67 => ?_)
          · -- 67 T
            refine g_iconst 0 C dX9_takeRest_74 (by decide) ?_
            refine g_callVv C hl.1 hR hS rc_X9 md_X9_take ml_X9_117 (c_X9_take l hI (by have := b3.1; omega) b3.2 (by decide)) rfl rfl ⟨Nat.le_of_ble_eq_true rfl, Nat.le_of_ble_eq_true rfl⟩ ⟨Nat.le_refl _, Nat.le_refl _⟩ (Nat.le_of_ble_eq_true rfl) dX9_takeRest_75 (fun H locs hR hS => ?_)
            refine g_vret C hR hS dX9_takeRest_78 ?_
            refine ⟨rfl, ?_⟩
            unfold pRs
            rw [if_pos c57]
            rw [show pTc (f 7) t (pR3 (f 7) t q c1 c2 c3) c4 = pTk (pR3 (f 7) t q c1 c2 c3) (if pSg (f 7) t (pR3 (f 7) t q c1 c2 c3).1 = c4 then 1 else 0) from rfl]
            first | rw [if_pos c67] | rw [if_neg c67]
          · -- 67 F
            refine g_iconst 1 C dX9_takeRest_70 (by decide) ?_
            refine g_goto (tgt := 75) C dX9_takeRest_71 (by decide) ?_
            refine g_callVv C hl.1 hR hS rc_X9 md_X9_take ml_X9_117 (c_X9_take l hI (by have := b3.1; omega) b3.2 (by decide)) rfl rfl ⟨Nat.le_of_ble_eq_true rfl, Nat.le_of_ble_eq_true rfl⟩ ⟨Nat.le_refl _, Nat.le_refl _⟩ (Nat.le_of_ble_eq_true rfl) dX9_takeRest_75 (fun H locs hR hS => ?_)
            refine g_vret C hR hS dX9_takeRest_78 ?_
            refine ⟨rfl, ?_⟩
            unfold pRs
            rw [if_pos c57]
            rw [show pTc (f 7) t (pR3 (f 7) t q c1 c2 c3) c4 = pTk (pR3 (f 7) t q c1 c2 c3) (if pSg (f 7) t (pR3 (f 7) t q c1 c2 c3).1 = c4 then 1 else 0) from rfl]
            first | rw [if_pos c67] | rw [if_neg c67]
      · -- 35 F
        refine g_aload_n C hl dX9_takeRest_38 rfl ?_
        refine g_aload_n C hl dX9_takeRest_39 rfl ?_
        refine g_callVi C hl.1 hR hS rc_X9 md_X9_sign ml_X9_114 (c_X9_sign l hI h7 ht b2) rfl rfl ⟨Nat.le_of_ble_eq_true rfl, Nat.le_of_ble_eq_true rfl⟩ ⟨Nat.le_refl _, Nat.le_refl _⟩ (Nat.le_of_ble_eq_true rfl) dX9_takeRest_40 (fun H locs hR hS => ?_)
        refine g_iload_n C hl dX9_takeRest_43 rfl ?_
        refine g_icmp_ne (tgt := 51) C dX9_takeRest_44 (by decide) (by omega) (by omega) (fun c44 => ?_) (fun c44 => ?_)
        · -- 44 T
          refine g_iconst 0 C dX9_takeRest_51 (by decide) ?_
          refine g_callVv C hl.1 hR hS rc_X9 md_X9_take ml_X9_117 (c_X9_take l hI (by omega) w2 (by decide)) rfl rfl ⟨Nat.le_of_ble_eq_true rfl, Nat.le_of_ble_eq_true rfl⟩ ⟨Nat.le_refl _, Nat.le_refl _⟩ (Nat.le_of_ble_eq_true rfl) dX9_takeRest_52 (fun H locs hR hS => ?_)
          have hR : gRep X (gM8 mem (pT f (pR3 (f 7) t q c1 c2 c3)) z a o k t r) H := by unfold pR3; rw [if_pos c35]; unfold pTc; (first | rw [if_pos c44] | rw [if_neg c44]); exact hR
          refine g_iload C hl dX9_takeRest_55 rfl ?_
          refine g_if_le (tgt := 78) C dX9_takeRest_57 (by decide) (by omega) (fun c57 => ?_) (fun c57 => ?_)
          · -- 57 T
            refine g_vret C hR hS dX9_takeRest_78 ?_
            refine ⟨rfl, ?_⟩
            unfold pRs
            rw [if_neg (by omega)]
          · -- 57 F
            refine g_aload_n C hl dX9_takeRest_60 rfl ?_
            refine g_aload_n C hl dX9_takeRest_61 rfl ?_
            refine g_callVi C hl.1 hR hS rc_X9 md_X9_sign ml_X9_114 (c_X9_sign l hI h7 ht b3.1) rfl rfl ⟨Nat.le_of_ble_eq_true rfl, Nat.le_of_ble_eq_true rfl⟩ ⟨Nat.le_refl _, Nat.le_refl _⟩ (Nat.le_of_ble_eq_true rfl) dX9_takeRest_62 (fun H locs hR hS => ?_)
            refine g_iload C hl dX9_takeRest_65 rfl ?_
            refine g_icmp_ne (tgt := 74) C dX9_takeRest_67 (by decide) (by omega) (by omega) (fun c67 => ?_) (fun c67 => ?_)
            · -- 67 T
              refine g_iconst 0 C dX9_takeRest_74 (by decide) ?_
              refine g_callVv C hl.1 hR hS rc_X9 md_X9_take ml_X9_117 (c_X9_take l hI (by have := b3.1; omega) b3.2 (by decide)) rfl rfl ⟨Nat.le_of_ble_eq_true rfl, Nat.le_of_ble_eq_true rfl⟩ ⟨Nat.le_refl _, Nat.le_refl _⟩ (Nat.le_of_ble_eq_true rfl) dX9_takeRest_75 (fun H locs hR hS => ?_)
              refine g_vret C hR hS dX9_takeRest_78 ?_
              refine ⟨rfl, ?_⟩
              unfold pRs
              rw [if_pos c57]
              rw [show pTc (f 7) t (pR3 (f 7) t q c1 c2 c3) c4 = pTk (pR3 (f 7) t q c1 c2 c3) (if pSg (f 7) t (pR3 (f 7) t q c1 c2 c3).1 = c4 then 1 else 0) from rfl]
              first | rw [if_pos c67] | rw [if_neg c67]
            · -- 67 F
              refine g_iconst 1 C dX9_takeRest_70 (by decide) ?_
              refine g_goto (tgt := 75) C dX9_takeRest_71 (by decide) ?_
              refine g_callVv C hl.1 hR hS rc_X9 md_X9_take ml_X9_117 (c_X9_take l hI (by have := b3.1; omega) b3.2 (by decide)) rfl rfl ⟨Nat.le_of_ble_eq_true rfl, Nat.le_of_ble_eq_true rfl⟩ ⟨Nat.le_refl _, Nat.le_refl _⟩ (Nat.le_of_ble_eq_true rfl) dX9_takeRest_75 (fun H locs hR hS => ?_)
              refine g_vret C hR hS dX9_takeRest_78 ?_
              refine ⟨rfl, ?_⟩
              unfold pRs
              rw [if_pos c57]
              rw [show pTc (f 7) t (pR3 (f 7) t q c1 c2 c3) c4 = pTk (pR3 (f 7) t q c1 c2 c3) (if pSg (f 7) t (pR3 (f 7) t q c1 c2 c3).1 = c4 then 1 else 0) from rfl]
              first | rw [if_pos c67] | rw [if_neg c67]
        · -- 44 F
          refine g_iconst 1 C dX9_takeRest_47 (by decide) ?_
          refine g_goto (tgt := 52) C dX9_takeRest_48 (by decide) ?_
          refine g_callVv C hl.1 hR hS rc_X9 md_X9_take ml_X9_117 (c_X9_take l hI (by omega) w2 (by decide)) rfl rfl ⟨Nat.le_of_ble_eq_true rfl, Nat.le_of_ble_eq_true rfl⟩ ⟨Nat.le_refl _, Nat.le_refl _⟩ (Nat.le_of_ble_eq_true rfl) dX9_takeRest_52 (fun H locs hR hS => ?_)
          have hR : gRep X (gM8 mem (pT f (pR3 (f 7) t q c1 c2 c3)) z a o k t r) H := by unfold pR3; rw [if_pos c35]; unfold pTc; (first | rw [if_pos c44] | rw [if_neg c44]); exact hR
          refine g_iload C hl dX9_takeRest_55 rfl ?_
          refine g_if_le (tgt := 78) C dX9_takeRest_57 (by decide) (by omega) (fun c57 => ?_) (fun c57 => ?_)
          · -- 57 T
            refine g_vret C hR hS dX9_takeRest_78 ?_
            refine ⟨rfl, ?_⟩
            unfold pRs
            rw [if_neg (by omega)]
          · -- 57 F
            refine g_aload_n C hl dX9_takeRest_60 rfl ?_
            refine g_aload_n C hl dX9_takeRest_61 rfl ?_
            refine g_callVi C hl.1 hR hS rc_X9 md_X9_sign ml_X9_114 (c_X9_sign l hI h7 ht b3.1) rfl rfl ⟨Nat.le_of_ble_eq_true rfl, Nat.le_of_ble_eq_true rfl⟩ ⟨Nat.le_refl _, Nat.le_refl _⟩ (Nat.le_of_ble_eq_true rfl) dX9_takeRest_62 (fun H locs hR hS => ?_)
            refine g_iload C hl dX9_takeRest_65 rfl ?_
            refine g_icmp_ne (tgt := 74) C dX9_takeRest_67 (by decide) (by omega) (by omega) (fun c67 => ?_) (fun c67 => ?_)
            · -- 67 T
              refine g_iconst 0 C dX9_takeRest_74 (by decide) ?_
              refine g_callVv C hl.1 hR hS rc_X9 md_X9_take ml_X9_117 (c_X9_take l hI (by have := b3.1; omega) b3.2 (by decide)) rfl rfl ⟨Nat.le_of_ble_eq_true rfl, Nat.le_of_ble_eq_true rfl⟩ ⟨Nat.le_refl _, Nat.le_refl _⟩ (Nat.le_of_ble_eq_true rfl) dX9_takeRest_75 (fun H locs hR hS => ?_)
              refine g_vret C hR hS dX9_takeRest_78 ?_
              refine ⟨rfl, ?_⟩
              unfold pRs
              rw [if_pos c57]
              rw [show pTc (f 7) t (pR3 (f 7) t q c1 c2 c3) c4 = pTk (pR3 (f 7) t q c1 c2 c3) (if pSg (f 7) t (pR3 (f 7) t q c1 c2 c3).1 = c4 then 1 else 0) from rfl]
              first | rw [if_pos c67] | rw [if_neg c67]
            · -- 67 F
              refine g_iconst 1 C dX9_takeRest_70 (by decide) ?_
              refine g_goto (tgt := 75) C dX9_takeRest_71 (by decide) ?_
              refine g_callVv C hl.1 hR hS rc_X9 md_X9_take ml_X9_117 (c_X9_take l hI (by have := b3.1; omega) b3.2 (by decide)) rfl rfl ⟨Nat.le_of_ble_eq_true rfl, Nat.le_of_ble_eq_true rfl⟩ ⟨Nat.le_refl _, Nat.le_refl _⟩ (Nat.le_of_ble_eq_true rfl) dX9_takeRest_75 (fun H locs hR hS => ?_)
              refine g_vret C hR hS dX9_takeRest_78 ?_
              refine ⟨rfl, ?_⟩
              unfold pRs
              rw [if_pos c57]
              rw [show pTc (f 7) t (pR3 (f 7) t q c1 c2 c3) c4 = pTk (pR3 (f 7) t q c1 c2 c3) (if pSg (f 7) t (pR3 (f 7) t q c1 c2 c3).1 = c4 then 1 else 0) from rfl]
              first | rw [if_pos c67] | rw [if_neg c67]
  · -- 6 F
    refine g_iconst 1 C dX9_takeRest_9 (by decide) ?_
    refine g_goto (tgt := 14) C dX9_takeRest_10 (by decide) ?_
    refine g_callVv C hl.1 hR hS rc_X9 md_X9_take ml_X9_117 (c_X9_take l hI (by omega) hw9 (by decide)) rfl rfl ⟨Nat.le_of_ble_eq_true rfl, Nat.le_of_ble_eq_true rfl⟩ ⟨Nat.le_refl _, Nat.le_refl _⟩ (Nat.le_of_ble_eq_true rfl) dX9_takeRest_14 (fun H locs hR hS => ?_)
    have hR : gRep X (gM8 mem (pT f (pTc (f 7) t q c1)) z a o k t r) H := by unfold pTc; (first | rw [if_pos c6] | rw [if_neg c6]); exact hR
    refine g_aload_n C hl dX9_takeRest_17 rfl ?_
    refine g_aload_n C hl dX9_takeRest_18 rfl ?_
    refine g_callVi C hl.1 hR hS rc_X9 md_X9_sign ml_X9_114 (c_X9_sign l hI h7 ht b1) rfl rfl ⟨Nat.le_of_ble_eq_true rfl, Nat.le_of_ble_eq_true rfl⟩ ⟨Nat.le_refl _, Nat.le_refl _⟩ (Nat.le_of_ble_eq_true rfl) dX9_takeRest_19 (fun H locs hR hS => ?_)
    refine g_iload_n C hl dX9_takeRest_22 rfl ?_
    refine g_icmp_ne (tgt := 30) C dX9_takeRest_23 (by decide) (by omega) (by omega) (fun c23 => ?_) (fun c23 => ?_)
    · -- 23 T
      refine g_iconst 0 C dX9_takeRest_30 (by decide) ?_
      refine g_callVv C hl.1 hR hS rc_X9 md_X9_take ml_X9_117 (c_X9_take l hI (by omega) w1 (by decide)) rfl rfl ⟨Nat.le_of_ble_eq_true rfl, Nat.le_of_ble_eq_true rfl⟩ ⟨Nat.le_refl _, Nat.le_refl _⟩ (Nat.le_of_ble_eq_true rfl) dX9_takeRest_31 (fun H locs hR hS => ?_)
      have hR : gRep X (gM8 mem (pT f (pR2 (f 7) t q c1 c2)) z a o k t r) H := by unfold pR2; rw [show pTc (f 7) t (pTc (f 7) t q c1) c2 = pTk (pTc (f 7) t q c1) (if pSg (f 7) t (pTc (f 7) t q c1).1 = c2 then 1 else 0) from rfl]; (first | rw [if_pos c23] | rw [if_neg c23]); exact hR
      refine g_iload_n C hl dX9_takeRest_34 rfl ?_
      refine g_if_le (tgt := 55) C dX9_takeRest_35 (by decide) (by omega) (fun c35 => ?_) (fun c35 => ?_)
      · -- 35 T
        have hR : gRep X (gM8 mem (pT f (pR3 (f 7) t q c1 c2 c3)) z a o k t r) H := by unfold pR3; rw [if_neg (by omega)]; exact hR
        refine g_iload C hl dX9_takeRest_55 rfl ?_
        refine g_if_le (tgt := 78) C dX9_takeRest_57 (by decide) (by omega) (fun c57 => ?_) (fun c57 => ?_)
        · -- 57 T
          refine g_vret C hR hS dX9_takeRest_78 ?_
          refine ⟨rfl, ?_⟩
          unfold pRs
          rw [if_neg (by omega)]
        · -- 57 F
          refine g_aload_n C hl dX9_takeRest_60 rfl ?_
          refine g_aload_n C hl dX9_takeRest_61 rfl ?_
          refine g_callVi C hl.1 hR hS rc_X9 md_X9_sign ml_X9_114 (c_X9_sign l hI h7 ht b3.1) rfl rfl ⟨Nat.le_of_ble_eq_true rfl, Nat.le_of_ble_eq_true rfl⟩ ⟨Nat.le_refl _, Nat.le_refl _⟩ (Nat.le_of_ble_eq_true rfl) dX9_takeRest_62 (fun H locs hR hS => ?_)
          refine g_iload C hl dX9_takeRest_65 rfl ?_
          refine g_icmp_ne (tgt := 74) C dX9_takeRest_67 (by decide) (by omega) (by omega) (fun c67 => ?_) (fun c67 => ?_)
          · -- 67 T
            refine g_iconst 0 C dX9_takeRest_74 (by decide) ?_
            refine g_callVv C hl.1 hR hS rc_X9 md_X9_take ml_X9_117 (c_X9_take l hI (by have := b3.1; omega) b3.2 (by decide)) rfl rfl ⟨Nat.le_of_ble_eq_true rfl, Nat.le_of_ble_eq_true rfl⟩ ⟨Nat.le_refl _, Nat.le_refl _⟩ (Nat.le_of_ble_eq_true rfl) dX9_takeRest_75 (fun H locs hR hS => ?_)
            refine g_vret C hR hS dX9_takeRest_78 ?_
            refine ⟨rfl, ?_⟩
            unfold pRs
            rw [if_pos c57]
            rw [show pTc (f 7) t (pR3 (f 7) t q c1 c2 c3) c4 = pTk (pR3 (f 7) t q c1 c2 c3) (if pSg (f 7) t (pR3 (f 7) t q c1 c2 c3).1 = c4 then 1 else 0) from rfl]
            first | rw [if_pos c67] | rw [if_neg c67]
          · -- 67 F
            refine g_iconst 1 C dX9_takeRest_70 (by decide) ?_
            refine g_goto (tgt := 75) C dX9_takeRest_71 (by decide) ?_
            refine g_callVv C hl.1 hR hS rc_X9 md_X9_take ml_X9_117 (c_X9_take l hI (by have := b3.1; omega) b3.2 (by decide)) rfl rfl ⟨Nat.le_of_ble_eq_true rfl, Nat.le_of_ble_eq_true rfl⟩ ⟨Nat.le_refl _, Nat.le_refl _⟩ (Nat.le_of_ble_eq_true rfl) dX9_takeRest_75 (fun H locs hR hS => ?_)
            refine g_vret C hR hS dX9_takeRest_78 ?_
            refine ⟨rfl, ?_⟩
            unfold pRs
            rw [if_pos c57]
            rw [show pTc (f 7) t (pR3 (f 7) t q c1 c2 c3) c4 = pTk (pR3 (f 7) t q c1 c2 c3) (if pSg (f 7) t (pR3 (f 7) t q c1 c2 c3).1 = c4 then 1 else 0) from rfl]
            first | rw [if_pos c67] | rw [if_neg c67]
      · -- 35 F
        refine g_aload_n C hl dX9_takeRest_38 rfl ?_
        refine g_aload_n C hl dX9_takeRest_39 rfl ?_
        refine g_callVi C hl.1 hR hS rc_X9 md_X9_sign ml_X9_114 (c_X9_sign l hI h7 ht b2) rfl rfl ⟨Nat.le_of_ble_eq_true rfl, Nat.le_of_ble_eq_true rfl⟩ ⟨Nat.le_refl _, Nat.le_refl _⟩ (Nat.le_of_ble_eq_true rfl) dX9_takeRest_40 (fun H locs hR hS => ?_)
        refine g_iload_n C hl dX9_takeRest_43 rfl ?_
        refine g_icmp_ne (tgt := 51) C dX9_takeRest_44 (by decide) (by omega) (by omega) (fun c44 => ?_) (fun c44 => ?_)
        · -- 44 T
          refine g_iconst 0 C dX9_takeRest_51 (by decide) ?_
          refine g_callVv C hl.1 hR hS rc_X9 md_X9_take ml_X9_117 (c_X9_take l hI (by omega) w2 (by decide)) rfl rfl ⟨Nat.le_of_ble_eq_true rfl, Nat.le_of_ble_eq_true rfl⟩ ⟨Nat.le_refl _, Nat.le_refl _⟩ (Nat.le_of_ble_eq_true rfl) dX9_takeRest_52 (fun H locs hR hS => ?_)
          have hR : gRep X (gM8 mem (pT f (pR3 (f 7) t q c1 c2 c3)) z a o k t r) H := by unfold pR3; rw [if_pos c35]; unfold pTc; (first | rw [if_pos c44] | rw [if_neg c44]); exact hR
          refine g_iload C hl dX9_takeRest_55 rfl ?_
          refine g_if_le (tgt := 78) C dX9_takeRest_57 (by decide) (by omega) (fun c57 => ?_) (fun c57 => ?_)
          · -- 57 T
            refine g_vret C hR hS dX9_takeRest_78 ?_
            refine ⟨rfl, ?_⟩
            unfold pRs
            rw [if_neg (by omega)]
          · -- 57 F
            refine g_aload_n C hl dX9_takeRest_60 rfl ?_
            refine g_aload_n C hl dX9_takeRest_61 rfl ?_
            refine g_callVi C hl.1 hR hS rc_X9 md_X9_sign ml_X9_114 (c_X9_sign l hI h7 ht b3.1) rfl rfl ⟨Nat.le_of_ble_eq_true rfl, Nat.le_of_ble_eq_true rfl⟩ ⟨Nat.le_refl _, Nat.le_refl _⟩ (Nat.le_of_ble_eq_true rfl) dX9_takeRest_62 (fun H locs hR hS => ?_)
            refine g_iload C hl dX9_takeRest_65 rfl ?_
            refine g_icmp_ne (tgt := 74) C dX9_takeRest_67 (by decide) (by omega) (by omega) (fun c67 => ?_) (fun c67 => ?_)
            · -- 67 T
              refine g_iconst 0 C dX9_takeRest_74 (by decide) ?_
              refine g_callVv C hl.1 hR hS rc_X9 md_X9_take ml_X9_117 (c_X9_take l hI (by have := b3.1; omega) b3.2 (by decide)) rfl rfl ⟨Nat.le_of_ble_eq_true rfl, Nat.le_of_ble_eq_true rfl⟩ ⟨Nat.le_refl _, Nat.le_refl _⟩ (Nat.le_of_ble_eq_true rfl) dX9_takeRest_75 (fun H locs hR hS => ?_)
              refine g_vret C hR hS dX9_takeRest_78 ?_
              refine ⟨rfl, ?_⟩
              unfold pRs
              rw [if_pos c57]
              rw [show pTc (f 7) t (pR3 (f 7) t q c1 c2 c3) c4 = pTk (pR3 (f 7) t q c1 c2 c3) (if pSg (f 7) t (pR3 (f 7) t q c1 c2 c3).1 = c4 then 1 else 0) from rfl]
              first | rw [if_pos c67] | rw [if_neg c67]
            · -- 67 F
              refine g_iconst 1 C dX9_takeRest_70 (by decide) ?_
              refine g_goto (tgt := 75) C dX9_takeRest_71 (by decide) ?_
              refine g_callVv C hl.1 hR hS rc_X9 md_X9_take ml_X9_117 (c_X9_take l hI (by have := b3.1; omega) b3.2 (by decide)) rfl rfl ⟨Nat.le_of_ble_eq_true rfl, Nat.le_of_ble_eq_true rfl⟩ ⟨Nat.le_refl _, Nat.le_refl _⟩ (Nat.le_of_ble_eq_true rfl) dX9_takeRest_75 (fun H locs hR hS => ?_)
              refine g_vret C hR hS dX9_takeRest_78 ?_
              refine ⟨rfl, ?_⟩
              unfold pRs
              rw [if_pos c57]
              rw [show pTc (f 7) t (pR3 (f 7) t q c1 c2 c3) c4 = pTk (pR3 (f 7) t q c1 c2 c3) (if pSg (f 7) t (pR3 (f 7) t q c1 c2 c3).1 = c4 then 1 else 0) from rfl]
              first | rw [if_pos c67] | rw [if_neg c67]
        · -- 44 F
          refine g_iconst 1 C dX9_takeRest_47 (by decide) ?_
          refine g_goto (tgt := 52) C dX9_takeRest_48 (by decide) ?_
          refine g_callVv C hl.1 hR hS rc_X9 md_X9_take ml_X9_117 (c_X9_take l hI (by omega) w2 (by decide)) rfl rfl ⟨Nat.le_of_ble_eq_true rfl, Nat.le_of_ble_eq_true rfl⟩ ⟨Nat.le_refl _, Nat.le_refl _⟩ (Nat.le_of_ble_eq_true rfl) dX9_takeRest_52 (fun H locs hR hS => ?_)
          have hR : gRep X (gM8 mem (pT f (pR3 (f 7) t q c1 c2 c3)) z a o k t r) H := by unfold pR3; rw [if_pos c35]; unfold pTc; (first | rw [if_pos c44] | rw [if_neg c44]); exact hR
          refine g_iload C hl dX9_takeRest_55 rfl ?_
          refine g_if_le (tgt := 78) C dX9_takeRest_57 (by decide) (by omega) (fun c57 => ?_) (fun c57 => ?_)
          · -- 57 T
            refine g_vret C hR hS dX9_takeRest_78 ?_
            refine ⟨rfl, ?_⟩
            unfold pRs
            rw [if_neg (by omega)]
          · -- 57 F
            refine g_aload_n C hl dX9_takeRest_60 rfl ?_
            refine g_aload_n C hl dX9_takeRest_61 rfl ?_
            refine g_callVi C hl.1 hR hS rc_X9 md_X9_sign ml_X9_114 (c_X9_sign l hI h7 ht b3.1) rfl rfl ⟨Nat.le_of_ble_eq_true rfl, Nat.le_of_ble_eq_true rfl⟩ ⟨Nat.le_refl _, Nat.le_refl _⟩ (Nat.le_of_ble_eq_true rfl) dX9_takeRest_62 (fun H locs hR hS => ?_)
            refine g_iload C hl dX9_takeRest_65 rfl ?_
            refine g_icmp_ne (tgt := 74) C dX9_takeRest_67 (by decide) (by omega) (by omega) (fun c67 => ?_) (fun c67 => ?_)
            · -- 67 T
              refine g_iconst 0 C dX9_takeRest_74 (by decide) ?_
              refine g_callVv C hl.1 hR hS rc_X9 md_X9_take ml_X9_117 (c_X9_take l hI (by have := b3.1; omega) b3.2 (by decide)) rfl rfl ⟨Nat.le_of_ble_eq_true rfl, Nat.le_of_ble_eq_true rfl⟩ ⟨Nat.le_refl _, Nat.le_refl _⟩ (Nat.le_of_ble_eq_true rfl) dX9_takeRest_75 (fun H locs hR hS => ?_)
              refine g_vret C hR hS dX9_takeRest_78 ?_
              refine ⟨rfl, ?_⟩
              unfold pRs
              rw [if_pos c57]
              rw [show pTc (f 7) t (pR3 (f 7) t q c1 c2 c3) c4 = pTk (pR3 (f 7) t q c1 c2 c3) (if pSg (f 7) t (pR3 (f 7) t q c1 c2 c3).1 = c4 then 1 else 0) from rfl]
              first | rw [if_pos c67] | rw [if_neg c67]
            · -- 67 F
              refine g_iconst 1 C dX9_takeRest_70 (by decide) ?_
              refine g_goto (tgt := 75) C dX9_takeRest_71 (by decide) ?_
              refine g_callVv C hl.1 hR hS rc_X9 md_X9_take ml_X9_117 (c_X9_take l hI (by have := b3.1; omega) b3.2 (by decide)) rfl rfl ⟨Nat.le_of_ble_eq_true rfl, Nat.le_of_ble_eq_true rfl⟩ ⟨Nat.le_refl _, Nat.le_refl _⟩ (Nat.le_of_ble_eq_true rfl) dX9_takeRest_75 (fun H locs hR hS => ?_)
              refine g_vret C hR hS dX9_takeRest_78 ?_
              refine ⟨rfl, ?_⟩
              unfold pRs
              rw [if_pos c57]
              rw [show pTc (f 7) t (pR3 (f 7) t q c1 c2 c3) c4 = pTk (pR3 (f 7) t q c1 c2 c3) (if pSg (f 7) t (pR3 (f 7) t q c1 c2 c3).1 = c4 then 1 else 0) from rfl]
              first | rw [if_pos c67] | rw [if_neg c67]
    · -- 23 F
      refine g_iconst 1 C dX9_takeRest_26 (by decide) ?_
      refine g_goto (tgt := 31) C dX9_takeRest_27 (by decide) ?_
      refine g_callVv C hl.1 hR hS rc_X9 md_X9_take ml_X9_117 (c_X9_take l hI (by omega) w1 (by decide)) rfl rfl ⟨Nat.le_of_ble_eq_true rfl, Nat.le_of_ble_eq_true rfl⟩ ⟨Nat.le_refl _, Nat.le_refl _⟩ (Nat.le_of_ble_eq_true rfl) dX9_takeRest_31 (fun H locs hR hS => ?_)
      have hR : gRep X (gM8 mem (pT f (pR2 (f 7) t q c1 c2)) z a o k t r) H := by unfold pR2; rw [show pTc (f 7) t (pTc (f 7) t q c1) c2 = pTk (pTc (f 7) t q c1) (if pSg (f 7) t (pTc (f 7) t q c1).1 = c2 then 1 else 0) from rfl]; (first | rw [if_pos c23] | rw [if_neg c23]); exact hR
      refine g_iload_n C hl dX9_takeRest_34 rfl ?_
      refine g_if_le (tgt := 55) C dX9_takeRest_35 (by decide) (by omega) (fun c35 => ?_) (fun c35 => ?_)
      · -- 35 T
        have hR : gRep X (gM8 mem (pT f (pR3 (f 7) t q c1 c2 c3)) z a o k t r) H := by unfold pR3; rw [if_neg (by omega)]; exact hR
        refine g_iload C hl dX9_takeRest_55 rfl ?_
        refine g_if_le (tgt := 78) C dX9_takeRest_57 (by decide) (by omega) (fun c57 => ?_) (fun c57 => ?_)
        · -- 57 T
          refine g_vret C hR hS dX9_takeRest_78 ?_
          refine ⟨rfl, ?_⟩
          unfold pRs
          rw [if_neg (by omega)]
        · -- 57 F
          refine g_aload_n C hl dX9_takeRest_60 rfl ?_
          refine g_aload_n C hl dX9_takeRest_61 rfl ?_
          refine g_callVi C hl.1 hR hS rc_X9 md_X9_sign ml_X9_114 (c_X9_sign l hI h7 ht b3.1) rfl rfl ⟨Nat.le_of_ble_eq_true rfl, Nat.le_of_ble_eq_true rfl⟩ ⟨Nat.le_refl _, Nat.le_refl _⟩ (Nat.le_of_ble_eq_true rfl) dX9_takeRest_62 (fun H locs hR hS => ?_)
          refine g_iload C hl dX9_takeRest_65 rfl ?_
          refine g_icmp_ne (tgt := 74) C dX9_takeRest_67 (by decide) (by omega) (by omega) (fun c67 => ?_) (fun c67 => ?_)
          · -- 67 T
            refine g_iconst 0 C dX9_takeRest_74 (by decide) ?_
            refine g_callVv C hl.1 hR hS rc_X9 md_X9_take ml_X9_117 (c_X9_take l hI (by have := b3.1; omega) b3.2 (by decide)) rfl rfl ⟨Nat.le_of_ble_eq_true rfl, Nat.le_of_ble_eq_true rfl⟩ ⟨Nat.le_refl _, Nat.le_refl _⟩ (Nat.le_of_ble_eq_true rfl) dX9_takeRest_75 (fun H locs hR hS => ?_)
            refine g_vret C hR hS dX9_takeRest_78 ?_
            refine ⟨rfl, ?_⟩
            unfold pRs
            rw [if_pos c57]
            rw [show pTc (f 7) t (pR3 (f 7) t q c1 c2 c3) c4 = pTk (pR3 (f 7) t q c1 c2 c3) (if pSg (f 7) t (pR3 (f 7) t q c1 c2 c3).1 = c4 then 1 else 0) from rfl]
            first | rw [if_pos c67] | rw [if_neg c67]
          · -- 67 F
            refine g_iconst 1 C dX9_takeRest_70 (by decide) ?_
            refine g_goto (tgt := 75) C dX9_takeRest_71 (by decide) ?_
            refine g_callVv C hl.1 hR hS rc_X9 md_X9_take ml_X9_117 (c_X9_take l hI (by have := b3.1; omega) b3.2 (by decide)) rfl rfl ⟨Nat.le_of_ble_eq_true rfl, Nat.le_of_ble_eq_true rfl⟩ ⟨Nat.le_refl _, Nat.le_refl _⟩ (Nat.le_of_ble_eq_true rfl) dX9_takeRest_75 (fun H locs hR hS => ?_)
            refine g_vret C hR hS dX9_takeRest_78 ?_
            refine ⟨rfl, ?_⟩
            unfold pRs
            rw [if_pos c57]
            rw [show pTc (f 7) t (pR3 (f 7) t q c1 c2 c3) c4 = pTk (pR3 (f 7) t q c1 c2 c3) (if pSg (f 7) t (pR3 (f 7) t q c1 c2 c3).1 = c4 then 1 else 0) from rfl]
            first | rw [if_pos c67] | rw [if_neg c67]
      · -- 35 F
        refine g_aload_n C hl dX9_takeRest_38 rfl ?_
        refine g_aload_n C hl dX9_takeRest_39 rfl ?_
        refine g_callVi C hl.1 hR hS rc_X9 md_X9_sign ml_X9_114 (c_X9_sign l hI h7 ht b2) rfl rfl ⟨Nat.le_of_ble_eq_true rfl, Nat.le_of_ble_eq_true rfl⟩ ⟨Nat.le_refl _, Nat.le_refl _⟩ (Nat.le_of_ble_eq_true rfl) dX9_takeRest_40 (fun H locs hR hS => ?_)
        refine g_iload_n C hl dX9_takeRest_43 rfl ?_
        refine g_icmp_ne (tgt := 51) C dX9_takeRest_44 (by decide) (by omega) (by omega) (fun c44 => ?_) (fun c44 => ?_)
        · -- 44 T
          refine g_iconst 0 C dX9_takeRest_51 (by decide) ?_
          refine g_callVv C hl.1 hR hS rc_X9 md_X9_take ml_X9_117 (c_X9_take l hI (by omega) w2 (by decide)) rfl rfl ⟨Nat.le_of_ble_eq_true rfl, Nat.le_of_ble_eq_true rfl⟩ ⟨Nat.le_refl _, Nat.le_refl _⟩ (Nat.le_of_ble_eq_true rfl) dX9_takeRest_52 (fun H locs hR hS => ?_)
          have hR : gRep X (gM8 mem (pT f (pR3 (f 7) t q c1 c2 c3)) z a o k t r) H := by unfold pR3; rw [if_pos c35]; unfold pTc; (first | rw [if_pos c44] | rw [if_neg c44]); exact hR
          refine g_iload C hl dX9_takeRest_55 rfl ?_
          refine g_if_le (tgt := 78) C dX9_takeRest_57 (by decide) (by omega) (fun c57 => ?_) (fun c57 => ?_)
          · -- 57 T
            refine g_vret C hR hS dX9_takeRest_78 ?_
            refine ⟨rfl, ?_⟩
            unfold pRs
            rw [if_neg (by omega)]
          · -- 57 F
            refine g_aload_n C hl dX9_takeRest_60 rfl ?_
            refine g_aload_n C hl dX9_takeRest_61 rfl ?_
            refine g_callVi C hl.1 hR hS rc_X9 md_X9_sign ml_X9_114 (c_X9_sign l hI h7 ht b3.1) rfl rfl ⟨Nat.le_of_ble_eq_true rfl, Nat.le_of_ble_eq_true rfl⟩ ⟨Nat.le_refl _, Nat.le_refl _⟩ (Nat.le_of_ble_eq_true rfl) dX9_takeRest_62 (fun H locs hR hS => ?_)
            refine g_iload C hl dX9_takeRest_65 rfl ?_
            refine g_icmp_ne (tgt := 74) C dX9_takeRest_67 (by decide) (by omega) (by omega) (fun c67 => ?_) (fun c67 => ?_)
            · -- 67 T
              refine g_iconst 0 C dX9_takeRest_74 (by decide) ?_
              refine g_callVv C hl.1 hR hS rc_X9 md_X9_take ml_X9_117 (c_X9_take l hI (by have := b3.1; omega) b3.2 (by decide)) rfl rfl ⟨Nat.le_of_ble_eq_true rfl, Nat.le_of_ble_eq_true rfl⟩ ⟨Nat.le_refl _, Nat.le_refl _⟩ (Nat.le_of_ble_eq_true rfl) dX9_takeRest_75 (fun H locs hR hS => ?_)
              refine g_vret C hR hS dX9_takeRest_78 ?_
              refine ⟨rfl, ?_⟩
              unfold pRs
              rw [if_pos c57]
              rw [show pTc (f 7) t (pR3 (f 7) t q c1 c2 c3) c4 = pTk (pR3 (f 7) t q c1 c2 c3) (if pSg (f 7) t (pR3 (f 7) t q c1 c2 c3).1 = c4 then 1 else 0) from rfl]
              first | rw [if_pos c67] | rw [if_neg c67]
            · -- 67 F
              refine g_iconst 1 C dX9_takeRest_70 (by decide) ?_
              refine g_goto (tgt := 75) C dX9_takeRest_71 (by decide) ?_
              refine g_callVv C hl.1 hR hS rc_X9 md_X9_take ml_X9_117 (c_X9_take l hI (by have := b3.1; omega) b3.2 (by decide)) rfl rfl ⟨Nat.le_of_ble_eq_true rfl, Nat.le_of_ble_eq_true rfl⟩ ⟨Nat.le_refl _, Nat.le_refl _⟩ (Nat.le_of_ble_eq_true rfl) dX9_takeRest_75 (fun H locs hR hS => ?_)
              refine g_vret C hR hS dX9_takeRest_78 ?_
              refine ⟨rfl, ?_⟩
              unfold pRs
              rw [if_pos c57]
              rw [show pTc (f 7) t (pR3 (f 7) t q c1 c2 c3) c4 = pTk (pR3 (f 7) t q c1 c2 c3) (if pSg (f 7) t (pR3 (f 7) t q c1 c2 c3).1 = c4 then 1 else 0) from rfl]
              first | rw [if_pos c67] | rw [if_neg c67]
        · -- 44 F
          refine g_iconst 1 C dX9_takeRest_47 (by decide) ?_
          refine g_goto (tgt := 52) C dX9_takeRest_48 (by decide) ?_
          refine g_callVv C hl.1 hR hS rc_X9 md_X9_take ml_X9_117 (c_X9_take l hI (by omega) w2 (by decide)) rfl rfl ⟨Nat.le_of_ble_eq_true rfl, Nat.le_of_ble_eq_true rfl⟩ ⟨Nat.le_refl _, Nat.le_refl _⟩ (Nat.le_of_ble_eq_true rfl) dX9_takeRest_52 (fun H locs hR hS => ?_)
          have hR : gRep X (gM8 mem (pT f (pR3 (f 7) t q c1 c2 c3)) z a o k t r) H := by unfold pR3; rw [if_pos c35]; unfold pTc; (first | rw [if_pos c44] | rw [if_neg c44]); exact hR
          refine g_iload C hl dX9_takeRest_55 rfl ?_
          refine g_if_le (tgt := 78) C dX9_takeRest_57 (by decide) (by omega) (fun c57 => ?_) (fun c57 => ?_)
          · -- 57 T
            refine g_vret C hR hS dX9_takeRest_78 ?_
            refine ⟨rfl, ?_⟩
            unfold pRs
            rw [if_neg (by omega)]
          · -- 57 F
            refine g_aload_n C hl dX9_takeRest_60 rfl ?_
            refine g_aload_n C hl dX9_takeRest_61 rfl ?_
            refine g_callVi C hl.1 hR hS rc_X9 md_X9_sign ml_X9_114 (c_X9_sign l hI h7 ht b3.1) rfl rfl ⟨Nat.le_of_ble_eq_true rfl, Nat.le_of_ble_eq_true rfl⟩ ⟨Nat.le_refl _, Nat.le_refl _⟩ (Nat.le_of_ble_eq_true rfl) dX9_takeRest_62 (fun H locs hR hS => ?_)
            refine g_iload C hl dX9_takeRest_65 rfl ?_
            refine g_icmp_ne (tgt := 74) C dX9_takeRest_67 (by decide) (by omega) (by omega) (fun c67 => ?_) (fun c67 => ?_)
            · -- 67 T
              refine g_iconst 0 C dX9_takeRest_74 (by decide) ?_
              refine g_callVv C hl.1 hR hS rc_X9 md_X9_take ml_X9_117 (c_X9_take l hI (by have := b3.1; omega) b3.2 (by decide)) rfl rfl ⟨Nat.le_of_ble_eq_true rfl, Nat.le_of_ble_eq_true rfl⟩ ⟨Nat.le_refl _, Nat.le_refl _⟩ (Nat.le_of_ble_eq_true rfl) dX9_takeRest_75 (fun H locs hR hS => ?_)
              refine g_vret C hR hS dX9_takeRest_78 ?_
              refine ⟨rfl, ?_⟩
              unfold pRs
              rw [if_pos c57]
              rw [show pTc (f 7) t (pR3 (f 7) t q c1 c2 c3) c4 = pTk (pR3 (f 7) t q c1 c2 c3) (if pSg (f 7) t (pR3 (f 7) t q c1 c2 c3).1 = c4 then 1 else 0) from rfl]
              first | rw [if_pos c67] | rw [if_neg c67]
            · -- 67 F
              refine g_iconst 1 C dX9_takeRest_70 (by decide) ?_
              refine g_goto (tgt := 75) C dX9_takeRest_71 (by decide) ?_
              refine g_callVv C hl.1 hR hS rc_X9 md_X9_take ml_X9_117 (c_X9_take l hI (by have := b3.1; omega) b3.2 (by decide)) rfl rfl ⟨Nat.le_of_ble_eq_true rfl, Nat.le_of_ble_eq_true rfl⟩ ⟨Nat.le_refl _, Nat.le_refl _⟩ (Nat.le_of_ble_eq_true rfl) dX9_takeRest_75 (fun H locs hR hS => ?_)
              refine g_vret C hR hS dX9_takeRest_78 ?_
              refine ⟨rfl, ?_⟩
              unfold pRs
              rw [if_pos c57]
              rw [show pTc (f 7) t (pR3 (f 7) t q c1 c2 c3) c4 = pTk (pR3 (f 7) t q c1 c2 c3) (if pSg (f 7) t (pR3 (f 7) t q c1 c2 c3).1 = c4 then 1 else 0) from rfl]
              first | rw [if_pos c67] | rw [if_neg c67]
theorem pN2_ok {n : Nat} {t : Nat → Nat} {q : Nat × Nat} {most : Nat} (h : (pN2 n t q most).2 = 0) : (48 ≤ pSg n t (pN1 n t q).1 ∧ pSg n t (pN1 n t q).1 ≤ 57) ∧ pSg n t (pN1 n t q).1 - 48 ≤ most := by
  unfold pN2 pTk at h
  by_cases c : (48 ≤ pSg n t (pN1 n t q).1 ∧ pSg n t (pN1 n t q).1 ≤ 57) ∧ pSg n t (pN1 n t q).1 - 48 ≤ most
  · exact c
  · rw [if_neg c, if_neg (fun z => z.2 rfl)] at h
    cases h
set_option maxRecDepth 100000 in
set_option maxHeartbeats 4000000 in
/-- takeNumber -/
theorem c_X9_takeNumber (l : Launch) {X : gX} (hI : gInj X) {mem : gM} {f z a o k t r : Nat → Nat} {q : Nat × Nat} {most : Nat} (h7 : f 7 ≤ 80) (ht : ∀ j, j < f 7 → t j < 65536) (hq : q.1 ≤ f 7) (hw9 : q.2 < 2) (hm : most ≤ 99) : gMt l yX9_takeNumber cX9_takeNumber 3 (some .int) 1 22 X [.ref (gAd X 8 0), .int (nI most)] (gM8 mem (pT f q) z a o k t r) (fun v9 m9 => ∃ x : Int32, v9 = some (.int x) ∧ m9 = gM8 mem (pT f (pNq (f 7) t q most)) z a o k t r ∧ ((pNq (f 7) t q most).2 = 0 → x = nI (pNv (f 7) t q most))) := by
  refine gMt.of (own := RX9) (by decide) rfl hI (by simp [Value.category]) (Nat.le_of_ble_eq_true rfl) ?_
  intro p e s m args below meth c ls H locs C hnm hl hR hS
  have s0 := pSg_lt ht q.1
  have b1 : (pN1 (f 7) t q).1 ≤ f 7 := pTc_le (t := t) hq (by decide)
  have w1 : (pN1 (f 7) t q).2 < 2 := pTc_w _ _ _ _
  have s1 := pSg_lt ht (pN1 (f 7) t q).1
  have b2 := pN2_le (t := t) (most := most) hq
  have w2 : (pN2 (f 7) t q most).2 < 2 := pTk_w _ _
  have s2 := pSg_lt ht (pN2 (f 7) t q most).1
  have s3 : pSg (f 7) t (((pN2 (f 7) t q most).1 + 1, (pN2 (f 7) t q most).2) : Nat × Nat).1 < 65536 := pSg_lt ht _
  have phB : ∀ (ls : Array Slot) (H : Heap) (locs : List Loc), gL ls [some (.ref (gAd X 8 0)), some (.int (nI most)), some (.int (nI (pSg (f 7) t (pN1 (f 7) t q).1) - nI 48))] → gRep X (gM8 mem (pT f (pN2 (f 7) t q most)) z a o k t r) H → va_S (gA X) s.heap H locs → W p l e { frames := 1, cells := 0, slots := 0, locals := 22 } s m args below meth c H locs 0 0 (MQ below (gQ X (fun v9 m9 => ∃ x : Int32, v9 = some (.int x) ∧ m9 = gM8 mem (pT f (pNq (f 7) t q most)) z a o k t r ∧ ((pNq (f 7) t q most).2 = 0 → x = nI (pNv (f 7) t q most)))) args s 0 0 (gA X)) (F0 m 50 ls []) := by
    intro ls H locs hl hR hS
    refine g_aload_n C hl dX9_takeNumber_50 rfl ?_
    refine rt_9 C hR fl_X9_111 dX9_takeNumber_51 ?_
    rw [show pT f (pN2 (f 7) t q most) 9 = (pN2 (f 7) t q most).2 from rfl]
    refine g_if_ne (tgt := 117) C dX9_takeNumber_54 (by decide) (by omega) (fun c54 => ?_) (fun c54 => ?_)
    · -- 54 T
      refine lv_iload_n C.1 C.2.1 dX9_takeNumber_117 rfl (hl.at 2 rfl) ?_
      refine g_iret C hR hS dX9_takeNumber_118 ?_
      refine ⟨_, rfl, ?_, fun z9 => ?_⟩
      · unfold pNq; rw [if_neg (fun z9 => c54 z9.1)]
      · exfalso; unfold pNq at z9; rw [if_neg (fun z9 => c54 z9.1)] at z9; exact c54 z9
    · -- 54 F
      have k54 := c54
      have k9 := pN2_ok c54
      rw [pk_sub k9.1.1] at hl
      have ea : pNa (f 7) t q = pSg (f 7) t (pN1 (f 7) t q).1 - 48 := rfl
      have eb : pNb (f 7) t q most = 10 * (pSg (f 7) t (pN1 (f 7) t q).1 - 48) + pSg (f 7) t (pN2 (f 7) t q most).1 - 48 := rfl
      refine lv_iload_n C.1 C.2.1 dX9_takeNumber_57 rfl (hl.at 2 rfl) ?_
      refine g_if_le (tgt := 117) C dX9_takeNumber_58 (by decide) (by omega) (fun c58 => ?_) (fun c58 => ?_)
      · -- 58 T
        refine lv_iload_n C.1 C.2.1 dX9_takeNumber_117 rfl (hl.at 2 rfl) ?_
        refine g_iret C hR hS dX9_takeNumber_118 ?_
        refine ⟨_, rfl, ?_, fun z9 => ?_⟩
        · unfold pNq; rw [if_neg (fun z9 => absurd z9.2.1 (by omega))]
        · unfold pNv; rw [if_neg (fun z9 => absurd z9.1 (by omega))]; rfl
      · -- 58 F
        refine g_aload_n C hl dX9_takeNumber_61 rfl ?_
        refine g_callVi C hl.1 hR hS rc_X9 md_X9_sign ml_X9_114 (c_X9_sign l hI h7 ht b2) rfl rfl ⟨Nat.le_of_ble_eq_true rfl, Nat.le_of_ble_eq_true rfl⟩ ⟨Nat.le_refl _, Nat.le_refl _⟩ (Nat.le_of_ble_eq_true rfl) dX9_takeNumber_62 (fun H locs hR hS => ?_)
        refine g_bipush 48 C dX9_takeNumber_65 (by decide) ?_
        refine g_bipush 57 C dX9_takeNumber_67 (by decide) ?_
        refine g_callSi C hl.1 hR hS md_X9_in ml_X9_28 (c_X9_in l hI (by decide) (by decide)) rfl rfl ⟨Nat.le_of_ble_eq_true rfl, Nat.le_of_ble_eq_true rfl⟩ ⟨Nat.le_refl _, Nat.le_refl _⟩ (Nat.le_of_ble_eq_true rfl) dX9_takeNumber_69 (fun H locs hR hS => ?_)
        refine g_ifw_eq (tgt := 117) C dX9_takeNumber_72 (by decide) (by omega) (fun c72 => ?_) (fun c72 => ?_)
        · -- 72 T
          refine lv_iload_n C.1 C.2.1 dX9_takeNumber_117 rfl (hl.at 2 rfl) ?_
          refine g_iret C hR hS dX9_takeNumber_118 ?_
          refine ⟨_, rfl, ?_, fun z9 => ?_⟩
          · unfold pNq; rw [if_neg (fun z9 => c72 z9.2.2.1)]
          · unfold pNv; rw [if_neg (fun z9 => c72 z9.2.1)]; rfl
        · -- 72 F
          refine g_bipush 10 C dX9_takeNumber_75 (by decide) ?_
          refine g_iload_n C hl dX9_takeNumber_77 rfl ?_
          refine g_imul C dX9_takeNumber_78 ?_
          refine g_aload_n C hl dX9_takeNumber_79 rfl ?_
          refine g_callVi C hl.1 hR hS rc_X9 md_X9_sign ml_X9_114 (c_X9_sign l hI h7 ht b2) rfl rfl ⟨Nat.le_of_ble_eq_true rfl, Nat.le_of_ble_eq_true rfl⟩ ⟨Nat.le_refl _, Nat.le_refl _⟩ (Nat.le_of_ble_eq_true rfl) dX9_takeNumber_80 (fun H locs hR hS => ?_)
          refine g_iadd C dX9_takeNumber_83 ?_
          refine g_bipush 48 C dX9_takeNumber_84 (by decide) ?_
          refine g_isub C dX9_takeNumber_86 (by omega) ?_
          refine g_iload_n C hl dX9_takeNumber_87 rfl ?_
          refine g_icmp_gt (tgt := 117) C dX9_takeNumber_88 (by decide) (by omega) (by omega) (fun c88 => ?_) (fun c88 => ?_)
          · -- 88 T
            refine lv_iload_n C.1 C.2.1 dX9_takeNumber_117 rfl (hl.at 2 rfl) ?_
            refine g_iret C hR hS dX9_takeNumber_118 ?_
            refine ⟨_, rfl, ?_, fun z9 => ?_⟩
            · unfold pNq; rw [if_neg (fun z9 => absurd z9.2.2.2 (by omega))]
            · unfold pNv; rw [if_neg (fun z9 => absurd z9.2.2 (by omega))]; rfl
          · -- 88 F
            refine g_bipush 10 C dX9_takeNumber_91 (by decide) ?_
            refine g_iload_n C hl dX9_takeNumber_93 rfl ?_
            refine g_imul C dX9_takeNumber_94 ?_
            refine g_aload_n C hl dX9_takeNumber_95 rfl ?_
            refine g_callVi C hl.1 hR hS rc_X9 md_X9_sign ml_X9_114 (c_X9_sign l hI h7 ht b2) rfl rfl ⟨Nat.le_of_ble_eq_true rfl, Nat.le_of_ble_eq_true rfl⟩ ⟨Nat.le_refl _, Nat.le_refl _⟩ (Nat.le_of_ble_eq_true rfl) dX9_takeNumber_96 (fun H locs hR hS => ?_)
            refine g_iadd C dX9_takeNumber_99 ?_
            refine g_bipush 48 C dX9_takeNumber_100 (by decide) ?_
            refine g_isub C dX9_takeNumber_102 (by omega) ?_
            have k58 : 0 < pNa (f 7) t q := by omega
            have k72 := c72
            have k88 : pNb (f 7) t q most ≤ most := c88
            have b4 := pSg_in (n := f 7) (t := t) (p9 := (pN2 (f 7) t q most).1) (by omega)
            have eb : pNb (f 7) t q most = 10 * (pSg (f 7) t (pN1 (f 7) t q).1 - 48) + pSg (f 7) t (pN2 (f 7) t q most).1 - 48 := rfl
            refine g_istore_n C hl dX9_takeNumber_103 (Nat.le_of_ble_eq_true rfl) (fun ls hl => ?_)
            refine g_aload_n C hl dX9_takeNumber_104 rfl ?_
            refine g_dup C dX9_takeNumber_105 rfl ?_
            refine rt_8 C hR fl_X9_108 dX9_takeNumber_106 ?_
            rw [show pT f (pN2 (f 7) t q most) 8 = (pN2 (f 7) t q most).1 from rfl]
            refine g_iconst 1 C dX9_takeNumber_109 (by decide) ?_
            refine g_iadd C dX9_takeNumber_110 ?_
            refine rp_8 C hR hS fl_X9_108 dX9_takeNumber_111 (fun H locs hR hS => ?_)
            rw [pT_8] at hR
            refine g_goto (tgt := 50) C dX9_takeNumber_114 (by decide) ?_
            refine g_aload_n C hl dX9_takeNumber_50 rfl ?_
            refine rt_9 C hR fl_X9_111 dX9_takeNumber_51 ?_
            rw [show pT f ((pN2 (f 7) t q most).1 + 1, (pN2 (f 7) t q most).2) 9 = (pN2 (f 7) t q most).2 from rfl]
            refine g_if_ne (tgt := 117) C dX9_takeNumber_54 (by decide) (by omega) (fun z9 => absurd z9 (fun z9 => z9 k54)) (fun c54 => ?_)
            refine lv_iload_n C.1 C.2.1 dX9_takeNumber_57 rfl (hl.at 2 rfl) ?_
            refine g_if_le (tgt := 117) C dX9_takeNumber_58 (by decide) (by omega) (fun z9 => absurd z9 (by omega)) (fun c58 => ?_)
            refine g_aload_n C hl dX9_takeNumber_61 rfl ?_
            refine g_callVi C hl.1 hR hS rc_X9 md_X9_sign ml_X9_114 (c_X9_sign (q := ((pN2 (f 7) t q most).1 + 1, (pN2 (f 7) t q most).2)) l hI h7 ht b4) rfl rfl ⟨Nat.le_of_ble_eq_true rfl, Nat.le_of_ble_eq_true rfl⟩ ⟨Nat.le_refl _, Nat.le_refl _⟩ (Nat.le_of_ble_eq_true rfl) dX9_takeNumber_62 (fun H locs hR hS => ?_)
            refine g_bipush 48 C dX9_takeNumber_65 (by decide) ?_
            refine g_bipush 57 C dX9_takeNumber_67 (by decide) ?_
            refine g_callSi C hl.1 hR hS md_X9_in ml_X9_28 (c_X9_in l hI (by decide) (by decide)) rfl rfl ⟨Nat.le_of_ble_eq_true rfl, Nat.le_of_ble_eq_true rfl⟩ ⟨Nat.le_refl _, Nat.le_refl _⟩ (Nat.le_of_ble_eq_true rfl) dX9_takeNumber_69 (fun H locs hR hS => ?_)
            refine g_ifw_eq (tgt := 117) C dX9_takeNumber_72 (by decide) (by omega) (fun c72 => ?_) (fun c72 => ?_)
            · -- 72 T
              refine lv_iload_n C.1 C.2.1 dX9_takeNumber_117 rfl (hl.at 2 rfl) ?_
              refine g_iret C hR hS dX9_takeNumber_118 ?_
              refine ⟨_, rfl, ?_, fun z9 => ?_⟩
              · unfold pNq; rw [if_pos ⟨k54, k58, k72, k88⟩, k54]
              · unfold pNv; rw [if_pos ⟨k58, k72, k88⟩]; rfl
            · -- 72 F
              refine g_bipush 10 C dX9_takeNumber_75 (by decide) ?_
              refine g_iload_n C hl dX9_takeNumber_77 rfl ?_
              refine g_imul C dX9_takeNumber_78 ?_
              refine g_aload_n C hl dX9_takeNumber_79 rfl ?_
              refine g_callVi C hl.1 hR hS rc_X9 md_X9_sign ml_X9_114 (c_X9_sign (q := ((pN2 (f 7) t q most).1 + 1, (pN2 (f 7) t q most).2)) l hI h7 ht b4) rfl rfl ⟨Nat.le_of_ble_eq_true rfl, Nat.le_of_ble_eq_true rfl⟩ ⟨Nat.le_refl _, Nat.le_refl _⟩ (Nat.le_of_ble_eq_true rfl) dX9_takeNumber_80 (fun H locs hR hS => ?_)
              refine g_iadd C dX9_takeNumber_83 ?_
              refine g_bipush 48 C dX9_takeNumber_84 (by decide) ?_
              refine g_isub C dX9_takeNumber_86 (by omega) ?_
              refine g_iload_n C hl dX9_takeNumber_87 rfl ?_
              refine g_icmp_gt (tgt := 117) C dX9_takeNumber_88 (by decide) (by omega) (by omega) (fun c88 => ?_) (fun z9 => absurd z9 (by omega))
              refine lv_iload_n C.1 C.2.1 dX9_takeNumber_117 rfl (hl.at 2 rfl) ?_
              refine g_iret C hR hS dX9_takeNumber_118 ?_
              refine ⟨_, rfl, ?_, fun z9 => ?_⟩
              · unfold pNq; rw [if_pos ⟨k54, k58, k72, k88⟩, k54]
              · unfold pNv; rw [if_pos ⟨k58, k72, k88⟩]; rfl
  refine g_aload_n C hl dX9_takeNumber_0 rfl ?_
  refine g_aload_n C hl dX9_takeNumber_1 rfl ?_
  refine g_callVi C hl.1 hR hS rc_X9 md_X9_sign ml_X9_114 (c_X9_sign l hI h7 ht hq) rfl rfl ⟨Nat.le_of_ble_eq_true rfl, Nat.le_of_ble_eq_true rfl⟩ ⟨Nat.le_refl _, Nat.le_refl _⟩ (Nat.le_of_ble_eq_true rfl) dX9_takeNumber_2 (fun H locs hR hS => ?_)
  refine g_bipush 32 C dX9_takeNumber_5 (by decide) ?_
  refine g_icmp_ne (tgt := 14) C dX9_takeNumber_7 (by decide) (by omega) (by omega) (fun c7 => ?_) (fun c7 => ?_)
  · -- 7 T
    refine g_iconst 0 C dX9_takeNumber_14 (by decide) ?_
    refine g_callVv C hl.1 hR hS rc_X9 md_X9_take ml_X9_117 (c_X9_take l hI (by omega) hw9 (by decide)) rfl rfl ⟨Nat.le_of_ble_eq_true rfl, Nat.le_of_ble_eq_true rfl⟩ ⟨Nat.le_refl _, Nat.le_refl _⟩ (Nat.le_of_ble_eq_true rfl) dX9_takeNumber_15 (fun H locs hR hS => ?_)
    have hR : gRep X (gM8 mem (pT f (pN1 (f 7) t q)) z a o k t r) H := by unfold pN1 pTc; (first | rw [if_pos c7] | rw [if_neg c7]); exact hR
    refine g_aload_n C hl dX9_takeNumber_18 rfl ?_
    refine g_callVi C hl.1 hR hS rc_X9 md_X9_sign ml_X9_114 (c_X9_sign l hI h7 ht b1) rfl rfl ⟨Nat.le_of_ble_eq_true rfl, Nat.le_of_ble_eq_true rfl⟩ ⟨Nat.le_refl _, Nat.le_refl _⟩ (Nat.le_of_ble_eq_true rfl) dX9_takeNumber_19 (fun H locs hR hS => ?_)
    refine g_bipush 48 C dX9_takeNumber_22 (by decide) ?_
    refine lv_isub C.1 C.2.1 dX9_takeNumber_24 ?_
    refine g_istore_n C hl dX9_takeNumber_25 (Nat.le_of_ble_eq_true rfl) (fun ls hl => ?_)
    refine g_aload_n C hl dX9_takeNumber_26 rfl ?_
    refine lv_iload_n C.1 C.2.1 dX9_takeNumber_27 rfl (hl.at 2 rfl) ?_
    refine g_iconst 0 C dX9_takeNumber_28 (by decide) ?_
    refine g_bipush 9 C dX9_takeNumber_29 (by decide) ?_
    refine g_callSi C hl.1 hR hS md_X9_in ml_X9_28 (c_X9_in l hI (by decide) (by decide)) rfl rfl ⟨Nat.le_of_ble_eq_true rfl, Nat.le_of_ble_eq_true rfl⟩ ⟨Nat.le_refl _, Nat.le_refl _⟩ (Nat.le_of_ble_eq_true rfl) dX9_takeNumber_31 (fun H locs hR hS => ?_)
    refine g_ifb_eq (tgt := 46) C dX9_takeNumber_34 (by decide) (fun c34 => ?_) (fun c34 => ?_)
    · -- 34 T
      refine g_iconst 0 C dX9_takeNumber_46 (by decide) ?_
      refine g_callVv C hl.1 hR hS rc_X9 md_X9_take ml_X9_117 (c_X9_take l hI (by omega) w1 (by decide)) rfl rfl ⟨Nat.le_of_ble_eq_true rfl, Nat.le_of_ble_eq_true rfl⟩ ⟨Nat.le_refl _, Nat.le_refl _⟩ (Nat.le_of_ble_eq_true rfl) dX9_takeNumber_47 (fun H locs hR hS => ?_)
      have hR : gRep X (gM8 mem (pT f (pN2 (f 7) t q most)) z a o k t r) H := by unfold pN2; rw [if_neg (fun z9 => c34 ((gIw_sub s1).mpr z9.1))]; exact hR
      exact phB _ _ _ hl hR hS
    · -- 34 F
      rw [pk_sub ((gIw_sub s1).mp c34).1] at hl
      refine g_iload_n C hl dX9_takeNumber_37 rfl ?_
      refine g_iload_n C hl dX9_takeNumber_38 rfl ?_
      refine g_icmp_gt (tgt := 46) C dX9_takeNumber_39 (by decide) (by omega) (by omega) (fun c39 => ?_) (fun c39 => ?_)
      · -- 39 T
        refine g_iconst 0 C dX9_takeNumber_46 (by decide) ?_
        refine g_callVv C hl.1 hR hS rc_X9 md_X9_take ml_X9_117 (c_X9_take l hI (by omega) w1 (by decide)) rfl rfl ⟨Nat.le_of_ble_eq_true rfl, Nat.le_of_ble_eq_true rfl⟩ ⟨Nat.le_refl _, Nat.le_refl _⟩ (Nat.le_of_ble_eq_true rfl) dX9_takeNumber_47 (fun H locs hR hS => ?_)
        have hR : gRep X (gM8 mem (pT f (pN2 (f 7) t q most)) z a o k t r) H := by unfold pN2; rw [if_neg (fun z9 => absurd z9.2 (by omega))]; exact hR
        exact phB _ _ _ (by rw [pk_sub ((gIw_sub s1).mp c34).1]; exact hl) hR hS
      · -- 39 F
        refine g_iconst 1 C dX9_takeNumber_42 (by decide) ?_
        refine g_goto (tgt := 47) C dX9_takeNumber_43 (by decide) ?_
        refine g_callVv C hl.1 hR hS rc_X9 md_X9_take ml_X9_117 (c_X9_take l hI (by omega) w1 (by decide)) rfl rfl ⟨Nat.le_of_ble_eq_true rfl, Nat.le_of_ble_eq_true rfl⟩ ⟨Nat.le_refl _, Nat.le_refl _⟩ (Nat.le_of_ble_eq_true rfl) dX9_takeNumber_47 (fun H locs hR hS => ?_)
        have hR : gRep X (gM8 mem (pT f (pN2 (f 7) t q most)) z a o k t r) H := by unfold pN2; rw [if_pos ⟨(gIw_sub s1).mp c34, c39⟩]; exact hR
        exact phB _ _ _ (by rw [pk_sub ((gIw_sub s1).mp c34).1]; exact hl) hR hS
  · -- 7 F
    refine g_iconst 1 C dX9_takeNumber_10 (by decide) ?_
    refine g_goto (tgt := 15) C dX9_takeNumber_11 (by decide) ?_
    refine g_callVv C hl.1 hR hS rc_X9 md_X9_take ml_X9_117 (c_X9_take l hI (by omega) hw9 (by decide)) rfl rfl ⟨Nat.le_of_ble_eq_true rfl, Nat.le_of_ble_eq_true rfl⟩ ⟨Nat.le_refl _, Nat.le_refl _⟩ (Nat.le_of_ble_eq_true rfl) dX9_takeNumber_15 (fun H locs hR hS => ?_)
    have hR : gRep X (gM8 mem (pT f (pN1 (f 7) t q)) z a o k t r) H := by unfold pN1 pTc; (first | rw [if_pos c7] | rw [if_neg c7]); exact hR
    refine g_aload_n C hl dX9_takeNumber_18 rfl ?_
    refine g_callVi C hl.1 hR hS rc_X9 md_X9_sign ml_X9_114 (c_X9_sign l hI h7 ht b1) rfl rfl ⟨Nat.le_of_ble_eq_true rfl, Nat.le_of_ble_eq_true rfl⟩ ⟨Nat.le_refl _, Nat.le_refl _⟩ (Nat.le_of_ble_eq_true rfl) dX9_takeNumber_19 (fun H locs hR hS => ?_)
    refine g_bipush 48 C dX9_takeNumber_22 (by decide) ?_
    refine lv_isub C.1 C.2.1 dX9_takeNumber_24 ?_
    refine g_istore_n C hl dX9_takeNumber_25 (Nat.le_of_ble_eq_true rfl) (fun ls hl => ?_)
    refine g_aload_n C hl dX9_takeNumber_26 rfl ?_
    refine lv_iload_n C.1 C.2.1 dX9_takeNumber_27 rfl (hl.at 2 rfl) ?_
    refine g_iconst 0 C dX9_takeNumber_28 (by decide) ?_
    refine g_bipush 9 C dX9_takeNumber_29 (by decide) ?_
    refine g_callSi C hl.1 hR hS md_X9_in ml_X9_28 (c_X9_in l hI (by decide) (by decide)) rfl rfl ⟨Nat.le_of_ble_eq_true rfl, Nat.le_of_ble_eq_true rfl⟩ ⟨Nat.le_refl _, Nat.le_refl _⟩ (Nat.le_of_ble_eq_true rfl) dX9_takeNumber_31 (fun H locs hR hS => ?_)
    refine g_ifb_eq (tgt := 46) C dX9_takeNumber_34 (by decide) (fun c34 => ?_) (fun c34 => ?_)
    · -- 34 T
      refine g_iconst 0 C dX9_takeNumber_46 (by decide) ?_
      refine g_callVv C hl.1 hR hS rc_X9 md_X9_take ml_X9_117 (c_X9_take l hI (by omega) w1 (by decide)) rfl rfl ⟨Nat.le_of_ble_eq_true rfl, Nat.le_of_ble_eq_true rfl⟩ ⟨Nat.le_refl _, Nat.le_refl _⟩ (Nat.le_of_ble_eq_true rfl) dX9_takeNumber_47 (fun H locs hR hS => ?_)
      have hR : gRep X (gM8 mem (pT f (pN2 (f 7) t q most)) z a o k t r) H := by unfold pN2; rw [if_neg (fun z9 => c34 ((gIw_sub s1).mpr z9.1))]; exact hR
      exact phB _ _ _ hl hR hS
    · -- 34 F
      rw [pk_sub ((gIw_sub s1).mp c34).1] at hl
      refine g_iload_n C hl dX9_takeNumber_37 rfl ?_
      refine g_iload_n C hl dX9_takeNumber_38 rfl ?_
      refine g_icmp_gt (tgt := 46) C dX9_takeNumber_39 (by decide) (by omega) (by omega) (fun c39 => ?_) (fun c39 => ?_)
      · -- 39 T
        refine g_iconst 0 C dX9_takeNumber_46 (by decide) ?_
        refine g_callVv C hl.1 hR hS rc_X9 md_X9_take ml_X9_117 (c_X9_take l hI (by omega) w1 (by decide)) rfl rfl ⟨Nat.le_of_ble_eq_true rfl, Nat.le_of_ble_eq_true rfl⟩ ⟨Nat.le_refl _, Nat.le_refl _⟩ (Nat.le_of_ble_eq_true rfl) dX9_takeNumber_47 (fun H locs hR hS => ?_)
        have hR : gRep X (gM8 mem (pT f (pN2 (f 7) t q most)) z a o k t r) H := by unfold pN2; rw [if_neg (fun z9 => absurd z9.2 (by omega))]; exact hR
        exact phB _ _ _ (by rw [pk_sub ((gIw_sub s1).mp c34).1]; exact hl) hR hS
      · -- 39 F
        refine g_iconst 1 C dX9_takeNumber_42 (by decide) ?_
        refine g_goto (tgt := 47) C dX9_takeNumber_43 (by decide) ?_
        refine g_callVv C hl.1 hR hS rc_X9 md_X9_take ml_X9_117 (c_X9_take l hI (by omega) w1 (by decide)) rfl rfl ⟨Nat.le_of_ble_eq_true rfl, Nat.le_of_ble_eq_true rfl⟩ ⟨Nat.le_refl _, Nat.le_refl _⟩ (Nat.le_of_ble_eq_true rfl) dX9_takeNumber_47 (fun H locs hR hS => ?_)
        have hR : gRep X (gM8 mem (pT f (pN2 (f 7) t q most)) z a o k t r) H := by unfold pN2; rw [if_pos ⟨(gIw_sub s1).mp c34, c39⟩]; exact hR
        exact phB _ _ _ (by rw [pk_sub ((gIw_sub s1).mp c34).1]; exact hl) hR hS
theorem pTc_0 {n : Nat} {t : Nat → Nat} {q : Nat × Nat} {ch : Nat} (h : (pTc n t q ch).2 = 0) : q.2 = 0 := by
  unfold pTc pTk at h
  by_cases c : q.2 = 0
  · exact c
  · rw [if_neg (fun z => c z.1)] at h
    cases h
theorem pN2_0 {n : Nat} {t : Nat → Nat} {q : Nat × Nat} {most : Nat} (h : (pN2 n t q most).2 = 0) : q.2 = 0 := by
  have h1 : (pN1 n t q).2 = 0 := by
    unfold pN2 pTk at h
    by_cases c : (pN1 n t q).2 = 0
    · exact c
    · rw [if_neg (fun z => c z.1)] at h
      cases h
  exact pTc_0 h1
theorem pNq_0 {n : Nat} {t : Nat → Nat} {q : Nat × Nat} {most : Nat} (h : (pNq n t q most).2 = 0) : q.2 = 0 := by
  unfold pNq at h
  by_cases c : (pN2 n t q most).2 = 0 ∧ 0 < pNa n t q ∧ (48 ≤ pSg n t (pN2 n t q most).1 ∧ pSg n t (pN2 n t q most).1 ≤ 57) ∧ pNb n t q most ≤ most
  · exact pN2_0 c.1
  · rw [if_neg c] at h
    exact pN2_0 h
set_option maxRecDepth 100000 in
set_option maxHeartbeats 4000000 in
/-- takeOrder -/
theorem c_X9_takeOrder (l : Launch) {X : gX} (hI : gInj X) {mem : gM} {f z a o k t r : Nat → Nat} {p9 : Nat} (h7 : f 7 ≤ 80) (ht : ∀ j, j < f 7 → t j < 65536) (hp : p9 ≤ f 7) : gMt l yX9_takeOrder cX9_takeOrder 2 (some .int) 2 45 X [.ref (gAd X 8 0)] (gM8 mem (pT f ((p9, 0))) z a o k t r) (fun v9 m9 => ∃ x : Int32, v9 = some (.int x) ∧ m9 = gM8 mem (pT f (pOq (f 7) t p9)) z a o k t r ∧ ((pOq (f 7) t p9).2 = 0 → x = nI (pOv (f 7) t p9))) := by
  refine gMt.of (own := RX9) (by decide) rfl hI (by simp [Value.category]) (Nat.le_of_ble_eq_true rfl) ?_
  intro p e s m args below meth c ls H locs C hnm hl hR hS
  have s0 : pSg (f 7) t ((p9, 0) : Nat × Nat).1 < 65536 := pSg_lt ht _
  refine g_aload_n C hl dX9_takeOrder_0 rfl ?_
  refine g_callVi C hl.1 hR hS rc_X9 md_X9_sign ml_X9_114 (c_X9_sign (q := (p9, 0)) l hI h7 ht hp) rfl rfl ⟨Nat.le_of_ble_eq_true rfl, Nat.le_of_ble_eq_true rfl⟩ ⟨Nat.le_refl _, Nat.le_refl _⟩ (Nat.le_of_ble_eq_true rfl) dX9_takeOrder_1 (fun H locs hR hS => ?_)
  refine g_istore_n C hl dX9_takeOrder_4 (Nat.le_of_ble_eq_true rfl) (fun ls hl => ?_)
  have hl : gL ls [some (.ref (gAd X 8 0)), some (.int (nI (pSg (f 7) t p9)))] := hl
  have s0 : pSg (f 7) t p9 < 65536 := s0
  refine g_aload_n C hl dX9_takeOrder_5 rfl ?_
  refine g_iload_n C hl dX9_takeOrder_6 rfl ?_
  refine g_bipush 104 C dX9_takeOrder_7 (by decide) ?_
  refine g_icmp_eq (tgt := 60) C dX9_takeOrder_9 (by decide) (by omega) (by omega) (fun c9 => ?_) (fun c9 => ?_)
  · -- 9 T
    refine g_iconst 1 C dX9_takeOrder_60 (by decide) ?_
    refine g_goto (tgt := 65) C dX9_takeOrder_61 (by decide) ?_
    refine g_callVv C hl.1 hR hS rc_X9 md_X9_take ml_X9_117 (c_X9_take (q := (p9, 0)) l hI (by show p9 ≤ 80; omega) (Nat.zero_lt_succ 1) (by decide)) rfl rfl ⟨Nat.le_of_ble_eq_true rfl, Nat.le_of_ble_eq_true rfl⟩ ⟨Nat.le_refl _, Nat.le_refl _⟩ (Nat.le_of_ble_eq_true rfl) dX9_takeOrder_65 (fun H locs hR hS => ?_)
    have hR : gRep X (gM8 mem (pT f ((p9 + 1, 0))) z a o k t r) H := hR
    have hp1 : ((p9 + 1, 0) : Nat × Nat).1 ≤ f 7 := pSg_in (t := t) (by omega)
    have s1 : pSg (f 7) t ((p9 + 1, 0) : Nat × Nat).1 < 65536 := pSg_lt ht _
    refine g_aload_n C hl dX9_takeOrder_68 rfl ?_
    refine rt_9 C hR fl_X9_111 dX9_takeOrder_69 ?_
    rw [show pT f (p9 + 1, 0) 9 = 0 from rfl]
    refine g_if_eq (tgt := 77) C dX9_takeOrder_72 (by decide) (by omega) (fun c72 => ?_) (fun z9 => absurd z9 (by omega))
    rw [c9] at hl
    refine g_iload_n C hl dX9_takeOrder_77 rfl ?_
    refine lv_tableIn (tgt := 196) C.1 C.2.1 dX9_takeOrder_78 (by decide) (by decide) rfl (by decide) ?_
    refine g_aload_n C hl dX9_takeOrder_196 rfl ?_
    refine g_bipush 97 C dX9_takeOrder_197 (by decide) ?_
    refine g_bipush 108 C dX9_takeOrder_199 (by decide) ?_
    refine g_bipush 116 C dX9_takeOrder_201 (by decide) ?_
    refine g_iconst 0 C dX9_takeOrder_203 (by decide) ?_
    refine g_callVv C hl.1 hR hS rc_X9 md_X9_takeRest ml_X9_121 (c_X9_takeRest (q := (p9 + 1, 0)) l hI h7 ht hp1 (Nat.zero_lt_succ 1) (by decide) (by decide) (by decide) (by decide) (by decide) (by decide)) rfl rfl ⟨Nat.le_of_ble_eq_true rfl, Nat.le_of_ble_eq_true rfl⟩ ⟨Nat.le_refl _, Nat.le_refl _⟩ (Nat.le_of_ble_eq_true rfl) dX9_takeOrder_204 (fun H locs hR hS => ?_)
    refine g_iconst 0 C dX9_takeOrder_207 (by decide) ?_
    refine g_iret C hR hS dX9_takeOrder_208 ?_
    refine ⟨_, rfl, ?_, fun z9 => ?_⟩
    · unfold pOq
      rw [if_pos c9]
    · unfold pOv
      rw [if_pos c9]
  · -- 9 F
    refine g_iload_n C hl dX9_takeOrder_12 rfl ?_
    refine g_bipush 108 C dX9_takeOrder_13 (by decide) ?_
    refine g_icmp_eq (tgt := 60) C dX9_takeOrder_15 (by decide) (by omega) (by omega) (fun c15 => ?_) (fun c15 => ?_)
    · -- 15 T
      refine g_iconst 1 C dX9_takeOrder_60 (by decide) ?_
      refine g_goto (tgt := 65) C dX9_takeOrder_61 (by decide) ?_
      refine g_callVv C hl.1 hR hS rc_X9 md_X9_take ml_X9_117 (c_X9_take (q := (p9, 0)) l hI (by show p9 ≤ 80; omega) (Nat.zero_lt_succ 1) (by decide)) rfl rfl ⟨Nat.le_of_ble_eq_true rfl, Nat.le_of_ble_eq_true rfl⟩ ⟨Nat.le_refl _, Nat.le_refl _⟩ (Nat.le_of_ble_eq_true rfl) dX9_takeOrder_65 (fun H locs hR hS => ?_)
      have hR : gRep X (gM8 mem (pT f ((p9 + 1, 0))) z a o k t r) H := hR
      have hp1 : ((p9 + 1, 0) : Nat × Nat).1 ≤ f 7 := pSg_in (t := t) (by omega)
      have s1 : pSg (f 7) t ((p9 + 1, 0) : Nat × Nat).1 < 65536 := pSg_lt ht _
      refine g_aload_n C hl dX9_takeOrder_68 rfl ?_
      refine rt_9 C hR fl_X9_111 dX9_takeOrder_69 ?_
      rw [show pT f (p9 + 1, 0) 9 = 0 from rfl]
      refine g_if_eq (tgt := 77) C dX9_takeOrder_72 (by decide) (by omega) (fun c72 => ?_) (fun z9 => absurd z9 (by omega))
      rw [c15] at hl
      refine g_iload_n C hl dX9_takeOrder_77 rfl ?_
      refine lv_tableIn (tgt := 209) C.1 C.2.1 dX9_takeOrder_78 (by decide) (by decide) rfl (by decide) ?_
      refine g_aload_n C hl dX9_takeOrder_209 rfl ?_
      refine g_bipush 111 C dX9_takeOrder_210 (by decide) ?_
      refine g_bipush 97 C dX9_takeOrder_212 (by decide) ?_
      refine g_bipush 100 C dX9_takeOrder_214 (by decide) ?_
      refine g_iconst 0 C dX9_takeOrder_216 (by decide) ?_
      refine g_callVv C hl.1 hR hS rc_X9 md_X9_takeRest ml_X9_121 (c_X9_takeRest (q := (p9 + 1, 0)) l hI h7 ht hp1 (Nat.zero_lt_succ 1) (by decide) (by decide) (by decide) (by decide) (by decide) (by decide)) rfl rfl ⟨Nat.le_of_ble_eq_true rfl, Nat.le_of_ble_eq_true rfl⟩ ⟨Nat.le_refl _, Nat.le_refl _⟩ (Nat.le_of_ble_eq_true rfl) dX9_takeOrder_217 (fun H locs hR hS => ?_)
      refine g_bipush 100 C dX9_takeOrder_220 (by decide) ?_
      refine g_aload_n C hl dX9_takeOrder_222 rfl ?_
      refine g_bipush 99 C dX9_takeOrder_223 (by decide) ?_
      refine g_callV C hl.1 hR hS rc_X9 md_X9_takeNumber ml_X9_125 (c_X9_takeNumber (q := pRs (f 7) t (p9 + 1, 0) 111 97 100 0) l hI h7 ht (pRs_le hp1 (by decide) (by decide)).1 (pRs_le hp1 (by decide) (by decide)).2 (by decide)) rfl rfl ⟨Nat.le_of_ble_eq_true rfl, Nat.le_of_ble_eq_true rfl⟩ ⟨Nat.le_refl _, Nat.le_refl _⟩ (Nat.le_of_ble_eq_true rfl) dX9_takeOrder_225 (fun v9 m9 H locs hp9 hR hS => ?_)
      obtain ⟨x1, e1, e2, hx1⟩ := hp9
      subst e1
      subst e2
      refine lv_iadd C.1 C.2.1 dX9_takeOrder_228 ?_
      refine g_iret C hR hS dX9_takeOrder_229 ?_
      refine ⟨_, rfl, ?_, fun z9 => ?_⟩
      · unfold pOq
        rw [if_neg c9, if_pos c15]
      · unfold pOq at z9
        rw [if_neg c9, if_pos c15] at z9
        unfold pOv
        rw [if_neg c9, if_pos c15, hx1 z9, nI_add]
    · -- 15 F
      refine g_iload_n C hl dX9_takeOrder_18 rfl ?_
      refine g_bipush 97 C dX9_takeOrder_19 (by decide) ?_
      refine g_icmp_eq (tgt := 60) C dX9_takeOrder_21 (by decide) (by omega) (by omega) (fun c21 => ?_) (fun c21 => ?_)
      · -- 21 T
        refine g_iconst 1 C dX9_takeOrder_60 (by decide) ?_
        refine g_goto (tgt := 65) C dX9_takeOrder_61 (by decide) ?_
        refine g_callVv C hl.1 hR hS rc_X9 md_X9_take ml_X9_117 (c_X9_take (q := (p9, 0)) l hI (by show p9 ≤ 80; omega) (Nat.zero_lt_succ 1) (by decide)) rfl rfl ⟨Nat.le_of_ble_eq_true rfl, Nat.le_of_ble_eq_true rfl⟩ ⟨Nat.le_refl _, Nat.le_refl _⟩ (Nat.le_of_ble_eq_true rfl) dX9_takeOrder_65 (fun H locs hR hS => ?_)
        have hR : gRep X (gM8 mem (pT f ((p9 + 1, 0))) z a o k t r) H := hR
        have hp1 : ((p9 + 1, 0) : Nat × Nat).1 ≤ f 7 := pSg_in (t := t) (by omega)
        have s1 : pSg (f 7) t ((p9 + 1, 0) : Nat × Nat).1 < 65536 := pSg_lt ht _
        refine g_aload_n C hl dX9_takeOrder_68 rfl ?_
        refine rt_9 C hR fl_X9_111 dX9_takeOrder_69 ?_
        rw [show pT f (p9 + 1, 0) 9 = 0 from rfl]
        refine g_if_eq (tgt := 77) C dX9_takeOrder_72 (by decide) (by omega) (fun c72 => ?_) (fun z9 => absurd z9 (by omega))
        rw [c21] at hl
        refine g_iload_n C hl dX9_takeOrder_77 rfl ?_
        refine lv_tableIn (tgt := 230) C.1 C.2.1 dX9_takeOrder_78 (by decide) (by decide) rfl (by decide) ?_
        refine g_aload_n C hl dX9_takeOrder_230 rfl ?_
        refine g_bipush 100 C dX9_takeOrder_231 (by decide) ?_
        refine g_bipush 100 C dX9_takeOrder_233 (by decide) ?_
        refine g_iconst 0 C dX9_takeOrder_235 (by decide) ?_
        refine g_iconst 0 C dX9_takeOrder_236 (by decide) ?_
        refine g_callVv C hl.1 hR hS rc_X9 md_X9_takeRest ml_X9_121 (c_X9_takeRest (q := (p9 + 1, 0)) l hI h7 ht hp1 (Nat.zero_lt_succ 1) (by decide) (by decide) (by decide) (by decide) (by decide) (by decide)) rfl rfl ⟨Nat.le_of_ble_eq_true rfl, Nat.le_of_ble_eq_true rfl⟩ ⟨Nat.le_refl _, Nat.le_refl _⟩ (Nat.le_of_ble_eq_true rfl) dX9_takeOrder_237 (fun H locs hR hS => ?_)
        refine g_sipush 200 C dX9_takeOrder_240 (by decide) ?_
        refine g_aload_n C hl dX9_takeOrder_243 rfl ?_
        refine g_bipush 63 C dX9_takeOrder_244 (by decide) ?_
        refine g_callV C hl.1 hR hS rc_X9 md_X9_takeNumber ml_X9_125 (c_X9_takeNumber (q := pRs (f 7) t (p9 + 1, 0) 100 100 0 0) l hI h7 ht (pRs_le hp1 (by decide) (by decide)).1 (pRs_le hp1 (by decide) (by decide)).2 (by decide)) rfl rfl ⟨Nat.le_of_ble_eq_true rfl, Nat.le_of_ble_eq_true rfl⟩ ⟨Nat.le_refl _, Nat.le_refl _⟩ (Nat.le_of_ble_eq_true rfl) dX9_takeOrder_246 (fun v9 m9 H locs hp9 hR hS => ?_)
        obtain ⟨x1, e1, e2, hx1⟩ := hp9
        subst e1
        subst e2
        refine lv_iadd C.1 C.2.1 dX9_takeOrder_249 ?_
        refine g_iret C hR hS dX9_takeOrder_250 ?_
        refine ⟨_, rfl, ?_, fun z9 => ?_⟩
        · unfold pOq
          rw [if_neg c9, if_neg c15, if_pos c21]
        · unfold pOq at z9
          rw [if_neg c9, if_neg c15, if_pos c21] at z9
          unfold pOv
          rw [if_neg c9, if_neg c15, if_pos c21, hx1 z9, nI_add]
      · -- 21 F
        refine g_iload_n C hl dX9_takeOrder_24 rfl ?_
        refine g_bipush 115 C dX9_takeOrder_25 (by decide) ?_
        refine g_icmp_eq (tgt := 60) C dX9_takeOrder_27 (by decide) (by omega) (by omega) (fun c27 => ?_) (fun c27 => ?_)
        · -- 27 T
          refine g_iconst 1 C dX9_takeOrder_60 (by decide) ?_
          refine g_goto (tgt := 65) C dX9_takeOrder_61 (by decide) ?_
          refine g_callVv C hl.1 hR hS rc_X9 md_X9_take ml_X9_117 (c_X9_take (q := (p9, 0)) l hI (by show p9 ≤ 80; omega) (Nat.zero_lt_succ 1) (by decide)) rfl rfl ⟨Nat.le_of_ble_eq_true rfl, Nat.le_of_ble_eq_true rfl⟩ ⟨Nat.le_refl _, Nat.le_refl _⟩ (Nat.le_of_ble_eq_true rfl) dX9_takeOrder_65 (fun H locs hR hS => ?_)
          have hR : gRep X (gM8 mem (pT f ((p9 + 1, 0))) z a o k t r) H := hR
          have hp1 : ((p9 + 1, 0) : Nat × Nat).1 ≤ f 7 := pSg_in (t := t) (by omega)
          have s1 : pSg (f 7) t ((p9 + 1, 0) : Nat × Nat).1 < 65536 := pSg_lt ht _
          refine g_aload_n C hl dX9_takeOrder_68 rfl ?_
          refine rt_9 C hR fl_X9_111 dX9_takeOrder_69 ?_
          rw [show pT f (p9 + 1, 0) 9 = 0 from rfl]
          refine g_if_eq (tgt := 77) C dX9_takeOrder_72 (by decide) (by omega) (fun c72 => ?_) (fun z9 => absurd z9 (by omega))
          rw [c27] at hl
          refine g_iload_n C hl dX9_takeOrder_77 rfl ?_
          refine lv_tableIn (tgt := 364) C.1 C.2.1 dX9_takeOrder_78 (by decide) (by decide) rfl (by decide) ?_
          refine g_aload_n C hl dX9_takeOrder_364 rfl ?_
          refine g_callVi C hl.1 hR hS rc_X9 md_X9_sign ml_X9_114 (c_X9_sign (q := (p9 + 1, 0)) l hI h7 ht hp1) rfl rfl ⟨Nat.le_of_ble_eq_true rfl, Nat.le_of_ble_eq_true rfl⟩ ⟨Nat.le_refl _, Nat.le_refl _⟩ (Nat.le_of_ble_eq_true rfl) dX9_takeOrder_365 (fun H locs hR hS => ?_)
          refine g_bipush 116 C dX9_takeOrder_368 (by decide) ?_
          refine g_icmp_ne (tgt := 396) C dX9_takeOrder_370 (by decide) (by omega) (by omega) (fun c370 => ?_) (fun c370 => ?_)
          · -- 370 T
            refine g_aload_n C hl dX9_takeOrder_396 rfl ?_
            refine g_bipush 104 C dX9_takeOrder_397 (by decide) ?_
            refine g_bipush 111 C dX9_takeOrder_399 (by decide) ?_
            refine g_bipush 119 C dX9_takeOrder_401 (by decide) ?_
            refine g_iconst 0 C dX9_takeOrder_403 (by decide) ?_
            refine g_callVv C hl.1 hR hS rc_X9 md_X9_takeRest ml_X9_121 (c_X9_takeRest (q := (p9 + 1, 0)) l hI h7 ht hp1 (Nat.zero_lt_succ 1) (by decide) (by decide) (by decide) (by decide) (by decide) (by decide)) rfl rfl ⟨Nat.le_of_ble_eq_true rfl, Nat.le_of_ble_eq_true rfl⟩ ⟨Nat.le_refl _, Nat.le_refl _⟩ (Nat.le_of_ble_eq_true rfl) dX9_takeOrder_404 (fun H locs hR hS => ?_)
            refine g_sipush 600 C dX9_takeOrder_407 (by decide) ?_
            refine g_bipush 10 C dX9_takeOrder_410 (by decide) ?_
            refine g_aload_n C hl dX9_takeOrder_412 rfl ?_
            refine g_iconst 3 C dX9_takeOrder_413 (by decide) ?_
            refine g_callV C hl.1 hR hS rc_X9 md_X9_takeNumber ml_X9_125 (c_X9_takeNumber (q := pRs (f 7) t (p9 + 1, 0) 104 111 119 0) l hI h7 ht (pRs_le hp1 (by decide) (by decide)).1 (pRs_le hp1 (by decide) (by decide)).2 (by decide)) rfl rfl ⟨Nat.le_of_ble_eq_true rfl, Nat.le_of_ble_eq_true rfl⟩ ⟨Nat.le_refl _, Nat.le_refl _⟩ (Nat.le_of_ble_eq_true rfl) dX9_takeOrder_414 (fun v9 m9 H locs hp9 hR hS => ?_)
            obtain ⟨x1, e1, e2, hx1⟩ := hp9
            subst e1
            subst e2
            refine lv_imul C.1 C.2.1 dX9_takeOrder_417 ?_
            refine lv_iadd C.1 C.2.1 dX9_takeOrder_418 ?_
            refine g_aload_n C hl dX9_takeOrder_419 rfl ?_
            refine g_bipush 7 C dX9_takeOrder_420 (by decide) ?_
            refine g_callV C hl.1 hR hS rc_X9 md_X9_takeNumber ml_X9_125 (c_X9_takeNumber (q := pNq (f 7) t (pRs (f 7) t (p9 + 1, 0) 104 111 119 0) 3) l hI h7 ht (pNq_le (pRs_le hp1 (by decide) (by decide)).1).1 (pNq_le (pRs_le hp1 (by decide) (by decide)).1).2 (by decide)) rfl rfl ⟨Nat.le_of_ble_eq_true rfl, Nat.le_of_ble_eq_true rfl⟩ ⟨Nat.le_refl _, Nat.le_refl _⟩ (Nat.le_of_ble_eq_true rfl) dX9_takeOrder_422 (fun v9 m9 H locs hp9 hR hS => ?_)
            obtain ⟨x2, e1, e2, hx2⟩ := hp9
            subst e1
            subst e2
            refine lv_iadd C.1 C.2.1 dX9_takeOrder_425 ?_
            refine g_iret C hR hS dX9_takeOrder_426 ?_
            refine ⟨_, rfl, ?_, fun z9 => ?_⟩
            · unfold pOq
              rw [if_neg c9, if_neg c15, if_neg c21, if_pos c27, if_neg c370]
            · unfold pOq at z9
              rw [if_neg c9, if_neg c15, if_neg c21, if_pos c27, if_neg c370] at z9
              unfold pOv
              rw [if_neg c9, if_neg c15, if_neg c21, if_pos c27, if_neg c370, hx2 z9, hx1 (pNq_0 z9), pk_mul, nI_add, nI_add]
          · -- 370 F
            refine g_aload_n C hl dX9_takeOrder_373 rfl ?_
            refine g_bipush 116 C dX9_takeOrder_374 (by decide) ?_
            refine g_bipush 111 C dX9_takeOrder_376 (by decide) ?_
            refine g_bipush 114 C dX9_takeOrder_378 (by decide) ?_
            refine g_bipush 101 C dX9_takeOrder_380 (by decide) ?_
            refine g_callVv C hl.1 hR hS rc_X9 md_X9_takeRest ml_X9_121 (c_X9_takeRest (q := (p9 + 1, 0)) l hI h7 ht hp1 (Nat.zero_lt_succ 1) (by decide) (by decide) (by decide) (by decide) (by decide) (by decide)) rfl rfl ⟨Nat.le_of_ble_eq_true rfl, Nat.le_of_ble_eq_true rfl⟩ ⟨Nat.le_refl _, Nat.le_refl _⟩ (Nat.le_of_ble_eq_true rfl) dX9_takeOrder_382 (fun H locs hR hS => ?_)
            refine g_sipush 300 C dX9_takeOrder_385 (by decide) ?_
            refine g_aload_n C hl dX9_takeOrder_388 rfl ?_
            refine g_bipush 63 C dX9_takeOrder_389 (by decide) ?_
            refine g_callV C hl.1 hR hS rc_X9 md_X9_takeNumber ml_X9_125 (c_X9_takeNumber (q := pRs (f 7) t (p9 + 1, 0) 116 111 114 101) l hI h7 ht (pRs_le hp1 (by decide) (by decide)).1 (pRs_le hp1 (by decide) (by decide)).2 (by decide)) rfl rfl ⟨Nat.le_of_ble_eq_true rfl, Nat.le_of_ble_eq_true rfl⟩ ⟨Nat.le_refl _, Nat.le_refl _⟩ (Nat.le_of_ble_eq_true rfl) dX9_takeOrder_391 (fun v9 m9 H locs hp9 hR hS => ?_)
            obtain ⟨x1, e1, e2, hx1⟩ := hp9
            subst e1
            subst e2
            refine lv_iadd C.1 C.2.1 dX9_takeOrder_394 ?_
            refine g_iret C hR hS dX9_takeOrder_395 ?_
            refine ⟨_, rfl, ?_, fun z9 => ?_⟩
            · unfold pOq
              rw [if_neg c9, if_neg c15, if_neg c21, if_pos c27, if_pos c370]
            · unfold pOq at z9
              rw [if_neg c9, if_neg c15, if_neg c21, if_pos c27, if_pos c370] at z9
              unfold pOv
              rw [if_neg c9, if_neg c15, if_neg c21, if_pos c27, if_pos c370, hx1 z9, nI_add]
        · -- 27 F
          refine g_iload_n C hl dX9_takeOrder_30 rfl ?_
          refine g_bipush 106 C dX9_takeOrder_31 (by decide) ?_
          refine g_icmp_eq (tgt := 60) C dX9_takeOrder_33 (by decide) (by omega) (by omega) (fun c33 => ?_) (fun c33 => ?_)
          · -- 33 T
            refine g_iconst 1 C dX9_takeOrder_60 (by decide) ?_
            refine g_goto (tgt := 65) C dX9_takeOrder_61 (by decide) ?_
            refine g_callVv C hl.1 hR hS rc_X9 md_X9_take ml_X9_117 (c_X9_take (q := (p9, 0)) l hI (by show p9 ≤ 80; omega) (Nat.zero_lt_succ 1) (by decide)) rfl rfl ⟨Nat.le_of_ble_eq_true rfl, Nat.le_of_ble_eq_true rfl⟩ ⟨Nat.le_refl _, Nat.le_refl _⟩ (Nat.le_of_ble_eq_true rfl) dX9_takeOrder_65 (fun H locs hR hS => ?_)
            have hR : gRep X (gM8 mem (pT f ((p9 + 1, 0))) z a o k t r) H := hR
            have hp1 : ((p9 + 1, 0) : Nat × Nat).1 ≤ f 7 := pSg_in (t := t) (by omega)
            have s1 : pSg (f 7) t ((p9 + 1, 0) : Nat × Nat).1 < 65536 := pSg_lt ht _
            refine g_aload_n C hl dX9_takeOrder_68 rfl ?_
            refine rt_9 C hR fl_X9_111 dX9_takeOrder_69 ?_
            rw [show pT f (p9 + 1, 0) 9 = 0 from rfl]
            refine g_if_eq (tgt := 77) C dX9_takeOrder_72 (by decide) (by omega) (fun c72 => ?_) (fun z9 => absurd z9 (by omega))
            rw [c33] at hl
            refine g_iload_n C hl dX9_takeOrder_77 rfl ?_
            refine lv_tableIn (tgt := 251) C.1 C.2.1 dX9_takeOrder_78 (by decide) (by decide) rfl (by decide) ?_
            refine g_aload_n C hl dX9_takeOrder_251 rfl ?_
            refine g_bipush 117 C dX9_takeOrder_252 (by decide) ?_
            refine g_bipush 109 C dX9_takeOrder_254 (by decide) ?_
            refine g_bipush 112 C dX9_takeOrder_256 (by decide) ?_
            refine g_iconst 0 C dX9_takeOrder_258 (by decide) ?_
            refine g_callVv C hl.1 hR hS rc_X9 md_X9_takeRest ml_X9_121 (c_X9_takeRest (q := (p9 + 1, 0)) l hI h7 ht hp1 (Nat.zero_lt_succ 1) (by decide) (by decide) (by decide) (by decide) (by decide) (by decide)) rfl rfl ⟨Nat.le_of_ble_eq_true rfl, Nat.le_of_ble_eq_true rfl⟩ ⟨Nat.le_refl _, Nat.le_refl _⟩ (Nat.le_of_ble_eq_true rfl) dX9_takeOrder_259 (fun H locs hR hS => ?_)
            refine g_sipush 400 C dX9_takeOrder_262 (by decide) ?_
            refine g_aload_n C hl dX9_takeOrder_265 rfl ?_
            refine g_bipush 63 C dX9_takeOrder_266 (by decide) ?_
            refine g_callV C hl.1 hR hS rc_X9 md_X9_takeNumber ml_X9_125 (c_X9_takeNumber (q := pRs (f 7) t (p9 + 1, 0) 117 109 112 0) l hI h7 ht (pRs_le hp1 (by decide) (by decide)).1 (pRs_le hp1 (by decide) (by decide)).2 (by decide)) rfl rfl ⟨Nat.le_of_ble_eq_true rfl, Nat.le_of_ble_eq_true rfl⟩ ⟨Nat.le_refl _, Nat.le_refl _⟩ (Nat.le_of_ble_eq_true rfl) dX9_takeOrder_268 (fun v9 m9 H locs hp9 hR hS => ?_)
            obtain ⟨x1, e1, e2, hx1⟩ := hp9
            subst e1
            subst e2
            refine lv_iadd C.1 C.2.1 dX9_takeOrder_271 ?_
            refine g_iret C hR hS dX9_takeOrder_272 ?_
            refine ⟨_, rfl, ?_, fun z9 => ?_⟩
            · unfold pOq
              rw [if_neg c9, if_neg c15, if_neg c21, if_neg c27, if_pos c33]
            · unfold pOq at z9
              rw [if_neg c9, if_neg c15, if_neg c21, if_neg c27, if_pos c33] at z9
              unfold pOv
              rw [if_neg c9, if_neg c15, if_neg c21, if_neg c27, if_pos c33, hx1 z9, nI_add]
          · -- 33 F
            refine g_iload_n C hl dX9_takeOrder_36 rfl ?_
            refine g_bipush 122 C dX9_takeOrder_37 (by decide) ?_
            refine g_icmp_eq (tgt := 60) C dX9_takeOrder_39 (by decide) (by omega) (by omega) (fun c39 => ?_) (fun c39 => ?_)
            · -- 39 T
              refine g_iconst 1 C dX9_takeOrder_60 (by decide) ?_
              refine g_goto (tgt := 65) C dX9_takeOrder_61 (by decide) ?_
              refine g_callVv C hl.1 hR hS rc_X9 md_X9_take ml_X9_117 (c_X9_take (q := (p9, 0)) l hI (by show p9 ≤ 80; omega) (Nat.zero_lt_succ 1) (by decide)) rfl rfl ⟨Nat.le_of_ble_eq_true rfl, Nat.le_of_ble_eq_true rfl⟩ ⟨Nat.le_refl _, Nat.le_refl _⟩ (Nat.le_of_ble_eq_true rfl) dX9_takeOrder_65 (fun H locs hR hS => ?_)
              have hR : gRep X (gM8 mem (pT f ((p9 + 1, 0))) z a o k t r) H := hR
              have hp1 : ((p9 + 1, 0) : Nat × Nat).1 ≤ f 7 := pSg_in (t := t) (by omega)
              have s1 : pSg (f 7) t ((p9 + 1, 0) : Nat × Nat).1 < 65536 := pSg_lt ht _
              refine g_aload_n C hl dX9_takeOrder_68 rfl ?_
              refine rt_9 C hR fl_X9_111 dX9_takeOrder_69 ?_
              rw [show pT f (p9 + 1, 0) 9 = 0 from rfl]
              refine g_if_eq (tgt := 77) C dX9_takeOrder_72 (by decide) (by omega) (fun c72 => ?_) (fun z9 => absurd z9 (by omega))
              rw [c39] at hl
              refine g_iload_n C hl dX9_takeOrder_77 rfl ?_
              refine lv_tableIn (tgt := 273) C.1 C.2.1 dX9_takeOrder_78 (by decide) (by decide) rfl (by decide) ?_
              refine g_aload_n C hl dX9_takeOrder_273 rfl ?_
              refine g_bipush 101 C dX9_takeOrder_274 (by decide) ?_
              refine g_bipush 114 C dX9_takeOrder_276 (by decide) ?_
              refine g_bipush 111 C dX9_takeOrder_278 (by decide) ?_
              refine g_iconst 0 C dX9_takeOrder_280 (by decide) ?_
              refine g_callVv C hl.1 hR hS rc_X9 md_X9_takeRest ml_X9_121 (c_X9_takeRest (q := (p9 + 1, 0)) l hI h7 ht hp1 (Nat.zero_lt_succ 1) (by decide) (by decide) (by decide) (by decide) (by decide) (by decide)) rfl rfl ⟨Nat.le_of_ble_eq_true rfl, Nat.le_of_ble_eq_true rfl⟩ ⟨Nat.le_refl _, Nat.le_refl _⟩ (Nat.le_of_ble_eq_true rfl) dX9_takeOrder_281 (fun H locs hR hS => ?_)
              refine g_sipush 500 C dX9_takeOrder_284 (by decide) ?_
              refine g_aload_n C hl dX9_takeOrder_287 rfl ?_
              refine g_bipush 63 C dX9_takeOrder_288 (by decide) ?_
              refine g_callV C hl.1 hR hS rc_X9 md_X9_takeNumber ml_X9_125 (c_X9_takeNumber (q := pRs (f 7) t (p9 + 1, 0) 101 114 111 0) l hI h7 ht (pRs_le hp1 (by decide) (by decide)).1 (pRs_le hp1 (by decide) (by decide)).2 (by decide)) rfl rfl ⟨Nat.le_of_ble_eq_true rfl, Nat.le_of_ble_eq_true rfl⟩ ⟨Nat.le_refl _, Nat.le_refl _⟩ (Nat.le_of_ble_eq_true rfl) dX9_takeOrder_290 (fun v9 m9 H locs hp9 hR hS => ?_)
              obtain ⟨x1, e1, e2, hx1⟩ := hp9
              subst e1
              subst e2
              refine lv_iadd C.1 C.2.1 dX9_takeOrder_293 ?_
              refine g_iret C hR hS dX9_takeOrder_294 ?_
              refine ⟨_, rfl, ?_, fun z9 => ?_⟩
              · unfold pOq
                rw [if_neg c9, if_neg c15, if_neg c21, if_neg c27, if_neg c33, if_pos c39]
              · unfold pOq at z9
                rw [if_neg c9, if_neg c15, if_neg c21, if_neg c27, if_neg c33, if_pos c39] at z9
                unfold pOv
                rw [if_neg c9, if_neg c15, if_neg c21, if_neg c27, if_neg c33, if_pos c39, hx1 z9, nI_add]
            · -- 39 F
              refine g_iload_n C hl dX9_takeOrder_42 rfl ?_
              refine g_bipush 99 C dX9_takeOrder_43 (by decide) ?_
              refine g_icmp_eq (tgt := 60) C dX9_takeOrder_45 (by decide) (by omega) (by omega) (fun c45 => ?_) (fun c45 => ?_)
              · -- 45 T
                refine g_iconst 1 C dX9_takeOrder_60 (by decide) ?_
                refine g_goto (tgt := 65) C dX9_takeOrder_61 (by decide) ?_
                refine g_callVv C hl.1 hR hS rc_X9 md_X9_take ml_X9_117 (c_X9_take (q := (p9, 0)) l hI (by show p9 ≤ 80; omega) (Nat.zero_lt_succ 1) (by decide)) rfl rfl ⟨Nat.le_of_ble_eq_true rfl, Nat.le_of_ble_eq_true rfl⟩ ⟨Nat.le_refl _, Nat.le_refl _⟩ (Nat.le_of_ble_eq_true rfl) dX9_takeOrder_65 (fun H locs hR hS => ?_)
                have hR : gRep X (gM8 mem (pT f ((p9 + 1, 0))) z a o k t r) H := hR
                have hp1 : ((p9 + 1, 0) : Nat × Nat).1 ≤ f 7 := pSg_in (t := t) (by omega)
                have s1 : pSg (f 7) t ((p9 + 1, 0) : Nat × Nat).1 < 65536 := pSg_lt ht _
                refine g_aload_n C hl dX9_takeOrder_68 rfl ?_
                refine rt_9 C hR fl_X9_111 dX9_takeOrder_69 ?_
                rw [show pT f (p9 + 1, 0) 9 = 0 from rfl]
                refine g_if_eq (tgt := 77) C dX9_takeOrder_72 (by decide) (by omega) (fun c72 => ?_) (fun z9 => absurd z9 (by omega))
                rw [c45] at hl
                refine g_iload_n C hl dX9_takeOrder_77 rfl ?_
                refine lv_tableIn (tgt := 295) C.1 C.2.1 dX9_takeOrder_78 (by decide) (by decide) rfl (by decide) ?_
                refine g_aload_n C hl dX9_takeOrder_295 rfl ?_
                refine g_bipush 97 C dX9_takeOrder_296 (by decide) ?_
                refine g_bipush 108 C dX9_takeOrder_298 (by decide) ?_
                refine g_bipush 108 C dX9_takeOrder_300 (by decide) ?_
                refine g_iconst 0 C dX9_takeOrder_302 (by decide) ?_
                refine g_callVv C hl.1 hR hS rc_X9 md_X9_takeRest ml_X9_121 (c_X9_takeRest (q := (p9 + 1, 0)) l hI h7 ht hp1 (Nat.zero_lt_succ 1) (by decide) (by decide) (by decide) (by decide) (by decide) (by decide)) rfl rfl ⟨Nat.le_of_ble_eq_true rfl, Nat.le_of_ble_eq_true rfl⟩ ⟨Nat.le_refl _, Nat.le_refl _⟩ (Nat.le_of_ble_eq_true rfl) dX9_takeOrder_303 (fun H locs hR hS => ?_)
                refine g_sipush 700 C dX9_takeOrder_306 (by decide) ?_
                refine g_bipush 10 C dX9_takeOrder_309 (by decide) ?_
                refine g_aload_n C hl dX9_takeOrder_311 rfl ?_
                refine g_bipush 7 C dX9_takeOrder_312 (by decide) ?_
                refine g_callV C hl.1 hR hS rc_X9 md_X9_takeNumber ml_X9_125 (c_X9_takeNumber (q := pRs (f 7) t (p9 + 1, 0) 97 108 108 0) l hI h7 ht (pRs_le hp1 (by decide) (by decide)).1 (pRs_le hp1 (by decide) (by decide)).2 (by decide)) rfl rfl ⟨Nat.le_of_ble_eq_true rfl, Nat.le_of_ble_eq_true rfl⟩ ⟨Nat.le_refl _, Nat.le_refl _⟩ (Nat.le_of_ble_eq_true rfl) dX9_takeOrder_314 (fun v9 m9 H locs hp9 hR hS => ?_)
                obtain ⟨x1, e1, e2, hx1⟩ := hp9
                subst e1
                subst e2
                refine lv_imul C.1 C.2.1 dX9_takeOrder_317 ?_
                refine lv_iadd C.1 C.2.1 dX9_takeOrder_318 ?_
                refine g_aload_n C hl dX9_takeOrder_319 rfl ?_
                refine g_bipush 9 C dX9_takeOrder_320 (by decide) ?_
                refine g_callV C hl.1 hR hS rc_X9 md_X9_takeNumber ml_X9_125 (c_X9_takeNumber (q := pNq (f 7) t (pRs (f 7) t (p9 + 1, 0) 97 108 108 0) 7) l hI h7 ht (pNq_le (pRs_le hp1 (by decide) (by decide)).1).1 (pNq_le (pRs_le hp1 (by decide) (by decide)).1).2 (by decide)) rfl rfl ⟨Nat.le_of_ble_eq_true rfl, Nat.le_of_ble_eq_true rfl⟩ ⟨Nat.le_refl _, Nat.le_refl _⟩ (Nat.le_of_ble_eq_true rfl) dX9_takeOrder_322 (fun v9 m9 H locs hp9 hR hS => ?_)
                obtain ⟨x2, e1, e2, hx2⟩ := hp9
                subst e1
                subst e2
                refine lv_iadd C.1 C.2.1 dX9_takeOrder_325 ?_
                refine g_iret C hR hS dX9_takeOrder_326 ?_
                refine ⟨_, rfl, ?_, fun z9 => ?_⟩
                · unfold pOq
                  rw [if_neg c9, if_neg c15, if_neg c21, if_neg c27, if_neg c33, if_neg c39, if_pos c45]
                · unfold pOq at z9
                  rw [if_neg c9, if_neg c15, if_neg c21, if_neg c27, if_neg c33, if_neg c39, if_pos c45] at z9
                  unfold pOv
                  rw [if_neg c9, if_neg c15, if_neg c21, if_neg c27, if_neg c33, if_neg c39, if_pos c45, hx2 z9, hx1 (pNq_0 z9), pk_mul, nI_add, nI_add]
              · -- 45 F
                refine g_iload_n C hl dX9_takeOrder_48 rfl ?_
                refine g_bipush 98 C dX9_takeOrder_49 (by decide) ?_
                refine g_icmp_eq (tgt := 60) C dX9_takeOrder_51 (by decide) (by omega) (by omega) (fun c51 => ?_) (fun c51 => ?_)
                · -- 51 T
                  refine g_iconst 1 C dX9_takeOrder_60 (by decide) ?_
                  refine g_goto (tgt := 65) C dX9_takeOrder_61 (by decide) ?_
                  refine g_callVv C hl.1 hR hS rc_X9 md_X9_take ml_X9_117 (c_X9_take (q := (p9, 0)) l hI (by show p9 ≤ 80; omega) (Nat.zero_lt_succ 1) (by decide)) rfl rfl ⟨Nat.le_of_ble_eq_true rfl, Nat.le_of_ble_eq_true rfl⟩ ⟨Nat.le_refl _, Nat.le_refl _⟩ (Nat.le_of_ble_eq_true rfl) dX9_takeOrder_65 (fun H locs hR hS => ?_)
                  have hR : gRep X (gM8 mem (pT f ((p9 + 1, 0))) z a o k t r) H := hR
                  have hp1 : ((p9 + 1, 0) : Nat × Nat).1 ≤ f 7 := pSg_in (t := t) (by omega)
                  have s1 : pSg (f 7) t ((p9 + 1, 0) : Nat × Nat).1 < 65536 := pSg_lt ht _
                  refine g_aload_n C hl dX9_takeOrder_68 rfl ?_
                  refine rt_9 C hR fl_X9_111 dX9_takeOrder_69 ?_
                  rw [show pT f (p9 + 1, 0) 9 = 0 from rfl]
                  refine g_if_eq (tgt := 77) C dX9_takeOrder_72 (by decide) (by omega) (fun c72 => ?_) (fun z9 => absurd z9 (by omega))
                  rw [c51] at hl
                  refine g_iload_n C hl dX9_takeOrder_77 rfl ?_
                  refine lv_tableIn (tgt := 327) C.1 C.2.1 dX9_takeOrder_78 (by decide) (by decide) rfl (by decide) ?_
                  refine g_aload_n C hl dX9_takeOrder_327 rfl ?_
                  refine g_bipush 97 C dX9_takeOrder_328 (by decide) ?_
                  refine g_bipush 99 C dX9_takeOrder_330 (by decide) ?_
                  refine g_bipush 107 C dX9_takeOrder_332 (by decide) ?_
                  refine g_iconst 0 C dX9_takeOrder_334 (by decide) ?_
                  refine g_callVv C hl.1 hR hS rc_X9 md_X9_takeRest ml_X9_121 (c_X9_takeRest (q := (p9 + 1, 0)) l hI h7 ht hp1 (Nat.zero_lt_succ 1) (by decide) (by decide) (by decide) (by decide) (by decide) (by decide)) rfl rfl ⟨Nat.le_of_ble_eq_true rfl, Nat.le_of_ble_eq_true rfl⟩ ⟨Nat.le_refl _, Nat.le_refl _⟩ (Nat.le_of_ble_eq_true rfl) dX9_takeOrder_335 (fun H locs hR hS => ?_)
                  refine g_sipush 800 C dX9_takeOrder_338 (by decide) ?_
                  refine g_iret C hR hS dX9_takeOrder_341 ?_
                  refine ⟨_, rfl, ?_, fun z9 => ?_⟩
                  · unfold pOq
                    rw [if_neg c9, if_neg c15, if_neg c21, if_neg c27, if_neg c33, if_neg c39, if_neg c45, if_pos c51]
                  · unfold pOv
                    rw [if_neg c9, if_neg c15, if_neg c21, if_neg c27, if_neg c33, if_neg c39, if_neg c45, if_pos c51]
                · -- 51 F
                  refine g_iload_n C hl dX9_takeOrder_54 rfl ?_
                  refine g_bipush 112 C dX9_takeOrder_55 (by decide) ?_
                  refine g_icmp_ne (tgt := 64) C dX9_takeOrder_57 (by decide) (by omega) (by omega) (fun c57 => ?_) (fun c57 => ?_)
                  · -- 57 T
                    refine g_iconst 0 C dX9_takeOrder_64 (by decide) ?_
                    refine g_callVv C hl.1 hR hS rc_X9 md_X9_take ml_X9_117 (c_X9_take (q := (p9, 0)) l hI (by show p9 ≤ 80; omega) (Nat.zero_lt_succ 1) (by decide)) rfl rfl ⟨Nat.le_of_ble_eq_true rfl, Nat.le_of_ble_eq_true rfl⟩ ⟨Nat.le_refl _, Nat.le_refl _⟩ (Nat.le_of_ble_eq_true rfl) dX9_takeOrder_65 (fun H locs hR hS => ?_)
                    have hR : gRep X (gM8 mem (pT f ((p9, 1))) z a o k t r) H := hR
                    refine g_aload_n C hl dX9_takeOrder_68 rfl ?_
                    refine rt_9 C hR fl_X9_111 dX9_takeOrder_69 ?_
                    rw [show pT f (p9, 1) 9 = 1 from rfl]
                    refine g_if_eq (tgt := 77) C dX9_takeOrder_72 (by decide) (by omega) (fun z9 => absurd z9 (by omega)) (fun c72 => ?_)
                    refine g_iconst 0 C dX9_takeOrder_75 (by decide) ?_
                    refine g_iret C hR hS dX9_takeOrder_76 ?_
                    refine ⟨_, rfl, ?_, fun z9 => ?_⟩
                    · unfold pOq
                      rw [if_neg c9, if_neg c15, if_neg c21, if_neg c27, if_neg c33, if_neg c39, if_neg c45, if_neg c51, if_neg c57]
                    · exfalso; unfold pOq at z9; rw [if_neg c9, if_neg c15, if_neg c21, if_neg c27, if_neg c33, if_neg c39, if_neg c45, if_neg c51, if_neg c57] at z9; cases z9
                  · -- 57 F
                    refine g_iconst 1 C dX9_takeOrder_60 (by decide) ?_
                    refine g_goto (tgt := 65) C dX9_takeOrder_61 (by decide) ?_
                    refine g_callVv C hl.1 hR hS rc_X9 md_X9_take ml_X9_117 (c_X9_take (q := (p9, 0)) l hI (by show p9 ≤ 80; omega) (Nat.zero_lt_succ 1) (by decide)) rfl rfl ⟨Nat.le_of_ble_eq_true rfl, Nat.le_of_ble_eq_true rfl⟩ ⟨Nat.le_refl _, Nat.le_refl _⟩ (Nat.le_of_ble_eq_true rfl) dX9_takeOrder_65 (fun H locs hR hS => ?_)
                    have hR : gRep X (gM8 mem (pT f ((p9 + 1, 0))) z a o k t r) H := hR
                    have hp1 : ((p9 + 1, 0) : Nat × Nat).1 ≤ f 7 := pSg_in (t := t) (by omega)
                    have s1 : pSg (f 7) t ((p9 + 1, 0) : Nat × Nat).1 < 65536 := pSg_lt ht _
                    refine g_aload_n C hl dX9_takeOrder_68 rfl ?_
                    refine rt_9 C hR fl_X9_111 dX9_takeOrder_69 ?_
                    rw [show pT f (p9 + 1, 0) 9 = 0 from rfl]
                    refine g_if_eq (tgt := 77) C dX9_takeOrder_72 (by decide) (by omega) (fun c72 => ?_) (fun z9 => absurd z9 (by omega))
                    rw [c57] at hl
                    refine g_iload_n C hl dX9_takeOrder_77 rfl ?_
                    refine lv_tableIn (tgt := 342) C.1 C.2.1 dX9_takeOrder_78 (by decide) (by decide) rfl (by decide) ?_
                    refine g_aload_n C hl dX9_takeOrder_342 rfl ?_
                    refine g_bipush 108 C dX9_takeOrder_343 (by decide) ?_
                    refine g_bipush 117 C dX9_takeOrder_345 (by decide) ?_
                    refine g_bipush 115 C dX9_takeOrder_347 (by decide) ?_
                    refine g_iconst 0 C dX9_takeOrder_349 (by decide) ?_
                    refine g_callVv C hl.1 hR hS rc_X9 md_X9_takeRest ml_X9_121 (c_X9_takeRest (q := (p9 + 1, 0)) l hI h7 ht hp1 (Nat.zero_lt_succ 1) (by decide) (by decide) (by decide) (by decide) (by decide) (by decide)) rfl rfl ⟨Nat.le_of_ble_eq_true rfl, Nat.le_of_ble_eq_true rfl⟩ ⟨Nat.le_refl _, Nat.le_refl _⟩ (Nat.le_of_ble_eq_true rfl) dX9_takeOrder_350 (fun H locs hR hS => ?_)
                    refine g_sipush 900 C dX9_takeOrder_353 (by decide) ?_
                    refine g_aload_n C hl dX9_takeOrder_356 rfl ?_
                    refine g_bipush 99 C dX9_takeOrder_357 (by decide) ?_
                    refine g_callV C hl.1 hR hS rc_X9 md_X9_takeNumber ml_X9_125 (c_X9_takeNumber (q := pRs (f 7) t (p9 + 1, 0) 108 117 115 0) l hI h7 ht (pRs_le hp1 (by decide) (by decide)).1 (pRs_le hp1 (by decide) (by decide)).2 (by decide)) rfl rfl ⟨Nat.le_of_ble_eq_true rfl, Nat.le_of_ble_eq_true rfl⟩ ⟨Nat.le_refl _, Nat.le_refl _⟩ (Nat.le_of_ble_eq_true rfl) dX9_takeOrder_359 (fun v9 m9 H locs hp9 hR hS => ?_)
                    obtain ⟨x1, e1, e2, hx1⟩ := hp9
                    subst e1
                    subst e2
                    refine lv_iadd C.1 C.2.1 dX9_takeOrder_362 ?_
                    refine g_iret C hR hS dX9_takeOrder_363 ?_
                    refine ⟨_, rfl, ?_, fun z9 => ?_⟩
                    · unfold pOq
                      rw [if_neg c9, if_neg c15, if_neg c21, if_neg c27, if_neg c33, if_neg c39, if_neg c45, if_neg c51, if_pos c57]
                    · unfold pOq at z9
                      rw [if_neg c9, if_neg c15, if_neg c21, if_neg c27, if_neg c33, if_neg c39, if_neg c45, if_neg c51, if_pos c57] at z9
                      unfold pOv
                      rw [if_neg c9, if_neg c15, if_neg c21, if_neg c27, if_neg c33, if_neg c39, if_neg c45, if_neg c51, hx1 z9, nI_add]
