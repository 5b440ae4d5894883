/-! ===== Code: an order ===== -/
def vM1 : Nat → Int32 := fun i => match i with
  | 0 => -1
  | 1 => nI 99
  | 2 => nI 63
  | 3 => nI 63
  | 4 => nI 63
  | 5 => nI 63
  | 6 => nI 3
  | 7 => nI 7
  | 8 => -1
  | _ => nI 99
def vM2 : Nat → Int32 := fun i => match i with
  | 0 => -1
  | 1 => -1
  | 2 => -1
  | 3 => -1
  | 4 => -1
  | 5 => -1
  | 6 => nI 7
  | 7 => nI 9
  | 8 => -1
  | _ => -1
set_option maxRecDepth 100000 in
set_option maxHeartbeats 4000000 in
/-- X1_mostFirst -/
theorem c_X1_mostFirst (l : Launch) {X : gX} (hI : gInj X) {mem : gM} {i : Nat} (hi : i < 10) : gF l yX1_mostFirst cX1_mostFirst 1 (some .int) 0 0 X [.int (nI i)] mem (some (.int (vM1 i))) mem := by
  refine gMt.of (own := RX1) (by decide) rfl hI (by simp [Value.category]) (Nat.le_of_ble_eq_true rfl) ?_
  intro p e s m args below meth c ls H locs C hnm hl hR hS
  rcases (show i = 0 ∨ i = 1 ∨ i = 2 ∨ i = 3 ∨ i = 4 ∨ i = 5 ∨ i = 6 ∨ i = 7 ∨ i = 8 ∨ i = 9 by omega) with rfl | rfl | rfl | rfl | rfl | rfl | rfl | rfl | rfl | rfl
  · -- 0
    refine g_iload_n C hl dX1_mostFirst_0 rfl ?_
    refine lv_tableOut (tgt := 63) C.1 C.2.1 dX1_mostFirst_1 (by decide) (by decide) ?_
    refine g_iconstM (-1) C dX1_mostFirst_63 (by decide) ?_
    refine g_iret C hR hS dX1_mostFirst_64 ?_
    exact ⟨rfl, rfl⟩
  · -- 1
    refine g_iload_n C hl dX1_mostFirst_0 rfl ?_
    refine lv_tableIn (tgt := 52) C.1 C.2.1 dX1_mostFirst_1 (by decide) (by decide) rfl (by decide) ?_
    refine g_bipush 99 C dX1_mostFirst_52 (by decide) ?_
    refine g_iret C hR hS dX1_mostFirst_54 ?_
    exact ⟨rfl, rfl⟩
  · -- 2
    refine g_iload_n C hl dX1_mostFirst_0 rfl ?_
    refine lv_tableIn (tgt := 55) C.1 C.2.1 dX1_mostFirst_1 (by decide) (by decide) rfl (by decide) ?_
    refine g_bipush 63 C dX1_mostFirst_55 (by decide) ?_
    refine g_iret C hR hS dX1_mostFirst_57 ?_
    exact ⟨rfl, rfl⟩
  · -- 3
    refine g_iload_n C hl dX1_mostFirst_0 rfl ?_
    refine lv_tableIn (tgt := 55) C.1 C.2.1 dX1_mostFirst_1 (by decide) (by decide) rfl (by decide) ?_
    refine g_bipush 63 C dX1_mostFirst_55 (by decide) ?_
    refine g_iret C hR hS dX1_mostFirst_57 ?_
    exact ⟨rfl, rfl⟩
  · -- 4
    refine g_iload_n C hl dX1_mostFirst_0 rfl ?_
    refine lv_tableIn (tgt := 55) C.1 C.2.1 dX1_mostFirst_1 (by decide) (by decide) rfl (by decide) ?_
    refine g_bipush 63 C dX1_mostFirst_55 (by decide) ?_
    refine g_iret C hR hS dX1_mostFirst_57 ?_
    exact ⟨rfl, rfl⟩
  · -- 5
    refine g_iload_n C hl dX1_mostFirst_0 rfl ?_
    refine lv_tableIn (tgt := 55) C.1 C.2.1 dX1_mostFirst_1 (by decide) (by decide) rfl (by decide) ?_
    refine g_bipush 63 C dX1_mostFirst_55 (by decide) ?_
    refine g_iret C hR hS dX1_mostFirst_57 ?_
    exact ⟨rfl, rfl⟩
  · -- 6
    refine g_iload_n C hl dX1_mostFirst_0 rfl ?_
    refine lv_tableIn (tgt := 58) C.1 C.2.1 dX1_mostFirst_1 (by decide) (by decide) rfl (by decide) ?_
    refine g_iconst 3 C dX1_mostFirst_58 (by decide) ?_
    refine g_iret C hR hS dX1_mostFirst_59 ?_
    exact ⟨rfl, rfl⟩
  · -- 7
    refine g_iload_n C hl dX1_mostFirst_0 rfl ?_
    refine lv_tableIn (tgt := 60) C.1 C.2.1 dX1_mostFirst_1 (by decide) (by decide) rfl (by decide) ?_
    refine g_bipush 7 C dX1_mostFirst_60 (by decide) ?_
    refine g_iret C hR hS dX1_mostFirst_62 ?_
    exact ⟨rfl, rfl⟩
  · -- 8
    refine g_iload_n C hl dX1_mostFirst_0 rfl ?_
    refine lv_tableIn (tgt := 63) C.1 C.2.1 dX1_mostFirst_1 (by decide) (by decide) rfl (by decide) ?_
    refine g_iconstM (-1) C dX1_mostFirst_63 (by decide) ?_
    refine g_iret C hR hS dX1_mostFirst_64 ?_
    exact ⟨rfl, rfl⟩
  · -- 9
    refine g_iload_n C hl dX1_mostFirst_0 rfl ?_
    refine lv_tableIn (tgt := 52) C.1 C.2.1 dX1_mostFirst_1 (by decide) (by decide) rfl (by decide) ?_
    refine g_bipush 99 C dX1_mostFirst_52 (by decide) ?_
    refine g_iret C hR hS dX1_mostFirst_54 ?_
    exact ⟨rfl, rfl⟩
set_option maxRecDepth 100000 in
set_option maxHeartbeats 4000000 in
/-- X1_mostSecond -/
theorem c_X1_mostSecond (l : Launch) {X : gX} (hI : gInj X) {mem : gM} {i : Nat} (hi : i < 10) : gF l yX1_mostSecond cX1_mostSecond 1 (some .int) 0 0 X [.int (nI i)] mem (some (.int (vM2 i))) mem := by
  refine gMt.of (own := RX1) (by decide) rfl hI (by simp [Value.category]) (Nat.le_of_ble_eq_true rfl) ?_
  intro p e s m args below meth c ls H locs C hnm hl hR hS
  rcases (show i = 0 ∨ i = 1 ∨ i = 2 ∨ i = 3 ∨ i = 4 ∨ i = 5 ∨ i = 6 ∨ i = 7 ∨ i = 8 ∨ i = 9 by omega) with rfl | rfl | rfl | rfl | rfl | rfl | rfl | rfl | rfl | rfl
  · -- 0
    refine g_iload_n C hl dX1_mostSecond_0 rfl ?_
    refine lv_lookup (tgt := 34) (off := 33) C.1 C.2.1 dX1_mostSecond_1 (by decide) (by decide) (by decide) ?_
    refine g_iconstM (-1) C dX1_mostSecond_34 (by decide) ?_
    refine g_iret C hR hS dX1_mostSecond_35 ?_
    exact ⟨rfl, rfl⟩
  · -- 1
    refine g_iload_n C hl dX1_mostSecond_0 rfl ?_
    refine lv_lookup (tgt := 34) (off := 33) C.1 C.2.1 dX1_mostSecond_1 (by decide) (by decide) (by decide) ?_
    refine g_iconstM (-1) C dX1_mostSecond_34 (by decide) ?_
    refine g_iret C hR hS dX1_mostSecond_35 ?_
    exact ⟨rfl, rfl⟩
  · -- 2
    refine g_iload_n C hl dX1_mostSecond_0 rfl ?_
    refine lv_lookup (tgt := 34) (off := 33) C.1 C.2.1 dX1_mostSecond_1 (by decide) (by decide) (by decide) ?_
    refine g_iconstM (-1) C dX1_mostSecond_34 (by decide) ?_
    refine g_iret C hR hS dX1_mostSecond_35 ?_
    exact ⟨rfl, rfl⟩
  · -- 3
    refine g_iload_n C hl dX1_mostSecond_0 rfl ?_
    refine lv_lookup (tgt := 34) (off := 33) C.1 C.2.1 dX1_mostSecond_1 (by decide) (by decide) (by decide) ?_
    refine g_iconstM (-1) C dX1_mostSecond_34 (by decide) ?_
    refine g_iret C hR hS dX1_mostSecond_35 ?_
    exact ⟨rfl, rfl⟩
  · -- 4
    refine g_iload_n C hl dX1_mostSecond_0 rfl ?_
    refine lv_lookup (tgt := 34) (off := 33) C.1 C.2.1 dX1_mostSecond_1 (by decide) (by decide) (by decide) ?_
    refine g_iconstM (-1) C dX1_mostSecond_34 (by decide) ?_
    refine g_iret C hR hS dX1_mostSecond_35 ?_
    exact ⟨rfl, rfl⟩
  · -- 5
    refine g_iload_n C hl dX1_mostSecond_0 rfl ?_
    refine lv_lookup (tgt := 34) (off := 33) C.1 C.2.1 dX1_mostSecond_1 (by decide) (by decide) (by decide) ?_
    refine g_iconstM (-1) C dX1_mostSecond_34 (by decide) ?_
    refine g_iret C hR hS dX1_mostSecond_35 ?_
    exact ⟨rfl, rfl⟩
  · -- 6
    refine g_iload_n C hl dX1_mostSecond_0 rfl ?_
    refine lv_lookup (tgt := 28) (off := 27) C.1 C.2.1 dX1_mostSecond_1 (by decide) (by decide) (by decide) ?_
    refine g_bipush 7 C dX1_mostSecond_28 (by decide) ?_
    refine g_iret C hR hS dX1_mostSecond_30 ?_
    exact ⟨rfl, rfl⟩
  · -- 7
    refine g_iload_n C hl dX1_mostSecond_0 rfl ?_
    refine lv_lookup (tgt := 31) (off := 30) C.1 C.2.1 dX1_mostSecond_1 (by decide) (by decide) (by decide) ?_
    refine g_bipush 9 C dX1_mostSecond_31 (by decide) ?_
    refine g_iret C hR hS dX1_mostSecond_33 ?_
    exact ⟨rfl, rfl⟩
  · -- 8
    refine g_iload_n C hl dX1_mostSecond_0 rfl ?_
    refine lv_lookup (tgt := 34) (off := 33) C.1 C.2.1 dX1_mostSecond_1 (by decide) (by decide) (by decide) ?_
    refine g_iconstM (-1) C dX1_mostSecond_34 (by decide) ?_
    refine g_iret C hR hS dX1_mostSecond_35 ?_
    exact ⟨rfl, rfl⟩
  · -- 9
    refine g_iload_n C hl dX1_mostSecond_0 rfl ?_
    refine lv_lookup (tgt := 34) (off := 33) C.1 C.2.1 dX1_mostSecond_1 (by decide) (by decide) (by decide) ?_
    refine g_iconstM (-1) C dX1_mostSecond_34 (by decide) ?_
    refine g_iret C hR hS dX1_mostSecond_35 ?_
    exact ⟨rfl, rfl⟩
theorem pNq_f {n : Nat} {t : Nat → Nat} {Q : Nat × Nat} {m9 : Nat} (h : ¬ Q.2 = 0) (h2 : Q.2 < 2) : pNq n t Q m9 = (Q.1, 1) := by
  obtain ⟨a, b⟩ := Q
  have e : b = 1 := by
    have h' : ¬ b = 0 := h
    have h2' : b < 2 := h2
    omega
  subst e
  exact pNq_1 n t a m9
theorem pNq_e {Q : Nat × Nat} (h : Q.2 = 0) : Q = (Q.1, 0) := by
  obtain ⟨a, b⟩ := Q
  have e : b = 0 := h
  subst e
  rfl
theorem pw_b {n : Nat} {t : Nat → Nat} {p9 c9 : Nat} (hp : p9 ≤ n) (hc : c9 < 10) (h : pw n t p9 c9 = gLn c9) : p9 + gLn c9 ≤ n := by
  have h1 := pw_p (t := t) (i := c9) hp (gLn c9) 0 (by omega) hc (by omega)
  have h2 : p9 + pw n t p9 c9 ≤ n := h1
  omega
theorem pOq_3 {n : Nat} {t : Nat → Nat} {p9 : Nat} (h : (pOq n t p9).2 = 0) : p9 + 3 ≤ (pOq n t p9).1 := by
  obtain ⟨k1, k2⟩ := kM (n := n) (t := t) (p9 := p9)
  have kl := (kB_lt (n := n) (t := t) (p9 := p9) 10 (by decide)).1
  by_cases hs : (kB n t p9 10).1 = gLn (kB n t p9 10).2
  · have hw := k2 hs
    generalize (kB n t p9 10).2 = F at hw kl
    rcases (show F = 0 ∨ F = 1 ∨ F = 2 ∨ F = 3 ∨ F = 4 ∨ F = 5 ∨ F = 6 ∨ F = 7 ∨ F = 8 ∨ F = 9 by omega) with rfl | rfl | rfl | rfl | rfl | rfl | rfl | rfl | rfl | rfl
    · have e := (kY_0 hw).1
      rw [e]
      show p9 + 3 ≤ p9 + 4
      omega
    · have e := (kY_1 hw).1
      rw [e]
      have g1 := pNq_ge n t (p9 + 4, 0) 99
      have g2 : p9 + 4 ≤ (pNq n t (p9 + 4, 0) 99).1 := g1
      omega
    · have e := (kY_2 hw).1
      rw [e]
      have g1 := pNq_ge n t (p9 + 3, 0) 63
      have g2 : p9 + 3 ≤ (pNq n t (p9 + 3, 0) 63).1 := g1
      omega
    · have e := (kY_3 hw).1
      rw [e]
      have g1 := pNq_ge n t (p9 + 5, 0) 63
      have g2 : p9 + 5 ≤ (pNq n t (p9 + 5, 0) 63).1 := g1
      omega
    · have e := (kY_4 hw).1
      rw [e]
      have g1 := pNq_ge n t (p9 + 4, 0) 63
      have g2 : p9 + 4 ≤ (pNq n t (p9 + 4, 0) 63).1 := g1
      omega
    · have e := (kY_5 hw).1
      rw [e]
      have g1 := pNq_ge n t (p9 + 4, 0) 63
      have g2 : p9 + 4 ≤ (pNq n t (p9 + 4, 0) 63).1 := g1
      omega
    · have e := (kY_6 hw).1
      rw [e]
      have g1 := pNq_ge n t (p9 + 4, 0) 3
      have g2 : p9 + 4 ≤ (pNq n t (p9 + 4, 0) 3).1 := g1
      have g3 := pNq_ge n t (pNq n t (p9 + 4, 0) 3) 7
      omega
    · have e := (kY_7 hw).1
      rw [e]
      have g1 := pNq_ge n t (p9 + 4, 0) 7
      have g2 : p9 + 4 ≤ (pNq n t (p9 + 4, 0) 7).1 := g1
      have g3 := pNq_ge n t (pNq n t (p9 + 4, 0) 7) 9
      omega
    · have e := (kY_8 hw).1
      rw [e]
      show p9 + 3 ≤ p9 + 4
      omega
    · have e := (kY_9 hw).1
      rw [e]
      have g1 := pNq_ge n t (p9 + 4, 0) 99
      have g2 : p9 + 4 ≤ (pNq n t (p9 + 4, 0) 99).1 := g1
      omega
  · rw [k1 hs] at h
    exact absurd h (by show ¬ 1 = 0; decide)
set_option maxRecDepth 100000 in
set_option maxHeartbeats 4000000 in
/-- X1_readOrder -/
theorem c_X1_readOrder (l : Launch) {X : gX} (hI : gInj X) {mem : gM} {n : Nat} {t : Nat → Nat} (hx : hTx mem n t) {f : Nat → Nat} {p9 s9 : Nat} (hp : p9 ≤ n) : gMt l yX1_readOrder cX1_readOrder 4 (some .int) 7 154 X [.ref (gAd X 7 5), .ref (gAd X 7 3)] (gP mem 7 5 (cT f p9 s9)) (fun v9 m9 => ∃ x9, v9 = some (.int (nI x9)) ∧ ((pOq n t p9).2 = 0 → x9 = pOv n t p9) ∧ m9 = gP mem 7 5 (cT f (pOq n t p9).1 (1 - (pOq n t p9).2))) := by
  refine gMt.of (own := RX1) (by decide) rfl hI (by simp [Value.category]) (Nat.le_of_ble_eq_true rfl) ?_
  intro p e s m args below meth c ls H locs C hnm hl hR hS
  have h80 := hx.2.2.1
  obtain ⟨k1, k2⟩ := kM (n := n) (t := t) (p9 := p9)
  have kl := (kB_lt (n := n) (t := t) (p9 := p9) 10 (by decide)).1
  by_cases hs : (kB n t p9 10).1 = gLn (kB n t p9 10).2
  · have hw := k2 hs
    rcases (show (kB n t p9 10).2 = 0 ∨ (kB n t p9 10).2 = 1 ∨ (kB n t p9 10).2 = 2 ∨ (kB n t p9 10).2 = 3 ∨ (kB n t p9 10).2 = 4 ∨ (kB n t p9 10).2 = 5 ∨ (kB n t p9 10).2 = 6 ∨ (kB n t p9 10).2 = 7 ∨ (kB n t p9 10).2 = 8 ∨ (kB n t p9 10).2 = 9 by omega) with hF | hF | hF | hF | hF | hF | hF | hF | hF | hF
    · -- halt
      obtain ⟨eq, ev⟩ := kY_0 (by rw [hF] at hw; exact hw)
      have hb : p9 + 4 ≤ n := by
        rw [hF] at hw
        exact pw_b hp (by decide) hw
      refine g_aload_n C hl dX1_readOrder_0 rfl ?_
      refine g_aload_n C hl dX1_readOrder_1 rfl ?_
      refine g_callVi C hl.1 hR hS rc_X1 md_X1_readKind ml_X1_45 (c_X1_readKind l hI hx (by omega)) rfl rfl ⟨Nat.le_of_ble_eq_true rfl, Nat.le_of_ble_eq_true rfl⟩ ⟨Nat.le_refl _, Nat.le_refl _⟩ (Nat.le_of_ble_eq_true rfl) dX1_readOrder_2 (fun H locs hR hS => ?_)
      rw [if_pos hs, hs, hF] at hR
      have hR : gRep X (gP mem 7 5 (cT f (p9 + 4) 1)) H := hR
      rw [hF]
      refine g_istore_n C hl dX1_readOrder_5 (Nat.le_of_ble_eq_true rfl) (fun ls hl => ?_)
      refine g_iconst 0 C dX1_readOrder_6 (by decide) ?_
      refine g_istore_n C hl dX1_readOrder_7 (Nat.le_of_ble_eq_true rfl) (fun ls hl => ?_)
      refine g_aload_n C hl dX1_readOrder_8 rfl ?_
      refine xg_3 C hR fl_X1_35 dX1_readOrder_9 ?_
      refine g_if_eq (tgt := 33) C dX1_readOrder_12 (by decide) (by decide) (fun z9 => absurd z9 (by decide)) (fun c12 => ?_)
      refine g_iload_n C hl dX1_readOrder_15 rfl ?_
      refine g_callSi C hl.1 hR hS md_X1_mostFirst ml_X1_48 (c_X1_mostFirst l hI (i := 0) (by decide)) rfl rfl ⟨Nat.le_of_ble_eq_true rfl, Nat.le_of_ble_eq_true rfl⟩ ⟨Nat.le_refl _, Nat.le_refl _⟩ (Nat.le_of_ble_eq_true rfl) dX1_readOrder_16 (fun H locs hR hS => ?_)
      refine g_iconstM (-1) C dX1_readOrder_19 (by decide) ?_
      refine lv_icmp_eq (tgt := 33) C.1 C.2.1 dX1_readOrder_20 (by decide) (fun _ => ?_) (fun z9 => absurd rfl z9)
      refine g_aload_n C hl dX1_readOrder_33 rfl ?_
      refine xg_3 C hR fl_X1_35 dX1_readOrder_34 ?_
      refine g_if_eq (tgt := 63) C dX1_readOrder_37 (by decide) (by omega) (fun z9 => absurd z9 (by decide)) (fun c37 => ?_)
      refine g_iload_n C hl dX1_readOrder_40 rfl ?_
      refine g_callSi C hl.1 hR hS md_X1_mostSecond ml_X1_55 (c_X1_mostSecond l hI (i := 0) (by decide)) rfl rfl ⟨Nat.le_of_ble_eq_true rfl, Nat.le_of_ble_eq_true rfl⟩ ⟨Nat.le_refl _, Nat.le_refl _⟩ (Nat.le_of_ble_eq_true rfl) dX1_readOrder_41 (fun H locs hR hS => ?_)
      refine g_iconstM (-1) C dX1_readOrder_44 (by decide) ?_
      refine lv_icmp_eq (tgt := 63) C.1 C.2.1 dX1_readOrder_45 (by decide) (fun _ => ?_) (fun z9 => absurd rfl z9)
      refine g_iload_n C hl dX1_readOrder_63 rfl ?_
      refine g_bipush 100 C dX1_readOrder_64 (by decide) ?_
      refine g_imul C dX1_readOrder_66 ?_
      refine g_iload_n C hl dX1_readOrder_67 rfl ?_
      refine g_iadd C dX1_readOrder_68 ?_
      refine g_iret C hR hS dX1_readOrder_69 ?_
      exact ⟨_, rfl, fun _ => by rw [ev], by rw [eq]; rfl⟩
    · -- load
      obtain ⟨eq, ev⟩ := kY_1 (by rw [hF] at hw; exact hw)
      have hb : p9 + 4 ≤ n := by
        rw [hF] at hw
        exact pw_b hp (by decide) hw
      have hq1 := pNq_le (n := n) (t := t) (q := (p9 + 4, 0)) (most := 99) hb
      refine g_aload_n C hl dX1_readOrder_0 rfl ?_
      refine g_aload_n C hl dX1_readOrder_1 rfl ?_
      refine g_callVi C hl.1 hR hS rc_X1 md_X1_readKind ml_X1_45 (c_X1_readKind l hI hx (by omega)) rfl rfl ⟨Nat.le_of_ble_eq_true rfl, Nat.le_of_ble_eq_true rfl⟩ ⟨Nat.le_refl _, Nat.le_refl _⟩ (Nat.le_of_ble_eq_true rfl) dX1_readOrder_2 (fun H locs hR hS => ?_)
      rw [if_pos hs, hs, hF] at hR
      have hR : gRep X (gP mem 7 5 (cT f (p9 + 4) 1)) H := hR
      rw [hF]
      refine g_istore_n C hl dX1_readOrder_5 (Nat.le_of_ble_eq_true rfl) (fun ls hl => ?_)
      refine g_iconst 0 C dX1_readOrder_6 (by decide) ?_
      refine g_istore_n C hl dX1_readOrder_7 (Nat.le_of_ble_eq_true rfl) (fun ls hl => ?_)
      refine g_aload_n C hl dX1_readOrder_8 rfl ?_
      refine xg_3 C hR fl_X1_35 dX1_readOrder_9 ?_
      refine g_if_eq (tgt := 33) C dX1_readOrder_12 (by decide) (by decide) (fun z9 => absurd z9 (by decide)) (fun c12 => ?_)
      refine g_iload_n C hl dX1_readOrder_15 rfl ?_
      refine g_callSi C hl.1 hR hS md_X1_mostFirst ml_X1_48 (c_X1_mostFirst l hI (i := 1) (by decide)) rfl rfl ⟨Nat.le_of_ble_eq_true rfl, Nat.le_of_ble_eq_true rfl⟩ ⟨Nat.le_refl _, Nat.le_refl _⟩ (Nat.le_of_ble_eq_true rfl) dX1_readOrder_16 (fun H locs hR hS => ?_)
      refine g_iconstM (-1) C dX1_readOrder_19 (by decide) ?_
      refine lv_icmp_eq (tgt := 33) C.1 C.2.1 dX1_readOrder_20 (by decide) (fun z9 => absurd z9 (by decide)) (fun _ => ?_)
      refine g_aload_n C hl dX1_readOrder_23 rfl ?_
      refine g_aload_n C hl dX1_readOrder_24 rfl ?_
      refine g_iload_n C hl dX1_readOrder_25 rfl ?_
      refine g_callSi C hl.1 hR hS md_X1_mostFirst ml_X1_48 (c_X1_mostFirst l hI (i := 1) (by decide)) rfl rfl ⟨Nat.le_of_ble_eq_true rfl, Nat.le_of_ble_eq_true rfl⟩ ⟨Nat.le_refl _, Nat.le_refl _⟩ (Nat.le_of_ble_eq_true rfl) dX1_readOrder_26 (fun H locs hR hS => ?_)
      refine g_callVi C hl.1 hR hS rc_X1 md_X1_readNumber ml_X1_51 (c_X1_readNumber l hI hx (p9 := p9 + 4) (m9 := 99) (by omega) (by decide)) rfl rfl ⟨Nat.le_of_ble_eq_true rfl, Nat.le_of_ble_eq_true rfl⟩ ⟨Nat.le_refl _, Nat.le_refl _⟩ (Nat.le_of_ble_eq_true rfl) dX1_readOrder_29 (fun H locs hR hS => ?_)
      refine g_istore_n C hl dX1_readOrder_32 (Nat.le_of_ble_eq_true rfl) (fun ls hl => ?_)
      refine g_aload_n C hl dX1_readOrder_33 rfl ?_
      refine xg_3 C hR fl_X1_35 dX1_readOrder_34 ?_
      refine g_if_eq (tgt := 63) C dX1_readOrder_37 (by decide) (by omega) (fun c37 => ?_) (fun c37 => ?_)
      · -- 37 T
        refine g_iload_n C hl dX1_readOrder_63 rfl ?_
        refine g_bipush 100 C dX1_readOrder_64 (by decide) ?_
        refine g_imul C dX1_readOrder_66 ?_
        refine g_iload_n C hl dX1_readOrder_67 rfl ?_
        refine g_iadd C dX1_readOrder_68 ?_
        refine g_iret C hR hS dX1_readOrder_69 ?_
        refine ⟨_, rfl, fun h => absurd h ?_, by rw [eq]⟩
        rw [eq]
        omega
      · -- 37 F
        refine g_iload_n C hl dX1_readOrder_40 rfl ?_
        refine g_callSi C hl.1 hR hS md_X1_mostSecond ml_X1_55 (c_X1_mostSecond l hI (i := 1) (by decide)) rfl rfl ⟨Nat.le_of_ble_eq_true rfl, Nat.le_of_ble_eq_true rfl⟩ ⟨Nat.le_refl _, Nat.le_refl _⟩ (Nat.le_of_ble_eq_true rfl) dX1_readOrder_41 (fun H locs hR hS => ?_)
        refine g_iconstM (-1) C dX1_readOrder_44 (by decide) ?_
        refine lv_icmp_eq (tgt := 63) C.1 C.2.1 dX1_readOrder_45 (by decide) (fun _ => ?_) (fun z9 => absurd rfl z9)
        refine g_iload_n C hl dX1_readOrder_63 rfl ?_
        refine g_bipush 100 C dX1_readOrder_64 (by decide) ?_
        refine g_imul C dX1_readOrder_66 ?_
        refine g_iload_n C hl dX1_readOrder_67 rfl ?_
        refine g_iadd C dX1_readOrder_68 ?_
        refine g_iret C hR hS dX1_readOrder_69 ?_
        have e1 : vNum n t (p9 + 4) 99 = pNv n t (p9 + 4, 0) 99 := if_pos (by omega)
        refine ⟨_, rfl, fun h => ?_, by rw [eq]⟩
        omega
    · -- add
      obtain ⟨eq, ev⟩ := kY_2 (by rw [hF] at hw; exact hw)
      have hb : p9 + 3 ≤ n := by
        rw [hF] at hw
        exact pw_b hp (by decide) hw
      have hq1 := pNq_le (n := n) (t := t) (q := (p9 + 3, 0)) (most := 63) hb
      refine g_aload_n C hl dX1_readOrder_0 rfl ?_
      refine g_aload_n C hl dX1_readOrder_1 rfl ?_
      refine g_callVi C hl.1 hR hS rc_X1 md_X1_readKind ml_X1_45 (c_X1_readKind l hI hx (by omega)) rfl rfl ⟨Nat.le_of_ble_eq_true rfl, Nat.le_of_ble_eq_true rfl⟩ ⟨Nat.le_refl _, Nat.le_refl _⟩ (Nat.le_of_ble_eq_true rfl) dX1_readOrder_2 (fun H locs hR hS => ?_)
      rw [if_pos hs, hs, hF] at hR
      have hR : gRep X (gP mem 7 5 (cT f (p9 + 3) 1)) H := hR
      rw [hF]
      refine g_istore_n C hl dX1_readOrder_5 (Nat.le_of_ble_eq_true rfl) (fun ls hl => ?_)
      refine g_iconst 0 C dX1_readOrder_6 (by decide) ?_
      refine g_istore_n C hl dX1_readOrder_7 (Nat.le_of_ble_eq_true rfl) (fun ls hl => ?_)
      refine g_aload_n C hl dX1_readOrder_8 rfl ?_
      refine xg_3 C hR fl_X1_35 dX1_readOrder_9 ?_
      refine g_if_eq (tgt := 33) C dX1_readOrder_12 (by decide) (by decide) (fun z9 => absurd z9 (by decide)) (fun c12 => ?_)
      refine g_iload_n C hl dX1_readOrder_15 rfl ?_
      refine g_callSi C hl.1 hR hS md_X1_mostFirst ml_X1_48 (c_X1_mostFirst l hI (i := 2) (by decide)) rfl rfl ⟨Nat.le_of_ble_eq_true rfl, Nat.le_of_ble_eq_true rfl⟩ ⟨Nat.le_refl _, Nat.le_refl _⟩ (Nat.le_of_ble_eq_true rfl) dX1_readOrder_16 (fun H locs hR hS => ?_)
      refine g_iconstM (-1) C dX1_readOrder_19 (by decide) ?_
      refine lv_icmp_eq (tgt := 33) C.1 C.2.1 dX1_readOrder_20 (by decide) (fun z9 => absurd z9 (by decide)) (fun _ => ?_)
      refine g_aload_n C hl dX1_readOrder_23 rfl ?_
      refine g_aload_n C hl dX1_readOrder_24 rfl ?_
      refine g_iload_n C hl dX1_readOrder_25 rfl ?_
      refine g_callSi C hl.1 hR hS md_X1_mostFirst ml_X1_48 (c_X1_mostFirst l hI (i := 2) (by decide)) rfl rfl ⟨Nat.le_of_ble_eq_true rfl, Nat.le_of_ble_eq_true rfl⟩ ⟨Nat.le_refl _, Nat.le_refl _⟩ (Nat.le_of_ble_eq_true rfl) dX1_readOrder_26 (fun H locs hR hS => ?_)
      refine g_callVi C hl.1 hR hS rc_X1 md_X1_readNumber ml_X1_51 (c_X1_readNumber l hI hx (p9 := p9 + 3) (m9 := 63) (by omega) (by decide)) rfl rfl ⟨Nat.le_of_ble_eq_true rfl, Nat.le_of_ble_eq_true rfl⟩ ⟨Nat.le_refl _, Nat.le_refl _⟩ (Nat.le_of_ble_eq_true rfl) dX1_readOrder_29 (fun H locs hR hS => ?_)
      refine g_istore_n C hl dX1_readOrder_32 (Nat.le_of_ble_eq_true rfl) (fun ls hl => ?_)
      refine g_aload_n C hl dX1_readOrder_33 rfl ?_
      refine xg_3 C hR fl_X1_35 dX1_readOrder_34 ?_
      refine g_if_eq (tgt := 63) C dX1_readOrder_37 (by decide) (by omega) (fun c37 => ?_) (fun c37 => ?_)
      · -- 37 T
        refine g_iload_n C hl dX1_readOrder_63 rfl ?_
        refine g_bipush 100 C dX1_readOrder_64 (by decide) ?_
        refine g_imul C dX1_readOrder_66 ?_
        refine g_iload_n C hl dX1_readOrder_67 rfl ?_
        refine g_iadd C dX1_readOrder_68 ?_
        refine g_iret C hR hS dX1_readOrder_69 ?_
        refine ⟨_, rfl, fun h => absurd h ?_, by rw [eq]⟩
        rw [eq]
        omega
      · -- 37 F
        refine g_iload_n C hl dX1_readOrder_40 rfl ?_
        refine g_callSi C hl.1 hR hS md_X1_mostSecond ml_X1_55 (c_X1_mostSecond l hI (i := 2) (by decide)) rfl rfl ⟨Nat.le_of_ble_eq_true rfl, Nat.le_of_ble_eq_true rfl⟩ ⟨Nat.le_refl _, Nat.le_refl _⟩ (Nat.le_of_ble_eq_true rfl) dX1_readOrder_41 (fun H locs hR hS => ?_)
        refine g_iconstM (-1) C dX1_readOrder_44 (by decide) ?_
        refine lv_icmp_eq (tgt := 63) C.1 C.2.1 dX1_readOrder_45 (by decide) (fun _ => ?_) (fun z9 => absurd rfl z9)
        refine g_iload_n C hl dX1_readOrder_63 rfl ?_
        refine g_bipush 100 C dX1_readOrder_64 (by decide) ?_
        refine g_imul C dX1_readOrder_66 ?_
        refine g_iload_n C hl dX1_readOrder_67 rfl ?_
        refine g_iadd C dX1_readOrder_68 ?_
        refine g_iret C hR hS dX1_readOrder_69 ?_
        have e1 : vNum n t (p9 + 3) 63 = pNv n t (p9 + 3, 0) 63 := if_pos (by omega)
        refine ⟨_, rfl, fun h => ?_, by rw [eq]⟩
        omega
    · -- store
      obtain ⟨eq, ev⟩ := kY_3 (by rw [hF] at hw; exact hw)
      have hb : p9 + 5 ≤ n := by
        rw [hF] at hw
        exact pw_b hp (by decide) hw
      have hq1 := pNq_le (n := n) (t := t) (q := (p9 + 5, 0)) (most := 63) hb
      refine g_aload_n C hl dX1_readOrder_0 rfl ?_
      refine g_aload_n C hl dX1_readOrder_1 rfl ?_
      refine g_callVi C hl.1 hR hS rc_X1 md_X1_readKind ml_X1_45 (c_X1_readKind l hI hx (by omega)) rfl rfl ⟨Nat.le_of_ble_eq_true rfl, Nat.le_of_ble_eq_true rfl⟩ ⟨Nat.le_refl _, Nat.le_refl _⟩ (Nat.le_of_ble_eq_true rfl) dX1_readOrder_2 (fun H locs hR hS => ?_)
      rw [if_pos hs, hs, hF] at hR
      have hR : gRep X (gP mem 7 5 (cT f (p9 + 5) 1)) H := hR
      rw [hF]
      refine g_istore_n C hl dX1_readOrder_5 (Nat.le_of_ble_eq_true rfl) (fun ls hl => ?_)
      refine g_iconst 0 C dX1_readOrder_6 (by decide) ?_
      refine g_istore_n C hl dX1_readOrder_7 (Nat.le_of_ble_eq_true rfl) (fun ls hl => ?_)
      refine g_aload_n C hl dX1_readOrder_8 rfl ?_
      refine xg_3 C hR fl_X1_35 dX1_readOrder_9 ?_
      refine g_if_eq (tgt := 33) C dX1_readOrder_12 (by decide) (by decide) (fun z9 => absurd z9 (by decide)) (fun c12 => ?_)
      refine g_iload_n C hl dX1_readOrder_15 rfl ?_
      refine g_callSi C hl.1 hR hS md_X1_mostFirst ml_X1_48 (c_X1_mostFirst l hI (i := 3) (by decide)) rfl rfl ⟨Nat.le_of_ble_eq_true rfl, Nat.le_of_ble_eq_true rfl⟩ ⟨Nat.le_refl _, Nat.le_refl _⟩ (Nat.le_of_ble_eq_true rfl) dX1_readOrder_16 (fun H locs hR hS => ?_)
      refine g_iconstM (-1) C dX1_readOrder_19 (by decide) ?_
      refine lv_icmp_eq (tgt := 33) C.1 C.2.1 dX1_readOrder_20 (by decide) (fun z9 => absurd z9 (by decide)) (fun _ => ?_)
      refine g_aload_n C hl dX1_readOrder_23 rfl ?_
      refine g_aload_n C hl dX1_readOrder_24 rfl ?_
      refine g_iload_n C hl dX1_readOrder_25 rfl ?_
      refine g_callSi C hl.1 hR hS md_X1_mostFirst ml_X1_48 (c_X1_mostFirst l hI (i := 3) (by decide)) rfl rfl ⟨Nat.le_of_ble_eq_true rfl, Nat.le_of_ble_eq_true rfl⟩ ⟨Nat.le_refl _, Nat.le_refl _⟩ (Nat.le_of_ble_eq_true rfl) dX1_readOrder_26 (fun H locs hR hS => ?_)
      refine g_callVi C hl.1 hR hS rc_X1 md_X1_readNumber ml_X1_51 (c_X1_readNumber l hI hx (p9 := p9 + 5) (m9 := 63) (by omega) (by decide)) rfl rfl ⟨Nat.le_of_ble_eq_true rfl, Nat.le_of_ble_eq_true rfl⟩ ⟨Nat.le_refl _, Nat.le_refl _⟩ (Nat.le_of_ble_eq_true rfl) dX1_readOrder_29 (fun H locs hR hS => ?_)
      refine g_istore_n C hl dX1_readOrder_32 (Nat.le_of_ble_eq_true rfl) (fun ls hl => ?_)
      refine g_aload_n C hl dX1_readOrder_33 rfl ?_
      refine xg_3 C hR fl_X1_35 dX1_readOrder_34 ?_
      refine g_if_eq (tgt := 63) C dX1_readOrder_37 (by decide) (by omega) (fun c37 => ?_) (fun c37 => ?_)
      · -- 37 T
        refine g_iload_n C hl dX1_readOrder_63 rfl ?_
        refine g_bipush 100 C dX1_readOrder_64 (by decide) ?_
        refine g_imul C dX1_readOrder_66 ?_
        refine g_iload_n C hl dX1_readOrder_67 rfl ?_
        refine g_iadd C dX1_readOrder_68 ?_
        refine g_iret C hR hS dX1_readOrder_69 ?_
        refine ⟨_, rfl, fun h => absurd h ?_, by rw [eq]⟩
        rw [eq]
        omega
      · -- 37 F
        refine g_iload_n C hl dX1_readOrder_40 rfl ?_
        refine g_callSi C hl.1 hR hS md_X1_mostSecond ml_X1_55 (c_X1_mostSecond l hI (i := 3) (by decide)) rfl rfl ⟨Nat.le_of_ble_eq_true rfl, Nat.le_of_ble_eq_true rfl⟩ ⟨Nat.le_refl _, Nat.le_refl _⟩ (Nat.le_of_ble_eq_true rfl) dX1_readOrder_41 (fun H locs hR hS => ?_)
        refine g_iconstM (-1) C dX1_readOrder_44 (by decide) ?_
        refine lv_icmp_eq (tgt := 63) C.1 C.2.1 dX1_readOrder_45 (by decide) (fun _ => ?_) (fun z9 => absurd rfl z9)
        refine g_iload_n C hl dX1_readOrder_63 rfl ?_
        refine g_bipush 100 C dX1_readOrder_64 (by decide) ?_
        refine g_imul C dX1_readOrder_66 ?_
        refine g_iload_n C hl dX1_readOrder_67 rfl ?_
        refine g_iadd C dX1_readOrder_68 ?_
        refine g_iret C hR hS dX1_readOrder_69 ?_
        have e1 : vNum n t (p9 + 5) 63 = pNv n t (p9 + 5, 0) 63 := if_pos (by omega)
        refine ⟨_, rfl, fun h => ?_, by rw [eq]⟩
        omega
    · -- jump
      obtain ⟨eq, ev⟩ := kY_4 (by rw [hF] at hw; exact hw)
      have hb : p9 + 4 ≤ n := by
        rw [hF] at hw
        exact pw_b hp (by decide) hw
      have hq1 := pNq_le (n := n) (t := t) (q := (p9 + 4, 0)) (most := 63) hb
      refine g_aload_n C hl dX1_readOrder_0 rfl ?_
      refine g_aload_n C hl dX1_readOrder_1 rfl ?_
      refine g_callVi C hl.1 hR hS rc_X1 md_X1_readKind ml_X1_45 (c_X1_readKind l hI hx (by omega)) rfl rfl ⟨Nat.le_of_ble_eq_true rfl, Nat.le_of_ble_eq_true rfl⟩ ⟨Nat.le_refl _, Nat.le_refl _⟩ (Nat.le_of_ble_eq_true rfl) dX1_readOrder_2 (fun H locs hR hS => ?_)
      rw [if_pos hs, hs, hF] at hR
      have hR : gRep X (gP mem 7 5 (cT f (p9 + 4) 1)) H := hR
      rw [hF]
      refine g_istore_n C hl dX1_readOrder_5 (Nat.le_of_ble_eq_true rfl) (fun ls hl => ?_)
      refine g_iconst 0 C dX1_readOrder_6 (by decide) ?_
      refine g_istore_n C hl dX1_readOrder_7 (Nat.le_of_ble_eq_true rfl) (fun ls hl => ?_)
      refine g_aload_n C hl dX1_readOrder_8 rfl ?_
      refine xg_3 C hR fl_X1_35 dX1_readOrder_9 ?_
      refine g_if_eq (tgt := 33) C dX1_readOrder_12 (by decide) (by decide) (fun z9 => absurd z9 (by decide)) (fun c12 => ?_)
      refine g_iload_n C hl dX1_readOrder_15 rfl ?_
      refine g_callSi C hl.1 hR hS md_X1_mostFirst ml_X1_48 (c_X1_mostFirst l hI (i := 4) (by decide)) rfl rfl ⟨Nat.le_of_ble_eq_true rfl, Nat.le_of_ble_eq_true rfl⟩ ⟨Nat.le_refl _, Nat.le_refl _⟩ (Nat.le_of_ble_eq_true rfl) dX1_readOrder_16 (fun H locs hR hS => ?_)
      refine g_iconstM (-1) C dX1_readOrder_19 (by decide) ?_
      refine lv_icmp_eq (tgt := 33) C.1 C.2.1 dX1_readOrder_20 (by decide) (fun z9 => absurd z9 (by decide)) (fun _ => ?_)
      refine g_aload_n C hl dX1_readOrder_23 rfl ?_
      refine g_aload_n C hl dX1_readOrder_24 rfl ?_
      refine g_iload_n C hl dX1_readOrder_25 rfl ?_
      refine g_callSi C hl.1 hR hS md_X1_mostFirst ml_X1_48 (c_X1_mostFirst l hI (i := 4) (by decide)) rfl rfl ⟨Nat.le_of_ble_eq_true rfl, Nat.le_of_ble_eq_true rfl⟩ ⟨Nat.le_refl _, Nat.le_refl _⟩ (Nat.le_of_ble_eq_true rfl) dX1_readOrder_26 (fun H locs hR hS => ?_)
      refine g_callVi C hl.1 hR hS rc_X1 md_X1_readNumber ml_X1_51 (c_X1_readNumber l hI hx (p9 := p9 + 4) (m9 := 63) (by omega) (by decide)) rfl rfl ⟨Nat.le_of_ble_eq_true rfl, Nat.le_of_ble_eq_true rfl⟩ ⟨Nat.le_refl _, Nat.le_refl _⟩ (Nat.le_of_ble_eq_true rfl) dX1_readOrder_29 (fun H locs hR hS => ?_)
      refine g_istore_n C hl dX1_readOrder_32 (Nat.le_of_ble_eq_true rfl) (fun ls hl => ?_)
      refine g_aload_n C hl dX1_readOrder_33 rfl ?_
      refine xg_3 C hR fl_X1_35 dX1_readOrder_34 ?_
      refine g_if_eq (tgt := 63) C dX1_readOrder_37 (by decide) (by omega) (fun c37 => ?_) (fun c37 => ?_)
      · -- 37 T
        refine g_iload_n C hl dX1_readOrder_63 rfl ?_
        refine g_bipush 100 C dX1_readOrder_64 (by decide) ?_
        refine g_imul C dX1_readOrder_66 ?_
        refine g_iload_n C hl dX1_readOrder_67 rfl ?_
        refine g_iadd C dX1_readOrder_68 ?_
        refine g_iret C hR hS dX1_readOrder_69 ?_
        refine ⟨_, rfl, fun h => absurd h ?_, by rw [eq]⟩
        rw [eq]
        omega
      · -- 37 F
        refine g_iload_n C hl dX1_readOrder_40 rfl ?_
        refine g_callSi C hl.1 hR hS md_X1_mostSecond ml_X1_55 (c_X1_mostSecond l hI (i := 4) (by decide)) rfl rfl ⟨Nat.le_of_ble_eq_true rfl, Nat.le_of_ble_eq_true rfl⟩ ⟨Nat.le_refl _, Nat.le_refl _⟩ (Nat.le_of_ble_eq_true rfl) dX1_readOrder_41 (fun H locs hR hS => ?_)
        refine g_iconstM (-1) C dX1_readOrder_44 (by decide) ?_
        refine lv_icmp_eq (tgt := 63) C.1 C.2.1 dX1_readOrder_45 (by decide) (fun _ => ?_) (fun z9 => absurd rfl z9)
        refine g_iload_n C hl dX1_readOrder_63 rfl ?_
        refine g_bipush 100 C dX1_readOrder_64 (by decide) ?_
        refine g_imul C dX1_readOrder_66 ?_
        refine g_iload_n C hl dX1_readOrder_67 rfl ?_
        refine g_iadd C dX1_readOrder_68 ?_
        refine g_iret C hR hS dX1_readOrder_69 ?_
        have e1 : vNum n t (p9 + 4) 63 = pNv n t (p9 + 4, 0) 63 := if_pos (by omega)
        refine ⟨_, rfl, fun h => ?_, by rw [eq]⟩
        omega
    · -- zero
      obtain ⟨eq, ev⟩ := kY_5 (by rw [hF] at hw; exact hw)
      have hb : p9 + 4 ≤ n := by
        rw [hF] at hw
        exact pw_b hp (by decide) hw
      have hq1 := pNq_le (n := n) (t := t) (q := (p9 + 4, 0)) (most := 63) hb
      refine g_aload_n C hl dX1_readOrder_0 rfl ?_
      refine g_aload_n C hl dX1_readOrder_1 rfl ?_
      refine g_callVi C hl.1 hR hS rc_X1 md_X1_readKind ml_X1_45 (c_X1_readKind l hI hx (by omega)) rfl rfl ⟨Nat.le_of_ble_eq_true rfl, Nat.le_of_ble_eq_true rfl⟩ ⟨Nat.le_refl _, Nat.le_refl _⟩ (Nat.le_of_ble_eq_true rfl) dX1_readOrder_2 (fun H locs hR hS => ?_)
      rw [if_pos hs, hs, hF] at hR
      have hR : gRep X (gP mem 7 5 (cT f (p9 + 4) 1)) H := hR
      rw [hF]
      refine g_istore_n C hl dX1_readOrder_5 (Nat.le_of_ble_eq_true rfl) (fun ls hl => ?_)
      refine g_iconst 0 C dX1_readOrder_6 (by decide) ?_
      refine g_istore_n C hl dX1_readOrder_7 (Nat.le_of_ble_eq_true rfl) (fun ls hl => ?_)
      refine g_aload_n C hl dX1_readOrder_8 rfl ?_
      refine xg_3 C hR fl_X1_35 dX1_readOrder_9 ?_
      refine g_if_eq (tgt := 33) C dX1_readOrder_12 (by decide) (by decide) (fun z9 => absurd z9 (by decide)) (fun c12 => ?_)
      refine g_iload_n C hl dX1_readOrder_15 rfl ?_
      refine g_callSi C hl.1 hR hS md_X1_mostFirst ml_X1_48 (c_X1_mostFirst l hI (i := 5) (by decide)) rfl rfl ⟨Nat.le_of_ble_eq_true rfl, Nat.le_of_ble_eq_true rfl⟩ ⟨Nat.le_refl _, Nat.le_refl _⟩ (Nat.le_of_ble_eq_true rfl) dX1_readOrder_16 (fun H locs hR hS => ?_)
      refine g_iconstM (-1) C dX1_readOrder_19 (by decide) ?_
      refine lv_icmp_eq (tgt := 33) C.1 C.2.1 dX1_readOrder_20 (by decide) (fun z9 => absurd z9 (by decide)) (fun _ => ?_)
      refine g_aload_n C hl dX1_readOrder_23 rfl ?_
      refine g_aload_n C hl dX1_readOrder_24 rfl ?_
      refine g_iload_n C hl dX1_readOrder_25 rfl ?_
      refine g_callSi C hl.1 hR hS md_X1_mostFirst ml_X1_48 (c_X1_mostFirst l hI (i := 5) (by decide)) rfl rfl ⟨Nat.le_of_ble_eq_true rfl, Nat.le_of_ble_eq_true rfl⟩ ⟨Nat.le_refl _, Nat.le_refl _⟩ (Nat.le_of_ble_eq_true rfl) dX1_readOrder_26 (fun H locs hR hS => ?_)
      refine g_callVi C hl.1 hR hS rc_X1 md_X1_readNumber ml_X1_51 (c_X1_readNumber l hI hx (p9 := p9 + 4) (m9 := 63) (by omega) (by decide)) rfl rfl ⟨Nat.le_of_ble_eq_true rfl, Nat.le_of_ble_eq_true rfl⟩ ⟨Nat.le_refl _, Nat.le_refl _⟩ (Nat.le_of_ble_eq_true rfl) dX1_readOrder_29 (fun H locs hR hS => ?_)
      refine g_istore_n C hl dX1_readOrder_32 (Nat.le_of_ble_eq_true rfl) (fun ls hl => ?_)
      refine g_aload_n C hl dX1_readOrder_33 rfl ?_
      refine xg_3 C hR fl_X1_35 dX1_readOrder_34 ?_
      refine g_if_eq (tgt := 63) C dX1_readOrder_37 (by decide) (by omega) (fun c37 => ?_) (fun c37 => ?_)
      · -- 37 T
        refine g_iload_n C hl dX1_readOrder_63 rfl ?_
        refine g_bipush 100 C dX1_readOrder_64 (by decide) ?_
        refine g_imul C dX1_readOrder_66 ?_
        refine g_iload_n C hl dX1_readOrder_67 rfl ?_
        refine g_iadd C dX1_readOrder_68 ?_
        refine g_iret C hR hS dX1_readOrder_69 ?_
        refine ⟨_, rfl, fun h => absurd h ?_, by rw [eq]⟩
        rw [eq]
        omega
      · -- 37 F
        refine g_iload_n C hl dX1_readOrder_40 rfl ?_
        refine g_callSi C hl.1 hR hS md_X1_mostSecond ml_X1_55 (c_X1_mostSecond l hI (i := 5) (by decide)) rfl rfl ⟨Nat.le_of_ble_eq_true rfl, Nat.le_of_ble_eq_true rfl⟩ ⟨Nat.le_refl _, Nat.le_refl _⟩ (Nat.le_of_ble_eq_true rfl) dX1_readOrder_41 (fun H locs hR hS => ?_)
        refine g_iconstM (-1) C dX1_readOrder_44 (by decide) ?_
        refine lv_icmp_eq (tgt := 63) C.1 C.2.1 dX1_readOrder_45 (by decide) (fun _ => ?_) (fun z9 => absurd rfl z9)
        refine g_iload_n C hl dX1_readOrder_63 rfl ?_
        refine g_bipush 100 C dX1_readOrder_64 (by decide) ?_
        refine g_imul C dX1_readOrder_66 ?_
        refine g_iload_n C hl dX1_readOrder_67 rfl ?_
        refine g_iadd C dX1_readOrder_68 ?_
        refine g_iret C hR hS dX1_readOrder_69 ?_
        have e1 : vNum n t (p9 + 4) 63 = pNv n t (p9 + 4, 0) 63 := if_pos (by omega)
        refine ⟨_, rfl, fun h => ?_, by rw [eq]⟩
        omega
    · -- show
      obtain ⟨eq, ev⟩ := kY_6 (by rw [hF] at hw; exact hw)
      have hb : p9 + 4 ≤ n := by
        rw [hF] at hw
        exact pw_b hp (by decide) hw
      have hq1 := pNq_le (n := n) (t := t) (q := (p9 + 4, 0)) (most := 3) hb
      refine g_aload_n C hl dX1_readOrder_0 rfl ?_
      refine g_aload_n C hl dX1_readOrder_1 rfl ?_
      refine g_callVi C hl.1 hR hS rc_X1 md_X1_readKind ml_X1_45 (c_X1_readKind l hI hx (by omega)) rfl rfl ⟨Nat.le_of_ble_eq_true rfl, Nat.le_of_ble_eq_true rfl⟩ ⟨Nat.le_refl _, Nat.le_refl _⟩ (Nat.le_of_ble_eq_true rfl) dX1_readOrder_2 (fun H locs hR hS => ?_)
      rw [if_pos hs, hs, hF] at hR
      have hR : gRep X (gP mem 7 5 (cT f (p9 + 4) 1)) H := hR
      rw [hF]
      refine g_istore_n C hl dX1_readOrder_5 (Nat.le_of_ble_eq_true rfl) (fun ls hl => ?_)
      refine g_iconst 0 C dX1_readOrder_6 (by decide) ?_
      refine g_istore_n C hl dX1_readOrder_7 (Nat.le_of_ble_eq_true rfl) (fun ls hl => ?_)
      refine g_aload_n C hl dX1_readOrder_8 rfl ?_
      refine xg_3 C hR fl_X1_35 dX1_readOrder_9 ?_
      refine g_if_eq (tgt := 33) C dX1_readOrder_12 (by decide) (by decide) (fun z9 => absurd z9 (by decide)) (fun c12 => ?_)
      refine g_iload_n C hl dX1_readOrder_15 rfl ?_
      refine g_callSi C hl.1 hR hS md_X1_mostFirst ml_X1_48 (c_X1_mostFirst l hI (i := 6) (by decide)) rfl rfl ⟨Nat.le_of_ble_eq_true rfl, Nat.le_of_ble_eq_true rfl⟩ ⟨Nat.le_refl _, Nat.le_refl _⟩ (Nat.le_of_ble_eq_true rfl) dX1_readOrder_16 (fun H locs hR hS => ?_)
      refine g_iconstM (-1) C dX1_readOrder_19 (by decide) ?_
      refine lv_icmp_eq (tgt := 33) C.1 C.2.1 dX1_readOrder_20 (by decide) (fun z9 => absurd z9 (by decide)) (fun _ => ?_)
      refine g_aload_n C hl dX1_readOrder_23 rfl ?_
      refine g_aload_n C hl dX1_readOrder_24 rfl ?_
      refine g_iload_n C hl dX1_readOrder_25 rfl ?_
      refine g_callSi C hl.1 hR hS md_X1_mostFirst ml_X1_48 (c_X1_mostFirst l hI (i := 6) (by decide)) rfl rfl ⟨Nat.le_of_ble_eq_true rfl, Nat.le_of_ble_eq_true rfl⟩ ⟨Nat.le_refl _, Nat.le_refl _⟩ (Nat.le_of_ble_eq_true rfl) dX1_readOrder_26 (fun H locs hR hS => ?_)
      refine g_callVi C hl.1 hR hS rc_X1 md_X1_readNumber ml_X1_51 (c_X1_readNumber l hI hx (p9 := p9 + 4) (m9 := 3) (by omega) (by decide)) rfl rfl ⟨Nat.le_of_ble_eq_true rfl, Nat.le_of_ble_eq_true rfl⟩ ⟨Nat.le_refl _, Nat.le_refl _⟩ (Nat.le_of_ble_eq_true rfl) dX1_readOrder_29 (fun H locs hR hS => ?_)
      refine g_istore_n C hl dX1_readOrder_32 (Nat.le_of_ble_eq_true rfl) (fun ls hl => ?_)
      refine g_aload_n C hl dX1_readOrder_33 rfl ?_
      refine xg_3 C hR fl_X1_35 dX1_readOrder_34 ?_
      refine g_if_eq (tgt := 63) C dX1_readOrder_37 (by decide) (by omega) (fun c37 => ?_) (fun c37 => ?_)
      · -- 37 T
        refine g_iload_n C hl dX1_readOrder_63 rfl ?_
        refine g_bipush 100 C dX1_readOrder_64 (by decide) ?_
        refine g_imul C dX1_readOrder_66 ?_
        refine g_iload_n C hl dX1_readOrder_67 rfl ?_
        refine g_iadd C dX1_readOrder_68 ?_
        refine g_iret C hR hS dX1_readOrder_69 ?_
        have e2 : pOq n t p9 = ((pNq n t (p9 + 4, 0) 3).1, 1) := by
          rw [eq]
          exact pNq_f (by omega) hq1.2
        refine ⟨_, rfl, fun h => absurd h ?_, ?_⟩
        · rw [e2]
          show ¬ 1 = 0
          decide
        · rw [e2, show 1 - (pNq n t (p9 + 4, 0) 3).2 = 1 - 1 by omega]
      · -- 37 F
        refine g_iload_n C hl dX1_readOrder_40 rfl ?_
        refine g_callSi C hl.1 hR hS md_X1_mostSecond ml_X1_55 (c_X1_mostSecond l hI (i := 6) (by decide)) rfl rfl ⟨Nat.le_of_ble_eq_true rfl, Nat.le_of_ble_eq_true rfl⟩ ⟨Nat.le_refl _, Nat.le_refl _⟩ (Nat.le_of_ble_eq_true rfl) dX1_readOrder_41 (fun H locs hR hS => ?_)
        refine g_iconstM (-1) C dX1_readOrder_44 (by decide) ?_
        refine lv_icmp_eq (tgt := 63) C.1 C.2.1 dX1_readOrder_45 (by decide) (fun z9 => absurd z9 (by decide)) (fun _ => ?_)
        refine g_iload_n C hl dX1_readOrder_48 rfl ?_
        refine g_bipush 10 C dX1_readOrder_49 (by decide) ?_
        refine g_imul C dX1_readOrder_51 ?_
        refine g_aload_n C hl dX1_readOrder_52 rfl ?_
        refine g_aload_n C hl dX1_readOrder_53 rfl ?_
        refine g_iload_n C hl dX1_readOrder_54 rfl ?_
        refine g_callSi C hl.1 hR hS md_X1_mostSecond ml_X1_55 (c_X1_mostSecond l hI (i := 6) (by decide)) rfl rfl ⟨Nat.le_of_ble_eq_true rfl, Nat.le_of_ble_eq_true rfl⟩ ⟨Nat.le_refl _, Nat.le_refl _⟩ (Nat.le_of_ble_eq_true rfl) dX1_readOrder_55 (fun H locs hR hS => ?_)
        refine g_callVi C hl.1 hR hS rc_X1 md_X1_readNumber ml_X1_51 (c_X1_readNumber l hI hx (p9 := (pNq n t (p9 + 4, 0) 3).1) (m9 := 7) (by omega) (by decide)) rfl rfl ⟨Nat.le_of_ble_eq_true rfl, Nat.le_of_ble_eq_true rfl⟩ ⟨Nat.le_refl _, Nat.le_refl _⟩ (Nat.le_of_ble_eq_true rfl) dX1_readOrder_58 (fun H locs hR hS => ?_)
        refine g_iadd C dX1_readOrder_61 ?_
        refine g_istore_n C hl dX1_readOrder_62 (Nat.le_of_ble_eq_true rfl) (fun ls hl => ?_)
        refine g_iload_n C hl dX1_readOrder_63 rfl ?_
        refine g_bipush 100 C dX1_readOrder_64 (by decide) ?_
        refine g_imul C dX1_readOrder_66 ?_
        refine g_iload_n C hl dX1_readOrder_67 rfl ?_
        refine g_iadd C dX1_readOrder_68 ?_
        refine g_iret C hR hS dX1_readOrder_69 ?_
        have e0 : (pNq n t (p9 + 4, 0) 3).2 = 0 := by omega
        have e1 : vNum n t (p9 + 4) 3 = pNv n t (p9 + 4, 0) 3 := if_pos e0
        rw [pNq_e e0] at eq ev
        refine ⟨_, rfl, fun h => ?_, by rw [eq]⟩
        rw [eq] at h
        have e3 : vNum n t (pNq n t (p9 + 4, 0) 3).1 7 = pNv n t ((pNq n t (p9 + 4, 0) 3).1, 0) 7 := if_pos h
        omega
    · -- call
      obtain ⟨eq, ev⟩ := kY_7 (by rw [hF] at hw; exact hw)
      have hb : p9 + 4 ≤ n := by
        rw [hF] at hw
        exact pw_b hp (by decide) hw
      have hq1 := pNq_le (n := n) (t := t) (q := (p9 + 4, 0)) (most := 7) hb
      refine g_aload_n C hl dX1_readOrder_0 rfl ?_
      refine g_aload_n C hl dX1_readOrder_1 rfl ?_
      refine g_callVi C hl.1 hR hS rc_X1 md_X1_readKind ml_X1_45 (c_X1_readKind l hI hx (by omega)) rfl rfl ⟨Nat.le_of_ble_eq_true rfl, Nat.le_of_ble_eq_true rfl⟩ ⟨Nat.le_refl _, Nat.le_refl _⟩ (Nat.le_of_ble_eq_true rfl) dX1_readOrder_2 (fun H locs hR hS => ?_)
      rw [if_pos hs, hs, hF] at hR
      have hR : gRep X (gP mem 7 5 (cT f (p9 + 4) 1)) H := hR
      rw [hF]
      refine g_istore_n C hl dX1_readOrder_5 (Nat.le_of_ble_eq_true rfl) (fun ls hl => ?_)
      refine g_iconst 0 C dX1_readOrder_6 (by decide) ?_
      refine g_istore_n C hl dX1_readOrder_7 (Nat.le_of_ble_eq_true rfl) (fun ls hl => ?_)
      refine g_aload_n C hl dX1_readOrder_8 rfl ?_
      refine xg_3 C hR fl_X1_35 dX1_readOrder_9 ?_
      refine g_if_eq (tgt := 33) C dX1_readOrder_12 (by decide) (by decide) (fun z9 => absurd z9 (by decide)) (fun c12 => ?_)
      refine g_iload_n C hl dX1_readOrder_15 rfl ?_
      refine g_callSi C hl.1 hR hS md_X1_mostFirst ml_X1_48 (c_X1_mostFirst l hI (i := 7) (by decide)) rfl rfl ⟨Nat.le_of_ble_eq_true rfl, Nat.le_of_ble_eq_true rfl⟩ ⟨Nat.le_refl _, Nat.le_refl _⟩ (Nat.le_of_ble_eq_true rfl) dX1_readOrder_16 (fun H locs hR hS => ?_)
      refine g_iconstM (-1) C dX1_readOrder_19 (by decide) ?_
      refine lv_icmp_eq (tgt := 33) C.1 C.2.1 dX1_readOrder_20 (by decide) (fun z9 => absurd z9 (by decide)) (fun _ => ?_)
      refine g_aload_n C hl dX1_readOrder_23 rfl ?_
      refine g_aload_n C hl dX1_readOrder_24 rfl ?_
      refine g_iload_n C hl dX1_readOrder_25 rfl ?_
      refine g_callSi C hl.1 hR hS md_X1_mostFirst ml_X1_48 (c_X1_mostFirst l hI (i := 7) (by decide)) rfl rfl ⟨Nat.le_of_ble_eq_true rfl, Nat.le_of_ble_eq_true rfl⟩ ⟨Nat.le_refl _, Nat.le_refl _⟩ (Nat.le_of_ble_eq_true rfl) dX1_readOrder_26 (fun H locs hR hS => ?_)
      refine g_callVi C hl.1 hR hS rc_X1 md_X1_readNumber ml_X1_51 (c_X1_readNumber l hI hx (p9 := p9 + 4) (m9 := 7) (by omega) (by decide)) rfl rfl ⟨Nat.le_of_ble_eq_true rfl, Nat.le_of_ble_eq_true rfl⟩ ⟨Nat.le_refl _, Nat.le_refl _⟩ (Nat.le_of_ble_eq_true rfl) dX1_readOrder_29 (fun H locs hR hS => ?_)
      refine g_istore_n C hl dX1_readOrder_32 (Nat.le_of_ble_eq_true rfl) (fun ls hl => ?_)
      refine g_aload_n C hl dX1_readOrder_33 rfl ?_
      refine xg_3 C hR fl_X1_35 dX1_readOrder_34 ?_
      refine g_if_eq (tgt := 63) C dX1_readOrder_37 (by decide) (by omega) (fun c37 => ?_) (fun c37 => ?_)
      · -- 37 T
        refine g_iload_n C hl dX1_readOrder_63 rfl ?_
        refine g_bipush 100 C dX1_readOrder_64 (by decide) ?_
        refine g_imul C dX1_readOrder_66 ?_
        refine g_iload_n C hl dX1_readOrder_67 rfl ?_
        refine g_iadd C dX1_readOrder_68 ?_
        refine g_iret C hR hS dX1_readOrder_69 ?_
        have e2 : pOq n t p9 = ((pNq n t (p9 + 4, 0) 7).1, 1) := by
          rw [eq]
          exact pNq_f (by omega) hq1.2
        refine ⟨_, rfl, fun h => absurd h ?_, ?_⟩
        · rw [e2]
          show ¬ 1 = 0
          decide
        · rw [e2, show 1 - (pNq n t (p9 + 4, 0) 7).2 = 1 - 1 by omega]
      · -- 37 F
        refine g_iload_n C hl dX1_readOrder_40 rfl ?_
        refine g_callSi C hl.1 hR hS md_X1_mostSecond ml_X1_55 (c_X1_mostSecond l hI (i := 7) (by decide)) rfl rfl ⟨Nat.le_of_ble_eq_true rfl, Nat.le_of_ble_eq_true rfl⟩ ⟨Nat.le_refl _, Nat.le_refl _⟩ (Nat.le_of_ble_eq_true rfl) dX1_readOrder_41 (fun H locs hR hS => ?_)
        refine g_iconstM (-1) C dX1_readOrder_44 (by decide) ?_
        refine lv_icmp_eq (tgt := 63) C.1 C.2.1 dX1_readOrder_45 (by decide) (fun z9 => absurd z9 (by decide)) (fun _ => ?_)
        refine g_iload_n C hl dX1_readOrder_48 rfl ?_
        refine g_bipush 10 C dX1_readOrder_49 (by decide) ?_
        refine g_imul C dX1_readOrder_51 ?_
        refine g_aload_n C hl dX1_readOrder_52 rfl ?_
        refine g_aload_n C hl dX1_readOrder_53 rfl ?_
        refine g_iload_n C hl dX1_readOrder_54 rfl ?_
        refine g_callSi C hl.1 hR hS md_X1_mostSecond ml_X1_55 (c_X1_mostSecond l hI (i := 7) (by decide)) rfl rfl ⟨Nat.le_of_ble_eq_true rfl, Nat.le_of_ble_eq_true rfl⟩ ⟨Nat.le_refl _, Nat.le_refl _⟩ (Nat.le_of_ble_eq_true rfl) dX1_readOrder_55 (fun H locs hR hS => ?_)
        refine g_callVi C hl.1 hR hS rc_X1 md_X1_readNumber ml_X1_51 (c_X1_readNumber l hI hx (p9 := (pNq n t (p9 + 4, 0) 7).1) (m9 := 9) (by omega) (by decide)) rfl rfl ⟨Nat.le_of_ble_eq_true rfl, Nat.le_of_ble_eq_true rfl⟩ ⟨Nat.le_refl _, Nat.le_refl _⟩ (Nat.le_of_ble_eq_true rfl) dX1_readOrder_58 (fun H locs hR hS => ?_)
        refine g_iadd C dX1_readOrder_61 ?_
        refine g_istore_n C hl dX1_readOrder_62 (Nat.le_of_ble_eq_true rfl) (fun ls hl => ?_)
        refine g_iload_n C hl dX1_readOrder_63 rfl ?_
        refine g_bipush 100 C dX1_readOrder_64 (by decide) ?_
        refine g_imul C dX1_readOrder_66 ?_
        refine g_iload_n C hl dX1_readOrder_67 rfl ?_
        refine g_iadd C dX1_readOrder_68 ?_
        refine g_iret C hR hS dX1_readOrder_69 ?_
        have e0 : (pNq n t (p9 + 4, 0) 7).2 = 0 := by omega
        have e1 : vNum n t (p9 + 4) 7 = pNv n t (p9 + 4, 0) 7 := if_pos e0
        rw [pNq_e e0] at eq ev
        refine ⟨_, rfl, fun h => ?_, by rw [eq]⟩
        rw [eq] at h
        have e3 : vNum n t (pNq n t (p9 + 4, 0) 7).1 9 = pNv n t ((pNq n t (p9 + 4, 0) 7).1, 0) 9 := if_pos h
        omega
    · -- back
      obtain ⟨eq, ev⟩ := kY_8 (by rw [hF] at hw; exact hw)
      have hb : p9 + 4 ≤ n := by
        rw [hF] at hw
        exact pw_b hp (by decide) hw
      refine g_aload_n C hl dX1_readOrder_0 rfl ?_
      refine g_aload_n C hl dX1_readOrder_1 rfl ?_
      refine g_callVi C hl.1 hR hS rc_X1 md_X1_readKind ml_X1_45 (c_X1_readKind l hI hx (by omega)) rfl rfl ⟨Nat.le_of_ble_eq_true rfl, Nat.le_of_ble_eq_true rfl⟩ ⟨Nat.le_refl _, Nat.le_refl _⟩ (Nat.le_of_ble_eq_true rfl) dX1_readOrder_2 (fun H locs hR hS => ?_)
      rw [if_pos hs, hs, hF] at hR
      have hR : gRep X (gP mem 7 5 (cT f (p9 + 4) 1)) H := hR
      rw [hF]
      refine g_istore_n C hl dX1_readOrder_5 (Nat.le_of_ble_eq_true rfl) (fun ls hl => ?_)
      refine g_iconst 0 C dX1_readOrder_6 (by decide) ?_
      refine g_istore_n C hl dX1_readOrder_7 (Nat.le_of_ble_eq_true rfl) (fun ls hl => ?_)
      refine g_aload_n C hl dX1_readOrder_8 rfl ?_
      refine xg_3 C hR fl_X1_35 dX1_readOrder_9 ?_
      refine g_if_eq (tgt := 33) C dX1_readOrder_12 (by decide) (by decide) (fun z9 => absurd z9 (by decide)) (fun c12 => ?_)
      refine g_iload_n C hl dX1_readOrder_15 rfl ?_
      refine g_callSi C hl.1 hR hS md_X1_mostFirst ml_X1_48 (c_X1_mostFirst l hI (i := 8) (by decide)) rfl rfl ⟨Nat.le_of_ble_eq_true rfl, Nat.le_of_ble_eq_true rfl⟩ ⟨Nat.le_refl _, Nat.le_refl _⟩ (Nat.le_of_ble_eq_true rfl) dX1_readOrder_16 (fun H locs hR hS => ?_)
      refine g_iconstM (-1) C dX1_readOrder_19 (by decide) ?_
      refine lv_icmp_eq (tgt := 33) C.1 C.2.1 dX1_readOrder_20 (by decide) (fun _ => ?_) (fun z9 => absurd rfl z9)
      refine g_aload_n C hl dX1_readOrder_33 rfl ?_
      refine xg_3 C hR fl_X1_35 dX1_readOrder_34 ?_
      refine g_if_eq (tgt := 63) C dX1_readOrder_37 (by decide) (by omega) (fun z9 => absurd z9 (by decide)) (fun c37 => ?_)
      refine g_iload_n C hl dX1_readOrder_40 rfl ?_
      refine g_callSi C hl.1 hR hS md_X1_mostSecond ml_X1_55 (c_X1_mostSecond l hI (i := 8) (by decide)) rfl rfl ⟨Nat.le_of_ble_eq_true rfl, Nat.le_of_ble_eq_true rfl⟩ ⟨Nat.le_refl _, Nat.le_refl _⟩ (Nat.le_of_ble_eq_true rfl) dX1_readOrder_41 (fun H locs hR hS => ?_)
      refine g_iconstM (-1) C dX1_readOrder_44 (by decide) ?_
      refine lv_icmp_eq (tgt := 63) C.1 C.2.1 dX1_readOrder_45 (by decide) (fun _ => ?_) (fun z9 => absurd rfl z9)
      refine g_iload_n C hl dX1_readOrder_63 rfl ?_
      refine g_bipush 100 C dX1_readOrder_64 (by decide) ?_
      refine g_imul C dX1_readOrder_66 ?_
      refine g_iload_n C hl dX1_readOrder_67 rfl ?_
      refine g_iadd C dX1_readOrder_68 ?_
      refine g_iret C hR hS dX1_readOrder_69 ?_
      exact ⟨_, rfl, fun _ => by rw [ev], by rw [eq]; rfl⟩
    · -- plus
      obtain ⟨eq, ev⟩ := kY_9 (by rw [hF] at hw; exact hw)
      have hb : p9 + 4 ≤ n := by
        rw [hF] at hw
        exact pw_b hp (by decide) hw
      have hq1 := pNq_le (n := n) (t := t) (q := (p9 + 4, 0)) (most := 99) hb
      refine g_aload_n C hl dX1_readOrder_0 rfl ?_
      refine g_aload_n C hl dX1_readOrder_1 rfl ?_
      refine g_callVi C hl.1 hR hS rc_X1 md_X1_readKind ml_X1_45 (c_X1_readKind l hI hx (by omega)) rfl rfl ⟨Nat.le_of_ble_eq_true rfl, Nat.le_of_ble_eq_true rfl⟩ ⟨Nat.le_refl _, Nat.le_refl _⟩ (Nat.le_of_ble_eq_true rfl) dX1_readOrder_2 (fun H locs hR hS => ?_)
      rw [if_pos hs, hs, hF] at hR
      have hR : gRep X (gP mem 7 5 (cT f (p9 + 4) 1)) H := hR
      rw [hF]
      refine g_istore_n C hl dX1_readOrder_5 (Nat.le_of_ble_eq_true rfl) (fun ls hl => ?_)
      refine g_iconst 0 C dX1_readOrder_6 (by decide) ?_
      refine g_istore_n C hl dX1_readOrder_7 (Nat.le_of_ble_eq_true rfl) (fun ls hl => ?_)
      refine g_aload_n C hl dX1_readOrder_8 rfl ?_
      refine xg_3 C hR fl_X1_35 dX1_readOrder_9 ?_
      refine g_if_eq (tgt := 33) C dX1_readOrder_12 (by decide) (by decide) (fun z9 => absurd z9 (by decide)) (fun c12 => ?_)
      refine g_iload_n C hl dX1_readOrder_15 rfl ?_
      refine g_callSi C hl.1 hR hS md_X1_mostFirst ml_X1_48 (c_X1_mostFirst l hI (i := 9) (by decide)) rfl rfl ⟨Nat.le_of_ble_eq_true rfl, Nat.le_of_ble_eq_true rfl⟩ ⟨Nat.le_refl _, Nat.le_refl _⟩ (Nat.le_of_ble_eq_true rfl) dX1_readOrder_16 (fun H locs hR hS => ?_)
      refine g_iconstM (-1) C dX1_readOrder_19 (by decide) ?_
      refine lv_icmp_eq (tgt := 33) C.1 C.2.1 dX1_readOrder_20 (by decide) (fun z9 => absurd z9 (by decide)) (fun _ => ?_)
      refine g_aload_n C hl dX1_readOrder_23 rfl ?_
      refine g_aload_n C hl dX1_readOrder_24 rfl ?_
      refine g_iload_n C hl dX1_readOrder_25 rfl ?_
      refine g_callSi C hl.1 hR hS md_X1_mostFirst ml_X1_48 (c_X1_mostFirst l hI (i := 9) (by decide)) rfl rfl ⟨Nat.le_of_ble_eq_true rfl, Nat.le_of_ble_eq_true rfl⟩ ⟨Nat.le_refl _, Nat.le_refl _⟩ (Nat.le_of_ble_eq_true rfl) dX1_readOrder_26 (fun H locs hR hS => ?_)
      refine g_callVi C hl.1 hR hS rc_X1 md_X1_readNumber ml_X1_51 (c_X1_readNumber l hI hx (p9 := p9 + 4) (m9 := 99) (by omega) (by decide)) rfl rfl ⟨Nat.le_of_ble_eq_true rfl, Nat.le_of_ble_eq_true rfl⟩ ⟨Nat.le_refl _, Nat.le_refl _⟩ (Nat.le_of_ble_eq_true rfl) dX1_readOrder_29 (fun H locs hR hS => ?_)
      refine g_istore_n C hl dX1_readOrder_32 (Nat.le_of_ble_eq_true rfl) (fun ls hl => ?_)
      refine g_aload_n C hl dX1_readOrder_33 rfl ?_
      refine xg_3 C hR fl_X1_35 dX1_readOrder_34 ?_
      refine g_if_eq (tgt := 63) C dX1_readOrder_37 (by decide) (by omega) (fun c37 => ?_) (fun c37 => ?_)
      · -- 37 T
        refine g_iload_n C hl dX1_readOrder_63 rfl ?_
        refine g_bipush 100 C dX1_readOrder_64 (by decide) ?_
        refine g_imul C dX1_readOrder_66 ?_
        refine g_iload_n C hl dX1_readOrder_67 rfl ?_
        refine g_iadd C dX1_readOrder_68 ?_
        refine g_iret C hR hS dX1_readOrder_69 ?_
        refine ⟨_, rfl, fun h => absurd h ?_, by rw [eq]⟩
        rw [eq]
        omega
      · -- 37 F
        refine g_iload_n C hl dX1_readOrder_40 rfl ?_
        refine g_callSi C hl.1 hR hS md_X1_mostSecond ml_X1_55 (c_X1_mostSecond l hI (i := 9) (by decide)) rfl rfl ⟨Nat.le_of_ble_eq_true rfl, Nat.le_of_ble_eq_true rfl⟩ ⟨Nat.le_refl _, Nat.le_refl _⟩ (Nat.le_of_ble_eq_true rfl) dX1_readOrder_41 (fun H locs hR hS => ?_)
        refine g_iconstM (-1) C dX1_readOrder_44 (by decide) ?_
        refine lv_icmp_eq (tgt := 63) C.1 C.2.1 dX1_readOrder_45 (by decide) (fun _ => ?_) (fun z9 => absurd rfl z9)
        refine g_iload_n C hl dX1_readOrder_63 rfl ?_
        refine g_bipush 100 C dX1_readOrder_64 (by decide) ?_
        refine g_imul C dX1_readOrder_66 ?_
        refine g_iload_n C hl dX1_readOrder_67 rfl ?_
        refine g_iadd C dX1_readOrder_68 ?_
        refine g_iret C hR hS dX1_readOrder_69 ?_
        have e1 : vNum n t (p9 + 4) 99 = pNv n t (p9 + 4, 0) 99 := if_pos (by omega)
        refine ⟨_, rfl, fun h => ?_, by rw [eq]⟩
        omega
  · have eq := k1 hs
    refine g_aload_n C hl dX1_readOrder_0 rfl ?_
    refine g_aload_n C hl dX1_readOrder_1 rfl ?_
    refine g_callVi C hl.1 hR hS rc_X1 md_X1_readKind ml_X1_45 (c_X1_readKind l hI hx (by omega)) rfl rfl ⟨Nat.le_of_ble_eq_true rfl, Nat.le_of_ble_eq_true rfl⟩ ⟨Nat.le_refl _, Nat.le_refl _⟩ (Nat.le_of_ble_eq_true rfl) dX1_readOrder_2 (fun H locs hR hS => ?_)
    rw [if_neg hs] at hR
    refine g_istore_n C hl dX1_readOrder_5 (Nat.le_of_ble_eq_true rfl) (fun ls hl => ?_)
    refine g_iconst 0 C dX1_readOrder_6 (by decide) ?_
    refine g_istore_n C hl dX1_readOrder_7 (Nat.le_of_ble_eq_true rfl) (fun ls hl => ?_)
    refine g_aload_n C hl dX1_readOrder_8 rfl ?_
    refine xg_3 C hR fl_X1_35 dX1_readOrder_9 ?_
    refine g_if_eq (tgt := 33) C dX1_readOrder_12 (by decide) (by decide) (fun c12 => ?_) (fun z9 => absurd z9 (by decide))
    refine g_aload_n C hl dX1_readOrder_33 rfl ?_
    refine xg_3 C hR fl_X1_35 dX1_readOrder_34 ?_
    refine g_if_eq (tgt := 63) C dX1_readOrder_37 (by decide) (by decide) (fun c37 => ?_) (fun z9 => absurd z9 (by decide))
    refine g_iload_n C hl dX1_readOrder_63 rfl ?_
    refine g_bipush 100 C dX1_readOrder_64 (by decide) ?_
    refine g_imul C dX1_readOrder_66 ?_
    refine g_iload_n C hl dX1_readOrder_67 rfl ?_
    refine g_iadd C dX1_readOrder_68 ?_
    refine g_iret C hR hS dX1_readOrder_69 ?_
    refine ⟨_, rfl, fun h => absurd h ?_, by rw [eq]; rfl⟩
    rw [eq]
    show ¬ 1 = 0
    decide
