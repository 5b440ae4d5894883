/-! ===== History: remember, bringBack ===== -/
theorem hFr.rfl' (mem : gM) : hFr mem mem := ⟨fun _ _ => rfl, fun _ _ _ => rfl⟩
theorem hFr.m {a b : gM} (h : hFr a b) {k : Nat} (hk : k < 3 ∨ 7 < k) : b k = a k := h.1 k hk
set_option maxRecDepth 100000 in
set_option maxHeartbeats 4000000 in
/-- X3_remember -/
theorem c_X3_remember (l : Launch) {X : gX} (hI : gInj X) {mem : gM} {n : Nat} {h : Nat → Nat → Nat} {z : Nat → Nat} (hh : hHi mem n h) (hM : mR (mem 0) z) : gMt l yX3_remember cX3_remember 2 none 4 111 X [.ref (gAd X 7 1), .ref (gAd X 0 0)] mem (fun v9 m9 => v9 = none ∧ hHi m9 (rN n) (aHr n h z) ∧ hFr mem m9) := by
  refine gMt.of (own := RX3) (by decide) rfl hI (by simp [Value.category]) (Nat.le_of_ble_eq_true rfl) ?_
  intro p e s m args below meth c ls H locs C hnm hl hR hS
  have hn4 := hh.2.1
  have tail : ∀ (mem1 : gM) (n1 : Nat) (h1 : Nat → Nat → Nat), hHi mem1 n1 h1 → n1 < 4 → hFr mem mem1 → rN n = n1 + 1 → aHr n h z = fU h1 n1 z → ∀ (ls : Array Slot) (H : Heap) (locs : List Loc), gL ls [some (.ref (gAd X 7 1)), some (.ref (gAd X 0 0))] → gRep X mem1 H → va_S (gA X) s.heap H locs → W p l e { frames := 4, cells := 0, slots := 0, locals := 111 } s m args below meth c H locs 0 0 (MQ below (gQ X (fun v9 m9 => v9 = none ∧ hHi m9 (rN n) (aHr n h z) ∧ hFr mem m9)) args s 0 0 (gA X)) (F0 m 12 ls []) := by
    intro mem1 n1 h1 hh h4 hf en eh ls H locs hl hR9 hS
    have hR := hR9
    have hM1 : mR (mem1 0) z := by rw [hf.m (Or.inl (by decide))]; exact hM
    have hsz := hh.1
    have hK := hh.2.2.1 n1 h4
    refine g_aload_n C hl dX3_remember_12 rfl ?_
    refine gt_X3_1 C hR fl_X3_18 dX3_remember_13 ?_
    rw [hsz]
    refine g_if_lt (tgt := 54) C dX3_remember_16 (by decide) (by omega) ?_
    refine g_aload_n C hl dX3_remember_19 rfl ?_
    refine gt_X3_1 C hR fl_X3_18 dX3_remember_20 ?_
    rw [hsz]
    refine g_aload_n C hl dX3_remember_23 rfl ?_
    refine gt_X3_0 C hR fl_X3_11 dX3_remember_24 ?_
    refine g_slen C hR dX3_remember_27 ?_
    refine g_icmp_ge (tgt := 54) C dX3_remember_28 (by decide) (by omega) (by omega) (fun z9 => absurd z9 (by omega)) (fun c28 => ?_)
    refine g_aload_n C hl dX3_remember_31 rfl ?_
    refine gt_X3_0 C hR fl_X3_11 dX3_remember_32 ?_
    refine g_aload_n C hl dX3_remember_35 rfl ?_
    refine gt_X3_1 C hR fl_X3_18 dX3_remember_36 ?_
    rw [hsz]
    refine g_aald C hR (by omega) dX3_remember_39 ?_
    refine g_aload_n C hl dX3_remember_40 rfl ?_
    refine g_callKv C hl.1 hR hS (rc_X4 (by omega)) md_X4_copyFrom ml_X3_25 (c_X4_copyFrom l hI (k := mem1 7 2 n1) (k2 := 0) (by omega) (by decide) (by omega) hM1) rfl rfl ⟨Nat.le_of_ble_eq_true rfl, Nat.le_of_ble_eq_true rfl⟩ ⟨Nat.le_refl _, Nat.le_refl _⟩ (Nat.le_of_ble_eq_true rfl) dX3_remember_41 (fun g hM H locs hR hS => ?_)
    refine g_aload_n C hl dX3_remember_44 rfl ?_
    refine g_dup C dX3_remember_45 rfl ?_
    refine gt_X3_1 C hR fl_X3_18 dX3_remember_46 ?_
    rw [fU_n _ _ (show ¬ 7 = mem1 7 2 n1 by omega), hsz]
    refine g_iconst 1 C dX3_remember_49 (by decide) ?_
    refine g_iadd C dX3_remember_50 ?_
    refine pt_X3_1 C hR hS fl_X3_18 dX3_remember_51 (fun H locs hR hS => ?_)
    refine g_vret C hR hS dX3_remember_54 ?_
    obtain ⟨k1, k2⟩ := hR_add hh h4 hM
    refine ⟨rfl, ?_, hf.trans k2⟩
    rw [en, eh]
    exact k1
  refine g_aload_n C hl dX3_remember_0 rfl ?_
  refine gt_X3_1 C hR fl_X3_18 dX3_remember_1 ?_
  rw [hh.1]
  refine g_iconst 4 C dX3_remember_4 (by decide) ?_
  refine g_icmp_ne (tgt := 12) C dX3_remember_5 (by decide) (by omega) (by omega) (fun c5 => ?_) (fun c5 => ?_)
  · -- 5 T
    exact tail mem n h hh (by have := hh.2.1; omega) (hFr.rfl' mem) (by unfold rN; rw [if_neg (by omega)]) (by unfold aHr; rw [if_neg (by omega)]) _ _ _ hl hR hS
  · -- 5 F
    refine g_aload_n C hl dX3_remember_8 rfl ?_
    refine g_callVv C hl.1 hR hS rc_X3 md_X3_dropOldest ml_X3_22 (c_X3_dropOldest l hI (by rw [hh.1, c5]) (fun j hj => (hh.2.2.1 j hj).2)) rfl rfl ⟨Nat.le_of_ble_eq_true rfl, Nat.le_of_ble_eq_true rfl⟩ ⟨Nat.le_refl _, Nat.le_refl _⟩ (Nat.le_of_ble_eq_true rfl) dX3_remember_9 (fun H locs hR hS => ?_)
    subst c5
    exact tail _ 3 (fun i => h (i + 1)) (hR_rot hh) (by decide) (hFr_rot _ _ _) rfl rfl _ _ _ hl hR hS
theorem hR_sub {mem : gM} {n : Nat} {h : Nat → Nat → Nat} {g : Nat → Nat → Nat} (hh : hHi mem n h) (h0 : 0 < n) (hM : mR g (h (n - 1))) : hHi (fU (gP mem 7 1 (fU (mem 7 1) 1 (n - 1))) 0 g) (n - 1) h ∧ mR ((fU (gP mem 7 1 (fU (mem 7 1) 1 (n - 1))) 0 g) 0) (h (n - 1)) ∧ (∀ k, (0 < k ∧ k < 3) ∨ 7 < k → (fU (gP mem 7 1 (fU (mem 7 1) 1 (n - 1))) 0 g) k = mem k) ∧ ∀ o, ¬ o = 1 → (fU (gP mem 7 1 (fU (mem 7 1) 1 (n - 1))) 0 g) 7 o = mem 7 o := by
  obtain ⟨h1, h2, h3, h4, h5⟩ := hh
  have e7 : (fU (gP mem 7 1 (fU (mem 7 1) 1 (n - 1))) 0 g) 7 = gP mem 7 1 (fU (mem 7 1) 1 (n - 1)) 7 := fU_n _ _ (by decide)
  have e2 : (fU (gP mem 7 1 (fU (mem 7 1) 1 (n - 1))) 0 g) 7 2 = mem 7 2 := by
    rw [e7, gP_n _ _ (by decide)]
  refine ⟨⟨?_, by omega, ?_, ?_, ?_⟩, ?_, ?_, ?_⟩
  · rw [e7, gP_s, fU_s]
  · rw [e2]; exact h3
  · rw [e2]; exact h4
  · rw [e2]
    intro i hi
    have := h3 i (by omega)
    rw [fU_n _ _ (by omega), gP_nk _ _ (by omega)]
    exact h5 i (by omega)
  · rw [fU_s]; exact hM
  · intro k hk
    rw [fU_n _ _ (by omega), gP_nk _ _ (by omega)]
  · intro o ho
    rw [e7, gP_n _ _ (by omega)]
set_option maxRecDepth 100000 in
set_option maxHeartbeats 4000000 in
/-- X3_bringBack -/
theorem c_X3_bringBack (l : Launch) {X : gX} (hI : gInj X) {mem : gM} {n : Nat} {h : Nat → Nat → Nat} (hh : hHi mem n h) (h0 : 0 < n) : gMt l yX3_bringBack cX3_bringBack 2 none 4 111 X [.ref (gAd X 7 1), .ref (gAd X 0 0)] mem (fun v9 m9 => v9 = none ∧ hHi m9 (n - 1) h ∧ mR (m9 0) (h (n - 1)) ∧ (∀ k, (0 < k ∧ k < 3) ∨ 7 < k → m9 k = mem k) ∧ ∀ o, ¬ o = 1 → m9 7 o = mem 7 o) := by
  refine gMt.of (own := RX3) (by decide) rfl hI (by simp [Value.category]) (Nat.le_of_ble_eq_true rfl) ?_
  intro p e s m args below meth c ls H locs C hnm hl hR hS
  have hn4 := hh.2.1
  have hsz := hh.1
  have hK := hh.2.2.1 (n - 1) (by omega)
  have hM2 : mR ((gP mem 7 1 (fU (mem 7 1) 1 (n - 1))) (mem 7 2 (n - 1))) (h (n - 1)) := by
    rw [gP_nk _ _ (by omega)]
    exact hh.2.2.2.2 (n - 1) (by omega)
  refine g_aload_n C hl dX3_bringBack_0 rfl ?_
  refine gt_X3_1 C hR fl_X3_18 dX3_bringBack_1 ?_
  rw [hsz]
  refine g_if_le (tgt := 42) C dX3_bringBack_4 (by decide) (by omega) (fun z9 => absurd z9 (by omega)) (fun c4 => ?_)
  refine g_aload_n C hl dX3_bringBack_7 rfl ?_
  refine gt_X3_1 C hR fl_X3_18 dX3_bringBack_8 ?_
  rw [hsz]
  refine g_aload_n C hl dX3_bringBack_11 rfl ?_
  refine gt_X3_0 C hR fl_X3_11 dX3_bringBack_12 ?_
  refine g_slen C hR dX3_bringBack_15 ?_
  refine g_icmp_gt (tgt := 42) C dX3_bringBack_16 (by decide) (by omega) (by omega) (fun z9 => absurd z9 (by omega)) (fun c16 => ?_)
  refine g_aload_n C hl dX3_bringBack_19 rfl ?_
  refine g_dup C dX3_bringBack_20 rfl ?_
  refine gt_X3_1 C hR fl_X3_18 dX3_bringBack_21 ?_
  rw [hsz]
  refine g_iconst 1 C dX3_bringBack_24 (by decide) ?_
  refine g_isub C dX3_bringBack_25 (by omega) ?_
  refine pt_X3_1 C hR hS fl_X3_18 dX3_bringBack_26 (fun H locs hR hS => ?_)
  refine g_aload_n C hl dX3_bringBack_29 rfl ?_
  refine g_aload_n C hl dX3_bringBack_30 rfl ?_
  refine gt_X3_0 C hR fl_X3_11 dX3_bringBack_31 ?_
  refine g_aload_n C hl dX3_bringBack_34 rfl ?_
  refine gt_X3_1 C hR fl_X3_18 dX3_bringBack_35 ?_
  rw [gP_s, fU_s]
  refine g_aald C hR (by omega) dX3_bringBack_38 ?_
  rw [gP_n _ _ (show ¬ (7 = 7 ∧ 2 = 1) by decide)]
  refine g_callKv C hl.1 hR hS (rc_X4 (by decide)) md_X4_copyFrom ml_X3_25 (c_X4_copyFrom l hI (k := 0) (k2 := mem 7 2 (n - 1)) (by decide) (by omega) (by omega) hM2) rfl rfl ⟨Nat.le_of_ble_eq_true rfl, Nat.le_of_ble_eq_true rfl⟩ ⟨Nat.le_refl _, Nat.le_refl _⟩ (Nat.le_of_ble_eq_true rfl) dX3_bringBack_39 (fun g hM H locs hR hS => ?_)
  refine g_vret C hR hS dX3_bringBack_42 ?_
  exact ⟨rfl, hR_sub hh h0 hM⟩
