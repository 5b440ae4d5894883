/-! ===== a Machine copied ===== -/
theorem c_zc (l : Launch) {X : gX} (hI : gInj X) {mem : gM} {k o a n k2 o2 : Nat} {g : Nat → Nat → Nat} (hkk : ¬ k2 = k) (hw : gRow k o a n) (hw2 : gRow k2 o2 a n) : gF l yX5_copyFrom cX5_copyFrom 2 none 1 48 X [.ref (gAd X k o), .ref (gAd X k2 o2)] (fU mem k g) none (fU mem k (fU g a (mem k2 a))) := by
  have h := c_X5_copyFrom l hI (mem := fU mem k g) hw hw2
  unfold gP at h
  rw [fU_n _ _ hkk, fU_s, fU_u] at h
  exact h
def mEq (g h : Nat → Nat → Nat) : Prop := (g 3 = h 3 ∧ g 5 = h 5 ∧ g 7 = h 7 ∧ g 9 = h 9 ∧ g 11 = h 11 ∧ g 14 = h 14 ∧ g 17 = h 17) ∧ g 12 1 = h 12 1 ∧ g 15 1 = h 15 1 ∧ g 0 3 = h 0 3 ∧ g 0 4 = h 0 4 ∧ g 0 5 = h 0 5 ∧ g 0 6 = h 0 6 ∧ g 0 7 = h 0 7
theorem mOI_all0 : ∀ j, j < 198 → (!mK j || (mO j == 3 || mO j == 5 || mO j == 7 || mO j == 9 || mO j == 11 || mO j == 14 || (mO j == 12 && mI j == 1) || (mO j == 15 && mI j == 1) || (mO j == 0 && (mI j == 3 || mI j == 4 || mI j == 5 || mI j == 6 || mI j == 7)))) = true := by decide +kernel
theorem mOI_all {j : Nat} (h : mK j = true) : mO j = 3 ∨ mO j = 5 ∨ mO j = 7 ∨ mO j = 9 ∨ mO j = 11 ∨ mO j = 14 ∨ (mO j = 12 ∧ mI j = 1) ∨ (mO j = 15 ∧ mI j = 1) ∨ (mO j = 0 ∧ (mI j = 3 ∨ mI j = 4 ∨ mI j = 5 ∨ mI j = 6 ∨ mI j = 7)) := by
  have h1 := mOI_all0 j (by have := mK_cases h; omega)
  rw [h] at h1
  simp only [Bool.not_true, Bool.false_or, Bool.or_eq_true, Bool.and_eq_true, beq_iff_eq] at h1
  omega
theorem mR_eq {g h : Nat → Nat → Nat} {z : Nat → Nat} (hm : mR h z) (he : mEq g h) : mR g z := by
  obtain ⟨h1, h2, h3⟩ := hm
  obtain ⟨⟨e3, e5, e7, e9, e11, e14, e17⟩, e12, e15, a3, a4, a5, a6, a7⟩ := he
  refine ⟨fun j hj => ?_, h2, fun r q hr hq => by rw [e17]; exact h3 r q hr hq⟩
  rw [← h1 j hj]
  rcases mOI_all hj with e | e | e | e | e | e | ⟨e, f⟩ | ⟨e, f⟩ | ⟨e, f⟩
  · rw [e, e3]
  · rw [e, e5]
  · rw [e, e7]
  · rw [e, e9]
  · rw [e, e11]
  · rw [e, e14]
  · rw [e, f, e12]
  · rw [e, f, e15]
  · rcases f with f | f | f | f | f
    · rw [e, f, a3]
    · rw [e, f, a4]
    · rw [e, f, a5]
    · rw [e, f, a6]
    · rw [e, f, a7]
def mCb (g h : Nat → Nat → Nat) : Nat → Nat → Nat := fU (fU (fU (fU (fU g 3 (h 3)) 5 (h 5)) 7 (h 7)) 9 (h 9)) 11 (h 11)
def mCf (g h : Nat → Nat → Nat) : Nat → Nat → Nat := fU (fU g 14 (h 14)) 12 (fU (fU g 14 (h 14) 12) 1 (h 12 1))
def mCt (g h : Nat → Nat → Nat) : Nat → Nat → Nat := fU (fU g 17 (h 17)) 15 (fU (fU g 17 (h 17) 15) 1 (h 15 1))
def mCm (g : Nat → Nat → Nat) (i x : Nat) : Nat → Nat → Nat := fU g 0 (fU (g 0) i x)
set_option maxRecDepth 100000 in
set_option maxHeartbeats 4000000 in
/-- Banks.copyFrom -/
theorem c_X0_copyFrom (l : Launch) {X : gX} (hI : gInj X) {mem : gM} {k k2 : Nat} (hk : k < 7) (hk2 : k2 < 7) (hkk : ¬ k2 = k) {g : Nat → Nat → Nat} : gF l yX0_copyFrom cX0_copyFrom 2 none 2 69 X [.ref (gAd X k 1), .ref (gAd X k2 1)] (fU mem k g) none (fU mem k (mCb g (mem k2))) := by
  refine gMt.of (own := RX0) (by decide) rfl hI (by simp [Value.category]) (Nat.le_of_ble_eq_true rfl) ?_
  intro p e s m args below meth c ls H locs C hnm hl hR hS
  refine g_aload_n C hl dX0_copyFrom_0 rfl ?_
  refine gt_X0_0 C hk hR fl_X0_14 dX0_copyFrom_1 ?_
  refine g_aload_n C hl dX0_copyFrom_4 rfl ?_
  refine gt_X0_0 C hk2 hR fl_X0_14 dX0_copyFrom_5 ?_
  refine g_callVv C hl.1 hR hS (rc_X5 (gRow_2 hk)) md_X5_copyFrom ml_X0_36 (c_zc l hI hkk (gRow_2 hk) (gRow_2 hk2)) rfl rfl ⟨Nat.le_of_ble_eq_true rfl, Nat.le_of_ble_eq_true rfl⟩ ⟨Nat.le_refl _, Nat.le_refl _⟩ (Nat.le_of_ble_eq_true rfl) dX0_copyFrom_8 (fun H locs hR hS => ?_)
  refine g_aload_n C hl dX0_copyFrom_11 rfl ?_
  refine gt_X0_1 C hk hR fl_X0_20 dX0_copyFrom_12 ?_
  refine g_aload_n C hl dX0_copyFrom_15 rfl ?_
  refine gt_X0_1 C hk2 hR fl_X0_20 dX0_copyFrom_16 ?_
  refine g_callVv C hl.1 hR hS (rc_X5 (gRow_4 hk)) md_X5_copyFrom ml_X0_36 (c_zc l hI hkk (gRow_4 hk) (gRow_4 hk2)) rfl rfl ⟨Nat.le_of_ble_eq_true rfl, Nat.le_of_ble_eq_true rfl⟩ ⟨Nat.le_refl _, Nat.le_refl _⟩ (Nat.le_of_ble_eq_true rfl) dX0_copyFrom_19 (fun H locs hR hS => ?_)
  refine g_aload_n C hl dX0_copyFrom_22 rfl ?_
  refine gt_X0_2 C hk hR fl_X0_23 dX0_copyFrom_23 ?_
  refine g_aload_n C hl dX0_copyFrom_26 rfl ?_
  refine gt_X0_2 C hk2 hR fl_X0_23 dX0_copyFrom_27 ?_
  refine g_callVv C hl.1 hR hS (rc_X5 (gRow_6 hk)) md_X5_copyFrom ml_X0_36 (c_zc l hI hkk (gRow_6 hk) (gRow_6 hk2)) rfl rfl ⟨Nat.le_of_ble_eq_true rfl, Nat.le_of_ble_eq_true rfl⟩ ⟨Nat.le_refl _, Nat.le_refl _⟩ (Nat.le_of_ble_eq_true rfl) dX0_copyFrom_30 (fun H locs hR hS => ?_)
  refine g_aload_n C hl dX0_copyFrom_33 rfl ?_
  refine gt_X0_3 C hk hR fl_X0_26 dX0_copyFrom_34 ?_
  refine g_aload_n C hl dX0_copyFrom_37 rfl ?_
  refine gt_X0_3 C hk2 hR fl_X0_26 dX0_copyFrom_38 ?_
  refine g_callVv C hl.1 hR hS (rc_X5 (gRow_8 hk)) md_X5_copyFrom ml_X0_36 (c_zc l hI hkk (gRow_8 hk) (gRow_8 hk2)) rfl rfl ⟨Nat.le_of_ble_eq_true rfl, Nat.le_of_ble_eq_true rfl⟩ ⟨Nat.le_refl _, Nat.le_refl _⟩ (Nat.le_of_ble_eq_true rfl) dX0_copyFrom_41 (fun H locs hR hS => ?_)
  refine g_aload_n C hl dX0_copyFrom_44 rfl ?_
  refine gt_X0_4 C hk hR fl_X0_29 dX0_copyFrom_45 ?_
  refine g_aload_n C hl dX0_copyFrom_48 rfl ?_
  refine gt_X0_4 C hk2 hR fl_X0_29 dX0_copyFrom_49 ?_
  refine g_callVv C hl.1 hR hS (rc_X5 (gRow_10 hk)) md_X5_copyFrom ml_X0_36 (c_zc l hI hkk (gRow_10 hk) (gRow_10 hk2)) rfl rfl ⟨Nat.le_of_ble_eq_true rfl, Nat.le_of_ble_eq_true rfl⟩ ⟨Nat.le_refl _, Nat.le_refl _⟩ (Nat.le_of_ble_eq_true rfl) dX0_copyFrom_52 (fun H locs hR hS => ?_)
  refine g_vret C hR hS dX0_copyFrom_55 ?_
  exact ⟨rfl, rfl⟩
set_option maxRecDepth 100000 in
set_option maxHeartbeats 4000000 in
/-- X2_copyFrom -/
theorem c_X2_copyFrom (l : Launch) {X : gX} (hI : gInj X) {mem : gM} {k k2 : Nat} (hk : k < 7) (hk2 : k2 < 7) (hkk : ¬ k2 = k) {g : Nat → Nat → Nat} : gF l yX2_copyFrom cX2_copyFrom 2 none 2 69 X [.ref (gAd X k 12), .ref (gAd X k2 12)] (fU mem k g) none (fU mem k (mCf g (mem k2))) := by
  refine gMt.of (own := RX2) (by decide) rfl hI (by simp [Value.category]) (Nat.le_of_ble_eq_true rfl) ?_
  intro p e s m args below meth c ls H locs C hnm hl hR hS
  refine g_aload_n C hl dX2_copyFrom_0 rfl ?_
  refine gt_X2_0 C hk hR fl_X2_16 dX2_copyFrom_1 ?_
  refine g_aload_n C hl dX2_copyFrom_4 rfl ?_
  refine gt_X2_0 C hk2 hR fl_X2_16 dX2_copyFrom_5 ?_
  refine g_callVv C hl.1 hR hS (rc_X5 (gRow_13 hk)) md_X5_copyFrom ml_X2_20 (c_zc l hI hkk (gRow_13 hk) (gRow_13 hk2)) rfl rfl ⟨Nat.le_of_ble_eq_true rfl, Nat.le_of_ble_eq_true rfl⟩ ⟨Nat.le_refl _, Nat.le_refl _⟩ (Nat.le_of_ble_eq_true rfl) dX2_copyFrom_8 (fun H locs hR hS => ?_)
  refine g_aload_n C hl dX2_copyFrom_11 rfl ?_
  refine g_aload_n C hl dX2_copyFrom_12 rfl ?_
  refine gt_X2_1 C hk2 hR fl_X2_24 dX2_copyFrom_13 ?_
  rw [fU_n _ _ hkk]
  refine pt_X2_1 C hk hR hS fl_X2_24 dX2_copyFrom_16 (fun H locs hR hS => ?_)
  rw [gP_fU] at hR
  refine g_vret C hR hS dX2_copyFrom_19 ?_
  exact ⟨rfl, rfl⟩
set_option maxRecDepth 100000 in
set_option maxHeartbeats 4000000 in
/-- X7_copyFrom -/
theorem c_X7_copyFrom (l : Launch) {X : gX} (hI : gInj X) {mem : gM} {k k2 : Nat} (hk : k < 7) (hk2 : k2 < 7) (hkk : ¬ k2 = k) {g : Nat → Nat → Nat} : gF l yX7_copyFrom cX7_copyFrom 2 none 2 69 X [.ref (gAd X k 15), .ref (gAd X k2 15)] (fU mem k g) none (fU mem k (mCt g (mem k2))) := by
  refine gMt.of (own := RX7) (by decide) rfl hI (by simp [Value.category]) (Nat.le_of_ble_eq_true rfl) ?_
  intro p e s m args below meth c ls H locs C hnm hl hR hS
  refine g_aload_n C hl dX7_copyFrom_0 rfl ?_
  refine gt_X7_0 C hk hR fl_X7_16 dX7_copyFrom_1 ?_
  refine g_aload_n C hl dX7_copyFrom_4 rfl ?_
  refine gt_X7_0 C hk2 hR fl_X7_16 dX7_copyFrom_5 ?_
  refine g_callVv C hl.1 hR hS (rc_X5 (gRow_16 hk)) md_X5_copyFrom ml_X7_20 (c_zc l hI hkk (gRow_16 hk) (gRow_16 hk2)) rfl rfl ⟨Nat.le_of_ble_eq_true rfl, Nat.le_of_ble_eq_true rfl⟩ ⟨Nat.le_refl _, Nat.le_refl _⟩ (Nat.le_of_ble_eq_true rfl) dX7_copyFrom_8 (fun H locs hR hS => ?_)
  refine g_aload_n C hl dX7_copyFrom_11 rfl ?_
  refine g_aload_n C hl dX7_copyFrom_12 rfl ?_
  refine gt_X7_1 C hk2 hR fl_X7_24 dX7_copyFrom_13 ?_
  rw [fU_n _ _ hkk]
  refine pt_X7_1 C hk hR hS fl_X7_24 dX7_copyFrom_16 (fun H locs hR hS => ?_)
  rw [gP_fU] at hR
  refine g_vret C hR hS dX7_copyFrom_19 ?_
  exact ⟨rfl, rfl⟩
set_option maxRecDepth 100000 in
set_option maxHeartbeats 4000000 in
/-- X4_copyFrom -/
theorem c_X4_copyFrom (l : Launch) {X : gX} (hI : gInj X) {mem : gM} {k k2 : Nat} (hk : k < 7) (hk2 : k2 < 7) (hkk : ¬ k2 = k) {z : Nat → Nat} (hM2 : mR (mem k2) z) : gMt l yX4_copyFrom cX4_copyFrom 2 none 3 90 X [.ref (gAd X k 0), .ref (gAd X k2 0)] mem (mP mem k z none) := by
  refine gMt.of (own := RX4) (by decide) rfl hI (by simp [Value.category]) (Nat.le_of_ble_eq_true rfl) ?_
  intro p e s m args below meth c ls H locs C hnm hl hR hS
  rw [← fU_self mem k] at hR
  refine g_aload_n C hl dX4_copyFrom_0 rfl ?_
  refine gt_X4_0 C hk hR fl_X4_12 dX4_copyFrom_1 ?_
  refine g_aload_n C hl dX4_copyFrom_4 rfl ?_
  refine gt_X4_0 C hk2 hR fl_X4_12 dX4_copyFrom_5 ?_
  refine g_callVv C hl.1 hR hS (rc_X0 hk) md_X0_copyFrom ml_X4_32 (c_X0_copyFrom l hI hk hk2 hkk) rfl rfl ⟨Nat.le_of_ble_eq_true rfl, Nat.le_of_ble_eq_true rfl⟩ ⟨Nat.le_refl _, Nat.le_refl _⟩ (Nat.le_of_ble_eq_true rfl) dX4_copyFrom_8 (fun H locs hR hS => ?_)
  refine g_aload_n C hl dX4_copyFrom_11 rfl ?_
  refine gt_X4_1 C hk hR fl_X4_21 dX4_copyFrom_12 ?_
  refine g_aload_n C hl dX4_copyFrom_15 rfl ?_
  refine gt_X4_1 C hk2 hR fl_X4_21 dX4_copyFrom_16 ?_
  refine g_callVv C hl.1 hR hS (rc_X2 hk) md_X2_copyFrom ml_X4_36 (c_X2_copyFrom l hI hk hk2 hkk) rfl rfl ⟨Nat.le_of_ble_eq_true rfl, Nat.le_of_ble_eq_true rfl⟩ ⟨Nat.le_refl _, Nat.le_refl _⟩ (Nat.le_of_ble_eq_true rfl) dX4_copyFrom_19 (fun H locs hR hS => ?_)
  refine g_aload_n C hl dX4_copyFrom_22 rfl ?_
  refine gt_X4_2 C hk hR fl_X4_28 dX4_copyFrom_23 ?_
  refine g_aload_n C hl dX4_copyFrom_26 rfl ?_
  refine gt_X4_2 C hk2 hR fl_X4_28 dX4_copyFrom_27 ?_
  refine g_callVv C hl.1 hR hS (rc_X7 hk) md_X7_copyFrom ml_X4_39 (c_X7_copyFrom l hI hk hk2 hkk) rfl rfl ⟨Nat.le_of_ble_eq_true rfl, Nat.le_of_ble_eq_true rfl⟩ ⟨Nat.le_refl _, Nat.le_refl _⟩ (Nat.le_of_ble_eq_true rfl) dX4_copyFrom_30 (fun H locs hR hS => ?_)
  refine g_aload_n C hl dX4_copyFrom_33 rfl ?_
  refine g_aload_n C hl dX4_copyFrom_34 rfl ?_
  refine gt_X4_3 C hk2 hR fl_X4_42 dX4_copyFrom_35 ?_
  rw [fU_n _ _ hkk]
  refine pt_X4_3 C hk hR hS fl_X4_42 dX4_copyFrom_38 (fun H locs hR hS => ?_)
  rw [gP_fU] at hR
  refine g_aload_n C hl dX4_copyFrom_41 rfl ?_
  refine g_aload_n C hl dX4_copyFrom_42 rfl ?_
  refine gt_X4_4 C hk2 hR fl_X4_46 dX4_copyFrom_43 ?_
  rw [fU_n _ _ hkk]
  refine pt_X4_4 C hk hR hS fl_X4_46 dX4_copyFrom_46 (fun H locs hR hS => ?_)
  rw [gP_fU] at hR
  refine g_aload_n C hl dX4_copyFrom_49 rfl ?_
  refine g_aload_n C hl dX4_copyFrom_50 rfl ?_
  refine gt_X4_5 C hk2 hR fl_X4_49 dX4_copyFrom_51 ?_
  rw [fU_n _ _ hkk]
  refine pt_X4_5 C hk hR hS fl_X4_49 dX4_copyFrom_54 (fun H locs hR hS => ?_)
  rw [gP_fU] at hR
  refine g_aload_n C hl dX4_copyFrom_57 rfl ?_
  refine g_aload_n C hl dX4_copyFrom_58 rfl ?_
  refine gt_X4_6 C hk2 hR fl_X4_52 dX4_copyFrom_59 ?_
  rw [fU_n _ _ hkk]
  refine pt_X4_6 C hk hR hS fl_X4_52 dX4_copyFrom_62 (fun H locs hR hS => ?_)
  rw [gP_fU] at hR
  refine g_aload_n C hl dX4_copyFrom_65 rfl ?_
  refine g_aload_n C hl dX4_copyFrom_66 rfl ?_
  refine gt_X4_7 C hk2 hR fl_X4_55 dX4_copyFrom_67 ?_
  rw [fU_n _ _ hkk]
  refine pt_X4_7 C hk hR hS fl_X4_55 dX4_copyFrom_70 (fun H locs hR hS => ?_)
  rw [gP_fU] at hR
  refine g_vret C hR hS dX4_copyFrom_73 ?_
  refine ⟨rfl, _, rfl, mR_eq hM2 ?_⟩
  exact ⟨⟨rfl, rfl, rfl, rfl, rfl, rfl, rfl⟩, rfl, rfl, rfl, rfl, rfl, rfl, rfl⟩
/-! ===== History ===== -/
def hHi (mem : gM) (n : Nat) (h : Nat → Nat → Nat) : Prop := mem 7 1 1 = n ∧ n ≤ 4 ∧ (∀ j, j < 4 → 3 ≤ mem 7 2 j ∧ mem 7 2 j < 7) ∧ (∀ i j, i < 4 → j < 4 → mem 7 2 i = mem 7 2 j → i = j) ∧ ∀ i, i < n → mR (mem (mem 7 2 i)) (h i)
def hFr (mem mem' : gM) : Prop := (∀ k, k < 3 ∨ 7 < k → mem' k = mem k) ∧ ∀ o, ¬ o = 1 → ¬ o = 2 → mem' 7 o = mem 7 o
def gRot (s : Nat → Nat) : Nat → Nat := fU (fU (fU (fU s 0 (s 1)) 1 (s 2)) 2 (s 3)) 3 (s 0)
theorem hR_rot {mem : gM} {h : Nat → Nat → Nat} (hh : hHi mem 4 h) : hHi (gP (gP mem 7 2 (gRot (mem 7 2))) 7 1 (fU (mem 7 1) 1 3)) 3 (fun i => h (i + 1)) := by
  obtain ⟨h1, h2, h3, h4, h5⟩ := hh
  have e2 : (gP (gP mem 7 2 (gRot (mem 7 2))) 7 1 (fU (mem 7 1) 1 3)) 7 2 = gRot (mem 7 2) := by
    rw [gP_n _ _ (by decide), gP_s]
  have r0 : gRot (mem 7 2) 0 = mem 7 2 1 := rfl
  have r1 : gRot (mem 7 2) 1 = mem 7 2 2 := rfl
  have r2 : gRot (mem 7 2) 2 = mem 7 2 3 := rfl
  have r3 : gRot (mem 7 2) 3 = mem 7 2 0 := rfl
  have a0 := h3 0 (by decide)
  have a1 := h3 1 (by decide)
  have a2 := h3 2 (by decide)
  have a3 := h3 3 (by decide)
  have b01 : ¬ mem 7 2 0 = mem 7 2 1 := fun e => absurd (h4 0 1 (by decide) (by decide) e) (by decide)
  have b02 : ¬ mem 7 2 0 = mem 7 2 2 := fun e => absurd (h4 0 2 (by decide) (by decide) e) (by decide)
  have b03 : ¬ mem 7 2 0 = mem 7 2 3 := fun e => absurd (h4 0 3 (by decide) (by decide) e) (by decide)
  have b12 : ¬ mem 7 2 1 = mem 7 2 2 := fun e => absurd (h4 1 2 (by decide) (by decide) e) (by decide)
  have b13 : ¬ mem 7 2 1 = mem 7 2 3 := fun e => absurd (h4 1 3 (by decide) (by decide) e) (by decide)
  have b23 : ¬ mem 7 2 2 = mem 7 2 3 := fun e => absurd (h4 2 3 (by decide) (by decide) e) (by decide)
  refine ⟨?_, by decide, ?_, ?_, ?_⟩
  · rw [gP_s]; rfl
  · rw [e2]
    intro j hj
    rcases (show j = 0 ∨ j = 1 ∨ j = 2 ∨ j = 3 by omega) with rfl | rfl | rfl | rfl
    · rw [r0]; exact a1
    · rw [r1]; exact a2
    · rw [r2]; exact a3
    · rw [r3]; exact a0
  · rw [e2]
    intro i j hi hj e
    rcases (show i = 0 ∨ i = 1 ∨ i = 2 ∨ i = 3 by omega) with rfl | rfl | rfl | rfl <;> rcases (show j = 0 ∨ j = 1 ∨ j = 2 ∨ j = 3 by omega) with rfl | rfl | rfl | rfl <;> simp only [r0, r1, r2, r3] at e <;> omega
  · rw [e2]
    intro i hi
    have key : ∀ q, q < 4 → mR ((gP (gP mem 7 2 (gRot (mem 7 2))) 7 1 (fU (mem 7 1) 1 3)) (mem 7 2 q)) (h q) := fun q hq => by
      have := h3 q hq
      rw [gP_nk _ _ (by omega), gP_nk _ _ (by omega)]
      exact h5 q hq
    rcases (show i = 0 ∨ i = 1 ∨ i = 2 by omega) with rfl | rfl | rfl
    · rw [r0]; exact key 1 (by decide)
    · rw [r1]; exact key 2 (by decide)
    · rw [r2]; exact key 3 (by decide)
theorem hR_add {mem : gM} {h : Nat → Nat → Nat} {n : Nat} {g : Nat → Nat → Nat} {z : Nat → Nat} (hh : hHi mem n h) (h4 : n < 4) (hM : mR g z) : hHi (gP (fU mem (mem 7 2 n) g) 7 1 (fU ((fU mem (mem 7 2 n) g) 7 1) 1 (n + 1))) (n + 1) (fU h n z) ∧ hFr mem (gP (fU mem (mem 7 2 n) g) 7 1 (fU ((fU mem (mem 7 2 n) g) 7 1) 1 (n + 1))) := by
  obtain ⟨h1, h2, h3, h4', h5⟩ := hh
  have hn := h3 n h4
  have e7 : fU mem (mem 7 2 n) g 7 = mem 7 := fU_n _ _ (by omega)
  have e2 : (gP (fU mem (mem 7 2 n) g) 7 1 (fU ((fU mem (mem 7 2 n) g) 7 1) 1 (n + 1))) 7 2 = mem 7 2 := by
    rw [gP_n _ _ (by decide), e7]
  refine ⟨⟨?_, by omega, ?_, ?_, ?_⟩, ?_, ?_⟩
  · rw [gP_s, fU_s]
  · rw [e2]; exact h3
  · rw [e2]; exact h4'
  · rw [e2]
    intro i hi
    have hi3 := h3 i (by omega)
    rw [gP_nk _ _ (by omega)]
    by_cases e : i = n
    · subst e
      rw [fU_s, fU_s]
      exact hM
    · rw [fU_n _ _ (fun e9 => e (h4' i n (by omega) h4 e9)), fU_n _ _ e]
      exact h5 i (by omega)
  · intro k hk
    rw [gP_nk _ _ (by omega), fU_n _ _ (by omega)]
  · intro o ho1 ho2
    rw [gP_n _ _ (by omega), e7]
theorem hFr.trans {a b c : gM} (h1 : hFr a b) (h2 : hFr b c) : hFr a c := ⟨fun k hk => (h2.1 k hk).trans (h1.1 k hk), fun o a b => (h2.2 o a b).trans (h1.2 o a b)⟩
theorem hFr_rot (mem : gM) (f f' : Nat → Nat) : hFr mem (gP (gP mem 7 2 f) 7 1 f') := ⟨fun k hk => by rw [gP_nk _ _ (by omega), gP_nk _ _ (by omega)], fun o h1 h2 => by rw [gP_n _ _ (by omega), gP_n _ _ (by omega)]⟩
set_option maxRecDepth 100000 in
set_option maxHeartbeats 4000000 in
/-- X3_dropOldest -/
theorem c_X3_dropOldest (l : Launch) {X : gX} (hI : gInj X) {mem : gM} (h4 : mem 7 1 1 = 4) (h7 : ∀ j, j < 4 → mem 7 2 j < 7) : gF l yX3_dropOldest cX3_dropOldest 3 none 0 0 X [.ref (gAd X 7 1)] mem none (gP (gP mem 7 2 (gRot (mem 7 2))) 7 1 (fU (mem 7 1) 1 3)) := by
  refine gMt.of (own := RX3) (by decide) rfl hI (by simp [Value.category]) (Nat.le_of_ble_eq_true rfl) ?_
  intro p e s m args below meth c ls H locs C hnm hl hR hS
  have a0 := h7 0 (by decide)
  have a1 := h7 1 (by decide)
  have a2 := h7 2 (by decide)
  have a3 := h7 3 (by decide)
  refine g_aload_n C hl dX3_dropOldest_0 rfl ?_
  refine gt_X3_0 C hR fl_X3_11 dX3_dropOldest_1 ?_
  refine g_iconst 0 C dX3_dropOldest_4 (by decide) ?_
  refine g_aald C hR (by omega) dX3_dropOldest_5 ?_
  refine g_astore_n C hl dX3_dropOldest_6 (Nat.le_of_ble_eq_true rfl) (fun ls hl => ?_)
  refine g_iconst 1 C dX3_dropOldest_7 (by decide) ?_
  refine g_istore_n C hl dX3_dropOldest_8 (Nat.le_of_ble_eq_true rfl) (fun ls hl => ?_)
  refine g_iload_n C hl dX3_dropOldest_9 rfl ?_
  refine g_aload_n C hl dX3_dropOldest_10 rfl ?_
  refine gt_X3_0 C hR fl_X3_11 dX3_dropOldest_11 ?_
  refine g_slen C hR dX3_dropOldest_14 ?_
  refine g_icmp_ge (tgt := 38) C dX3_dropOldest_15 (by decide) (by omega) (by omega) (fun z9 => absurd z9 (by omega)) (fun c15 => ?_)
  refine g_aload_n C hl dX3_dropOldest_18 rfl ?_
  refine gt_X3_0 C hR fl_X3_11 dX3_dropOldest_19 ?_
  refine g_iload_n C hl dX3_dropOldest_22 rfl ?_
  refine g_iconst 1 C dX3_dropOldest_23 (by decide) ?_
  refine g_isub C dX3_dropOldest_24 (by omega) ?_
  refine g_aload_n C hl dX3_dropOldest_25 rfl ?_
  refine gt_X3_0 C hR fl_X3_11 dX3_dropOldest_26 ?_
  refine g_iload_n C hl dX3_dropOldest_29 rfl ?_
  refine g_aald C hR (by omega) dX3_dropOldest_30 ?_
  refine g_aast C hR hS (by omega) (by first | exact a1 | exact a2 | exact a3) dX3_dropOldest_31 (fun H locs hR hS => ?_)
  refine g_iinc (k := 1) C hl dX3_dropOldest_32 rfl (by decide) (fun ls hl => ?_)
  refine g_goto (tgt := 9) C dX3_dropOldest_35 (by decide) ?_
  refine g_iload_n C hl dX3_dropOldest_9 rfl ?_
  refine g_aload_n C hl dX3_dropOldest_10 rfl ?_
  refine gt_X3_0 C hR fl_X3_11 dX3_dropOldest_11 ?_
  refine g_slen C hR dX3_dropOldest_14 ?_
  refine g_icmp_ge (tgt := 38) C dX3_dropOldest_15 (by decide) (by omega) (by omega) (fun z9 => absurd z9 (by omega)) (fun c15 => ?_)
  refine g_aload_n C hl dX3_dropOldest_18 rfl ?_
  refine gt_X3_0 C hR fl_X3_11 dX3_dropOldest_19 ?_
  refine g_iload_n C hl dX3_dropOldest_22 rfl ?_
  refine g_iconst 1 C dX3_dropOldest_23 (by decide) ?_
  refine g_isub C dX3_dropOldest_24 (by omega) ?_
  refine g_aload_n C hl dX3_dropOldest_25 rfl ?_
  refine gt_X3_0 C hR fl_X3_11 dX3_dropOldest_26 ?_
  refine g_iload_n C hl dX3_dropOldest_29 rfl ?_
  refine g_aald C hR (by omega) dX3_dropOldest_30 ?_
  rw [gP_s]
  refine g_aast C hR hS (by omega) (by first | exact a1 | exact a2 | exact a3) dX3_dropOldest_31 (fun H locs hR hS => ?_)
  rw [gP_s, gP_u] at hR
  refine g_iinc (k := 1) C hl dX3_dropOldest_32 rfl (by decide) (fun ls hl => ?_)
  refine g_goto (tgt := 9) C dX3_dropOldest_35 (by decide) ?_
  refine g_iload_n C hl dX3_dropOldest_9 rfl ?_
  refine g_aload_n C hl dX3_dropOldest_10 rfl ?_
  refine gt_X3_0 C hR fl_X3_11 dX3_dropOldest_11 ?_
  refine g_slen C hR dX3_dropOldest_14 ?_
  refine g_icmp_ge (tgt := 38) C dX3_dropOldest_15 (by decide) (by omega) (by omega) (fun z9 => absurd z9 (by omega)) (fun c15 => ?_)
  refine g_aload_n C hl dX3_dropOldest_18 rfl ?_
  refine gt_X3_0 C hR fl_X3_11 dX3_dropOldest_19 ?_
  refine g_iload_n C hl dX3_dropOldest_22 rfl ?_
  refine g_iconst 1 C dX3_dropOldest_23 (by decide) ?_
  refine g_isub C dX3_dropOldest_24 (by omega) ?_
  refine g_aload_n C hl dX3_dropOldest_25 rfl ?_
  refine gt_X3_0 C hR fl_X3_11 dX3_dropOldest_26 ?_
  refine g_iload_n C hl dX3_dropOldest_29 rfl ?_
  refine g_aald C hR (by omega) dX3_dropOldest_30 ?_
  rw [gP_s]
  refine g_aast C hR hS (by omega) (by first | exact a1 | exact a2 | exact a3) dX3_dropOldest_31 (fun H locs hR hS => ?_)
  rw [gP_s, gP_u] at hR
  refine g_iinc (k := 1) C hl dX3_dropOldest_32 rfl (by decide) (fun ls hl => ?_)
  refine g_goto (tgt := 9) C dX3_dropOldest_35 (by decide) ?_
  refine g_iload_n C hl dX3_dropOldest_9 rfl ?_
  refine g_aload_n C hl dX3_dropOldest_10 rfl ?_
  refine gt_X3_0 C hR fl_X3_11 dX3_dropOldest_11 ?_
  refine g_slen C hR dX3_dropOldest_14 ?_
  refine g_icmp_ge (tgt := 38) C dX3_dropOldest_15 (by decide) (by omega) (by omega) (fun c15 => ?_) (fun z9 => absurd z9 (by omega))
  refine g_aload_n C hl dX3_dropOldest_38 rfl ?_
  refine gt_X3_0 C hR fl_X3_11 dX3_dropOldest_39 ?_
  refine g_aload_n C hl dX3_dropOldest_42 rfl ?_
  refine gt_X3_0 C hR fl_X3_11 dX3_dropOldest_43 ?_
  refine g_slen C hR dX3_dropOldest_46 ?_
  refine g_iconst 1 C dX3_dropOldest_47 (by decide) ?_
  refine g_isub C dX3_dropOldest_48 (by omega) ?_
  refine g_aload_n C hl dX3_dropOldest_49 rfl ?_
  refine g_aast C hR hS (by omega) a0 dX3_dropOldest_50 (fun H locs hR hS => ?_)
  rw [gP_s, gP_u] at hR
  refine g_aload_n C hl dX3_dropOldest_51 rfl ?_
  refine g_dup C dX3_dropOldest_52 rfl ?_
  refine gt_X3_1 C hR fl_X3_18 dX3_dropOldest_53 ?_
  rw [gP_n _ _ (by decide), h4]
  refine g_iconst 1 C dX3_dropOldest_56 (by decide) ?_
  refine g_isub C dX3_dropOldest_57 (by omega) ?_
  refine pt_X3_1 C hR hS fl_X3_18 dX3_dropOldest_58 (fun H locs hR hS => ?_)
  rw [gP_n _ _ (show ¬ (7 = 7 ∧ 1 = 2) by decide)] at hR
  refine g_vret C hR hS dX3_dropOldest_61 ?_
  exact ⟨rfl, rfl⟩
