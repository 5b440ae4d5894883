/-! ===== the words: s, and all ===== -/
theorem pw_s {n : Nat} {t : Nat → Nat} {p9 : Nat} (h0 : pSg n t p9 = 115) : ∀ i, i < 10 → ¬ i = 3 → ¬ i = 6 → pw n t p9 i = 0 := by
  intro i hi h3 h6
  refine pw_z hi ?_
  rcases (show i = 0 ∨ i = 1 ∨ i = 2 ∨ i = 4 ∨ i = 5 ∨ i = 7 ∨ i = 8 ∨ i = 9 by omega) with rfl | rfl | rfl | rfl | rfl | rfl | rfl | rfl
  · show ¬ pSg n t p9 = 104
    omega
  · show ¬ pSg n t p9 = 108
    omega
  · show ¬ pSg n t p9 = 97
    omega
  · show ¬ pSg n t p9 = 106
    omega
  · show ¬ pSg n t p9 = 122
    omega
  · show ¬ pSg n t p9 = 99
    omega
  · show ¬ pSg n t p9 = 98
    omega
  · show ¬ pSg n t p9 = 112
    omega
theorem kS {n : Nat} {t : Nat → Nat} {p9 : Nat} (h0 : pSg n t p9 = 115) : kB n t p9 10 = if pw n t p9 3 < pw n t p9 6 then (pw n t p9 6, 6) else (pw n t p9 3, 3) := kB_s (by rw [pw_3, if_pos h0]; split <;> (try split) <;> (try split) <;> (try split) <;> decide) (pw_s h0)
theorem kN_3 {n : Nat} {t : Nat → Nat} {p9 : Nat} (h0 : pSg n t p9 = 115) (h1 : pSg n t (p9 + 1) = 116) (h : ¬ pw n t p9 3 = 5) : pOq n t p9 = (p9 + pw n t p9 3, 1) := by
  rw [pw_3, if_pos h0, if_pos h1] at h ⊢
  unfold pOq
  rw [if_neg (show ¬ pSg n t p9 = 104 by omega), if_neg (show ¬ pSg n t p9 = 108 by omega), if_neg (show ¬ pSg n t p9 = 97 by omega), if_pos h0, if_pos h1, pRs_5 (by decide) (by decide), if_pos h1]
  by_cases h2 : pSg n t (p9 + 1 + 1) = 111
  · rw [if_pos h2] at h ⊢
    rw [if_pos h2]
    by_cases h3 : pSg n t (p9 + 1 + 1 + 1) = 114
    · rw [if_pos h3] at h ⊢
      rw [if_pos h3]
      by_cases h4 : pSg n t (p9 + 1 + 1 + 1 + 1) = 101
      · rw [if_pos h4] at h
        exact absurd rfl h
      · rw [if_neg h4, if_neg h4, pNq_1]
    · rw [if_neg h3, if_neg h3, pNq_1]
  · rw [if_neg h2, if_neg h2, pNq_1]
theorem kY_3 {n : Nat} {t : Nat → Nat} {p9 : Nat} (h : pw n t p9 3 = 5) : pOq n t p9 = (pNq n t (p9 + 5, 0) 63) ∧ pOv n t p9 = 300 + pNv n t (p9 + 5, 0) 63 := by
  rw [pw_3] at h
  have h0 : pSg n t (p9) = 115 := by
    by_cases e : pSg n t (p9) = 115
    · exact e
    · rw [if_neg e] at h
      exact absurd h (by decide)
  rw [if_pos h0] at h
  have h1 : pSg n t (p9 + 1) = 116 := by
    by_cases e : pSg n t (p9 + 1) = 116
    · exact e
    · rw [if_neg e] at h
      exact absurd h (by decide)
  rw [if_pos h1] at h
  have h2 : pSg n t (p9 + 1 + 1) = 111 := by
    by_cases e : pSg n t (p9 + 1 + 1) = 111
    · exact e
    · rw [if_neg e] at h
      exact absurd h (by decide)
  rw [if_pos h2] at h
  have h3 : pSg n t (p9 + 1 + 1 + 1) = 114 := by
    by_cases e : pSg n t (p9 + 1 + 1 + 1) = 114
    · exact e
    · rw [if_neg e] at h
      exact absurd h (by decide)
  rw [if_pos h3] at h
  have h4 : pSg n t (p9 + 1 + 1 + 1 + 1) = 101 := by
    by_cases e : pSg n t (p9 + 1 + 1 + 1 + 1) = 101
    · exact e
    · rw [if_neg e] at h
      exact absurd h (by decide)
  have e9 : (pRs n t (p9 + 1, 0) 116 111 114 101) = (p9 + 5, 0) := by
    rw [pRs_5 (by decide) (by decide), if_pos h1, if_pos h2, if_pos h3, if_pos h4]
  unfold pOq pOv
  constructor
  · rw [if_neg (show ¬ pSg n t p9 = 104 by omega), if_neg (show ¬ pSg n t p9 = 108 by omega), if_neg (show ¬ pSg n t p9 = 97 by omega), if_pos h0, if_pos h1, e9]
  · rw [if_neg (show ¬ pSg n t p9 = 104 by omega), if_neg (show ¬ pSg n t p9 = 108 by omega), if_neg (show ¬ pSg n t p9 = 97 by omega), if_pos h0, if_pos h1, e9]
theorem kN_6 {n : Nat} {t : Nat → Nat} {p9 : Nat} (h0 : pSg n t p9 = 115) (h1 : pSg n t (p9 + 1) = 104) (h : ¬ pw n t p9 6 = 4) : pOq n t p9 = (p9 + pw n t p9 6, 1) := by
  rw [pw_6, if_pos h0, if_pos h1] at h ⊢
  unfold pOq
  rw [if_neg (show ¬ pSg n t p9 = 104 by omega), if_neg (show ¬ pSg n t p9 = 108 by omega), if_neg (show ¬ pSg n t p9 = 97 by omega), if_pos h0, if_neg (show ¬ pSg n t (p9 + 1) = 116 by omega), pRs_4 (by decide), if_pos h1]
  by_cases h2 : pSg n t (p9 + 1 + 1) = 111
  · rw [if_pos h2] at h ⊢
    rw [if_pos h2]
    by_cases h3 : pSg n t (p9 + 1 + 1 + 1) = 119
    · rw [if_pos h3] at h
      exact absurd rfl h
    · rw [if_neg h3, if_neg h3, pNq_1, pNq_1]
  · rw [if_neg h2, if_neg h2, pNq_1, pNq_1]
theorem kY_6 {n : Nat} {t : Nat → Nat} {p9 : Nat} (h : pw n t p9 6 = 4) : pOq n t p9 = (pNq n t (pNq n t (p9 + 4, 0) 3) 7) ∧ pOv n t p9 = 600 + 10 * pNv n t (p9 + 4, 0) 3 + pNv n t (pNq n t (p9 + 4, 0) 3) 7 := by
  rw [pw_6] at h
  have h0 : pSg n t (p9) = 115 := by
    by_cases e : pSg n t (p9) = 115
    · exact e
    · rw [if_neg e] at h
      exact absurd h (by decide)
  rw [if_pos h0] at h
  have h1 : pSg n t (p9 + 1) = 104 := by
    by_cases e : pSg n t (p9 + 1) = 104
    · exact e
    · rw [if_neg e] at h
      exact absurd h (by decide)
  rw [if_pos h1] at h
  have h2 : pSg n t (p9 + 1 + 1) = 111 := by
    by_cases e : pSg n t (p9 + 1 + 1) = 111
    · exact e
    · rw [if_neg e] at h
      exact absurd h (by decide)
  rw [if_pos h2] at h
  have h3 : pSg n t (p9 + 1 + 1 + 1) = 119 := by
    by_cases e : pSg n t (p9 + 1 + 1 + 1) = 119
    · exact e
    · rw [if_neg e] at h
      exact absurd h (by decide)
  have e9 : (pRs n t (p9 + 1, 0) 104 111 119 0) = (p9 + 4, 0) := by
    rw [pRs_4 (by decide), if_pos h1, if_pos h2, if_pos h3]
  unfold pOq pOv
  constructor
  · rw [if_neg (show ¬ pSg n t p9 = 104 by omega), if_neg (show ¬ pSg n t p9 = 108 by omega), if_neg (show ¬ pSg n t p9 = 97 by omega), if_pos h0, if_neg (show ¬ pSg n t (p9 + 1) = 116 by omega), e9]
  · rw [if_neg (show ¬ pSg n t p9 = 104 by omega), if_neg (show ¬ pSg n t p9 = 108 by omega), if_neg (show ¬ pSg n t p9 = 97 by omega), if_pos h0, if_neg (show ¬ pSg n t (p9 + 1) = 116 by omega), e9]
theorem kM {n : Nat} {t : Nat → Nat} {p9 : Nat} : (¬ (kB n t p9 10).1 = gLn (kB n t p9 10).2 → pOq n t p9 = (p9 + (kB n t p9 10).1, 1)) ∧ ((kB n t p9 10).1 = gLn (kB n t p9 10).2 → pw n t p9 (kB n t p9 10).2 = gLn (kB n t p9 10).2) := by
  by_cases a0 : pSg n t p9 = 104
  · rw [kU_0 a0]
    exact ⟨fun h => kN_0 a0 h, fun h => h⟩
  by_cases a1 : pSg n t p9 = 108
  · rw [kU_1 a1]
    exact ⟨fun h => kN_1 a1 h, fun h => h⟩
  by_cases a2 : pSg n t p9 = 97
  · rw [kU_2 a2]
    exact ⟨fun h => kN_2 a2 h, fun h => h⟩
  by_cases a4 : pSg n t p9 = 106
  · rw [kU_4 a4]
    exact ⟨fun h => kN_4 a4 h, fun h => h⟩
  by_cases a5 : pSg n t p9 = 122
  · rw [kU_5 a5]
    exact ⟨fun h => kN_5 a5 h, fun h => h⟩
  by_cases a7 : pSg n t p9 = 99
  · rw [kU_7 a7]
    exact ⟨fun h => kN_7 a7 h, fun h => h⟩
  by_cases a8 : pSg n t p9 = 98
  · rw [kU_8 a8]
    exact ⟨fun h => kN_8 a8 h, fun h => h⟩
  by_cases a9 : pSg n t p9 = 112
  · rw [kU_9 a9]
    exact ⟨fun h => kN_9 a9 h, fun h => h⟩
  by_cases a3 : pSg n t p9 = 115
  · rw [kS a3]
    by_cases b1 : pSg n t (p9 + 1) = 116
    · have e6 : pw n t p9 6 = 1 := by rw [pw_6, if_pos a3, if_neg (by omega)]
      have e3 : 2 ≤ pw n t p9 3 := by
        rw [pw_3, if_pos a3, if_pos b1]
        split <;> (try split) <;> (try split) <;> decide
      rw [if_neg (show ¬ pw n t p9 3 < pw n t p9 6 by omega)]
      exact ⟨fun h => kN_3 a3 b1 h, fun h => h⟩
    · have e3 : pw n t p9 3 = 1 := by rw [pw_3, if_pos a3, if_neg b1]
      by_cases b2 : pSg n t (p9 + 1) = 104
      · have e6 : 2 ≤ pw n t p9 6 := by
          rw [pw_6, if_pos a3, if_pos b2]
          split <;> (try split) <;> decide
        rw [if_pos (show pw n t p9 3 < pw n t p9 6 by omega)]
        exact ⟨fun h => kN_6 a3 b2 h, fun h => h⟩
      · have e6 : pw n t p9 6 = 1 := by rw [pw_6, if_pos a3, if_neg b2]
        rw [if_neg (show ¬ pw n t p9 3 < pw n t p9 6 by omega)]
        refine ⟨fun _ => ?_, fun h => h⟩
        show pOq n t p9 = (p9 + pw n t p9 3, 1)
        rw [e3]
        unfold pOq
        rw [if_neg (show ¬ pSg n t p9 = 104 by omega), if_neg (show ¬ pSg n t p9 = 108 by omega), if_neg (show ¬ pSg n t p9 = 97 by omega), if_pos a3, if_neg b1, pRs_4 (by decide), if_neg b2, pNq_1, pNq_1]
  have hz : ∀ i, i < 10 → pw n t p9 i = 0 := by
    intro i hi
    refine pw_z hi ?_
    rcases (show i = 0 ∨ i = 1 ∨ i = 2 ∨ i = 3 ∨ i = 4 ∨ i = 5 ∨ i = 6 ∨ i = 7 ∨ i = 8 ∨ i = 9 by omega) with rfl | rfl | rfl | rfl | rfl | rfl | rfl | rfl | rfl | rfl
    · exact a0
    · exact a1
    · exact a2
    · exact a3
    · exact a4
    · exact a5
    · exact a3
    · exact a7
    · exact a8
    · exact a9
  rw [kB_0 hz]
  refine ⟨fun _ => ?_, fun h => absurd h (by decide)⟩
  unfold pOq
  rw [if_neg a0, if_neg a1, if_neg a2, if_neg a3, if_neg a4, if_neg a5, if_neg a7, if_neg a8, if_neg a9]
  rfl
set_option maxRecDepth 100000 in
set_option maxHeartbeats 4000000 in
/-- X1_lengthOfBeginning -/
theorem c_X1_lengthOfBeginning (l : Launch) {X : gX} (hI : gInj X) {mem : gM} {n : Nat} {t : Nat → Nat} (hx : hTx mem n t) {f : Nat → Nat} {p9 s9 q9 : Nat} (hp : p9 ≤ 80) (hq9 : q9 < 10) : gF l yX1_lengthOfBeginning cX1_lengthOfBeginning 4 (some .int) 5 106 X [.ref (gAd X 7 5), .ref (gAd X 7 3), .ref (gKs X q9)] (gP mem 7 5 (cT f p9 s9)) (some (.int (nI (pw n t p9 q9)))) (gP mem 7 5 (cT f p9 s9)) := by
  refine gMt.of (own := RX1) (by decide) rfl hI (by simp [Value.category]) (Nat.le_of_ble_eq_true rfl) ?_
  intro p e s m args below meth c ls H locs C hnm hl hR hS
  have h5 := gLn_all q9 hq9
  have loop : ∀ (d i : Nat), i + d = gLn q9 → pwr n t p9 q9 d i = pw n t p9 q9 → ∀ (ls : Array Slot) (H : Heap) (locs : List Loc), gL ls [some (.ref (gAd X 7 5)), some (.ref (gAd X 7 3)), some (.ref (gKs X q9)), some (.int (nI i))] → gRep X (gP mem 7 5 (cT f p9 s9)) H → va_S (gA X) s.heap H locs → W p l e { frames := 5, cells := 0, slots := 0, locals := 106 } s m args below meth c H locs 0 0 (MQ below (gQ X (fun v m => v = some (.int (nI (pw n t p9 q9))) ∧ m = gP mem 7 5 (cT f p9 s9))) args s 0 0 (gA X)) (F0 m 2 ls []) := by
    intro d
    induction d with
    | zero =>
      intro i hi hy ls H locs  hl hR hS
      have hi2 : i = gLn q9 := by omega
      subst hi2
      refine g_iload_n C hl dX1_lengthOfBeginning_2 rfl ?_
      refine g_aload_n C hl dX1_lengthOfBeginning_3 rfl ?_
      refine gs_callVi C hl.1 hR hS hq9 rfl md_J0_length_8abf5 ml_X1_66 (c_J0_length_8abf5 l hI hq9) rfl rfl ⟨Nat.le_of_ble_eq_true rfl, Nat.le_of_ble_eq_true rfl⟩ ⟨Nat.le_refl _, Nat.le_refl _⟩ (Nat.le_of_ble_eq_true rfl) dX1_lengthOfBeginning_4 (fun H locs hR hS => ?_)
      refine g_icmp_ge (tgt := 34) C dX1_lengthOfBeginning_7 (by decide) (by omega) (by omega) (fun c7 => ?_) (fun z9 => absurd z9 (by omega))
      refine g_iload_n C hl dX1_lengthOfBeginning_34 rfl ?_
      refine g_iret C hR hS dX1_lengthOfBeginning_35 ?_
      have e9 : gLn q9 = pw n t p9 q9 := hy
      rw [← e9]
      exact ⟨rfl, rfl⟩
    | succ d ih =>
      intro i hi hy ls H locs  hl hR hS
      refine g_iload_n C hl dX1_lengthOfBeginning_2 rfl ?_
      refine g_aload_n C hl dX1_lengthOfBeginning_3 rfl ?_
      refine gs_callVi C hl.1 hR hS hq9 rfl md_J0_length_8abf5 ml_X1_66 (c_J0_length_8abf5 l hI hq9) rfl rfl ⟨Nat.le_of_ble_eq_true rfl, Nat.le_of_ble_eq_true rfl⟩ ⟨Nat.le_refl _, Nat.le_refl _⟩ (Nat.le_of_ble_eq_true rfl) dX1_lengthOfBeginning_4 (fun H locs hR hS => ?_)
      refine g_icmp_ge (tgt := 34) C dX1_lengthOfBeginning_7 (by decide) (by omega) (by omega) (fun z9 => absurd z9 (by omega)) (fun c7 => ?_)
      refine g_aload_n C hl dX1_lengthOfBeginning_10 rfl ?_
      refine g_aload_n C hl dX1_lengthOfBeginning_11 rfl ?_
      refine xg_2 C hR fl_X1_24 dX1_lengthOfBeginning_12 ?_
      refine g_iload_n C hl dX1_lengthOfBeginning_15 rfl ?_
      refine g_iadd C dX1_lengthOfBeginning_16 ?_
      refine g_callVi C hl.1 hR hS rc_X6 md_X6_at ml_X1_39 (c_X6_at l hI (hx.p _) (by omega)) rfl rfl ⟨Nat.le_of_ble_eq_true rfl, Nat.le_of_ble_eq_true rfl⟩ ⟨Nat.le_refl _, Nat.le_refl _⟩ (Nat.le_of_ble_eq_true rfl) dX1_lengthOfBeginning_17 (fun H locs hR hS => ?_)
      refine g_aload_n C hl dX1_lengthOfBeginning_20 rfl ?_
      refine g_iload_n C hl dX1_lengthOfBeginning_21 rfl ?_
      refine gs_callVi C hl.1 hR hS hq9 rfl md_J0_charAt_5068e ml_X1_72 (c_J0_charAt_5068e l hI hq9 (by omega)) rfl rfl ⟨Nat.le_of_ble_eq_true rfl, Nat.le_of_ble_eq_true rfl⟩ ⟨Nat.le_refl _, Nat.le_refl _⟩ (Nat.le_of_ble_eq_true rfl) dX1_lengthOfBeginning_22 (fun H locs hR hS => ?_)
      refine g_at_ne (tgt := 34) C dX1_lengthOfBeginning_25 (by decide) hx.2.2.2 (gCh_pos hq9 (by omega)) (by have := (gCh_eq hq9 (show i < gLn q9 by omega)).2; omega) (fun c25 => ?_) (fun c25 => ?_)
      · -- 25 T
        refine g_iload_n C hl dX1_lengthOfBeginning_34 rfl ?_
        refine g_iret C hR hS dX1_lengthOfBeginning_35 ?_
        have e9 : pwr n t p9 q9 (d + 1) i = i := if_neg c25
        rw [e9] at hy
        rw [← hy]
        exact ⟨rfl, rfl⟩
      · -- 25 F
        refine g_iinc (k := 1) C hl dX1_lengthOfBeginning_28 rfl (by decide) (fun ls hl => ?_)
        refine g_goto (tgt := 2) C dX1_lengthOfBeginning_31 (by decide) ?_
        refine ih (i + 1) (by omega) ((if_pos c25).symm.trans hy)  ls H locs hl ?_ hS
        exact hR
  refine g_iconst 0 C dX1_lengthOfBeginning_0 (by decide) ?_
  refine g_istore_n C hl dX1_lengthOfBeginning_1 (Nat.le_of_ble_eq_true rfl) (fun ls hl => ?_)
  exact loop (gLn q9) 0 (by omega) rfl _ _ _ hl hR hS
set_option maxRecDepth 100000 in
set_option maxHeartbeats 4000000 in
/-- X1_readKind -/
theorem c_X1_readKind (l : Launch) {X : gX} (hI : gInj X) {mem : gM} {n : Nat} {t : Nat → Nat} (hx : hTx mem n t) {f : Nat → Nat} {p9 s9 : Nat} (hp : p9 ≤ 80) : gF l yX1_readKind cX1_readKind 6 (some .int) 6 129 X [.ref (gAd X 7 5), .ref (gAd X 7 3)] (gP mem 7 5 (cT f p9 s9)) (some (.int (nI (kB n t p9 10).2))) (gP mem 7 5 (cT f (p9 + (kB n t p9 10).1) (if (kB n t p9 10).1 = gLn (kB n t p9 10).2 then 1 else 0))) := by
  refine gMt.of (own := RX1) (by decide) rfl hI (by simp [Value.category]) (Nat.le_of_ble_eq_true rfl) ?_
  intro p e s m args below meth c ls H locs C hnm hl hR hS
  have loop : ∀ (d i : Nat), i + d = 10 → ∀ (ls : Array Slot) (H : Heap) (locs : List Loc) (v5 : Option Value), gL ls [some (.ref (gAd X 7 5)), some (.ref (gAd X 7 3)), some (.int (nI (kB n t p9 i).1)), some (.int (nI (kB n t p9 i).2)), some (.int (nI i)), v5] → gRep X (gP mem 7 5 (cT f p9 s9)) H → va_S (gA X) s.heap H locs → W p l e { frames := 6, cells := 0, slots := 0, locals := 129 } s m args below meth c H locs 0 0 (MQ below (gQ X (fun v m => v = some (.int (nI (kB n t p9 10).2)) ∧ m = gP mem 7 5 (cT f (p9 + (kB n t p9 10).1) (if (kB n t p9 10).1 = gLn (kB n t p9 10).2 then 1 else 0)))) args s 0 0 (gA X)) (F0 m 7 ls []) := by
    intro d
    induction d with
    | zero =>
      intro i hi  ls H locs v5 hl hR hS
      have hi2 : i = 10 := by omega
      subst hi2
      refine g_iload C hl dX1_readKind_7 rfl ?_
      refine g_bipush 10 C dX1_readKind_9 (by decide) ?_
      refine g_icmp_ge (tgt := 44) C dX1_readKind_11 (by decide) (by omega) (by omega) (fun c11 => ?_) (fun z9 => absurd z9 (by omega))
      refine g_aload_n C hl dX1_readKind_44 rfl ?_
      refine g_dup C dX1_readKind_45 rfl ?_
      refine xg_2 C hR fl_X1_24 dX1_readKind_46 ?_
      refine g_iload_n C hl dX1_readKind_49 rfl ?_
      refine g_iadd C dX1_readKind_50 ?_
      refine xp_2 C hR hS fl_X1_24 dX1_readKind_51 (fun H locs hR hS => ?_)
      refine g_aload_n C hl dX1_readKind_54 rfl ?_
      refine g_iload_n C hl dX1_readKind_55 rfl ?_
      refine g_iload_n C hl dX1_readKind_56 rfl ?_
      refine g_callSr C hl.1 hR hS md_X1_wordOf ml_X1_58 (c_X1_wordOf l hI (kB_lt 10 (by decide)).1) rfl rfl ⟨Nat.le_of_ble_eq_true rfl, Nat.le_of_ble_eq_true rfl⟩ ⟨Nat.le_refl _, Nat.le_refl _⟩ (Nat.le_of_ble_eq_true rfl) dX1_readKind_57 (fun H locs hR hS => ?_)
      refine gs_callVi C hl.1 hR hS (kB_lt 10 (by decide)).1 rfl md_J0_length_8abf5 ml_X1_66 (c_J0_length_8abf5 l hI (kB_lt 10 (by decide)).1) rfl rfl ⟨Nat.le_of_ble_eq_true rfl, Nat.le_of_ble_eq_true rfl⟩ ⟨Nat.le_refl _, Nat.le_refl _⟩ (Nat.le_of_ble_eq_true rfl) dX1_readKind_60 (fun H locs hR hS => ?_)
      refine g_icmp_ne (tgt := 70) C dX1_readKind_63 (by decide) (by have := (kB_lt (n := n) (t := t) (p9 := p9) 10 (by decide)).2; omega) (by have := gLn_all _ (kB_lt (n := n) (t := t) (p9 := p9) 10 (by decide)).1; omega) (fun c63 => ?_) (fun c63 => ?_)
      · -- 63 T
        refine g_iconst 0 C dX1_readKind_70 (by decide) ?_
        refine xp_3 C hR hS (by decide) fl_X1_35 dX1_readKind_71 (fun H locs hR hS => ?_)
        refine g_iload_n C hl dX1_readKind_74 rfl ?_
        refine g_iret C hR hS dX1_readKind_75 ?_
        rw [if_neg c63]
        exact ⟨rfl, rfl⟩
      · -- 63 F
        refine g_iconst 1 C dX1_readKind_66 (by decide) ?_
        refine g_goto (tgt := 71) C dX1_readKind_67 (by decide) ?_
        refine xp_3 C hR hS (by decide) fl_X1_35 dX1_readKind_71 (fun H locs hR hS => ?_)
        refine g_iload_n C hl dX1_readKind_74 rfl ?_
        refine g_iret C hR hS dX1_readKind_75 ?_
        rw [if_pos c63]
        exact ⟨rfl, rfl⟩
    | succ d ih =>
      intro i hi  ls H locs v5 hl hR hS
      refine g_iload C hl dX1_readKind_7 rfl ?_
      refine g_bipush 10 C dX1_readKind_9 (by decide) ?_
      refine g_icmp_ge (tgt := 44) C dX1_readKind_11 (by decide) (by omega) (by omega) (fun z9 => absurd z9 (by omega)) (fun c11 => ?_)
      refine g_aload_n C hl dX1_readKind_14 rfl ?_
      refine g_aload_n C hl dX1_readKind_15 rfl ?_
      refine g_iload C hl dX1_readKind_16 rfl ?_
      refine g_callSr C hl.1 hR hS md_X1_wordOf ml_X1_58 (c_X1_wordOf l hI (show i < 10 by omega)) rfl rfl ⟨Nat.le_of_ble_eq_true rfl, Nat.le_of_ble_eq_true rfl⟩ ⟨Nat.le_refl _, Nat.le_refl _⟩ (Nat.le_of_ble_eq_true rfl) dX1_readKind_18 (fun H locs hR hS => ?_)
      refine g_callVi C hl.1 hR hS rc_X1 md_X1_lengthOfBeginning ml_X1_62 (c_X1_lengthOfBeginning l hI hx hp (show i < 10 by omega)) rfl rfl ⟨Nat.le_of_ble_eq_true rfl, Nat.le_of_ble_eq_true rfl⟩ ⟨Nat.le_refl _, Nat.le_refl _⟩ (Nat.le_of_ble_eq_true rfl) dX1_readKind_21 (fun H locs hR hS => ?_)
      refine g_istore C hl dX1_readKind_24 (Nat.le_of_ble_eq_true rfl) (fun ls hl => ?_)
      refine g_iload C hl dX1_readKind_26 rfl ?_
      refine g_iload_n C hl dX1_readKind_28 rfl ?_
      refine g_icmp_le (tgt := 38) C dX1_readKind_29 (by decide) (by have := pw_le (n := n) (t := t) (p9 := p9) (i := i) (by omega); omega) (by have := (kB_lt (n := n) (t := t) (p9 := p9) i (by omega)).2; omega) (fun c29 => ?_) (fun c29 => ?_)
      · -- 29 T
        refine g_iinc (k := 1) C hl dX1_readKind_38 rfl (by decide) (fun ls hl => ?_)
        refine g_goto (tgt := 7) C dX1_readKind_41 (by decide) ?_
        have e9 : kB n t p9 (i + 1) = if (kB n t p9 i).1 < pw n t p9 i then (pw n t p9 i, i) else kB n t p9 i := rfl
        first | rw [if_neg (show ¬ (kB n t p9 i).1 < pw n t p9 i by omega)] at e9 | rw [if_pos (show (kB n t p9 i).1 < pw n t p9 i by omega)] at e9
        refine ih (i + 1) (by omega) ls H locs _ (by rw [e9]; exact hl) ?_ hS
        exact hR
      · -- 29 F
        refine g_iload C hl dX1_readKind_32 rfl ?_
        refine g_istore_n C hl dX1_readKind_34 (Nat.le_of_ble_eq_true rfl) (fun ls hl => ?_)
        refine g_iload C hl dX1_readKind_35 rfl ?_
        refine g_istore_n C hl dX1_readKind_37 (Nat.le_of_ble_eq_true rfl) (fun ls hl => ?_)
        refine g_iinc (k := 1) C hl dX1_readKind_38 rfl (by decide) (fun ls hl => ?_)
        refine g_goto (tgt := 7) C dX1_readKind_41 (by decide) ?_
        have e9 : kB n t p9 (i + 1) = if (kB n t p9 i).1 < pw n t p9 i then (pw n t p9 i, i) else kB n t p9 i := rfl
        first | rw [if_neg (show ¬ (kB n t p9 i).1 < pw n t p9 i by omega)] at e9 | rw [if_pos (show (kB n t p9 i).1 < pw n t p9 i by omega)] at e9
        refine ih (i + 1) (by omega) ls H locs _ (by rw [e9]; exact hl) ?_ hS
        exact hR
  refine g_iconst 0 C dX1_readKind_0 (by decide) ?_
  refine g_istore_n C hl dX1_readKind_1 (Nat.le_of_ble_eq_true rfl) (fun ls hl => ?_)
  refine g_iconst 0 C dX1_readKind_2 (by decide) ?_
  refine g_istore_n C hl dX1_readKind_3 (Nat.le_of_ble_eq_true rfl) (fun ls hl => ?_)
  refine g_iconst 0 C dX1_readKind_4 (by decide) ?_
  refine g_istore C hl dX1_readKind_5 (Nat.le_of_ble_eq_true rfl) (fun ls hl => ?_)
  exact loop 10 0 (by omega) _ _ _ _ hl hR hS
