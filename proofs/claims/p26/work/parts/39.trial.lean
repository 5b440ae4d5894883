/-! ===== FarBanks: trial runs ===== -/
set_option maxRecDepth 100000 in
set_option maxHeartbeats 4000000 in
/-- X5_differencesTo -/
theorem c_X5_differencesTo (l : Launch) {X : gX} (hI : gInj X) {mem : gM} {k o a n k2 o2 a2 : Nat} (hw : gRow k o a n) (hw2 : gRow k2 o2 a2 n) (hb1 : ∀ i, i < n → mem k a i < 2 ^ 31) (hb2 : ∀ i, i < n → mem k2 a2 i < 2 ^ 31) : gF l yX5_differencesTo cX5_differencesTo 4 (some .int) 1 21 X [.ref (gAd X k o), .ref (gAd X k2 o2)] mem (some (.int (nI (gSum (fun j => if mem k a j = mem k2 a2 j then 0 else 1) n)))) mem := by
  refine gMt.of (own := RX5) (by decide) rfl hI (by simp [Value.category]) (Nat.le_of_ble_eq_true rfl) ?_
  intro p e s m args below meth c ls H locs C hnm hl hR hS
  have hn := hw.2.2.1
  have loop : ∀ (d i : Nat), i + d = n → ∀ (ls : Array Slot) (H : Heap) (locs : List Loc), gL ls [some (.ref (gAd X k o)), some (.ref (gAd X k2 o2)), some (.int (nI (gSum (fun j => if mem k a j = mem k2 a2 j then 0 else 1) i))), some (.int (nI i))] → gRep X (mem) H → va_S (gA X) s.heap H locs → W p l e { frames := 1, cells := 0, slots := 0, locals := 21 } s m args below meth c H locs 0 0 (MQ below (gQ X (fun v m => v = some (.int (nI (gSum (fun j => if mem k a j = mem k2 a2 j then 0 else 1) n))) ∧ m = mem)) args s 0 0 (gA X)) (F0 m 4 ls []) := by
    intro d
    induction d with
    | zero =>
      intro i hi  ls H locs  hl hR hS
      have hi2 : i = n := by omega
      subst hi2
      refine g_iload_n C hl dX5_differencesTo_4 rfl ?_
      refine g_aload_n C hl dX5_differencesTo_5 rfl ?_
      refine gt_X5 C hw hR fl_X5_13 dX5_differencesTo_6 ?_
      refine g_alen_w C hw hR dX5_differencesTo_9 ?_
      refine g_icmp_ge (tgt := 36) C dX5_differencesTo_10 (by decide) (by omega) (by omega) (fun c10 => ?_) (fun z9 => absurd z9 (by omega))
      refine g_iload_n C hl dX5_differencesTo_36 rfl ?_
      refine g_iret C hR hS dX5_differencesTo_37 ?_
      exact ⟨rfl, rfl⟩
    | succ d ih =>
      intro i hi  ls H locs  hl hR hS
      refine g_iload_n C hl dX5_differencesTo_4 rfl ?_
      refine g_aload_n C hl dX5_differencesTo_5 rfl ?_
      refine gt_X5 C hw hR fl_X5_13 dX5_differencesTo_6 ?_
      refine g_alen_w C hw hR dX5_differencesTo_9 ?_
      refine g_icmp_ge (tgt := 36) C dX5_differencesTo_10 (by decide) (by omega) (by omega) (fun z9 => absurd z9 (by omega)) (fun c10 => ?_)
      refine g_aload_n C hl dX5_differencesTo_13 rfl ?_
      refine gt_X5 C hw hR fl_X5_13 dX5_differencesTo_14 ?_
      refine g_iload_n C hl dX5_differencesTo_17 rfl ?_
      refine g_iald_w C hw hR (by omega) dX5_differencesTo_18 ?_
      refine g_aload_n C hl dX5_differencesTo_19 rfl ?_
      refine g_iload_n C hl dX5_differencesTo_20 rfl ?_
      refine g_callVi C hl.1 hR hS (rc_X5 hw2) md_X5_read ml_X5_19 (c_X5_read l hI hw2 (show i < n by omega)) rfl rfl ⟨Nat.le_of_ble_eq_true rfl, Nat.le_of_ble_eq_true rfl⟩ ⟨Nat.le_refl _, Nat.le_refl _⟩ (Nat.le_of_ble_eq_true rfl) dX5_differencesTo_21 (fun H locs hR hS => ?_)
      refine g_icmp_eq (tgt := 30) C dX5_differencesTo_24 (by decide) (hb1 i (by omega)) (hb2 i (by omega)) (fun c24 => ?_) (fun c24 => ?_)
      · -- 24 T
        refine g_iinc (k := 1) C hl dX5_differencesTo_30 rfl (by decide) (fun ls hl => ?_)
        refine g_goto (tgt := 4) C dX5_differencesTo_33 (by decide) ?_
        have e9 : gSum (fun j => if mem k a j = mem k2 a2 j then 0 else 1) (i + 1) = gSum (fun j => if mem k a j = mem k2 a2 j then 0 else 1) i + (if mem k a i = mem k2 a2 i then 0 else 1) := rfl
        first | rw [if_pos c24, Nat.add_zero (gSum (fun j => if mem k a j = mem k2 a2 j then 0 else 1) i)] at e9 | rw [if_neg c24] at e9
        rw [← e9] at hl
        refine ih (i + 1) (by omega)  ls H locs hl ?_ hS
        exact hR
      · -- 24 F
        refine g_iinc (k := 1) C hl dX5_differencesTo_27 rfl (by decide) (fun ls hl => ?_)
        refine g_iinc (k := 1) C hl dX5_differencesTo_30 rfl (by decide) (fun ls hl => ?_)
        refine g_goto (tgt := 4) C dX5_differencesTo_33 (by decide) ?_
        have e9 : gSum (fun j => if mem k a j = mem k2 a2 j then 0 else 1) (i + 1) = gSum (fun j => if mem k a j = mem k2 a2 j then 0 else 1) i + (if mem k a i = mem k2 a2 i then 0 else 1) := rfl
        first | rw [if_pos c24, Nat.add_zero (gSum (fun j => if mem k a j = mem k2 a2 j then 0 else 1) i)] at e9 | rw [if_neg c24] at e9
        rw [← e9] at hl
        refine ih (i + 1) (by omega)  ls H locs hl ?_ hS
        exact hR
  refine g_iconst 0 C dX5_differencesTo_0 (by decide) ?_
  refine g_istore_n C hl dX5_differencesTo_1 (Nat.le_of_ble_eq_true rfl) (fun ls hl => ?_)
  refine g_iconst 0 C dX5_differencesTo_2 (by decide) ?_
  refine g_istore_n C hl dX5_differencesTo_3 (Nat.le_of_ble_eq_true rfl) (fun ls hl => ?_)
  exact loop n 0 (by omega) _ _ _ hl hR hS
set_option maxRecDepth 100000 in
set_option maxHeartbeats 4000000 in
/-- X8_next -/
theorem c_X8_next (l : Launch) {X : gX} (hI : gInj X) {mem : gM} {S : aS} {w : Int32} (hJ : aI S) (hc : aCl S mem) : gMt l yX8_next cX8_next 2 (some .int) 5 115 X [.ref (gAd X 7 0), .int w] mem (fun v9 m9 => v9 = some (.int (sNext (aZ S) w)) ∧ aCm S mem m9) := by
  refine gMt.of (own := RX8) (by decide) rfl hI (by simp [Value.category]) (Nat.le_of_ble_eq_true rfl) ?_
  intro p e s m args below meth c ls H locs C hnm hl hR hS
  have hz : zI (aZ S) := hJ.1.1
  have hg : zG (aZ S) := hJ.1.2.1
  have hB : aZ S 178 ≤ 999999 := hJ.1.2.2.1
  have hM : mR (mem 0) (aZ S) := hc.1
  have h115 := hz.2.2.2.2.2.2.1
  have h116 := hz.2.2.2.2.2.2.2.1
  rw [← fU_self mem 0] at hR
  refine g_iload_n C hl dX8_next_0 rfl ?_
  refine g_iconst 3 C dX8_next_1 (by decide) ?_
  refine g_callSi C hl.1 hR hS md_X8_isBelow ml_X8_43 (c_X8_isBelow l hI (hi := 2) (by decide)) rfl rfl ⟨Nat.le_of_ble_eq_true rfl, Nat.le_of_ble_eq_true rfl⟩ ⟨Nat.le_refl _, Nat.le_refl _⟩ (Nat.le_of_ble_eq_true rfl) dX8_next_2 (fun H locs hR hS => ?_)
  refine g_ifv_ne (tgt := 11) C dX8_next_5 (by decide) (by decide) (fun w ew hw1 hw2 => ?_) (fun c5 => ?_)
  · -- 5 T
    subst ew
    refine g_aload_n C hl dX8_next_11 rfl ?_
    refine gt_X8_0 C hR fl_X8_10 dX8_next_12 ?_
    refine zgn_X4_5 C (by decide) hM hR fn_X8_110 dX8_next_15 ?_
    refine g_if_eq (tgt := 24) C dX8_next_18 (by decide) (by omega) (fun c18 => ?_) (fun c18 => ?_)
    · -- 18 T
      refine g_iload_n C hl dX8_next_24 rfl ?_
      refine g_if_ne (tgt := 46) C dX8_next_25 (by decide) (by omega) (fun c25 => ?_) (fun c25 => ?_)
      · -- 25 T
        refine g_aload_n C hl dX8_next_46 rfl ?_
        refine gt_X8_1 C hR fl_X8_16 dX8_next_47 ?_
        refine g_aload_n C hl dX8_next_50 rfl ?_
        refine gt_X8_0 C hR fl_X8_10 dX8_next_51 ?_
        rw [fU_self] at hR
        refine g_callKv C hl.1 hR hS (rc_X4 (by decide)) md_X4_copyFrom ml_X8_158 (c_X4_copyFrom l hI (k := 1) (k2 := 0) (by decide) (by decide) (by decide) hM) rfl rfl ⟨Nat.le_of_ble_eq_true rfl, Nat.le_of_ble_eq_true rfl⟩ ⟨Nat.le_refl _, Nat.le_refl _⟩ (Nat.le_of_ble_eq_true rfl) dX8_next_54 (fun g hM H locs hR hS => ?_)
        refine g_aload_n C hl dX8_next_57 rfl ?_
        refine gt_X8_1 C hR fl_X8_16 dX8_next_58 ?_
        refine g_callKv C hl.1 hR hS (rc_X4 (by decide)) md_X4_step ml_X8_204 (c_X4_step l hI (k := 1) (by decide) hM hz (hg c18) (by omega)) rfl rfl ⟨Nat.le_of_ble_eq_true rfl, Nat.le_of_ble_eq_true rfl⟩ ⟨Nat.le_refl _, Nat.le_refl _⟩ (Nat.le_of_ble_eq_true rfl) dX8_next_61 (fun g hM H locs hR hS => ?_)
        refine g_iload_n C hl dX8_next_64 rfl ?_
        refine g_iconst 1 C dX8_next_65 (by decide) ?_
        refine g_icmp_ne (tgt := 79) C dX8_next_66 (by decide) (by omega) (by omega) (fun c66 => ?_) (fun c66 => ?_)
        · -- 66 T
          refine g_aload_n C hl dX8_next_79 rfl ?_
          refine gt_X8_1 C hR fl_X8_16 dX8_next_80 ?_
          refine zgn_X4_4 C (by decide) hM hR fn_X8_100 dX8_next_83 ?_
          refine g_iret C hR hS dX8_next_86 ?_
          unfold sNext
          rw [if_pos (gIw_ok (by omega) hw2 (by decide)), if_neg (by omega), nI_clamp (by omega)]
          obtain rfl : w = 2 := by omega
          exact ⟨rfl, aCm_1 hc _⟩
        · -- 66 F
          refine g_aload_n C hl dX8_next_69 rfl ?_
          refine gt_X8_1 C hR fl_X8_16 dX8_next_70 ?_
          refine zgn_X4_5 C (by decide) hM hR fn_X8_110 dX8_next_73 ?_
          refine g_goto (tgt := 86) C dX8_next_76 (by decide) ?_
          refine g_iret C hR hS dX8_next_86 ?_
          unfold sNext
          rw [if_pos (gIw_ok (by omega) hw2 (by decide)), if_neg (by omega), nI_clamp (by omega)]
          obtain rfl : w = 1 := by omega
          exact ⟨rfl, aCm_1 hc _⟩
      · -- 25 F
        refine g_aload_n C hl dX8_next_28 rfl ?_
        refine gt_X8_0 C hR fl_X8_10 dX8_next_29 ?_
        refine gn_X4_0 C (by decide) hR fn_X8_47 dX8_next_32 ?_
        refine g_aload_n C hl dX8_next_35 rfl ?_
        refine gt_X8_0 C hR fl_X8_10 dX8_next_36 ?_
        refine zgn_X4_4 C (by decide) hM hR fn_X8_100 dX8_next_39 ?_
        refine g_callVi C hl.1 hR hS (rc_X0 (by decide)) md_X0_numberAt ml_X8_164 (c_X0_numberAt l hI (by decide) hM hz (hg c18)) rfl rfl ⟨Nat.le_of_ble_eq_true rfl, Nat.le_of_ble_eq_true rfl⟩ ⟨Nat.le_refl _, Nat.le_refl _⟩ (Nat.le_of_ble_eq_true rfl) dX8_next_42 (fun H locs hR hS => ?_)
        refine g_iret C hR hS dX8_next_45 ?_
        unfold sNext
        rw [if_pos (gIw_ok (by omega) hw2 (by decide)), if_neg (by omega), nI_clamp (by omega)]
        obtain rfl : w = 0 := by omega
        exact ⟨rfl, aCm_same hc⟩
    · -- 18 F
      refine g_bipushM (-5) C dX8_next_21 (by decide) ?_
      refine g_iret C hR hS dX8_next_23 ?_
      unfold sNext
      rw [if_pos (gIw_ok (by omega) hw2 (by decide)), if_pos (by omega)]
      exact ⟨rfl, aCm_same hc⟩
  · -- 5 F
    refine g_bipushM (-2) C dX8_next_8 (by decide) ?_
    refine g_iret C hR hS dX8_next_10 ?_
    unfold sNext
    rw [if_neg (by rw [c5]; decide)]
    exact ⟨rfl, aCm_same hc⟩
set_option maxRecDepth 100000 in
set_option maxHeartbeats 4000000 in
/-- X8_ifRun -/
theorem c_X8_ifRun (l : Launch) {X : gX} (hI : gInj X) {mem : gM} {S : aS} {n w : Int32} (hJ : aI S) (hc : aCl S mem) : gMt l yX8_ifRun cX8_ifRun 4 (some .int) 6 137 X [.ref (gAd X 7 0), .int n, .int w] mem (fun v9 m9 => v9 = some (.int (sIf (aZ S) n w)) ∧ aCm S mem m9) := by
  refine gMt.of (own := RX8) (by decide) rfl hI (by simp [Value.category]) (Nat.le_of_ble_eq_true rfl) ?_
  intro p e s m args below meth c ls H locs C hnm hl hR hS
  have hz : zI (aZ S) := hJ.1.1
  have hg : zG (aZ S) := hJ.1.2.1
  have hB : aZ S 178 ≤ 999999 := hJ.1.2.2.1
  have hM : mR (mem 0) (aZ S) := hc.1
  have h115 := hz.2.2.2.2.2.2.1
  have h116 := hz.2.2.2.2.2.2.2.1
  rw [← fU_self mem 0] at hR
  refine g_iload_n C hl dX8_ifRun_0 rfl ?_
  refine g_callSi C hl.1 hR hS md_X8_isStepsOfRun ml_X8_107 (c_X8_isStepsOfRun l hI) rfl rfl ⟨Nat.le_of_ble_eq_true rfl, Nat.le_of_ble_eq_true rfl⟩ ⟨Nat.le_refl _, Nat.le_refl _⟩ (Nat.le_of_ble_eq_true rfl) dX8_ifRun_1 (fun H locs hR hS => ?_)
  refine g_ifv_eq (tgt := 15) C dX8_ifRun_4 (by decide) (by decide) (fun c4 => ?_) (fun n en hn1 hn2 => ?_)
  · -- 4 T
    refine g_bipushM (-2) C dX8_ifRun_15 (by decide) ?_
    refine g_iret C hR hS dX8_ifRun_17 ?_
    unfold sIf
    rw [if_neg (by rw [c4]; decide)]
    exact ⟨rfl, aCm_same hc⟩
  · -- 4 F
    subst en
    refine g_iload_n C hl dX8_ifRun_7 rfl ?_
    refine g_iconst 5 C dX8_ifRun_8 (by decide) ?_
    refine g_callSi C hl.1 hR hS md_X8_isBelow ml_X8_43 (c_X8_isBelow l hI (hi := 4) (by decide)) rfl rfl ⟨Nat.le_of_ble_eq_true rfl, Nat.le_of_ble_eq_true rfl⟩ ⟨Nat.le_refl _, Nat.le_refl _⟩ (Nat.le_of_ble_eq_true rfl) dX8_ifRun_9 (fun H locs hR hS => ?_)
    refine g_ifv_ne (tgt := 18) C dX8_ifRun_12 (by decide) (by decide) (fun w ew hw1 hw2 => ?_) (fun c12 => ?_)
    · -- 12 T
      subst ew
      refine g_aload_n C hl dX8_ifRun_18 rfl ?_
      refine gt_X8_0 C hR fl_X8_10 dX8_ifRun_19 ?_
      refine zgn_X4_5 C (by decide) hM hR fn_X8_110 dX8_ifRun_22 ?_
      refine g_if_eq (tgt := 31) C dX8_ifRun_25 (by decide) (by omega) (fun c25 => ?_) (fun c25 => ?_)
      · -- 25 T
        refine g_aload_n C hl dX8_ifRun_31 rfl ?_
        refine gt_X8_1 C hR fl_X8_16 dX8_ifRun_32 ?_
        refine g_aload_n C hl dX8_ifRun_35 rfl ?_
        refine gt_X8_0 C hR fl_X8_10 dX8_ifRun_36 ?_
        rw [fU_self] at hR
        refine g_callKv C hl.1 hR hS (rc_X4 (by decide)) md_X4_copyFrom ml_X8_158 (c_X4_copyFrom l hI (k := 1) (k2 := 0) (by decide) (by decide) (by decide) hM) rfl rfl ⟨Nat.le_of_ble_eq_true rfl, Nat.le_of_ble_eq_true rfl⟩ ⟨Nat.le_refl _, Nat.le_refl _⟩ (Nat.le_of_ble_eq_true rfl) dX8_ifRun_39 (fun g hM H locs hR hS => ?_)
        refine g_aload_n C hl dX8_ifRun_42 rfl ?_
        refine gt_X8_1 C hR fl_X8_16 dX8_ifRun_43 ?_
        refine g_iload_n C hl dX8_ifRun_46 rfl ?_
        refine g_callKi C hl.1 hR hS (rc_X4 (by decide)) md_X4_takeSteps ml_X8_123 (c_X4_takeSteps l hI (k := 1) (by decide) hM hz hg hB (show n < 2000 by omega)) rfl rfl ⟨Nat.le_of_ble_eq_true rfl, Nat.le_of_ble_eq_true rfl⟩ ⟨Nat.le_refl _, Nat.le_refl _⟩ (Nat.le_of_ble_eq_true rfl) dX8_ifRun_47 (fun g hM H locs hR hS => ?_)
        refine g_istore_n C hl dX8_ifRun_50 (Nat.le_of_ble_eq_true rfl) (fun ls hl => ?_)
        refine g_iload_n C hl dX8_ifRun_51 rfl ?_
        by_cases hsw : gIw (nI w) 0 3 = true
        · -- 52 in
          obtain ⟨w9, e9, -, h9⟩ := gIw_t hsw (by decide)
          have e9 : w9 = w := ((nI_eq (show w < 2 ^ 31 by omega) (show w9 < 2 ^ 31 by omega)).mp e9).symm
          subst e9
          rcases (show w9 = 0 ∨ w9 = 1 ∨ w9 = 2 ∨ w9 = 3 by omega) with e9 | e9 | e9 | e9
          · -- 52 case 0
            subst e9
            refine lv_tableIn (tgt := 84) C.1 C.2.1 dX8_ifRun_52 (by decide) (by decide) rfl (by decide) ?_
            refine g_iload_n C hl dX8_ifRun_84 rfl ?_
            refine g_iret C hR hS dX8_ifRun_85 ?_
            unfold sIf
            rw [if_pos (gIw_ok hn1 hn2 (by decide)), if_pos (gIw_ok (by omega) hw2 (by decide)), if_neg (by omega), nI_clamp (by omega), nI_clamp (by omega)]
            exact ⟨rfl, aCm_1 hc _⟩
          · -- 52 case 1
            subst e9
            refine lv_tableIn (tgt := 86) C.1 C.2.1 dX8_ifRun_52 (by decide) (by decide) rfl (by decide) ?_
            refine g_aload_n C hl dX8_ifRun_86 rfl ?_
            refine gt_X8_1 C hR fl_X8_16 dX8_ifRun_87 ?_
            refine zgn_X4_5 C (by decide) hM hR fn_X8_110 dX8_ifRun_90 ?_
            refine g_iret C hR hS dX8_ifRun_93 ?_
            unfold sIf
            rw [if_pos (gIw_ok hn1 hn2 (by decide)), if_pos (gIw_ok (by omega) hw2 (by decide)), if_neg (by omega), nI_clamp (by omega), nI_clamp (by omega)]
            exact ⟨rfl, aCm_1 hc _⟩
          · -- 52 case 2
            subst e9
            refine lv_tableIn (tgt := 94) C.1 C.2.1 dX8_ifRun_52 (by decide) (by decide) rfl (by decide) ?_
            refine g_aload_n C hl dX8_ifRun_94 rfl ?_
            refine gt_X8_1 C hR fl_X8_16 dX8_ifRun_95 ?_
            refine zgn_X4_3 C (by decide) hM hR fn_X8_207 dX8_ifRun_98 ?_
            refine g_iret C hR hS dX8_ifRun_101 ?_
            unfold sIf
            rw [if_pos (gIw_ok hn1 hn2 (by decide)), if_pos (gIw_ok (by omega) hw2 (by decide)), if_neg (by omega), nI_clamp (by omega), nI_clamp (by omega)]
            exact ⟨rfl, aCm_1 hc _⟩
          · -- 52 case 3
            subst e9
            refine lv_tableIn (tgt := 102) C.1 C.2.1 dX8_ifRun_52 (by decide) (by decide) rfl (by decide) ?_
            refine g_aload_n C hl dX8_ifRun_102 rfl ?_
            refine gt_X8_1 C hR fl_X8_16 dX8_ifRun_103 ?_
            refine gn_X4_1 C (by decide) hR fn_X8_179 dX8_ifRun_106 ?_
            refine zgn_X2_1 C (by decide) hM hR fn_X8_194 dX8_ifRun_109 ?_
            refine g_iret C hR hS dX8_ifRun_112 ?_
            unfold sIf
            rw [if_pos (gIw_ok hn1 hn2 (by decide)), if_pos (gIw_ok (by omega) hw2 (by decide)), if_neg (by omega), nI_clamp (by omega), nI_clamp (by omega)]
            exact ⟨rfl, aCm_1 hc _⟩
        · -- 52 out
          have hsw2 : gIw (nI w) 0 3 = false := by simpa using hsw
          refine lv_tableOut (tgt := 113) C.1 C.2.1 dX8_ifRun_52 (gIw_out hsw2) (by decide) ?_
          refine g_aload_n C hl dX8_ifRun_113 rfl ?_
          refine gt_X8_1 C hR fl_X8_16 dX8_ifRun_114 ?_
          refine gn_X4_0 C (by decide) hR fn_X8_47 dX8_ifRun_117 ?_
          refine gn_X0_0 C (by decide) hR fn_X8_210 dX8_ifRun_120 ?_
          refine g_aload_n C hl dX8_ifRun_123 rfl ?_
          refine gt_X8_0 C hR fl_X8_10 dX8_ifRun_124 ?_
          refine gn_X4_0 C (by decide) hR fn_X8_47 dX8_ifRun_127 ?_
          refine gn_X0_0 C (by decide) hR fn_X8_210 dX8_ifRun_130 ?_
          refine g_callVi C hl.1 hR hS (rc_X5 (gRow_2 (k := 1) (by decide))) md_X5_differencesTo ml_X8_213 (c_X5_differencesTo l hI (gRow_2 (k := 1) (by decide)) (gRow_2 (k := 0) (by decide)) (fun i hi => by rw [fU_s, mR_arr hM mB_3 hi]; have := (zRun_I hz hg n).1.1 (0 + i) (by omega); omega) (fun i hi => by rw [fU_n _ _ (by decide), mR_arr hc.1 mB_3 hi]; have := hz.1 (0 + i) (by omega); omega)) rfl rfl ⟨Nat.le_of_ble_eq_true rfl, Nat.le_of_ble_eq_true rfl⟩ ⟨Nat.le_refl _, Nat.le_refl _⟩ (Nat.le_of_ble_eq_true rfl) dX8_ifRun_133 (fun H locs hR hS => ?_)
          refine g_iret C hR hS dX8_ifRun_136 ?_
          unfold sIf
          rw [if_pos (gIw_ok hn1 hn2 (by decide)), if_pos (gIw_ok (by omega) hw2 (by decide)), if_neg (by omega), nI_clamp (by omega), nI_clamp (by omega)]
          obtain rfl : w = 4 := by rcases gIw_out hsw2 with h9 | h9 <;> rw [nI_toInt (by omega)] at h9 <;> omega
          refine ⟨?_, aCm_1 hc _⟩
          have e1 : ∀ i, i < 100 → (fU mem 1 g) 1 3 i = zRun (aZ S) n i := fun i hi => by rw [fU_s, mR_arr hM mB_3 hi, Nat.zero_add i]
          have e2 : ∀ i, i < 100 → (fU mem 1 g) 0 3 i = aZ S i := fun i hi => by rw [fU_n _ _ (by decide), mR_arr hc.1 mB_3 hi, Nat.zero_add i]
          rw [gSum_cg (g := fun j => if zRun (aZ S) n j = aZ S j then 0 else 1) 100 (fun i hi => by rw [e1 i hi, e2 i hi])]
          rfl
      · -- 25 F
        refine g_bipushM (-4) C dX8_ifRun_28 (by decide) ?_
        refine g_iret C hR hS dX8_ifRun_30 ?_
        unfold sIf
        rw [if_pos (gIw_ok hn1 hn2 (by decide)), if_pos (gIw_ok (by omega) hw2 (by decide)), if_pos (by omega)]
        exact ⟨rfl, aCm_same hc⟩
    · -- 12 F
      refine g_bipushM (-2) C dX8_ifRun_15 (by decide) ?_
      refine g_iret C hR hS dX8_ifRun_17 ?_
      unfold sIf
      rw [if_neg (show ¬ gIw w 0 4 = true by rw [c12]; decide), ite_self]
      exact ⟨rfl, aCm_same hc⟩
