/-! ===== FarBanks: what is told ===== -/
theorem lmin (a b : Nat) : min a b = if a ≤ b then a else b := rfl
set_option maxRecDepth 100000 in
set_option maxHeartbeats 4000000 in
/-- X8_cell -/
theorem c_X8_cell (l : Launch) {X : gX} (hI : gInj X) {mem : gM} {S : aS} {b c9 : Int32} (hJ : aI S) (hc : aCl S mem) : gMt l yX8_cell cX8_cell 3 (some .int) 2 43 X [.ref (gAd X 7 0), .int b, .int c9] mem (fun v9 m9 => v9 = some (.int (sCell (aZ S) b c9)) ∧ aCm S mem m9) := by
  refine gMt.of (own := RX8) (by decide) rfl hI (by simp [Value.category]) (Nat.le_of_ble_eq_true rfl) ?_
  intro p e s m args below meth c ls H locs C hnm hl hR hS
  have hz : zI (aZ S) := hJ.1.1
  have hg : zG (aZ S) := hJ.1.2.1
  have hB : aZ S 178 ≤ 999999 := hJ.1.2.2.1
  have hM : mR (mem 0) (aZ S) := hc.1
  have h115 := hz.2.2.2.2.2.2.1
  have h116 := hz.2.2.2.2.2.2.2.1
  rw [← fU_self mem 0] at hR
  refine g_iload_n C hl dX8_cell_0 rfl ?_
  refine g_bipush 8 C dX8_cell_1 (by decide) ?_
  refine g_callSi C hl.1 hR hS md_X8_isBelow ml_X8_43 (c_X8_isBelow l hI (hi := 7) (by decide)) rfl rfl ⟨Nat.le_of_ble_eq_true rfl, Nat.le_of_ble_eq_true rfl⟩ ⟨Nat.le_refl _, Nat.le_refl _⟩ (Nat.le_of_ble_eq_true rfl) dX8_cell_3 (fun H locs hR hS => ?_)
  refine g_ifv_eq (tgt := 18) C dX8_cell_6 (by decide) (by decide) (fun c6 => ?_) (fun b eb hb1 hb2 => ?_)
  · -- 6 T
    refine g_iconstM (-1) C dX8_cell_18 (by decide) ?_
    refine g_iret C hR hS dX8_cell_19 ?_
    unfold sCell
    rw [if_neg (by rw [c6]; decide)]
    exact ⟨rfl, aCm_same hc⟩
  · -- 6 F
    subst eb
    refine g_iload_n C hl dX8_cell_9 rfl ?_
    refine g_bipush 16 C dX8_cell_10 (by decide) ?_
    refine g_callSi C hl.1 hR hS md_X8_isBelow ml_X8_43 (c_X8_isBelow l hI (hi := 15) (by decide)) rfl rfl ⟨Nat.le_of_ble_eq_true rfl, Nat.le_of_ble_eq_true rfl⟩ ⟨Nat.le_refl _, Nat.le_refl _⟩ (Nat.le_of_ble_eq_true rfl) dX8_cell_12 (fun H locs hR hS => ?_)
    refine g_ifv_ne (tgt := 20) C dX8_cell_15 (by decide) (by decide) (fun c9 ec9 hc91 hc92 => ?_) (fun c15 => ?_)
    · -- 15 T
      subst ec9
      refine g_aload_n C hl dX8_cell_20 rfl ?_
      refine gt_X8_0 C hR fl_X8_10 dX8_cell_21 ?_
      refine gn_X4_0 C (by decide) hR fn_X8_47 dX8_cell_24 ?_
      refine g_iload_n C hl dX8_cell_27 rfl ?_
      refine g_iload_n C hl dX8_cell_28 rfl ?_
      refine g_callVi C hl.1 hR hS (rc_X0 (by decide)) md_X0_numberIn ml_X8_51 (c_X0_numberIn l hI (by decide) hM (show b < 8 by omega) (show c9 < 16 by omega)) rfl rfl ⟨Nat.le_of_ble_eq_true rfl, Nat.le_of_ble_eq_true rfl⟩ ⟨Nat.le_refl _, Nat.le_refl _⟩ (Nat.le_of_ble_eq_true rfl) dX8_cell_29 (fun H locs hR hS => ?_)
      refine g_iret C hR hS dX8_cell_32 ?_
      unfold sCell
      rw [if_pos (gIw_ok (by omega) hb2 (by decide)), if_pos (gIw_ok (by omega) hc92 (by decide)), nI_clamp (by omega), nI_clamp (by omega)]
      exact ⟨rfl, aCm_same hc⟩
    · -- 15 F
      refine g_iconstM (-1) C dX8_cell_18 (by decide) ?_
      refine g_iret C hR hS dX8_cell_19 ?_
      unfold sCell
      rw [if_neg (show ¬ gIw c9 0 15 = true by rw [c15]; decide), ite_self]
      exact ⟨rfl, aCm_same hc⟩
set_option maxRecDepth 100000 in
set_option maxHeartbeats 4000000 in
/-- X8_window -/
theorem c_X8_window (l : Launch) {X : gX} (hI : gInj X) {mem : gM} {S : aS} {w : Int32} (hJ : aI S) (hc : aCl S mem) : gMt l yX8_window cX8_window 2 (some .int) 1 21 X [.ref (gAd X 7 0), .int w] mem (fun v9 m9 => v9 = some (.int (sWin (aZ S) w)) ∧ aCm S mem m9) := by
  refine gMt.of (own := RX8) (by decide) rfl hI (by simp [Value.category]) (Nat.le_of_ble_eq_true rfl) ?_
  intro p e s m args below meth c ls H locs C hnm hl hR hS
  have hz : zI (aZ S) := hJ.1.1
  have hg : zG (aZ S) := hJ.1.2.1
  have hB : aZ S 178 ≤ 999999 := hJ.1.2.2.1
  have hM : mR (mem 0) (aZ S) := hc.1
  have h115 := hz.2.2.2.2.2.2.1
  have h116 := hz.2.2.2.2.2.2.2.1
  rw [← fU_self mem 0] at hR
  refine g_iload_n C hl dX8_window_0 rfl ?_
  refine g_iconst 4 C dX8_window_1 (by decide) ?_
  refine g_callSi C hl.1 hR hS md_X8_isBelow ml_X8_43 (c_X8_isBelow l hI (hi := 3) (by decide)) rfl rfl ⟨Nat.le_of_ble_eq_true rfl, Nat.le_of_ble_eq_true rfl⟩ ⟨Nat.le_refl _, Nat.le_refl _⟩ (Nat.le_of_ble_eq_true rfl) dX8_window_2 (fun H locs hR hS => ?_)
  refine g_ifv_eq (tgt := 25) C dX8_window_5 (by decide) (by decide) (fun c5 => ?_) (fun w ew hw1 hw2 => ?_)
  · -- 5 T
    refine g_iconstM (-1) C dX8_window_25 (by decide) ?_
    refine g_iret C hR hS dX8_window_26 ?_
    unfold sWin
    rw [if_neg (by rw [c5]; decide)]
    exact ⟨rfl, aCm_same hc⟩
  · -- 5 F
    subst ew
    refine g_aload_n C hl dX8_window_8 rfl ?_
    refine gt_X8_0 C hR fl_X8_10 dX8_window_9 ?_
    refine gn_X4_0 C (by decide) hR fn_X8_47 dX8_window_12 ?_
    refine gn_X0_2 C (by decide) hR fn_X8_83 dX8_window_15 ?_
    refine g_iload_n C hl dX8_window_18 rfl ?_
    refine g_callVi C hl.1 hR hS (rc_X5 (gRow_6 (by decide))) md_X5_read ml_X8_86 (c_zr l hI hM (gRow_6 (by decide)) mB_7 (show w < 4 by omega)) rfl rfl ⟨Nat.le_of_ble_eq_true rfl, Nat.le_of_ble_eq_true rfl⟩ ⟨Nat.le_refl _, Nat.le_refl _⟩ (Nat.le_of_ble_eq_true rfl) dX8_window_19 (fun H locs hR hS => ?_)
    refine g_goto (tgt := 26) C dX8_window_22 (by decide) ?_
    refine g_iret C hR hS dX8_window_26 ?_
    unfold sWin
    rw [if_pos (gIw_ok (by omega) hw2 (by decide)), nI_clamp (by omega)]
    exact ⟨rfl, aCm_same hc⟩
set_option maxRecDepth 100000 in
set_option maxHeartbeats 4000000 in
/-- X8_address -/
theorem c_X8_address (l : Launch) {X : gX} (hI : gInj X) {mem : gM} {S : aS} {ad w : Int32} (hJ : aI S) (hc : aCl S mem) : gMt l yX8_address cX8_address 3 (some .int) 3 67 X [.ref (gAd X 7 0), .int ad, .int w] mem (fun v9 m9 => v9 = some (.int (sAddr (aZ S) ad w)) ∧ aCm S mem m9) := by
  refine gMt.of (own := RX8) (by decide) rfl hI (by simp [Value.category]) (Nat.le_of_ble_eq_true rfl) ?_
  intro p e s m args below meth c ls H locs C hnm hl hR hS
  have hz : zI (aZ S) := hJ.1.1
  have hg : zG (aZ S) := hJ.1.2.1
  have hB : aZ S 178 ≤ 999999 := hJ.1.2.2.1
  have hM : mR (mem 0) (aZ S) := hc.1
  have h115 := hz.2.2.2.2.2.2.1
  have h116 := hz.2.2.2.2.2.2.2.1
  rw [← fU_self mem 0] at hR
  refine g_iload_n C hl dX8_address_0 rfl ?_
  refine g_bipush 64 C dX8_address_1 (by decide) ?_
  refine g_callSi C hl.1 hR hS md_X8_isBelow ml_X8_43 (c_X8_isBelow l hI (hi := 63) (by decide)) rfl rfl ⟨Nat.le_of_ble_eq_true rfl, Nat.le_of_ble_eq_true rfl⟩ ⟨Nat.le_refl _, Nat.le_refl _⟩ (Nat.le_of_ble_eq_true rfl) dX8_address_3 (fun H locs hR hS => ?_)
  refine g_ifv_ne (tgt := 11) C dX8_address_6 (by decide) (by decide) (fun ad ead had1 had2 => ?_) (fun c6 => ?_)
  · -- 6 T
    subst ead
    refine g_iload_n C hl dX8_address_11 rfl ?_
    by_cases hsw : gIw w 0 3 = true
    · -- 12 in
      obtain ⟨w9, e9, -, h9⟩ := gIw_t hsw (by decide)
      subst e9
      rcases (show w9 = 0 ∨ w9 = 1 ∨ w9 = 2 ∨ w9 = 3 by omega) with e9 | e9 | e9 | e9
      · -- 12 case 0
        subst e9
        refine lv_tableIn (tgt := 44) C.1 C.2.1 dX8_address_12 (by decide) (by decide) rfl (by decide) ?_
        refine g_aload_n C hl dX8_address_44 rfl ?_
        refine gt_X8_0 C hR fl_X8_10 dX8_address_45 ?_
        refine gn_X4_0 C (by decide) hR fn_X8_47 dX8_address_48 ?_
        refine g_iload_n C hl dX8_address_51 rfl ?_
        refine g_callVi C hl.1 hR hS (rc_X0 (by decide)) md_X0_numberAt ml_X8_164 (c_X0_numberAt l hI (by decide) hM hz (show ad < 64 by omega)) rfl rfl ⟨Nat.le_of_ble_eq_true rfl, Nat.le_of_ble_eq_true rfl⟩ ⟨Nat.le_refl _, Nat.le_refl _⟩ (Nat.le_of_ble_eq_true rfl) dX8_address_52 (fun H locs hR hS => ?_)
        refine g_iret C hR hS dX8_address_55 ?_
        unfold sAddr
        rw [if_pos (gIw_ok (by omega) had2 (by decide)), if_pos (gIw_ok (by omega) (by omega) (by decide)), nI_clamp (by omega), nI_clamp (by omega)]
        exact ⟨rfl, aCm_same hc⟩
      · -- 12 case 1
        subst e9
        refine lv_tableIn (tgt := 56) C.1 C.2.1 dX8_address_12 (by decide) (by decide) rfl (by decide) ?_
        refine g_aload_n C hl dX8_address_56 rfl ?_
        refine gt_X8_0 C hR fl_X8_10 dX8_address_57 ?_
        refine gn_X4_0 C (by decide) hR fn_X8_47 dX8_address_60 ?_
        refine g_iload_n C hl dX8_address_63 rfl ?_
        refine g_callVi C hl.1 hR hS (rc_X0 (by decide)) md_X0_bankAt ml_X8_167 (c_X0_bankAt l hI (by decide) hM (show ad < 64 by omega)) rfl rfl ⟨Nat.le_of_ble_eq_true rfl, Nat.le_of_ble_eq_true rfl⟩ ⟨Nat.le_refl _, Nat.le_refl _⟩ (Nat.le_of_ble_eq_true rfl) dX8_address_64 (fun H locs hR hS => ?_)
        refine g_iret C hR hS dX8_address_67 ?_
        unfold sAddr
        rw [if_pos (gIw_ok (by omega) had2 (by decide)), if_pos (gIw_ok (by omega) (by omega) (by decide)), nI_clamp (by omega), nI_clamp (by omega)]
        exact ⟨rfl, aCm_same hc⟩
      · -- 12 case 2
        subst e9
        refine lv_tableIn (tgt := 68) C.1 C.2.1 dX8_address_12 (by decide) (by decide) rfl (by decide) ?_
        refine g_iload_n C hl dX8_address_68 rfl ?_
        refine g_bipush 16 C dX8_address_69 (by decide) ?_
        refine g_irem C dX8_address_71 (by omega) (by decide) (by decide) ?_
        refine g_iret C hR hS dX8_address_72 ?_
        unfold sAddr
        rw [if_pos (gIw_ok (by omega) had2 (by decide)), if_pos (gIw_ok (by omega) (by omega) (by decide)), nI_clamp (by omega), nI_clamp (by omega)]
        exact ⟨rfl, aCm_same hc⟩
      · -- 12 case 3
        subst e9
        refine lv_tableIn (tgt := 73) C.1 C.2.1 dX8_address_12 (by decide) (by decide) rfl (by decide) ?_
        refine g_aload_n C hl dX8_address_73 rfl ?_
        refine gt_X8_0 C hR fl_X8_10 dX8_address_74 ?_
        refine gn_X4_0 C (by decide) hR fn_X8_47 dX8_address_77 ?_
        refine g_iload_n C hl dX8_address_80 rfl ?_
        refine g_callVi C hl.1 hR hS (rc_X0 (by decide)) md_X0_twinOf ml_X8_170 (c_X0_twinOf l hI (by decide) hM hz (show ad < 64 by omega)) rfl rfl ⟨Nat.le_of_ble_eq_true rfl, Nat.le_of_ble_eq_true rfl⟩ ⟨Nat.le_refl _, Nat.le_refl _⟩ (Nat.le_of_ble_eq_true rfl) dX8_address_81 (fun H locs hR hS => ?_)
        refine g_iret C hR hS dX8_address_84 ?_
        unfold sAddr
        rw [if_pos (gIw_ok (by omega) had2 (by decide)), if_pos (gIw_ok (by omega) (by omega) (by decide)), nI_clamp (by omega), nI_clamp (by omega)]
        exact ⟨rfl, aCm_same hc⟩
    · -- 12 out
      have hsw2 : gIw w 0 3 = false := by simpa using hsw
      refine lv_tableOut (tgt := 85) C.1 C.2.1 dX8_address_12 (gIw_out hsw2) (by decide) ?_
      refine g_bipushM (-2) C dX8_address_85 (by decide) ?_
      refine g_iret C hR hS dX8_address_87 ?_
      unfold sAddr
      rw [if_pos (gIw_ok (by omega) had2 (by decide)), if_neg (by rw [hsw2]; decide)]
      exact ⟨rfl, aCm_same hc⟩
  · -- 6 F
    refine g_iconstM (-1) C dX8_address_9 (by decide) ?_
    refine g_iret C hR hS dX8_address_10 ?_
    unfold sAddr
    rw [if_neg (by rw [c6]; decide)]
    exact ⟨rfl, aCm_same hc⟩
set_option maxRecDepth 100000 in
set_option maxHeartbeats 4000000 in
/-- X8_bank -/
theorem c_X8_bank (l : Launch) {X : gX} (hI : gInj X) {mem : gM} {S : aS} {b w : Int32} (hJ : aI S) (hc : aCl S mem) : gMt l yX8_bank cX8_bank 3 (some .int) 3 66 X [.ref (gAd X 7 0), .int b, .int w] mem (fun v9 m9 => v9 = some (.int (sBank (aZ S) b w)) ∧ aCm S mem m9) := by
  refine gMt.of (own := RX8) (by decide) rfl hI (by simp [Value.category]) (Nat.le_of_ble_eq_true rfl) ?_
  intro p e s m args below meth c ls H locs C hnm hl hR hS
  have hz : zI (aZ S) := hJ.1.1
  have hg : zG (aZ S) := hJ.1.2.1
  have hB : aZ S 178 ≤ 999999 := hJ.1.2.2.1
  have hM : mR (mem 0) (aZ S) := hc.1
  have h115 := hz.2.2.2.2.2.2.1
  have h116 := hz.2.2.2.2.2.2.2.1
  rw [← fU_self mem 0] at hR
  refine g_iload_n C hl dX8_bank_0 rfl ?_
  refine g_bipush 8 C dX8_bank_1 (by decide) ?_
  refine g_callSi C hl.1 hR hS md_X8_isBelow ml_X8_43 (c_X8_isBelow l hI (hi := 7) (by decide)) rfl rfl ⟨Nat.le_of_ble_eq_true rfl, Nat.le_of_ble_eq_true rfl⟩ ⟨Nat.le_refl _, Nat.le_refl _⟩ (Nat.le_of_ble_eq_true rfl) dX8_bank_3 (fun H locs hR hS => ?_)
  refine g_ifv_ne (tgt := 11) C dX8_bank_6 (by decide) (by decide) (fun b eb hb1 hb2 => ?_) (fun c6 => ?_)
  · -- 6 T
    subst eb
    refine g_iload_n C hl dX8_bank_11 rfl ?_
    by_cases hsw : gIw w 0 5 = true
    · -- 12 in
      obtain ⟨w9, e9, -, h9⟩ := gIw_t hsw (by decide)
      subst e9
      rcases (show w9 = 0 ∨ w9 = 1 ∨ w9 = 2 ∨ w9 = 3 ∨ w9 = 4 ∨ w9 = 5 by omega) with e9 | e9 | e9 | e9 | e9 | e9
      · -- 12 case 0
        subst e9
        refine lv_tableIn (tgt := 52) C.1 C.2.1 dX8_bank_12 (by decide) (by decide) rfl (by decide) ?_
        refine g_aload_n C hl dX8_bank_52 rfl ?_
        refine gt_X8_0 C hR fl_X8_10 dX8_bank_53 ?_
        refine gn_X4_0 C (by decide) hR fn_X8_47 dX8_bank_56 ?_
        refine gn_X0_1 C (by decide) hR fn_X8_69 dX8_bank_59 ?_
        refine g_iload_n C hl dX8_bank_62 rfl ?_
        refine g_callVi C hl.1 hR hS (rc_X5 (gRow_4 (by decide))) md_X5_read ml_X8_86 (c_zr l hI hM (gRow_4 (by decide)) mB_5 (show b < 8 by omega)) rfl rfl ⟨Nat.le_of_ble_eq_true rfl, Nat.le_of_ble_eq_true rfl⟩ ⟨Nat.le_refl _, Nat.le_refl _⟩ (Nat.le_of_ble_eq_true rfl) dX8_bank_63 (fun H locs hR hS => ?_)
        refine g_iret C hR hS dX8_bank_66 ?_
        unfold sBank
        rw [if_pos (gIw_ok (by omega) hb2 (by decide)), if_pos (gIw_ok (by omega) (by omega) (by decide)), nI_clamp (by omega), nI_clamp (by omega)]
        exact ⟨rfl, aCm_same hc⟩
      · -- 12 case 1
        subst e9
        refine lv_tableIn (tgt := 67) C.1 C.2.1 dX8_bank_12 (by decide) (by decide) rfl (by decide) ?_
        refine g_aload_n C hl dX8_bank_67 rfl ?_
        refine gt_X8_0 C hR fl_X8_10 dX8_bank_68 ?_
        refine gn_X4_0 C (by decide) hR fn_X8_47 dX8_bank_71 ?_
        refine g_iload_n C hl dX8_bank_74 rfl ?_
        refine g_callVi C hl.1 hR hS (rc_X0 (by decide)) md_X0_windowsOf ml_X8_173 (c_X0_windowsOf l hI (by decide) hM hz (show b < 8 by omega)) rfl rfl ⟨Nat.le_of_ble_eq_true rfl, Nat.le_of_ble_eq_true rfl⟩ ⟨Nat.le_refl _, Nat.le_refl _⟩ (Nat.le_of_ble_eq_true rfl) dX8_bank_75 (fun H locs hR hS => ?_)
        refine g_iret C hR hS dX8_bank_78 ?_
        unfold sBank
        rw [if_pos (gIw_ok (by omega) hb2 (by decide)), if_pos (gIw_ok (by omega) (by omega) (by decide)), nI_clamp (by omega), nI_clamp (by omega)]
        exact ⟨rfl, aCm_same hc⟩
      · -- 12 case 2
        subst e9
        refine lv_tableIn (tgt := 79) C.1 C.2.1 dX8_bank_12 (by decide) (by decide) rfl (by decide) ?_
        refine g_aload_n C hl dX8_bank_79 rfl ?_
        refine gt_X8_0 C hR fl_X8_10 dX8_bank_80 ?_
        refine gn_X4_0 C (by decide) hR fn_X8_47 dX8_bank_83 ?_
        refine g_iload_n C hl dX8_bank_86 rfl ?_
        refine g_callVi C hl.1 hR hS (rc_X0 (by decide)) md_X0_usedCellsOf ml_X8_176 (c_X0_usedCellsOf l hI (by decide) hM hz (show b < 8 by omega)) rfl rfl ⟨Nat.le_of_ble_eq_true rfl, Nat.le_of_ble_eq_true rfl⟩ ⟨Nat.le_refl _, Nat.le_refl _⟩ (Nat.le_of_ble_eq_true rfl) dX8_bank_87 (fun H locs hR hS => ?_)
        refine g_iret C hR hS dX8_bank_90 ?_
        unfold sBank
        rw [if_pos (gIw_ok (by omega) hb2 (by decide)), if_pos (gIw_ok (by omega) (by omega) (by decide)), nI_clamp (by omega), nI_clamp (by omega)]
        exact ⟨rfl, aCm_same hc⟩
      · -- 12 case 3
        subst e9
        refine lv_tableIn (tgt := 91) C.1 C.2.1 dX8_bank_12 (by decide) (by decide) rfl (by decide) ?_
        refine g_aload_n C hl dX8_bank_91 rfl ?_
        refine gt_X8_0 C hR fl_X8_10 dX8_bank_92 ?_
        refine gn_X4_1 C (by decide) hR fn_X8_179 dX8_bank_95 ?_
        refine g_iload_n C hl dX8_bank_98 rfl ?_
        refine g_callVi C hl.1 hR hS (rc_X2 (by decide)) md_X2_howManyBackTo ml_X8_183 (c_X2_howManyBackTo l hI (by decide) hM hz (show b < 8 by omega)) rfl rfl ⟨Nat.le_of_ble_eq_true rfl, Nat.le_of_ble_eq_true rfl⟩ ⟨Nat.le_refl _, Nat.le_refl _⟩ (Nat.le_of_ble_eq_true rfl) dX8_bank_99 (fun H locs hR hS => ?_)
        refine g_iret C hR hS dX8_bank_102 ?_
        unfold sBank
        rw [if_pos (gIw_ok (by omega) hb2 (by decide)), if_pos (gIw_ok (by omega) (by omega) (by decide)), nI_clamp (by omega), nI_clamp (by omega)]
        exact ⟨rfl, aCm_same hc⟩
      · -- 12 case 4
        subst e9
        refine lv_tableIn (tgt := 103) C.1 C.2.1 dX8_bank_12 (by decide) (by decide) rfl (by decide) ?_
        refine g_aload_n C hl dX8_bank_103 rfl ?_
        refine gt_X8_0 C hR fl_X8_10 dX8_bank_104 ?_
        refine gn_X4_0 C (by decide) hR fn_X8_47 dX8_bank_107 ?_
        refine gn_X0_3 C (by decide) hR fn_X8_188 dX8_bank_110 ?_
        refine g_iload_n C hl dX8_bank_113 rfl ?_
        refine g_callVi C hl.1 hR hS (rc_X5 (gRow_8 (by decide))) md_X5_read ml_X8_86 (c_zr l hI hM (gRow_8 (by decide)) mB_9 (show b < 8 by omega)) rfl rfl ⟨Nat.le_of_ble_eq_true rfl, Nat.le_of_ble_eq_true rfl⟩ ⟨Nat.le_refl _, Nat.le_refl _⟩ (Nat.le_of_ble_eq_true rfl) dX8_bank_114 (fun H locs hR hS => ?_)
        refine g_iret C hR hS dX8_bank_117 ?_
        unfold sBank
        rw [if_pos (gIw_ok (by omega) hb2 (by decide)), if_pos (gIw_ok (by omega) (by omega) (by decide)), nI_clamp (by omega), nI_clamp (by omega)]
        exact ⟨rfl, aCm_same hc⟩
      · -- 12 case 5
        subst e9
        refine lv_tableIn (tgt := 118) C.1 C.2.1 dX8_bank_12 (by decide) (by decide) rfl (by decide) ?_
        refine g_aload_n C hl dX8_bank_118 rfl ?_
        refine gt_X8_0 C hR fl_X8_10 dX8_bank_119 ?_
        refine gn_X4_0 C (by decide) hR fn_X8_47 dX8_bank_122 ?_
        refine gn_X0_4 C (by decide) hR fn_X8_191 dX8_bank_125 ?_
        refine g_iload_n C hl dX8_bank_128 rfl ?_
        refine g_callVi C hl.1 hR hS (rc_X5 (gRow_10 (by decide))) md_X5_read ml_X8_86 (c_zr l hI hM (gRow_10 (by decide)) mB_11 (show b < 8 by omega)) rfl rfl ⟨Nat.le_of_ble_eq_true rfl, Nat.le_of_ble_eq_true rfl⟩ ⟨Nat.le_refl _, Nat.le_refl _⟩ (Nat.le_of_ble_eq_true rfl) dX8_bank_129 (fun H locs hR hS => ?_)
        refine g_iret C hR hS dX8_bank_132 ?_
        unfold sBank
        rw [if_pos (gIw_ok (by omega) hb2 (by decide)), if_pos (gIw_ok (by omega) (by omega) (by decide)), nI_clamp (by omega), nI_clamp (by omega)]
        exact ⟨rfl, aCm_same hc⟩
    · -- 12 out
      have hsw2 : gIw w 0 5 = false := by simpa using hsw
      refine lv_tableOut (tgt := 133) C.1 C.2.1 dX8_bank_12 (gIw_out hsw2) (by decide) ?_
      refine g_bipushM (-2) C dX8_bank_133 (by decide) ?_
      refine g_iret C hR hS dX8_bank_135 ?_
      unfold sBank
      rw [if_pos (gIw_ok (by omega) hb2 (by decide)), if_neg (by rw [hsw2]; decide)]
      exact ⟨rfl, aCm_same hc⟩
  · -- 6 F
    refine g_iconstM (-1) C dX8_bank_9 (by decide) ?_
    refine g_iret C hR hS dX8_bank_10 ?_
    unfold sBank
    rw [if_neg (by rw [c6]; decide)]
    exact ⟨rfl, aCm_same hc⟩
set_option maxRecDepth 100000 in
set_option maxHeartbeats 4000000 in
/-- X8_count -/
theorem c_X8_count (l : Launch) {X : gX} (hI : gInj X) {mem : gM} {S : aS} {w : Int32} (hJ : aI S) (hc : aCl S mem) : gMt l yX8_count cX8_count 2 (some .int) 1 25 X [.ref (gAd X 7 0), .int w] mem (fun v9 m9 => v9 = some (.int (sCount S w)) ∧ aCm S mem m9) := by
  refine gMt.of (own := RX8) (by decide) rfl hI (by simp [Value.category]) (Nat.le_of_ble_eq_true rfl) ?_
  intro p e s m args below meth c ls H locs C hnm hl hR hS
  have hz : zI (aZ S) := hJ.1.1
  have hg : zG (aZ S) := hJ.1.2.1
  have hB : aZ S 178 ≤ 999999 := hJ.1.2.2.1
  have hM : mR (mem 0) (aZ S) := hc.1
  have h115 := hz.2.2.2.2.2.2.1
  have h116 := hz.2.2.2.2.2.2.2.1
  rw [← fU_self mem 0] at hR
  refine g_iload_n C hl dX8_count_0 rfl ?_
  by_cases hsw : gIw w 0 11 = true
  · -- 1 in
    obtain ⟨w9, e9, -, h9⟩ := gIw_t hsw (by decide)
    subst e9
    rcases (show w9 = 0 ∨ w9 = 1 ∨ w9 = 2 ∨ w9 = 3 ∨ w9 = 4 ∨ w9 = 5 ∨ w9 = 6 ∨ w9 = 7 ∨ w9 = 8 ∨ w9 = 9 ∨ w9 = 10 ∨ w9 = 11 by omega) with e9 | e9 | e9 | e9 | e9 | e9 | e9 | e9 | e9 | e9 | e9 | e9
    · -- 1 case 0
      subst e9
      refine lv_tableIn (tgt := 64) C.1 C.2.1 dX8_count_1 (by decide) (by decide) rfl (by decide) ?_
      refine g_aload_n C hl dX8_count_64 rfl ?_
      refine gt_X8_0 C hR fl_X8_10 dX8_count_65 ?_
      refine zgn_X4_3 C (by decide) hM hR fn_X8_207 dX8_count_68 ?_
      refine g_iret C hR hS dX8_count_71 ?_
      unfold sCount
      rw [if_pos (gIw_ok (by omega) (by omega) (by decide)), nI_clamp (by omega)]
      exact ⟨rfl, aCm_same hc⟩
    · -- 1 case 1
      subst e9
      refine lv_tableIn (tgt := 72) C.1 C.2.1 dX8_count_1 (by decide) (by decide) rfl (by decide) ?_
      refine g_aload_n C hl dX8_count_72 rfl ?_
      refine gt_X8_0 C hR fl_X8_10 dX8_count_73 ?_
      refine zgn_X4_4 C (by decide) hM hR fn_X8_100 dX8_count_76 ?_
      refine g_iret C hR hS dX8_count_79 ?_
      unfold sCount
      rw [if_pos (gIw_ok (by omega) (by omega) (by decide)), nI_clamp (by omega)]
      exact ⟨rfl, aCm_same hc⟩
    · -- 1 case 2
      subst e9
      refine lv_tableIn (tgt := 80) C.1 C.2.1 dX8_count_1 (by decide) (by decide) rfl (by decide) ?_
      refine g_aload_n C hl dX8_count_80 rfl ?_
      refine gt_X8_0 C hR fl_X8_10 dX8_count_81 ?_
      refine gn_X4_1 C (by decide) hR fn_X8_179 dX8_count_84 ?_
      refine zgn_X2_1 C (by decide) hM hR fn_X8_194 dX8_count_87 ?_
      refine g_iret C hR hS dX8_count_90 ?_
      unfold sCount
      rw [if_pos (gIw_ok (by omega) (by omega) (by decide)), nI_clamp (by omega)]
      exact ⟨rfl, aCm_same hc⟩
    · -- 1 case 3
      subst e9
      refine lv_tableIn (tgt := 91) C.1 C.2.1 dX8_count_1 (by decide) (by decide) rfl (by decide) ?_
      refine g_aload_n C hl dX8_count_91 rfl ?_
      refine gt_X8_0 C hR fl_X8_10 dX8_count_92 ?_
      refine zgn_X4_5 C (by decide) hM hR fn_X8_110 dX8_count_95 ?_
      refine g_iret C hR hS dX8_count_98 ?_
      unfold sCount
      rw [if_pos (gIw_ok (by omega) (by omega) (by decide)), nI_clamp (by omega)]
      exact ⟨rfl, aCm_same hc⟩
    · -- 1 case 4
      subst e9
      refine lv_tableIn (tgt := 99) C.1 C.2.1 dX8_count_1 (by decide) (by decide) rfl (by decide) ?_
      refine g_aload_n C hl dX8_count_99 rfl ?_
      refine gt_X8_0 C hR fl_X8_10 dX8_count_100 ?_
      refine gn_X4_2 C (by decide) hR fn_X8_113 dX8_count_103 ?_
      refine zgn_X7_1 C (by decide) hM hR fn_X8_117 dX8_count_106 ?_
      refine g_iret C hR hS dX8_count_109 ?_
      unfold sCount
      rw [if_pos (gIw_ok (by omega) (by omega) (by decide)), nI_clamp (by omega)]
      exact ⟨rfl, aCm_same hc⟩
    · -- 1 case 5
      subst e9
      refine lv_tableIn (tgt := 110) C.1 C.2.1 dX8_count_1 (by decide) (by decide) rfl (by decide) ?_
      refine g_aload_n C hl dX8_count_110 rfl ?_
      refine gt_X8_0 C hR fl_X8_10 dX8_count_111 ?_
      refine zgn_X4_7 C (by decide) hM hR fn_X8_217 dX8_count_114 ?_
      refine g_iret C hR hS dX8_count_117 ?_
      unfold sCount
      rw [if_pos (gIw_ok (by omega) (by omega) (by decide)), nI_clamp (by omega)]
      exact ⟨rfl, aCm_same hc⟩
    · -- 1 case 6
      subst e9
      refine lv_tableIn (tgt := 118) C.1 C.2.1 dX8_count_1 (by decide) (by decide) rfl (by decide) ?_
      refine g_aload_n C hl dX8_count_118 rfl ?_
      refine gt_X8_0 C hR fl_X8_10 dX8_count_119 ?_
      refine gn_X4_0 C (by decide) hR fn_X8_47 dX8_count_122 ?_
      refine gn_X0_3 C (by decide) hR fn_X8_188 dX8_count_125 ?_
      refine g_callVi C hl.1 hR hS (rc_X5 (gRow_8 (by decide))) md_X5_sum ml_X8_79 (c_X5_sum l hI (gRow_8 (by decide))) rfl rfl ⟨Nat.le_of_ble_eq_true rfl, Nat.le_of_ble_eq_true rfl⟩ ⟨Nat.le_refl _, Nat.le_refl _⟩ (Nat.le_of_ble_eq_true rfl) dX8_count_128 (fun H locs hR hS => ?_)
      refine g_iret C hR hS dX8_count_131 ?_
      unfold sCount
      rw [if_pos (gIw_ok (by omega) (by omega) (by decide)), nI_clamp (by omega)]
      rw [fU_s, gSum_cg (g := fun b => aZ S (182 + b)) 8 (fun i hi => mR_arr hM mB_9 hi), ← hJ.1.2.2.2.2.1]
      exact ⟨rfl, aCm_same hc⟩
    · -- 1 case 7
      subst e9
      refine lv_tableIn (tgt := 132) C.1 C.2.1 dX8_count_1 (by decide) (by decide) rfl (by decide) ?_
      refine g_aload_n C hl dX8_count_132 rfl ?_
      refine gt_X8_0 C hR fl_X8_10 dX8_count_133 ?_
      refine gn_X4_0 C (by decide) hR fn_X8_47 dX8_count_136 ?_
      refine gn_X0_4 C (by decide) hR fn_X8_191 dX8_count_139 ?_
      refine g_callVi C hl.1 hR hS (rc_X5 (gRow_10 (by decide))) md_X5_sum ml_X8_79 (c_X5_sum l hI (gRow_10 (by decide))) rfl rfl ⟨Nat.le_of_ble_eq_true rfl, Nat.le_of_ble_eq_true rfl⟩ ⟨Nat.le_refl _, Nat.le_refl _⟩ (Nat.le_of_ble_eq_true rfl) dX8_count_142 (fun H locs hR hS => ?_)
      refine g_iret C hR hS dX8_count_145 ?_
      unfold sCount
      rw [if_pos (gIw_ok (by omega) (by omega) (by decide)), nI_clamp (by omega)]
      rw [fU_s, gSum_cg (g := fun b => aZ S (190 + b)) 8 (fun i hi => mR_arr hM mB_11 hi), ← hJ.1.2.2.2.2.2]
      exact ⟨rfl, aCm_same hc⟩
    · -- 1 case 8
      subst e9
      refine lv_tableIn (tgt := 146) C.1 C.2.1 dX8_count_1 (by decide) (by decide) rfl (by decide) ?_
      refine g_aload_n C hl dX8_count_146 rfl ?_
      refine gt_X8_0 C hR fl_X8_10 dX8_count_147 ?_
      refine gn_X4_0 C (by decide) hR fn_X8_47 dX8_count_150 ?_
      refine gn_X0_1 C (by decide) hR fn_X8_69 dX8_count_153 ?_
      refine g_callVi C hl.1 hR hS (rc_X5 (gRow_4 (by decide))) md_X5_sum ml_X8_79 (c_X5_sum l hI (gRow_4 (by decide))) rfl rfl ⟨Nat.le_of_ble_eq_true rfl, Nat.le_of_ble_eq_true rfl⟩ ⟨Nat.le_refl _, Nat.le_refl _⟩ (Nat.le_of_ble_eq_true rfl) dX8_count_156 (fun H locs hR hS => ?_)
      refine g_iret C hR hS dX8_count_159 ?_
      unfold sCount
      rw [if_pos (gIw_ok (by omega) (by omega) (by decide)), nI_clamp (by omega)]
      rw [fU_s, gSum_cg (g := fun b => aZ S (104 + b)) 8 (fun i hi => mR_arr hM mB_5 hi)]
      exact ⟨rfl, aCm_same hc⟩
    · -- 1 case 9
      subst e9
      refine lv_tableIn (tgt := 160) C.1 C.2.1 dX8_count_1 (by decide) (by decide) rfl (by decide) ?_
      refine g_aload_n C hl dX8_count_160 rfl ?_
      refine gt_X8_0 C hR fl_X8_10 dX8_count_161 ?_
      refine zgn_X4_6 C (by decide) hM hR fn_X8_96 dX8_count_164 ?_
      refine g_iret C hR hS dX8_count_167 ?_
      unfold sCount
      rw [if_pos (gIw_ok (by omega) (by omega) (by decide)), nI_clamp (by omega)]
      exact ⟨rfl, aCm_same hc⟩
    · -- 1 case 10
      subst e9
      refine lv_tableIn (tgt := 168) C.1 C.2.1 dX8_count_1 (by decide) (by decide) rfl (by decide) ?_
      refine g_aload_n C hl dX8_count_168 rfl ?_
      refine gt_X8_3 C hR fl_X8_25 dX8_count_169 ?_
      refine gn_X3_1 C hR fn_X8_154 dX8_count_172 ?_
      rw [fU_n _ _ (show ¬ 7 = 0 by decide), hc.2.1.1]
      refine g_iret C hR hS dX8_count_175 ?_
      unfold sCount
      rw [if_pos (gIw_ok (by omega) (by omega) (by decide)), nI_clamp (by omega)]
      exact ⟨rfl, aCm_same hc⟩
    · -- 1 case 11
      subst e9
      refine lv_tableIn (tgt := 176) C.1 C.2.1 dX8_count_1 (by decide) (by decide) rfl (by decide) ?_
      refine g_aload_n C hl dX8_count_176 rfl ?_
      refine gt_X8_4 C hR fl_X8_32 dX8_count_177 ?_
      refine gn_X6_1 C hR fn_X8_134 dX8_count_180 ?_
      rw [fU_n _ _ (show ¬ 7 = 0 by decide), hc.2.2.2.2.2.1]
      refine g_iret C hR hS dX8_count_183 ?_
      unfold sCount
      rw [if_pos (gIw_ok (by omega) (by omega) (by decide)), nI_clamp (by omega)]
      exact ⟨rfl, aCm_same hc⟩
  · -- 1 out
    have hsw2 : gIw w 0 11 = false := by simpa using hsw
    refine lv_tableOut (tgt := 184) C.1 C.2.1 dX8_count_1 (gIw_out hsw2) (by decide) ?_
    refine g_bipushM (-2) C dX8_count_184 (by decide) ?_
    refine g_iret C hR hS dX8_count_186 ?_
    unfold sCount
    rw [if_neg (by rw [hsw2]; decide)]
    exact ⟨rfl, aCm_same hc⟩
set_option maxRecDepth 100000 in
set_option maxHeartbeats 4000000 in
/-- X8_frame -/
theorem c_X8_frame (l : Launch) {X : gX} (hI : gInj X) {mem : gM} {S : aS} {rk w : Int32} (hJ : aI S) (hc : aCl S mem) : gMt l yX8_frame cX8_frame 3 (some .int) 2 43 X [.ref (gAd X 7 0), .int rk, .int w] mem (fun v9 m9 => v9 = some (.int (sFrame (aZ S) rk w)) ∧ aCm S mem m9) := by
  refine gMt.of (own := RX8) (by decide) rfl hI (by simp [Value.category]) (Nat.le_of_ble_eq_true rfl) ?_
  intro p e s m args below meth c ls H locs C hnm hl hR hS
  have hz : zI (aZ S) := hJ.1.1
  have hg : zG (aZ S) := hJ.1.2.1
  have hB : aZ S 178 ≤ 999999 := hJ.1.2.2.1
  have hM : mR (mem 0) (aZ S) := hc.1
  have h115 := hz.2.2.2.2.2.2.1
  have h116 := hz.2.2.2.2.2.2.2.1
  rw [← fU_self mem 0] at hR
  have h141 := hz.2.2.2.2.2.2.2.2.2
  by_cases hneg : rk < 0
  · refine g_iload_n C hl dX8_frame_0 rfl ?_
    refine lv_if_lt (tgt := 12) C.1 C.2.1 dX8_frame_1 (by decide) (fun _ => ?_) (fun z9 => absurd hneg z9)
    refine g_bipushM (-2) C dX8_frame_12 (by decide) ?_
    refine g_iret C hR hS dX8_frame_14 ?_
    unfold sFrame
    rw [if_pos hneg]
    exact ⟨rfl, aCm_same hc⟩
  obtain ⟨j, hj, ej⟩ := nI_of hneg
  subst ej
  refine g_iload_n C hl dX8_frame_0 rfl ?_
  refine g_if_lt (tgt := 12) C dX8_frame_1 (by decide) (by omega) ?_
  refine g_iload_n C hl dX8_frame_4 rfl ?_
  refine g_iconst 3 C dX8_frame_5 (by decide) ?_
  refine g_callSi C hl.1 hR hS md_X8_isBelow ml_X8_43 (c_X8_isBelow l hI (hi := 2) (by decide)) rfl rfl ⟨Nat.le_of_ble_eq_true rfl, Nat.le_of_ble_eq_true rfl⟩ ⟨Nat.le_refl _, Nat.le_refl _⟩ (Nat.le_of_ble_eq_true rfl) dX8_frame_6 (fun H locs hR hS => ?_)
  refine g_ifv_ne (tgt := 15) C dX8_frame_9 (by decide) (by decide) (fun w ew hw1 hw2 => ?_) (fun c9 => ?_)
  · -- 9 T
    subst ew
    refine g_iload_n C hl dX8_frame_15 rfl ?_
    refine g_aload_n C hl dX8_frame_16 rfl ?_
    refine gt_X8_0 C hR fl_X8_10 dX8_frame_17 ?_
    refine gn_X4_1 C (by decide) hR fn_X8_179 dX8_frame_20 ?_
    refine zgn_X2_1 C (by decide) hM hR fn_X8_194 dX8_frame_23 ?_
    refine g_icmp_lt (tgt := 32) C dX8_frame_26 (by decide) (by omega) (by omega) (fun c26 => ?_) (fun c26 => ?_)
    · -- 26 T
      refine g_aload_n C hl dX8_frame_32 rfl ?_
      refine gt_X8_0 C hR fl_X8_10 dX8_frame_33 ?_
      refine gn_X4_1 C (by decide) hR fn_X8_179 dX8_frame_36 ?_
      refine g_iload_n C hl dX8_frame_39 rfl ?_
      refine g_iload_n C hl dX8_frame_40 rfl ?_
      refine g_callVi C hl.1 hR hS (rc_X2 (by decide)) md_X2_tell ml_X8_195 (c_X2_tell l hI (by decide) hM (show aZ S 116 ≤ 8 by omega) (show j < aZ S 116 by omega) (show w < 3 by omega)) rfl rfl ⟨Nat.le_of_ble_eq_true rfl, Nat.le_of_ble_eq_true rfl⟩ ⟨Nat.le_refl _, Nat.le_refl _⟩ (Nat.le_of_ble_eq_true rfl) dX8_frame_41 (fun H locs hR hS => ?_)
      refine g_iret C hR hS dX8_frame_44 ?_
      unfold sFrame
      rw [if_neg hneg, if_pos (gIw_ok (by omega) hw2 (by decide)), nI_clamp (by omega), nI_clamp (by omega)]
      first | rw [if_pos (by omega)] | rw [if_neg (by omega)]
      exact ⟨rfl, aCm_same hc⟩
    · -- 26 F
      refine g_bipushM (-5) C dX8_frame_29 (by decide) ?_
      refine g_iret C hR hS dX8_frame_31 ?_
      unfold sFrame
      rw [if_neg hneg, if_pos (gIw_ok (by omega) hw2 (by decide)), nI_clamp (by omega), nI_clamp (by omega)]
      first | rw [if_pos (by omega)] | rw [if_neg (by omega)]
      exact ⟨rfl, aCm_same hc⟩
  · -- 9 F
    refine g_bipushM (-2) C dX8_frame_12 (by decide) ?_
    refine g_iret C hR hS dX8_frame_14 ?_
    unfold sFrame
    rw [if_neg hneg, if_neg (by rw [c9]; decide)]
    exact ⟨rfl, aCm_same hc⟩
set_option maxRecDepth 100000 in
set_option maxHeartbeats 4000000 in
/-- X8_latest -/
theorem c_X8_latest (l : Launch) {X : gX} (hI : gInj X) {mem : gM} {S : aS} {rk w : Int32} (hJ : aI S) (hc : aCl S mem) : gMt l yX8_latest cX8_latest 3 (some .int) 2 43 X [.ref (gAd X 7 0), .int rk, .int w] mem (fun v9 m9 => v9 = some (.int (sLate (aZ S) rk w)) ∧ aCm S mem m9) := by
  refine gMt.of (own := RX8) (by decide) rfl hI (by simp [Value.category]) (Nat.le_of_ble_eq_true rfl) ?_
  intro p e s m args below meth c ls H locs C hnm hl hR hS
  have hz : zI (aZ S) := hJ.1.1
  have hg : zG (aZ S) := hJ.1.2.1
  have hB : aZ S 178 ≤ 999999 := hJ.1.2.2.1
  have hM : mR (mem 0) (aZ S) := hc.1
  have h115 := hz.2.2.2.2.2.2.1
  have h116 := hz.2.2.2.2.2.2.2.1
  rw [← fU_self mem 0] at hR
  have h141 := hz.2.2.2.2.2.2.2.2.2
  have hmin : aZ S 141 = min (aZ S 178) 12 := hM.2.1
  have e12 : (if nI 12 < nI (aZ S 178) then nI 12 else nI (aZ S 178)) = nI (aZ S 141) := by
    by_cases h9 : 12 < aZ S 178
    · rw [if_pos ((nI_ltI (by decide) (by omega)).mpr h9), hmin, Nat.min_eq_right (by omega)]
    · rw [if_neg (fun z9 => h9 ((nI_ltI (by decide) (by omega)).mp z9)), hmin, Nat.min_eq_left (by omega)]
  by_cases hneg : rk < 0
  · refine g_iload_n C hl dX8_latest_0 rfl ?_
    refine lv_if_lt (tgt := 12) C.1 C.2.1 dX8_latest_1 (by decide) (fun _ => ?_) (fun z9 => absurd hneg z9)
    refine g_bipushM (-2) C dX8_latest_12 (by decide) ?_
    refine g_iret C hR hS dX8_latest_14 ?_
    unfold sLate
    rw [if_pos hneg]
    exact ⟨rfl, aCm_same hc⟩
  obtain ⟨j, hj, ej⟩ := nI_of hneg
  subst ej
  refine g_iload_n C hl dX8_latest_0 rfl ?_
  refine g_if_lt (tgt := 12) C dX8_latest_1 (by decide) (by omega) ?_
  refine g_iload_n C hl dX8_latest_4 rfl ?_
  refine g_iconst 3 C dX8_latest_5 (by decide) ?_
  refine g_callSi C hl.1 hR hS md_X8_isBelow ml_X8_43 (c_X8_isBelow l hI (hi := 2) (by decide)) rfl rfl ⟨Nat.le_of_ble_eq_true rfl, Nat.le_of_ble_eq_true rfl⟩ ⟨Nat.le_refl _, Nat.le_refl _⟩ (Nat.le_of_ble_eq_true rfl) dX8_latest_6 (fun H locs hR hS => ?_)
  refine g_ifv_ne (tgt := 15) C dX8_latest_9 (by decide) (by decide) (fun w ew hw1 hw2 => ?_) (fun c9 => ?_)
  · -- 9 T
    subst ew
    refine g_iload_n C hl dX8_latest_15 rfl ?_
    refine g_aload_n C hl dX8_latest_16 rfl ?_
    refine gt_X8_0 C hR fl_X8_10 dX8_latest_17 ?_
    refine gn_X4_2 C (by decide) hR fn_X8_113 dX8_latest_20 ?_
    refine zgn_X7_1 C (by decide) hM hR fn_X8_117 dX8_latest_23 ?_
    refine g_bipush 12 C dX8_latest_26 (by decide) ?_
    refine va_mmin C.1 C.2.1 (C.2.2.2.1.trans hl.1.symm) C.2.2.2.2.1 (C.2.2.2.2.2.1 _ ml_X8_198) (C.2.2.2.2.2.1 _ st_min) (C.2.2.2.2.2.1 _ in_J9) (C.2.2.2.2.2.1 _ co_min) (Nat.le_of_ble_eq_true rfl) (Nat.le_of_ble_eq_true rfl) (cells := 0) (slots := 0) (Nat.le_refl 0) (Nat.le_refl 0) dX8_latest_28 ?_
    rw [e12]
    refine g_icmp_lt (tgt := 37) C dX8_latest_31 (by decide) (by omega) (by omega) (fun c31 => ?_) (fun c31 => ?_)
    · -- 31 T
      refine g_aload_n C hl dX8_latest_37 rfl ?_
      refine gt_X8_0 C hR fl_X8_10 dX8_latest_38 ?_
      refine gn_X4_2 C (by decide) hR fn_X8_113 dX8_latest_41 ?_
      refine g_iload_n C hl dX8_latest_44 rfl ?_
      refine g_iload_n C hl dX8_latest_45 rfl ?_
      refine g_callVi C hl.1 hR hS (rc_X7 (by decide)) md_X7_tell ml_X8_203 (c_X7_tell l hI (by decide) hM (show aZ S 178 < 2 ^ 31 by omega) (show j < aZ S 141 by omega) (show w < 3 by omega)) rfl rfl ⟨Nat.le_of_ble_eq_true rfl, Nat.le_of_ble_eq_true rfl⟩ ⟨Nat.le_refl _, Nat.le_refl _⟩ (Nat.le_of_ble_eq_true rfl) dX8_latest_46 (fun H locs hR hS => ?_)
      refine g_iret C hR hS dX8_latest_49 ?_
      unfold sLate
      rw [if_neg hneg, if_pos (gIw_ok (by omega) hw2 (by decide)), nI_clamp (by omega), nI_clamp (by omega)]
      first | rw [if_pos (by omega)] | rw [if_neg (by omega)]
      exact ⟨rfl, aCm_same hc⟩
    · -- 31 F
      refine g_bipushM (-5) C dX8_latest_34 (by decide) ?_
      refine g_iret C hR hS dX8_latest_36 ?_
      unfold sLate
      rw [if_neg hneg, if_pos (gIw_ok (by omega) hw2 (by decide)), nI_clamp (by omega), nI_clamp (by omega)]
      first | rw [if_pos (by omega)] | rw [if_neg (by omega)]
      exact ⟨rfl, aCm_same hc⟩
  · -- 9 F
    refine g_bipushM (-2) C dX8_latest_12 (by decide) ?_
    refine g_iret C hR hS dX8_latest_14 ?_
    unfold sLate
    rw [if_neg hneg, if_neg (by rw [c9]; decide)]
    exact ⟨rfl, aCm_same hc⟩
