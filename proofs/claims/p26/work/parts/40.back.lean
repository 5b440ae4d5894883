/-! ===== FarBanks: backIn ===== -/
set_option maxRecDepth 100000 in
set_option maxHeartbeats 4000000 in
/-- X8_backIn -/
theorem c_X8_backIn (l : Launch) {X : gX} (hI : gInj X) {mem : gM} {S : aS}  (hJ : aI S) (hc : aCl S mem) : gMt l yX8_backIn cX8_backIn 3 (some .int) 5 115 X [.ref (gAd X 7 0)] mem (fun v9 m9 => v9 = some (.int (sBack (aZ S))) ∧ aCm S mem m9) := by
  refine gMt.of (own := RX8) (by decide) rfl hI (by simp [Value.category]) (Nat.le_of_ble_eq_true rfl) ?_
  intro p e s m args below meth c ls H locs C hnm hl hR hS
  have hz : zI (aZ S) := hJ.1.1
  have hg : zG (aZ S) := hJ.1.2.1
  have hB : aZ S 178 ≤ 999999 := hJ.1.2.2.1
  have hM : mR (mem 0) (aZ S) := hc.1
  have h115 := hz.2.2.2.2.2.2.1
  have h116 := hz.2.2.2.2.2.2.2.1
  rw [← fU_self mem 0] at hR
  have loop : ∀ (d i : Nat), i + d = 500 → zBack (aZ S) i = 0 → ∀ (ls : Array Slot) (H : Heap) (locs : List Loc) (g : Nat → Nat → Nat), mR g (zRun (aZ S) i) → gL ls [some (.ref (gAd X 7 0)), some (.int (nI (aZ S 116))), some (.int (nI (i + 1)))] → gRep X (fU mem 1 g) H → va_S (gA X) s.heap H locs → W p l e { frames := 5, cells := 0, slots := 0, locals := 115 } s m args below meth c H locs 0 0 (MQ below (gQ X (fun v9 m9 => v9 = some (.int (sBack (aZ S))) ∧ aCm S mem m9)) args s 0 0 (gA X)) (F0 m 31 ls []) := by
    intro d
    induction d with
    | zero =>
      intro i hi hb ls H locs g hM hl hR hS
      obtain rfl : i = 500 := by omega
      have hb5 := hb
      refine g_iload_n C hl dX8_backIn_31 rfl ?_
      refine g_sipush 500 C dX8_backIn_32 (by decide) ?_
      refine g_icmp_gt (tgt := 77) C dX8_backIn_35 (by decide) (by omega) (by omega) (fun c35 => ?_) (fun z9 => absurd z9 (by omega))
      refine g_bipushM (-5) C dX8_backIn_77 (by decide) ?_
      refine g_iret C hR hS dX8_backIn_79 ?_
      unfold sBack
      rw [if_pos hb5]
      exact ⟨rfl, aCm_1 hc _⟩
    | succ d ih =>
      intro i hi hb ls H locs g hM hl hR hS
      obtain ⟨hzi, hgi⟩ := zRun_I hz hg i
      have b115 := hzi.2.2.2.2.2.2.1
      have b178 := zRun_178 hz hg i
      refine g_iload_n C hl dX8_backIn_31 rfl ?_
      refine g_sipush 500 C dX8_backIn_32 (by decide) ?_
      refine g_icmp_gt (tgt := 77) C dX8_backIn_35 (by decide) (by omega) (by omega) (fun z9 => absurd z9 (by omega)) (fun c35 => ?_)
      refine g_aload_n C hl dX8_backIn_38 rfl ?_
      refine gt_X8_1 C hR fl_X8_16 dX8_backIn_39 ?_
      refine zgn_X4_5 C (by decide) hM hR fn_X8_110 dX8_backIn_42 ?_
      refine g_if_ne (tgt := 77) C dX8_backIn_45 (by decide) (by omega) (fun c45 => ?_) (fun c45 => ?_)
      · -- 45 T
        refine g_bipushM (-5) C dX8_backIn_77 (by decide) ?_
        refine g_iret C hR hS dX8_backIn_79 ?_
        have hb5 := zBack_st hb c45 (500 - i)
        rw [show i + (500 - i) = 500 by omega] at hb5
        unfold sBack
        rw [if_pos hb5]
        exact ⟨rfl, aCm_1 hc _⟩
      · -- 45 F
        refine g_aload_n C hl dX8_backIn_48 rfl ?_
        refine gt_X8_1 C hR fl_X8_16 dX8_backIn_49 ?_
        refine g_callKv C hl.1 hR hS (rc_X4 (by decide)) md_X4_step ml_X8_204 (c_X4_step l hI (k := 1) (by decide) hM hzi (hgi c45) (by omega)) rfl rfl ⟨Nat.le_of_ble_eq_true rfl, Nat.le_of_ble_eq_true rfl⟩ ⟨Nat.le_refl _, Nat.le_refl _⟩ (Nat.le_of_ble_eq_true rfl) dX8_backIn_52 (fun g hM H locs hR hS => ?_)
        have e1 : zRun (aZ S) (i + 1) = zStep (zRun (aZ S) i) := if_pos c45
        rw [← e1] at hM
        refine g_aload_n C hl dX8_backIn_55 rfl ?_
        refine gt_X8_1 C hR fl_X8_16 dX8_backIn_56 ?_
        refine gn_X4_1 C (by decide) hR fn_X8_179 dX8_backIn_59 ?_
        refine zgn_X2_1 C (by decide) hM hR fn_X8_194 dX8_backIn_62 ?_
        refine g_iload_n C hl dX8_backIn_65 rfl ?_
        refine g_icmp_ge (tgt := 71) C dX8_backIn_66 (by decide) (by have := (zRun_I hz hg (i + 1)).1.2.2.2.2.2.2.2.1; omega) (by have := (zRun_I hz hg (i + 1)).1.2.2.2.2.2.2.2.1; omega) (fun c66 => ?_) (fun c66 => ?_)
        · -- 66 T
          refine g_iinc (k := 1) C hl dX8_backIn_71 rfl (by decide) (fun ls hl => ?_)
          refine g_goto (tgt := 31) C dX8_backIn_74 (by decide) ?_
          exact ih (i + 1) (by omega) (zBack_0 hb c45 (by omega)) ls H locs g hM hl hR hS
        · -- 66 F
          refine g_iload_n C hl dX8_backIn_69 rfl ?_
          refine g_iret C hR hS dX8_backIn_70 ?_
          have hb5 := zBack_1 hb c45 c66 (500 - (i + 1))
          rw [show i + 1 + (500 - (i + 1)) = 500 by omega] at hb5
          unfold sBack
          rw [if_neg (by omega), hb5]
          exact ⟨rfl, aCm_1 hc _⟩
  refine g_aload_n C hl dX8_backIn_0 rfl ?_
  refine gt_X8_0 C hR fl_X8_10 dX8_backIn_1 ?_
  refine gn_X4_1 C (by decide) hR fn_X8_179 dX8_backIn_4 ?_
  refine zgn_X2_1 C (by decide) hM hR fn_X8_194 dX8_backIn_7 ?_
  refine g_istore_n C hl dX8_backIn_10 (Nat.le_of_ble_eq_true rfl) (fun ls hl => ?_)
  refine g_iload_n C hl dX8_backIn_11 rfl ?_
  refine g_if_ne (tgt := 18) C dX8_backIn_12 (by decide) (by omega) (fun c12 => ?_) (fun c12 => ?_)
  · -- 12 T
    refine g_aload_n C hl dX8_backIn_18 rfl ?_
    refine gt_X8_1 C hR fl_X8_16 dX8_backIn_19 ?_
    refine g_aload_n C hl dX8_backIn_22 rfl ?_
    refine gt_X8_0 C hR fl_X8_10 dX8_backIn_23 ?_
    rw [fU_self] at hR
    refine g_callKv C hl.1 hR hS (rc_X4 (by decide)) md_X4_copyFrom ml_X8_158 (c_X4_copyFrom l hI (k := 1) (k2 := 0) (by decide) (by decide) (by decide) hM) rfl rfl ⟨Nat.le_of_ble_eq_true rfl, Nat.le_of_ble_eq_true rfl⟩ ⟨Nat.le_refl _, Nat.le_refl _⟩ (Nat.le_of_ble_eq_true rfl) dX8_backIn_26 (fun g hM H locs hR hS => ?_)
    refine g_iconst 1 C dX8_backIn_29 (by decide) ?_
    refine g_istore_n C hl dX8_backIn_30 (Nat.le_of_ble_eq_true rfl) (fun ls hl => ?_)
    exact loop 500 0 (by omega) rfl _ _ _ g hM hl hR hS
  · -- 12 F
    refine g_bipushM (-5) C dX8_backIn_15 (by decide) ?_
    refine g_iret C hR hS dX8_backIn_17 ?_
    unfold sBack
    rw [if_pos (zBack_no c12 500)]
    exact ⟨rfl, aCm_same hc⟩
