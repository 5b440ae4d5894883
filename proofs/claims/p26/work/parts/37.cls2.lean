theorem aCm_undo {S : aS} {mem m9 : gM} (hc : aCl S mem) (hp : hHi m9 (aN S - 1) (aH S) ∧ mR (m9 0) (aH S (aN S - 1)) ∧ (∀ k, (0 < k ∧ k < 3) ∨ 7 < k → m9 k = mem k) ∧ ∀ o, ¬ o = 1 → m9 7 o = mem 7 o) : aCm (aN S - 1, aH S, aH S (aN S - 1), aK S, aKz S, aL S, aT S) mem m9 := by
  obtain ⟨h1, h2, h3, h4, h5, t1, t2, t3, t4⟩ := hc
  obtain ⟨p1, p2, p3, p4⟩ := hp
  refine ⟨⟨p2, p1, ?_, h4, ?_, ?_, ?_, t3, t4⟩, fun k h9 => p3 k (Or.inr h9)⟩
  · rw [p4 0 (by decide)]; exact h3
  · rw [p3 2 (Or.inl (by decide))]; exact h5
  · rw [p4 3 (by decide)]; exact t1
  · rw [p4 4 (by decide)]; exact t2
set_option maxRecDepth 100000 in
set_option maxHeartbeats 4000000 in
/-- X8_lock -/
theorem c_X8_lock (l : Launch) {X : gX} (hI : gInj X) {mem : gM} {S : aS} {b : Int32} {v : Nat} (hv : v < 2) (hJ : aI S) (hc : aCl S mem) : gMt l yX8_lock cX8_lock 3 (some .int) 5 132 X [.ref (gAd X 7 0), .int b, .int (nI v)] mem (fun v9 m9 => v9 = some (.int (aLock S b v).1) ∧ aCm (aLock S b v).2 mem m9) := by
  refine gMt.of (own := RX8) (by decide) rfl hI (by simp [Value.category]) (Nat.le_of_ble_eq_true rfl) ?_
  intro p e s m args below meth c ls H locs C hnm hl hR hS
  have hz : zI (aZ S) := hJ.1.1
  have hg : zG (aZ S) := hJ.1.2.1
  have hB : aZ S 178 ≤ 999999 := hJ.1.2.2.1
  have hM : mR (mem 0) (aZ S) := hc.1
  have h115 := hz.2.2.2.2.2.2.1
  have h116 := hz.2.2.2.2.2.2.2.1
  rw [← fU_self mem 0] at hR
  refine g_iload_n C hl dX8_lock_0 rfl ?_
  refine g_bipush 8 C dX8_lock_1 (by decide) ?_
  refine g_callSi C hl.1 hR hS md_X8_isBelow ml_X8_43 (c_X8_isBelow l hI (hi := 7) (by decide)) rfl rfl ⟨Nat.le_of_ble_eq_true rfl, Nat.le_of_ble_eq_true rfl⟩ ⟨Nat.le_refl _, Nat.le_refl _⟩ (Nat.le_of_ble_eq_true rfl) dX8_lock_3 (fun H locs hR hS => ?_)
  refine g_ifv_ne (tgt := 11) C dX8_lock_6 (by decide) (by decide) (fun b eb hb1 hb2 => ?_) (fun c6 => ?_)
  · -- 6 T
    subst eb
    refine g_aload_n C hl dX8_lock_11 rfl ?_
    refine gt_X8_0 C hR fl_X8_10 dX8_lock_12 ?_
    refine gn_X4_0 C (by decide) hR fn_X8_47 dX8_lock_15 ?_
    refine g_iload_n C hl dX8_lock_18 rfl ?_
    refine g_callVi C hl.1 hR hS (rc_X0 (by decide)) md_X0_isAlone ml_X8_65 (c_X0_isAlone l hI (by decide) hM hz (show b < 8 by omega)) rfl rfl ⟨Nat.le_of_ble_eq_true rfl, Nat.le_of_ble_eq_true rfl⟩ ⟨Nat.le_refl _, Nat.le_refl _⟩ (Nat.le_of_ble_eq_true rfl) dX8_lock_19 (fun H locs hR hS => ?_)
    refine g_iload_n C hl dX8_lock_22 rfl ?_
    refine g_icmp_ne (tgt := 29) C dX8_lock_23 (by decide) (by have := hz.2.2.1 b (by omega); omega) (by have := hz.2.2.1 b (by omega); omega) (fun c23 => ?_) (fun c23 => ?_)
    · -- 23 T
      refine g_aload_n C hl dX8_lock_29 rfl ?_
      refine gt_X8_3 C hR fl_X8_25 dX8_lock_30 ?_
      refine g_aload_n C hl dX8_lock_33 rfl ?_
      refine gt_X8_0 C hR fl_X8_10 dX8_lock_34 ?_
      rw [fU_self] at hR
      refine g_callV C hl.1 hR hS rc_X3 md_X3_remember ml_X8_57 (c_X3_remember l hI hc.2.1 hM) rfl rfl ⟨Nat.le_of_ble_eq_true rfl, Nat.le_of_ble_eq_true rfl⟩ ⟨Nat.le_refl _, Nat.le_refl _⟩ (Nat.le_of_ble_eq_true rfl) dX8_lock_37 (fun v9 mem2 H locs hp hR hS => ?_)
      obtain ⟨e9, hp2⟩ := hp
      subst e9
      have hM2 : mR (mem2 0) (aZ S) := by
        rw [hp2.2.m (Or.inl (by decide))]
        exact hc.1
      have hM := hM2
      rw [← fU_self mem2 0] at hR
      refine g_aload_n C hl dX8_lock_40 rfl ?_
      refine gt_X8_0 C hR fl_X8_10 dX8_lock_41 ?_
      refine gn_X4_0 C (by decide) hR fn_X8_47 dX8_lock_44 ?_
      refine gn_X0_1 C (by decide) hR fn_X8_69 dX8_lock_47 ?_
      refine g_iload_n C hl dX8_lock_50 rfl ?_
      refine g_iload_n C hl dX8_lock_51 rfl ?_
      refine g_if_eq (tgt := 59) C dX8_lock_52 (by decide) (by omega) (fun c52 => ?_) (fun c52 => ?_)
      · -- 52 T
        refine g_iconst 0 C dX8_lock_59 (by decide) ?_
        obtain rfl : v = 0 := by omega
        refine g_callKv C hl.1 hR hS (rc_X5 (gRow_4 (by decide))) md_X5_write ml_X8_73 (c_zw l hI hM (gRow_4 (by decide)) mB_5 (show b < 8 by omega)) rfl rfl ⟨Nat.le_of_ble_eq_true rfl, Nat.le_of_ble_eq_true rfl⟩ ⟨Nat.le_refl _, Nat.le_refl _⟩ (Nat.le_of_ble_eq_true rfl) dX8_lock_60 (fun g hM H locs hR hS => ?_)
        refine g_aload_n C hl dX8_lock_63 rfl ?_
        refine gt_X8_0 C hR fl_X8_10 dX8_lock_64 ?_
        refine gn_X4_0 C (by decide) hR fn_X8_47 dX8_lock_67 ?_
        refine gn_X0_1 C (by decide) hR fn_X8_69 dX8_lock_70 ?_
        refine g_callVi C hl.1 hR hS (rc_X5 (gRow_4 (by decide))) md_X5_sum ml_X8_79 (c_X5_sum l hI (gRow_4 (by decide))) rfl rfl ⟨Nat.le_of_ble_eq_true rfl, Nat.le_of_ble_eq_true rfl⟩ ⟨Nat.le_refl _, Nat.le_refl _⟩ (Nat.le_of_ble_eq_true rfl) dX8_lock_73 (fun H locs hR hS => ?_)
        refine g_iret C hR hS dX8_lock_76 ?_
        rw [aLock_3 hb2 c23]
        refine ⟨?_, aCm_rec hc hp2 hM⟩
        rw [fU_s, gSum_cg (g := fun q => fU (aZ S) (104 + b) 0 (104 + q)) 8 (fun i hi => mR_arr hM mB_5 hi)]
      · -- 52 F
        refine g_iconst 1 C dX8_lock_55 (by decide) ?_
        obtain rfl : v = 1 := by omega
        refine g_goto (tgt := 60) C dX8_lock_56 (by decide) ?_
        refine g_callKv C hl.1 hR hS (rc_X5 (gRow_4 (by decide))) md_X5_write ml_X8_73 (c_zw l hI hM (gRow_4 (by decide)) mB_5 (show b < 8 by omega)) rfl rfl ⟨Nat.le_of_ble_eq_true rfl, Nat.le_of_ble_eq_true rfl⟩ ⟨Nat.le_refl _, Nat.le_refl _⟩ (Nat.le_of_ble_eq_true rfl) dX8_lock_60 (fun g hM H locs hR hS => ?_)
        refine g_aload_n C hl dX8_lock_63 rfl ?_
        refine gt_X8_0 C hR fl_X8_10 dX8_lock_64 ?_
        refine gn_X4_0 C (by decide) hR fn_X8_47 dX8_lock_67 ?_
        refine gn_X0_1 C (by decide) hR fn_X8_69 dX8_lock_70 ?_
        refine g_callVi C hl.1 hR hS (rc_X5 (gRow_4 (by decide))) md_X5_sum ml_X8_79 (c_X5_sum l hI (gRow_4 (by decide))) rfl rfl ⟨Nat.le_of_ble_eq_true rfl, Nat.le_of_ble_eq_true rfl⟩ ⟨Nat.le_refl _, Nat.le_refl _⟩ (Nat.le_of_ble_eq_true rfl) dX8_lock_73 (fun H locs hR hS => ?_)
        refine g_iret C hR hS dX8_lock_76 ?_
        rw [aLock_3 hb2 c23]
        refine ⟨?_, aCm_rec hc hp2 hM⟩
        rw [fU_s, gSum_cg (g := fun q => fU (aZ S) (104 + b) 1 (104 + q)) 8 (fun i hi => mR_arr hM mB_5 hi)]
    · -- 23 F
      refine g_bipushM (-5) C dX8_lock_26 (by decide) ?_
      refine g_iret C hR hS dX8_lock_28 ?_
      rw [aLock_2 hb2 c23]
      exact ⟨rfl, aCm_same hc⟩
  · -- 6 F
    refine g_iconstM (-1) C dX8_lock_9 (by decide) ?_
    refine g_iret C hR hS dX8_lock_10 ?_
    rw [aLock_1 c6]
    exact ⟨rfl, aCm_same hc⟩
set_option maxRecDepth 100000 in
set_option maxHeartbeats 4000000 in
/-- X8_undo -/
theorem c_X8_undo (l : Launch) {X : gX} (hI : gInj X) {mem : gM} {S : aS}  (hJ : aI S) (hc : aCl S mem) : gMt l yX8_undo cX8_undo 1 (some .int) 5 132 X [.ref (gAd X 7 0)] mem (fun v9 m9 => v9 = some (.int (aUndo S).1) ∧ aCm (aUndo S).2 mem m9) := by
  refine gMt.of (own := RX8) (by decide) rfl hI (by simp [Value.category]) (Nat.le_of_ble_eq_true rfl) ?_
  intro p e s m args below meth c ls H locs C hnm hl hR hS
  have hz : zI (aZ S) := hJ.1.1
  have hg : zG (aZ S) := hJ.1.2.1
  have hB : aZ S 178 ≤ 999999 := hJ.1.2.2.1
  have hM : mR (mem 0) (aZ S) := hc.1
  have h115 := hz.2.2.2.2.2.2.1
  have h116 := hz.2.2.2.2.2.2.2.1
  refine g_aload_n C hl dX8_undo_0 rfl ?_
  refine gt_X8_3 C hR fl_X8_25 dX8_undo_1 ?_
  refine gn_X3_1 C hR fn_X8_154 dX8_undo_4 ?_
  rw [hc.2.1.1]
  refine g_if_ne (tgt := 13) C dX8_undo_7 (by decide) (by have := hc.2.1.2.1; omega) (fun c7 => ?_) (fun c7 => ?_)
  · -- 7 T
    refine g_aload_n C hl dX8_undo_13 rfl ?_
    refine gt_X8_3 C hR fl_X8_25 dX8_undo_14 ?_
    refine g_aload_n C hl dX8_undo_17 rfl ?_
    refine gt_X8_0 C hR fl_X8_10 dX8_undo_18 ?_
    refine g_callV C hl.1 hR hS rc_X3 md_X3_bringBack ml_X8_155 (c_X3_bringBack l hI hc.2.1 (by omega)) rfl rfl ⟨Nat.le_of_ble_eq_true rfl, Nat.le_of_ble_eq_true rfl⟩ ⟨Nat.le_refl _, Nat.le_refl _⟩ (Nat.le_of_ble_eq_true rfl) dX8_undo_21 (fun v9 mem2 H locs hp hR hS => ?_)
    obtain ⟨e9, hp2⟩ := hp
    subst e9
    refine g_aload_n C hl dX8_undo_24 rfl ?_
    refine gt_X8_3 C hR fl_X8_25 dX8_undo_25 ?_
    refine gn_X3_1 C hR fn_X8_154 dX8_undo_28 ?_
    rw [hp2.1.1]
    refine g_iret C hR hS dX8_undo_31 ?_
    unfold aUndo
    rw [if_neg c7]
    exact ⟨rfl, aCm_undo hc hp2⟩
  · -- 7 F
    refine g_bipushM (-5) C dX8_undo_10 (by decide) ?_
    refine g_iret C hR hS dX8_undo_12 ?_
    unfold aUndo
    rw [if_pos c7]
    exact ⟨rfl, hc, fun _ _ => rfl⟩
set_option maxRecDepth 100000 in
set_option maxHeartbeats 4000000 in
/-- X8_restore -/
theorem c_X8_restore (l : Launch) {X : gX} (hI : gInj X) {mem : gM} {S : aS}  (hJ : aI S) (hc : aCl S mem) : gMt l yX8_restore cX8_restore 1 (some .int) 5 132 X [.ref (gAd X 7 0)] mem (fun v9 m9 => v9 = some (.int (aRest S).1) ∧ aCm (aRest S).2 mem m9) := by
  refine gMt.of (own := RX8) (by decide) rfl hI (by simp [Value.category]) (Nat.le_of_ble_eq_true rfl) ?_
  intro p e s m args below meth c ls H locs C hnm hl hR hS
  have hz : zI (aZ S) := hJ.1.1
  have hg : zG (aZ S) := hJ.1.2.1
  have hB : aZ S 178 ≤ 999999 := hJ.1.2.2.1
  have hM : mR (mem 0) (aZ S) := hc.1
  have h115 := hz.2.2.2.2.2.2.1
  have h116 := hz.2.2.2.2.2.2.2.1
  refine g_aload_n C hl dX8_restore_0 rfl ?_
  refine gt_X8_6 C hR fl_X8_161 dX8_restore_1 ?_
  rw [hc.2.2.1]
  refine g_if_ne (tgt := 10) C dX8_restore_4 (by decide) (by have := hc.2.2.2.1; omega) (fun c4 => ?_) (fun c4 => ?_)
  · -- 4 T
    refine g_aload_n C hl dX8_restore_10 rfl ?_
    refine gt_X8_3 C hR fl_X8_25 dX8_restore_11 ?_
    refine g_aload_n C hl dX8_restore_14 rfl ?_
    refine gt_X8_0 C hR fl_X8_10 dX8_restore_15 ?_
    refine g_callV C hl.1 hR hS rc_X3 md_X3_remember ml_X8_57 (c_X3_remember l hI hc.2.1 hM) rfl rfl ⟨Nat.le_of_ble_eq_true rfl, Nat.le_of_ble_eq_true rfl⟩ ⟨Nat.le_refl _, Nat.le_refl _⟩ (Nat.le_of_ble_eq_true rfl) dX8_restore_18 (fun v9 mem2 H locs hp hR hS => ?_)
    obtain ⟨e9, hp2⟩ := hp
    subst e9
    have hM2 : mR (mem2 0) (aZ S) := by
      rw [hp2.2.m (Or.inl (by decide))]
      exact hc.1
    have hM := hM2
    have hK : mR (mem2 2) (aKz S) := by
      rw [hp2.2.m (Or.inl (by decide))]
      exact hc.2.2.2.2.1 (by have := hc.2.2.2.1; omega)
    refine g_aload_n C hl dX8_restore_21 rfl ?_
    refine gt_X8_0 C hR fl_X8_10 dX8_restore_22 ?_
    refine g_aload_n C hl dX8_restore_25 rfl ?_
    refine gt_X8_2 C hR fl_X8_19 dX8_restore_26 ?_
    refine g_callKv C hl.1 hR hS (rc_X4 (by decide)) md_X4_copyFrom ml_X8_158 (c_X4_copyFrom l hI (k := 0) (k2 := 2) (by decide) (by decide) (by decide) hK) rfl rfl ⟨Nat.le_of_ble_eq_true rfl, Nat.le_of_ble_eq_true rfl⟩ ⟨Nat.le_refl _, Nat.le_refl _⟩ (Nat.le_of_ble_eq_true rfl) dX8_restore_29 (fun g hM H locs hR hS => ?_)
    refine g_aload_n C hl dX8_restore_32 rfl ?_
    refine gt_X8_0 C hR fl_X8_10 dX8_restore_33 ?_
    refine zgn_X4_4 C (by decide) hM hR fn_X8_100 dX8_restore_36 ?_
    refine g_iret C hR hS dX8_restore_39 ?_
    unfold aRest
    rw [if_neg c4]
    exact ⟨rfl, aCm_rec hc hp2 hM⟩
  · -- 4 F
    refine g_bipushM (-5) C dX8_restore_7 (by decide) ?_
    refine g_iret C hR hS dX8_restore_9 ?_
    unfold aRest
    rw [if_pos c4]
    exact ⟨rfl, hc, fun _ _ => rfl⟩
