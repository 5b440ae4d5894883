/-! ===== FarBanks: what a call leaves ===== -/
def aCl (S : aS) (mem : gM) : Prop := mR (mem 0) (aZ S) ∧ hHi mem (aN S) (aH S) ∧ mem 7 0 6 = aK S ∧ aK S < 2 ∧ (aK S = 1 → mR (mem 2) (aKz S)) ∧ hTx mem (aL S) (aT S)
def aCm (S : aS) (mem m9 : gM) : Prop := aCl S m9 ∧ ∀ k, 7 < k → m9 k = mem k
theorem aCm_same {S : aS} {mem : gM} (hc : aCl S mem) : aCm S mem (fU mem 0 (mem 0)) := by
  rw [fU_self]
  exact ⟨hc, fun _ _ => rfl⟩
theorem hHi_f {mem : gM} {n : Nat} {h : Nat → Nat → Nat} {k : Nat} (g : Nat → Nat → Nat) (hh : hHi mem n h) (hk : k < 3) : hHi (fU mem k g) n h := by
  obtain ⟨h1, h2, h3, h4, h5⟩ := hh
  have e7 : fU mem k g 7 = mem 7 := fU_n _ _ (by omega)
  unfold hHi
  rw [e7]
  refine ⟨h1, h2, h3, h4, fun i hi => ?_⟩
  have := h3 i (by omega)
  rw [fU_n _ _ (by omega)]
  exact h5 i hi
theorem hTx_f {mem : gM} {n : Nat} {t : Nat → Nat} {k : Nat} (g : Nat → Nat → Nat) (hh : hTx mem n t) (hk : k < 3) : hTx (fU mem k g) n t := by
  unfold hTx
  rw [fU_n _ _ (show ¬ 7 = k by omega)]
  exact hh
theorem aCm_1 {S : aS} {mem : gM} (hc : aCl S mem) (g : Nat → Nat → Nat) : aCm S mem (fU mem 1 g) := by
  obtain ⟨h1, h2, h3, h4, h5, h6⟩ := hc
  refine ⟨⟨?_, hHi_f g h2 (by decide), ?_, h4, fun z => ?_, hTx_f g h6 (by decide)⟩, fun _ h9 => fU_n _ _ (by omega)⟩
  · rw [fU_n _ _ (by decide)]; exact h1
  · rw [fU_n _ _ (show ¬ 7 = 1 by decide)]; exact h3
  · rw [fU_n _ _ (by decide)]; exact h5 z
theorem aCm_rec {S : aS} {mem m2 : gM} {g : Nat → Nat → Nat} {z : Nat → Nat} (hc : aCl S mem) (hp : hHi m2 (rN (aN S)) (aHr (aN S) (aH S) (aZ S)) ∧ hFr mem m2) (hM : mR g z) : aCm (aPz (aRec S) z) mem (fU m2 0 g) := by
  obtain ⟨h1, h2, h3, h4, h5, h6⟩ := hc
  obtain ⟨p1, p2⟩ := hp
  refine ⟨⟨?_, hHi_f g p1 (by decide), ?_, h4, fun z => ?_, hTx_f g ?_ (by decide)⟩, ?_⟩
  · rw [fU_s]; exact hM
  · rw [fU_n _ _ (show ¬ 7 = 0 by decide), p2.2 0 (by decide) (by decide)]; exact h3
  · rw [fU_n _ _ (by decide), p2.1 2 (Or.inl (by decide))]; exact h5 z
  · obtain ⟨t1, t2, t3, t4⟩ := h6
    exact ⟨by rw [p2.2 3 (by decide) (by decide)]; exact t1, by rw [p2.2 4 (by decide) (by decide)]; exact t2, t3, t4⟩
  · intro k h9
    rw [fU_n _ _ (by omega), p2.1 k (Or.inr h9)]
set_option maxRecDepth 100000 in
set_option maxHeartbeats 4000000 in
/-- isBelow -/
theorem c_X8_isBelow (l : Launch) {X : gX} (hI : gInj X) {mem : gM} {v : Int32} {hi : Nat} (hh : hi + 1 < 2 ^ 31) : gF l yX8_isBelow cX8_isBelow 2 (some .boolean) 0 0 X [.int v, .int (nI (hi + 1))] mem (some (.int (nI (gb (gIw v 0 hi = true))))) mem := by
  refine gMt.of (own := RX8) (by decide) rfl hI (by simp [Value.category]) (Nat.le_of_ble_eq_true rfl) ?_
  intro p e s m args below meth c ls H locs C hnm hl hR hS
  refine g_iload_n C hl dX8_isBelow_0 rfl ?_
  refine lv_if_lt (tgt := 13) C.1 C.2.1 dX8_isBelow_1 (by decide) (fun c1 => ?_) (fun c1 => ?_)
  · refine g_iconst 0 C dX8_isBelow_13 (by decide) ?_
    refine g_zret C hR hS dX8_isBelow_14 rfl ⟨?_, rfl⟩
    rw [gb_f (fun z => by rw [Int32.lt_iff_toInt_lt] at c1; rw [gIw_iff] at z; have e0 : (0 : Int32).toInt = 0 := rfl; omega)]
  refine g_iload_n C hl dX8_isBelow_4 rfl ?_
  refine g_iload_n C hl dX8_isBelow_5 rfl ?_
  refine lv_icmp_ge (tgt := 13) C.1 C.2.1 dX8_isBelow_6 (by decide) (fun c6 => ?_) (fun c6 => ?_)
  · refine g_iconst 0 C dX8_isBelow_13 (by decide) ?_
    refine g_zret C hR hS dX8_isBelow_14 rfl ⟨?_, rfl⟩
    rw [gb_f (fun z => by rw [Int32.le_iff_toInt_le, nI_toInt (by omega)] at c6; rw [gIw_iff] at z; omega)]
  refine g_iconst 1 C dX8_isBelow_9 (by decide) ?_
  refine g_goto (tgt := 14) C dX8_isBelow_10 (by decide) ?_
  refine g_zret C hR hS dX8_isBelow_14 rfl ?_
  refine ⟨?_, rfl⟩
  rw [gb_t (by rw [Int32.lt_iff_toInt_lt] at c1; rw [Int32.le_iff_toInt_le, nI_toInt (by omega)] at c6; rw [gIw_iff]; have e0 : (0 : Int32).toInt = 0 := rfl; omega)]
set_option maxRecDepth 100000 in
set_option maxHeartbeats 4000000 in
/-- isStepsOfRun -/
theorem c_X8_isStepsOfRun (l : Launch) {X : gX} (hI : gInj X) {mem : gM} {v : Int32} : gF l yX8_isStepsOfRun cX8_isStepsOfRun 1 (some .boolean) 0 0 X [.int v] mem (some (.int (nI (gb (gIw v 1 999 = true))))) mem := by
  refine gMt.of (own := RX8) (by decide) rfl hI (by simp [Value.category]) (Nat.le_of_ble_eq_true rfl) ?_
  intro p e s m args below meth c ls H locs C hnm hl hR hS
  refine g_iload_n C hl dX8_isStepsOfRun_0 rfl ?_
  refine g_iconst 1 C dX8_isStepsOfRun_1 (by decide) ?_
  refine lv_icmp_lt (tgt := 16) C.1 C.2.1 dX8_isStepsOfRun_2 (by decide) (fun c2 => ?_) (fun c2 => ?_)
  · refine g_iconst 0 C dX8_isStepsOfRun_16 (by decide) ?_
    refine g_zret C hR hS dX8_isStepsOfRun_17 rfl ⟨?_, rfl⟩
    rw [gb_f (fun z => by rw [gIw_lt (by decide)] at c2; rw [gIw_iff] at z; omega)]
  refine g_iload_n C hl dX8_isStepsOfRun_5 rfl ?_
  refine g_sipush 999 C dX8_isStepsOfRun_6 (by decide) ?_
  refine lv_icmp_gt (tgt := 16) C.1 C.2.1 dX8_isStepsOfRun_9 (by decide) (fun c9 => ?_) (fun c9 => ?_)
  · refine g_iconst 0 C dX8_isStepsOfRun_16 (by decide) ?_
    refine g_zret C hR hS dX8_isStepsOfRun_17 rfl ⟨?_, rfl⟩
    rw [gb_f (fun z => by rw [gIw_gt (by decide)] at c9; rw [gIw_iff] at z; omega)]
  refine g_iconst 1 C dX8_isStepsOfRun_12 (by decide) ?_
  refine g_goto (tgt := 17) C dX8_isStepsOfRun_13 (by decide) ?_
  refine g_zret C hR hS dX8_isStepsOfRun_17 rfl ?_
  refine ⟨?_, rfl⟩
  rw [gb_t (by rw [gIw_lt (by decide)] at c2; rw [gIw_gt (by decide)] at c9; rw [gIw_iff]; omega)]
set_option maxRecDepth 100000 in
set_option maxHeartbeats 4000000 in
/-- X8_put -/
theorem c_X8_put (l : Launch) {X : gX} (hI : gInj X) {mem : gM} {S : aS} {b c9 n : Int32} (hJ : aI S) (hc : aCl S mem) : gMt l yX8_put cX8_put 5 (some .int) 5 132 X [.ref (gAd X 7 0), .int b, .int c9, .int n] mem (fun v9 m9 => v9 = some (.int (aPut S b c9 n).1) ∧ aCm (aPut S b c9 n).2 mem m9) := by
  refine gMt.of (own := RX8) (by decide) rfl hI (by simp [Value.category]) (Nat.le_of_ble_eq_true rfl) ?_
  intro p e s m args below meth c ls H locs C hnm hl hR hS
  have hz : zI (aZ S) := hJ.1.1
  have hg : zG (aZ S) := hJ.1.2.1
  have hB : aZ S 178 ≤ 999999 := hJ.1.2.2.1
  have hM : mR (mem 0) (aZ S) := hc.1
  have h115 := hz.2.2.2.2.2.2.1
  have h116 := hz.2.2.2.2.2.2.2.1
  rw [← fU_self mem 0] at hR
  refine g_iload_n C hl dX8_put_0 rfl ?_
  refine g_bipush 8 C dX8_put_1 (by decide) ?_
  refine g_callSi C hl.1 hR hS md_X8_isBelow ml_X8_43 (c_X8_isBelow l hI (hi := 7) (by decide)) rfl rfl ⟨Nat.le_of_ble_eq_true rfl, Nat.le_of_ble_eq_true rfl⟩ ⟨Nat.le_refl _, Nat.le_refl _⟩ (Nat.le_of_ble_eq_true rfl) dX8_put_3 (fun H locs hR hS => ?_)
  refine g_ifv_eq (tgt := 18) C dX8_put_6 (by decide) (by decide) (fun c6 => ?_) (fun b eb hb1 hb2 => ?_)
  · -- 6 T
    refine g_iconstM (-1) C dX8_put_18 (by decide) ?_
    refine g_iret C hR hS dX8_put_19 ?_
    rw [aPut_1 c6]
    exact ⟨rfl, aCm_same hc⟩
  · -- 6 F
    subst eb
    refine g_iload_n C hl dX8_put_9 rfl ?_
    refine g_bipush 16 C dX8_put_10 (by decide) ?_
    refine g_callSi C hl.1 hR hS md_X8_isBelow ml_X8_43 (c_X8_isBelow l hI (hi := 15) (by decide)) rfl rfl ⟨Nat.le_of_ble_eq_true rfl, Nat.le_of_ble_eq_true rfl⟩ ⟨Nat.le_refl _, Nat.le_refl _⟩ (Nat.le_of_ble_eq_true rfl) dX8_put_12 (fun H locs hR hS => ?_)
    refine g_ifv_ne (tgt := 20) C dX8_put_15 (by decide) (by decide) (fun c9 ec9 hc91 hc92 => ?_) (fun c15 => ?_)
    · -- 15 T
      subst ec9
      by_cases hn9 : gIw n 0 999 = true
      · obtain ⟨n, e9, -, hn2⟩ := gIw_t hn9 (by decide)
        subst e9
        refine g_iload_n C hl dX8_put_20 rfl ?_
        refine g_if_lt (tgt := 31) C dX8_put_21 (by decide) (by omega) ?_
        refine g_iload_n C hl dX8_put_24 rfl ?_
        refine g_sipush 999 C dX8_put_25 (by decide) ?_
        refine g_icmp_le (tgt := 34) C dX8_put_28 (by decide) (by omega) (by omega) (fun c28 => ?_) (fun z9 => absurd z9 (by omega))
        refine g_aload_n C hl dX8_put_34 rfl ?_
        refine gt_X8_0 C hR fl_X8_10 dX8_put_35 ?_
        refine gn_X4_0 C (by decide) hR fn_X8_47 dX8_put_38 ?_
        refine g_iload_n C hl dX8_put_41 rfl ?_
        refine g_iload_n C hl dX8_put_42 rfl ?_
        refine g_callVi C hl.1 hR hS (rc_X0 (by decide)) md_X0_numberIn ml_X8_51 (c_X0_numberIn l hI (by decide) hM (show b < 8 by omega) (show c9 < 16 by omega)) rfl rfl ⟨Nat.le_of_ble_eq_true rfl, Nat.le_of_ble_eq_true rfl⟩ ⟨Nat.le_refl _, Nat.le_refl _⟩ (Nat.le_of_ble_eq_true rfl) dX8_put_43 (fun H locs hR hS => ?_)
        refine g_istore C hl dX8_put_46 (Nat.le_of_ble_eq_true rfl) (fun ls hl => ?_)
        refine g_iload C hl dX8_put_48 rfl ?_
        refine g_iload_n C hl dX8_put_50 rfl ?_
        refine g_icmp_ne (tgt := 57) C dX8_put_51 (by decide) (by have := hz.1 (zIx b c9) (zIx_lt (by omega) (by omega)); omega) (by have := hz.1 (zIx b c9) (zIx_lt (by omega) (by omega)); omega) (fun c51 => ?_) (fun c51 => ?_)
        · -- 51 T
          refine g_aload_n C hl dX8_put_57 rfl ?_
          refine gt_X8_3 C hR fl_X8_25 dX8_put_58 ?_
          refine g_aload_n C hl dX8_put_61 rfl ?_
          refine gt_X8_0 C hR fl_X8_10 dX8_put_62 ?_
          rw [fU_self] at hR
          refine g_callV C hl.1 hR hS rc_X3 md_X3_remember ml_X8_57 (c_X3_remember l hI hc.2.1 hM) rfl rfl ⟨Nat.le_of_ble_eq_true rfl, Nat.le_of_ble_eq_true rfl⟩ ⟨Nat.le_refl _, Nat.le_refl _⟩ (Nat.le_of_ble_eq_true rfl) dX8_put_65 (fun v9 mem2 H locs hp hR hS => ?_)
          obtain ⟨e9, hp2⟩ := hp
          subst e9
          have hM2 : mR (mem2 0) (aZ S) := by
            rw [hp2.2.m (Or.inl (by decide))]
            exact hc.1
          have hM := hM2
          rw [← fU_self mem2 0] at hR
          refine g_aload_n C hl dX8_put_68 rfl ?_
          refine gt_X8_0 C hR fl_X8_10 dX8_put_69 ?_
          refine gn_X4_0 C (by decide) hR fn_X8_47 dX8_put_72 ?_
          refine g_iload_n C hl dX8_put_75 rfl ?_
          refine g_iload_n C hl dX8_put_76 rfl ?_
          refine g_iload_n C hl dX8_put_77 rfl ?_
          refine g_callKv C hl.1 hR hS (rc_X0 (by decide)) md_X0_fill ml_X8_61 (c_X0_fill l hI (by decide) hM (show b < 8 by omega) (show c9 < 16 by omega)) rfl rfl ⟨Nat.le_of_ble_eq_true rfl, Nat.le_of_ble_eq_true rfl⟩ ⟨Nat.le_refl _, Nat.le_refl _⟩ (Nat.le_of_ble_eq_true rfl) dX8_put_78 (fun g hM H locs hR hS => ?_)
          refine g_iload C hl dX8_put_81 rfl ?_
          refine g_iret C hR hS dX8_put_83 ?_
          rw [aPut_5 hb2 hc92 hn2 c51]
          exact ⟨rfl, aCm_rec hc hp2 hM⟩
        · -- 51 F
          refine g_bipushM (-5) C dX8_put_54 (by decide) ?_
          refine g_iret C hR hS dX8_put_56 ?_
          rw [aPut_4 hb2 hc92 hn2 c51]
          exact ⟨rfl, aCm_same hc⟩
      · have hn9 : gIw n 0 999 = false := by simpa using hn9
        rcases gIw_out hn9 with h9 | h9
        · -- neg
          refine g_iload_n C hl dX8_put_20 rfl ?_
          refine lv_if_lt (tgt := 31) C.1 C.2.1 dX8_put_21 (by decide) (fun _ => ?_) (fun z9 => absurd (by rw [Int32.lt_iff_toInt_lt]; have e0 : (0 : Int32).toInt = 0 := rfl; omega) z9)
          refine g_bipushM (-2) C dX8_put_31 (by decide) ?_
          refine g_iret C hR hS dX8_put_33 ?_
          rw [aPut_3 hb2 hc92 hn9]
          exact ⟨rfl, aCm_same hc⟩
        · -- big
          refine g_iload_n C hl dX8_put_20 rfl ?_
          refine lv_if_lt (tgt := 31) C.1 C.2.1 dX8_put_21 (by decide) (fun z9 => absurd z9 (by rw [Int32.lt_iff_toInt_lt]; have e0 : (0 : Int32).toInt = 0 := rfl; omega)) (fun _ => ?_)
          refine g_iload_n C hl dX8_put_24 rfl ?_
          refine g_sipush 999 C dX8_put_25 (by decide) ?_
          refine lv_icmp_le (tgt := 34) C.1 C.2.1 dX8_put_28 (by decide) (fun z9 => absurd z9 (by rw [Int32.le_iff_toInt_le, nI_toInt (by decide)]; omega)) (fun _ => ?_)
          refine g_bipushM (-2) C dX8_put_31 (by decide) ?_
          refine g_iret C hR hS dX8_put_33 ?_
          rw [aPut_3 hb2 hc92 hn9]
          exact ⟨rfl, aCm_same hc⟩
    · -- 15 F
      refine g_iconstM (-1) C dX8_put_18 (by decide) ?_
      refine g_iret C hR hS dX8_put_19 ?_
      rw [aPut_2 c15]
      exact ⟨rfl, aCm_same hc⟩
set_option maxRecDepth 100000 in
set_option maxHeartbeats 4000000 in
/-- X8_show -/
theorem c_X8_show (l : Launch) {X : gX} (hI : gInj X) {mem : gM} {S : aS} {w b : Int32} (hJ : aI S) (hc : aCl S mem) : gMt l yX8_show cX8_show 4 (some .int) 5 132 X [.ref (gAd X 7 0), .int w, .int b] mem (fun v9 m9 => v9 = some (.int (aShow S w b).1) ∧ aCm (aShow S w b).2 mem m9) := by
  refine gMt.of (own := RX8) (by decide) rfl hI (by simp [Value.category]) (Nat.le_of_ble_eq_true rfl) ?_
  intro p e s m args below meth c ls H locs C hnm hl hR hS
  have hz : zI (aZ S) := hJ.1.1
  have hg : zG (aZ S) := hJ.1.2.1
  have hB : aZ S 178 ≤ 999999 := hJ.1.2.2.1
  have hM : mR (mem 0) (aZ S) := hc.1
  have h115 := hz.2.2.2.2.2.2.1
  have h116 := hz.2.2.2.2.2.2.2.1
  rw [← fU_self mem 0] at hR
  refine g_iload_n C hl dX8_show_0 rfl ?_
  refine g_iconst 4 C dX8_show_1 (by decide) ?_
  refine g_callSi C hl.1 hR hS md_X8_isBelow ml_X8_43 (c_X8_isBelow l hI (hi := 3) (by decide)) rfl rfl ⟨Nat.le_of_ble_eq_true rfl, Nat.le_of_ble_eq_true rfl⟩ ⟨Nat.le_refl _, Nat.le_refl _⟩ (Nat.le_of_ble_eq_true rfl) dX8_show_2 (fun H locs hR hS => ?_)
  refine g_ifv_eq (tgt := 17) C dX8_show_5 (by decide) (by decide) (fun c5 => ?_) (fun w ew hw1 hw2 => ?_)
  · -- 5 T
    refine g_iconstM (-1) C dX8_show_17 (by decide) ?_
    refine g_iret C hR hS dX8_show_18 ?_
    rw [aShow_1 c5]
    exact ⟨rfl, aCm_same hc⟩
  · -- 5 F
    subst ew
    refine g_iload_n C hl dX8_show_8 rfl ?_
    refine g_bipush 8 C dX8_show_9 (by decide) ?_
    refine g_callSi C hl.1 hR hS md_X8_isBelow ml_X8_43 (c_X8_isBelow l hI (hi := 7) (by decide)) rfl rfl ⟨Nat.le_of_ble_eq_true rfl, Nat.le_of_ble_eq_true rfl⟩ ⟨Nat.le_refl _, Nat.le_refl _⟩ (Nat.le_of_ble_eq_true rfl) dX8_show_11 (fun H locs hR hS => ?_)
    refine g_ifv_ne (tgt := 19) C dX8_show_14 (by decide) (by decide) (fun b eb hb1 hb2 => ?_) (fun c14 => ?_)
    · -- 14 T
      subst eb
      refine g_aload_n C hl dX8_show_19 rfl ?_
      refine gt_X8_0 C hR fl_X8_10 dX8_show_20 ?_
      refine gn_X4_0 C (by decide) hR fn_X8_47 dX8_show_23 ?_
      refine gn_X0_2 C (by decide) hR fn_X8_83 dX8_show_26 ?_
      refine g_iload_n C hl dX8_show_29 rfl ?_
      refine g_callVi C hl.1 hR hS (rc_X5 (gRow_6 (by decide))) md_X5_read ml_X8_86 (c_zr l hI hM (gRow_6 (by decide)) mB_7 (show w < 4 by omega)) rfl rfl ⟨Nat.le_of_ble_eq_true rfl, Nat.le_of_ble_eq_true rfl⟩ ⟨Nat.le_refl _, Nat.le_refl _⟩ (Nat.le_of_ble_eq_true rfl) dX8_show_30 (fun H locs hR hS => ?_)
      refine g_istore_n C hl dX8_show_33 (Nat.le_of_ble_eq_true rfl) (fun ls hl => ?_)
      refine g_iload_n C hl dX8_show_34 rfl ?_
      refine g_iload_n C hl dX8_show_35 rfl ?_
      refine g_icmp_ne (tgt := 42) C dX8_show_36 (by decide) (by have := hz.2.1 w (by omega); omega) (by have := hz.2.1 w (by omega); omega) (fun c36 => ?_) (fun c36 => ?_)
      · -- 36 T
        refine g_aload_n C hl dX8_show_42 rfl ?_
        refine gt_X8_3 C hR fl_X8_25 dX8_show_43 ?_
        refine g_aload_n C hl dX8_show_46 rfl ?_
        refine gt_X8_0 C hR fl_X8_10 dX8_show_47 ?_
        rw [fU_self] at hR
        refine g_callV C hl.1 hR hS rc_X3 md_X3_remember ml_X8_57 (c_X3_remember l hI hc.2.1 hM) rfl rfl ⟨Nat.le_of_ble_eq_true rfl, Nat.le_of_ble_eq_true rfl⟩ ⟨Nat.le_refl _, Nat.le_refl _⟩ (Nat.le_of_ble_eq_true rfl) dX8_show_50 (fun v9 mem2 H locs hp hR hS => ?_)
        obtain ⟨e9, hp2⟩ := hp
        subst e9
        have hM2 : mR (mem2 0) (aZ S) := by
          rw [hp2.2.m (Or.inl (by decide))]
          exact hc.1
        have hM := hM2
        rw [← fU_self mem2 0] at hR
        refine g_aload_n C hl dX8_show_53 rfl ?_
        refine gt_X8_0 C hR fl_X8_10 dX8_show_54 ?_
        refine gn_X4_0 C (by decide) hR fn_X8_47 dX8_show_57 ?_
        refine gn_X0_2 C (by decide) hR fn_X8_83 dX8_show_60 ?_
        refine g_iload_n C hl dX8_show_63 rfl ?_
        refine g_iload_n C hl dX8_show_64 rfl ?_
        refine g_callKv C hl.1 hR hS (rc_X5 (gRow_6 (by decide))) md_X5_write ml_X8_73 (c_zw l hI hM (gRow_6 (by decide)) mB_7 (show w < 4 by omega)) rfl rfl ⟨Nat.le_of_ble_eq_true rfl, Nat.le_of_ble_eq_true rfl⟩ ⟨Nat.le_refl _, Nat.le_refl _⟩ (Nat.le_of_ble_eq_true rfl) dX8_show_65 (fun g hM H locs hR hS => ?_)
        refine g_iload_n C hl dX8_show_68 rfl ?_
        refine g_iret C hR hS dX8_show_69 ?_
        rw [aShow_4 hw2 hb2 c36]
        exact ⟨rfl, aCm_rec hc hp2 hM⟩
      · -- 36 F
        refine g_bipushM (-5) C dX8_show_39 (by decide) ?_
        refine g_iret C hR hS dX8_show_41 ?_
        rw [aShow_3 hw2 hb2 c36]
        exact ⟨rfl, aCm_same hc⟩
    · -- 14 F
      refine g_iconstM (-1) C dX8_show_17 (by decide) ?_
      refine g_iret C hR hS dX8_show_18 ?_
      rw [aShow_2 c14]
      exact ⟨rfl, aCm_same hc⟩
set_option maxRecDepth 100000 in
set_option maxHeartbeats 4000000 in
/-- X8_copyBank -/
theorem c_X8_copyBank (l : Launch) {X : gX} (hI : gInj X) {mem : gM} {S : aS} {w b : Int32} (hJ : aI S) (hc : aCl S mem) : gMt l yX8_copyBank cX8_copyBank 4 (some .int) 5 132 X [.ref (gAd X 7 0), .int w, .int b] mem (fun v9 m9 => v9 = some (.int (aCopy S w b).1) ∧ aCm (aCopy S w b).2 mem m9) := by
  refine gMt.of (own := RX8) (by decide) rfl hI (by simp [Value.category]) (Nat.le_of_ble_eq_true rfl) ?_
  intro p e s m args below meth c ls H locs C hnm hl hR hS
  have hz : zI (aZ S) := hJ.1.1
  have hg : zG (aZ S) := hJ.1.2.1
  have hB : aZ S 178 ≤ 999999 := hJ.1.2.2.1
  have hM : mR (mem 0) (aZ S) := hc.1
  have h115 := hz.2.2.2.2.2.2.1
  have h116 := hz.2.2.2.2.2.2.2.1
  rw [← fU_self mem 0] at hR
  refine g_iload_n C hl dX8_copyBank_0 rfl ?_
  refine g_bipush 8 C dX8_copyBank_1 (by decide) ?_
  refine g_callSi C hl.1 hR hS md_X8_isBelow ml_X8_43 (c_X8_isBelow l hI (hi := 7) (by decide)) rfl rfl ⟨Nat.le_of_ble_eq_true rfl, Nat.le_of_ble_eq_true rfl⟩ ⟨Nat.le_refl _, Nat.le_refl _⟩ (Nat.le_of_ble_eq_true rfl) dX8_copyBank_3 (fun H locs hR hS => ?_)
  refine g_ifv_eq (tgt := 18) C dX8_copyBank_6 (by decide) (by decide) (fun c6 => ?_) (fun w ew hw1 hw2 => ?_)
  · -- 6 T
    refine g_iconstM (-1) C dX8_copyBank_18 (by decide) ?_
    refine g_iret C hR hS dX8_copyBank_19 ?_
    rw [aCopy_1 c6]
    exact ⟨rfl, aCm_same hc⟩
  · -- 6 F
    subst ew
    refine g_iload_n C hl dX8_copyBank_9 rfl ?_
    refine g_bipush 8 C dX8_copyBank_10 (by decide) ?_
    refine g_callSi C hl.1 hR hS md_X8_isBelow ml_X8_43 (c_X8_isBelow l hI (hi := 7) (by decide)) rfl rfl ⟨Nat.le_of_ble_eq_true rfl, Nat.le_of_ble_eq_true rfl⟩ ⟨Nat.le_refl _, Nat.le_refl _⟩ (Nat.le_of_ble_eq_true rfl) dX8_copyBank_12 (fun H locs hR hS => ?_)
    refine g_ifv_ne (tgt := 20) C dX8_copyBank_15 (by decide) (by decide) (fun b eb hb1 hb2 => ?_) (fun c15 => ?_)
    · -- 15 T
      subst eb
      refine g_aload_n C hl dX8_copyBank_20 rfl ?_
      refine gt_X8_0 C hR fl_X8_10 dX8_copyBank_21 ?_
      refine gn_X4_0 C (by decide) hR fn_X8_47 dX8_copyBank_24 ?_
      refine g_iload_n C hl dX8_copyBank_27 rfl ?_
      refine g_iload_n C hl dX8_copyBank_28 rfl ?_
      refine g_callVi C hl.1 hR hS (rc_X0 (by decide)) md_X0_differencesOf ml_X8_90 (c_X0_differencesOf l hI (by decide) hM hz (show w < 8 by omega) (show b < 8 by omega)) rfl rfl ⟨Nat.le_of_ble_eq_true rfl, Nat.le_of_ble_eq_true rfl⟩ ⟨Nat.le_refl _, Nat.le_refl _⟩ (Nat.le_of_ble_eq_true rfl) dX8_copyBank_29 (fun H locs hR hS => ?_)
      refine g_istore_n C hl dX8_copyBank_32 (Nat.le_of_ble_eq_true rfl) (fun ls hl => ?_)
      refine g_iload_n C hl dX8_copyBank_33 rfl ?_
      refine g_if_ne (tgt := 40) C dX8_copyBank_34 (by decide) (by have := zUn_le (z := aZ S) (a := w) (b := b) 12; omega) (fun c34 => ?_) (fun c34 => ?_)
      · -- 34 T
        refine g_aload_n C hl dX8_copyBank_40 rfl ?_
        refine gt_X8_3 C hR fl_X8_25 dX8_copyBank_41 ?_
        refine g_aload_n C hl dX8_copyBank_44 rfl ?_
        refine gt_X8_0 C hR fl_X8_10 dX8_copyBank_45 ?_
        rw [fU_self] at hR
        refine g_callV C hl.1 hR hS rc_X3 md_X3_remember ml_X8_57 (c_X3_remember l hI hc.2.1 hM) rfl rfl ⟨Nat.le_of_ble_eq_true rfl, Nat.le_of_ble_eq_true rfl⟩ ⟨Nat.le_refl _, Nat.le_refl _⟩ (Nat.le_of_ble_eq_true rfl) dX8_copyBank_48 (fun v9 mem2 H locs hp hR hS => ?_)
        obtain ⟨e9, hp2⟩ := hp
        subst e9
        have hM2 : mR (mem2 0) (aZ S) := by
          rw [hp2.2.m (Or.inl (by decide))]
          exact hc.1
        have hM := hM2
        rw [← fU_self mem2 0] at hR
        refine g_aload_n C hl dX8_copyBank_51 rfl ?_
        refine gt_X8_0 C hR fl_X8_10 dX8_copyBank_52 ?_
        refine gn_X4_0 C (by decide) hR fn_X8_47 dX8_copyBank_55 ?_
        refine g_iload_n C hl dX8_copyBank_58 rfl ?_
        refine g_iload_n C hl dX8_copyBank_59 rfl ?_
        refine g_callKv C hl.1 hR hS (rc_X0 (by decide)) md_X0_copyCells ml_X8_93 (c_X0_copyCells l hI (by decide) hM (show w < 8 by omega) (show b < 8 by omega)) rfl rfl ⟨Nat.le_of_ble_eq_true rfl, Nat.le_of_ble_eq_true rfl⟩ ⟨Nat.le_refl _, Nat.le_refl _⟩ (Nat.le_of_ble_eq_true rfl) dX8_copyBank_60 (fun g hM H locs hR hS => ?_)
        refine g_iload_n C hl dX8_copyBank_63 rfl ?_
        refine g_iret C hR hS dX8_copyBank_64 ?_
        rw [aCopy_4 hw2 hb2 c34]
        exact ⟨rfl, aCm_rec hc hp2 hM⟩
      · -- 34 F
        refine g_bipushM (-5) C dX8_copyBank_37 (by decide) ?_
        refine g_iret C hR hS dX8_copyBank_39 ?_
        rw [aCopy_3 hw2 hb2 c34]
        exact ⟨rfl, aCm_same hc⟩
    · -- 15 F
      refine g_iconstM (-1) C dX8_copyBank_18 (by decide) ?_
      refine g_iret C hR hS dX8_copyBank_19 ?_
      rw [aCopy_2 c15]
      exact ⟨rfl, aCm_same hc⟩
set_option maxRecDepth 100000 in
set_option maxHeartbeats 4000000 in
/-- X8_set -/
theorem c_X8_set (l : Launch) {X : gX} (hI : gInj X) {mem : gM} {S : aS} {v : Int32} (hJ : aI S) (hc : aCl S mem) : gMt l yX8_set cX8_set 3 (some .int) 5 132 X [.ref (gAd X 7 0), .int v] mem (fun v9 m9 => v9 = some (.int (aSet S v).1) ∧ aCm (aSet S v).2 mem m9) := by
  refine gMt.of (own := RX8) (by decide) rfl hI (by simp [Value.category]) (Nat.le_of_ble_eq_true rfl) ?_
  intro p e s m args below meth c ls H locs C hnm hl hR hS
  have hz : zI (aZ S) := hJ.1.1
  have hg : zG (aZ S) := hJ.1.2.1
  have hB : aZ S 178 ≤ 999999 := hJ.1.2.2.1
  have hM : mR (mem 0) (aZ S) := hc.1
  have h115 := hz.2.2.2.2.2.2.1
  have h116 := hz.2.2.2.2.2.2.2.1
  rw [← fU_self mem 0] at hR
  refine g_iload_n C hl dX8_set_0 rfl ?_
  refine g_iconst 2 C dX8_set_1 (by decide) ?_
  refine g_callSi C hl.1 hR hS md_X8_isBelow ml_X8_43 (c_X8_isBelow l hI (hi := 1) (by decide)) rfl rfl ⟨Nat.le_of_ble_eq_true rfl, Nat.le_of_ble_eq_true rfl⟩ ⟨Nat.le_refl _, Nat.le_refl _⟩ (Nat.le_of_ble_eq_true rfl) dX8_set_2 (fun H locs hR hS => ?_)
  refine g_ifv_ne (tgt := 11) C dX8_set_5 (by decide) (by decide) (fun v ev hv1 hv2 => ?_) (fun c5 => ?_)
  · -- 5 T
    subst ev
    refine g_aload_n C hl dX8_set_11 rfl ?_
    refine gt_X8_0 C hR fl_X8_10 dX8_set_12 ?_
    refine zgn_X4_6 C (by decide) hM hR fn_X8_96 dX8_set_15 ?_
    refine g_istore_n C hl dX8_set_18 (Nat.le_of_ble_eq_true rfl) (fun ls hl => ?_)
    refine g_iload_n C hl dX8_set_19 rfl ?_
    refine g_iload_n C hl dX8_set_20 rfl ?_
    refine g_icmp_ne (tgt := 27) C dX8_set_21 (by decide) (by have := hz.2.2.2.1; omega) (by have := hz.2.2.2.1; omega) (fun c21 => ?_) (fun c21 => ?_)
    · -- 21 T
      refine g_aload_n C hl dX8_set_27 rfl ?_
      refine gt_X8_3 C hR fl_X8_25 dX8_set_28 ?_
      refine g_aload_n C hl dX8_set_31 rfl ?_
      refine gt_X8_0 C hR fl_X8_10 dX8_set_32 ?_
      rw [fU_self] at hR
      refine g_callV C hl.1 hR hS rc_X3 md_X3_remember ml_X8_57 (c_X3_remember l hI hc.2.1 hM) rfl rfl ⟨Nat.le_of_ble_eq_true rfl, Nat.le_of_ble_eq_true rfl⟩ ⟨Nat.le_refl _, Nat.le_refl _⟩ (Nat.le_of_ble_eq_true rfl) dX8_set_35 (fun v9 mem2 H locs hp hR hS => ?_)
      obtain ⟨e9, hp2⟩ := hp
      subst e9
      have hM2 : mR (mem2 0) (aZ S) := by
        rw [hp2.2.m (Or.inl (by decide))]
        exact hc.1
      have hM := hM2
      rw [← fU_self mem2 0] at hR
      refine g_aload_n C hl dX8_set_38 rfl ?_
      refine gt_X8_0 C hR fl_X8_10 dX8_set_39 ?_
      refine g_iload_n C hl dX8_set_42 rfl ?_
      refine zpn_X4_6 C (by decide) hM hR hS fn_X8_96 dX8_set_43 (fun g hM H locs hR hS => ?_)
      refine g_iload_n C hl dX8_set_46 rfl ?_
      refine g_iret C hR hS dX8_set_47 ?_
      rw [aSet_3 hv2 c21]
      exact ⟨rfl, aCm_rec hc hp2 hM⟩
    · -- 21 F
      refine g_bipushM (-5) C dX8_set_24 (by decide) ?_
      refine g_iret C hR hS dX8_set_26 ?_
      rw [aSet_2 hv2 c21]
      exact ⟨rfl, aCm_same hc⟩
  · -- 5 F
    refine g_bipushM (-2) C dX8_set_8 (by decide) ?_
    refine g_iret C hR hS dX8_set_10 ?_
    rw [aSet_1 c5]
    exact ⟨rfl, aCm_same hc⟩
set_option maxRecDepth 100000 in
set_option maxHeartbeats 4000000 in
/-- X8_begin -/
theorem c_X8_begin (l : Launch) {X : gX} (hI : gInj X) {mem : gM} {S : aS} {v : Int32} (hJ : aI S) (hc : aCl S mem) : gMt l yX8_begin cX8_begin 3 (some .int) 5 132 X [.ref (gAd X 7 0), .int v] mem (fun v9 m9 => v9 = some (.int (aBegin S v).1) ∧ aCm (aBegin S v).2 mem m9) := by
  refine gMt.of (own := RX8) (by decide) rfl hI (by simp [Value.category]) (Nat.le_of_ble_eq_true rfl) ?_
  intro p e s m args below meth c ls H locs C hnm hl hR hS
  have hz : zI (aZ S) := hJ.1.1
  have hg : zG (aZ S) := hJ.1.2.1
  have hB : aZ S 178 ≤ 999999 := hJ.1.2.2.1
  have hM : mR (mem 0) (aZ S) := hc.1
  have h115 := hz.2.2.2.2.2.2.1
  have h116 := hz.2.2.2.2.2.2.2.1
  rw [← fU_self mem 0] at hR
  refine g_iload_n C hl dX8_begin_0 rfl ?_
  refine g_bipush 64 C dX8_begin_1 (by decide) ?_
  refine g_callSi C hl.1 hR hS md_X8_isBelow ml_X8_43 (c_X8_isBelow l hI (hi := 63) (by decide)) rfl rfl ⟨Nat.le_of_ble_eq_true rfl, Nat.le_of_ble_eq_true rfl⟩ ⟨Nat.le_refl _, Nat.le_refl _⟩ (Nat.le_of_ble_eq_true rfl) dX8_begin_3 (fun H locs hR hS => ?_)
  refine g_ifv_ne (tgt := 11) C dX8_begin_6 (by decide) (by decide) (fun v ev hv1 hv2 => ?_) (fun c6 => ?_)
  · -- 6 T
    subst ev
    refine g_aload_n C hl dX8_begin_11 rfl ?_
    refine gt_X8_0 C hR fl_X8_10 dX8_begin_12 ?_
    refine zgn_X4_4 C (by decide) hM hR fn_X8_100 dX8_begin_15 ?_
    refine g_istore_n C hl dX8_begin_18 (Nat.le_of_ble_eq_true rfl) (fun ls hl => ?_)
    refine g_aload_n C hl dX8_begin_19 rfl ?_
    refine gt_X8_3 C hR fl_X8_25 dX8_begin_20 ?_
    refine g_aload_n C hl dX8_begin_23 rfl ?_
    refine gt_X8_0 C hR fl_X8_10 dX8_begin_24 ?_
    rw [fU_self] at hR
    refine g_callV C hl.1 hR hS rc_X3 md_X3_remember ml_X8_57 (c_X3_remember l hI hc.2.1 hM) rfl rfl ⟨Nat.le_of_ble_eq_true rfl, Nat.le_of_ble_eq_true rfl⟩ ⟨Nat.le_refl _, Nat.le_refl _⟩ (Nat.le_of_ble_eq_true rfl) dX8_begin_27 (fun v9 mem2 H locs hp hR hS => ?_)
    obtain ⟨e9, hp2⟩ := hp
    subst e9
    have hM2 : mR (mem2 0) (aZ S) := by
      rw [hp2.2.m (Or.inl (by decide))]
      exact hc.1
    have hM := hM2
    rw [← fU_self mem2 0] at hR
    refine g_aload_n C hl dX8_begin_30 rfl ?_
    refine gt_X8_0 C hR fl_X8_10 dX8_begin_31 ?_
    refine g_iload_n C hl dX8_begin_34 rfl ?_
    refine g_callKv C hl.1 hR hS (rc_X4 (by decide)) md_X4_startAt ml_X8_103 (c_X4_startAt l hI (by decide) hM) rfl rfl ⟨Nat.le_of_ble_eq_true rfl, Nat.le_of_ble_eq_true rfl⟩ ⟨Nat.le_refl _, Nat.le_refl _⟩ (Nat.le_of_ble_eq_true rfl) dX8_begin_35 (fun g hM H locs hR hS => ?_)
    refine g_iload_n C hl dX8_begin_38 rfl ?_
    refine g_iret C hR hS dX8_begin_39 ?_
    rw [aBegin_2 hv2]
    exact ⟨rfl, aCm_rec hc hp2 hM⟩
  · -- 6 F
    refine g_iconstM (-1) C dX8_begin_9 (by decide) ?_
    refine g_iret C hR hS dX8_begin_10 ?_
    rw [aBegin_1 c6]
    exact ⟨rfl, aCm_same hc⟩
set_option maxRecDepth 100000 in
set_option maxHeartbeats 4000000 in
/-- X8_run -/
theorem c_X8_run (l : Launch) {X : gX} (hI : gInj X) {mem : gM} {S : aS} {v : Int32} (hJ : aI S) (hc : aCl S mem) : gMt l yX8_run cX8_run 2 (some .int) 6 137 X [.ref (gAd X 7 0), .int v] mem (fun v9 m9 => v9 = some (.int (aRun S v).1) ∧ aCm (aRun S v).2 mem m9) := by
  refine gMt.of (own := RX8) (by decide) rfl hI (by simp [Value.category]) (Nat.le_of_ble_eq_true rfl) ?_
  intro p e s m args below meth c ls H locs C hnm hl hR hS
  have hz : zI (aZ S) := hJ.1.1
  have hg : zG (aZ S) := hJ.1.2.1
  have hB : aZ S 178 ≤ 999999 := hJ.1.2.2.1
  have hM : mR (mem 0) (aZ S) := hc.1
  have h115 := hz.2.2.2.2.2.2.1
  have h116 := hz.2.2.2.2.2.2.2.1
  rw [← fU_self mem 0] at hR
  refine g_iload_n C hl dX8_run_0 rfl ?_
  refine g_callSi C hl.1 hR hS md_X8_isStepsOfRun ml_X8_107 (c_X8_isStepsOfRun l hI) rfl rfl ⟨Nat.le_of_ble_eq_true rfl, Nat.le_of_ble_eq_true rfl⟩ ⟨Nat.le_refl _, Nat.le_refl _⟩ (Nat.le_of_ble_eq_true rfl) dX8_run_1 (fun H locs hR hS => ?_)
  refine g_ifv_ne (tgt := 10) C dX8_run_4 (by decide) (by decide) (fun v ev hv1 hv2 => ?_) (fun c4 => ?_)
  · -- 4 T
    subst ev
    refine g_aload_n C hl dX8_run_10 rfl ?_
    refine gt_X8_0 C hR fl_X8_10 dX8_run_11 ?_
    refine zgn_X4_5 C (by decide) hM hR fn_X8_110 dX8_run_14 ?_
    refine g_if_eq (tgt := 23) C dX8_run_17 (by decide) (by omega) (fun c17 => ?_) (fun c17 => ?_)
    · -- 17 T
      refine g_aload_n C hl dX8_run_23 rfl ?_
      refine gt_X8_0 C hR fl_X8_10 dX8_run_24 ?_
      refine gn_X4_2 C (by decide) hR fn_X8_113 dX8_run_27 ?_
      refine zgn_X7_1 C (by decide) hM hR fn_X8_117 dX8_run_30 ?_
      refine g_iload_n C hl dX8_run_33 rfl ?_
      refine g_iadd C dX8_run_34 ?_
      refine g_ldc 999999 C cn_X8_122 rfl dX8_run_35 ?_
      refine g_icmp_le (tgt := 43) C dX8_run_37 (by decide) (by omega) (by omega) (fun c37 => ?_) (fun c37 => ?_)
      · -- 37 T
        refine g_aload_n C hl dX8_run_43 rfl ?_
        refine gt_X8_3 C hR fl_X8_25 dX8_run_44 ?_
        refine g_aload_n C hl dX8_run_47 rfl ?_
        refine gt_X8_0 C hR fl_X8_10 dX8_run_48 ?_
        rw [fU_self] at hR
        refine g_callV C hl.1 hR hS rc_X3 md_X3_remember ml_X8_57 (c_X3_remember l hI hc.2.1 hM) rfl rfl ⟨Nat.le_of_ble_eq_true rfl, Nat.le_of_ble_eq_true rfl⟩ ⟨Nat.le_refl _, Nat.le_refl _⟩ (Nat.le_of_ble_eq_true rfl) dX8_run_51 (fun v9 mem2 H locs hp hR hS => ?_)
        obtain ⟨e9, hp2⟩ := hp
        subst e9
        have hM2 : mR (mem2 0) (aZ S) := by
          rw [hp2.2.m (Or.inl (by decide))]
          exact hc.1
        have hM := hM2
        rw [← fU_self mem2 0] at hR
        refine g_aload_n C hl dX8_run_54 rfl ?_
        refine gt_X8_0 C hR fl_X8_10 dX8_run_55 ?_
        refine g_iload_n C hl dX8_run_58 rfl ?_
        refine g_callKi C hl.1 hR hS (rc_X4 (by decide)) md_X4_takeSteps ml_X8_123 (c_X4_takeSteps l hI (by decide) hM hz hg hB (show v < 2000 by omega)) rfl rfl ⟨Nat.le_of_ble_eq_true rfl, Nat.le_of_ble_eq_true rfl⟩ ⟨Nat.le_refl _, Nat.le_refl _⟩ (Nat.le_of_ble_eq_true rfl) dX8_run_59 (fun g hM H locs hR hS => ?_)
        refine g_iret C hR hS dX8_run_62 ?_
        rw [aRun_4 hv1 hv2 c17 (by omega)]
        exact ⟨rfl, aCm_rec hc hp2 hM⟩
      · -- 37 F
        refine g_bipushM (-3) C dX8_run_40 (by decide) ?_
        refine g_iret C hR hS dX8_run_42 ?_
        rw [aRun_3 hv1 hv2 c17 (by omega)]
        exact ⟨rfl, aCm_same hc⟩
    · -- 17 F
      refine g_bipushM (-4) C dX8_run_20 (by decide) ?_
      refine g_iret C hR hS dX8_run_22 ?_
      rw [aRun_2 hv1 hv2 (by omega)]
      exact ⟨rfl, aCm_same hc⟩
  · -- 4 F
    refine g_bipushM (-2) C dX8_run_7 (by decide) ?_
    refine g_iret C hR hS dX8_run_9 ?_
    rw [aRun_1 c4]
    exact ⟨rfl, aCm_same hc⟩
