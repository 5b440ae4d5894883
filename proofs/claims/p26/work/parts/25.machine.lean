/-! ===== Machine ===== -/
theorem fU_at {z : Nat → Nat} {i j x : Nat} : fU z i x j = if j = i then x else z j := rfl

set_option maxRecDepth 100000 in
set_option maxHeartbeats 4000000 in
/-- startAt -/
theorem c_X4_startAt (l : Launch) {X : gX} (hI : gInj X) {mem : gM} {k : Nat} (hk : k < 7) {g : Nat → Nat → Nat} {z : Nat → Nat} (hM : mR g z) {p9 : Nat} : gMt l yX4_startAt cX4_startAt 2 none 0 0 X [.ref (gAd X k 0), .int (nI p9)] (fU mem k g) (mP mem k (zBg z p9) none) := by
  refine gMt.of (own := RX4) (by decide) rfl hI (by simp [Value.category]) (Nat.le_of_ble_eq_true rfl) ?_
  intro p e s m args below meth c ls H locs C hnm hl hR hS
  refine g_aload_n C hl dX4_startAt_0 rfl ?_
  refine g_iload_n C hl dX4_startAt_1 rfl ?_
  refine zpt_X4_4 C hk hM hR hS fl_X4_46 dX4_startAt_2 (fun g hM H locs hR hS => ?_)
  refine g_aload_n C hl dX4_startAt_5 rfl ?_
  refine g_iconst 0 C dX4_startAt_6 (by decide) ?_
  refine zpt_X4_3 C hk hM hR hS fl_X4_42 dX4_startAt_7 (fun g hM H locs hR hS => ?_)
  refine g_aload_n C hl dX4_startAt_10 rfl ?_
  refine g_iconst 0 C dX4_startAt_11 (by decide) ?_
  refine zpt_X4_5 C hk hM hR hS fl_X4_49 dX4_startAt_12 (fun g hM H locs hR hS => ?_)
  refine g_aload_n C hl dX4_startAt_15 rfl ?_
  refine gt_X4_1 C hk hR fl_X4_21 dX4_startAt_16 ?_
  refine g_iconst 0 C dX4_startAt_19 (by decide) ?_
  refine zpn_X2_1 C hk hM hR hS fn_X4_58 dX4_startAt_20 (fun g hM H locs hR hS => ?_)
  refine g_vret C hR hS dX4_startAt_23 ?_
  exact ⟨rfl, _, rfl, hM⟩
set_option maxRecDepth 100000 in
set_option maxHeartbeats 4000000 in
/-- increase -/
theorem c_X4_increase (l : Launch) {X : gX} (hI : gInj X) {mem : gM} {k : Nat} (hk : k < 7) {g : Nat → Nat → Nat} {z : Nat → Nat} (hM : mR g z) (h9 : z 113 ≤ 999) {y : Nat} (hy : y ≤ 999) : gMt l yX4_increase cX4_increase 3 none 0 0 X [.ref (gAd X k 0), .int (nI y)] (fU mem k g) (mP mem k (fU z 113 (zSm (z 113) y)) none) := by
  refine gMt.of (own := RX4) (by decide) rfl hI (by simp [Value.category]) (Nat.le_of_ble_eq_true rfl) ?_
  intro p e s m args below meth c ls H locs C hnm hl hR hS
  refine g_aload_n C hl dX4_increase_0 rfl ?_
  refine zgt_X4_3 C hk hM hR fl_X4_42 dX4_increase_1 ?_
  refine g_iload_n C hl dX4_increase_4 rfl ?_
  refine g_iadd C dX4_increase_5 ?_
  refine g_istore_n C hl dX4_increase_6 (Nat.le_of_ble_eq_true rfl) (fun ls hl => ?_)
  refine g_aload_n C hl dX4_increase_7 rfl ?_
  refine g_iload_n C hl dX4_increase_8 rfl ?_
  refine g_sipush 999 C dX4_increase_9 (by decide) ?_
  refine g_icmp_le (tgt := 25) C dX4_increase_12 (by decide) (by omega) (by omega) (fun c12 => ?_) (fun c12 => ?_)
  · -- 12 T
    refine g_iload_n C hl dX4_increase_25 rfl ?_
    refine zpt_X4_3 C hk hM hR hS fl_X4_42 dX4_increase_26 (fun g hM H locs hR hS => ?_)
    refine g_vret C hR hS dX4_increase_29 ?_
    refine ⟨rfl, _, rfl, ?_⟩
    have e9 : zSm (z 113) y = z 113 + y := if_pos (by omega)
    rw [e9]
    exact hM
  · -- 12 F
    refine g_iload_n C hl dX4_increase_15 rfl ?_
    refine g_sipush 999 C dX4_increase_16 (by decide) ?_
    refine g_isub C dX4_increase_19 (by omega) ?_
    refine g_iconst 1 C dX4_increase_20 (by decide) ?_
    refine g_isub C dX4_increase_21 (by omega) ?_
    refine g_goto (tgt := 26) C dX4_increase_22 (by decide) ?_
    refine zpt_X4_3 C hk hM hR hS fl_X4_42 dX4_increase_26 (fun g hM H locs hR hS => ?_)
    refine g_vret C hR hS dX4_increase_29 ?_
    refine ⟨rfl, _, rfl, ?_⟩
    have e9 : zSm (z 113) y = z 113 + y - 999 - 1 := by
      unfold zSm
      rw [if_neg (by omega)]
      omega
    rw [e9]
    exact hM
theorem fU_cc (z : Nat → Nat) {i j q : Nat} (x y : Nat) (h : ¬ q = j) (h2 : j = i → x = y) : fU (fU z i x) j y q = fU z i x q := fU_n _ _ h
theorem zCl_eq {z : Nat → Nat} {w n : Nat} (hw : w < 4) (h8 : z 116 < 8) : zCl z w n = fU (fU (fU (fU (fU (fU (fU z (117 + 3 * z 116) w) (117 + 3 * z 116 + 1) (z (100 + w))) (117 + 3 * z 116 + 2) (z 114)) 116 (z 116 + 1)) (100 + w) (n / 10)) 114 (w * 16 + n % 10)) 179 (z 179 + 1) := by
  have e1 : zCl1 z w (100 + w) = z (100 + w) := fU_n _ _ (by omega)
  have e2 : zCl2 z w 114 = z 114 := by
    unfold zCl2 zCl1
    rw [fU_n _ _ (by omega), fU_n _ _ (by omega)]
  have e3 : zCl3 z w 116 = z 116 := by
    unfold zCl3 zCl2 zCl1
    rw [fU_n _ _ (by omega), fU_n _ _ (by omega), fU_n _ _ (by omega)]
  have e4 : zCl4 z w 179 = z 179 := by
    unfold zCl4 zCl3 zCl2 zCl1
    rw [fU_n _ _ (by omega), fU_n _ _ (by omega), fU_n _ _ (by omega), fU_n _ _ (by omega)]
  unfold zCl zCl5
  rw [e4]
  unfold zCl4
  rw [e3]
  unfold zCl3
  rw [e2]
  unfold zCl2
  rw [e1]
  unfold zCl1
  rw [fU_c _ (i := 179) (j := 100 + w) _ _ (by omega), fU_c _ (i := 179) (j := 114) _ _ (by decide), Nat.mul_comm 16 w]
theorem zBc_eq {z : Nat → Nat} (h0 : 0 < z 116) (h8 : z 116 ≤ 8) (hw : z (117 + 3 * (z 116 - 1)) < 4) : zBc z = fU (fU (fU z (100 + z (117 + 3 * (z 116 - 1))) (z (117 + 3 * (z 116 - 1) + 1))) 114 (z (117 + 3 * (z 116 - 1) + 2))) 116 (z 116 - 1) := by
  have e1 : zBc1 z (117 + 3 * (z 116 - 1) + 1) = z (117 + 3 * (z 116 - 1) + 1) := fU_n _ _ (by omega)
  have e2 : zBc2 z (117 + 3 * (z 116 - 1) + 2) = z (117 + 3 * (z 116 - 1) + 2) := by
    unfold zBc2 zBc1
    rw [fU_n _ _ (by omega), fU_n _ _ (by omega)]
  unfold zBc
  rw [e2]
  unfold zBc2
  rw [e1]
  unfold zBc1
  rw [fU_c _ (i := 116) (j := 100 + z (117 + 3 * (z 116 - 1))) _ _ (by omega), fU_c _ (i := 116) (j := 114) _ _ (by decide)]
set_option maxRecDepth 100000 in
set_option maxHeartbeats 4000000 in
/-- callFrom -/
theorem c_X4_callFrom (l : Launch) {X : gX} (hI : gInj X) {mem : gM} {k : Nat} (hk : k < 7) {g : Nat → Nat → Nat} {z : Nat → Nat} (hM : mR g z) (h8 : z 116 < 8) {w n : Nat} (hw : w < 4) (hn : n < 100) : gMt l yX4_callFrom cX4_callFrom 3 none 2 46 X [.ref (gAd X k 0), .int (nI w), .int (nI n)] (fU mem k g) (mP mem k (zCl z w n) none) := by
  refine gMt.of (own := RX4) (by decide) rfl hI (by simp [Value.category]) (Nat.le_of_ble_eq_true rfl) ?_
  intro p e s m args below meth c ls H locs C hnm hl hR hS
  refine g_aload_n C hl dX4_callFrom_0 rfl ?_
  refine gt_X4_1 C hk hR fl_X4_21 dX4_callFrom_1 ?_
  refine g_iload_n C hl dX4_callFrom_4 rfl ?_
  refine g_aload_n C hl dX4_callFrom_5 rfl ?_
  refine gt_X4_0 C hk hR fl_X4_12 dX4_callFrom_6 ?_
  refine gn_X0_2 C hk hR fn_X4_93 dX4_callFrom_9 ?_
  refine g_iload_n C hl dX4_callFrom_12 rfl ?_
  refine g_callVi C hl.1 hR hS (rc_X5 (gRow_6 hk)) md_X5_read ml_X4_109 (c_zr l hI hM (gRow_6 hk) mB_7 hw) rfl rfl ⟨Nat.le_of_ble_eq_true rfl, Nat.le_of_ble_eq_true rfl⟩ ⟨Nat.le_refl _, Nat.le_refl _⟩ (Nat.le_of_ble_eq_true rfl) dX4_callFrom_13 (fun H locs hR hS => ?_)
  refine g_aload_n C hl dX4_callFrom_16 rfl ?_
  refine zgt_X4_4 C hk hM hR fl_X4_46 dX4_callFrom_17 ?_
  refine g_callKv C hl.1 hR hS (rc_X2 hk) md_X2_add ml_X4_112 (c_X2_add l hI hk hM h8) rfl rfl ⟨Nat.le_of_ble_eq_true rfl, Nat.le_of_ble_eq_true rfl⟩ ⟨Nat.le_refl _, Nat.le_refl _⟩ (Nat.le_of_ble_eq_true rfl) dX4_callFrom_20 (fun g hM H locs hR hS => ?_)
  refine g_aload_n C hl dX4_callFrom_23 rfl ?_
  refine gt_X4_0 C hk hR fl_X4_12 dX4_callFrom_24 ?_
  refine gn_X0_2 C hk hR fn_X4_93 dX4_callFrom_27 ?_
  refine g_iload_n C hl dX4_callFrom_30 rfl ?_
  refine g_iload_n C hl dX4_callFrom_31 rfl ?_
  refine g_bipush 10 C dX4_callFrom_32 (by decide) ?_
  refine g_idiv C dX4_callFrom_34 (by omega) (by decide) (by decide) ?_
  refine g_callKv C hl.1 hR hS (rc_X5 (gRow_6 hk)) md_X5_write ml_X4_97 (c_zw l hI hM (gRow_6 hk) mB_7 hw) rfl rfl ⟨Nat.le_of_ble_eq_true rfl, Nat.le_of_ble_eq_true rfl⟩ ⟨Nat.le_refl _, Nat.le_refl _⟩ (Nat.le_of_ble_eq_true rfl) dX4_callFrom_35 (fun g hM H locs hR hS => ?_)
  refine g_aload_n C hl dX4_callFrom_38 rfl ?_
  refine g_iload_n C hl dX4_callFrom_39 rfl ?_
  refine g_bipush 16 C dX4_callFrom_40 (by decide) ?_
  refine g_imul C dX4_callFrom_42 ?_
  refine g_iload_n C hl dX4_callFrom_43 rfl ?_
  refine g_bipush 10 C dX4_callFrom_44 (by decide) ?_
  refine g_irem C dX4_callFrom_46 (by omega) (by decide) (by decide) ?_
  refine g_iadd C dX4_callFrom_47 ?_
  refine zpt_X4_4 C hk hM hR hS fl_X4_46 dX4_callFrom_48 (fun g hM H locs hR hS => ?_)
  refine g_aload_n C hl dX4_callFrom_51 rfl ?_
  refine g_dup C dX4_callFrom_52 rfl ?_
  refine zgt_X4_7 C hk hM hR fl_X4_55 dX4_callFrom_53 ?_
  rw [fU_n _ _ (by omega), fU_n _ _ (by omega), fU_n _ _ (by omega), fU_n _ _ (by omega), fU_n _ _ (by omega), fU_n _ _ (by omega)]
  refine g_iconst 1 C dX4_callFrom_56 (by decide) ?_
  refine g_iadd C dX4_callFrom_57 ?_
  refine zpt_X4_7 C hk hM hR hS fl_X4_55 dX4_callFrom_58 (fun g hM H locs hR hS => ?_)
  refine g_vret C hR hS dX4_callFrom_61 ?_
  rw [zCl_eq hw h8]
  exact ⟨rfl, _, rfl, hM⟩
set_option maxRecDepth 100000 in
set_option maxHeartbeats 4000000 in
/-- comeBack -/
theorem c_X4_comeBack (l : Launch) {X : gX} (hI : gInj X) {mem : gM} {k : Nat} (hk : k < 7) {g : Nat → Nat → Nat} {z : Nat → Nat} (hM : mR g z) (hz : zI z) (h0 : 0 < z 116) : gMt l yX4_comeBack cX4_comeBack 1 none 2 43 X [.ref (gAd X k 0)] (fU mem k g) (mP mem k (zBc z) none) := by
  refine gMt.of (own := RX4) (by decide) rfl hI (by simp [Value.category]) (Nat.le_of_ble_eq_true rfl) ?_
  intro p e s m args below meth c ls H locs C hnm hl hR hS
  have h116 := hz.2.2.2.2.2.2.2.1
  obtain ⟨q1, q2, q3⟩ := hz.2.2.2.2.2.2.2.2.1 (z 116 - 1) (by omega)
  refine g_aload_n C hl dX4_comeBack_0 rfl ?_
  refine gt_X4_0 C hk hR fl_X4_12 dX4_comeBack_1 ?_
  refine gn_X0_2 C hk hR fn_X4_93 dX4_comeBack_4 ?_
  refine g_aload_n C hl dX4_comeBack_7 rfl ?_
  refine gt_X4_1 C hk hR fl_X4_21 dX4_comeBack_8 ?_
  refine g_iconst 0 C dX4_comeBack_11 (by decide) ?_
  refine g_iconst 0 C dX4_comeBack_12 (by decide) ?_
  refine g_callVi C hl.1 hR hS (rc_X2 hk) md_X2_tell ml_X4_113 (c_X2_tell l hI hk hM (by omega) (by omega) (by decide)) rfl rfl ⟨Nat.le_of_ble_eq_true rfl, Nat.le_of_ble_eq_true rfl⟩ ⟨Nat.le_refl _, Nat.le_refl _⟩ (Nat.le_of_ble_eq_true rfl) dX4_comeBack_13 (fun H locs hR hS => ?_)
  rw [show z 116 - 1 - 0 = z 116 - 1 by omega, Nat.add_zero (117 + 3 * (z 116 - 1))]
  refine g_aload_n C hl dX4_comeBack_16 rfl ?_
  refine gt_X4_1 C hk hR fl_X4_21 dX4_comeBack_17 ?_
  refine g_iconst 0 C dX4_comeBack_20 (by decide) ?_
  refine g_iconst 1 C dX4_comeBack_21 (by decide) ?_
  refine g_callVi C hl.1 hR hS (rc_X2 hk) md_X2_tell ml_X4_113 (c_X2_tell l hI hk hM (by omega) (by omega) (by decide)) rfl rfl ⟨Nat.le_of_ble_eq_true rfl, Nat.le_of_ble_eq_true rfl⟩ ⟨Nat.le_refl _, Nat.le_refl _⟩ (Nat.le_of_ble_eq_true rfl) dX4_comeBack_22 (fun H locs hR hS => ?_)
  rw [show z 116 - 1 - 0 = z 116 - 1 by omega]
  refine g_callKv C hl.1 hR hS (rc_X5 (gRow_6 hk)) md_X5_write ml_X4_97 (c_zw l hI hM (gRow_6 hk) mB_7 q1) rfl rfl ⟨Nat.le_of_ble_eq_true rfl, Nat.le_of_ble_eq_true rfl⟩ ⟨Nat.le_refl _, Nat.le_refl _⟩ (Nat.le_of_ble_eq_true rfl) dX4_comeBack_25 (fun g hM H locs hR hS => ?_)
  have u116 : fU z (100 + z (117 + 3 * (z 116 - 1))) (z (117 + 3 * (z 116 - 1) + 1)) 116 = z 116 := fU_n _ _ (by omega)
  have u119 : fU z (100 + z (117 + 3 * (z 116 - 1))) (z (117 + 3 * (z 116 - 1) + 1)) (117 + 3 * (z 116 - 1) + 2) = z (117 + 3 * (z 116 - 1) + 2) := fU_n _ _ (by omega)
  refine g_aload_n C hl dX4_comeBack_28 rfl ?_
  refine g_aload_n C hl dX4_comeBack_29 rfl ?_
  refine gt_X4_1 C hk hR fl_X4_21 dX4_comeBack_30 ?_
  refine g_iconst 0 C dX4_comeBack_33 (by decide) ?_
  refine g_iconst 2 C dX4_comeBack_34 (by decide) ?_
  refine g_callVi C hl.1 hR hS (rc_X2 hk) md_X2_tell ml_X4_113 (c_X2_tell l hI hk hM (by rw [u116]; omega) (by rw [u116]; omega) (by decide)) rfl rfl ⟨Nat.le_of_ble_eq_true rfl, Nat.le_of_ble_eq_true rfl⟩ ⟨Nat.le_refl _, Nat.le_refl _⟩ (Nat.le_of_ble_eq_true rfl) dX4_comeBack_35 (fun H locs hR hS => ?_)
  rw [u116, show z 116 - 1 - 0 = z 116 - 1 by omega, u119]
  refine zpt_X4_4 C hk hM hR hS fl_X4_46 dX4_comeBack_38 (fun g hM H locs hR hS => ?_)
  refine g_aload_n C hl dX4_comeBack_41 rfl ?_
  refine gt_X4_1 C hk hR fl_X4_21 dX4_comeBack_42 ?_
  refine g_dup C dX4_comeBack_45 rfl ?_
  refine zgn_X2_1 C hk hM hR fn_X4_58 dX4_comeBack_46 ?_
  rw [fU_n _ _ (show ¬ 116 = 114 by decide), u116]
  refine g_iconst 1 C dX4_comeBack_49 (by decide) ?_
  refine g_isub C dX4_comeBack_50 (by omega) ?_
  refine zpn_X2_1 C hk hM hR hS fn_X4_58 dX4_comeBack_51 (fun g hM H locs hR hS => ?_)
  refine g_vret C hR hS dX4_comeBack_54 ?_
  rw [zBc_eq h0 h116 q1]
  exact ⟨rfl, _, rfl, hM⟩
def zBy (kind n : Nat) : Prop := (2 ≤ kind ∧ kind ≤ 5 ∧ 64 ≤ n) ∨ (kind = 6 ∧ (4 ≤ n / 10 ∨ 8 ≤ n % 10)) ∨ (kind = 7 ∧ 8 ≤ n / 10)
theorem zBy_1 {kind n : Nat} (h : zBy kind n) (z : Nat → Nat) : zWhy z kind n = 3 := if_pos h
theorem zBy_0 {kind n : Nat} (h : ¬ zBy kind n) (z : Nat → Nat) : zWhy z kind n = if kind = 7 ∧ z 116 = 8 then 4 else if kind = 8 ∧ z 116 = 0 then 5 else 0 := if_neg h
def zByD (kind n : Nat) : Nat := if (2 ≤ kind ∧ kind ≤ 5 ∧ 64 ≤ n) ∨ (kind = 6 ∧ (4 ≤ n / 10 ∨ 8 ≤ n % 10)) ∨ (kind = 7 ∧ 8 ≤ n / 10) then 1 else 0
set_option maxRecDepth 100000 in
set_option maxHeartbeats 4000000 in
/-- X4_isBeyond -/
theorem c_X4_isBeyond (l : Launch) {X : gX} (hI : gInj X) {mem : gM} {kind n : Nat} (hkd : kind < 10) (hn : n < 100) : gF l yX4_isBeyond cX4_isBeyond 2 (some .boolean) 0 0 X [.int (nI kind), .int (nI n)] mem (some (.int (nI (zByD kind n)))) mem := by
  refine gMt.of (own := RX4) (by decide) rfl hI (by simp [Value.category]) (Nat.le_of_ble_eq_true rfl) ?_
  intro p e s m args below meth c ls H locs C hnm hl hR hS
  rcases (show kind = 0 ∨ kind = 1 ∨ kind = 2 ∨ kind = 3 ∨ kind = 4 ∨ kind = 5 ∨ kind = 6 ∨ kind = 7 ∨ kind = 8 ∨ kind = 9 by omega) with rfl | rfl | rfl | rfl | rfl | rfl | rfl | rfl | rfl | rfl
  · -- 0
    refine g_iload_n C hl dX4_isBeyond_0 rfl ?_
    refine lv_tableOut (tgt := 90) C.1 C.2.1 dX4_isBeyond_1 (by decide) (by decide) ?_
    refine g_iconst 0 C dX4_isBeyond_90 (by decide) ?_
    refine g_zret C hR hS dX4_isBeyond_91 rfl ?_
    refine ⟨?_, rfl⟩
    first | (rw [show (zByD 0 n) = 1 from if_pos (by omega)]) | (rw [show (zByD 0 n) = 0 from if_neg (by omega)])
  · -- 1
    refine g_iload_n C hl dX4_isBeyond_0 rfl ?_
    refine lv_tableOut (tgt := 90) C.1 C.2.1 dX4_isBeyond_1 (by decide) (by decide) ?_
    refine g_iconst 0 C dX4_isBeyond_90 (by decide) ?_
    refine g_zret C hR hS dX4_isBeyond_91 rfl ?_
    refine ⟨?_, rfl⟩
    first | (rw [show (zByD 1 n) = 1 from if_pos (by omega)]) | (rw [show (zByD 1 n) = 0 from if_neg (by omega)])
  · -- 2
    refine g_iload_n C hl dX4_isBeyond_0 rfl ?_
    refine lv_tableIn (tgt := 40) C.1 C.2.1 dX4_isBeyond_1 (by decide) (by decide) rfl (by decide) ?_
    refine g_iload_n C hl dX4_isBeyond_40 rfl ?_
    refine g_bipush 64 C dX4_isBeyond_41 (by decide) ?_
    refine g_icmp_lt (tgt := 50) C dX4_isBeyond_43 (by decide) (by omega) (by omega) (fun c43 => ?_) (fun c43 => ?_)
    · -- 43 T
      refine g_iconst 0 C dX4_isBeyond_50 (by decide) ?_
      refine g_zret C hR hS dX4_isBeyond_51 rfl ?_
      refine ⟨?_, rfl⟩
      first | (rw [show (zByD 2 n) = 1 from if_pos (by omega)]) | (rw [show (zByD 2 n) = 0 from if_neg (by omega)])
    · -- 43 F
      refine g_iconst 1 C dX4_isBeyond_46 (by decide) ?_
      refine g_goto (tgt := 51) C dX4_isBeyond_47 (by decide) ?_
      refine g_zret C hR hS dX4_isBeyond_51 rfl ?_
      refine ⟨?_, rfl⟩
      first | (rw [show (zByD 2 n) = 1 from if_pos (by omega)]) | (rw [show (zByD 2 n) = 0 from if_neg (by omega)])
  · -- 3
    refine g_iload_n C hl dX4_isBeyond_0 rfl ?_
    refine lv_tableIn (tgt := 40) C.1 C.2.1 dX4_isBeyond_1 (by decide) (by decide) rfl (by decide) ?_
    refine g_iload_n C hl dX4_isBeyond_40 rfl ?_
    refine g_bipush 64 C dX4_isBeyond_41 (by decide) ?_
    refine g_icmp_lt (tgt := 50) C dX4_isBeyond_43 (by decide) (by omega) (by omega) (fun c43 => ?_) (fun c43 => ?_)
    · -- 43 T
      refine g_iconst 0 C dX4_isBeyond_50 (by decide) ?_
      refine g_zret C hR hS dX4_isBeyond_51 rfl ?_
      refine ⟨?_, rfl⟩
      first | (rw [show (zByD 3 n) = 1 from if_pos (by omega)]) | (rw [show (zByD 3 n) = 0 from if_neg (by omega)])
    · -- 43 F
      refine g_iconst 1 C dX4_isBeyond_46 (by decide) ?_
      refine g_goto (tgt := 51) C dX4_isBeyond_47 (by decide) ?_
      refine g_zret C hR hS dX4_isBeyond_51 rfl ?_
      refine ⟨?_, rfl⟩
      first | (rw [show (zByD 3 n) = 1 from if_pos (by omega)]) | (rw [show (zByD 3 n) = 0 from if_neg (by omega)])
  · -- 4
    refine g_iload_n C hl dX4_isBeyond_0 rfl ?_
    refine lv_tableIn (tgt := 40) C.1 C.2.1 dX4_isBeyond_1 (by decide) (by decide) rfl (by decide) ?_
    refine g_iload_n C hl dX4_isBeyond_40 rfl ?_
    refine g_bipush 64 C dX4_isBeyond_41 (by decide) ?_
    refine g_icmp_lt (tgt := 50) C dX4_isBeyond_43 (by decide) (by omega) (by omega) (fun c43 => ?_) (fun c43 => ?_)
    · -- 43 T
      refine g_iconst 0 C dX4_isBeyond_50 (by decide) ?_
      refine g_zret C hR hS dX4_isBeyond_51 rfl ?_
      refine ⟨?_, rfl⟩
      first | (rw [show (zByD 4 n) = 1 from if_pos (by omega)]) | (rw [show (zByD 4 n) = 0 from if_neg (by omega)])
    · -- 43 F
      refine g_iconst 1 C dX4_isBeyond_46 (by decide) ?_
      refine g_goto (tgt := 51) C dX4_isBeyond_47 (by decide) ?_
      refine g_zret C hR hS dX4_isBeyond_51 rfl ?_
      refine ⟨?_, rfl⟩
      first | (rw [show (zByD 4 n) = 1 from if_pos (by omega)]) | (rw [show (zByD 4 n) = 0 from if_neg (by omega)])
  · -- 5
    refine g_iload_n C hl dX4_isBeyond_0 rfl ?_
    refine lv_tableIn (tgt := 40) C.1 C.2.1 dX4_isBeyond_1 (by decide) (by decide) rfl (by decide) ?_
    refine g_iload_n C hl dX4_isBeyond_40 rfl ?_
    refine g_bipush 64 C dX4_isBeyond_41 (by decide) ?_
    refine g_icmp_lt (tgt := 50) C dX4_isBeyond_43 (by decide) (by omega) (by omega) (fun c43 => ?_) (fun c43 => ?_)
    · -- 43 T
      refine g_iconst 0 C dX4_isBeyond_50 (by decide) ?_
      refine g_zret C hR hS dX4_isBeyond_51 rfl ?_
      refine ⟨?_, rfl⟩
      first | (rw [show (zByD 5 n) = 1 from if_pos (by omega)]) | (rw [show (zByD 5 n) = 0 from if_neg (by omega)])
    · -- 43 F
      refine g_iconst 1 C dX4_isBeyond_46 (by decide) ?_
      refine g_goto (tgt := 51) C dX4_isBeyond_47 (by decide) ?_
      refine g_zret C hR hS dX4_isBeyond_51 rfl ?_
      refine ⟨?_, rfl⟩
      first | (rw [show (zByD 5 n) = 1 from if_pos (by omega)]) | (rw [show (zByD 5 n) = 0 from if_neg (by omega)])
  · -- 6
    refine g_iload_n C hl dX4_isBeyond_0 rfl ?_
    refine lv_tableIn (tgt := 52) C.1 C.2.1 dX4_isBeyond_1 (by decide) (by decide) rfl (by decide) ?_
    refine g_iload_n C hl dX4_isBeyond_52 rfl ?_
    refine g_bipush 10 C dX4_isBeyond_53 (by decide) ?_
    refine g_idiv C dX4_isBeyond_55 (by omega) (by decide) (by decide) ?_
    refine g_iconst 4 C dX4_isBeyond_56 (by decide) ?_
    refine g_icmp_ge (tgt := 69) C dX4_isBeyond_57 (by decide) (by omega) (by omega) (fun c57 => ?_) (fun c57 => ?_)
    · -- 57 T
      refine g_iconst 1 C dX4_isBeyond_69 (by decide) ?_
      refine g_goto (tgt := 74) C dX4_isBeyond_70 (by decide) ?_
      refine g_zret C hR hS dX4_isBeyond_74 rfl ?_
      refine ⟨?_, rfl⟩
      first | (rw [show (zByD 6 n) = 1 from if_pos (by omega)]) | (rw [show (zByD 6 n) = 0 from if_neg (by omega)])
    · -- 57 F
      refine g_iload_n C hl dX4_isBeyond_60 rfl ?_
      refine g_bipush 10 C dX4_isBeyond_61 (by decide) ?_
      refine g_irem C dX4_isBeyond_63 (by omega) (by decide) (by decide) ?_
      refine g_bipush 8 C dX4_isBeyond_64 (by decide) ?_
      refine g_icmp_lt (tgt := 73) C dX4_isBeyond_66 (by decide) (by omega) (by omega) (fun c66 => ?_) (fun c66 => ?_)
      · -- 66 T
        refine g_iconst 0 C dX4_isBeyond_73 (by decide) ?_
        refine g_zret C hR hS dX4_isBeyond_74 rfl ?_
        refine ⟨?_, rfl⟩
        first | (rw [show (zByD 6 n) = 1 from if_pos (by omega)]) | (rw [show (zByD 6 n) = 0 from if_neg (by omega)])
      · -- 66 F
        refine g_iconst 1 C dX4_isBeyond_69 (by decide) ?_
        refine g_goto (tgt := 74) C dX4_isBeyond_70 (by decide) ?_
        refine g_zret C hR hS dX4_isBeyond_74 rfl ?_
        refine ⟨?_, rfl⟩
        first | (rw [show (zByD 6 n) = 1 from if_pos (by omega)]) | (rw [show (zByD 6 n) = 0 from if_neg (by omega)])
  · -- 7
    refine g_iload_n C hl dX4_isBeyond_0 rfl ?_
    refine lv_tableIn (tgt := 75) C.1 C.2.1 dX4_isBeyond_1 (by decide) (by decide) rfl (by decide) ?_
    refine g_iload_n C hl dX4_isBeyond_75 rfl ?_
    refine g_bipush 10 C dX4_isBeyond_76 (by decide) ?_
    refine g_idiv C dX4_isBeyond_78 (by omega) (by decide) (by decide) ?_
    refine g_bipush 8 C dX4_isBeyond_79 (by decide) ?_
    refine g_icmp_lt (tgt := 88) C dX4_isBeyond_81 (by decide) (by omega) (by omega) (fun c81 => ?_) (fun c81 => ?_)
    · -- 81 T
      refine g_iconst 0 C dX4_isBeyond_88 (by decide) ?_
      refine g_zret C hR hS dX4_isBeyond_89 rfl ?_
      refine ⟨?_, rfl⟩
      first | (rw [show (zByD 7 n) = 1 from if_pos (by omega)]) | (rw [show (zByD 7 n) = 0 from if_neg (by omega)])
    · -- 81 F
      refine g_iconst 1 C dX4_isBeyond_84 (by decide) ?_
      refine g_goto (tgt := 89) C dX4_isBeyond_85 (by decide) ?_
      refine g_zret C hR hS dX4_isBeyond_89 rfl ?_
      refine ⟨?_, rfl⟩
      first | (rw [show (zByD 7 n) = 1 from if_pos (by omega)]) | (rw [show (zByD 7 n) = 0 from if_neg (by omega)])
  · -- 8
    refine g_iload_n C hl dX4_isBeyond_0 rfl ?_
    refine lv_tableOut (tgt := 90) C.1 C.2.1 dX4_isBeyond_1 (by decide) (by decide) ?_
    refine g_iconst 0 C dX4_isBeyond_90 (by decide) ?_
    refine g_zret C hR hS dX4_isBeyond_91 rfl ?_
    refine ⟨?_, rfl⟩
    first | (rw [show (zByD 8 n) = 1 from if_pos (by omega)]) | (rw [show (zByD 8 n) = 0 from if_neg (by omega)])
  · -- 9
    refine g_iload_n C hl dX4_isBeyond_0 rfl ?_
    refine lv_tableOut (tgt := 90) C.1 C.2.1 dX4_isBeyond_1 (by decide) (by decide) ?_
    refine g_iconst 0 C dX4_isBeyond_90 (by decide) ?_
    refine g_zret C hR hS dX4_isBeyond_91 rfl ?_
    refine ⟨?_, rfl⟩
    first | (rw [show (zByD 9 n) = 1 from if_pos (by omega)]) | (rw [show (zByD 9 n) = 0 from if_neg (by omega)])
set_option maxRecDepth 100000 in
set_option maxHeartbeats 4000000 in
/-- hindranceOf -/
theorem c_X4_hindranceOf (l : Launch) {X : gX} (hI : gInj X) {mem : gM} {k : Nat} (hk : k < 7) {g : Nat → Nat → Nat} {z : Nat → Nat} (hM : mR g z) (h8 : z 116 ≤ 8) {kind n : Nat} (hkd : kind < 10) (hn : n < 100) : gF l yX4_hindranceOf cX4_hindranceOf 3 (some .int) 1 21 X [.ref (gAd X k 0), .int (nI kind), .int (nI n)] (fU mem k g) (some (.int (nI (zWhy z kind n)))) (fU mem k g) := by
  refine gMt.of (own := RX4) (by decide) rfl hI (by simp [Value.category]) (Nat.le_of_ble_eq_true rfl) ?_
  intro p e s m args below meth c ls H locs C hnm hl hR hS
  refine g_iload_n C hl dX4_hindranceOf_0 rfl ?_
  refine g_iload_n C hl dX4_hindranceOf_1 rfl ?_
  refine g_callSi C hl.1 hR hS md_X4_isBeyond ml_X4_82 (c_X4_isBeyond l hI hkd hn) rfl rfl ⟨Nat.le_of_ble_eq_true rfl, Nat.le_of_ble_eq_true rfl⟩ ⟨Nat.le_refl _, Nat.le_refl _⟩ (Nat.le_of_ble_eq_true rfl) dX4_hindranceOf_2 (fun H locs hR hS => ?_)
  refine g_if_eq (tgt := 10) C dX4_hindranceOf_5 (by decide) (by unfold zByD; split <;> decide) (fun c5 => ?_) (fun c5 => ?_)
  · -- 5 T
    refine g_iload_n C hl dX4_hindranceOf_10 rfl ?_
    refine g_bipush 7 C dX4_hindranceOf_11 (by decide) ?_
    refine g_icmp_ne (tgt := 30) C dX4_hindranceOf_13 (by decide) (by omega) (by omega) (fun c13 => ?_) (fun c13 => ?_)
    · -- 13 T
      refine g_iload_n C hl dX4_hindranceOf_30 rfl ?_
      refine g_bipush 8 C dX4_hindranceOf_31 (by decide) ?_
      refine g_icmp_ne (tgt := 48) C dX4_hindranceOf_33 (by decide) (by omega) (by omega) (fun c33 => ?_) (fun c33 => ?_)
      · -- 33 T
        refine g_iconst 0 C dX4_hindranceOf_48 (by decide) ?_
        refine g_iret C hR hS dX4_hindranceOf_49 ?_
        have hb : ¬ zBy kind n := by
          unfold zByD at c5
          split at c5
          · cases c5
          · assumption
        rw [zBy_0 hb z]
        rw [if_neg (by omega)]
        rw [if_neg (by omega)]
        exact ⟨rfl, rfl⟩
      · -- 33 F
        refine g_aload_n C hl dX4_hindranceOf_36 rfl ?_
        refine gt_X4_1 C hk hR fl_X4_21 dX4_hindranceOf_37 ?_
        refine zgn_X2_1 C hk hM hR fn_X4_58 dX4_hindranceOf_40 ?_
        refine g_if_ne (tgt := 48) C dX4_hindranceOf_43 (by decide) (by omega) (fun c43 => ?_) (fun c43 => ?_)
        · -- 43 T
          refine g_iconst 0 C dX4_hindranceOf_48 (by decide) ?_
          refine g_iret C hR hS dX4_hindranceOf_49 ?_
          have hb : ¬ zBy kind n := by
            unfold zByD at c5
            split at c5
            · cases c5
            · assumption
          rw [zBy_0 hb z]
          rw [if_neg (by omega)]
          rw [if_neg (by omega)]
          exact ⟨rfl, rfl⟩
        · -- 43 F
          refine g_iconst 5 C dX4_hindranceOf_46 (by decide) ?_
          refine g_iret C hR hS dX4_hindranceOf_47 ?_
          have hb : ¬ zBy kind n := by
            unfold zByD at c5
            split at c5
            · cases c5
            · assumption
          rw [zBy_0 hb z]
          rw [if_neg (by omega)]
          rw [if_pos (by omega)]
          exact ⟨rfl, rfl⟩
    · -- 13 F
      refine g_aload_n C hl dX4_hindranceOf_16 rfl ?_
      refine gt_X4_1 C hk hR fl_X4_21 dX4_hindranceOf_17 ?_
      refine zgn_X2_1 C hk hM hR fn_X4_58 dX4_hindranceOf_20 ?_
      refine g_bipush 8 C dX4_hindranceOf_23 (by decide) ?_
      refine g_icmp_lt (tgt := 30) C dX4_hindranceOf_25 (by decide) (by omega) (by omega) (fun c25 => ?_) (fun c25 => ?_)
      · -- 25 T
        refine g_iload_n C hl dX4_hindranceOf_30 rfl ?_
        refine g_bipush 8 C dX4_hindranceOf_31 (by decide) ?_
        refine g_icmp_ne (tgt := 48) C dX4_hindranceOf_33 (by decide) (by omega) (by omega) (fun c33 => ?_) (fun c33 => ?_)
        · -- 33 T
          refine g_iconst 0 C dX4_hindranceOf_48 (by decide) ?_
          refine g_iret C hR hS dX4_hindranceOf_49 ?_
          have hb : ¬ zBy kind n := by
            unfold zByD at c5
            split at c5
            · cases c5
            · assumption
          rw [zBy_0 hb z]
          rw [if_neg (by omega)]
          rw [if_neg (by omega)]
          exact ⟨rfl, rfl⟩
        · -- 33 F
          refine g_aload_n C hl dX4_hindranceOf_36 rfl ?_
          refine gt_X4_1 C hk hR fl_X4_21 dX4_hindranceOf_37 ?_
          refine zgn_X2_1 C hk hM hR fn_X4_58 dX4_hindranceOf_40 ?_
          refine g_if_ne (tgt := 48) C dX4_hindranceOf_43 (by decide) (by omega) (fun c43 => ?_) (fun c43 => ?_)
          · -- 43 T
            refine g_iconst 0 C dX4_hindranceOf_48 (by decide) ?_
            refine g_iret C hR hS dX4_hindranceOf_49 ?_
            have hb : ¬ zBy kind n := by
              unfold zByD at c5
              split at c5
              · cases c5
              · assumption
            rw [zBy_0 hb z]
            rw [if_neg (by omega)]
            rw [if_neg (by omega)]
            exact ⟨rfl, rfl⟩
          · -- 43 F
            refine g_iconst 5 C dX4_hindranceOf_46 (by decide) ?_
            refine g_iret C hR hS dX4_hindranceOf_47 ?_
            have hb : ¬ zBy kind n := by
              unfold zByD at c5
              split at c5
              · cases c5
              · assumption
            rw [zBy_0 hb z]
            rw [if_neg (by omega)]
            rw [if_pos (by omega)]
            exact ⟨rfl, rfl⟩
      · -- 25 F
        refine g_iconst 4 C dX4_hindranceOf_28 (by decide) ?_
        refine g_iret C hR hS dX4_hindranceOf_29 ?_
        have hb : ¬ zBy kind n := by
          unfold zByD at c5
          split at c5
          · cases c5
          · assumption
        rw [zBy_0 hb z]
        rw [if_pos (by omega)]
        exact ⟨rfl, rfl⟩
  · -- 5 F
    refine g_iconst 3 C dX4_hindranceOf_8 (by decide) ?_
    refine g_iret C hR hS dX4_hindranceOf_9 ?_
    have hb : zBy kind n := by
      unfold zByD at c5
      split at c5
      · assumption
      · exact absurd rfl c5
    rw [zBy_1 hb z]
    exact ⟨rfl, rfl⟩
