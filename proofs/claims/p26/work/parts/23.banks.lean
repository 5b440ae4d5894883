/-! ===== Banks ===== -/
set_option maxRecDepth 100000 in
set_option maxHeartbeats 4000000 in
/-- indexOf -/
theorem c_X0_indexOf (l : Launch) {X : gX} (hI : gInj X) {mem : gM} {b c9 : Nat} (hb : b < 8) (hc : c9 < 16) : gF l yX0_indexOf cX0_indexOf 2 (some .int) 0 0 X [.int (nI b), .int (nI c9)] mem (some (.int (nI (zIx b c9)))) mem := by
  refine gMt.of (own := RX0) (by decide) rfl hI (by simp [Value.category]) (Nat.le_of_ble_eq_true rfl) ?_
  intro p e s m args below meth c ls H locs C hnm hl hR hS
  refine g_iload_n C hl dX0_indexOf_0 rfl ?_
  refine g_bipush 12 C dX0_indexOf_1 (by decide) ?_
  refine g_icmp_ge (tgt := 15) C dX0_indexOf_3 (by decide) (by omega) (by omega) (fun c3 => ?_) (fun c3 => ?_)
  · -- 3 T
    refine g_bipush 96 C dX0_indexOf_15 (by decide) ?_
    refine g_iload_n C hl dX0_indexOf_17 rfl ?_
    refine g_iadd C dX0_indexOf_18 ?_
    refine g_bipush 12 C dX0_indexOf_19 (by decide) ?_
    refine g_isub C dX0_indexOf_21 (by omega) ?_
    refine g_iret C hR hS dX0_indexOf_22 ?_
    refine ⟨?_, rfl⟩
    unfold zIx
    rw [if_neg (by omega), show 96 + c9 - 12 = 84 + c9 by omega]
  · -- 3 F
    refine g_iload_n C hl dX0_indexOf_6 rfl ?_
    refine g_bipush 12 C dX0_indexOf_7 (by decide) ?_
    refine g_imul C dX0_indexOf_9 ?_
    refine g_iload_n C hl dX0_indexOf_10 rfl ?_
    refine g_iadd C dX0_indexOf_11 ?_
    refine g_goto (tgt := 22) C dX0_indexOf_12 (by decide) ?_
    refine g_iret C hR hS dX0_indexOf_22 ?_
    refine ⟨?_, rfl⟩
    unfold zIx
    rw [if_pos (by omega), Nat.mul_comm]
set_option maxRecDepth 100000 in
set_option maxHeartbeats 4000000 in
/-- numberIn -/
theorem c_X0_numberIn (l : Launch) {X : gX} (hI : gInj X) {mem : gM} {k : Nat} (hk : k < 7) {g : Nat → Nat → Nat} {z : Nat → Nat} (hM : mR g z) {b c9 : Nat} (hb : b < 8) (hc : c9 < 16) : gF l yX0_numberIn cX0_numberIn 3 (some .int) 1 21 X [.ref (gAd X k 1), .int (nI b), .int (nI c9)] (fU mem k g) (some (.int (nI (z (zIx b c9))))) (fU mem k g) := by
  refine gMt.of (own := RX0) (by decide) rfl hI (by simp [Value.category]) (Nat.le_of_ble_eq_true rfl) ?_
  intro p e s m args below meth c ls H locs C hnm hl hR hS
  refine g_aload_n C hl dX0_numberIn_0 rfl ?_
  refine gt_X0_0 C hk hR fl_X0_14 dX0_numberIn_1 ?_
  refine g_iload_n C hl dX0_numberIn_4 rfl ?_
  refine g_iload_n C hl dX0_numberIn_5 rfl ?_
  refine g_callSi C hl.1 hR hS md_X0_indexOf ml_X0_40 (c_X0_indexOf l hI hb hc) rfl rfl ⟨Nat.le_of_ble_eq_true rfl, Nat.le_of_ble_eq_true rfl⟩ ⟨Nat.le_refl _, Nat.le_refl _⟩ (Nat.le_of_ble_eq_true rfl) dX0_numberIn_6 (fun H locs hR hS => ?_)
  refine g_callVi C hl.1 hR hS (rc_X5 (gRow_2 hk)) md_X5_read ml_X0_44 (c_zr l hI hM (gRow_2 hk) mB_3 (zIx_lt hb hc)) rfl rfl ⟨Nat.le_of_ble_eq_true rfl, Nat.le_of_ble_eq_true rfl⟩ ⟨Nat.le_refl _, Nat.le_refl _⟩ (Nat.le_of_ble_eq_true rfl) dX0_numberIn_9 (fun H locs hR hS => ?_)
  rw [Nat.zero_add (zIx b c9)]
  refine g_iret C hR hS dX0_numberIn_12 ?_
  exact ⟨rfl, rfl⟩
set_option maxRecDepth 100000 in
set_option maxHeartbeats 4000000 in
/-- fill -/
theorem c_X0_fill (l : Launch) {X : gX} (hI : gInj X) {mem : gM} {k : Nat} (hk : k < 7) {g : Nat → Nat → Nat} {z : Nat → Nat} (hM : mR g z) {b c9 : Nat} (hb : b < 8) (hc : c9 < 16) {x : Nat} : gMt l yX0_fill cX0_fill 4 none 1 22 X [.ref (gAd X k 1), .int (nI b), .int (nI c9), .int (nI x)] (fU mem k g) (mP mem k (fU z (zIx b c9) x) none) := by
  refine gMt.of (own := RX0) (by decide) rfl hI (by simp [Value.category]) (Nat.le_of_ble_eq_true rfl) ?_
  intro p e s m args below meth c ls H locs C hnm hl hR hS
  refine g_aload_n C hl dX0_fill_0 rfl ?_
  refine gt_X0_0 C hk hR fl_X0_14 dX0_fill_1 ?_
  refine g_iload_n C hl dX0_fill_4 rfl ?_
  refine g_iload_n C hl dX0_fill_5 rfl ?_
  refine g_callSi C hl.1 hR hS md_X0_indexOf ml_X0_40 (c_X0_indexOf l hI hb hc) rfl rfl ⟨Nat.le_of_ble_eq_true rfl, Nat.le_of_ble_eq_true rfl⟩ ⟨Nat.le_refl _, Nat.le_refl _⟩ (Nat.le_of_ble_eq_true rfl) dX0_fill_6 (fun H locs hR hS => ?_)
  refine g_iload_n C hl dX0_fill_9 rfl ?_
  refine g_callKv C hl.1 hR hS (rc_X5 (gRow_2 hk)) md_X5_write ml_X0_32 (c_zw l hI hM (gRow_2 hk) mB_3 (zIx_lt hb hc)) rfl rfl ⟨Nat.le_of_ble_eq_true rfl, Nat.le_of_ble_eq_true rfl⟩ ⟨Nat.le_refl _, Nat.le_refl _⟩ (Nat.le_of_ble_eq_true rfl) dX0_fill_10 (fun g hM H locs hR hS => ?_)
  rw [Nat.zero_add] at hM
  refine g_vret C hR hS dX0_fill_13 ?_
  exact ⟨rfl, _, rfl, hM⟩
set_option maxRecDepth 100000 in
set_option maxHeartbeats 4000000 in
/-- bankAt -/
theorem c_X0_bankAt (l : Launch) {X : gX} (hI : gInj X) {mem : gM} {k : Nat} (hk : k < 7) {g : Nat → Nat → Nat} {z : Nat → Nat} (hM : mR g z) {a : Nat} (ha : a < 64) : gF l yX0_bankAt cX0_bankAt 2 (some .int) 1 21 X [.ref (gAd X k 1), .int (nI a)] (fU mem k g) (some (.int (nI (zBk z a)))) (fU mem k g) := by
  refine gMt.of (own := RX0) (by decide) rfl hI (by simp [Value.category]) (Nat.le_of_ble_eq_true rfl) ?_
  intro p e s m args below meth c ls H locs C hnm hl hR hS
  refine g_aload_n C hl dX0_bankAt_0 rfl ?_
  refine gt_X0_2 C hk hR fl_X0_23 dX0_bankAt_1 ?_
  refine g_iload_n C hl dX0_bankAt_4 rfl ?_
  refine g_bipush 16 C dX0_bankAt_5 (by decide) ?_
  refine g_idiv C dX0_bankAt_7 (by omega) (by decide) (by decide) ?_
  refine g_callVi C hl.1 hR hS (rc_X5 (gRow_6 hk)) md_X5_read ml_X0_44 (c_zr l hI hM (gRow_6 hk) mB_7 (by omega)) rfl rfl ⟨Nat.le_of_ble_eq_true rfl, Nat.le_of_ble_eq_true rfl⟩ ⟨Nat.le_refl _, Nat.le_refl _⟩ (Nat.le_of_ble_eq_true rfl) dX0_bankAt_8 (fun H locs hR hS => ?_)
  refine g_iret C hR hS dX0_bankAt_11 ?_
  exact ⟨rfl, rfl⟩
set_option maxRecDepth 100000 in
set_option maxHeartbeats 4000000 in
/-- numberAt -/
theorem c_X0_numberAt (l : Launch) {X : gX} (hI : gInj X) {mem : gM} {k : Nat} (hk : k < 7) {g : Nat → Nat → Nat} {z : Nat → Nat} (hM : mR g z) (hz : zI z) {a : Nat} (ha : a < 64) : gF l yX0_numberAt cX0_numberAt 2 (some .int) 2 43 X [.ref (gAd X k 1), .int (nI a)] (fU mem k g) (some (.int (nI (z (zAt z a))))) (fU mem k g) := by
  refine gMt.of (own := RX0) (by decide) rfl hI (by simp [Value.category]) (Nat.le_of_ble_eq_true rfl) ?_
  intro p e s m args below meth c ls H locs C hnm hl hR hS
  refine g_aload_n C hl dX0_numberAt_0 rfl ?_
  refine g_aload_n C hl dX0_numberAt_1 rfl ?_
  refine g_iload_n C hl dX0_numberAt_2 rfl ?_
  refine g_callVi C hl.1 hR hS (rc_X0 hk) md_X0_bankAt ml_X0_48 (c_X0_bankAt l hI hk hM ha) rfl rfl ⟨Nat.le_of_ble_eq_true rfl, Nat.le_of_ble_eq_true rfl⟩ ⟨Nat.le_refl _, Nat.le_refl _⟩ (Nat.le_of_ble_eq_true rfl) dX0_numberAt_3 (fun H locs hR hS => ?_)
  refine g_iload_n C hl dX0_numberAt_6 rfl ?_
  refine g_bipush 16 C dX0_numberAt_7 (by decide) ?_
  refine g_irem C dX0_numberAt_9 (by omega) (by decide) (by decide) ?_
  refine g_callVi C hl.1 hR hS (rc_X0 hk) md_X0_numberIn ml_X0_51 (c_X0_numberIn l hI hk hM (hz.bk ha) (Nat.mod_lt _ (by decide))) rfl rfl ⟨Nat.le_of_ble_eq_true rfl, Nat.le_of_ble_eq_true rfl⟩ ⟨Nat.le_refl _, Nat.le_refl _⟩ (Nat.le_of_ble_eq_true rfl) dX0_numberAt_10 (fun H locs hR hS => ?_)
  refine g_iret C hR hS dX0_numberAt_13 ?_
  exact ⟨rfl, rfl⟩
set_option maxRecDepth 100000 in
set_option maxHeartbeats 4000000 in
/-- isAlone -/
theorem c_X0_isAlone (l : Launch) {X : gX} (hI : gInj X) {mem : gM} {k : Nat} (hk : k < 7) {g : Nat → Nat → Nat} {z : Nat → Nat} (hM : mR g z) (hz : zI z) {b : Nat} (hb : b < 8) : gF l yX0_isAlone cX0_isAlone 2 (some .boolean) 1 21 X [.ref (gAd X k 1), .int (nI b)] (fU mem k g) (some (.int (nI (z (104 + b))))) (fU mem k g) := by
  refine gMt.of (own := RX0) (by decide) rfl hI (by simp [Value.category]) (Nat.le_of_ble_eq_true rfl) ?_
  intro p e s m args below meth c ls H locs C hnm hl hR hS
  have h2 := hz.2.2.1 b hb
  refine g_aload_n C hl dX0_isAlone_0 rfl ?_
  refine gt_X0_1 C hk hR fl_X0_20 dX0_isAlone_1 ?_
  refine g_iload_n C hl dX0_isAlone_4 rfl ?_
  refine g_callVi C hl.1 hR hS (rc_X5 (gRow_4 hk)) md_X5_read ml_X0_44 (c_zr l hI hM (gRow_4 hk) mB_5 hb) rfl rfl ⟨Nat.le_of_ble_eq_true rfl, Nat.le_of_ble_eq_true rfl⟩ ⟨Nat.le_refl _, Nat.le_refl _⟩ (Nat.le_of_ble_eq_true rfl) dX0_isAlone_5 (fun H locs hR hS => ?_)
  refine g_iconst 1 C dX0_isAlone_8 (by decide) ?_
  refine g_icmp_ne (tgt := 16) C dX0_isAlone_9 (by decide) (by omega) (by omega) (fun c9 => ?_) (fun c9 => ?_)
  · -- 9 T
    refine g_iconst 0 C dX0_isAlone_16 (by decide) ?_
    refine g_zret C hR hS dX0_isAlone_17 rfl ?_
    exact ⟨by rw [show z (104 + b) = 0 by omega], rfl⟩
  · -- 9 F
    refine g_iconst 1 C dX0_isAlone_12 (by decide) ?_
    refine g_goto (tgt := 17) C dX0_isAlone_13 (by decide) ?_
    refine g_zret C hR hS dX0_isAlone_17 rfl ?_
    exact ⟨by rw [show z (104 + b) = 1 by omega], rfl⟩
set_option maxRecDepth 100000 in
set_option maxHeartbeats 4000000 in
/-- c_X0_store1 -/
theorem c_X0_store1 (l : Launch) {X : gX} (hI : gInj X) {mem : gM} {k : Nat} (hk : k < 7) {g : Nat → Nat → Nat} {z : Nat → Nat} (hM : mR g z) (hz : zI z) {a x : Nat} (ha : a < 64) (h1 : z (104 + zBk z a) = 1) : gMt l yX0_storeUnlessAlone cX0_storeUnlessAlone 4 (some .boolean) 2 45 X [.ref (gAd X k 1), .int (nI a), .int (nI x)] (fU mem k g) (mP mem k (fU z (190 + zBk z a) (z (190 + zBk z a) + 1)) (some (.int (nI 0)))) := by
  refine gMt.of (own := RX0) (by decide) rfl hI (by simp [Value.category]) (Nat.le_of_ble_eq_true rfl) ?_
  intro p e s m args below meth c ls H locs C hnm hl hR hS
  have hb := hz.bk ha
  refine g_aload_n C hl dX0_storeUnlessAlone_0 rfl ?_
  refine g_iload_n C hl dX0_storeUnlessAlone_1 rfl ?_
  refine g_callVi C hl.1 hR hS (rc_X0 hk) md_X0_bankAt ml_X0_48 (c_X0_bankAt l hI hk hM ha) rfl rfl ⟨Nat.le_of_ble_eq_true rfl, Nat.le_of_ble_eq_true rfl⟩ ⟨Nat.le_refl _, Nat.le_refl _⟩ (Nat.le_of_ble_eq_true rfl) dX0_storeUnlessAlone_2 (fun H locs hR hS => ?_)
  refine g_istore_n C hl dX0_storeUnlessAlone_5 (Nat.le_of_ble_eq_true rfl) (fun ls hl => ?_)
  refine g_aload_n C hl dX0_storeUnlessAlone_6 rfl ?_
  refine g_iload_n C hl dX0_storeUnlessAlone_7 rfl ?_
  refine g_callVi C hl.1 hR hS (rc_X0 hk) md_X0_isAlone ml_X0_54 (c_X0_isAlone l hI hk hM hz hb) rfl rfl ⟨Nat.le_of_ble_eq_true rfl, Nat.le_of_ble_eq_true rfl⟩ ⟨Nat.le_refl _, Nat.le_refl _⟩ (Nat.le_of_ble_eq_true rfl) dX0_storeUnlessAlone_8 (fun H locs hR hS => ?_)
  refine g_if_eq (tgt := 34) C dX0_storeUnlessAlone_11 (by decide) (by have := hz.2.2.1 _ hb; omega) (fun z9 => absurd z9 (by omega)) (fun c11 => ?_)
  refine g_aload_n C hl dX0_storeUnlessAlone_14 rfl ?_
  refine gt_X0_4 C hk hR fl_X0_29 dX0_storeUnlessAlone_15 ?_
  refine g_iload_n C hl dX0_storeUnlessAlone_18 rfl ?_
  refine g_aload_n C hl dX0_storeUnlessAlone_19 rfl ?_
  refine gt_X0_4 C hk hR fl_X0_29 dX0_storeUnlessAlone_20 ?_
  refine g_iload_n C hl dX0_storeUnlessAlone_23 rfl ?_
  refine g_callVi C hl.1 hR hS (rc_X5 (gRow_10 hk)) md_X5_read ml_X0_44 (c_zr l hI hM (gRow_10 hk) mB_11 hb) rfl rfl ⟨Nat.le_of_ble_eq_true rfl, Nat.le_of_ble_eq_true rfl⟩ ⟨Nat.le_refl _, Nat.le_refl _⟩ (Nat.le_of_ble_eq_true rfl) dX0_storeUnlessAlone_24 (fun H locs hR hS => ?_)
  refine g_iconst 1 C dX0_storeUnlessAlone_27 (by decide) ?_
  refine g_iadd C dX0_storeUnlessAlone_28 ?_
  refine g_callKv C hl.1 hR hS (rc_X5 (gRow_10 hk)) md_X5_write ml_X0_32 (c_zw l hI hM (gRow_10 hk) mB_11 hb) rfl rfl ⟨Nat.le_of_ble_eq_true rfl, Nat.le_of_ble_eq_true rfl⟩ ⟨Nat.le_refl _, Nat.le_refl _⟩ (Nat.le_of_ble_eq_true rfl) dX0_storeUnlessAlone_29 (fun g hM H locs hR hS => ?_)
  refine g_iconst 0 C dX0_storeUnlessAlone_32 (by decide) ?_
  refine g_zret C hR hS dX0_storeUnlessAlone_33 rfl ?_
  exact ⟨rfl, _, rfl, hM⟩
set_option maxRecDepth 100000 in
set_option maxHeartbeats 4000000 in
/-- c_X0_store0 -/
theorem c_X0_store0 (l : Launch) {X : gX} (hI : gInj X) {mem : gM} {k : Nat} (hk : k < 7) {g : Nat → Nat → Nat} {z : Nat → Nat} (hM : mR g z) (hz : zI z) {a x : Nat} (ha : a < 64) (h1 : z (104 + zBk z a) = 0) : gMt l yX0_storeUnlessAlone cX0_storeUnlessAlone 4 (some .boolean) 2 45 X [.ref (gAd X k 1), .int (nI a), .int (nI x)] (fU mem k g) (mP mem k (fU (fU z (zAt z a) x) (182 + zBk z a) (fU z (zAt z a) x (182 + zBk z a) + 1)) (some (.int (nI 1)))) := by
  refine gMt.of (own := RX0) (by decide) rfl hI (by simp [Value.category]) (Nat.le_of_ble_eq_true rfl) ?_
  intro p e s m args below meth c ls H locs C hnm hl hR hS
  have hb := hz.bk ha
  refine g_aload_n C hl dX0_storeUnlessAlone_0 rfl ?_
  refine g_iload_n C hl dX0_storeUnlessAlone_1 rfl ?_
  refine g_callVi C hl.1 hR hS (rc_X0 hk) md_X0_bankAt ml_X0_48 (c_X0_bankAt l hI hk hM ha) rfl rfl ⟨Nat.le_of_ble_eq_true rfl, Nat.le_of_ble_eq_true rfl⟩ ⟨Nat.le_refl _, Nat.le_refl _⟩ (Nat.le_of_ble_eq_true rfl) dX0_storeUnlessAlone_2 (fun H locs hR hS => ?_)
  refine g_istore_n C hl dX0_storeUnlessAlone_5 (Nat.le_of_ble_eq_true rfl) (fun ls hl => ?_)
  refine g_aload_n C hl dX0_storeUnlessAlone_6 rfl ?_
  refine g_iload_n C hl dX0_storeUnlessAlone_7 rfl ?_
  refine g_callVi C hl.1 hR hS (rc_X0 hk) md_X0_isAlone ml_X0_54 (c_X0_isAlone l hI hk hM hz hb) rfl rfl ⟨Nat.le_of_ble_eq_true rfl, Nat.le_of_ble_eq_true rfl⟩ ⟨Nat.le_refl _, Nat.le_refl _⟩ (Nat.le_of_ble_eq_true rfl) dX0_storeUnlessAlone_8 (fun H locs hR hS => ?_)
  refine g_if_eq (tgt := 34) C dX0_storeUnlessAlone_11 (by decide) (by have := hz.2.2.1 _ hb; omega) (fun c11 => ?_) (fun z9 => absurd z9 (by omega))
  refine g_aload_n C hl dX0_storeUnlessAlone_34 rfl ?_
  refine g_iload_n C hl dX0_storeUnlessAlone_35 rfl ?_
  refine g_iload_n C hl dX0_storeUnlessAlone_36 rfl ?_
  refine g_bipush 16 C dX0_storeUnlessAlone_37 (by decide) ?_
  refine g_irem C dX0_storeUnlessAlone_39 (by omega) (by decide) (by decide) ?_
  refine g_iload_n C hl dX0_storeUnlessAlone_40 rfl ?_
  refine g_callKv C hl.1 hR hS (rc_X0 hk) md_X0_fill ml_X0_58 (c_X0_fill l hI hk hM hb (Nat.mod_lt _ (by decide))) rfl rfl ⟨Nat.le_of_ble_eq_true rfl, Nat.le_of_ble_eq_true rfl⟩ ⟨Nat.le_refl _, Nat.le_refl _⟩ (Nat.le_of_ble_eq_true rfl) dX0_storeUnlessAlone_41 (fun g hM H locs hR hS => ?_)
  refine g_aload_n C hl dX0_storeUnlessAlone_44 rfl ?_
  refine gt_X0_3 C hk hR fl_X0_26 dX0_storeUnlessAlone_45 ?_
  refine g_iload_n C hl dX0_storeUnlessAlone_48 rfl ?_
  refine g_aload_n C hl dX0_storeUnlessAlone_49 rfl ?_
  refine gt_X0_3 C hk hR fl_X0_26 dX0_storeUnlessAlone_50 ?_
  refine g_iload_n C hl dX0_storeUnlessAlone_53 rfl ?_
  refine g_callVi C hl.1 hR hS (rc_X5 (gRow_8 hk)) md_X5_read ml_X0_44 (c_zr l hI hM (gRow_8 hk) mB_9 hb) rfl rfl ⟨Nat.le_of_ble_eq_true rfl, Nat.le_of_ble_eq_true rfl⟩ ⟨Nat.le_refl _, Nat.le_refl _⟩ (Nat.le_of_ble_eq_true rfl) dX0_storeUnlessAlone_54 (fun H locs hR hS => ?_)
  refine g_iconst 1 C dX0_storeUnlessAlone_57 (by decide) ?_
  refine g_iadd C dX0_storeUnlessAlone_58 ?_
  refine g_callKv C hl.1 hR hS (rc_X5 (gRow_8 hk)) md_X5_write ml_X0_32 (c_zw l hI hM (gRow_8 hk) mB_9 hb) rfl rfl ⟨Nat.le_of_ble_eq_true rfl, Nat.le_of_ble_eq_true rfl⟩ ⟨Nat.le_refl _, Nat.le_refl _⟩ (Nat.le_of_ble_eq_true rfl) dX0_storeUnlessAlone_59 (fun g hM H locs hR hS => ?_)
  refine g_iconst 1 C dX0_storeUnlessAlone_62 (by decide) ?_
  refine g_zret C hR hS dX0_storeUnlessAlone_63 rfl ?_
  exact ⟨rfl, _, rfl, hM⟩
set_option maxRecDepth 100000 in
set_option maxHeartbeats 4000000 in
/-- X0_differencesOf -/
theorem c_X0_differencesOf (l : Launch) {X : gX} (hI : gInj X) {mem : gM} {k : Nat} (hk : k < 7) {g : Nat → Nat → Nat} {z : Nat → Nat} (hM : mR g z) (hz : zI z) {fr9 to : Nat} (hf : fr9 < 8) (ht : to < 8) : gF l yX0_differencesOf cX0_differencesOf 5 (some .int) 2 43 X [.ref (gAd X k 1), .int (nI fr9), .int (nI to)] (fU mem k g) (some (.int (nI (zUn z fr9 to 12)))) (fU mem k g) := by
  refine gMt.of (own := RX0) (by decide) rfl hI (by simp [Value.category]) (Nat.le_of_ble_eq_true rfl) ?_
  intro p e s m args below meth c ls H locs C hnm hl hR hS
  have loop : ∀ (d i : Nat), i + d = 12 → ∀ (ls : Array Slot) (H : Heap) (locs : List Loc), gL ls [some (.ref (gAd X k 1)), some (.int (nI fr9)), some (.int (nI to)), some (.int (nI (zUn z fr9 to i))), some (.int (nI i))] → gRep X (fU mem k g) H → va_S (gA X) s.heap H locs → W p l e { frames := 2, cells := 0, slots := 0, locals := 43 } s m args below meth c H locs 0 0 (MQ below (gQ X (fun v m => v = some (.int (nI (zUn z fr9 to 12))) ∧ m = fU mem k g)) args s 0 0 (gA X)) (F0 m 5 ls []) := by
    intro d
    induction d with
    | zero =>
      intro i hi  ls H locs  hl hR hS
      have hi2 : i = 12 := by omega
      subst hi2
      refine g_iload C hl dX0_differencesOf_5 rfl ?_
      refine g_bipush 12 C dX0_differencesOf_7 (by decide) ?_
      refine g_icmp_ge (tgt := 38) C dX0_differencesOf_9 (by decide) (by omega) (by omega) (fun c9 => ?_) (fun z9 => absurd z9 (by omega))
      refine g_iload_n C hl dX0_differencesOf_38 rfl ?_
      refine g_iret C hR hS dX0_differencesOf_39 ?_
      exact ⟨rfl, rfl⟩
    | succ d ih =>
      intro i hi  ls H locs  hl hR hS
      refine g_iload C hl dX0_differencesOf_5 rfl ?_
      refine g_bipush 12 C dX0_differencesOf_7 (by decide) ?_
      refine g_icmp_ge (tgt := 38) C dX0_differencesOf_9 (by decide) (by omega) (by omega) (fun z9 => absurd z9 (by omega)) (fun c9 => ?_)
      refine g_aload_n C hl dX0_differencesOf_12 rfl ?_
      refine g_iload_n C hl dX0_differencesOf_13 rfl ?_
      refine g_iload C hl dX0_differencesOf_14 rfl ?_
      refine g_callVi C hl.1 hR hS (rc_X0 hk) md_X0_numberIn ml_X0_51 (c_X0_numberIn l hI hk hM hf (by omega)) rfl rfl ⟨Nat.le_of_ble_eq_true rfl, Nat.le_of_ble_eq_true rfl⟩ ⟨Nat.le_refl _, Nat.le_refl _⟩ (Nat.le_of_ble_eq_true rfl) dX0_differencesOf_16 (fun H locs hR hS => ?_)
      refine g_aload_n C hl dX0_differencesOf_19 rfl ?_
      refine g_iload_n C hl dX0_differencesOf_20 rfl ?_
      refine g_iload C hl dX0_differencesOf_21 rfl ?_
      refine g_callVi C hl.1 hR hS (rc_X0 hk) md_X0_numberIn ml_X0_51 (c_X0_numberIn l hI hk hM ht (by omega)) rfl rfl ⟨Nat.le_of_ble_eq_true rfl, Nat.le_of_ble_eq_true rfl⟩ ⟨Nat.le_refl _, Nat.le_refl _⟩ (Nat.le_of_ble_eq_true rfl) dX0_differencesOf_23 (fun H locs hR hS => ?_)
      refine g_icmp_eq (tgt := 32) C dX0_differencesOf_26 (by decide) (by have := hz.1 _ (zIx_lt (b := fr9) (c := i) (by omega) (by omega)); omega) (by have := hz.1 _ (zIx_lt (b := to) (c := i) (by omega) (by omega)); omega) (fun c26 => ?_) (fun c26 => ?_)
      · -- 26 T
        refine g_iinc (k := 1) C hl dX0_differencesOf_32 rfl (by decide) (fun ls hl => ?_)
        refine g_goto (tgt := 5) C dX0_differencesOf_35 (by decide) ?_
        have e9 : zUn z fr9 to (i + 1) = zUn z fr9 to i + (if z (zIx fr9 i) = z (zIx to i) then 0 else 1) := rfl
        first | rw [if_pos c26, Nat.add_zero (zUn z fr9 to i)] at e9 | rw [if_neg c26] at e9
        rw [← e9] at hl
        refine ih (i + 1) (by omega)  ls H locs hl ?_ hS
        exact hR
      · -- 26 F
        refine g_iinc (k := 1) C hl dX0_differencesOf_29 rfl (by decide) (fun ls hl => ?_)
        refine g_iinc (k := 1) C hl dX0_differencesOf_32 rfl (by decide) (fun ls hl => ?_)
        refine g_goto (tgt := 5) C dX0_differencesOf_35 (by decide) ?_
        have e9 : zUn z fr9 to (i + 1) = zUn z fr9 to i + (if z (zIx fr9 i) = z (zIx to i) then 0 else 1) := rfl
        first | rw [if_pos c26, Nat.add_zero (zUn z fr9 to i)] at e9 | rw [if_neg c26] at e9
        rw [← e9] at hl
        refine ih (i + 1) (by omega)  ls H locs hl ?_ hS
        exact hR
  refine g_iconst 0 C dX0_differencesOf_0 (by decide) ?_
  refine g_istore_n C hl dX0_differencesOf_1 (Nat.le_of_ble_eq_true rfl) (fun ls hl => ?_)
  refine g_iconst 0 C dX0_differencesOf_2 (by decide) ?_
  refine g_istore C hl dX0_differencesOf_3 (Nat.le_of_ble_eq_true rfl) (fun ls hl => ?_)
  exact loop 12 0 (by omega) _ _ _ hl hR hS
set_option maxRecDepth 100000 in
set_option maxHeartbeats 4000000 in
/-- X0_usedCellsOf -/
theorem c_X0_usedCellsOf (l : Launch) {X : gX} (hI : gInj X) {mem : gM} {k : Nat} (hk : k < 7) {g : Nat → Nat → Nat} {z : Nat → Nat} (hM : mR g z) (hz : zI z) {b : Nat} (hb : b < 8) : gF l yX0_usedCellsOf cX0_usedCellsOf 4 (some .int) 2 43 X [.ref (gAd X k 1), .int (nI b)] (fU mem k g) (some (.int (nI (zFil z b 12)))) (fU mem k g) := by
  refine gMt.of (own := RX0) (by decide) rfl hI (by simp [Value.category]) (Nat.le_of_ble_eq_true rfl) ?_
  intro p e s m args below meth c ls H locs C hnm hl hR hS
  have loop : ∀ (d i : Nat), i + d = 12 → ∀ (ls : Array Slot) (H : Heap) (locs : List Loc), gL ls [some (.ref (gAd X k 1)), some (.int (nI b)), some (.int (nI (zFil z b i))), some (.int (nI i))] → gRep X (fU mem k g) H → va_S (gA X) s.heap H locs → W p l e { frames := 2, cells := 0, slots := 0, locals := 43 } s m args below meth c H locs 0 0 (MQ below (gQ X (fun v m => v = some (.int (nI (zFil z b 12))) ∧ m = fU mem k g)) args s 0 0 (gA X)) (F0 m 4 ls []) := by
    intro d
    induction d with
    | zero =>
      intro i hi  ls H locs  hl hR hS
      have hi2 : i = 12 := by omega
      subst hi2
      refine g_iload_n C hl dX0_usedCellsOf_4 rfl ?_
      refine g_bipush 12 C dX0_usedCellsOf_5 (by decide) ?_
      refine g_icmp_ge (tgt := 28) C dX0_usedCellsOf_7 (by decide) (by omega) (by omega) (fun c7 => ?_) (fun z9 => absurd z9 (by omega))
      refine g_iload_n C hl dX0_usedCellsOf_28 rfl ?_
      refine g_iret C hR hS dX0_usedCellsOf_29 ?_
      exact ⟨rfl, rfl⟩
    | succ d ih =>
      intro i hi  ls H locs  hl hR hS
      refine g_iload_n C hl dX0_usedCellsOf_4 rfl ?_
      refine g_bipush 12 C dX0_usedCellsOf_5 (by decide) ?_
      refine g_icmp_ge (tgt := 28) C dX0_usedCellsOf_7 (by decide) (by omega) (by omega) (fun z9 => absurd z9 (by omega)) (fun c7 => ?_)
      refine g_aload_n C hl dX0_usedCellsOf_10 rfl ?_
      refine g_iload_n C hl dX0_usedCellsOf_11 rfl ?_
      refine g_iload_n C hl dX0_usedCellsOf_12 rfl ?_
      refine g_callVi C hl.1 hR hS (rc_X0 hk) md_X0_numberIn ml_X0_51 (c_X0_numberIn l hI hk hM hb (by omega)) rfl rfl ⟨Nat.le_of_ble_eq_true rfl, Nat.le_of_ble_eq_true rfl⟩ ⟨Nat.le_refl _, Nat.le_refl _⟩ (Nat.le_of_ble_eq_true rfl) dX0_usedCellsOf_13 (fun H locs hR hS => ?_)
      refine g_if_eq (tgt := 22) C dX0_usedCellsOf_16 (by decide) (by have := hz.1 _ (zIx_lt (b := b) (c := i) (by omega) (by omega)); omega) (fun c16 => ?_) (fun c16 => ?_)
      · -- 16 T
        refine g_iinc (k := 1) C hl dX0_usedCellsOf_22 rfl (by decide) (fun ls hl => ?_)
        refine g_goto (tgt := 4) C dX0_usedCellsOf_25 (by decide) ?_
        have e9 : zFil z b (i + 1) = zFil z b i + (if z (zIx b i) = 0 then 0 else 1) := rfl
        first | rw [if_pos c16, Nat.add_zero (zFil z b i)] at e9 | rw [if_neg c16] at e9
        rw [← e9] at hl
        refine ih (i + 1) (by omega)  ls H locs hl ?_ hS
        exact hR
      · -- 16 F
        refine g_iinc (k := 1) C hl dX0_usedCellsOf_19 rfl (by decide) (fun ls hl => ?_)
        refine g_iinc (k := 1) C hl dX0_usedCellsOf_22 rfl (by decide) (fun ls hl => ?_)
        refine g_goto (tgt := 4) C dX0_usedCellsOf_25 (by decide) ?_
        have e9 : zFil z b (i + 1) = zFil z b i + (if z (zIx b i) = 0 then 0 else 1) := rfl
        first | rw [if_pos c16, Nat.add_zero (zFil z b i)] at e9 | rw [if_neg c16] at e9
        rw [← e9] at hl
        refine ih (i + 1) (by omega)  ls H locs hl ?_ hS
        exact hR
  refine g_iconst 0 C dX0_usedCellsOf_0 (by decide) ?_
  refine g_istore_n C hl dX0_usedCellsOf_1 (Nat.le_of_ble_eq_true rfl) (fun ls hl => ?_)
  refine g_iconst 0 C dX0_usedCellsOf_2 (by decide) ?_
  refine g_istore_n C hl dX0_usedCellsOf_3 (Nat.le_of_ble_eq_true rfl) (fun ls hl => ?_)
  exact loop 12 0 (by omega) _ _ _ hl hR hS
set_option maxRecDepth 100000 in
set_option maxHeartbeats 4000000 in
/-- X0_copyCells -/
theorem c_X0_copyCells (l : Launch) {X : gX} (hI : gInj X) {mem : gM} {k : Nat} (hk : k < 7) {g : Nat → Nat → Nat} {z : Nat → Nat} (hM : mR g z) {fr9 to : Nat} (hf : fr9 < 8) (ht : to < 8) : gMt l yX0_copyCells cX0_copyCells 4 none 2 45 X [.ref (gAd X k 1), .int (nI fr9), .int (nI to)] (fU mem k g) (mP mem k (zCp z fr9 to 12) none) := by
  refine gMt.of (own := RX0) (by decide) rfl hI (by simp [Value.category]) (Nat.le_of_ble_eq_true rfl) ?_
  intro p e s m args below meth c ls H locs C hnm hl hR hS
  have loop : ∀ (d i : Nat), i + d = 12 → ∀ (ls : Array Slot) (H : Heap) (locs : List Loc) (g : Nat → Nat → Nat) (hM : mR g (zCp z fr9 to i)), gL ls [some (.ref (gAd X k 1)), some (.int (nI fr9)), some (.int (nI to)), some (.int (nI i))] → gRep X (fU mem k g) H → va_S (gA X) s.heap H locs → W p l e { frames := 2, cells := 0, slots := 0, locals := 45 } s m args below meth c H locs 0 0 (MQ below (gQ X (mP mem k (zCp z fr9 to 12) none)) args s 0 0 (gA X)) (F0 m 2 ls []) := by
    intro d
    induction d with
    | zero =>
      intro i hi  ls H locs g hM hl hR hS
      have hi2 : i = 12 := by omega
      subst hi2
      refine g_iload_n C hl dX0_copyCells_2 rfl ?_
      refine g_bipush 12 C dX0_copyCells_3 (by decide) ?_
      refine g_icmp_ge (tgt := 26) C dX0_copyCells_5 (by decide) (by omega) (by omega) (fun c5 => ?_) (fun z9 => absurd z9 (by omega))
      refine g_vret C hR hS dX0_copyCells_26 ?_
      exact ⟨rfl, _, rfl, hM⟩
    | succ d ih =>
      intro i hi  ls H locs g hM hl hR hS
      refine g_iload_n C hl dX0_copyCells_2 rfl ?_
      refine g_bipush 12 C dX0_copyCells_3 (by decide) ?_
      refine g_icmp_ge (tgt := 26) C dX0_copyCells_5 (by decide) (by omega) (by omega) (fun z9 => absurd z9 (by omega)) (fun c5 => ?_)
      refine g_aload_n C hl dX0_copyCells_8 rfl ?_
      refine g_iload_n C hl dX0_copyCells_9 rfl ?_
      refine g_iload_n C hl dX0_copyCells_10 rfl ?_
      refine g_aload_n C hl dX0_copyCells_11 rfl ?_
      refine g_iload_n C hl dX0_copyCells_12 rfl ?_
      refine g_iload_n C hl dX0_copyCells_13 rfl ?_
      refine g_callVi C hl.1 hR hS (rc_X0 hk) md_X0_numberIn ml_X0_51 (c_X0_numberIn l hI hk hM hf (by omega)) rfl rfl ⟨Nat.le_of_ble_eq_true rfl, Nat.le_of_ble_eq_true rfl⟩ ⟨Nat.le_refl _, Nat.le_refl _⟩ (Nat.le_of_ble_eq_true rfl) dX0_copyCells_14 (fun H locs hR hS => ?_)
      refine g_callKv C hl.1 hR hS (rc_X0 hk) md_X0_fill ml_X0_58 (c_X0_fill l hI hk hM ht (by omega)) rfl rfl ⟨Nat.le_of_ble_eq_true rfl, Nat.le_of_ble_eq_true rfl⟩ ⟨Nat.le_refl _, Nat.le_refl _⟩ (Nat.le_of_ble_eq_true rfl) dX0_copyCells_17 (fun g hM H locs hR hS => ?_)
      refine g_iinc (k := 1) C hl dX0_copyCells_20 rfl (by decide) (fun ls hl => ?_)
      refine g_goto (tgt := 2) C dX0_copyCells_23 (by decide) ?_
      refine ih (i + 1) (by omega)  ls H locs g hM hl ?_ hS
      exact hR
  refine g_iconst 0 C dX0_copyCells_0 (by decide) ?_
  refine g_istore_n C hl dX0_copyCells_1 (Nat.le_of_ble_eq_true rfl) (fun ls hl => ?_)
  exact loop 12 0 (by omega) _ _ _ g hM hl hR hS
theorem or_pow : ∀ i, i < 4 → ∀ a, a < 2 ^ i → nI a ||| (nI 1 <<< (nI i &&& 31)) = nI (a + 2 ^ i) := by
  have h : ∀ i, i < 4 → ∀ a, a < 16 → (Nat.blt a (2 ^ i) && !(nI a ||| (nI 1 <<< (nI i &&& 31)) == nI (a + 2 ^ i))) = false := by decide +kernel
  intro i hi a ha
  have h1 := h i hi a (by have : 2 ^ i ≤ 2 ^ 3 := Nat.pow_le_pow_right (by decide) (by omega); omega)
  rw [show Nat.blt a (2 ^ i) = true by rw [Nat.blt_eq]; exact ha, Bool.true_and] at h1
  simpa using h1
set_option maxRecDepth 100000 in
set_option maxHeartbeats 4000000 in
/-- X0_windowsOf -/
theorem c_X0_windowsOf (l : Launch) {X : gX} (hI : gInj X) {mem : gM} {k : Nat} (hk : k < 7) {g : Nat → Nat → Nat} {z : Nat → Nat} (hM : mR g z) (hz : zI z) {b : Nat} (hb : b < 8) : gF l yX0_windowsOf cX0_windowsOf 4 (some .int) 1 21 X [.ref (gAd X k 1), .int (nI b)] (fU mem k g) (some (.int (nI (zWin z b 4)))) (fU mem k g) := by
  refine gMt.of (own := RX0) (by decide) rfl hI (by simp [Value.category]) (Nat.le_of_ble_eq_true rfl) ?_
  intro p e s m args below meth c ls H locs C hnm hl hR hS
  have loop : ∀ (d i : Nat), i + d = 4 → ∀ (ls : Array Slot) (H : Heap) (locs : List Loc), gL ls [some (.ref (gAd X k 1)), some (.int (nI b)), some (.int (nI (zWin z b i))), some (.int (nI i))] → gRep X (fU mem k g) H → va_S (gA X) s.heap H locs → W p l e { frames := 1, cells := 0, slots := 0, locals := 21 } s m args below meth c H locs 0 0 (MQ below (gQ X (fun v m => v = some (.int (nI (zWin z b 4))) ∧ m = fU mem k g)) args s 0 0 (gA X)) (F0 m 4 ls []) := by
    intro d
    induction d with
    | zero =>
      intro i hi  ls H locs  hl hR hS
      have hi2 : i = 4 := by omega
      subst hi2
      refine g_iload_n C hl dX0_windowsOf_4 rfl ?_
      refine g_iconst 4 C dX0_windowsOf_5 (by decide) ?_
      refine g_icmp_ge (tgt := 33) C dX0_windowsOf_6 (by decide) (by omega) (by omega) (fun c6 => ?_) (fun z9 => absurd z9 (by omega))
      refine g_iload_n C hl dX0_windowsOf_33 rfl ?_
      refine g_iret C hR hS dX0_windowsOf_34 ?_
      exact ⟨rfl, rfl⟩
    | succ d ih =>
      intro i hi  ls H locs  hl hR hS
      refine g_iload_n C hl dX0_windowsOf_4 rfl ?_
      refine g_iconst 4 C dX0_windowsOf_5 (by decide) ?_
      refine g_icmp_ge (tgt := 33) C dX0_windowsOf_6 (by decide) (by omega) (by omega) (fun z9 => absurd z9 (by omega)) (fun c6 => ?_)
      refine g_aload_n C hl dX0_windowsOf_9 rfl ?_
      refine gt_X0_2 C hk hR fl_X0_23 dX0_windowsOf_10 ?_
      refine g_iload_n C hl dX0_windowsOf_13 rfl ?_
      refine g_callVi C hl.1 hR hS (rc_X5 (gRow_6 hk)) md_X5_read ml_X0_44 (c_zr l hI hM (gRow_6 hk) mB_7 (by omega)) rfl rfl ⟨Nat.le_of_ble_eq_true rfl, Nat.le_of_ble_eq_true rfl⟩ ⟨Nat.le_refl _, Nat.le_refl _⟩ (Nat.le_of_ble_eq_true rfl) dX0_windowsOf_14 (fun H locs hR hS => ?_)
      refine g_iload_n C hl dX0_windowsOf_17 rfl ?_
      refine g_icmp_ne (tgt := 27) C dX0_windowsOf_18 (by decide) (by have := hz.2.1 i (by omega); omega) (by omega) (fun c18 => ?_) (fun c18 => ?_)
      · -- 18 T
        refine g_iinc (k := 1) C hl dX0_windowsOf_27 rfl (by decide) (fun ls hl => ?_)
        refine g_goto (tgt := 4) C dX0_windowsOf_30 (by decide) ?_
        have e9 : zWin z b (i + 1) = zWin z b i + (if z (100 + i) = b then 2 ^ i else 0) := rfl
        first | rw [if_neg c18, Nat.add_zero (zWin z b i)] at e9 | rw [if_pos c18] at e9
        rw [← e9] at hl
        refine ih (i + 1) (by omega)  ls H locs hl ?_ hS
        exact hR
      · -- 18 F
        refine g_iload_n C hl dX0_windowsOf_21 rfl ?_
        refine g_iconst 1 C dX0_windowsOf_22 (by decide) ?_
        refine g_iload_n C hl dX0_windowsOf_23 rfl ?_
        refine lv_ishl C.1 C.2.1 dX0_windowsOf_24 ?_
        refine lv_ior C.1 C.2.1 dX0_windowsOf_25 ?_
        rw [or_pow i (by omega) _ (zWin_lt i)]
        refine g_istore_n C hl dX0_windowsOf_26 (Nat.le_of_ble_eq_true rfl) (fun ls hl => ?_)
        refine g_iinc (k := 1) C hl dX0_windowsOf_27 rfl (by decide) (fun ls hl => ?_)
        refine g_goto (tgt := 4) C dX0_windowsOf_30 (by decide) ?_
        have e9 : zWin z b (i + 1) = zWin z b i + (if z (100 + i) = b then 2 ^ i else 0) := rfl
        first | rw [if_neg c18, Nat.add_zero (zWin z b i)] at e9 | rw [if_pos c18] at e9
        rw [← e9] at hl
        refine ih (i + 1) (by omega)  ls H locs hl ?_ hS
        exact hR
  refine g_iconst 0 C dX0_windowsOf_0 (by decide) ?_
  refine g_istore_n C hl dX0_windowsOf_1 (Nat.le_of_ble_eq_true rfl) (fun ls hl => ?_)
  refine g_iconst 0 C dX0_windowsOf_2 (by decide) ?_
  refine g_istore_n C hl dX0_windowsOf_3 (Nat.le_of_ble_eq_true rfl) (fun ls hl => ?_)
  exact loop 4 0 (by omega) _ _ _ hl hR hS
/-! the twin of an address -/
theorem zIx_same {b b' c c' : Nat} (hb : b < 8) (hb' : b' < 8) (hc : c < 16) (hc' : c' < 16) : zIx b c = zIx b' c' ↔ c = c' ∧ (12 ≤ c ∨ b = b') := by
  unfold zIx
  by_cases h : c < 12
  · rw [if_pos h]
    by_cases h' : c' < 12
    · rw [if_pos h']; omega
    · rw [if_neg h']; omega
  · rw [if_neg h]
    by_cases h' : c' < 12
    · rw [if_pos h']; omega
    · rw [if_neg h']; omega
theorem zSame_skip {z : Nat → Nat} {ad d : Nat} : ∀ n, d + n ≤ 64 → (∀ j, 64 - (d + n) ≤ j → j < 64 - d → ¬ (¬ (j = ad) ∧ zAt z j = zAt z ad)) → zSame z ad (d + n) = zSame z ad d := by
  intro n
  induction n with
  | zero => intro _ _; rfl
  | succ n ih =>
    intro h h2
    have e : zSame z ad (d + n + 1) = if ¬ (63 - (d + n) = ad) ∧ zAt z (63 - (d + n)) = zAt z ad then nI (63 - (d + n)) else zSame z ad (d + n) := rfl
    show zSame z ad (d + n + 1) = _
    rw [e, if_neg (h2 _ (by omega) (by omega))]
    exact ih (by omega) (fun j h3 h4 => h2 j (by omega) h4)
theorem zAt_same {z : Nat → Nat} {a j : Nat} (hz : zI z) (ha : a < 64) (hj : j < 64) : zAt z j = zAt z a ↔ j % 16 = a % 16 ∧ (12 ≤ a % 16 ∨ zBk z j = zBk z a) := by
  unfold zAt
  rw [zIx_same (hz.bk hj) (hz.bk ha) (by omega) (by omega)]
  omega
theorem zSame_no {z : Nat → Nat} {ad w : Nat} (hz : zI z) (ha : ad < 64) (hw : w < 4) (h : w * 16 + ad % 16 = ad ∨ ¬ (12 ≤ ad % 16 ∨ zBk z (w * 16 + ad % 16) = zBk z ad)) : zSame z ad (64 - 16 * w) = zSame z ad (64 - 16 * (w + 1)) := by
  have := zSame_skip (z := z) (ad := ad) (d := 64 - 16 * (w + 1)) 16 (by omega) (fun j h3 h4 => by
    rw [zAt_same hz ha (by omega)]
    rintro ⟨h5, h6, h7⟩
    have e : j = w * 16 + ad % 16 := by omega
    subst e
    rcases h with h | h
    · exact h5 h
    · exact h h7)
  rw [← this]
  congr 1
  omega
theorem zSame_yes {z : Nat → Nat} {ad w : Nat} (hz : zI z) (ha : ad < 64) (hw : w < 4) (h1 : ¬ w * 16 + ad % 16 = ad) (h2 : 12 ≤ ad % 16 ∨ zBk z (w * 16 + ad % 16) = zBk z ad) : zSame z ad (64 - 16 * w) = nI (w * 16 + ad % 16) := by
  have := zSame_skip (z := z) (ad := ad) (d := 64 - (w * 16 + ad % 16)) (ad % 16) (by omega) (fun j h3 h4 => by
    rw [zAt_same hz ha (by omega)]
    rintro ⟨h5, h6, h7⟩
    omega)
  rw [show 64 - (w * 16 + ad % 16) + ad % 16 = 64 - 16 * w by omega] at this
  rw [this, show 64 - (w * 16 + ad % 16) = (63 - (w * 16 + ad % 16)) + 1 by omega]
  have e : zSame z ad (63 - (w * 16 + ad % 16) + 1) = if ¬ (63 - (63 - (w * 16 + ad % 16)) = ad) ∧ zAt z (63 - (63 - (w * 16 + ad % 16))) = zAt z ad then nI (63 - (63 - (w * 16 + ad % 16))) else zSame z ad (63 - (w * 16 + ad % 16)) := rfl
  rw [e, show 63 - (63 - (w * 16 + ad % 16)) = w * 16 + ad % 16 by omega, if_pos ⟨h1, (zAt_same hz ha (by omega)).mpr ⟨by omega, h2⟩⟩]
set_option maxRecDepth 100000 in
set_option maxHeartbeats 4000000 in
/-- X0_twinOf -/
theorem c_X0_twinOf (l : Launch) {X : gX} (hI : gInj X) {mem : gM} {k : Nat} (hk : k < 7) {g : Nat → Nat → Nat} {z : Nat → Nat} (hM : mR g z) (hz : zI z) {ad : Nat} (ha : ad < 64) : gF l yX0_twinOf cX0_twinOf 6 (some .int) 2 42 X [.ref (gAd X k 1), .int (nI ad)] (fU mem k g) (some (.int (zSame z ad 64))) (fU mem k g) := by
  refine gMt.of (own := RX0) (by decide) rfl hI (by simp [Value.category]) (Nat.le_of_ble_eq_true rfl) ?_
  intro p e s m args below meth c ls H locs C hnm hl hR hS
  have loop : ∀ (d i : Nat), i + d = 4 → zSame z ad 64 = zSame z ad (64 - 16 * i) → ∀ (ls : Array Slot) (H : Heap) (locs : List Loc) (v4 : Option Value) (v5 : Option Value), gL ls [some (.ref (gAd X k 1)), some (.int (nI ad)), some (.int (nI (ad % 16))), some (.int (nI i)), v4, v5] → gRep X (fU mem k g) H → va_S (gA X) s.heap H locs → W p l e { frames := 2, cells := 0, slots := 0, locals := 42 } s m args below meth c H locs 0 0 (MQ below (gQ X (fun v m => v = some (.int (zSame z ad 64)) ∧ m = fU mem k g)) args s 0 0 (gA X)) (F0 m 7 ls []) := by
    intro d
    induction d with
    | zero =>
      intro i hi hy ls H locs v4 v5 hl hR hS
      have hi2 : i = 4 := by omega
      subst hi2
      refine g_iload_n C hl dX0_twinOf_7 rfl ?_
      refine g_iconst 4 C dX0_twinOf_8 (by decide) ?_
      refine g_icmp_ge (tgt := 67) C dX0_twinOf_9 (by decide) (by omega) (by omega) (fun c9 => ?_) (fun z9 => absurd z9 (by omega))
      refine g_bipushM (-5) C dX0_twinOf_67 (by decide) ?_
      refine g_iret C hR hS dX0_twinOf_69 ?_
      rw [hy]
      exact ⟨rfl, rfl⟩
    | succ d ih =>
      intro i hi hy ls H locs v4 v5 hl hR hS
      refine g_iload_n C hl dX0_twinOf_7 rfl ?_
      refine g_iconst 4 C dX0_twinOf_8 (by decide) ?_
      refine g_icmp_ge (tgt := 67) C dX0_twinOf_9 (by decide) (by omega) (by omega) (fun z9 => absurd z9 (by omega)) (fun c9 => ?_)
      refine g_iload_n C hl dX0_twinOf_12 rfl ?_
      refine g_bipush 16 C dX0_twinOf_13 (by decide) ?_
      refine g_imul C dX0_twinOf_15 ?_
      refine g_iload_n C hl dX0_twinOf_16 rfl ?_
      refine g_iadd C dX0_twinOf_17 ?_
      refine g_istore C hl dX0_twinOf_18 (Nat.le_of_ble_eq_true rfl) (fun ls hl => ?_)
      refine g_iload_n C hl dX0_twinOf_20 rfl ?_
      refine g_bipush 12 C dX0_twinOf_21 (by decide) ?_
      refine g_icmp_ge (tgt := 40) C dX0_twinOf_23 (by decide) (by omega) (by omega) (fun c23 => ?_) (fun c23 => ?_)
      · -- 23 T
        refine g_iconst 1 C dX0_twinOf_40 (by decide) ?_
        refine g_goto (tgt := 45) C dX0_twinOf_41 (by decide) ?_
        refine g_istore C hl dX0_twinOf_45 (Nat.le_of_ble_eq_true rfl) (fun ls hl => ?_)
        refine g_iload C hl dX0_twinOf_47 rfl ?_
        refine g_iload_n C hl dX0_twinOf_49 rfl ?_
        refine g_icmp_eq (tgt := 61) C dX0_twinOf_50 (by decide) (by omega) (by omega) (fun c50 => ?_) (fun c50 => ?_)
        · -- 50 T
          refine g_iinc (k := 1) C hl dX0_twinOf_61 rfl (by decide) (fun ls hl => ?_)
          refine g_goto (tgt := 7) C dX0_twinOf_64 (by decide) ?_
          refine ih (i + 1) (by omega) (hy.trans (zSame_no hz ha (by omega) (by omega))) ls H locs _ _ hl ?_ hS
          exact hR
        · -- 50 F
          refine g_iload C hl dX0_twinOf_53 rfl ?_
          refine g_if_eq (tgt := 61) C dX0_twinOf_55 (by decide) (by omega) (fun z9 => absurd z9 (by omega)) (fun c55 => ?_)
          refine g_iload C hl dX0_twinOf_58 rfl ?_
          refine g_iret C hR hS dX0_twinOf_60 ?_
          rw [hy, zSame_yes hz ha (by omega) (by omega) (by omega)]
          exact ⟨rfl, rfl⟩
      · -- 23 F
        refine g_aload_n C hl dX0_twinOf_26 rfl ?_
        refine g_iload C hl dX0_twinOf_27 rfl ?_
        refine g_callVi C hl.1 hR hS (rc_X0 hk) md_X0_bankAt ml_X0_48 (c_X0_bankAt l hI hk hM (by omega)) rfl rfl ⟨Nat.le_of_ble_eq_true rfl, Nat.le_of_ble_eq_true rfl⟩ ⟨Nat.le_refl _, Nat.le_refl _⟩ (Nat.le_of_ble_eq_true rfl) dX0_twinOf_29 (fun H locs hR hS => ?_)
        refine g_aload_n C hl dX0_twinOf_32 rfl ?_
        refine g_iload_n C hl dX0_twinOf_33 rfl ?_
        refine g_callVi C hl.1 hR hS (rc_X0 hk) md_X0_bankAt ml_X0_48 (c_X0_bankAt l hI hk hM ha) rfl rfl ⟨Nat.le_of_ble_eq_true rfl, Nat.le_of_ble_eq_true rfl⟩ ⟨Nat.le_refl _, Nat.le_refl _⟩ (Nat.le_of_ble_eq_true rfl) dX0_twinOf_34 (fun H locs hR hS => ?_)
        refine g_icmp_ne (tgt := 44) C dX0_twinOf_37 (by decide) (by have := hz.bk (a := i * 16 + ad % 16) (by omega); omega) (by have := hz.bk ha; omega) (fun c37 => ?_) (fun c37 => ?_)
        · -- 37 T
          refine g_iconst 0 C dX0_twinOf_44 (by decide) ?_
          refine g_istore C hl dX0_twinOf_45 (Nat.le_of_ble_eq_true rfl) (fun ls hl => ?_)
          refine g_iload C hl dX0_twinOf_47 rfl ?_
          refine g_iload_n C hl dX0_twinOf_49 rfl ?_
          refine g_icmp_eq (tgt := 61) C dX0_twinOf_50 (by decide) (by omega) (by omega) (fun c50 => ?_) (fun c50 => ?_)
          · -- 50 T
            refine g_iinc (k := 1) C hl dX0_twinOf_61 rfl (by decide) (fun ls hl => ?_)
            refine g_goto (tgt := 7) C dX0_twinOf_64 (by decide) ?_
            refine ih (i + 1) (by omega) (hy.trans (zSame_no hz ha (by omega) (by omega))) ls H locs _ _ hl ?_ hS
            exact hR
          · -- 50 F
            refine g_iload C hl dX0_twinOf_53 rfl ?_
            refine g_if_eq (tgt := 61) C dX0_twinOf_55 (by decide) (by omega) (fun c55 => ?_) (fun z9 => absurd z9 (by omega))
            refine g_iinc (k := 1) C hl dX0_twinOf_61 rfl (by decide) (fun ls hl => ?_)
            refine g_goto (tgt := 7) C dX0_twinOf_64 (by decide) ?_
            refine ih (i + 1) (by omega) (hy.trans (zSame_no hz ha (by omega) (by omega))) ls H locs _ _ hl ?_ hS
            exact hR
        · -- 37 F
          refine g_iconst 1 C dX0_twinOf_40 (by decide) ?_
          refine g_goto (tgt := 45) C dX0_twinOf_41 (by decide) ?_
          refine g_istore C hl dX0_twinOf_45 (Nat.le_of_ble_eq_true rfl) (fun ls hl => ?_)
          refine g_iload C hl dX0_twinOf_47 rfl ?_
          refine g_iload_n C hl dX0_twinOf_49 rfl ?_
          refine g_icmp_eq (tgt := 61) C dX0_twinOf_50 (by decide) (by omega) (by omega) (fun c50 => ?_) (fun c50 => ?_)
          · -- 50 T
            refine g_iinc (k := 1) C hl dX0_twinOf_61 rfl (by decide) (fun ls hl => ?_)
            refine g_goto (tgt := 7) C dX0_twinOf_64 (by decide) ?_
            refine ih (i + 1) (by omega) (hy.trans (zSame_no hz ha (by omega) (by omega))) ls H locs _ _ hl ?_ hS
            exact hR
          · -- 50 F
            refine g_iload C hl dX0_twinOf_53 rfl ?_
            refine g_if_eq (tgt := 61) C dX0_twinOf_55 (by decide) (by omega) (fun z9 => absurd z9 (by omega)) (fun c55 => ?_)
            refine g_iload C hl dX0_twinOf_58 rfl ?_
            refine g_iret C hR hS dX0_twinOf_60 ?_
            rw [hy, zSame_yes hz ha (by omega) (by omega) (by omega)]
            exact ⟨rfl, rfl⟩
  refine g_iload_n C hl dX0_twinOf_0 rfl ?_
  refine g_bipush 16 C dX0_twinOf_1 (by decide) ?_
  refine g_irem C dX0_twinOf_3 (by omega) (by decide) (by decide) ?_
  refine g_istore_n C hl dX0_twinOf_4 (Nat.le_of_ble_eq_true rfl) (fun ls hl => ?_)
  refine g_iconst 0 C dX0_twinOf_5 (by decide) ?_
  refine g_istore_n C hl dX0_twinOf_6 (Nat.le_of_ble_eq_true rfl) (fun ls hl => ?_)
  exact loop 4 0 (by omega) rfl _ _ _ _ _ hl hR hS
