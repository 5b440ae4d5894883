/-! ===== the reference's calls: what is told ===== -/
theorem zAt_hz {z : Nat → Nat} (hz : zI z) {i : Nat} (hi : i < 64) : zAt z i < 2 ^ 31 := by have := hz.at hi; omega
theorem i_m1 : nI 0 + Int32.ofInt (-1) = -1 := by decide
theorem gFrame_q (z : Nat → Nat) (hz : zI z) {q w : Nat} (hq : q < 8) (hw : w ≤ 2) : 117 + 3 * q + w < 198 := by omega
set_option maxRecDepth 100000 in
set_option maxHeartbeats 4000000 in
/-- X9_sameAs -/
theorem c_X9_sameAs (l : Launch) {X : gX} (hI : gInj X) {mem : gM} {f z a o k t r : Nat → Nat} {ad : Nat} (hz : zI z) (had : ad < 64) : gF l yX9_sameAs cX9_sameAs 4 (some .int) 2 42 X [.ref (gAd X 8 0), .int (nI ad)] (gM8 mem f z a o k t r) (some (.int (zSame z ad 64))) (gM8 mem f z a o k t r) := by
  refine gMt.of (own := RX9) (by decide) rfl hI (by simp [Value.category]) (Nat.le_of_ble_eq_true rfl) ?_
  intro p e s m args below meth c ls H locs C hnm hl hR hS
  have endp : ∀ (ls : Array Slot) (H : Heap) (locs : List Loc), gL ls [some (.ref (gAd X 8 0)), some (.int (nI ad)), some (.int (zSame z ad 64)), some (.int (-1))] → gRep X (gM8 mem f z a o k t r) H → va_S (gA X) s.heap H locs → W p l e { frames := 2, cells := 0, slots := 0, locals := 42 } s m args below meth c H locs 0 0 (MQ below (gQ X (fun v m => v = some (.int (zSame z ad 64)) ∧ m = gM8 mem f z a o k t r)) args s 0 0 (gA X)) (F0 m 6 ls []) := by
    intro ls H locs hl hR hS
    refine lv_iload_n C.1 C.2.1 dX9_sameAs_6 rfl (hl.at 3 rfl) ?_
    refine lv_if_lt (tgt := 40) C.1 C.2.1 dX9_sameAs_7 (by decide) (fun _ => ?_) (fun z9 => absurd (by decide) z9)
    refine lv_iload_n C.1 C.2.1 dX9_sameAs_40 rfl (hl.at 2 rfl) ?_
    refine g_iret C hR hS dX9_sameAs_41 ?_
    exact ⟨rfl, rfl⟩
  have loop : ∀ (n9 d9 : Nat), d9 + n9 = 63 → ∀ (ls : Array Slot) (H : Heap) (locs : List Loc), gL ls [some (.ref (gAd X 8 0)), some (.int (nI ad)), some (.int (zSame z ad d9)), some (.int (nI (63 - d9)))] → gRep X (gM8 mem f z a o k t r) H → va_S (gA X) s.heap H locs → W p l e { frames := 2, cells := 0, slots := 0, locals := 42 } s m args below meth c H locs 0 0 (MQ below (gQ X (fun v m => v = some (.int (zSame z ad 64)) ∧ m = gM8 mem f z a o k t r)) args s 0 0 (gA X)) (F0 m 6 ls []) := by
    intro n9
    induction n9 with
    | zero =>
      intro d9 hi ls H locs hl hR hS
      refine g_iload_n C hl dX9_sameAs_6 rfl ?_
      refine g_if_lt (tgt := 40) C dX9_sameAs_7 (by decide) (by omega) ?_
      refine g_iload_n C hl dX9_sameAs_10 rfl ?_
      refine g_iload_n C hl dX9_sameAs_11 rfl ?_
      refine g_icmp_eq (tgt := 32) C dX9_sameAs_12 (by decide) (by omega) (by omega) (fun c12 => ?_) (fun c12 => ?_)
      · -- 12 T
        refine lv_iload_n C.1 C.2.1 dX9_sameAs_32 rfl (hl.at 2 rfl) ?_
        refine g_istore_n C hl dX9_sameAs_33 (Nat.le_of_ble_eq_true rfl) (fun ls hl => ?_)
        have e9 : zSame z ad (d9 + 1) = zSame z ad d9 := if_neg (fun q9 => q9.1 c12)
        have hl : gL ls [some (.ref (gAd X 8 0)), some (.int (nI ad)), some (.int (zSame z ad (d9 + 1))), some (.int (nI (63 - d9)))] := by rw [e9]; exact hl
        have e64 : d9 + 1 = 64 := by omega
        rw [e64, show 63 - d9 = 0 by omega] at hl
        refine g_iincI (-1) C hl dX9_sameAs_34 rfl i_m1 (fun ls hl => ?_)
        refine g_goto (tgt := 6) C dX9_sameAs_37 (by decide) ?_
        exact endp ls H locs hl hR hS
      · -- 12 F
        refine g_aload_n C hl dX9_sameAs_15 rfl ?_
        refine g_iload_n C hl dX9_sameAs_16 rfl ?_
        refine g_callVi C hl.1 hR hS rc_X9 md_X9_indexAt ml_X9_71 (c_X9_indexAt l hI hz (by omega)) rfl rfl ⟨Nat.le_of_ble_eq_true rfl, Nat.le_of_ble_eq_true rfl⟩ ⟨Nat.le_refl _, Nat.le_refl _⟩ (Nat.le_of_ble_eq_true rfl) dX9_sameAs_17 (fun H locs hR hS => ?_)
        refine g_aload_n C hl dX9_sameAs_20 rfl ?_
        refine g_iload_n C hl dX9_sameAs_21 rfl ?_
        refine g_callVi C hl.1 hR hS rc_X9 md_X9_indexAt ml_X9_71 (c_X9_indexAt l hI hz had) rfl rfl ⟨Nat.le_of_ble_eq_true rfl, Nat.le_of_ble_eq_true rfl⟩ ⟨Nat.le_refl _, Nat.le_refl _⟩ (Nat.le_of_ble_eq_true rfl) dX9_sameAs_22 (fun H locs hR hS => ?_)
        refine g_icmp_ne (tgt := 32) C dX9_sameAs_25 (by decide) (zAt_hz hz (by omega)) (zAt_hz hz had) (fun c25 => ?_) (fun c25 => ?_)
        · -- 25 T
          refine lv_iload_n C.1 C.2.1 dX9_sameAs_32 rfl (hl.at 2 rfl) ?_
          refine g_istore_n C hl dX9_sameAs_33 (Nat.le_of_ble_eq_true rfl) (fun ls hl => ?_)
          have e9 : zSame z ad (d9 + 1) = zSame z ad d9 := if_neg (fun q9 => c25 q9.2)
          have hl : gL ls [some (.ref (gAd X 8 0)), some (.int (nI ad)), some (.int (zSame z ad (d9 + 1))), some (.int (nI (63 - d9)))] := by rw [e9]; exact hl
          have e64 : d9 + 1 = 64 := by omega
          rw [e64, show 63 - d9 = 0 by omega] at hl
          refine g_iincI (-1) C hl dX9_sameAs_34 rfl i_m1 (fun ls hl => ?_)
          refine g_goto (tgt := 6) C dX9_sameAs_37 (by decide) ?_
          exact endp ls H locs hl hR hS
        · -- 25 F
          refine g_iload_n C hl dX9_sameAs_28 rfl ?_
          refine g_goto (tgt := 33) C dX9_sameAs_29 (by decide) ?_
          refine g_istore_n C hl dX9_sameAs_33 (Nat.le_of_ble_eq_true rfl) (fun ls hl => ?_)
          have e9 : zSame z ad (d9 + 1) = nI (63 - d9) := if_pos ⟨c12, c25⟩
          have hl : gL ls [some (.ref (gAd X 8 0)), some (.int (nI ad)), some (.int (zSame z ad (d9 + 1))), some (.int (nI (63 - d9)))] := by rw [e9]; exact hl
          have e64 : d9 + 1 = 64 := by omega
          rw [e64, show 63 - d9 = 0 by omega] at hl
          refine g_iincI (-1) C hl dX9_sameAs_34 rfl i_m1 (fun ls hl => ?_)
          refine g_goto (tgt := 6) C dX9_sameAs_37 (by decide) ?_
          exact endp ls H locs hl hR hS
    | succ n9 ih =>
      intro d9 hi ls H locs hl hR hS
      refine g_iload_n C hl dX9_sameAs_6 rfl ?_
      refine g_if_lt (tgt := 40) C dX9_sameAs_7 (by decide) (by omega) ?_
      refine g_iload_n C hl dX9_sameAs_10 rfl ?_
      refine g_iload_n C hl dX9_sameAs_11 rfl ?_
      refine g_icmp_eq (tgt := 32) C dX9_sameAs_12 (by decide) (by omega) (by omega) (fun c12 => ?_) (fun c12 => ?_)
      · -- 12 T
        refine lv_iload_n C.1 C.2.1 dX9_sameAs_32 rfl (hl.at 2 rfl) ?_
        refine g_istore_n C hl dX9_sameAs_33 (Nat.le_of_ble_eq_true rfl) (fun ls hl => ?_)
        have e9 : zSame z ad (d9 + 1) = zSame z ad d9 := if_neg (fun q9 => q9.1 c12)
        have hl : gL ls [some (.ref (gAd X 8 0)), some (.int (nI ad)), some (.int (zSame z ad (d9 + 1))), some (.int (nI (63 - d9)))] := by rw [e9]; exact hl
        have e8 : 63 - d9 = 63 - (d9 + 1) + 1 := by omega
        rw [e8] at hl
        refine g_idec C hl dX9_sameAs_34 rfl (by decide) (fun ls hl => ?_)
        refine g_goto (tgt := 6) C dX9_sameAs_37 (by decide) ?_
        exact ih (d9 + 1) (by omega) ls H locs hl hR hS
      · -- 12 F
        refine g_aload_n C hl dX9_sameAs_15 rfl ?_
        refine g_iload_n C hl dX9_sameAs_16 rfl ?_
        refine g_callVi C hl.1 hR hS rc_X9 md_X9_indexAt ml_X9_71 (c_X9_indexAt l hI hz (by omega)) rfl rfl ⟨Nat.le_of_ble_eq_true rfl, Nat.le_of_ble_eq_true rfl⟩ ⟨Nat.le_refl _, Nat.le_refl _⟩ (Nat.le_of_ble_eq_true rfl) dX9_sameAs_17 (fun H locs hR hS => ?_)
        refine g_aload_n C hl dX9_sameAs_20 rfl ?_
        refine g_iload_n C hl dX9_sameAs_21 rfl ?_
        refine g_callVi C hl.1 hR hS rc_X9 md_X9_indexAt ml_X9_71 (c_X9_indexAt l hI hz had) rfl rfl ⟨Nat.le_of_ble_eq_true rfl, Nat.le_of_ble_eq_true rfl⟩ ⟨Nat.le_refl _, Nat.le_refl _⟩ (Nat.le_of_ble_eq_true rfl) dX9_sameAs_22 (fun H locs hR hS => ?_)
        refine g_icmp_ne (tgt := 32) C dX9_sameAs_25 (by decide) (zAt_hz hz (by omega)) (zAt_hz hz had) (fun c25 => ?_) (fun c25 => ?_)
        · -- 25 T
          refine lv_iload_n C.1 C.2.1 dX9_sameAs_32 rfl (hl.at 2 rfl) ?_
          refine g_istore_n C hl dX9_sameAs_33 (Nat.le_of_ble_eq_true rfl) (fun ls hl => ?_)
          have e9 : zSame z ad (d9 + 1) = zSame z ad d9 := if_neg (fun q9 => c25 q9.2)
          have hl : gL ls [some (.ref (gAd X 8 0)), some (.int (nI ad)), some (.int (zSame z ad (d9 + 1))), some (.int (nI (63 - d9)))] := by rw [e9]; exact hl
          have e8 : 63 - d9 = 63 - (d9 + 1) + 1 := by omega
          rw [e8] at hl
          refine g_idec C hl dX9_sameAs_34 rfl (by decide) (fun ls hl => ?_)
          refine g_goto (tgt := 6) C dX9_sameAs_37 (by decide) ?_
          exact ih (d9 + 1) (by omega) ls H locs hl hR hS
        · -- 25 F
          refine g_iload_n C hl dX9_sameAs_28 rfl ?_
          refine g_goto (tgt := 33) C dX9_sameAs_29 (by decide) ?_
          refine g_istore_n C hl dX9_sameAs_33 (Nat.le_of_ble_eq_true rfl) (fun ls hl => ?_)
          have e9 : zSame z ad (d9 + 1) = nI (63 - d9) := if_pos ⟨c12, c25⟩
          have hl : gL ls [some (.ref (gAd X 8 0)), some (.int (nI ad)), some (.int (zSame z ad (d9 + 1))), some (.int (nI (63 - d9)))] := by rw [e9]; exact hl
          have e8 : 63 - d9 = 63 - (d9 + 1) + 1 := by omega
          rw [e8] at hl
          refine g_idec C hl dX9_sameAs_34 rfl (by decide) (fun ls hl => ?_)
          refine g_goto (tgt := 6) C dX9_sameAs_37 (by decide) ?_
          exact ih (d9 + 1) (by omega) ls H locs hl hR hS
  refine g_bipushM (-5) C dX9_sameAs_0 (by decide) ?_
  refine g_istore_n C hl dX9_sameAs_2 (Nat.le_of_ble_eq_true rfl) (fun ls hl => ?_)
  refine g_bipush 63 C dX9_sameAs_3 (by decide) ?_
  refine g_istore_n C hl dX9_sameAs_5 (Nat.le_of_ble_eq_true rfl) (fun ls hl => ?_)
  exact loop 63 0 (by omega) _ _ _ hl hR hS
set_option maxRecDepth 100000 in
set_option maxHeartbeats 4000000 in
/-- address -/
theorem c_X9_address (l : Launch) {X : gX} (hI : gInj X) {mem : gM} {f z a o k t r : Nat → Nat} {S : aS} {ad w : Int32} (hJ : aI S) (hr : aRf S f z o k t) : gMt l yX9_address cX9_address 3 (some .int) 3 65 X [.ref (gAd X 8 0), .int ad, .int w] (gM8 mem f z a o k t r) (fun v9 m9 => v9 = some (.int (sAddr (aZ S) ad w)) ∧ aRm S mem m9) := by
  refine gMt.of (own := RX9) (by decide) rfl hI (by simp [Value.category]) (Nat.le_of_ble_eq_true rfl) ?_
  intro p e s m args below meth c ls H locs C hnm hl hR hS
  have hr0 := hr
  obtain ⟨r1, r2, r3, r4, r5, r6, r7, r8, r9, r10⟩ := hr
  subst r4
  have hz : zI (aZ S) := hJ.1.1
  have hg : zG (aZ S) := hJ.1.2.1
  have hB : aZ S 178 ≤ 999999 := hJ.1.2.2.1
  have h4 : f 3 ≤ 4 := by omega
  have h115 := hz.2.2.2.2.2.2.1
  have h116 := hz.2.2.2.2.2.2.2.1
  refine g_iload_n C hl dX9_address_0 rfl ?_
  refine g_callSi C hl.1 hR hS md_X9_isAddress ml_X9_68 (c_X9_isAddress l hI) rfl rfl ⟨Nat.le_of_ble_eq_true rfl, Nat.le_of_ble_eq_true rfl⟩ ⟨Nat.le_refl _, Nat.le_refl _⟩ (Nat.le_of_ble_eq_true rfl) dX9_address_1 (fun H locs hR hS => ?_)
  refine g_ifv_ne (tgt := 9) C dX9_address_4 (by decide) (by decide) (fun ad ead had1 had2 => ?_) (fun c4 => ?_)
  · -- 4 T
    subst ead
    refine g_iload_n C hl dX9_address_9 rfl ?_
    by_cases hsw : gIw w 0 3 = true
    · -- 10 in
      obtain ⟨w9, e9, -, h9⟩ := gIw_t hsw (by decide)
      subst e9
      rcases (show w9 = 0 ∨ w9 = 1 ∨ w9 = 2 ∨ w9 = 3 by omega) with e9 | e9 | e9 | e9
      · -- 10 case 0
        subst e9
        refine lv_tableIn (tgt := 40) C.1 C.2.1 dX9_address_10 (by decide) (by decide) rfl (by decide) ?_
        refine g_aload_n C hl dX9_address_40 rfl ?_
        refine gt_X9_0 C hR fl_X9_7 dX9_address_41 ?_
        refine g_aload_n C hl dX9_address_44 rfl ?_
        refine g_iload_n C hl dX9_address_45 rfl ?_
        refine g_callVi C hl.1 hR hS rc_X9 md_X9_indexAt ml_X9_71 (c_X9_indexAt l hI hz (by omega)) rfl rfl ⟨Nat.le_of_ble_eq_true rfl, Nat.le_of_ble_eq_true rfl⟩ ⟨Nat.le_refl _, Nat.le_refl _⟩ (Nat.le_of_ble_eq_true rfl) dX9_address_46 (fun H locs hR hS => ?_)
        refine r_ald1 C hR (by have := hz.at (show ad < 64 by omega); omega) dX9_address_49 ?_
        refine g_iret C hR hS dX9_address_50 ?_
        unfold sAddr
        rw [if_pos (gIw_ok (by omega) had2 (by decide)), if_pos (gIw_ok (by omega) (by omega) (by decide)), nI_clamp (by omega), nI_clamp (by omega)]
        exact ⟨rfl, _, _, _, _, _, _, _, rfl, hr0⟩
      · -- 10 case 1
        subst e9
        refine lv_tableIn (tgt := 51) C.1 C.2.1 dX9_address_10 (by decide) (by decide) rfl (by decide) ?_
        refine g_aload_n C hl dX9_address_51 rfl ?_
        refine g_iload_n C hl dX9_address_52 rfl ?_
        refine g_callVi C hl.1 hR hS rc_X9 md_X9_bankAt ml_X9_32 (c_X9_bankAt l hI (by omega)) rfl rfl ⟨Nat.le_of_ble_eq_true rfl, Nat.le_of_ble_eq_true rfl⟩ ⟨Nat.le_refl _, Nat.le_refl _⟩ (Nat.le_of_ble_eq_true rfl) dX9_address_53 (fun H locs hR hS => ?_)
        refine g_iret C hR hS dX9_address_56 ?_
        unfold sAddr
        rw [if_pos (gIw_ok (by omega) had2 (by decide)), if_pos (gIw_ok (by omega) (by omega) (by decide)), nI_clamp (by omega), nI_clamp (by omega)]
        exact ⟨rfl, _, _, _, _, _, _, _, rfl, hr0⟩
      · -- 10 case 2
        subst e9
        refine lv_tableIn (tgt := 57) C.1 C.2.1 dX9_address_10 (by decide) (by decide) rfl (by decide) ?_
        refine g_iload_n C hl dX9_address_57 rfl ?_
        refine g_bipush 16 C dX9_address_58 (by decide) ?_
        refine g_irem C dX9_address_60 (by omega) (by decide) (by decide) ?_
        refine g_iret C hR hS dX9_address_61 ?_
        unfold sAddr
        rw [if_pos (gIw_ok (by omega) had2 (by decide)), if_pos (gIw_ok (by omega) (by omega) (by decide)), nI_clamp (by omega), nI_clamp (by omega)]
        exact ⟨rfl, _, _, _, _, _, _, _, rfl, hr0⟩
      · -- 10 case 3
        subst e9
        refine lv_tableIn (tgt := 62) C.1 C.2.1 dX9_address_10 (by decide) (by decide) rfl (by decide) ?_
        refine g_aload_n C hl dX9_address_62 rfl ?_
        refine g_iload_n C hl dX9_address_63 rfl ?_
        refine g_callVi C hl.1 hR hS rc_X9 md_X9_sameAs ml_X9_137 (c_X9_sameAs l hI hz (by omega)) rfl rfl ⟨Nat.le_of_ble_eq_true rfl, Nat.le_of_ble_eq_true rfl⟩ ⟨Nat.le_refl _, Nat.le_refl _⟩ (Nat.le_of_ble_eq_true rfl) dX9_address_64 (fun H locs hR hS => ?_)
        refine g_iret C hR hS dX9_address_67 ?_
        unfold sAddr
        rw [if_pos (gIw_ok (by omega) had2 (by decide)), if_pos (gIw_ok (by omega) (by omega) (by decide)), nI_clamp (by omega), nI_clamp (by omega)]
        exact ⟨rfl, _, _, _, _, _, _, _, rfl, hr0⟩
    · -- 10 out
      have hsw2 : gIw w 0 3 = false := by simpa using hsw
      refine lv_tableOut (tgt := 68) C.1 C.2.1 dX9_address_10 (gIw_out hsw2) (by decide) ?_
      refine g_bipushM (-2) C dX9_address_68 (by decide) ?_
      refine g_iret C hR hS dX9_address_70 ?_
      unfold sAddr
      rw [if_pos (gIw_ok (by omega) had2 (by decide)), if_neg (by rw [hsw2]; decide)]
      exact ⟨rfl, _, _, _, _, _, _, _, rfl, hr0⟩
  · -- 4 F
    refine g_iconstM (-1) C dX9_address_7 (by decide) ?_
    refine g_iret C hR hS dX9_address_8 ?_
    unfold sAddr
    rw [if_neg (by rw [c4]; decide)]
    exact ⟨rfl, _, _, _, _, _, _, _, rfl, hr0⟩
set_option maxRecDepth 100000 in
set_option maxHeartbeats 4000000 in
/-- X9_windowsOf -/
theorem c_X9_windowsOf (l : Launch) {X : gX} (hI : gInj X) {mem : gM} {f z a o k t r : Nat → Nat} {b : Nat} (hz : zI z) (hb : b < 8) : gF l yX9_windowsOf cX9_windowsOf 4 (some .int) 0 0 X [.ref (gAd X 8 0), .int (nI b)] (gM8 mem f z a o k t r) (some (.int (nI (zWin z b 4)))) (gM8 mem f z a o k t r) := by
  refine gMt.of (own := RX9) (by decide) rfl hI (by simp [Value.category]) (Nat.le_of_ble_eq_true rfl) ?_
  intro p e s m args below meth c ls H locs C hnm hl hR hS
  have loop : ∀ (d i : Nat), i + d = 4 → ∀ (ls : Array Slot) (H : Heap) (locs : List Loc), gL ls [some (.ref (gAd X 8 0)), some (.int (nI b)), some (.int (nI (zWin z b i))), some (.int (nI i))] → gRep X (gM8 mem f z a o k t r) H → va_S (gA X) s.heap H locs → W p l e { frames := 0, cells := 0, slots := 0, locals := 0 } s m args below meth c H locs 0 0 (MQ below (gQ X (fun v m => v = some (.int (nI (zWin z b 4))) ∧ m = gM8 mem f z a o k t r)) args s 0 0 (gA X)) (F0 m 4 ls []) := by
    intro d
    induction d with
    | zero =>
      intro i hi  ls H locs  hl hR hS
      have hi2 : i = 4 := by omega
      subst hi2
      refine g_iload_n C hl dX9_windowsOf_4 rfl ?_
      refine g_iconst 4 C dX9_windowsOf_5 (by decide) ?_
      refine g_icmp_ge (tgt := 38) C dX9_windowsOf_6 (by decide) (by omega) (by omega) (fun c6 => ?_) (fun z9 => absurd z9 (by omega))
      refine g_iload_n C hl dX9_windowsOf_38 rfl ?_
      refine g_iret C hR hS dX9_windowsOf_39 ?_
      exact ⟨rfl, rfl⟩
    | succ d ih =>
      intro i hi  ls H locs  hl hR hS
      refine g_iload_n C hl dX9_windowsOf_4 rfl ?_
      refine g_iconst 4 C dX9_windowsOf_5 (by decide) ?_
      refine g_icmp_ge (tgt := 38) C dX9_windowsOf_6 (by decide) (by omega) (by omega) (fun z9 => absurd z9 (by omega)) (fun c6 => ?_)
      refine g_iload_n C hl dX9_windowsOf_9 rfl ?_
      refine g_aload_n C hl dX9_windowsOf_10 rfl ?_
      refine gt_X9_0 C hR fl_X9_7 dX9_windowsOf_11 ?_
      refine g_bipush 100 C dX9_windowsOf_14 (by decide) ?_
      refine g_iload_n C hl dX9_windowsOf_16 rfl ?_
      refine g_iadd C dX9_windowsOf_17 ?_
      refine r_ald1 C hR (by omega) dX9_windowsOf_18 ?_
      refine g_iload_n C hl dX9_windowsOf_19 rfl ?_
      refine g_icmp_ne (tgt := 29) C dX9_windowsOf_20 (by decide) (by have := hz.2.1 i (by omega); omega) (by omega) (fun c20 => ?_) (fun c20 => ?_)
      · -- 20 T
        refine g_iconst 0 C dX9_windowsOf_29 (by decide) ?_
        refine lv_ior C.1 C.2.1 dX9_windowsOf_30 ?_
        rw [w_orz (by omega) (zWin_lt _)]
        refine g_istore_n C hl dX9_windowsOf_31 (Nat.le_of_ble_eq_true rfl) (fun ls hl => ?_)
        refine g_iinc (k := 1) C hl dX9_windowsOf_32 rfl (by decide) (fun ls hl => ?_)
        refine g_goto (tgt := 4) C dX9_windowsOf_35 (by decide) ?_
        have e9 : zWin z b (i + 1) = zWin z b i + (if z (100 + i) = b then 2 ^ i else 0) := rfl
        first | rw [if_pos c20] at e9 | rw [if_neg c20] at e9
        rw [← e9] at hl
        refine ih (i + 1) (by omega)  ls H locs hl ?_ hS
        exact hR
      · -- 20 F
        refine g_iconst 1 C dX9_windowsOf_23 (by decide) ?_
        refine g_iload_n C hl dX9_windowsOf_24 rfl ?_
        refine lv_ishl C.1 C.2.1 dX9_windowsOf_25 ?_
        rw [w_shl i (by omega)]
        refine g_goto (tgt := 30) C dX9_windowsOf_26 (by decide) ?_
        refine lv_ior C.1 C.2.1 dX9_windowsOf_30 ?_
        rw [w_or (by omega) (zWin_lt _)]
        refine g_istore_n C hl dX9_windowsOf_31 (Nat.le_of_ble_eq_true rfl) (fun ls hl => ?_)
        refine g_iinc (k := 1) C hl dX9_windowsOf_32 rfl (by decide) (fun ls hl => ?_)
        refine g_goto (tgt := 4) C dX9_windowsOf_35 (by decide) ?_
        have e9 : zWin z b (i + 1) = zWin z b i + (if z (100 + i) = b then 2 ^ i else 0) := rfl
        first | rw [if_pos c20] at e9 | rw [if_neg c20] at e9
        rw [← e9] at hl
        refine ih (i + 1) (by omega)  ls H locs hl ?_ hS
        exact hR
  refine g_iconst 0 C dX9_windowsOf_0 (by decide) ?_
  refine g_istore_n C hl dX9_windowsOf_1 (Nat.le_of_ble_eq_true rfl) (fun ls hl => ?_)
  refine g_iconst 0 C dX9_windowsOf_2 (by decide) ?_
  refine g_istore_n C hl dX9_windowsOf_3 (Nat.le_of_ble_eq_true rfl) (fun ls hl => ?_)
  exact loop 4 0 (by omega) _ _ _ hl hR hS
set_option maxRecDepth 100000 in
set_option maxHeartbeats 4000000 in
/-- bank -/
theorem c_X9_bank (l : Launch) {X : gX} (hI : gInj X) {mem : gM} {f z a o k t r : Nat → Nat} {S : aS} {b w : Int32} (hJ : aI S) (hr : aRf S f z o k t) : gMt l yX9_bank cX9_bank 3 (some .int) 2 44 X [.ref (gAd X 8 0), .int b, .int w] (gM8 mem f z a o k t r) (fun v9 m9 => v9 = some (.int (sBank (aZ S) b w)) ∧ aRm S mem m9) := by
  refine gMt.of (own := RX9) (by decide) rfl hI (by simp [Value.category]) (Nat.le_of_ble_eq_true rfl) ?_
  intro p e s m args below meth c ls H locs C hnm hl hR hS
  have hr0 := hr
  obtain ⟨r1, r2, r3, r4, r5, r6, r7, r8, r9, r10⟩ := hr
  subst r4
  have hz : zI (aZ S) := hJ.1.1
  have hg : zG (aZ S) := hJ.1.2.1
  have hB : aZ S 178 ≤ 999999 := hJ.1.2.2.1
  have h4 : f 3 ≤ 4 := by omega
  have h115 := hz.2.2.2.2.2.2.1
  have h116 := hz.2.2.2.2.2.2.2.1
  refine g_iload_n C hl dX9_bank_0 rfl ?_
  refine g_callSi C hl.1 hR hS md_X9_isBank ml_X9_51 (c_X9_isBank l hI) rfl rfl ⟨Nat.le_of_ble_eq_true rfl, Nat.le_of_ble_eq_true rfl⟩ ⟨Nat.le_refl _, Nat.le_refl _⟩ (Nat.le_of_ble_eq_true rfl) dX9_bank_1 (fun H locs hR hS => ?_)
  refine g_ifv_ne (tgt := 9) C dX9_bank_4 (by decide) (by decide) (fun b eb hb1 hb2 => ?_) (fun c4 => ?_)
  · -- 4 T
    subst eb
    refine g_iload_n C hl dX9_bank_9 rfl ?_
    by_cases hsw : gIw w 0 5 = true
    · -- 10 in
      obtain ⟨w9, e9, -, h9⟩ := gIw_t hsw (by decide)
      subst e9
      rcases (show w9 = 0 ∨ w9 = 1 ∨ w9 = 2 ∨ w9 = 3 ∨ w9 = 4 ∨ w9 = 5 by omega) with e9 | e9 | e9 | e9 | e9 | e9
      · -- 10 case 0
        subst e9
        refine lv_tableIn (tgt := 48) C.1 C.2.1 dX9_bank_10 (by decide) (by decide) rfl (by decide) ?_
        refine g_aload_n C hl dX9_bank_48 rfl ?_
        refine gt_X9_0 C hR fl_X9_7 dX9_bank_49 ?_
        refine g_bipush 104 C dX9_bank_52 (by decide) ?_
        refine g_iload_n C hl dX9_bank_54 rfl ?_
        refine g_iadd C dX9_bank_55 ?_
        refine r_ald1 C hR (by omega) dX9_bank_56 ?_
        refine g_iret C hR hS dX9_bank_57 ?_
        unfold sBank
        rw [if_pos (gIw_ok (by omega) hb2 (by decide)), if_pos (gIw_ok (by omega) (by omega) (by decide)), nI_clamp (by omega), nI_clamp (by omega)]
        exact ⟨rfl, _, _, _, _, _, _, _, rfl, hr0⟩
      · -- 10 case 1
        subst e9
        refine lv_tableIn (tgt := 58) C.1 C.2.1 dX9_bank_10 (by decide) (by decide) rfl (by decide) ?_
        refine g_aload_n C hl dX9_bank_58 rfl ?_
        refine g_iload_n C hl dX9_bank_59 rfl ?_
        refine g_callVi C hl.1 hR hS rc_X9 md_X9_windowsOf ml_X9_140 (c_X9_windowsOf l hI hz (by omega)) rfl rfl ⟨Nat.le_of_ble_eq_true rfl, Nat.le_of_ble_eq_true rfl⟩ ⟨Nat.le_refl _, Nat.le_refl _⟩ (Nat.le_of_ble_eq_true rfl) dX9_bank_60 (fun H locs hR hS => ?_)
        refine g_iret C hR hS dX9_bank_63 ?_
        unfold sBank
        rw [if_pos (gIw_ok (by omega) hb2 (by decide)), if_pos (gIw_ok (by omega) (by omega) (by decide)), nI_clamp (by omega), nI_clamp (by omega)]
        exact ⟨rfl, _, _, _, _, _, _, _, rfl, hr0⟩
      · -- 10 case 2
        subst e9
        refine lv_tableIn (tgt := 64) C.1 C.2.1 dX9_bank_10 (by decide) (by decide) rfl (by decide) ?_
        refine g_aload_n C hl dX9_bank_64 rfl ?_
        refine g_iload_n C hl dX9_bank_65 rfl ?_
        refine g_callVi C hl.1 hR hS rc_X9 md_X9_filled ml_X9_143 (c_X9_filled l hI hz (by omega)) rfl rfl ⟨Nat.le_of_ble_eq_true rfl, Nat.le_of_ble_eq_true rfl⟩ ⟨Nat.le_refl _, Nat.le_refl _⟩ (Nat.le_of_ble_eq_true rfl) dX9_bank_66 (fun H locs hR hS => ?_)
        refine g_iret C hR hS dX9_bank_69 ?_
        unfold sBank
        rw [if_pos (gIw_ok (by omega) hb2 (by decide)), if_pos (gIw_ok (by omega) (by omega) (by decide)), nI_clamp (by omega), nI_clamp (by omega)]
        exact ⟨rfl, _, _, _, _, _, _, _, rfl, hr0⟩
      · -- 10 case 3
        subst e9
        refine lv_tableIn (tgt := 70) C.1 C.2.1 dX9_bank_10 (by decide) (by decide) rfl (by decide) ?_
        refine g_aload_n C hl dX9_bank_70 rfl ?_
        refine g_iload_n C hl dX9_bank_71 rfl ?_
        refine g_callVi C hl.1 hR hS rc_X9 md_X9_framesTo ml_X9_146 (c_X9_framesTo l hI hz (by omega)) rfl rfl ⟨Nat.le_of_ble_eq_true rfl, Nat.le_of_ble_eq_true rfl⟩ ⟨Nat.le_refl _, Nat.le_refl _⟩ (Nat.le_of_ble_eq_true rfl) dX9_bank_72 (fun H locs hR hS => ?_)
        refine g_iret C hR hS dX9_bank_75 ?_
        unfold sBank
        rw [if_pos (gIw_ok (by omega) hb2 (by decide)), if_pos (gIw_ok (by omega) (by omega) (by decide)), nI_clamp (by omega), nI_clamp (by omega)]
        exact ⟨rfl, _, _, _, _, _, _, _, rfl, hr0⟩
      · -- 10 case 4
        subst e9
        refine lv_tableIn (tgt := 76) C.1 C.2.1 dX9_bank_10 (by decide) (by decide) rfl (by decide) ?_
        refine g_aload_n C hl dX9_bank_76 rfl ?_
        refine gt_X9_0 C hR fl_X9_7 dX9_bank_77 ?_
        refine g_sipush 182 C dX9_bank_80 (by decide) ?_
        refine g_iload_n C hl dX9_bank_83 rfl ?_
        refine g_iadd C dX9_bank_84 ?_
        refine r_ald1 C hR (by omega) dX9_bank_85 ?_
        refine g_iret C hR hS dX9_bank_86 ?_
        unfold sBank
        rw [if_pos (gIw_ok (by omega) hb2 (by decide)), if_pos (gIw_ok (by omega) (by omega) (by decide)), nI_clamp (by omega), nI_clamp (by omega)]
        exact ⟨rfl, _, _, _, _, _, _, _, rfl, hr0⟩
      · -- 10 case 5
        subst e9
        refine lv_tableIn (tgt := 87) C.1 C.2.1 dX9_bank_10 (by decide) (by decide) rfl (by decide) ?_
        refine g_aload_n C hl dX9_bank_87 rfl ?_
        refine gt_X9_0 C hR fl_X9_7 dX9_bank_88 ?_
        refine g_sipush 190 C dX9_bank_91 (by decide) ?_
        refine g_iload_n C hl dX9_bank_94 rfl ?_
        refine g_iadd C dX9_bank_95 ?_
        refine r_ald1 C hR (by omega) dX9_bank_96 ?_
        refine g_iret C hR hS dX9_bank_97 ?_
        unfold sBank
        rw [if_pos (gIw_ok (by omega) hb2 (by decide)), if_pos (gIw_ok (by omega) (by omega) (by decide)), nI_clamp (by omega), nI_clamp (by omega)]
        exact ⟨rfl, _, _, _, _, _, _, _, rfl, hr0⟩
    · -- 10 out
      have hsw2 : gIw w 0 5 = false := by simpa using hsw
      refine lv_tableOut (tgt := 98) C.1 C.2.1 dX9_bank_10 (gIw_out hsw2) (by decide) ?_
      refine g_bipushM (-2) C dX9_bank_98 (by decide) ?_
      refine g_iret C hR hS dX9_bank_100 ?_
      unfold sBank
      rw [if_pos (gIw_ok (by omega) hb2 (by decide)), if_neg (by rw [hsw2]; decide)]
      exact ⟨rfl, _, _, _, _, _, _, _, rfl, hr0⟩
  · -- 4 F
    refine g_iconstM (-1) C dX9_bank_7 (by decide) ?_
    refine g_iret C hR hS dX9_bank_8 ?_
    unfold sBank
    rw [if_neg (by rw [c4]; decide)]
    exact ⟨rfl, _, _, _, _, _, _, _, rfl, hr0⟩
set_option maxRecDepth 100000 in
set_option maxHeartbeats 4000000 in
/-- X9_frame -/
theorem c_X9_frame (l : Launch) {X : gX} (hI : gInj X) {mem : gM} {f z a o k t r : Nat → Nat} {S : aS} {rk w : Int32} (hJ : aI S) (hr : aRf S f z o k t) : gMt l yX9_frame cX9_frame 3 (some .int) 1 22 X [.ref (gAd X 8 0), .int rk, .int w] (gM8 mem f z a o k t r) (fun v9 m9 => v9 = some (.int (sFrame (aZ S) rk w)) ∧ aRm S mem m9) := by
  refine gMt.of (own := RX9) (by decide) rfl hI (by simp [Value.category]) (Nat.le_of_ble_eq_true rfl) ?_
  intro p e s m args below meth c ls H locs C hnm hl hR hS
  have hr0 := hr
  obtain ⟨r1, r2, r3, r4, r5, r6, r7, r8, r9, r10⟩ := hr
  subst r4
  have hz : zI (aZ S) := hJ.1.1
  have hg : zG (aZ S) := hJ.1.2.1
  have hB : aZ S 178 ≤ 999999 := hJ.1.2.2.1
  have h4 : f 3 ≤ 4 := by omega
  have h115 := hz.2.2.2.2.2.2.1
  have h116 := hz.2.2.2.2.2.2.2.1
  have h141 := hz.2.2.2.2.2.2.2.2.2
  by_cases hneg : rk < 0
  · refine g_iload_n C hl dX9_frame_0 rfl ?_
    refine lv_if_lt (tgt := 13) C.1 C.2.1 dX9_frame_1 (by decide) (fun _ => ?_) (fun z9 => absurd hneg z9)
    refine g_bipushM (-2) C dX9_frame_13 (by decide) ?_
    refine g_iret C hR hS dX9_frame_15 ?_
    unfold sFrame
    rw [if_pos hneg]
    exact ⟨rfl, _, _, _, _, _, _, _, rfl, hr0⟩
  obtain ⟨j, hj, ej⟩ := nI_of hneg
  subst ej
  refine g_iload_n C hl dX9_frame_0 rfl ?_
  refine g_if_lt (tgt := 13) C dX9_frame_1 (by decide) (by omega) ?_
  refine g_iload_n C hl dX9_frame_4 rfl ?_
  refine g_iconst 0 C dX9_frame_5 (by decide) ?_
  refine g_iconst 2 C dX9_frame_6 (by decide) ?_
  refine g_callSi C hl.1 hR hS md_X9_in ml_X9_28 (c_X9_in l hI (by decide) (by decide)) rfl rfl ⟨Nat.le_of_ble_eq_true rfl, Nat.le_of_ble_eq_true rfl⟩ ⟨Nat.le_refl _, Nat.le_refl _⟩ (Nat.le_of_ble_eq_true rfl) dX9_frame_7 (fun H locs hR hS => ?_)
  refine g_ifv_ne (tgt := 16) C dX9_frame_10 (by decide) (by decide) (fun w ew hw1 hw2 => ?_) (fun c10 => ?_)
  · -- 10 T
    subst ew
    refine g_iload_n C hl dX9_frame_16 rfl ?_
    refine g_aload_n C hl dX9_frame_17 rfl ?_
    refine gt_X9_0 C hR fl_X9_7 dX9_frame_18 ?_
    refine g_bipush 116 C dX9_frame_21 (by decide) ?_
    refine r_ald1 C hR (by omega) dX9_frame_23 ?_
    refine g_icmp_ge (tgt := 53) C dX9_frame_24 (by decide) (by omega) (by omega) (fun c24 => ?_) (fun c24 => ?_)
    · -- 24 T
      refine g_bipushM (-5) C dX9_frame_53 (by decide) ?_
      refine g_iret C hR hS dX9_frame_55 ?_
      unfold sFrame
      rw [if_neg hneg, if_pos (gIw_ok (by omega) hw2 (by decide)), nI_clamp (by omega), nI_clamp (by omega)]
      first | rw [if_pos (by omega)] | rw [if_neg (by omega)]
      exact ⟨rfl, _, _, _, _, _, _, _, rfl, hr0⟩
    · -- 24 F
      refine g_aload_n C hl dX9_frame_27 rfl ?_
      refine gt_X9_0 C hR fl_X9_7 dX9_frame_28 ?_
      refine g_bipush 117 C dX9_frame_31 (by decide) ?_
      refine g_iconst 3 C dX9_frame_33 (by decide) ?_
      refine g_aload_n C hl dX9_frame_34 rfl ?_
      refine gt_X9_0 C hR fl_X9_7 dX9_frame_35 ?_
      refine g_bipush 116 C dX9_frame_38 (by decide) ?_
      refine r_ald1 C hR (by omega) dX9_frame_40 ?_
      refine g_iconst 1 C dX9_frame_41 (by decide) ?_
      refine g_isub C dX9_frame_42 (by omega) ?_
      refine g_iload_n C hl dX9_frame_43 rfl ?_
      refine g_isub C dX9_frame_44 (by omega) ?_
      refine g_imul C dX9_frame_45 ?_
      refine g_iadd C dX9_frame_46 ?_
      refine g_iload_n C hl dX9_frame_47 rfl ?_
      refine g_iadd C dX9_frame_48 ?_
      refine r_ald1 C hR (by omega) dX9_frame_49 ?_
      refine g_goto (tgt := 55) C dX9_frame_50 (by decide) ?_
      refine g_iret C hR hS dX9_frame_55 ?_
      unfold sFrame
      rw [if_neg hneg, if_pos (gIw_ok (by omega) hw2 (by decide)), nI_clamp (by omega), nI_clamp (by omega)]
      first | rw [if_pos (by omega)] | rw [if_neg (by omega)]
      exact ⟨rfl, _, _, _, _, _, _, _, rfl, hr0⟩
  · -- 10 F
    refine g_bipushM (-2) C dX9_frame_13 (by decide) ?_
    refine g_iret C hR hS dX9_frame_15 ?_
    unfold sFrame
    rw [if_neg hneg, if_neg (by rw [c10]; decide)]
    exact ⟨rfl, _, _, _, _, _, _, _, rfl, hr0⟩
set_option maxRecDepth 100000 in
set_option maxHeartbeats 4000000 in
/-- X9_latest -/
theorem c_X9_latest (l : Launch) {X : gX} (hI : gInj X) {mem : gM} {f z a o k t r : Nat → Nat} {S : aS} {rk w : Int32} (hJ : aI S) (hr : aRf S f z o k t) : gMt l yX9_latest cX9_latest 3 (some .int) 1 22 X [.ref (gAd X 8 0), .int rk, .int w] (gM8 mem f z a o k t r) (fun v9 m9 => v9 = some (.int (sLate (aZ S) rk w)) ∧ aRm S mem m9) := by
  refine gMt.of (own := RX9) (by decide) rfl hI (by simp [Value.category]) (Nat.le_of_ble_eq_true rfl) ?_
  intro p e s m args below meth c ls H locs C hnm hl hR hS
  have hr0 := hr
  obtain ⟨r1, r2, r3, r4, r5, r6, r7, r8, r9, r10⟩ := hr
  subst r4
  have hz : zI (aZ S) := hJ.1.1
  have hg : zG (aZ S) := hJ.1.2.1
  have hB : aZ S 178 ≤ 999999 := hJ.1.2.2.1
  have h4 : f 3 ≤ 4 := by omega
  have h115 := hz.2.2.2.2.2.2.1
  have h116 := hz.2.2.2.2.2.2.2.1
  have h141 := hz.2.2.2.2.2.2.2.2.2
  by_cases hneg : rk < 0
  · refine g_iload_n C hl dX9_latest_0 rfl ?_
    refine lv_if_lt (tgt := 13) C.1 C.2.1 dX9_latest_1 (by decide) (fun _ => ?_) (fun z9 => absurd hneg z9)
    refine g_bipushM (-2) C dX9_latest_13 (by decide) ?_
    refine g_iret C hR hS dX9_latest_15 ?_
    unfold sLate
    rw [if_pos hneg]
    exact ⟨rfl, _, _, _, _, _, _, _, rfl, hr0⟩
  obtain ⟨j, hj, ej⟩ := nI_of hneg
  subst ej
  refine g_iload_n C hl dX9_latest_0 rfl ?_
  refine g_if_lt (tgt := 13) C dX9_latest_1 (by decide) (by omega) ?_
  refine g_iload_n C hl dX9_latest_4 rfl ?_
  refine g_iconst 0 C dX9_latest_5 (by decide) ?_
  refine g_iconst 2 C dX9_latest_6 (by decide) ?_
  refine g_callSi C hl.1 hR hS md_X9_in ml_X9_28 (c_X9_in l hI (by decide) (by decide)) rfl rfl ⟨Nat.le_of_ble_eq_true rfl, Nat.le_of_ble_eq_true rfl⟩ ⟨Nat.le_refl _, Nat.le_refl _⟩ (Nat.le_of_ble_eq_true rfl) dX9_latest_7 (fun H locs hR hS => ?_)
  refine g_ifv_ne (tgt := 16) C dX9_latest_10 (by decide) (by decide) (fun w ew hw1 hw2 => ?_) (fun c10 => ?_)
  · -- 10 T
    subst ew
    refine g_iload_n C hl dX9_latest_16 rfl ?_
    refine g_aload_n C hl dX9_latest_17 rfl ?_
    refine gt_X9_0 C hR fl_X9_7 dX9_latest_18 ?_
    refine g_sipush 141 C dX9_latest_21 (by decide) ?_
    refine r_ald1 C hR (by omega) dX9_latest_24 ?_
    refine g_icmp_ge (tgt := 45) C dX9_latest_25 (by decide) (by omega) (by omega) (fun c25 => ?_) (fun c25 => ?_)
    · -- 25 T
      refine g_bipushM (-5) C dX9_latest_45 (by decide) ?_
      refine g_iret C hR hS dX9_latest_47 ?_
      unfold sLate
      rw [if_neg hneg, if_pos (gIw_ok (by omega) hw2 (by decide)), nI_clamp (by omega), nI_clamp (by omega)]
      first | rw [if_pos (by omega)] | rw [if_neg (by omega)]
      exact ⟨rfl, _, _, _, _, _, _, _, rfl, hr0⟩
    · -- 25 F
      refine g_aload_n C hl dX9_latest_28 rfl ?_
      refine gt_X9_0 C hR fl_X9_7 dX9_latest_29 ?_
      refine g_sipush 142 C dX9_latest_32 (by decide) ?_
      refine g_iconst 3 C dX9_latest_35 (by decide) ?_
      refine g_iload_n C hl dX9_latest_36 rfl ?_
      refine g_imul C dX9_latest_37 ?_
      refine g_iadd C dX9_latest_38 ?_
      refine g_iload_n C hl dX9_latest_39 rfl ?_
      refine g_iadd C dX9_latest_40 ?_
      refine r_ald1 C hR (by omega) dX9_latest_41 ?_
      refine g_goto (tgt := 47) C dX9_latest_42 (by decide) ?_
      refine g_iret C hR hS dX9_latest_47 ?_
      unfold sLate
      rw [if_neg hneg, if_pos (gIw_ok (by omega) hw2 (by decide)), nI_clamp (by omega), nI_clamp (by omega)]
      first | rw [if_pos (by omega)] | rw [if_neg (by omega)]
      exact ⟨rfl, _, _, _, _, _, _, _, rfl, hr0⟩
  · -- 10 F
    refine g_bipushM (-2) C dX9_latest_13 (by decide) ?_
    refine g_iret C hR hS dX9_latest_15 ?_
    unfold sLate
    rw [if_neg hneg, if_neg (by rw [c10]; decide)]
    exact ⟨rfl, _, _, _, _, _, _, _, rfl, hr0⟩
set_option maxRecDepth 100000 in
set_option maxHeartbeats 4000000 in
/-- next -/
theorem c_X9_next (l : Launch) {X : gX} (hI : gInj X) {mem : gM} {f z a o k t r : Nat → Nat} {S : aS} {w : Int32} (hJ : aI S) (hr : aRf S f z o k t) : gMt l yX9_next cX9_next 4 (some .int) 5 111 X [.ref (gAd X 8 0), .int w] (gM8 mem f z a o k t r) (fun v9 m9 => v9 = some (.int (sNext (aZ S) w)) ∧ aRm S mem m9) := by
  refine gMt.of (own := RX9) (by decide) rfl hI (by simp [Value.category]) (Nat.le_of_ble_eq_true rfl) ?_
  intro p e s m args below meth c ls H locs C hnm hl hR hS
  have hr0 := hr
  obtain ⟨r1, r2, r3, r4, r5, r6, r7, r8, r9, r10⟩ := hr
  subst r4
  have hz : zI (aZ S) := hJ.1.1
  have hg : zG (aZ S) := hJ.1.2.1
  have hB : aZ S 178 ≤ 999999 := hJ.1.2.2.1
  have h4 : f 3 ≤ 4 := by omega
  have h115 := hz.2.2.2.2.2.2.1
  have h116 := hz.2.2.2.2.2.2.2.1
  refine g_iload_n C hl dX9_next_0 rfl ?_
  refine g_iconst 0 C dX9_next_1 (by decide) ?_
  refine g_iconst 2 C dX9_next_2 (by decide) ?_
  refine g_callSi C hl.1 hR hS md_X9_in ml_X9_28 (c_X9_in l hI (by decide) (by decide)) rfl rfl ⟨Nat.le_of_ble_eq_true rfl, Nat.le_of_ble_eq_true rfl⟩ ⟨Nat.le_refl _, Nat.le_refl _⟩ (Nat.le_of_ble_eq_true rfl) dX9_next_3 (fun H locs hR hS => ?_)
  refine g_ifv_ne (tgt := 12) C dX9_next_6 (by decide) (by decide) (fun w ew hw1 hw2 => ?_) (fun c6 => ?_)
  · -- 6 T
    subst ew
    refine g_aload_n C hl dX9_next_12 rfl ?_
    refine gt_X9_0 C hR fl_X9_7 dX9_next_13 ?_
    refine g_bipush 115 C dX9_next_16 (by decide) ?_
    refine r_ald1 C hR (by omega) dX9_next_18 ?_
    refine g_if_le (tgt := 25) C dX9_next_19 (by decide) (by omega) (fun c19 => ?_) (fun c19 => ?_)
    · -- 19 T
      refine g_aload_n C hl dX9_next_25 rfl ?_
      refine gt_X9_0 C hR fl_X9_7 dX9_next_26 ?_
      refine g_aload_n C hl dX9_next_29 rfl ?_
      refine g_aload_n C hl dX9_next_30 rfl ?_
      refine gt_X9_0 C hR fl_X9_7 dX9_next_31 ?_
      refine g_bipush 114 C dX9_next_34 (by decide) ?_
      refine r_ald1 C hR (by omega) dX9_next_36 ?_
      refine g_callVi C hl.1 hR hS rc_X9 md_X9_indexAt ml_X9_71 (c_X9_indexAt l hI hz (hg c19)) rfl rfl ⟨Nat.le_of_ble_eq_true rfl, Nat.le_of_ble_eq_true rfl⟩ ⟨Nat.le_refl _, Nat.le_refl _⟩ (Nat.le_of_ble_eq_true rfl) dX9_next_37 (fun H locs hR hS => ?_)
      refine r_ald1 C hR (by have := hz.at (hg c19); omega) dX9_next_40 ?_
      refine g_istore_n C hl dX9_next_41 (Nat.le_of_ble_eq_true rfl) (fun ls hl => ?_)
      refine g_aload_n C hl dX9_next_42 rfl ?_
      refine g_callVv C hl.1 hR hS rc_X9 md_X9_putAside ml_X9_149 (c_X9_putAside l hI) rfl rfl ⟨Nat.le_of_ble_eq_true rfl, Nat.le_of_ble_eq_true rfl⟩ ⟨Nat.le_refl _, Nat.le_refl _⟩ (Nat.le_of_ble_eq_true rfl) dX9_next_43 (fun H locs hR hS => ?_)
      refine g_aload_n C hl dX9_next_46 rfl ?_
      refine g_callVv C hl.1 hR hS rc_X9 md_X9_step ml_X9_98 (c_X9_step l hI hz (hg c19)) rfl rfl ⟨Nat.le_of_ble_eq_true rfl, Nat.le_of_ble_eq_true rfl⟩ ⟨Nat.le_refl _, Nat.le_refl _⟩ (Nat.le_of_ble_eq_true rfl) dX9_next_47 (fun H locs hR hS => ?_)
      refine g_iload_n C hl dX9_next_50 rfl ?_
      refine g_if_ne (tgt := 58) C dX9_next_51 (by decide) (by omega) (fun c51 => ?_) (fun c51 => ?_)
      · -- 51 T
        refine g_iload_n C hl dX9_next_58 rfl ?_
        refine g_iconst 1 C dX9_next_59 (by decide) ?_
        refine g_icmp_ne (tgt := 73) C dX9_next_60 (by decide) (by omega) (by omega) (fun c60 => ?_) (fun c60 => ?_)
        · -- 60 T
          refine g_aload_n C hl dX9_next_73 rfl ?_
          refine gt_X9_0 C hR fl_X9_7 dX9_next_74 ?_
          refine g_bipush 114 C dX9_next_77 (by decide) ?_
          refine r_ald1 C hR (by omega) dX9_next_79 ?_
          refine g_istore_n C hl dX9_next_80 (Nat.le_of_ble_eq_true rfl) (fun ls hl => ?_)
          refine g_aload_n C hl dX9_next_81 rfl ?_
          refine g_callVv C hl.1 hR hS rc_X9 md_X9_putBack ml_X9_152 (c_X9_putBack l hI) rfl rfl ⟨Nat.le_of_ble_eq_true rfl, Nat.le_of_ble_eq_true rfl⟩ ⟨Nat.le_refl _, Nat.le_refl _⟩ (Nat.le_of_ble_eq_true rfl) dX9_next_82 (fun H locs hR hS => ?_)
          refine g_iload_n C hl dX9_next_85 rfl ?_
          refine g_iret C hR hS dX9_next_86 ?_
          unfold sNext
          rw [if_pos (gIw_ok (by omega) hw2 (by decide)), if_neg (by omega), nI_clamp (by omega)]
          obtain rfl : w = 2 := by omega
          exact ⟨rfl, _, _, _, _, _, _, _, rfl, hr0⟩
        · -- 60 F
          refine g_aload_n C hl dX9_next_63 rfl ?_
          refine gt_X9_0 C hR fl_X9_7 dX9_next_64 ?_
          refine g_bipush 115 C dX9_next_67 (by decide) ?_
          refine r_ald1 C hR (by omega) dX9_next_69 ?_
          refine g_goto (tgt := 80) C dX9_next_70 (by decide) ?_
          refine g_istore_n C hl dX9_next_80 (Nat.le_of_ble_eq_true rfl) (fun ls hl => ?_)
          refine g_aload_n C hl dX9_next_81 rfl ?_
          refine g_callVv C hl.1 hR hS rc_X9 md_X9_putBack ml_X9_152 (c_X9_putBack l hI) rfl rfl ⟨Nat.le_of_ble_eq_true rfl, Nat.le_of_ble_eq_true rfl⟩ ⟨Nat.le_refl _, Nat.le_refl _⟩ (Nat.le_of_ble_eq_true rfl) dX9_next_82 (fun H locs hR hS => ?_)
          refine g_iload_n C hl dX9_next_85 rfl ?_
          refine g_iret C hR hS dX9_next_86 ?_
          unfold sNext
          rw [if_pos (gIw_ok (by omega) hw2 (by decide)), if_neg (by omega), nI_clamp (by omega)]
          obtain rfl : w = 1 := by omega
          exact ⟨rfl, _, _, _, _, _, _, _, rfl, hr0⟩
      · -- 51 F
        refine g_iload_n C hl dX9_next_54 rfl ?_
        refine g_goto (tgt := 80) C dX9_next_55 (by decide) ?_
        refine g_istore_n C hl dX9_next_80 (Nat.le_of_ble_eq_true rfl) (fun ls hl => ?_)
        refine g_aload_n C hl dX9_next_81 rfl ?_
        refine g_callVv C hl.1 hR hS rc_X9 md_X9_putBack ml_X9_152 (c_X9_putBack l hI) rfl rfl ⟨Nat.le_of_ble_eq_true rfl, Nat.le_of_ble_eq_true rfl⟩ ⟨Nat.le_refl _, Nat.le_refl _⟩ (Nat.le_of_ble_eq_true rfl) dX9_next_82 (fun H locs hR hS => ?_)
        refine g_iload_n C hl dX9_next_85 rfl ?_
        refine g_iret C hR hS dX9_next_86 ?_
        unfold sNext
        rw [if_pos (gIw_ok (by omega) hw2 (by decide)), if_neg (by omega), nI_clamp (by omega)]
        obtain rfl : w = 0 := by omega
        exact ⟨rfl, _, _, _, _, _, _, _, rfl, hr0⟩
    · -- 19 F
      refine g_bipushM (-5) C dX9_next_22 (by decide) ?_
      refine g_iret C hR hS dX9_next_24 ?_
      unfold sNext
      rw [if_pos (gIw_ok (by omega) hw2 (by decide)), if_pos c19]
      exact ⟨rfl, _, _, _, _, _, _, _, rfl, hr0⟩
  · -- 6 F
    refine g_bipushM (-2) C dX9_next_9 (by decide) ?_
    refine g_iret C hR hS dX9_next_11 ?_
    unfold sNext
    rw [if_neg (by rw [c6]; decide)]
    exact ⟨rfl, _, _, _, _, _, _, _, rfl, hr0⟩
set_option maxRecDepth 100000 in
set_option maxHeartbeats 4000000 in
/-- ifRun -/
theorem c_X9_ifRun (l : Launch) {X : gX} (hI : gInj X) {mem : gM} {f z a o k t r : Nat → Nat} {S : aS} {n w : Int32} (hJ : aI S) (hr : aRf S f z o k t) : gMt l yX9_ifRun cX9_ifRun 5 (some .int) 6 133 X [.ref (gAd X 8 0), .int n, .int w] (gM8 mem f z a o k t r) (fun v9 m9 => v9 = some (.int (sIf (aZ S) n w)) ∧ aRm S mem m9) := by
  refine gMt.of (own := RX9) (by decide) rfl hI (by simp [Value.category]) (Nat.le_of_ble_eq_true rfl) ?_
  intro p e s m args below meth c ls H locs C hnm hl hR hS
  have hr0 := hr
  obtain ⟨r1, r2, r3, r4, r5, r6, r7, r8, r9, r10⟩ := hr
  subst r4
  have hz : zI (aZ S) := hJ.1.1
  have hg : zG (aZ S) := hJ.1.2.1
  have hB : aZ S 178 ≤ 999999 := hJ.1.2.2.1
  have h4 : f 3 ≤ 4 := by omega
  have h115 := hz.2.2.2.2.2.2.1
  have h116 := hz.2.2.2.2.2.2.2.1
  refine g_iload_n C hl dX9_ifRun_0 rfl ?_
  refine g_iconst 1 C dX9_ifRun_1 (by decide) ?_
  refine g_sipush 999 C dX9_ifRun_2 (by decide) ?_
  refine g_callSi C hl.1 hR hS md_X9_in ml_X9_28 (c_X9_in l hI (by decide) (by decide)) rfl rfl ⟨Nat.le_of_ble_eq_true rfl, Nat.le_of_ble_eq_true rfl⟩ ⟨Nat.le_refl _, Nat.le_refl _⟩ (Nat.le_of_ble_eq_true rfl) dX9_ifRun_5 (fun H locs hR hS => ?_)
  refine g_ifv_eq (tgt := 20) C dX9_ifRun_8 (by decide) (by decide) (fun c8 => ?_) (fun n en hn1 hn2 => ?_)
  · -- 8 T
    refine g_bipushM (-2) C dX9_ifRun_20 (by decide) ?_
    refine g_iret C hR hS dX9_ifRun_22 ?_
    unfold sIf
    rw [if_neg (by rw [c8]; decide)]
    exact ⟨rfl, _, _, _, _, _, _, _, rfl, hr0⟩
  · -- 8 F
    subst en
    refine g_iload_n C hl dX9_ifRun_11 rfl ?_
    refine g_iconst 0 C dX9_ifRun_12 (by decide) ?_
    refine g_iconst 4 C dX9_ifRun_13 (by decide) ?_
    refine g_callSi C hl.1 hR hS md_X9_in ml_X9_28 (c_X9_in l hI (by decide) (by decide)) rfl rfl ⟨Nat.le_of_ble_eq_true rfl, Nat.le_of_ble_eq_true rfl⟩ ⟨Nat.le_refl _, Nat.le_refl _⟩ (Nat.le_of_ble_eq_true rfl) dX9_ifRun_14 (fun H locs hR hS => ?_)
    refine g_ifv_ne (tgt := 23) C dX9_ifRun_17 (by decide) (by decide) (fun w ew hw1 hw2 => ?_) (fun c17 => ?_)
    · -- 17 T
      subst ew
      refine g_aload_n C hl dX9_ifRun_23 rfl ?_
      refine gt_X9_0 C hR fl_X9_7 dX9_ifRun_24 ?_
      refine g_bipush 115 C dX9_ifRun_27 (by decide) ?_
      refine r_ald1 C hR (by omega) dX9_ifRun_29 ?_
      refine g_if_le (tgt := 36) C dX9_ifRun_30 (by decide) (by omega) (fun c30 => ?_) (fun c30 => ?_)
      · -- 30 T
        refine g_aload_n C hl dX9_ifRun_36 rfl ?_
        refine g_callVv C hl.1 hR hS rc_X9 md_X9_putAside ml_X9_149 (c_X9_putAside l hI) rfl rfl ⟨Nat.le_of_ble_eq_true rfl, Nat.le_of_ble_eq_true rfl⟩ ⟨Nat.le_refl _, Nat.le_refl _⟩ (Nat.le_of_ble_eq_true rfl) dX9_ifRun_37 (fun H locs hR hS => ?_)
        refine g_aload_n C hl dX9_ifRun_40 rfl ?_
        refine g_iload_n C hl dX9_ifRun_41 rfl ?_
        refine g_callVi C hl.1 hR hS rc_X9 md_X9_doRun ml_X9_102 (c_X9_doRun l hI hz hg (by omega)) rfl rfl ⟨Nat.le_of_ble_eq_true rfl, Nat.le_of_ble_eq_true rfl⟩ ⟨Nat.le_refl _, Nat.le_refl _⟩ (Nat.le_of_ble_eq_true rfl) dX9_ifRun_42 (fun H locs hR hS => ?_)
        refine g_istore_n C hl dX9_ifRun_45 (Nat.le_of_ble_eq_true rfl) (fun ls hl => ?_)
        refine g_iload_n C hl dX9_ifRun_46 rfl ?_
        refine g_if_ne (tgt := 54) C dX9_ifRun_47 (by decide) (by omega) (fun c47 => ?_) (fun c47 => ?_)
        · -- 47 T
          refine g_iload_n C hl dX9_ifRun_54 rfl ?_
          refine g_iconst 1 C dX9_ifRun_55 (by decide) ?_
          refine g_icmp_ne (tgt := 69) C dX9_ifRun_56 (by decide) (by omega) (by omega) (fun c56 => ?_) (fun c56 => ?_)
          · -- 56 T
            refine g_iload_n C hl dX9_ifRun_69 rfl ?_
            refine g_iconst 2 C dX9_ifRun_70 (by decide) ?_
            refine g_icmp_ne (tgt := 84) C dX9_ifRun_71 (by decide) (by omega) (by omega) (fun c71 => ?_) (fun c71 => ?_)
            · -- 71 T
              refine g_iload_n C hl dX9_ifRun_84 rfl ?_
              refine g_iconst 3 C dX9_ifRun_85 (by decide) ?_
              refine g_icmp_ne (tgt := 99) C dX9_ifRun_86 (by decide) (by omega) (by omega) (fun c86 => ?_) (fun c86 => ?_)
              · -- 86 T
                refine g_aload_n C hl dX9_ifRun_99 rfl ?_
                refine g_callVi C hl.1 hR hS rc_X9 md_X9_unlikeCells ml_X9_155 (c_X9_unlikeCells l hI (zRun_I hz hg n).1 hz) rfl rfl ⟨Nat.le_of_ble_eq_true rfl, Nat.le_of_ble_eq_true rfl⟩ ⟨Nat.le_refl _, Nat.le_refl _⟩ (Nat.le_of_ble_eq_true rfl) dX9_ifRun_100 (fun H locs hR hS => ?_)
                refine g_istore C hl dX9_ifRun_103 (Nat.le_of_ble_eq_true rfl) (fun ls hl => ?_)
                refine g_aload_n C hl dX9_ifRun_105 rfl ?_
                refine g_callVv C hl.1 hR hS rc_X9 md_X9_putBack ml_X9_152 (c_X9_putBack l hI) rfl rfl ⟨Nat.le_of_ble_eq_true rfl, Nat.le_of_ble_eq_true rfl⟩ ⟨Nat.le_refl _, Nat.le_refl _⟩ (Nat.le_of_ble_eq_true rfl) dX9_ifRun_106 (fun H locs hR hS => ?_)
                refine g_iload C hl dX9_ifRun_109 rfl ?_
                refine g_iret C hR hS dX9_ifRun_111 ?_
                unfold sIf
                rw [if_pos (gIw_ok hn1 hn2 (by decide)), if_pos (gIw_ok (by omega) hw2 (by decide)), if_neg (by omega), nI_clamp (by omega), nI_clamp (by omega)]
                obtain rfl : w = 4 := by omega
                exact ⟨rfl, _, _, _, _, _, _, _, rfl, hr0⟩
              · -- 86 F
                refine g_aload_n C hl dX9_ifRun_89 rfl ?_
                refine gt_X9_0 C hR fl_X9_7 dX9_ifRun_90 ?_
                refine g_bipush 116 C dX9_ifRun_93 (by decide) ?_
                refine r_ald1 C hR (by omega) dX9_ifRun_95 ?_
                refine g_goto (tgt := 103) C dX9_ifRun_96 (by decide) ?_
                refine g_istore C hl dX9_ifRun_103 (Nat.le_of_ble_eq_true rfl) (fun ls hl => ?_)
                refine g_aload_n C hl dX9_ifRun_105 rfl ?_
                refine g_callVv C hl.1 hR hS rc_X9 md_X9_putBack ml_X9_152 (c_X9_putBack l hI) rfl rfl ⟨Nat.le_of_ble_eq_true rfl, Nat.le_of_ble_eq_true rfl⟩ ⟨Nat.le_refl _, Nat.le_refl _⟩ (Nat.le_of_ble_eq_true rfl) dX9_ifRun_106 (fun H locs hR hS => ?_)
                refine g_iload C hl dX9_ifRun_109 rfl ?_
                refine g_iret C hR hS dX9_ifRun_111 ?_
                unfold sIf
                rw [if_pos (gIw_ok hn1 hn2 (by decide)), if_pos (gIw_ok (by omega) hw2 (by decide)), if_neg (by omega), nI_clamp (by omega), nI_clamp (by omega)]
                obtain rfl : w = 3 := by omega
                exact ⟨rfl, _, _, _, _, _, _, _, rfl, hr0⟩
            · -- 71 F
              refine g_aload_n C hl dX9_ifRun_74 rfl ?_
              refine gt_X9_0 C hR fl_X9_7 dX9_ifRun_75 ?_
              refine g_bipush 113 C dX9_ifRun_78 (by decide) ?_
              refine r_ald1 C hR (by omega) dX9_ifRun_80 ?_
              refine g_goto (tgt := 103) C dX9_ifRun_81 (by decide) ?_
              refine g_istore C hl dX9_ifRun_103 (Nat.le_of_ble_eq_true rfl) (fun ls hl => ?_)
              refine g_aload_n C hl dX9_ifRun_105 rfl ?_
              refine g_callVv C hl.1 hR hS rc_X9 md_X9_putBack ml_X9_152 (c_X9_putBack l hI) rfl rfl ⟨Nat.le_of_ble_eq_true rfl, Nat.le_of_ble_eq_true rfl⟩ ⟨Nat.le_refl _, Nat.le_refl _⟩ (Nat.le_of_ble_eq_true rfl) dX9_ifRun_106 (fun H locs hR hS => ?_)
              refine g_iload C hl dX9_ifRun_109 rfl ?_
              refine g_iret C hR hS dX9_ifRun_111 ?_
              unfold sIf
              rw [if_pos (gIw_ok hn1 hn2 (by decide)), if_pos (gIw_ok (by omega) hw2 (by decide)), if_neg (by omega), nI_clamp (by omega), nI_clamp (by omega)]
              obtain rfl : w = 2 := by omega
              exact ⟨rfl, _, _, _, _, _, _, _, rfl, hr0⟩
          · -- 56 F
            refine g_aload_n C hl dX9_ifRun_59 rfl ?_
            refine gt_X9_0 C hR fl_X9_7 dX9_ifRun_60 ?_
            refine g_bipush 115 C dX9_ifRun_63 (by decide) ?_
            refine r_ald1 C hR (by omega) dX9_ifRun_65 ?_
            refine g_goto (tgt := 103) C dX9_ifRun_66 (by decide) ?_
            refine g_istore C hl dX9_ifRun_103 (Nat.le_of_ble_eq_true rfl) (fun ls hl => ?_)
            refine g_aload_n C hl dX9_ifRun_105 rfl ?_
            refine g_callVv C hl.1 hR hS rc_X9 md_X9_putBack ml_X9_152 (c_X9_putBack l hI) rfl rfl ⟨Nat.le_of_ble_eq_true rfl, Nat.le_of_ble_eq_true rfl⟩ ⟨Nat.le_refl _, Nat.le_refl _⟩ (Nat.le_of_ble_eq_true rfl) dX9_ifRun_106 (fun H locs hR hS => ?_)
            refine g_iload C hl dX9_ifRun_109 rfl ?_
            refine g_iret C hR hS dX9_ifRun_111 ?_
            unfold sIf
            rw [if_pos (gIw_ok hn1 hn2 (by decide)), if_pos (gIw_ok (by omega) hw2 (by decide)), if_neg (by omega), nI_clamp (by omega), nI_clamp (by omega)]
            obtain rfl : w = 1 := by omega
            exact ⟨rfl, _, _, _, _, _, _, _, rfl, hr0⟩
        · -- 47 F
          refine g_iload_n C hl dX9_ifRun_50 rfl ?_
          refine g_goto (tgt := 103) C dX9_ifRun_51 (by decide) ?_
          refine g_istore C hl dX9_ifRun_103 (Nat.le_of_ble_eq_true rfl) (fun ls hl => ?_)
          refine g_aload_n C hl dX9_ifRun_105 rfl ?_
          refine g_callVv C hl.1 hR hS rc_X9 md_X9_putBack ml_X9_152 (c_X9_putBack l hI) rfl rfl ⟨Nat.le_of_ble_eq_true rfl, Nat.le_of_ble_eq_true rfl⟩ ⟨Nat.le_refl _, Nat.le_refl _⟩ (Nat.le_of_ble_eq_true rfl) dX9_ifRun_106 (fun H locs hR hS => ?_)
          refine g_iload C hl dX9_ifRun_109 rfl ?_
          refine g_iret C hR hS dX9_ifRun_111 ?_
          unfold sIf
          rw [if_pos (gIw_ok hn1 hn2 (by decide)), if_pos (gIw_ok (by omega) hw2 (by decide)), if_neg (by omega), nI_clamp (by omega), nI_clamp (by omega)]
          obtain rfl : w = 0 := by omega
          exact ⟨rfl, _, _, _, _, _, _, _, rfl, hr0⟩
      · -- 30 F
        refine g_bipushM (-4) C dX9_ifRun_33 (by decide) ?_
        refine g_iret C hR hS dX9_ifRun_35 ?_
        unfold sIf
        rw [if_pos (gIw_ok hn1 hn2 (by decide)), if_pos (gIw_ok (by omega) hw2 (by decide)), if_pos c30]
        exact ⟨rfl, _, _, _, _, _, _, _, rfl, hr0⟩
    · -- 17 F
      refine g_bipushM (-2) C dX9_ifRun_20 (by decide) ?_
      refine g_iret C hR hS dX9_ifRun_22 ?_
      unfold sIf
      rw [if_neg (show ¬ gIw w 0 4 = true by rw [c17]; decide), ite_self]
      exact ⟨rfl, _, _, _, _, _, _, _, rfl, hr0⟩
theorem zBack_0 {z : Nat → Nat} {n : Nat} (h : zBack z n = 0) (h1 : zRun z n 115 = 0) (h2 : ¬ zRun z (n + 1) 116 < z 116) : zBack z (n + 1) = 0 := by
  show (if zBack z n = 0 ∧ zRun z n 115 = 0 ∧ zRun z (n + 1) 116 < z 116 then n + 1 else zBack z n) = 0
  rw [if_neg (fun q => h2 q.2.2), h]
theorem zBack_1 {z : Nat → Nat} {n : Nat} (h : zBack z n = 0) (h1 : zRun z n 115 = 0) (h2 : zRun z (n + 1) 116 < z 116) : ∀ d, zBack z (n + 1 + d) = n + 1
  | 0 => if_pos ⟨h, h1, h2⟩
  | d + 1 => by
    have e := zBack_1 h h1 h2 d
    show (if zBack z (n + 1 + d) = 0 ∧ _ then _ else zBack z (n + 1 + d)) = n + 1
    rw [if_neg (fun q => by have := q.1; rw [e] at this; omega), e]
theorem zBack_st {z : Nat → Nat} {n : Nat} (h : zBack z n = 0) (h1 : ¬ zRun z n 115 = 0) : ∀ d, zBack z (n + d) = 0
  | 0 => h
  | d + 1 => by
    have e := zBack_st h h1 d
    show (if zBack z (n + d) = 0 ∧ zRun z (n + d) 115 = 0 ∧ _ then _ else zBack z (n + d)) = 0
    rw [if_neg (fun q => h1 (by have := q.2.1; rw [(zRun_stop h1 d).1] at this; exact this)), e]
theorem zBack_no {z : Nat → Nat} (h : z 116 = 0) : ∀ n, zBack z n = 0
  | 0 => rfl
  | n + 1 => by
    show (if zBack z n = 0 ∧ zRun z n 115 = 0 ∧ zRun z (n + 1) 116 < z 116 then n + 1 else zBack z n) = 0
    rw [if_neg (fun q => absurd q.2.2 (by omega)), zBack_no h n]
set_option maxRecDepth 100000 in
set_option maxHeartbeats 4000000 in
/-- X9_backIn -/
theorem c_X9_backIn (l : Launch) {X : gX} (hI : gInj X) {mem : gM} {f z a o k t r : Nat → Nat} {S : aS} (hJ : aI S) (hr : aRf S f z o k t) : gMt l yX9_backIn cX9_backIn 4 (some .int) 5 111 X [.ref (gAd X 8 0)] (gM8 mem f z a o k t r) (fun v9 m9 => v9 = some (.int (sBack (aZ S))) ∧ aRm S mem m9) := by
  refine gMt.of (own := RX9) (by decide) rfl hI (by simp [Value.category]) (Nat.le_of_ble_eq_true rfl) ?_
  intro p e s m args below meth c ls H locs C hnm hl hR hS
  have hr0 := hr
  obtain ⟨r1, r2, r3, r4, r5, r6, r7, r8, r9, r10⟩ := hr
  subst r4
  have hz : zI (aZ S) := hJ.1.1
  have hg : zG (aZ S) := hJ.1.2.1
  have hB : aZ S 178 ≤ 999999 := hJ.1.2.2.1
  have h4 : f 3 ≤ 4 := by omega
  have h115 := hz.2.2.2.2.2.2.1
  have h116 := hz.2.2.2.2.2.2.2.1
  have stopn : ∀ (i : Nat) (w0 : Option Value), (zBack (aZ S) 500 = 0) → ¬ zRun (aZ S) i 116 < aZ S 116 → ∀ (ls : Array Slot) (H : Heap) (locs : List Loc), gL ls [some (.ref (gAd X 8 0)), some (.int (nI (aZ S 116))), some (.int (nI i)), w0] → gRep X (gM8 mem f (zRun (aZ S) (i)) (aZ S) o k t r) H → va_S (gA X) s.heap H locs → W p l e { frames := 5, cells := 0, slots := 0, locals := 111 } s m args below meth c H locs 0 0 (MQ below (gQ X (fun v9 m9 => v9 = some (.int (sBack (aZ S))) ∧ aRm S mem m9)) args s 0 0 (gA X)) (F0 m 56 ls []) := by
    intro i w0 hb hnf ls H locs hl hR hS
    have b116 := (zRun_I hz hg i).1.2.2.2.2.2.2.2.1
    refine g_aload_n C hl dX9_backIn_56 rfl ?_
    refine gt_X9_0 C hR fl_X9_7 dX9_backIn_57 ?_
    refine g_bipush 116 C dX9_backIn_60 (by decide) ?_
    refine r_ald1 C hR (by omega) dX9_backIn_62 ?_
    refine g_iload_n C hl dX9_backIn_63 rfl ?_
    refine g_icmp_ge (tgt := 71) C dX9_backIn_64 (by decide) (by omega) (by omega) (fun c64 => ?_) (fun z9 => absurd z9 (by omega))
    refine g_bipushM (-5) C dX9_backIn_71 (by decide) ?_
    refine g_istore_n C hl dX9_backIn_73 (Nat.le_of_ble_eq_true rfl) (fun ls hl => ?_)
    refine g_aload_n C hl dX9_backIn_74 rfl ?_
    refine g_callVv C hl.1 hR hS rc_X9 md_X9_putBack ml_X9_152 (c_X9_putBack l hI) rfl rfl ⟨Nat.le_of_ble_eq_true rfl, Nat.le_of_ble_eq_true rfl⟩ ⟨Nat.le_refl _, Nat.le_refl _⟩ (Nat.le_of_ble_eq_true rfl) dX9_backIn_75 (fun H locs hR hS => ?_)
    refine g_iload_n C hl dX9_backIn_78 rfl ?_
    refine g_iret C hR hS dX9_backIn_79 ?_
    unfold sBack
    rw [if_pos hb]
    exact ⟨rfl, _, _, _, _, _, _, _, rfl, hr0⟩
  have stopy : ∀ (i : Nat) (w0 : Option Value), i ≤ 500 → zBack (aZ S) 500 = i → 0 < i → zRun (aZ S) i 116 < aZ S 116 → ∀ (ls : Array Slot) (H : Heap) (locs : List Loc), gL ls [some (.ref (gAd X 8 0)), some (.int (nI (aZ S 116))), some (.int (nI i)), w0] → gRep X (gM8 mem f (zRun (aZ S) (i)) (aZ S) o k t r) H → va_S (gA X) s.heap H locs → W p l e { frames := 5, cells := 0, slots := 0, locals := 111 } s m args below meth c H locs 0 0 (MQ below (gQ X (fun v9 m9 => v9 = some (.int (sBack (aZ S))) ∧ aRm S mem m9)) args s 0 0 (gA X)) (F0 m 56 ls []) := by
    intro i w0 hle hb h0 hnf ls H locs hl hR hS
    have b116 := (zRun_I hz hg i).1.2.2.2.2.2.2.2.1
    refine g_aload_n C hl dX9_backIn_56 rfl ?_
    refine gt_X9_0 C hR fl_X9_7 dX9_backIn_57 ?_
    refine g_bipush 116 C dX9_backIn_60 (by decide) ?_
    refine r_ald1 C hR (by omega) dX9_backIn_62 ?_
    refine g_iload_n C hl dX9_backIn_63 rfl ?_
    refine g_icmp_ge (tgt := 71) C dX9_backIn_64 (by decide) (by omega) (by omega) (fun z9 => absurd z9 (by omega)) (fun c64 => ?_)
    refine g_iload_n C hl dX9_backIn_67 rfl ?_
    refine g_goto (tgt := 73) C dX9_backIn_68 (by decide) ?_
    refine g_istore_n C hl dX9_backIn_73 (Nat.le_of_ble_eq_true rfl) (fun ls hl => ?_)
    refine g_aload_n C hl dX9_backIn_74 rfl ?_
    refine g_callVv C hl.1 hR hS rc_X9 md_X9_putBack ml_X9_152 (c_X9_putBack l hI) rfl rfl ⟨Nat.le_of_ble_eq_true rfl, Nat.le_of_ble_eq_true rfl⟩ ⟨Nat.le_refl _, Nat.le_refl _⟩ (Nat.le_of_ble_eq_true rfl) dX9_backIn_75 (fun H locs hR hS => ?_)
    refine g_iload_n C hl dX9_backIn_78 rfl ?_
    refine g_iret C hR hS dX9_backIn_79 ?_
    unfold sBack
    rw [if_neg (by omega), hb]
    exact ⟨rfl, _, _, _, _, _, _, _, rfl, hr0⟩
  have headf : ∀ (i : Nat) (w0 : Option Value), i ≤ 500 → zBack (aZ S) 500 = i → 0 < i → zRun (aZ S) i 116 < aZ S 116 → ∀ (ls : Array Slot) (H : Heap) (locs : List Loc), gL ls [some (.ref (gAd X 8 0)), some (.int (nI (aZ S 116))), some (.int (nI i)), w0] → gRep X (gM8 mem f (zRun (aZ S) (i)) (aZ S) o k t r) H → va_S (gA X) s.heap H locs → W p l e { frames := 5, cells := 0, slots := 0, locals := 111 } s m args below meth c H locs 0 0 (MQ below (gQ X (fun v9 m9 => v9 = some (.int (sBack (aZ S))) ∧ aRm S mem m9)) args s 0 0 (gA X)) (F0 m 14 ls []) := by
    intro i w0 hle hb h0 hnf ls H locs hl hR hS
    have b115 := (zRun_I hz hg i).1.2.2.2.2.2.2.1
    have b116 := (zRun_I hz hg i).1.2.2.2.2.2.2.2.1
    refine g_iload_n C hl dX9_backIn_14 rfl ?_
    refine g_sipush 500 C dX9_backIn_15 (by decide) ?_
    refine g_icmp_ge (tgt := 56) C dX9_backIn_18 (by decide) (by omega) (by omega) (fun c18 => ?_) (fun c18 => ?_)
    · -- 18 T
      exact stopy i w0 hle hb h0 hnf ls H locs hl hR hS
    · -- 18 F
      refine g_aload_n C hl dX9_backIn_21 rfl ?_
      refine gt_X9_0 C hR fl_X9_7 dX9_backIn_22 ?_
      refine g_bipush 115 C dX9_backIn_25 (by decide) ?_
      refine r_ald1 C hR (by omega) dX9_backIn_27 ?_
      refine g_if_ne (tgt := 56) C dX9_backIn_28 (by decide) (by omega) (fun c28 => ?_) (fun c28 => ?_)
      · -- 28 T
        exact stopy i w0 hle hb h0 hnf ls H locs hl hR hS
      · -- 28 F
        refine g_aload_n C hl dX9_backIn_31 rfl ?_
        refine gt_X9_0 C hR fl_X9_7 dX9_backIn_32 ?_
        refine g_bipush 116 C dX9_backIn_35 (by decide) ?_
        refine r_ald1 C hR (by omega) dX9_backIn_37 ?_
        refine g_iload_n C hl dX9_backIn_38 rfl ?_
        refine g_icmp_lt (tgt := 56) C dX9_backIn_39 (by decide) (by omega) (by omega) (fun c39 => ?_) (fun z9 => absurd z9 (by omega))
        exact stopy i w0 hle hb h0 hnf ls H locs hl hR hS
  have loop : ∀ (n9 i : Nat), i + n9 = 500 → zBack (aZ S) i = 0 → (0 < aZ S 116) → ¬ zRun (aZ S) i 116 < aZ S 116 → ∀ (ls : Array Slot) (H : Heap) (locs : List Loc) (w0 : Option Value), gL ls [some (.ref (gAd X 8 0)), some (.int (nI (aZ S 116))), some (.int (nI i)), w0] → gRep X (gM8 mem f (zRun (aZ S) (i)) (aZ S) o k t r) H → va_S (gA X) s.heap H locs → W p l e { frames := 5, cells := 0, slots := 0, locals := 111 } s m args below meth c H locs 0 0 (MQ below (gQ X (fun v9 m9 => v9 = some (.int (sBack (aZ S))) ∧ aRm S mem m9)) args s 0 0 (gA X)) (F0 m 14 ls []) := by
    intro n9
    induction n9 with
    | zero =>
      intro i hi hb h0 hnf ls H locs w0 hl hR hS
      obtain rfl : i = 500 := by omega
      refine g_iload_n C hl dX9_backIn_14 rfl ?_
      refine g_sipush 500 C dX9_backIn_15 (by decide) ?_
      refine g_icmp_ge (tgt := 56) C dX9_backIn_18 (by decide) (by omega) (by omega) (fun c18 => ?_) (fun z9 => absurd z9 (by omega))
      exact stopn 500 w0 hb hnf ls H locs hl hR hS
    | succ n9 ih =>
      intro i hi hb h0 hnf ls H locs w0 hl hR hS
      obtain ⟨hzi, hgi⟩ := zRun_I hz hg i
      have b115 := hzi.2.2.2.2.2.2.1
      have b116 := hzi.2.2.2.2.2.2.2.1
      refine g_iload_n C hl dX9_backIn_14 rfl ?_
      refine g_sipush 500 C dX9_backIn_15 (by decide) ?_
      refine g_icmp_ge (tgt := 56) C dX9_backIn_18 (by decide) (by omega) (by omega) (fun z9 => absurd z9 (by omega)) (fun c18 => ?_)
      refine g_aload_n C hl dX9_backIn_21 rfl ?_
      refine gt_X9_0 C hR fl_X9_7 dX9_backIn_22 ?_
      refine g_bipush 115 C dX9_backIn_25 (by decide) ?_
      refine r_ald1 C hR (by omega) dX9_backIn_27 ?_
      refine g_if_ne (tgt := 56) C dX9_backIn_28 (by decide) (by omega) (fun c28 => ?_) (fun c28 => ?_)
      · -- 28 T
        have e5 := zBack_st hb c28 (500 - i)
        rw [show i + (500 - i) = 500 by omega] at e5
        exact stopn i w0 e5 hnf ls H locs hl hR hS
      · -- 28 F
        refine g_aload_n C hl dX9_backIn_31 rfl ?_
        refine gt_X9_0 C hR fl_X9_7 dX9_backIn_32 ?_
        refine g_bipush 116 C dX9_backIn_35 (by decide) ?_
        refine r_ald1 C hR (by omega) dX9_backIn_37 ?_
        refine g_iload_n C hl dX9_backIn_38 rfl ?_
        refine g_icmp_lt (tgt := 56) C dX9_backIn_39 (by decide) (by omega) (by omega) (fun z9 => absurd z9 (by omega)) (fun c39 => ?_)
        refine g_iload_n C hl dX9_backIn_42 rfl ?_
        refine g_if_le (tgt := 56) C dX9_backIn_43 (by decide) (by omega) (fun z9 => absurd z9 (by omega)) (fun c43 => ?_)
        refine g_aload_n C hl dX9_backIn_46 rfl ?_
        refine g_callVv C hl.1 hR hS rc_X9 md_X9_step ml_X9_98 (c_X9_step l hI hzi (hgi c28)) rfl rfl ⟨Nat.le_of_ble_eq_true rfl, Nat.le_of_ble_eq_true rfl⟩ ⟨Nat.le_refl _, Nat.le_refl _⟩ (Nat.le_of_ble_eq_true rfl) dX9_backIn_47 (fun H locs hR hS => ?_)
        refine g_iinc (k := 1) C hl dX9_backIn_50 rfl (by decide) (fun ls hl => ?_)
        refine g_goto (tgt := 14) C dX9_backIn_53 (by decide) ?_
        have e1 : zRun (aZ S) (i + 1) = zStep (zRun (aZ S) i) := if_pos c28
        rw [← e1] at hR
        by_cases hf : zRun (aZ S) (i + 1) 116 < aZ S 116
        · have e5 := zBack_1 hb c28 hf (500 - (i + 1))
          rw [show i + 1 + (500 - (i + 1)) = 500 by omega] at e5
          exact headf (i + 1) w0 (by omega) e5 (by omega) hf ls H locs hl hR hS
        · exact ih (i + 1) (by omega) (zBack_0 hb c28 hf) h0 hf ls H locs w0 hl hR hS
  refine g_aload_n C hl dX9_backIn_0 rfl ?_
  refine g_callVv C hl.1 hR hS rc_X9 md_X9_putAside ml_X9_149 (c_X9_putAside l hI) rfl rfl ⟨Nat.le_of_ble_eq_true rfl, Nat.le_of_ble_eq_true rfl⟩ ⟨Nat.le_refl _, Nat.le_refl _⟩ (Nat.le_of_ble_eq_true rfl) dX9_backIn_1 (fun H locs hR hS => ?_)
  refine g_aload_n C hl dX9_backIn_4 rfl ?_
  refine gt_X9_0 C hR fl_X9_7 dX9_backIn_5 ?_
  refine g_bipush 116 C dX9_backIn_8 (by decide) ?_
  refine r_ald1 C hR (by omega) dX9_backIn_10 ?_
  refine g_istore_n C hl dX9_backIn_11 (Nat.le_of_ble_eq_true rfl) (fun ls hl => ?_)
  refine g_iconst 0 C dX9_backIn_12 (by decide) ?_
  refine g_istore_n C hl dX9_backIn_13 (Nat.le_of_ble_eq_true rfl) (fun ls hl => ?_)
  by_cases h0 : 0 < aZ S 116
  · exact loop 500 0 (by omega) rfl h0 (by show ¬ aZ S 116 < aZ S 116; omega) _ _ _ _ hl hR hS
  · have e0 : aZ S 116 = 0 := by omega
    refine g_iload_n C hl dX9_backIn_14 rfl ?_
    refine g_sipush 500 C dX9_backIn_15 (by decide) ?_
    refine g_icmp_ge (tgt := 56) C dX9_backIn_18 (by decide) (by omega) (by omega) (fun z9 => absurd z9 (by omega)) (fun c18 => ?_)
    refine g_aload_n C hl dX9_backIn_21 rfl ?_
    refine gt_X9_0 C hR fl_X9_7 dX9_backIn_22 ?_
    refine g_bipush 115 C dX9_backIn_25 (by decide) ?_
    refine r_ald1 C hR (by omega) dX9_backIn_27 ?_
    refine g_if_ne (tgt := 56) C dX9_backIn_28 (by decide) (by omega) (fun c28 => ?_) (fun c28 => ?_)
    · -- 28 T
      exact stopn 0 _ (zBack_no e0 500) (by show ¬ aZ S 116 < aZ S 116; omega) _ _ _ hl hR hS
    · -- 28 F
      refine g_aload_n C hl dX9_backIn_31 rfl ?_
      refine gt_X9_0 C hR fl_X9_7 dX9_backIn_32 ?_
      refine g_bipush 116 C dX9_backIn_35 (by decide) ?_
      refine r_ald1 C hR (by omega) dX9_backIn_37 ?_
      refine g_iload_n C hl dX9_backIn_38 rfl ?_
      refine g_icmp_lt (tgt := 56) C dX9_backIn_39 (by decide) (by omega) (by omega) (fun z9 => absurd z9 (by omega)) (fun c39 => ?_)
      refine g_iload_n C hl dX9_backIn_42 rfl ?_
      refine g_if_le (tgt := 56) C dX9_backIn_43 (by decide) (by omega) (fun c43 => ?_) (fun z9 => absurd z9 (by omega))
      exact stopn 0 _ (zBack_no e0 500) (by show ¬ aZ S 116 < aZ S 116; omega) _ _ _ hl hR hS
set_option maxRecDepth 100000 in
set_option maxHeartbeats 4000000 in
/-- count -/
theorem c_X9_count (l : Launch) {X : gX} (hI : gInj X) {mem : gM} {f z a o k t r : Nat → Nat} {S : aS} {w : Int32} (hJ : aI S) (hr : aRf S f z o k t) : gMt l yX9_count cX9_count 2 (some .int) 1 22 X [.ref (gAd X 8 0), .int w] (gM8 mem f z a o k t r) (fun v9 m9 => v9 = some (.int (sCount S w)) ∧ aRm S mem m9) := by
  refine gMt.of (own := RX9) (by decide) rfl hI (by simp [Value.category]) (Nat.le_of_ble_eq_true rfl) ?_
  intro p e s m args below meth c ls H locs C hnm hl hR hS
  have hr0 := hr
  obtain ⟨r1, r2, r3, r4, r5, r6, r7, r8, r9, r10⟩ := hr
  subst r4
  have hz : zI (aZ S) := hJ.1.1
  have hg : zG (aZ S) := hJ.1.2.1
  have hB : aZ S 178 ≤ 999999 := hJ.1.2.2.1
  have h4 : f 3 ≤ 4 := by omega
  have h115 := hz.2.2.2.2.2.2.1
  have h116 := hz.2.2.2.2.2.2.2.1
  refine g_iload_n C hl dX9_count_0 rfl ?_
  by_cases hsw : gIw w 0 11 = true
  · -- 1 in
    obtain ⟨w9, e9, -, h9⟩ := gIw_t hsw (by decide)
    subst e9
    rcases (show w9 = 0 ∨ w9 = 1 ∨ w9 = 2 ∨ w9 = 3 ∨ w9 = 4 ∨ w9 = 5 ∨ w9 = 6 ∨ w9 = 7 ∨ w9 = 8 ∨ w9 = 9 ∨ w9 = 10 ∨ w9 = 11 by omega) with e9 | e9 | e9 | e9 | e9 | e9 | e9 | e9 | e9 | e9 | e9 | e9
    · -- 1 case 0
      subst e9
      refine lv_tableIn (tgt := 64) C.1 C.2.1 dX9_count_1 (by decide) (by decide) rfl (by decide) ?_
      refine g_aload_n C hl dX9_count_64 rfl ?_
      refine gt_X9_0 C hR fl_X9_7 dX9_count_65 ?_
      refine g_bipush 113 C dX9_count_68 (by decide) ?_
      refine r_ald1 C hR (by omega) dX9_count_70 ?_
      refine g_iret C hR hS dX9_count_71 ?_
      unfold sCount
      rw [if_pos (gIw_ok (by omega) (by omega) (by decide)), nI_clamp (by omega)]
      exact ⟨rfl, _, _, _, _, _, _, _, rfl, hr0⟩
    · -- 1 case 1
      subst e9
      refine lv_tableIn (tgt := 72) C.1 C.2.1 dX9_count_1 (by decide) (by decide) rfl (by decide) ?_
      refine g_aload_n C hl dX9_count_72 rfl ?_
      refine gt_X9_0 C hR fl_X9_7 dX9_count_73 ?_
      refine g_bipush 114 C dX9_count_76 (by decide) ?_
      refine r_ald1 C hR (by omega) dX9_count_78 ?_
      refine g_iret C hR hS dX9_count_79 ?_
      unfold sCount
      rw [if_pos (gIw_ok (by omega) (by omega) (by decide)), nI_clamp (by omega)]
      exact ⟨rfl, _, _, _, _, _, _, _, rfl, hr0⟩
    · -- 1 case 2
      subst e9
      refine lv_tableIn (tgt := 80) C.1 C.2.1 dX9_count_1 (by decide) (by decide) rfl (by decide) ?_
      refine g_aload_n C hl dX9_count_80 rfl ?_
      refine gt_X9_0 C hR fl_X9_7 dX9_count_81 ?_
      refine g_bipush 116 C dX9_count_84 (by decide) ?_
      refine r_ald1 C hR (by omega) dX9_count_86 ?_
      refine g_iret C hR hS dX9_count_87 ?_
      unfold sCount
      rw [if_pos (gIw_ok (by omega) (by omega) (by decide)), nI_clamp (by omega)]
      exact ⟨rfl, _, _, _, _, _, _, _, rfl, hr0⟩
    · -- 1 case 3
      subst e9
      refine lv_tableIn (tgt := 88) C.1 C.2.1 dX9_count_1 (by decide) (by decide) rfl (by decide) ?_
      refine g_aload_n C hl dX9_count_88 rfl ?_
      refine gt_X9_0 C hR fl_X9_7 dX9_count_89 ?_
      refine g_bipush 115 C dX9_count_92 (by decide) ?_
      refine r_ald1 C hR (by omega) dX9_count_94 ?_
      refine g_iret C hR hS dX9_count_95 ?_
      unfold sCount
      rw [if_pos (gIw_ok (by omega) (by omega) (by decide)), nI_clamp (by omega)]
      exact ⟨rfl, _, _, _, _, _, _, _, rfl, hr0⟩
    · -- 1 case 4
      subst e9
      refine lv_tableIn (tgt := 96) C.1 C.2.1 dX9_count_1 (by decide) (by decide) rfl (by decide) ?_
      refine g_aload_n C hl dX9_count_96 rfl ?_
      refine gt_X9_0 C hR fl_X9_7 dX9_count_97 ?_
      refine g_sipush 178 C dX9_count_100 (by decide) ?_
      refine r_ald1 C hR (by omega) dX9_count_103 ?_
      refine g_iret C hR hS dX9_count_104 ?_
      unfold sCount
      rw [if_pos (gIw_ok (by omega) (by omega) (by decide)), nI_clamp (by omega)]
      exact ⟨rfl, _, _, _, _, _, _, _, rfl, hr0⟩
    · -- 1 case 5
      subst e9
      refine lv_tableIn (tgt := 105) C.1 C.2.1 dX9_count_1 (by decide) (by decide) rfl (by decide) ?_
      refine g_aload_n C hl dX9_count_105 rfl ?_
      refine gt_X9_0 C hR fl_X9_7 dX9_count_106 ?_
      refine g_sipush 179 C dX9_count_109 (by decide) ?_
      refine r_ald1 C hR (by omega) dX9_count_112 ?_
      refine g_iret C hR hS dX9_count_113 ?_
      unfold sCount
      rw [if_pos (gIw_ok (by omega) (by omega) (by decide)), nI_clamp (by omega)]
      exact ⟨rfl, _, _, _, _, _, _, _, rfl, hr0⟩
    · -- 1 case 6
      subst e9
      refine lv_tableIn (tgt := 114) C.1 C.2.1 dX9_count_1 (by decide) (by decide) rfl (by decide) ?_
      refine g_aload_n C hl dX9_count_114 rfl ?_
      refine gt_X9_0 C hR fl_X9_7 dX9_count_115 ?_
      refine g_sipush 180 C dX9_count_118 (by decide) ?_
      refine r_ald1 C hR (by omega) dX9_count_121 ?_
      refine g_iret C hR hS dX9_count_122 ?_
      unfold sCount
      rw [if_pos (gIw_ok (by omega) (by omega) (by decide)), nI_clamp (by omega)]
      exact ⟨rfl, _, _, _, _, _, _, _, rfl, hr0⟩
    · -- 1 case 7
      subst e9
      refine lv_tableIn (tgt := 123) C.1 C.2.1 dX9_count_1 (by decide) (by decide) rfl (by decide) ?_
      refine g_aload_n C hl dX9_count_123 rfl ?_
      refine gt_X9_0 C hR fl_X9_7 dX9_count_124 ?_
      refine g_sipush 181 C dX9_count_127 (by decide) ?_
      refine r_ald1 C hR (by omega) dX9_count_130 ?_
      refine g_iret C hR hS dX9_count_131 ?_
      unfold sCount
      rw [if_pos (gIw_ok (by omega) (by omega) (by decide)), nI_clamp (by omega)]
      exact ⟨rfl, _, _, _, _, _, _, _, rfl, hr0⟩
    · -- 1 case 8
      subst e9
      refine lv_tableIn (tgt := 132) C.1 C.2.1 dX9_count_1 (by decide) (by decide) rfl (by decide) ?_
      refine g_aload_n C hl dX9_count_132 rfl ?_
      refine g_callVi C hl.1 hR hS rc_X9 md_X9_locked ml_X9_61 (c_X9_locked l hI) rfl rfl ⟨Nat.le_of_ble_eq_true rfl, Nat.le_of_ble_eq_true rfl⟩ ⟨Nat.le_refl _, Nat.le_refl _⟩ (Nat.le_of_ble_eq_true rfl) dX9_count_133 (fun H locs hR hS => ?_)
      refine g_iret C hR hS dX9_count_136 ?_
      unfold sCount
      rw [if_pos (gIw_ok (by omega) (by omega) (by decide)), nI_clamp (by omega)]
      exact ⟨rfl, _, _, _, _, _, _, _, rfl, hr0⟩
    · -- 1 case 9
      subst e9
      refine lv_tableIn (tgt := 137) C.1 C.2.1 dX9_count_1 (by decide) (by decide) rfl (by decide) ?_
      refine g_aload_n C hl dX9_count_137 rfl ?_
      refine gt_X9_0 C hR fl_X9_7 dX9_count_138 ?_
      refine g_bipush 112 C dX9_count_141 (by decide) ?_
      refine r_ald1 C hR (by omega) dX9_count_143 ?_
      refine g_iret C hR hS dX9_count_144 ?_
      unfold sCount
      rw [if_pos (gIw_ok (by omega) (by omega) (by decide)), nI_clamp (by omega)]
      exact ⟨rfl, _, _, _, _, _, _, _, rfl, hr0⟩
    · -- 1 case 10
      subst e9
      refine lv_tableIn (tgt := 145) C.1 C.2.1 dX9_count_1 (by decide) (by decide) rfl (by decide) ?_
      refine g_aload_n C hl dX9_count_145 rfl ?_
      refine rt_3 C hR fl_X9_40 dX9_count_146 ?_
      rw [r1]
      refine g_iret C hR hS dX9_count_149 ?_
      unfold sCount
      rw [if_pos (gIw_ok (by omega) (by omega) (by decide)), nI_clamp (by omega)]
      exact ⟨rfl, _, _, _, _, _, _, _, rfl, hr0⟩
    · -- 1 case 11
      subst e9
      refine lv_tableIn (tgt := 150) C.1 C.2.1 dX9_count_1 (by decide) (by decide) rfl (by decide) ?_
      refine g_aload_n C hl dX9_count_150 rfl ?_
      refine rt_7 C hR fl_X9_105 dX9_count_151 ?_
      rw [r8]
      refine g_iret C hR hS dX9_count_154 ?_
      unfold sCount
      rw [if_pos (gIw_ok (by omega) (by omega) (by decide)), nI_clamp (by omega)]
      exact ⟨rfl, _, _, _, _, _, _, _, rfl, hr0⟩
  · -- 1 out
    have hsw2 : gIw w 0 11 = false := by simpa using hsw
    refine lv_tableOut (tgt := 155) C.1 C.2.1 dX9_count_1 (gIw_out hsw2) (by decide) ?_
    refine g_bipushM (-2) C dX9_count_155 (by decide) ?_
    refine g_iret C hR hS dX9_count_157 ?_
    unfold sCount
    rw [if_neg (by rw [hsw2]; decide)]
    exact ⟨rfl, _, _, _, _, _, _, _, rfl, hr0⟩
