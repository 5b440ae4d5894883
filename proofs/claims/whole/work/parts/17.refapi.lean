/-! ===== the reference's calls ===== -/
theorem nI_nm5 {x : Nat} (h : x < 2 ^ 31) : ¬ nI x = -5 := by
  intro z
  have h1 := congrArg Int32.toInt z
  rw [nI_toInt h] at h1
  have h2 : (-5 : Int32).toInt = -5 := rfl
  omega
theorem gIw_out {v : Int32} {lo hi : Nat} (h : gIw v lo hi = false) : v.toInt < (lo : Int) ∨ (hi : Int) < v.toInt := by
  have h1 : ¬ ((lo : Int) ≤ v.toInt ∧ v.toInt ≤ (hi : Int)) := fun z => by rw [gIw_iff.mpr z] at h; cases h
  omega
set_option maxRecDepth 100000 in
set_option maxHeartbeats 4000000 in
/-- put -/
theorem c_X9_put (l : Launch) {X : gX} (hI : gInj X) {mem : gM} {f z a o k t r : Nat → Nat} {S : aS} {b c9 n : Int32} (hJ : aI S) (hr : aRf S f z o k t) : gMt l yX9_put cX9_put 4 (some .int) 2 44 X [.ref (gAd X 8 0), .int b, .int c9, .int n] (gM8 mem f z a o k t r) (fun v9 m9 => v9 = some (.int (aPut S b c9 n).1) ∧ aRm (aPut S b c9 n).2 mem m9) := by
  refine gMt.of (own := RX9) (by decide) rfl hI (by simp [Value.category]) (Nat.le_of_ble_eq_true rfl) ?_
  intro p e s m args below meth c ls H locs C hnm hl hR hS
  have hr0 := hr
  obtain ⟨r1, r2, r3, r4, r5, r6, r7, r8, r9, r10⟩ := hr
  subst r4
  have hz : zI (aZ S) := hJ.1.1
  have hg : zG (aZ S) := hJ.1.2.1
  have hB : aZ S 178 ≤ 999999 := hJ.1.2.2.1
  have h4 : f 3 ≤ 4 := by omega
  have h115 := hz.2.2.2.2.2.2.1
  have h116 := hz.2.2.2.2.2.2.2.1
  refine g_iload_n C hl dX9_put_0 rfl ?_
  refine g_callSi C hl.1 hR hS md_X9_isBank ml_X9_51 (c_X9_isBank l hI) rfl rfl ⟨Nat.le_of_ble_eq_true rfl, Nat.le_of_ble_eq_true rfl⟩ ⟨Nat.le_refl _, Nat.le_refl _⟩ (Nat.le_of_ble_eq_true rfl) dX9_put_1 (fun H locs hR hS => ?_)
  refine g_ifv_eq (tgt := 14) C dX9_put_4 (by decide) (by decide) (fun c4 => ?_) (fun b eb hb1 hb2 => ?_)
  · -- 4 T
    refine g_iconstM (-1) C dX9_put_14 (by decide) ?_
    refine g_iret C hR hS dX9_put_15 ?_
    rw [aPut_1 c4]
    exact ⟨rfl, _, _, _, _, _, _, _, rfl, hr0⟩
  · -- 4 F
    subst eb
    refine g_iload_n C hl dX9_put_7 rfl ?_
    refine g_callSi C hl.1 hR hS md_X9_isCell ml_X9_55 (c_X9_isCell l hI) rfl rfl ⟨Nat.le_of_ble_eq_true rfl, Nat.le_of_ble_eq_true rfl⟩ ⟨Nat.le_refl _, Nat.le_refl _⟩ (Nat.le_of_ble_eq_true rfl) dX9_put_8 (fun H locs hR hS => ?_)
    refine g_ifv_ne (tgt := 16) C dX9_put_11 (by decide) (by decide) (fun c9 ec9 hc91 hc92 => ?_) (fun c11 => ?_)
    · -- 11 T
      subst ec9
      refine g_iload_n C hl dX9_put_16 rfl ?_
      refine g_iconst 0 C dX9_put_17 (by decide) ?_
      refine g_sipush 999 C dX9_put_18 (by decide) ?_
      refine g_callSi C hl.1 hR hS md_X9_in ml_X9_28 (c_X9_in l hI (by decide) (by decide)) rfl rfl ⟨Nat.le_of_ble_eq_true rfl, Nat.le_of_ble_eq_true rfl⟩ ⟨Nat.le_refl _, Nat.le_refl _⟩ (Nat.le_of_ble_eq_true rfl) dX9_put_21 (fun H locs hR hS => ?_)
      refine g_ifv_eq (tgt := 40) C dX9_put_24 (by decide) (by decide) (fun c24 => ?_) (fun n en hn1 hn2 => ?_)
      · -- 24 T
        refine g_bipushM (-2) C dX9_put_40 (by decide) ?_
        refine g_iret C hR hS dX9_put_42 ?_
        rw [aPut_3 hb2 hc92 c24]
        exact ⟨rfl, _, _, _, _, _, _, _, rfl, hr0⟩
      · -- 24 F
        subst en
        refine g_aload_n C hl dX9_put_27 rfl ?_
        refine g_iload_n C hl dX9_put_28 rfl ?_
        refine g_iload_n C hl dX9_put_29 rfl ?_
        refine g_callSi C hl.1 hR hS md_X9_index ml_X9_36 (c_X9_index l hI (by omega) (by omega)) rfl rfl ⟨Nat.le_of_ble_eq_true rfl, Nat.le_of_ble_eq_true rfl⟩ ⟨Nat.le_refl _, Nat.le_refl _⟩ (Nat.le_of_ble_eq_true rfl) dX9_put_30 (fun H locs hR hS => ?_)
        refine g_iload_n C hl dX9_put_33 rfl ?_
        by_cases h9 : aZ S (zIx b c9) = n
        · -- 34 p
          refine g_callVi C hl.1 hR hS rc_X9 md_X9_change ml_X9_58 (c_X9_change_0 l hI h4 (by have := zIx_lt (b := b) (c := c9) (by omega) (by omega); omega) (by omega) (by have := hz.1 (zIx b c9) (zIx_lt (by omega) (by omega)); omega) h9) rfl rfl ⟨Nat.le_of_ble_eq_true rfl, Nat.le_of_ble_eq_true rfl⟩ ⟨Nat.le_refl _, Nat.le_refl _⟩ (Nat.le_of_ble_eq_true rfl) dX9_put_34 (fun H locs hR hS => ?_)
          refine g_goto (tgt := 42) C dX9_put_37 (by decide) ?_
          refine g_iret C hR hS dX9_put_42 ?_
          rw [aPut_4 hb2 hc92 hn2 h9]
          exact ⟨rfl, _, _, _, _, _, _, _, rfl, hr0⟩
        · -- 34 q
          refine g_callVi C hl.1 hR hS rc_X9 md_X9_change ml_X9_58 (c_X9_change_1 l hI h4 (by have := zIx_lt (b := b) (c := c9) (by omega) (by omega); omega) (by omega) (by have := hz.1 (zIx b c9) (zIx_lt (by omega) (by omega)); omega) h9) rfl rfl ⟨Nat.le_of_ble_eq_true rfl, Nat.le_of_ble_eq_true rfl⟩ ⟨Nat.le_refl _, Nat.le_refl _⟩ (Nat.le_of_ble_eq_true rfl) dX9_put_34 (fun H locs hR hS => ?_)
          refine g_goto (tgt := 42) C dX9_put_37 (by decide) ?_
          refine g_iret C hR hS dX9_put_42 ?_
          rw [aPut_5 hb2 hc92 hn2 h9]
          exact ⟨rfl, _, _, _, _, _, _, _, rfl, aRf_z (aRf_rec hr0)⟩
    · -- 11 F
      refine g_iconstM (-1) C dX9_put_14 (by decide) ?_
      refine g_iret C hR hS dX9_put_15 ?_
      rw [aPut_2 c11]
      exact ⟨rfl, _, _, _, _, _, _, _, rfl, hr0⟩
set_option maxRecDepth 100000 in
set_option maxHeartbeats 4000000 in
/-- lock -/
theorem c_X9_lock (l : Launch) {X : gX} (hI : gInj X) {mem : gM} {f z a o k t r : Nat → Nat} {S : aS} {b : Int32} {v : Nat} (hv : v < 2) (hJ : aI S) (hr : aRf S f z o k t) : gMt l yX9_lock cX9_lock 3 (some .int) 2 44 X [.ref (gAd X 8 0), .int b, .int (nI v)] (gM8 mem f z a o k t r) (fun v9 m9 => v9 = some (.int (aLock S b v).1) ∧ aRm (aLock S b v).2 mem m9) := by
  refine gMt.of (own := RX9) (by decide) rfl hI (by simp [Value.category]) (Nat.le_of_ble_eq_true rfl) ?_
  intro p e s m args below meth c ls H locs C hnm hl hR hS
  have hr0 := hr
  obtain ⟨r1, r2, r3, r4, r5, r6, r7, r8, r9, r10⟩ := hr
  subst r4
  have hz : zI (aZ S) := hJ.1.1
  have hg : zG (aZ S) := hJ.1.2.1
  have hB : aZ S 178 ≤ 999999 := hJ.1.2.2.1
  have h4 : f 3 ≤ 4 := by omega
  have h115 := hz.2.2.2.2.2.2.1
  have h116 := hz.2.2.2.2.2.2.2.1
  refine g_iload_n C hl dX9_lock_0 rfl ?_
  refine g_callSi C hl.1 hR hS md_X9_isBank ml_X9_51 (c_X9_isBank l hI) rfl rfl ⟨Nat.le_of_ble_eq_true rfl, Nat.le_of_ble_eq_true rfl⟩ ⟨Nat.le_refl _, Nat.le_refl _⟩ (Nat.le_of_ble_eq_true rfl) dX9_lock_1 (fun H locs hR hS => ?_)
  refine g_ifv_ne (tgt := 9) C dX9_lock_4 (by decide) (by decide) (fun b eb hb1 hb2 => ?_) (fun c4 => ?_)
  · -- 4 T
    subst eb
    refine g_aload_n C hl dX9_lock_9 rfl ?_
    refine g_bipush 104 C dX9_lock_10 (by decide) ?_
    refine g_iload_n C hl dX9_lock_12 rfl ?_
    refine g_iadd C dX9_lock_13 ?_
    refine g_iload_n C hl dX9_lock_14 rfl ?_
    refine g_if_eq (tgt := 22) C dX9_lock_15 (by decide) (by omega) (fun c15 => ?_) (fun c15 => ?_)
    · -- 15 T
      refine g_iconst 0 C dX9_lock_22 (by decide) ?_
      obtain rfl : v = 0 := by omega
      by_cases h9 : aZ S (104 + b) = 0
      · -- 23 p
        refine g_callVi C hl.1 hR hS rc_X9 md_X9_change ml_X9_58 (c_X9_change_0 l hI h4 (by omega) (by omega) (by have := hz.2.2.1 b (by omega); omega) h9) rfl rfl ⟨Nat.le_of_ble_eq_true rfl, Nat.le_of_ble_eq_true rfl⟩ ⟨Nat.le_refl _, Nat.le_refl _⟩ (Nat.le_of_ble_eq_true rfl) dX9_lock_23 (fun H locs hR hS => ?_)
        refine g_bipushM (-5) C dX9_lock_26 (by decide) ?_
        refine lv_icmp_ne (tgt := 36) C.1 C.2.1 dX9_lock_28 (by decide) (fun z9 => absurd rfl z9) (fun _ => ?_)
        refine g_bipushM (-5) C dX9_lock_31 (by decide) ?_
        refine g_goto (tgt := 40) C dX9_lock_33 (by decide) ?_
        refine g_iret C hR hS dX9_lock_40 ?_
        rw [aLock_2 hb2 h9]
        exact ⟨rfl, _, _, _, _, _, _, _, rfl, hr0⟩
      · -- 23 q
        refine g_callVi C hl.1 hR hS rc_X9 md_X9_change ml_X9_58 (c_X9_change_1 l hI h4 (by omega) (by omega) (by have := hz.2.2.1 b (by omega); omega) h9) rfl rfl ⟨Nat.le_of_ble_eq_true rfl, Nat.le_of_ble_eq_true rfl⟩ ⟨Nat.le_refl _, Nat.le_refl _⟩ (Nat.le_of_ble_eq_true rfl) dX9_lock_23 (fun H locs hR hS => ?_)
        refine g_bipushM (-5) C dX9_lock_26 (by decide) ?_
        refine lv_icmp_ne (tgt := 36) C.1 C.2.1 dX9_lock_28 (by decide) (fun _ => ?_) (fun z9 => absurd z9 (nI_nm5 (by have := hz.2.2.1 b (by omega); omega)))
        refine g_aload_n C hl dX9_lock_36 rfl ?_
        refine g_callVi C hl.1 hR hS rc_X9 md_X9_locked ml_X9_61 (c_X9_locked l hI) rfl rfl ⟨Nat.le_of_ble_eq_true rfl, Nat.le_of_ble_eq_true rfl⟩ ⟨Nat.le_refl _, Nat.le_refl _⟩ (Nat.le_of_ble_eq_true rfl) dX9_lock_37 (fun H locs hR hS => ?_)
        refine g_iret C hR hS dX9_lock_40 ?_
        rw [aLock_3 hb2 h9]
        exact ⟨rfl, _, _, _, _, _, _, _, rfl, aRf_z (aRf_rec hr0)⟩
    · -- 15 F
      refine g_iconst 1 C dX9_lock_18 (by decide) ?_
      obtain rfl : v = 1 := by omega
      refine g_goto (tgt := 23) C dX9_lock_19 (by decide) ?_
      by_cases h9 : aZ S (104 + b) = 1
      · -- 23 p
        refine g_callVi C hl.1 hR hS rc_X9 md_X9_change ml_X9_58 (c_X9_change_0 l hI h4 (by omega) (by omega) (by have := hz.2.2.1 b (by omega); omega) h9) rfl rfl ⟨Nat.le_of_ble_eq_true rfl, Nat.le_of_ble_eq_true rfl⟩ ⟨Nat.le_refl _, Nat.le_refl _⟩ (Nat.le_of_ble_eq_true rfl) dX9_lock_23 (fun H locs hR hS => ?_)
        refine g_bipushM (-5) C dX9_lock_26 (by decide) ?_
        refine lv_icmp_ne (tgt := 36) C.1 C.2.1 dX9_lock_28 (by decide) (fun z9 => absurd rfl z9) (fun _ => ?_)
        refine g_bipushM (-5) C dX9_lock_31 (by decide) ?_
        refine g_goto (tgt := 40) C dX9_lock_33 (by decide) ?_
        refine g_iret C hR hS dX9_lock_40 ?_
        rw [aLock_2 hb2 h9]
        exact ⟨rfl, _, _, _, _, _, _, _, rfl, hr0⟩
      · -- 23 q
        refine g_callVi C hl.1 hR hS rc_X9 md_X9_change ml_X9_58 (c_X9_change_1 l hI h4 (by omega) (by omega) (by have := hz.2.2.1 b (by omega); omega) h9) rfl rfl ⟨Nat.le_of_ble_eq_true rfl, Nat.le_of_ble_eq_true rfl⟩ ⟨Nat.le_refl _, Nat.le_refl _⟩ (Nat.le_of_ble_eq_true rfl) dX9_lock_23 (fun H locs hR hS => ?_)
        refine g_bipushM (-5) C dX9_lock_26 (by decide) ?_
        refine lv_icmp_ne (tgt := 36) C.1 C.2.1 dX9_lock_28 (by decide) (fun _ => ?_) (fun z9 => absurd z9 (nI_nm5 (by have := hz.2.2.1 b (by omega); omega)))
        refine g_aload_n C hl dX9_lock_36 rfl ?_
        refine g_callVi C hl.1 hR hS rc_X9 md_X9_locked ml_X9_61 (c_X9_locked l hI) rfl rfl ⟨Nat.le_of_ble_eq_true rfl, Nat.le_of_ble_eq_true rfl⟩ ⟨Nat.le_refl _, Nat.le_refl _⟩ (Nat.le_of_ble_eq_true rfl) dX9_lock_37 (fun H locs hR hS => ?_)
        refine g_iret C hR hS dX9_lock_40 ?_
        rw [aLock_3 hb2 h9]
        exact ⟨rfl, _, _, _, _, _, _, _, rfl, aRf_z (aRf_rec hr0)⟩
  · -- 4 F
    refine g_iconstM (-1) C dX9_lock_7 (by decide) ?_
    refine g_iret C hR hS dX9_lock_8 ?_
    rw [aLock_1 c4]
    exact ⟨rfl, _, _, _, _, _, _, _, rfl, hr0⟩
set_option maxRecDepth 100000 in
set_option maxHeartbeats 4000000 in
/-- show -/
theorem c_X9_show (l : Launch) {X : gX} (hI : gInj X) {mem : gM} {f z a o k t r : Nat → Nat} {S : aS} {w b : Int32} (hJ : aI S) (hr : aRf S f z o k t) : gMt l yX9_show cX9_show 3 (some .int) 2 44 X [.ref (gAd X 8 0), .int w, .int b] (gM8 mem f z a o k t r) (fun v9 m9 => v9 = some (.int (aShow S w b).1) ∧ aRm (aShow S w b).2 mem m9) := by
  refine gMt.of (own := RX9) (by decide) rfl hI (by simp [Value.category]) (Nat.le_of_ble_eq_true rfl) ?_
  intro p e s m args below meth c ls H locs C hnm hl hR hS
  have hr0 := hr
  obtain ⟨r1, r2, r3, r4, r5, r6, r7, r8, r9, r10⟩ := hr
  subst r4
  have hz : zI (aZ S) := hJ.1.1
  have hg : zG (aZ S) := hJ.1.2.1
  have hB : aZ S 178 ≤ 999999 := hJ.1.2.2.1
  have h4 : f 3 ≤ 4 := by omega
  have h115 := hz.2.2.2.2.2.2.1
  have h116 := hz.2.2.2.2.2.2.2.1
  refine g_iload_n C hl dX9_show_0 rfl ?_
  refine g_callSi C hl.1 hR hS md_X9_isWindow ml_X9_65 (c_X9_isWindow l hI) rfl rfl ⟨Nat.le_of_ble_eq_true rfl, Nat.le_of_ble_eq_true rfl⟩ ⟨Nat.le_refl _, Nat.le_refl _⟩ (Nat.le_of_ble_eq_true rfl) dX9_show_1 (fun H locs hR hS => ?_)
  refine g_ifv_eq (tgt := 26) C dX9_show_4 (by decide) (by decide) (fun c4 => ?_) (fun w ew hw1 hw2 => ?_)
  · -- 4 T
    refine g_iconstM (-1) C dX9_show_26 (by decide) ?_
    refine g_iret C hR hS dX9_show_27 ?_
    rw [aShow_1 c4]
    exact ⟨rfl, _, _, _, _, _, _, _, rfl, hr0⟩
  · -- 4 F
    subst ew
    refine g_iload_n C hl dX9_show_7 rfl ?_
    refine g_callSi C hl.1 hR hS md_X9_isBank ml_X9_51 (c_X9_isBank l hI) rfl rfl ⟨Nat.le_of_ble_eq_true rfl, Nat.le_of_ble_eq_true rfl⟩ ⟨Nat.le_refl _, Nat.le_refl _⟩ (Nat.le_of_ble_eq_true rfl) dX9_show_8 (fun H locs hR hS => ?_)
    refine g_ifv_eq (tgt := 26) C dX9_show_11 (by decide) (by decide) (fun c11 => ?_) (fun b eb hb1 hb2 => ?_)
    · -- 11 T
      refine g_iconstM (-1) C dX9_show_26 (by decide) ?_
      refine g_iret C hR hS dX9_show_27 ?_
      rw [aShow_2 c11]
      exact ⟨rfl, _, _, _, _, _, _, _, rfl, hr0⟩
    · -- 11 F
      subst eb
      refine g_aload_n C hl dX9_show_14 rfl ?_
      refine g_bipush 100 C dX9_show_15 (by decide) ?_
      refine g_iload_n C hl dX9_show_17 rfl ?_
      refine g_iadd C dX9_show_18 ?_
      refine g_iload_n C hl dX9_show_19 rfl ?_
      by_cases h9 : aZ S (100 + w) = b
      · -- 20 p
        refine g_callVi C hl.1 hR hS rc_X9 md_X9_change ml_X9_58 (c_X9_change_0 l hI h4 (by omega) (by omega) (by have := hz.2.1 w (by omega); omega) h9) rfl rfl ⟨Nat.le_of_ble_eq_true rfl, Nat.le_of_ble_eq_true rfl⟩ ⟨Nat.le_refl _, Nat.le_refl _⟩ (Nat.le_of_ble_eq_true rfl) dX9_show_20 (fun H locs hR hS => ?_)
        refine g_goto (tgt := 27) C dX9_show_23 (by decide) ?_
        refine g_iret C hR hS dX9_show_27 ?_
        rw [aShow_3 hw2 hb2 h9]
        exact ⟨rfl, _, _, _, _, _, _, _, rfl, hr0⟩
      · -- 20 q
        refine g_callVi C hl.1 hR hS rc_X9 md_X9_change ml_X9_58 (c_X9_change_1 l hI h4 (by omega) (by omega) (by have := hz.2.1 w (by omega); omega) h9) rfl rfl ⟨Nat.le_of_ble_eq_true rfl, Nat.le_of_ble_eq_true rfl⟩ ⟨Nat.le_refl _, Nat.le_refl _⟩ (Nat.le_of_ble_eq_true rfl) dX9_show_20 (fun H locs hR hS => ?_)
        refine g_goto (tgt := 27) C dX9_show_23 (by decide) ?_
        refine g_iret C hR hS dX9_show_27 ?_
        rw [aShow_4 hw2 hb2 h9]
        exact ⟨rfl, _, _, _, _, _, _, _, rfl, aRf_z (aRf_rec hr0)⟩
set_option maxRecDepth 100000 in
set_option maxHeartbeats 4000000 in
/-- set -/
theorem c_X9_set (l : Launch) {X : gX} (hI : gInj X) {mem : gM} {f z a o k t r : Nat → Nat} {S : aS} {v : Int32} (hJ : aI S) (hr : aRf S f z o k t) : gMt l yX9_set cX9_set 2 (some .int) 2 44 X [.ref (gAd X 8 0), .int v] (gM8 mem f z a o k t r) (fun v9 m9 => v9 = some (.int (aSet S v).1) ∧ aRm (aSet S v).2 mem m9) := by
  refine gMt.of (own := RX9) (by decide) rfl hI (by simp [Value.category]) (Nat.le_of_ble_eq_true rfl) ?_
  intro p e s m args below meth c ls H locs C hnm hl hR hS
  have hr0 := hr
  obtain ⟨r1, r2, r3, r4, r5, r6, r7, r8, r9, r10⟩ := hr
  subst r4
  have hz : zI (aZ S) := hJ.1.1
  have hg : zG (aZ S) := hJ.1.2.1
  have hB : aZ S 178 ≤ 999999 := hJ.1.2.2.1
  have h4 : f 3 ≤ 4 := by omega
  have h115 := hz.2.2.2.2.2.2.1
  have h116 := hz.2.2.2.2.2.2.2.1
  refine g_iload_n C hl dX9_set_0 rfl ?_
  refine g_iconst 0 C dX9_set_1 (by decide) ?_
  refine g_iconst 1 C dX9_set_2 (by decide) ?_
  refine g_callSi C hl.1 hR hS md_X9_in ml_X9_28 (c_X9_in l hI (by decide) (by decide)) rfl rfl ⟨Nat.le_of_ble_eq_true rfl, Nat.le_of_ble_eq_true rfl⟩ ⟨Nat.le_refl _, Nat.le_refl _⟩ (Nat.le_of_ble_eq_true rfl) dX9_set_3 (fun H locs hR hS => ?_)
  refine g_ifv_eq (tgt := 19) C dX9_set_6 (by decide) (by decide) (fun c6 => ?_) (fun v ev hv1 hv2 => ?_)
  · -- 6 T
    refine g_bipushM (-2) C dX9_set_19 (by decide) ?_
    refine g_iret C hR hS dX9_set_21 ?_
    rw [aSet_1 c6]
    exact ⟨rfl, _, _, _, _, _, _, _, rfl, hr0⟩
  · -- 6 F
    subst ev
    refine g_aload_n C hl dX9_set_9 rfl ?_
    refine g_bipush 112 C dX9_set_10 (by decide) ?_
    refine g_iload_n C hl dX9_set_12 rfl ?_
    by_cases h9 : aZ S 112 = v
    · -- 13 p
      refine g_callVi C hl.1 hR hS rc_X9 md_X9_change ml_X9_58 (c_X9_change_0 l hI h4 (by omega) (by omega) (by have := hz.2.2.2.1; omega) h9) rfl rfl ⟨Nat.le_of_ble_eq_true rfl, Nat.le_of_ble_eq_true rfl⟩ ⟨Nat.le_refl _, Nat.le_refl _⟩ (Nat.le_of_ble_eq_true rfl) dX9_set_13 (fun H locs hR hS => ?_)
      refine g_goto (tgt := 21) C dX9_set_16 (by decide) ?_
      refine g_iret C hR hS dX9_set_21 ?_
      rw [aSet_2 hv2 h9]
      exact ⟨rfl, _, _, _, _, _, _, _, rfl, hr0⟩
    · -- 13 q
      refine g_callVi C hl.1 hR hS rc_X9 md_X9_change ml_X9_58 (c_X9_change_1 l hI h4 (by omega) (by omega) (by have := hz.2.2.2.1; omega) h9) rfl rfl ⟨Nat.le_of_ble_eq_true rfl, Nat.le_of_ble_eq_true rfl⟩ ⟨Nat.le_refl _, Nat.le_refl _⟩ (Nat.le_of_ble_eq_true rfl) dX9_set_13 (fun H locs hR hS => ?_)
      refine g_goto (tgt := 21) C dX9_set_16 (by decide) ?_
      refine g_iret C hR hS dX9_set_21 ?_
      rw [aSet_3 hv2 h9]
      exact ⟨rfl, _, _, _, _, _, _, _, rfl, aRf_z (aRf_rec hr0)⟩
set_option maxRecDepth 100000 in
set_option maxHeartbeats 4000000 in
/-- begin -/
theorem c_X9_begin (l : Launch) {X : gX} (hI : gInj X) {mem : gM} {f z a o k t r : Nat → Nat} {S : aS} {v : Int32} (hJ : aI S) (hr : aRf S f z o k t) : gMt l yX9_begin cX9_begin 3 (some .int) 2 42 X [.ref (gAd X 8 0), .int v] (gM8 mem f z a o k t r) (fun v9 m9 => v9 = some (.int (aBegin S v).1) ∧ aRm (aBegin S v).2 mem m9) := by
  refine gMt.of (own := RX9) (by decide) rfl hI (by simp [Value.category]) (Nat.le_of_ble_eq_true rfl) ?_
  intro p e s m args below meth c ls H locs C hnm hl hR hS
  have hr0 := hr
  obtain ⟨r1, r2, r3, r4, r5, r6, r7, r8, r9, r10⟩ := hr
  subst r4
  have hz : zI (aZ S) := hJ.1.1
  have hg : zG (aZ S) := hJ.1.2.1
  have hB : aZ S 178 ≤ 999999 := hJ.1.2.2.1
  have h4 : f 3 ≤ 4 := by omega
  have h115 := hz.2.2.2.2.2.2.1
  have h116 := hz.2.2.2.2.2.2.2.1
  refine g_iload_n C hl dX9_begin_0 rfl ?_
  refine g_callSi C hl.1 hR hS md_X9_isAddress ml_X9_68 (c_X9_isAddress l hI) rfl rfl ⟨Nat.le_of_ble_eq_true rfl, Nat.le_of_ble_eq_true rfl⟩ ⟨Nat.le_refl _, Nat.le_refl _⟩ (Nat.le_of_ble_eq_true rfl) dX9_begin_1 (fun H locs hR hS => ?_)
  refine g_ifv_ne (tgt := 9) C dX9_begin_4 (by decide) (by decide) (fun v ev hv1 hv2 => ?_) (fun c4 => ?_)
  · -- 4 T
    subst ev
    refine g_aload_n C hl dX9_begin_9 rfl ?_
    refine g_callVv C hl.1 hR hS rc_X9 md_X9_record ml_X9_48 (c_X9_record l hI h4) rfl rfl ⟨Nat.le_of_ble_eq_true rfl, Nat.le_of_ble_eq_true rfl⟩ ⟨Nat.le_refl _, Nat.le_refl _⟩ (Nat.le_of_ble_eq_true rfl) dX9_begin_10 (fun H locs hR hS => ?_)
    refine g_aload_n C hl dX9_begin_13 rfl ?_
    refine gt_X9_0 C hR fl_X9_7 dX9_begin_14 ?_
    refine g_bipush 114 C dX9_begin_17 (by decide) ?_
    refine r_ald1 C hR (by omega) dX9_begin_19 ?_
    refine g_istore_n C hl dX9_begin_20 (Nat.le_of_ble_eq_true rfl) (fun ls hl => ?_)
    refine g_aload_n C hl dX9_begin_21 rfl ?_
    refine gt_X9_0 C hR fl_X9_7 dX9_begin_22 ?_
    refine g_bipush 114 C dX9_begin_25 (by decide) ?_
    refine g_iload_n C hl dX9_begin_27 rfl ?_
    refine r_ast1 C hR hS (by omega) dX9_begin_28 (fun H locs hR hS => ?_)
    refine g_aload_n C hl dX9_begin_29 rfl ?_
    refine gt_X9_0 C hR fl_X9_7 dX9_begin_30 ?_
    refine g_bipush 113 C dX9_begin_33 (by decide) ?_
    refine g_iconst 0 C dX9_begin_35 (by decide) ?_
    refine r_ast1 C hR hS (by omega) dX9_begin_36 (fun H locs hR hS => ?_)
    refine g_aload_n C hl dX9_begin_37 rfl ?_
    refine gt_X9_0 C hR fl_X9_7 dX9_begin_38 ?_
    refine g_bipush 115 C dX9_begin_41 (by decide) ?_
    refine g_iconst 0 C dX9_begin_43 (by decide) ?_
    refine r_ast1 C hR hS (by omega) dX9_begin_44 (fun H locs hR hS => ?_)
    refine g_aload_n C hl dX9_begin_45 rfl ?_
    refine gt_X9_0 C hR fl_X9_7 dX9_begin_46 ?_
    refine g_bipush 116 C dX9_begin_49 (by decide) ?_
    refine g_iconst 0 C dX9_begin_51 (by decide) ?_
    refine r_ast1 C hR hS (by omega) dX9_begin_52 (fun H locs hR hS => ?_)
    refine g_iload_n C hl dX9_begin_53 rfl ?_
    refine g_iret C hR hS dX9_begin_54 ?_
    rw [aBegin_2 hv2]
    exact ⟨rfl, _, _, _, _, _, _, _, rfl, aRf_z (aRf_rec hr0)⟩
  · -- 4 F
    refine g_iconstM (-1) C dX9_begin_7 (by decide) ?_
    refine g_iret C hR hS dX9_begin_8 ?_
    rw [aBegin_1 c4]
    exact ⟨rfl, _, _, _, _, _, _, _, rfl, hr0⟩
set_option maxRecDepth 100000 in
set_option maxHeartbeats 4000000 in
/-- run -/
theorem c_X9_run (l : Launch) {X : gX} (hI : gInj X) {mem : gM} {f z a o k t r : Nat → Nat} {S : aS} {v : Int32} (hJ : aI S) (hr : aRf S f z o k t) : gMt l yX9_run cX9_run 2 (some .int) 6 133 X [.ref (gAd X 8 0), .int v] (gM8 mem f z a o k t r) (fun v9 m9 => v9 = some (.int (aRun S v).1) ∧ aRm (aRun S v).2 mem m9) := by
  refine gMt.of (own := RX9) (by decide) rfl hI (by simp [Value.category]) (Nat.le_of_ble_eq_true rfl) ?_
  intro p e s m args below meth c ls H locs C hnm hl hR hS
  have hr0 := hr
  obtain ⟨r1, r2, r3, r4, r5, r6, r7, r8, r9, r10⟩ := hr
  subst r4
  have hz : zI (aZ S) := hJ.1.1
  have hg : zG (aZ S) := hJ.1.2.1
  have hB : aZ S 178 ≤ 999999 := hJ.1.2.2.1
  have h4 : f 3 ≤ 4 := by omega
  have h115 := hz.2.2.2.2.2.2.1
  have h116 := hz.2.2.2.2.2.2.2.1
  refine g_iload_n C hl dX9_run_0 rfl ?_
  refine g_iconst 1 C dX9_run_1 (by decide) ?_
  refine g_sipush 999 C dX9_run_2 (by decide) ?_
  refine g_callSi C hl.1 hR hS md_X9_in ml_X9_28 (c_X9_in l hI (by decide) (by decide)) rfl rfl ⟨Nat.le_of_ble_eq_true rfl, Nat.le_of_ble_eq_true rfl⟩ ⟨Nat.le_refl _, Nat.le_refl _⟩ (Nat.le_of_ble_eq_true rfl) dX9_run_5 (fun H locs hR hS => ?_)
  refine g_ifv_ne (tgt := 14) C dX9_run_8 (by decide) (by decide) (fun v ev hv1 hv2 => ?_) (fun c8 => ?_)
  · -- 8 T
    subst ev
    refine g_aload_n C hl dX9_run_14 rfl ?_
    refine gt_X9_0 C hR fl_X9_7 dX9_run_15 ?_
    refine g_bipush 115 C dX9_run_18 (by decide) ?_
    refine r_ald1 C hR (by omega) dX9_run_20 ?_
    refine g_if_le (tgt := 27) C dX9_run_21 (by decide) (by omega) (fun c21 => ?_) (fun c21 => ?_)
    · -- 21 T
      refine g_aload_n C hl dX9_run_27 rfl ?_
      refine gt_X9_0 C hR fl_X9_7 dX9_run_28 ?_
      refine g_sipush 178 C dX9_run_31 (by decide) ?_
      refine r_ald1 C hR (by omega) dX9_run_34 ?_
      refine g_iload_n C hl dX9_run_35 rfl ?_
      refine g_iadd C dX9_run_36 ?_
      refine g_ldc 999999 C cn_X9_101 rfl dX9_run_37 ?_
      refine g_icmp_le (tgt := 45) C dX9_run_39 (by decide) (by omega) (by omega) (fun c39 => ?_) (fun c39 => ?_)
      · -- 39 T
        refine g_aload_n C hl dX9_run_45 rfl ?_
        refine g_callVv C hl.1 hR hS rc_X9 md_X9_record ml_X9_48 (c_X9_record l hI h4) rfl rfl ⟨Nat.le_of_ble_eq_true rfl, Nat.le_of_ble_eq_true rfl⟩ ⟨Nat.le_refl _, Nat.le_refl _⟩ (Nat.le_of_ble_eq_true rfl) dX9_run_46 (fun H locs hR hS => ?_)
        refine g_aload_n C hl dX9_run_49 rfl ?_
        refine g_iload_n C hl dX9_run_50 rfl ?_
        refine g_callVi C hl.1 hR hS rc_X9 md_X9_doRun ml_X9_102 (c_X9_doRun l hI hz hg (by omega)) rfl rfl ⟨Nat.le_of_ble_eq_true rfl, Nat.le_of_ble_eq_true rfl⟩ ⟨Nat.le_refl _, Nat.le_refl _⟩ (Nat.le_of_ble_eq_true rfl) dX9_run_51 (fun H locs hR hS => ?_)
        refine g_iret C hR hS dX9_run_54 ?_
        rw [aRun_4 hv1 hv2 c21 c39]
        exact ⟨rfl, _, _, _, _, _, _, _, rfl, aRf_z (aRf_rec hr0)⟩
      · -- 39 F
        refine g_bipushM (-3) C dX9_run_42 (by decide) ?_
        refine g_iret C hR hS dX9_run_44 ?_
        rw [aRun_3 hv1 hv2 c21 c39]
        exact ⟨rfl, _, _, _, _, _, _, _, rfl, hr0⟩
    · -- 21 F
      refine g_bipushM (-4) C dX9_run_24 (by decide) ?_
      refine g_iret C hR hS dX9_run_26 ?_
      rw [aRun_2 hv1 hv2 c21]
      exact ⟨rfl, _, _, _, _, _, _, _, rfl, hr0⟩
  · -- 8 F
    refine g_bipushM (-2) C dX9_run_11 (by decide) ?_
    refine g_iret C hR hS dX9_run_13 ?_
    rw [aRun_1 c8]
    exact ⟨rfl, _, _, _, _, _, _, _, rfl, hr0⟩
set_option maxRecDepth 100000 in
set_option maxHeartbeats 4000000 in
/-- cell -/
theorem c_X9_cell (l : Launch) {X : gX} (hI : gInj X) {mem : gM} {f z a o k t r : Nat → Nat} {S : aS} {b c9 : Int32} (hJ : aI S) (hr : aRf S f z o k t) : gMt l yX9_cell cX9_cell 3 (some .int) 2 42 X [.ref (gAd X 8 0), .int b, .int c9] (gM8 mem f z a o k t r) (fun v9 m9 => v9 = some (.int (sCell (aZ S) b c9)) ∧ aRm S mem m9) := by
  refine gMt.of (own := RX9) (by decide) rfl hI (by simp [Value.category]) (Nat.le_of_ble_eq_true rfl) ?_
  intro p e s m args below meth c ls H locs C hnm hl hR hS
  have hr0 := hr
  obtain ⟨r1, r2, r3, r4, r5, r6, r7, r8, r9, r10⟩ := hr
  subst r4
  have hz : zI (aZ S) := hJ.1.1
  have hg : zG (aZ S) := hJ.1.2.1
  have hB : aZ S 178 ≤ 999999 := hJ.1.2.2.1
  have h4 : f 3 ≤ 4 := by omega
  have h115 := hz.2.2.2.2.2.2.1
  have h116 := hz.2.2.2.2.2.2.2.1
  refine g_iload_n C hl dX9_cell_0 rfl ?_
  refine g_callSi C hl.1 hR hS md_X9_isBank ml_X9_51 (c_X9_isBank l hI) rfl rfl ⟨Nat.le_of_ble_eq_true rfl, Nat.le_of_ble_eq_true rfl⟩ ⟨Nat.le_refl _, Nat.le_refl _⟩ (Nat.le_of_ble_eq_true rfl) dX9_cell_1 (fun H locs hR hS => ?_)
  refine g_ifv_eq (tgt := 27) C dX9_cell_4 (by decide) (by decide) (fun c4 => ?_) (fun b eb hb1 hb2 => ?_)
  · -- 4 T
    refine g_iconstM (-1) C dX9_cell_27 (by decide) ?_
    refine g_iret C hR hS dX9_cell_28 ?_
    unfold sCell
    rw [if_neg (by rw [c4]; decide)]
    exact ⟨rfl, _, _, _, _, _, _, _, rfl, hr0⟩
  · -- 4 F
    subst eb
    refine g_iload_n C hl dX9_cell_7 rfl ?_
    refine g_callSi C hl.1 hR hS md_X9_isCell ml_X9_55 (c_X9_isCell l hI) rfl rfl ⟨Nat.le_of_ble_eq_true rfl, Nat.le_of_ble_eq_true rfl⟩ ⟨Nat.le_refl _, Nat.le_refl _⟩ (Nat.le_of_ble_eq_true rfl) dX9_cell_8 (fun H locs hR hS => ?_)
    refine g_ifv_eq (tgt := 27) C dX9_cell_11 (by decide) (by decide) (fun c11 => ?_) (fun c9 ec9 hc91 hc92 => ?_)
    · -- 11 T
      refine g_iconstM (-1) C dX9_cell_27 (by decide) ?_
      refine g_iret C hR hS dX9_cell_28 ?_
      unfold sCell
      rw [if_neg (show ¬ gIw c9 0 15 = true by rw [c11]; decide), ite_self]
      exact ⟨rfl, _, _, _, _, _, _, _, rfl, hr0⟩
    · -- 11 F
      subst ec9
      refine g_aload_n C hl dX9_cell_14 rfl ?_
      refine gt_X9_0 C hR fl_X9_7 dX9_cell_15 ?_
      refine g_iload_n C hl dX9_cell_18 rfl ?_
      refine g_iload_n C hl dX9_cell_19 rfl ?_
      refine g_callSi C hl.1 hR hS md_X9_index ml_X9_36 (c_X9_index l hI (by omega) (by omega)) rfl rfl ⟨Nat.le_of_ble_eq_true rfl, Nat.le_of_ble_eq_true rfl⟩ ⟨Nat.le_refl _, Nat.le_refl _⟩ (Nat.le_of_ble_eq_true rfl) dX9_cell_20 (fun H locs hR hS => ?_)
      refine r_ald1 C hR (by have := zIx_lt (b := b) (c := c9) (by omega) (by omega); omega) dX9_cell_23 ?_
      refine g_goto (tgt := 28) C dX9_cell_24 (by decide) ?_
      refine g_iret C hR hS dX9_cell_28 ?_
      unfold sCell
      rw [if_pos (gIw_ok (by omega) hb2 (by decide)), if_pos (gIw_ok (by omega) hc92 (by decide)), nI_clamp (by omega), nI_clamp (by omega)]
      exact ⟨rfl, _, _, _, _, _, _, _, rfl, hr0⟩
set_option maxRecDepth 100000 in
set_option maxHeartbeats 4000000 in
/-- window -/
theorem c_X9_window (l : Launch) {X : gX} (hI : gInj X) {mem : gM} {f z a o k t r : Nat → Nat} {S : aS} {w : Int32} (hJ : aI S) (hr : aRf S f z o k t) : gMt l yX9_window cX9_window 2 (some .int) 2 42 X [.ref (gAd X 8 0), .int w] (gM8 mem f z a o k t r) (fun v9 m9 => v9 = some (.int (sWin (aZ S) w)) ∧ aRm S mem m9) := by
  refine gMt.of (own := RX9) (by decide) rfl hI (by simp [Value.category]) (Nat.le_of_ble_eq_true rfl) ?_
  intro p e s m args below meth c ls H locs C hnm hl hR hS
  have hr0 := hr
  obtain ⟨r1, r2, r3, r4, r5, r6, r7, r8, r9, r10⟩ := hr
  subst r4
  have hz : zI (aZ S) := hJ.1.1
  have hg : zG (aZ S) := hJ.1.2.1
  have hB : aZ S 178 ≤ 999999 := hJ.1.2.2.1
  have h4 : f 3 ≤ 4 := by omega
  have h115 := hz.2.2.2.2.2.2.1
  have h116 := hz.2.2.2.2.2.2.2.1
  refine g_iload_n C hl dX9_window_0 rfl ?_
  refine g_callSi C hl.1 hR hS md_X9_isWindow ml_X9_65 (c_X9_isWindow l hI) rfl rfl ⟨Nat.le_of_ble_eq_true rfl, Nat.le_of_ble_eq_true rfl⟩ ⟨Nat.le_refl _, Nat.le_refl _⟩ (Nat.le_of_ble_eq_true rfl) dX9_window_1 (fun H locs hR hS => ?_)
  refine g_ifv_eq (tgt := 19) C dX9_window_4 (by decide) (by decide) (fun c4 => ?_) (fun w ew hw1 hw2 => ?_)
  · -- 4 T
    refine g_iconstM (-1) C dX9_window_19 (by decide) ?_
    refine g_iret C hR hS dX9_window_20 ?_
    unfold sWin
    rw [if_neg (by rw [c4]; decide)]
    exact ⟨rfl, _, _, _, _, _, _, _, rfl, hr0⟩
  · -- 4 F
    subst ew
    refine g_aload_n C hl dX9_window_7 rfl ?_
    refine gt_X9_0 C hR fl_X9_7 dX9_window_8 ?_
    refine g_bipush 100 C dX9_window_11 (by decide) ?_
    refine g_iload_n C hl dX9_window_13 rfl ?_
    refine g_iadd C dX9_window_14 ?_
    refine r_ald1 C hR (by omega) dX9_window_15 ?_
    refine g_goto (tgt := 20) C dX9_window_16 (by decide) ?_
    refine g_iret C hR hS dX9_window_20 ?_
    unfold sWin
    rw [if_pos (gIw_ok (by omega) hw2 (by decide)), nI_clamp (by omega)]
    exact ⟨rfl, _, _, _, _, _, _, _, rfl, hr0⟩
