/-! ===== the law: a step ===== -/
theorem zKp_u {z : Nat → Nat} {a n j : Nat} (h12 : z 141 ≤ 12) (hj : j < 141 ∨ 178 ≤ j) : zKp z a n j = z j := by
  have e0 : zKp0 z 141 ≤ 12 := by
    unfold zKp0
    by_cases c : z 141 < 12
    · rw [if_pos c, fU_s]; omega
    · rw [if_neg c]; omega
  have e1 : zKp0 z j = z j := by
    unfold zKp0
    by_cases c : z 141 < 12
    · rw [if_pos c, fU_n _ _ (by omega)]
    · rw [if_neg c]
  unfold zKp zKp2 zKp1
  rw [fU_n _ _ (by omega), fU_n _ _ (by omega), fU_n _ _ (by omega)]
  unfold zSh
  rw [if_neg (by omega), e1]
theorem zS3_u {z : Nat → Nat} (h12 : z 141 ≤ 12) : ∀ j, uK j = true → fU (fU z 114 (z 114 + 1)) 178 (fU z 114 (z 114 + 1) 178 + 1) j = zSt3 z j := by
  intro j hj
  have hj2 := uK_ne hj
  have e1 : ∀ i, (i < 141 ∨ 178 ≤ i) → zSt1 z i = z i := fun i hi => zKp_u h12 hi
  unfold zSt3 zSt2
  rw [fU_n _ _ (show ¬ 114 = 178 by decide), e1 114 (by decide), e1 178 (by decide), fU_n _ _ (show ¬ 178 = 114 by decide)]
  by_cases e : j = 178
  · rw [e, fU_s, fU_n _ _ (show ¬ 178 = 114 by decide), fU_s]
  · rw [fU_n _ _ e]
    by_cases e4 : j = 114
    · rw [e4, fU_s, fU_s]
    · rw [fU_n _ _ e4, fU_n _ _ e4, fU_n _ _ e, e1 j (by omega)]
theorem fU_same {f : Nat → Nat} {i x : Nat} (h : f i = x) : fU f i x = f := by
  rw [← h, fU_self]
theorem zSt_no {z w : Nat → Nat} {kd n : Nat} (hw : w = zSt3 z) (e1 : z (zAt z (z 114)) / 100 = kd) (e2 : z (zAt z (z 114)) % 100 = n) (h0 : w 115 = 0) (h : zWhy w kd n = 0) : zSt5 z = zOrd w kd n (z 114 / 16) := by
  subst e1
  subst e2
  subst hw
  have e4 : zSt4 z = zSt3 z := by
    unfold zSt4
    rw [h]
    exact fU_same h0
  unfold zSt5
  rw [e4, if_pos h0]
theorem zSt_yes {z w : Nat → Nat} {kd n r : Nat} (hw : w = zSt3 z) (e1 : z (zAt z (z 114)) / 100 = kd) (e2 : z (zAt z (z 114)) % 100 = n) (h : zWhy w kd n = r) (hr : ¬ r = 0) : zStep z = fU w 115 r := by
  subst e1
  subst e2
  subst hw
  have e4 : zSt4 z = fU (zSt3 z) 115 r := by
    unfold zSt4
    rw [h]
  have e5 : zSt5 z = fU (zSt3 z) 115 r := by
    unfold zSt5
    rw [e4, if_neg (by rw [fU_s]; exact hr)]
  unfold zStep
  rw [e5, if_neg (fun q => hr (by rw [← q.1, fU_s]))]
theorem zSm_mod {a b : Nat} (ha : a ≤ 999) (hb : b ≤ 999) : (a + b) % 1000 = zSm a b := by
  unfold zSm
  by_cases c : a + b ≤ 999
  · rw [if_pos c]; omega
  · rw [if_neg c]; omega
set_option maxRecDepth 100000 in
set_option maxHeartbeats 4000000 in
/-- L_step -/
theorem c_L_step (l : Launch) {X : gX} (hI : gInj X) {mem : gM} {k : Nat} (hk : uG X k) {z : Nat → Nat} (hM : uR (mem k) z) (hz : zI z) (had : z 114 < 64) (h0 : z 115 = 0) : gMt l yL_step cL_step 10 none 2 46 X [.ref (gAd X k 0), .ref (gAd X k 1), .ref (gAd X k 2), .ref (gAd X k 3)] mem (uP k mem (zStep z) none) := by
  refine gMt.of (own := RL) (by decide) rfl hI (by simp [Value.category]) (Nat.le_of_ble_eq_true rfl) ?_
  intro p e s m args below meth c ls H locs C hnm hl hR hS
  have hord := hz.1 _ (hz.at had)
  have h3 := zI_st3 hz had
  have h5 := zI_st5 hz had
  have h115 : zSt3 z 115 = 0 := by
    have e9 := zSt2_lo (z := z) (j := 115) (by decide)
    unfold zSt3
    rw [fU_n _ _ (by decide), e9]
    exact h0
  have hF : uF k mem mem := uF.rf
  have hwin : z 114 / 16 < 4 := by omega
  have tail : ∀ (vs : List (Option Value)) (ls : Array Slot) (H : Heap) (locs : List Loc) (mem1 : gM), gL ls (some (.ref (gAd X k 0)) :: vs) → uR (mem1 k) (zSt5 z) → uF k mem mem1 → gRep X mem1 H → va_S (gA X) s.heap H locs → W p l e { frames := 2, cells := 0, slots := 0, locals := 46 } s m args below meth c H locs 0 0 (MQ below (gQ X (uP k mem (zStep z) none)) args s 0 0 (gA X)) (F0 m 523 ls []) := by
    intro vs ls H locs mem hl hM hF hR hS
    refine g_aload_n C hl dL_step_523 rfl ?_
    refine g_bipush 15 C dL_step_524 (by decide) ?_
    refine u_ald (115) C hk hM hR (uJ_w rfl (by decide)) dL_step_526 ?_
    refine g_if_ne (tgt := 545) C dL_step_527 (by decide) (by have := h5.2.2.2.2.2.2.1; omega) (fun c527 => ?_) (fun c527 => ?_)
    · -- 527 T
      refine g_vret C hR hS dL_step_545 ?_
      refine ⟨rfl, hF, ?_⟩
      have e6 : zStep z = zSt5 z := if_neg (by omega)
      rw [e6]
      exact hM
    · -- 527 F
      refine g_aload_n C hl dL_step_530 rfl ?_
      refine g_bipush 14 C dL_step_531 (by decide) ?_
      refine u_ald (114) C hk hM hR (uJ_w rfl (by decide)) dL_step_533 ?_
      refine g_bipush 64 C dL_step_534 (by decide) ?_
      refine g_icmp_ne (tgt := 545) C dL_step_536 (by decide) (by have := h5.2.2.2.2.2.1; omega) (by have := h5.2.2.2.2.2.1; omega) (fun c536 => ?_) (fun c536 => ?_)
      · -- 536 T
        refine g_vret C hR hS dL_step_545 ?_
        refine ⟨rfl, hF, ?_⟩
        have e6 : zStep z = zSt5 z := if_neg (by omega)
        rw [e6]
        exact hM
      · -- 536 F
        refine g_aload_n C hl dL_step_539 rfl ?_
        refine g_bipush 15 C dL_step_540 (by decide) ?_
        refine g_bipush 6 C dL_step_542 (by decide) ?_
        refine u_ast (115) C hk hM hF hR hS (uJ_w rfl (by decide)) dL_step_544 (fun mem hM hF H locs hR hS => ?_)
        refine g_vret C hR hS dL_step_545 ?_
        refine ⟨rfl, hF, ?_⟩
        have e6 : zStep z = fU (zSt5 z) 115 6 := if_pos ⟨by omega, by omega⟩
        rw [e6]
        exact hM
  refine g_aload_n C hl dL_step_0 rfl ?_
  refine g_bipush 14 C dL_step_1 (by decide) ?_
  refine u_ald (114) C hk hM hR (uJ_w rfl (by decide)) dL_step_3 ?_
  refine g_bipush 16 C dL_step_4 (by decide) ?_
  refine g_idiv C dL_step_6 (by omega) (by decide) (by decide) ?_
  refine g_istore C hl dL_step_7 (Nat.le_of_ble_eq_true rfl) (fun ls hl => ?_)
  refine g_aload_n C hl dL_step_9 rfl ?_
  refine g_aload_n C hl dL_step_10 rfl ?_
  refine g_aload_n C hl dL_step_11 rfl ?_
  refine g_aload_n C hl dL_step_12 rfl ?_
  refine g_bipush 14 C dL_step_13 (by decide) ?_
  refine u_ald (114) C hk hM hR (uJ_w rfl (by decide)) dL_step_15 ?_
  refine g_callSi C hl.1 hR hS md_L_at ml_L_15 (c_L_at l hI hk hM hz had) rfl rfl ⟨Nat.le_of_ble_eq_true rfl, Nat.le_of_ble_eq_true rfl⟩ ⟨Nat.le_refl _, Nat.le_refl _⟩ (Nat.le_of_ble_eq_true rfl) dL_step_16 (fun H locs hR hS => ?_)
  refine g_istore C hl dL_step_19 (Nat.le_of_ble_eq_true rfl) (fun ls hl => ?_)
  refine g_iload C hl dL_step_21 rfl ?_
  refine g_bipush 100 C dL_step_23 (by decide) ?_
  refine g_idiv C dL_step_25 (by omega) (by decide) (by decide) ?_
  refine g_istore C hl dL_step_26 (Nat.le_of_ble_eq_true rfl) (fun ls hl => ?_)
  refine g_iload C hl dL_step_28 rfl ?_
  refine g_bipush 100 C dL_step_30 (by decide) ?_
  refine g_irem C dL_step_32 (by omega) (by decide) (by decide) ?_
  refine g_istore C hl dL_step_33 (Nat.le_of_ble_eq_true rfl) (fun ls hl => ?_)
  refine g_aload_n C hl dL_step_35 rfl ?_
  refine g_bipush 14 C dL_step_36 (by decide) ?_
  refine g_dup2 C dL_step_38 rfl rfl ?_
  refine u_ald (114) C hk hM hR (uJ_w rfl (by decide)) dL_step_39 ?_
  refine g_iconst 1 C dL_step_40 (by decide) ?_
  refine g_iadd C dL_step_41 ?_
  refine u_ast (114) C hk hM hF hR hS (uJ_w rfl (by decide)) dL_step_42 (fun mem hM hF H locs hR hS => ?_)
  refine g_aload_n C hl dL_step_43 rfl ?_
  refine g_bipush 16 C dL_step_44 (by decide) ?_
  refine g_dup2 C dL_step_46 rfl rfl ?_
  refine u_ald (178) C hk hM hR (uJ_s rfl (by decide) (by decide)) dL_step_47 ?_
  refine g_iconst 1 C dL_step_48 (by decide) ?_
  refine g_iadd C dL_step_49 ?_
  refine u_ast (178) C hk hM hF hR hS (uJ_s rfl (by decide) (by decide)) dL_step_50 (fun mem hM hF H locs hR hS => ?_)
  have hM : uR (mem k) (zSt3 z) := uR_eq hM (zS3_u hz.2.2.2.2.2.2.2.2.2)
  obtain ⟨w, hw⟩ : ∃ w, w = zSt3 z := ⟨_, rfl⟩
  rw [← hw] at hM h3 h115
  generalize e1 : z (zAt z (z 114)) / 100 = kd at hl
  generalize e2 : z (zAt z (z 114)) % 100 = n at hl
  have hn : n < 100 := by omega
  have hkd : kd < 10 := by omega
  have h113 := h3.2.2.2.2.1
  have h114 := h3.2.2.2.2.2.1
  have h116 := h3.2.2.2.2.2.2.2.1
  rcases (show kd = 0 ∨ kd = 1 ∨ kd = 2 ∨ kd = 3 ∨ kd = 4 ∨ kd = 5 ∨ kd = 6 ∨ kd = 7 ∨ kd = 8 ∨ kd = 9 by omega) with rfl | rfl | rfl | rfl | rfl | rfl | rfl | rfl | rfl | rfl
  · -- kind 0
    refine g_iload C hl dL_step_51 rfl ?_
    refine g_if_ne (tgt := 61) C dL_step_53 (by decide) (by omega) (fun z9 => absurd z9 (by omega)) (fun c53 => ?_)
    refine g_aload_n C hl dL_step_56 rfl ?_
    refine g_bipush 15 C dL_step_57 (by decide) ?_
    refine g_iconst 1 C dL_step_59 (by decide) ?_
    refine u_ast (115) C hk hM hF hR hS (uJ_w rfl (by decide)) dL_step_60 (fun mem hM hF H locs hR hS => ?_)
    refine g_iload C hl dL_step_61 rfl ?_
    refine g_iconst 1 C dL_step_63 (by decide) ?_
    refine g_icmp_le (tgt := 81) C dL_step_64 (by decide) (by omega) (by omega) (fun c64 => ?_) (fun z9 => absurd z9 (by omega))
    refine g_iload C hl dL_step_81 rfl ?_
    refine g_bipush 6 C dL_step_83 (by decide) ?_
    refine g_icmp_ne (tgt := 105) C dL_step_85 (by decide) (by omega) (by omega) (fun c85 => ?_) (fun z9 => absurd z9 (by omega))
    refine g_iload C hl dL_step_105 rfl ?_
    refine g_bipush 7 C dL_step_107 (by decide) ?_
    refine g_icmp_ne (tgt := 127) C dL_step_109 (by decide) (by omega) (by omega) (fun c109 => ?_) (fun z9 => absurd z9 (by omega))
    refine g_iload C hl dL_step_127 rfl ?_
    refine g_bipush 7 C dL_step_129 (by decide) ?_
    refine g_icmp_ne (tgt := 150) C dL_step_131 (by decide) (by omega) (by omega) (fun c131 => ?_) (fun z9 => absurd z9 (by omega))
    refine g_iload C hl dL_step_150 rfl ?_
    refine g_bipush 8 C dL_step_152 (by decide) ?_
    refine g_icmp_ne (tgt := 168) C dL_step_154 (by decide) (by omega) (by omega) (fun c154 => ?_) (fun z9 => absurd z9 (by omega))
    refine g_aload_n C hl dL_step_168 rfl ?_
    refine g_bipush 15 C dL_step_169 (by decide) ?_
    refine u_ald (115) C hk hM hR (uJ_w rfl (by decide)) dL_step_171 ?_
    refine g_if_le (tgt := 176) C dL_step_172 (by decide) (by rw [fU_s]; decide) (fun z9 => absurd z9 (by rw [fU_s]; decide)) (fun c172 => ?_)
    refine g_vret C hR hS dL_step_175 ?_
    have e5 := zSt_no hw e1 e2 h115 (by unfold zWhy; rw [if_neg (by omega), if_neg (by omega), if_neg (by omega)])
    have e6 : zStep z = zSt5 z := if_neg (fun q9 => by rw [e5] at q9; exact absurd (show fU w 115 1 115 = 0 from q9.1) (by rw [fU_s]; decide))
    refine ⟨rfl, hF, ?_⟩
    rw [e6, e5]
    exact hM
  · -- kind 1
    refine g_iload C hl dL_step_51 rfl ?_
    refine g_if_ne (tgt := 61) C dL_step_53 (by decide) (by omega) (fun c53 => ?_) (fun z9 => absurd z9 (by omega))
    refine g_iload C hl dL_step_61 rfl ?_
    refine g_iconst 1 C dL_step_63 (by decide) ?_
    refine g_icmp_le (tgt := 81) C dL_step_64 (by decide) (by omega) (by omega) (fun c64 => ?_) (fun z9 => absurd z9 (by omega))
    refine g_iload C hl dL_step_81 rfl ?_
    refine g_bipush 6 C dL_step_83 (by decide) ?_
    refine g_icmp_ne (tgt := 105) C dL_step_85 (by decide) (by omega) (by omega) (fun c85 => ?_) (fun z9 => absurd z9 (by omega))
    refine g_iload C hl dL_step_105 rfl ?_
    refine g_bipush 7 C dL_step_107 (by decide) ?_
    refine g_icmp_ne (tgt := 127) C dL_step_109 (by decide) (by omega) (by omega) (fun c109 => ?_) (fun z9 => absurd z9 (by omega))
    refine g_iload C hl dL_step_127 rfl ?_
    refine g_bipush 7 C dL_step_129 (by decide) ?_
    refine g_icmp_ne (tgt := 150) C dL_step_131 (by decide) (by omega) (by omega) (fun c131 => ?_) (fun z9 => absurd z9 (by omega))
    refine g_iload C hl dL_step_150 rfl ?_
    refine g_bipush 8 C dL_step_152 (by decide) ?_
    refine g_icmp_ne (tgt := 168) C dL_step_154 (by decide) (by omega) (by omega) (fun c154 => ?_) (fun z9 => absurd z9 (by omega))
    refine g_aload_n C hl dL_step_168 rfl ?_
    refine g_bipush 15 C dL_step_169 (by decide) ?_
    refine u_ald (115) C hk hM hR (uJ_w rfl (by decide)) dL_step_171 ?_
    refine g_if_le (tgt := 176) C dL_step_172 (by decide) (by omega) (fun c172 => ?_) (fun z9 => absurd z9 (by omega))
    refine g_iload C hl dL_step_176 rfl ?_
    refine g_iconst 1 C dL_step_178 (by decide) ?_
    refine g_icmp_ne (tgt := 188) C dL_step_179 (by decide) (by omega) (by omega) (fun z9 => absurd z9 (by omega)) (fun c179 => ?_)
    refine g_aload_n C hl dL_step_182 rfl ?_
    refine g_bipush 13 C dL_step_183 (by decide) ?_
    refine g_iload C hl dL_step_185 rfl ?_
    refine u_ast (113) C hk hM hF hR hS (uJ_w rfl (by decide)) dL_step_187 (fun mem hM hF H locs hR hS => ?_)
    refine g_iload C hl dL_step_188 rfl ?_
    refine g_iconst 2 C dL_step_190 (by decide) ?_
    refine g_icmp_ne (tgt := 215) C dL_step_191 (by decide) (by omega) (by omega) (fun c191 => ?_) (fun z9 => absurd z9 (by omega))
    refine g_iload C hl dL_step_215 rfl ?_
    refine g_iconst 3 C dL_step_217 (by decide) ?_
    refine g_icmp_ne (tgt := 327) C dL_step_218 (by decide) (by omega) (by omega) (fun c218 => ?_) (fun z9 => absurd z9 (by omega))
    refine g_iload C hl dL_step_327 rfl ?_
    refine g_iconst 4 C dL_step_329 (by decide) ?_
    refine g_icmp_eq (tgt := 346) C dL_step_330 (by decide) (by omega) (by omega) (fun z9 => absurd z9 (by omega)) (fun c330 => ?_)
    refine g_iload C hl dL_step_333 rfl ?_
    refine g_iconst 5 C dL_step_335 (by decide) ?_
    refine g_icmp_ne (tgt := 352) C dL_step_336 (by decide) (by omega) (by omega) (fun c336 => ?_) (fun z9 => absurd z9 (by omega))
    refine g_iload C hl dL_step_352 rfl ?_
    refine g_bipush 6 C dL_step_354 (by decide) ?_
    refine g_icmp_ne (tgt := 371) C dL_step_356 (by decide) (by omega) (by omega) (fun c356 => ?_) (fun z9 => absurd z9 (by omega))
    refine g_iload C hl dL_step_371 rfl ?_
    refine g_bipush 7 C dL_step_373 (by decide) ?_
    refine g_icmp_ne (tgt := 454) C dL_step_375 (by decide) (by omega) (by omega) (fun c375 => ?_) (fun z9 => absurd z9 (by omega))
    refine g_iload C hl dL_step_454 rfl ?_
    refine g_bipush 8 C dL_step_456 (by decide) ?_
    refine g_icmp_ne (tgt := 501) C dL_step_458 (by decide) (by omega) (by omega) (fun c458 => ?_) (fun z9 => absurd z9 (by omega))
    refine g_iload C hl dL_step_501 rfl ?_
    refine g_bipush 9 C dL_step_503 (by decide) ?_
    refine g_icmp_ne (tgt := 523) C dL_step_505 (by decide) (by omega) (by omega) (fun c505 => ?_) (fun z9 => absurd z9 (by omega))
    have e5 := zSt_no hw e1 e2 h115 (by unfold zWhy; rw [if_neg (by omega), if_neg (by omega), if_neg (by omega)])
    exact tail _ _ _ _ _ hl (by rw [e5]; exact hM) hF hR hS
  · -- kind 2
    refine g_iload C hl dL_step_51 rfl ?_
    refine g_if_ne (tgt := 61) C dL_step_53 (by decide) (by omega) (fun c53 => ?_) (fun z9 => absurd z9 (by omega))
    refine g_iload C hl dL_step_61 rfl ?_
    refine g_iconst 1 C dL_step_63 (by decide) ?_
    refine g_icmp_le (tgt := 81) C dL_step_64 (by decide) (by omega) (by omega) (fun z9 => absurd z9 (by omega)) (fun c64 => ?_)
    refine g_iload C hl dL_step_67 rfl ?_
    refine g_bipush 6 C dL_step_69 (by decide) ?_
    refine g_icmp_ge (tgt := 81) C dL_step_71 (by decide) (by omega) (by omega) (fun z9 => absurd z9 (by omega)) (fun c71 => ?_)
    refine g_iload C hl dL_step_74 rfl ?_
    refine g_bipush 63 C dL_step_76 (by decide) ?_
    refine g_icmp_gt (tgt := 119) C dL_step_78 (by decide) (by omega) (by omega) (fun c78 => ?_) (fun c78 => ?_)
    · -- 78 T
      refine g_aload_n C hl dL_step_119 rfl ?_
      refine g_bipush 15 C dL_step_120 (by decide) ?_
      refine g_iconst 3 C dL_step_122 (by decide) ?_
      refine u_ast (115) C hk hM hF hR hS (uJ_w rfl (by decide)) dL_step_123 (fun mem hM hF H locs hR hS => ?_)
      refine g_goto (tgt := 168) C dL_step_124 (by decide) ?_
      refine g_aload_n C hl dL_step_168 rfl ?_
      refine g_bipush 15 C dL_step_169 (by decide) ?_
      refine u_ald (115) C hk hM hR (uJ_w rfl (by decide)) dL_step_171 ?_
      refine g_if_le (tgt := 176) C dL_step_172 (by decide) (by rw [fU_s]; decide) (fun z9 => absurd z9 (by rw [fU_s]; decide)) (fun c172 => ?_)
      refine g_vret C hR hS dL_step_175 ?_
      refine ⟨rfl, hF, ?_⟩
      rw [zSt_yes hw e1 e2 (show zWhy w 2 n = 3 by unfold zWhy; rw [if_pos (by omega)]) (by decide)]
      exact hM
    · -- 78 F
      refine g_iload C hl dL_step_81 rfl ?_
      refine g_bipush 6 C dL_step_83 (by decide) ?_
      refine g_icmp_ne (tgt := 105) C dL_step_85 (by decide) (by omega) (by omega) (fun c85 => ?_) (fun z9 => absurd z9 (by omega))
      refine g_iload C hl dL_step_105 rfl ?_
      refine g_bipush 7 C dL_step_107 (by decide) ?_
      refine g_icmp_ne (tgt := 127) C dL_step_109 (by decide) (by omega) (by omega) (fun c109 => ?_) (fun z9 => absurd z9 (by omega))
      refine g_iload C hl dL_step_127 rfl ?_
      refine g_bipush 7 C dL_step_129 (by decide) ?_
      refine g_icmp_ne (tgt := 150) C dL_step_131 (by decide) (by omega) (by omega) (fun c131 => ?_) (fun z9 => absurd z9 (by omega))
      refine g_iload C hl dL_step_150 rfl ?_
      refine g_bipush 8 C dL_step_152 (by decide) ?_
      refine g_icmp_ne (tgt := 168) C dL_step_154 (by decide) (by omega) (by omega) (fun c154 => ?_) (fun z9 => absurd z9 (by omega))
      refine g_aload_n C hl dL_step_168 rfl ?_
      refine g_bipush 15 C dL_step_169 (by decide) ?_
      refine u_ald (115) C hk hM hR (uJ_w rfl (by decide)) dL_step_171 ?_
      refine g_if_le (tgt := 176) C dL_step_172 (by decide) (by omega) (fun c172 => ?_) (fun z9 => absurd z9 (by omega))
      refine g_iload C hl dL_step_176 rfl ?_
      refine g_iconst 1 C dL_step_178 (by decide) ?_
      refine g_icmp_ne (tgt := 188) C dL_step_179 (by decide) (by omega) (by omega) (fun c179 => ?_) (fun z9 => absurd z9 (by omega))
      refine g_iload C hl dL_step_188 rfl ?_
      refine g_iconst 2 C dL_step_190 (by decide) ?_
      refine g_icmp_ne (tgt := 215) C dL_step_191 (by decide) (by omega) (by omega) (fun z9 => absurd z9 (by omega)) (fun c191 => ?_)
      refine g_aload_n C hl dL_step_194 rfl ?_
      refine g_bipush 13 C dL_step_195 (by decide) ?_
      refine g_aload_n C hl dL_step_197 rfl ?_
      refine g_bipush 13 C dL_step_198 (by decide) ?_
      refine u_ald (113) C hk hM hR (uJ_w rfl (by decide)) dL_step_200 ?_
      refine g_aload_n C hl dL_step_201 rfl ?_
      refine g_aload_n C hl dL_step_202 rfl ?_
      refine g_aload_n C hl dL_step_203 rfl ?_
      refine g_iload C hl dL_step_204 rfl ?_
      refine g_callSi C hl.1 hR hS md_L_at ml_L_15 (c_L_at l hI hk hM h3 (by omega)) rfl rfl ⟨Nat.le_of_ble_eq_true rfl, Nat.le_of_ble_eq_true rfl⟩ ⟨Nat.le_refl _, Nat.le_refl _⟩ (Nat.le_of_ble_eq_true rfl) dL_step_206 (fun H locs hR hS => ?_)
      refine g_iadd C dL_step_209 ?_
      refine g_sipush 1000 C dL_step_210 (by decide) ?_
      refine g_irem C dL_step_213 (by have := h3.1 _ (h3.at (a := n) (by omega)); omega) (by decide) (by decide) ?_
      rw [zSm_mod (by omega) (h3.1 _ (h3.at (by omega)))]
      refine u_ast (113) C hk hM hF hR hS (uJ_w rfl (by decide)) dL_step_214 (fun mem hM hF H locs hR hS => ?_)
      refine g_iload C hl dL_step_215 rfl ?_
      refine g_iconst 3 C dL_step_217 (by decide) ?_
      refine g_icmp_ne (tgt := 327) C dL_step_218 (by decide) (by omega) (by omega) (fun c218 => ?_) (fun z9 => absurd z9 (by omega))
      refine g_iload C hl dL_step_327 rfl ?_
      refine g_iconst 4 C dL_step_329 (by decide) ?_
      refine g_icmp_eq (tgt := 346) C dL_step_330 (by decide) (by omega) (by omega) (fun z9 => absurd z9 (by omega)) (fun c330 => ?_)
      refine g_iload C hl dL_step_333 rfl ?_
      refine g_iconst 5 C dL_step_335 (by decide) ?_
      refine g_icmp_ne (tgt := 352) C dL_step_336 (by decide) (by omega) (by omega) (fun c336 => ?_) (fun z9 => absurd z9 (by omega))
      refine g_iload C hl dL_step_352 rfl ?_
      refine g_bipush 6 C dL_step_354 (by decide) ?_
      refine g_icmp_ne (tgt := 371) C dL_step_356 (by decide) (by omega) (by omega) (fun c356 => ?_) (fun z9 => absurd z9 (by omega))
      refine g_iload C hl dL_step_371 rfl ?_
      refine g_bipush 7 C dL_step_373 (by decide) ?_
      refine g_icmp_ne (tgt := 454) C dL_step_375 (by decide) (by omega) (by omega) (fun c375 => ?_) (fun z9 => absurd z9 (by omega))
      refine g_iload C hl dL_step_454 rfl ?_
      refine g_bipush 8 C dL_step_456 (by decide) ?_
      refine g_icmp_ne (tgt := 501) C dL_step_458 (by decide) (by omega) (by omega) (fun c458 => ?_) (fun z9 => absurd z9 (by omega))
      refine g_iload C hl dL_step_501 rfl ?_
      refine g_bipush 9 C dL_step_503 (by decide) ?_
      refine g_icmp_ne (tgt := 523) C dL_step_505 (by decide) (by omega) (by omega) (fun c505 => ?_) (fun z9 => absurd z9 (by omega))
      have e5 := zSt_no hw e1 e2 h115 (by unfold zWhy; rw [if_neg (by omega), if_neg (by omega), if_neg (by omega)])
      exact tail _ _ _ _ _ hl (by rw [e5]; exact hM) hF hR hS
  · -- kind 3
    refine g_iload C hl dL_step_51 rfl ?_
    refine g_if_ne (tgt := 61) C dL_step_53 (by decide) (by omega) (fun c53 => ?_) (fun z9 => absurd z9 (by omega))
    refine g_iload C hl dL_step_61 rfl ?_
    refine g_iconst 1 C dL_step_63 (by decide) ?_
    refine g_icmp_le (tgt := 81) C dL_step_64 (by decide) (by omega) (by omega) (fun z9 => absurd z9 (by omega)) (fun c64 => ?_)
    refine g_iload C hl dL_step_67 rfl ?_
    refine g_bipush 6 C dL_step_69 (by decide) ?_
    refine g_icmp_ge (tgt := 81) C dL_step_71 (by decide) (by omega) (by omega) (fun z9 => absurd z9 (by omega)) (fun c71 => ?_)
    refine g_iload C hl dL_step_74 rfl ?_
    refine g_bipush 63 C dL_step_76 (by decide) ?_
    refine g_icmp_gt (tgt := 119) C dL_step_78 (by decide) (by omega) (by omega) (fun c78 => ?_) (fun c78 => ?_)
    · -- 78 T
      refine g_aload_n C hl dL_step_119 rfl ?_
      refine g_bipush 15 C dL_step_120 (by decide) ?_
      refine g_iconst 3 C dL_step_122 (by decide) ?_
      refine u_ast (115) C hk hM hF hR hS (uJ_w rfl (by decide)) dL_step_123 (fun mem hM hF H locs hR hS => ?_)
      refine g_goto (tgt := 168) C dL_step_124 (by decide) ?_
      refine g_aload_n C hl dL_step_168 rfl ?_
      refine g_bipush 15 C dL_step_169 (by decide) ?_
      refine u_ald (115) C hk hM hR (uJ_w rfl (by decide)) dL_step_171 ?_
      refine g_if_le (tgt := 176) C dL_step_172 (by decide) (by rw [fU_s]; decide) (fun z9 => absurd z9 (by rw [fU_s]; decide)) (fun c172 => ?_)
      refine g_vret C hR hS dL_step_175 ?_
      refine ⟨rfl, hF, ?_⟩
      rw [zSt_yes hw e1 e2 (show zWhy w 3 n = 3 by unfold zWhy; rw [if_pos (by omega)]) (by decide)]
      exact hM
    · -- 78 F
      refine g_iload C hl dL_step_81 rfl ?_
      refine g_bipush 6 C dL_step_83 (by decide) ?_
      refine g_icmp_ne (tgt := 105) C dL_step_85 (by decide) (by omega) (by omega) (fun c85 => ?_) (fun z9 => absurd z9 (by omega))
      refine g_iload C hl dL_step_105 rfl ?_
      refine g_bipush 7 C dL_step_107 (by decide) ?_
      refine g_icmp_ne (tgt := 127) C dL_step_109 (by decide) (by omega) (by omega) (fun c109 => ?_) (fun z9 => absurd z9 (by omega))
      refine g_iload C hl dL_step_127 rfl ?_
      refine g_bipush 7 C dL_step_129 (by decide) ?_
      refine g_icmp_ne (tgt := 150) C dL_step_131 (by decide) (by omega) (by omega) (fun c131 => ?_) (fun z9 => absurd z9 (by omega))
      refine g_iload C hl dL_step_150 rfl ?_
      refine g_bipush 8 C dL_step_152 (by decide) ?_
      refine g_icmp_ne (tgt := 168) C dL_step_154 (by decide) (by omega) (by omega) (fun c154 => ?_) (fun z9 => absurd z9 (by omega))
      refine g_aload_n C hl dL_step_168 rfl ?_
      refine g_bipush 15 C dL_step_169 (by decide) ?_
      refine u_ald (115) C hk hM hR (uJ_w rfl (by decide)) dL_step_171 ?_
      refine g_if_le (tgt := 176) C dL_step_172 (by decide) (by omega) (fun c172 => ?_) (fun z9 => absurd z9 (by omega))
      refine g_iload C hl dL_step_176 rfl ?_
      refine g_iconst 1 C dL_step_178 (by decide) ?_
      refine g_icmp_ne (tgt := 188) C dL_step_179 (by decide) (by omega) (by omega) (fun c179 => ?_) (fun z9 => absurd z9 (by omega))
      refine g_iload C hl dL_step_188 rfl ?_
      refine g_iconst 2 C dL_step_190 (by decide) ?_
      refine g_icmp_ne (tgt := 215) C dL_step_191 (by decide) (by omega) (by omega) (fun c191 => ?_) (fun z9 => absurd z9 (by omega))
      refine g_iload C hl dL_step_215 rfl ?_
      refine g_iconst 3 C dL_step_217 (by decide) ?_
      refine g_icmp_ne (tgt := 327) C dL_step_218 (by decide) (by omega) (by omega) (fun z9 => absurd z9 (by omega)) (fun c218 => ?_)
      refine g_aload_n C hl dL_step_221 rfl ?_
      refine g_iload C hl dL_step_222 rfl ?_
      refine g_bipush 16 C dL_step_224 (by decide) ?_
      refine g_idiv C dL_step_226 (by omega) (by decide) (by decide) ?_
      refine u_ald (100 + n / 16) C hk hM hR (uJ_w rfl (by omega)) dL_step_227 ?_
      refine g_istore C hl dL_step_228 (Nat.le_of_ble_eq_true rfl) (fun ls hl => ?_)
      refine g_aload_n C hl dL_step_230 rfl ?_
      refine g_iconst 4 C dL_step_231 (by decide) ?_
      refine g_iload C hl dL_step_232 rfl ?_
      refine g_iadd C dL_step_234 ?_
      refine u_ald (104 + w (100 + n / 16)) C hk hM hR (uJ_w (by omega) (by have := h3.bk (a := n) (by omega); unfold zBk at this; omega)) dL_step_235 ?_
      refine g_if_ne (tgt := 243) C dL_step_236 (by decide) (by have := h3.2.2.1 _ (h3.bk (a := n) (by omega)); unfold zBk at this; omega) (fun c236 => ?_) (fun c236 => ?_)
      · -- 236 T
        refine g_iconst 0 C dL_step_243 (by decide) ?_
        refine g_istore C hl dL_step_244 (Nat.le_of_ble_eq_true rfl) (fun ls hl => ?_)
        refine g_iload C hl dL_step_246 rfl ?_
        refine g_if_eq (tgt := 267) C dL_step_248 (by decide) (by omega) (fun c248 => ?_) (fun z9 => absurd z9 (by omega))
        refine g_aload_n C hl dL_step_267 rfl ?_
        refine g_iload C hl dL_step_268 rfl ?_
        refine g_if_eq (tgt := 278) C dL_step_270 (by decide) (by omega) (fun c270 => ?_) (fun z9 => absurd z9 (by omega))
        refine g_bipush 19 C dL_step_278 (by decide) ?_
        refine g_dup2 C dL_step_280 rfl rfl ?_
        refine u_ald (181) C hk hM hR (uJ_s rfl (by decide) (by decide)) dL_step_281 ?_
        refine g_iconst 1 C dL_step_282 (by decide) ?_
        refine g_iadd C dL_step_283 ?_
        refine u_ast (181) C hk hM hF hR hS (uJ_s rfl (by decide) (by decide)) dL_step_284 (fun mem hM hF H locs hR hS => ?_)
        refine g_aload_n C hl dL_step_285 rfl ?_
        refine g_iload C hl dL_step_286 rfl ?_
        refine g_if_eq (tgt := 296) C dL_step_288 (by decide) (by omega) (fun c288 => ?_) (fun z9 => absurd z9 (by omega))
        refine g_bipush 28 C dL_step_296 (by decide) ?_
        refine g_iload C hl dL_step_298 rfl ?_
        refine g_iadd C dL_step_300 ?_
        refine g_dup2 C dL_step_301 rfl rfl ?_
        refine u_ald (190 + w (100 + n / 16)) C hk hM hR (uJ_s (by omega) (by omega) (by have := h3.bk (a := n) (by omega); unfold zBk at this; omega)) dL_step_302 ?_
        refine g_iconst 1 C dL_step_303 (by decide) ?_
        refine g_iadd C dL_step_304 ?_
        refine u_ast (190 + w (100 + n / 16)) C hk hM hF hR hS (uJ_s (by omega) (by omega) (by have := h3.bk (a := n) (by omega); unfold zBk at this; omega)) dL_step_305 (fun mem hM hF H locs hR hS => ?_)
        refine g_aload_n C hl dL_step_306 rfl ?_
        refine g_bipush 15 C dL_step_307 (by decide) ?_
        refine g_iload C hl dL_step_309 rfl ?_
        refine g_if_ne (tgt := 321) C dL_step_311 (by decide) (by omega) (fun z9 => absurd z9 (by omega)) (fun c311 => ?_)
        refine g_aload_n C hl dL_step_314 rfl ?_
        refine g_bipush 12 C dL_step_315 (by decide) ?_
        refine u_ald (112) C hk hM hR (uJ_w rfl (by decide)) dL_step_317 ?_
        refine g_if_ne (tgt := 325) C dL_step_318 (by decide) (by have e9 : zWr2 w (zBk w n) 112 = w 112 := by { unfold zWr2 zWr1; rw [fU_n _ _ (by have := h3.bk (a := n) (by omega); omega), fU_n _ _ (by decide)] }; have h9 := h3.2.2.2.1; show zWr2 w (zBk w n) 112 < 2 ^ 31; omega) (fun c318 => ?_) (fun c318 => ?_)
        · -- 318 T
          refine g_iconst 2 C dL_step_325 (by decide) ?_
          refine u_ast (115) C hk hM hF hR hS (uJ_w rfl (by decide)) dL_step_326 (fun mem hM hF H locs hR hS => ?_)
          refine g_iload C hl dL_step_327 rfl ?_
          refine g_iconst 4 C dL_step_329 (by decide) ?_
          refine g_icmp_eq (tgt := 346) C dL_step_330 (by decide) (by omega) (by omega) (fun z9 => absurd z9 (by omega)) (fun c330 => ?_)
          refine g_iload C hl dL_step_333 rfl ?_
          refine g_iconst 5 C dL_step_335 (by decide) ?_
          refine g_icmp_ne (tgt := 352) C dL_step_336 (by decide) (by omega) (by omega) (fun c336 => ?_) (fun z9 => absurd z9 (by omega))
          refine g_iload C hl dL_step_352 rfl ?_
          refine g_bipush 6 C dL_step_354 (by decide) ?_
          refine g_icmp_ne (tgt := 371) C dL_step_356 (by decide) (by omega) (by omega) (fun c356 => ?_) (fun z9 => absurd z9 (by omega))
          refine g_iload C hl dL_step_371 rfl ?_
          refine g_bipush 7 C dL_step_373 (by decide) ?_
          refine g_icmp_ne (tgt := 454) C dL_step_375 (by decide) (by omega) (by omega) (fun c375 => ?_) (fun z9 => absurd z9 (by omega))
          refine g_iload C hl dL_step_454 rfl ?_
          refine g_bipush 8 C dL_step_456 (by decide) ?_
          refine g_icmp_ne (tgt := 501) C dL_step_458 (by decide) (by omega) (by omega) (fun c458 => ?_) (fun z9 => absurd z9 (by omega))
          refine g_iload C hl dL_step_501 rfl ?_
          refine g_bipush 9 C dL_step_503 (by decide) ?_
          refine g_icmp_ne (tgt := 523) C dL_step_505 (by decide) (by omega) (by omega) (fun c505 => ?_) (fun z9 => absurd z9 (by omega))
          have e5 := zSt_no hw e1 e2 h115 (by unfold zWhy; rw [if_neg (by omega), if_neg (by omega), if_neg (by omega)])
          have hb8 : zBk w n < 8 := h3.bk (a := n) (by omega)
          have ha8 : zAt w n < 100 := h3.at (by omega)
          have e9 : zOrd w 3 n (z 114 / 16) = zWr3 w (zBk w n) := if_pos (by have := h3.2.2.1 _ hb8; unfold zBk at this ⊢; omega)
          rw [e9] at e5
          have e12 : zWr2 w (zBk w n) 112 = w 112 := by
            unfold zWr2 zWr1
            rw [fU_n _ _ (by omega), fU_n _ _ (by decide)]
          have h12 := h3.2.2.2.1
          have c9 : ¬ zWr2 w (zBk w n) 112 = 0 := c318
          have hM : uR (mem k) (zWr3 w (zBk w n)) := by
            unfold zWr3
            rw [if_pos (by omega)]
            exact hM
          exact tail _ _ _ _ _ hl (by rw [e5]; exact hM) hF hR hS
        · -- 318 F
          refine g_iconst 0 C dL_step_321 (by decide) ?_
          refine g_goto (tgt := 326) C dL_step_322 (by decide) ?_
          refine u_ast (115) C hk hM hF hR hS (uJ_w rfl (by decide)) dL_step_326 (fun mem hM hF H locs hR hS => ?_)
          refine g_iload C hl dL_step_327 rfl ?_
          refine g_iconst 4 C dL_step_329 (by decide) ?_
          refine g_icmp_eq (tgt := 346) C dL_step_330 (by decide) (by omega) (by omega) (fun z9 => absurd z9 (by omega)) (fun c330 => ?_)
          refine g_iload C hl dL_step_333 rfl ?_
          refine g_iconst 5 C dL_step_335 (by decide) ?_
          refine g_icmp_ne (tgt := 352) C dL_step_336 (by decide) (by omega) (by omega) (fun c336 => ?_) (fun z9 => absurd z9 (by omega))
          refine g_iload C hl dL_step_352 rfl ?_
          refine g_bipush 6 C dL_step_354 (by decide) ?_
          refine g_icmp_ne (tgt := 371) C dL_step_356 (by decide) (by omega) (by omega) (fun c356 => ?_) (fun z9 => absurd z9 (by omega))
          refine g_iload C hl dL_step_371 rfl ?_
          refine g_bipush 7 C dL_step_373 (by decide) ?_
          refine g_icmp_ne (tgt := 454) C dL_step_375 (by decide) (by omega) (by omega) (fun c375 => ?_) (fun z9 => absurd z9 (by omega))
          refine g_iload C hl dL_step_454 rfl ?_
          refine g_bipush 8 C dL_step_456 (by decide) ?_
          refine g_icmp_ne (tgt := 501) C dL_step_458 (by decide) (by omega) (by omega) (fun c458 => ?_) (fun z9 => absurd z9 (by omega))
          refine g_iload C hl dL_step_501 rfl ?_
          refine g_bipush 9 C dL_step_503 (by decide) ?_
          refine g_icmp_ne (tgt := 523) C dL_step_505 (by decide) (by omega) (by omega) (fun c505 => ?_) (fun z9 => absurd z9 (by omega))
          have e5 := zSt_no hw e1 e2 h115 (by unfold zWhy; rw [if_neg (by omega), if_neg (by omega), if_neg (by omega)])
          have hb8 : zBk w n < 8 := h3.bk (a := n) (by omega)
          have ha8 : zAt w n < 100 := h3.at (by omega)
          have e9 : zOrd w 3 n (z 114 / 16) = zWr3 w (zBk w n) := if_pos (by have := h3.2.2.1 _ hb8; unfold zBk at this ⊢; omega)
          rw [e9] at e5
          have e12 : zWr2 w (zBk w n) 112 = w 112 := by
            unfold zWr2 zWr1
            rw [fU_n _ _ (by omega), fU_n _ _ (by decide)]
          have h12 := h3.2.2.2.1
          have c9 : zWr2 w (zBk w n) 112 = 0 := c318
          have hM : uR (mem k) (zWr3 w (zBk w n)) := by
            unfold zWr3
            rw [if_neg (by omega)]
            exact hM
          exact tail _ _ _ _ _ hl (by rw [e5]; exact hM) hF hR hS
      · -- 236 F
        refine g_iconst 1 C dL_step_239 (by decide) ?_
        refine g_goto (tgt := 244) C dL_step_240 (by decide) ?_
        refine g_istore C hl dL_step_244 (Nat.le_of_ble_eq_true rfl) (fun ls hl => ?_)
        refine g_iload C hl dL_step_246 rfl ?_
        refine g_if_eq (tgt := 267) C dL_step_248 (by decide) (by omega) (fun z9 => absurd z9 (by omega)) (fun c248 => ?_)
        refine g_aload_n C hl dL_step_251 rfl ?_
        refine g_aload_n C hl dL_step_252 rfl ?_
        refine g_iload C hl dL_step_253 rfl ?_
        refine g_iload C hl dL_step_255 rfl ?_
        refine g_bipush 16 C dL_step_257 (by decide) ?_
        refine g_irem C dL_step_259 (by omega) (by decide) (by decide) ?_
        refine g_aload_n C hl dL_step_260 rfl ?_
        refine g_bipush 13 C dL_step_261 (by decide) ?_
        refine u_ald (113) C hk hM hR (uJ_w rfl (by decide)) dL_step_263 ?_
        refine g_callU C hl.1 hF hR hS md_L_put ml_L_19 (c_L_put l hI hk hM (h3.bk (a := n) (by omega)) (show n % 16 < 16 by omega)) rfl rfl ⟨Nat.le_of_ble_eq_true rfl, Nat.le_of_ble_eq_true rfl⟩ ⟨Nat.le_refl _, Nat.le_refl _⟩ (Nat.le_of_ble_eq_true rfl) dL_step_264 (fun mem hM hF H locs hR hS => ?_)
        refine g_aload_n C hl dL_step_267 rfl ?_
        refine g_iload C hl dL_step_268 rfl ?_
        refine g_if_eq (tgt := 278) C dL_step_270 (by decide) (by omega) (fun z9 => absurd z9 (by omega)) (fun c270 => ?_)
        refine g_bipush 18 C dL_step_273 (by decide) ?_
        refine g_goto (tgt := 280) C dL_step_275 (by decide) ?_
        refine g_dup2 C dL_step_280 rfl rfl ?_
        refine u_ald (180) C hk hM hR (uJ_s rfl (by decide) (by decide)) dL_step_281 ?_
        refine g_iconst 1 C dL_step_282 (by decide) ?_
        refine g_iadd C dL_step_283 ?_
        refine u_ast (180) C hk hM hF hR hS (uJ_s rfl (by decide) (by decide)) dL_step_284 (fun mem hM hF H locs hR hS => ?_)
        refine g_aload_n C hl dL_step_285 rfl ?_
        refine g_iload C hl dL_step_286 rfl ?_
        refine g_if_eq (tgt := 296) C dL_step_288 (by decide) (by omega) (fun z9 => absurd z9 (by omega)) (fun c288 => ?_)
        refine g_bipush 20 C dL_step_291 (by decide) ?_
        refine g_goto (tgt := 298) C dL_step_293 (by decide) ?_
        refine g_iload C hl dL_step_298 rfl ?_
        refine g_iadd C dL_step_300 ?_
        refine g_dup2 C dL_step_301 rfl rfl ?_
        refine u_ald (182 + w (100 + n / 16)) C hk hM hR (uJ_s (by omega) (by omega) (by have := h3.bk (a := n) (by omega); unfold zBk at this; omega)) dL_step_302 ?_
        refine g_iconst 1 C dL_step_303 (by decide) ?_
        refine g_iadd C dL_step_304 ?_
        refine u_ast (182 + w (100 + n / 16)) C hk hM hF hR hS (uJ_s (by omega) (by omega) (by have := h3.bk (a := n) (by omega); unfold zBk at this; omega)) dL_step_305 (fun mem hM hF H locs hR hS => ?_)
        refine g_aload_n C hl dL_step_306 rfl ?_
        refine g_bipush 15 C dL_step_307 (by decide) ?_
        refine g_iload C hl dL_step_309 rfl ?_
        refine g_if_ne (tgt := 321) C dL_step_311 (by decide) (by omega) (fun c311 => ?_) (fun z9 => absurd z9 (by omega))
        refine g_iconst 0 C dL_step_321 (by decide) ?_
        refine g_goto (tgt := 326) C dL_step_322 (by decide) ?_
        refine u_ast (115) C hk hM hF hR hS (uJ_w rfl (by decide)) dL_step_326 (fun mem hM hF H locs hR hS => ?_)
        refine g_iload C hl dL_step_327 rfl ?_
        refine g_iconst 4 C dL_step_329 (by decide) ?_
        refine g_icmp_eq (tgt := 346) C dL_step_330 (by decide) (by omega) (by omega) (fun z9 => absurd z9 (by omega)) (fun c330 => ?_)
        refine g_iload C hl dL_step_333 rfl ?_
        refine g_iconst 5 C dL_step_335 (by decide) ?_
        refine g_icmp_ne (tgt := 352) C dL_step_336 (by decide) (by omega) (by omega) (fun c336 => ?_) (fun z9 => absurd z9 (by omega))
        refine g_iload C hl dL_step_352 rfl ?_
        refine g_bipush 6 C dL_step_354 (by decide) ?_
        refine g_icmp_ne (tgt := 371) C dL_step_356 (by decide) (by omega) (by omega) (fun c356 => ?_) (fun z9 => absurd z9 (by omega))
        refine g_iload C hl dL_step_371 rfl ?_
        refine g_bipush 7 C dL_step_373 (by decide) ?_
        refine g_icmp_ne (tgt := 454) C dL_step_375 (by decide) (by omega) (by omega) (fun c375 => ?_) (fun z9 => absurd z9 (by omega))
        refine g_iload C hl dL_step_454 rfl ?_
        refine g_bipush 8 C dL_step_456 (by decide) ?_
        refine g_icmp_ne (tgt := 501) C dL_step_458 (by decide) (by omega) (by omega) (fun c458 => ?_) (fun z9 => absurd z9 (by omega))
        refine g_iload C hl dL_step_501 rfl ?_
        refine g_bipush 9 C dL_step_503 (by decide) ?_
        refine g_icmp_ne (tgt := 523) C dL_step_505 (by decide) (by omega) (by omega) (fun c505 => ?_) (fun z9 => absurd z9 (by omega))
        have e5 := zSt_no hw e1 e2 h115 (by unfold zWhy; rw [if_neg (by omega), if_neg (by omega), if_neg (by omega)])
        have hb8 : zBk w n < 8 := h3.bk (a := n) (by omega)
        have ha8 : zAt w n < 100 := h3.at (by omega)
        have e9 : zOrd w 3 n (z 114 / 16) = zWs3 w (zBk w n) n := if_neg (by unfold zBk; omega)
        rw [e9] at e5
        have hM : uR (mem k) (zWs3 w (zBk w n) n) := by
          have e8 : zWs3 w (zBk w n) n 115 = 0 := by
            unfold zWs3 zWs2 zWs1
            rw [fU_n _ _ (by omega), fU_n _ _ (by omega), fU_n _ _ (by omega)]
            exact h115
          rw [← fU_same e8]
          exact hM
        exact tail _ _ _ _ _ hl (by rw [e5]; exact hM) hF hR hS
  · -- kind 4
    refine g_iload C hl dL_step_51 rfl ?_
    refine g_if_ne (tgt := 61) C dL_step_53 (by decide) (by omega) (fun c53 => ?_) (fun z9 => absurd z9 (by omega))
    refine g_iload C hl dL_step_61 rfl ?_
    refine g_iconst 1 C dL_step_63 (by decide) ?_
    refine g_icmp_le (tgt := 81) C dL_step_64 (by decide) (by omega) (by omega) (fun z9 => absurd z9 (by omega)) (fun c64 => ?_)
    refine g_iload C hl dL_step_67 rfl ?_
    refine g_bipush 6 C dL_step_69 (by decide) ?_
    refine g_icmp_ge (tgt := 81) C dL_step_71 (by decide) (by omega) (by omega) (fun z9 => absurd z9 (by omega)) (fun c71 => ?_)
    refine g_iload C hl dL_step_74 rfl ?_
    refine g_bipush 63 C dL_step_76 (by decide) ?_
    refine g_icmp_gt (tgt := 119) C dL_step_78 (by decide) (by omega) (by omega) (fun c78 => ?_) (fun c78 => ?_)
    · -- 78 T
      refine g_aload_n C hl dL_step_119 rfl ?_
      refine g_bipush 15 C dL_step_120 (by decide) ?_
      refine g_iconst 3 C dL_step_122 (by decide) ?_
      refine u_ast (115) C hk hM hF hR hS (uJ_w rfl (by decide)) dL_step_123 (fun mem hM hF H locs hR hS => ?_)
      refine g_goto (tgt := 168) C dL_step_124 (by decide) ?_
      refine g_aload_n C hl dL_step_168 rfl ?_
      refine g_bipush 15 C dL_step_169 (by decide) ?_
      refine u_ald (115) C hk hM hR (uJ_w rfl (by decide)) dL_step_171 ?_
      refine g_if_le (tgt := 176) C dL_step_172 (by decide) (by rw [fU_s]; decide) (fun z9 => absurd z9 (by rw [fU_s]; decide)) (fun c172 => ?_)
      refine g_vret C hR hS dL_step_175 ?_
      refine ⟨rfl, hF, ?_⟩
      rw [zSt_yes hw e1 e2 (show zWhy w 4 n = 3 by unfold zWhy; rw [if_pos (by omega)]) (by decide)]
      exact hM
    · -- 78 F
      refine g_iload C hl dL_step_81 rfl ?_
      refine g_bipush 6 C dL_step_83 (by decide) ?_
      refine g_icmp_ne (tgt := 105) C dL_step_85 (by decide) (by omega) (by omega) (fun c85 => ?_) (fun z9 => absurd z9 (by omega))
      refine g_iload C hl dL_step_105 rfl ?_
      refine g_bipush 7 C dL_step_107 (by decide) ?_
      refine g_icmp_ne (tgt := 127) C dL_step_109 (by decide) (by omega) (by omega) (fun c109 => ?_) (fun z9 => absurd z9 (by omega))
      refine g_iload C hl dL_step_127 rfl ?_
      refine g_bipush 7 C dL_step_129 (by decide) ?_
      refine g_icmp_ne (tgt := 150) C dL_step_131 (by decide) (by omega) (by omega) (fun c131 => ?_) (fun z9 => absurd z9 (by omega))
      refine g_iload C hl dL_step_150 rfl ?_
      refine g_bipush 8 C dL_step_152 (by decide) ?_
      refine g_icmp_ne (tgt := 168) C dL_step_154 (by decide) (by omega) (by omega) (fun c154 => ?_) (fun z9 => absurd z9 (by omega))
      refine g_aload_n C hl dL_step_168 rfl ?_
      refine g_bipush 15 C dL_step_169 (by decide) ?_
      refine u_ald (115) C hk hM hR (uJ_w rfl (by decide)) dL_step_171 ?_
      refine g_if_le (tgt := 176) C dL_step_172 (by decide) (by omega) (fun c172 => ?_) (fun z9 => absurd z9 (by omega))
      refine g_iload C hl dL_step_176 rfl ?_
      refine g_iconst 1 C dL_step_178 (by decide) ?_
      refine g_icmp_ne (tgt := 188) C dL_step_179 (by decide) (by omega) (by omega) (fun c179 => ?_) (fun z9 => absurd z9 (by omega))
      refine g_iload C hl dL_step_188 rfl ?_
      refine g_iconst 2 C dL_step_190 (by decide) ?_
      refine g_icmp_ne (tgt := 215) C dL_step_191 (by decide) (by omega) (by omega) (fun c191 => ?_) (fun z9 => absurd z9 (by omega))
      refine g_iload C hl dL_step_215 rfl ?_
      refine g_iconst 3 C dL_step_217 (by decide) ?_
      refine g_icmp_ne (tgt := 327) C dL_step_218 (by decide) (by omega) (by omega) (fun c218 => ?_) (fun z9 => absurd z9 (by omega))
      refine g_iload C hl dL_step_327 rfl ?_
      refine g_iconst 4 C dL_step_329 (by decide) ?_
      refine g_icmp_eq (tgt := 346) C dL_step_330 (by decide) (by omega) (by omega) (fun c330 => ?_) (fun z9 => absurd z9 (by omega))
      refine g_aload_n C hl dL_step_346 rfl ?_
      refine g_bipush 14 C dL_step_347 (by decide) ?_
      refine g_iload C hl dL_step_349 rfl ?_
      refine u_ast (114) C hk hM hF hR hS (uJ_w rfl (by decide)) dL_step_351 (fun mem hM hF H locs hR hS => ?_)
      refine g_iload C hl dL_step_352 rfl ?_
      refine g_bipush 6 C dL_step_354 (by decide) ?_
      refine g_icmp_ne (tgt := 371) C dL_step_356 (by decide) (by omega) (by omega) (fun c356 => ?_) (fun z9 => absurd z9 (by omega))
      refine g_iload C hl dL_step_371 rfl ?_
      refine g_bipush 7 C dL_step_373 (by decide) ?_
      refine g_icmp_ne (tgt := 454) C dL_step_375 (by decide) (by omega) (by omega) (fun c375 => ?_) (fun z9 => absurd z9 (by omega))
      refine g_iload C hl dL_step_454 rfl ?_
      refine g_bipush 8 C dL_step_456 (by decide) ?_
      refine g_icmp_ne (tgt := 501) C dL_step_458 (by decide) (by omega) (by omega) (fun c458 => ?_) (fun z9 => absurd z9 (by omega))
      refine g_iload C hl dL_step_501 rfl ?_
      refine g_bipush 9 C dL_step_503 (by decide) ?_
      refine g_icmp_ne (tgt := 523) C dL_step_505 (by decide) (by omega) (by omega) (fun c505 => ?_) (fun z9 => absurd z9 (by omega))
      have e5 := zSt_no hw e1 e2 h115 (by unfold zWhy; rw [if_neg (by omega), if_neg (by omega), if_neg (by omega)])
      exact tail _ _ _ _ _ hl (by rw [e5]; exact hM) hF hR hS
  · -- kind 5
    refine g_iload C hl dL_step_51 rfl ?_
    refine g_if_ne (tgt := 61) C dL_step_53 (by decide) (by omega) (fun c53 => ?_) (fun z9 => absurd z9 (by omega))
    refine g_iload C hl dL_step_61 rfl ?_
    refine g_iconst 1 C dL_step_63 (by decide) ?_
    refine g_icmp_le (tgt := 81) C dL_step_64 (by decide) (by omega) (by omega) (fun z9 => absurd z9 (by omega)) (fun c64 => ?_)
    refine g_iload C hl dL_step_67 rfl ?_
    refine g_bipush 6 C dL_step_69 (by decide) ?_
    refine g_icmp_ge (tgt := 81) C dL_step_71 (by decide) (by omega) (by omega) (fun z9 => absurd z9 (by omega)) (fun c71 => ?_)
    refine g_iload C hl dL_step_74 rfl ?_
    refine g_bipush 63 C dL_step_76 (by decide) ?_
    refine g_icmp_gt (tgt := 119) C dL_step_78 (by decide) (by omega) (by omega) (fun c78 => ?_) (fun c78 => ?_)
    · -- 78 T
      refine g_aload_n C hl dL_step_119 rfl ?_
      refine g_bipush 15 C dL_step_120 (by decide) ?_
      refine g_iconst 3 C dL_step_122 (by decide) ?_
      refine u_ast (115) C hk hM hF hR hS (uJ_w rfl (by decide)) dL_step_123 (fun mem hM hF H locs hR hS => ?_)
      refine g_goto (tgt := 168) C dL_step_124 (by decide) ?_
      refine g_aload_n C hl dL_step_168 rfl ?_
      refine g_bipush 15 C dL_step_169 (by decide) ?_
      refine u_ald (115) C hk hM hR (uJ_w rfl (by decide)) dL_step_171 ?_
      refine g_if_le (tgt := 176) C dL_step_172 (by decide) (by rw [fU_s]; decide) (fun z9 => absurd z9 (by rw [fU_s]; decide)) (fun c172 => ?_)
      refine g_vret C hR hS dL_step_175 ?_
      refine ⟨rfl, hF, ?_⟩
      rw [zSt_yes hw e1 e2 (show zWhy w 5 n = 3 by unfold zWhy; rw [if_pos (by omega)]) (by decide)]
      exact hM
    · -- 78 F
      refine g_iload C hl dL_step_81 rfl ?_
      refine g_bipush 6 C dL_step_83 (by decide) ?_
      refine g_icmp_ne (tgt := 105) C dL_step_85 (by decide) (by omega) (by omega) (fun c85 => ?_) (fun z9 => absurd z9 (by omega))
      refine g_iload C hl dL_step_105 rfl ?_
      refine g_bipush 7 C dL_step_107 (by decide) ?_
      refine g_icmp_ne (tgt := 127) C dL_step_109 (by decide) (by omega) (by omega) (fun c109 => ?_) (fun z9 => absurd z9 (by omega))
      refine g_iload C hl dL_step_127 rfl ?_
      refine g_bipush 7 C dL_step_129 (by decide) ?_
      refine g_icmp_ne (tgt := 150) C dL_step_131 (by decide) (by omega) (by omega) (fun c131 => ?_) (fun z9 => absurd z9 (by omega))
      refine g_iload C hl dL_step_150 rfl ?_
      refine g_bipush 8 C dL_step_152 (by decide) ?_
      refine g_icmp_ne (tgt := 168) C dL_step_154 (by decide) (by omega) (by omega) (fun c154 => ?_) (fun z9 => absurd z9 (by omega))
      refine g_aload_n C hl dL_step_168 rfl ?_
      refine g_bipush 15 C dL_step_169 (by decide) ?_
      refine u_ald (115) C hk hM hR (uJ_w rfl (by decide)) dL_step_171 ?_
      refine g_if_le (tgt := 176) C dL_step_172 (by decide) (by omega) (fun c172 => ?_) (fun z9 => absurd z9 (by omega))
      refine g_iload C hl dL_step_176 rfl ?_
      refine g_iconst 1 C dL_step_178 (by decide) ?_
      refine g_icmp_ne (tgt := 188) C dL_step_179 (by decide) (by omega) (by omega) (fun c179 => ?_) (fun z9 => absurd z9 (by omega))
      refine g_iload C hl dL_step_188 rfl ?_
      refine g_iconst 2 C dL_step_190 (by decide) ?_
      refine g_icmp_ne (tgt := 215) C dL_step_191 (by decide) (by omega) (by omega) (fun c191 => ?_) (fun z9 => absurd z9 (by omega))
      refine g_iload C hl dL_step_215 rfl ?_
      refine g_iconst 3 C dL_step_217 (by decide) ?_
      refine g_icmp_ne (tgt := 327) C dL_step_218 (by decide) (by omega) (by omega) (fun c218 => ?_) (fun z9 => absurd z9 (by omega))
      refine g_iload C hl dL_step_327 rfl ?_
      refine g_iconst 4 C dL_step_329 (by decide) ?_
      refine g_icmp_eq (tgt := 346) C dL_step_330 (by decide) (by omega) (by omega) (fun z9 => absurd z9 (by omega)) (fun c330 => ?_)
      refine g_iload C hl dL_step_333 rfl ?_
      refine g_iconst 5 C dL_step_335 (by decide) ?_
      refine g_icmp_ne (tgt := 352) C dL_step_336 (by decide) (by omega) (by omega) (fun z9 => absurd z9 (by omega)) (fun c336 => ?_)
      refine g_aload_n C hl dL_step_339 rfl ?_
      refine g_bipush 13 C dL_step_340 (by decide) ?_
      refine u_ald (113) C hk hM hR (uJ_w rfl (by decide)) dL_step_342 ?_
      refine g_if_ne (tgt := 352) C dL_step_343 (by decide) (by omega) (fun c343 => ?_) (fun c343 => ?_)
      · -- 343 T
        refine g_iload C hl dL_step_352 rfl ?_
        refine g_bipush 6 C dL_step_354 (by decide) ?_
        refine g_icmp_ne (tgt := 371) C dL_step_356 (by decide) (by omega) (by omega) (fun c356 => ?_) (fun z9 => absurd z9 (by omega))
        refine g_iload C hl dL_step_371 rfl ?_
        refine g_bipush 7 C dL_step_373 (by decide) ?_
        refine g_icmp_ne (tgt := 454) C dL_step_375 (by decide) (by omega) (by omega) (fun c375 => ?_) (fun z9 => absurd z9 (by omega))
        refine g_iload C hl dL_step_454 rfl ?_
        refine g_bipush 8 C dL_step_456 (by decide) ?_
        refine g_icmp_ne (tgt := 501) C dL_step_458 (by decide) (by omega) (by omega) (fun c458 => ?_) (fun z9 => absurd z9 (by omega))
        refine g_iload C hl dL_step_501 rfl ?_
        refine g_bipush 9 C dL_step_503 (by decide) ?_
        refine g_icmp_ne (tgt := 523) C dL_step_505 (by decide) (by omega) (by omega) (fun c505 => ?_) (fun z9 => absurd z9 (by omega))
        have e5 := zSt_no hw e1 e2 h115 (by unfold zWhy; rw [if_neg (by omega), if_neg (by omega), if_neg (by omega)])
        have e9 : zOrd w 5 n (z 114 / 16) = w := by
          show fU w 114 (if w 113 = 0 then n else w 114) = _
          rw [if_neg c343, fU_self]
        rw [e9] at e5
        exact tail _ _ _ _ _ hl (by rw [e5]; exact hM) hF hR hS
      · -- 343 F
        refine g_aload_n C hl dL_step_346 rfl ?_
        refine g_bipush 14 C dL_step_347 (by decide) ?_
        refine g_iload C hl dL_step_349 rfl ?_
        refine u_ast (114) C hk hM hF hR hS (uJ_w rfl (by decide)) dL_step_351 (fun mem hM hF H locs hR hS => ?_)
        refine g_iload C hl dL_step_352 rfl ?_
        refine g_bipush 6 C dL_step_354 (by decide) ?_
        refine g_icmp_ne (tgt := 371) C dL_step_356 (by decide) (by omega) (by omega) (fun c356 => ?_) (fun z9 => absurd z9 (by omega))
        refine g_iload C hl dL_step_371 rfl ?_
        refine g_bipush 7 C dL_step_373 (by decide) ?_
        refine g_icmp_ne (tgt := 454) C dL_step_375 (by decide) (by omega) (by omega) (fun c375 => ?_) (fun z9 => absurd z9 (by omega))
        refine g_iload C hl dL_step_454 rfl ?_
        refine g_bipush 8 C dL_step_456 (by decide) ?_
        refine g_icmp_ne (tgt := 501) C dL_step_458 (by decide) (by omega) (by omega) (fun c458 => ?_) (fun z9 => absurd z9 (by omega))
        refine g_iload C hl dL_step_501 rfl ?_
        refine g_bipush 9 C dL_step_503 (by decide) ?_
        refine g_icmp_ne (tgt := 523) C dL_step_505 (by decide) (by omega) (by omega) (fun c505 => ?_) (fun z9 => absurd z9 (by omega))
        have e5 := zSt_no hw e1 e2 h115 (by unfold zWhy; rw [if_neg (by omega), if_neg (by omega), if_neg (by omega)])
        have e9 : zOrd w 5 n (z 114 / 16) = fU w 114 n := by
          show fU w 114 (if w 113 = 0 then n else w 114) = _
          rw [if_pos c343]
        rw [e9] at e5
        exact tail _ _ _ _ _ hl (by rw [e5]; exact hM) hF hR hS
  · -- kind 6
    refine g_iload C hl dL_step_51 rfl ?_
    refine g_if_ne (tgt := 61) C dL_step_53 (by decide) (by omega) (fun c53 => ?_) (fun z9 => absurd z9 (by omega))
    refine g_iload C hl dL_step_61 rfl ?_
    refine g_iconst 1 C dL_step_63 (by decide) ?_
    refine g_icmp_le (tgt := 81) C dL_step_64 (by decide) (by omega) (by omega) (fun z9 => absurd z9 (by omega)) (fun c64 => ?_)
    refine g_iload C hl dL_step_67 rfl ?_
    refine g_bipush 6 C dL_step_69 (by decide) ?_
    refine g_icmp_ge (tgt := 81) C dL_step_71 (by decide) (by omega) (by omega) (fun c71 => ?_) (fun z9 => absurd z9 (by omega))
    refine g_iload C hl dL_step_81 rfl ?_
    refine g_bipush 6 C dL_step_83 (by decide) ?_
    refine g_icmp_ne (tgt := 105) C dL_step_85 (by decide) (by omega) (by omega) (fun z9 => absurd z9 (by omega)) (fun c85 => ?_)
    refine g_iload C hl dL_step_88 rfl ?_
    refine g_bipush 39 C dL_step_90 (by decide) ?_
    refine g_icmp_gt (tgt := 119) C dL_step_92 (by decide) (by omega) (by omega) (fun c92 => ?_) (fun c92 => ?_)
    · -- 92 T
      refine g_aload_n C hl dL_step_119 rfl ?_
      refine g_bipush 15 C dL_step_120 (by decide) ?_
      refine g_iconst 3 C dL_step_122 (by decide) ?_
      refine u_ast (115) C hk hM hF hR hS (uJ_w rfl (by decide)) dL_step_123 (fun mem hM hF H locs hR hS => ?_)
      refine g_goto (tgt := 168) C dL_step_124 (by decide) ?_
      refine g_aload_n C hl dL_step_168 rfl ?_
      refine g_bipush 15 C dL_step_169 (by decide) ?_
      refine u_ald (115) C hk hM hR (uJ_w rfl (by decide)) dL_step_171 ?_
      refine g_if_le (tgt := 176) C dL_step_172 (by decide) (by rw [fU_s]; decide) (fun z9 => absurd z9 (by rw [fU_s]; decide)) (fun c172 => ?_)
      refine g_vret C hR hS dL_step_175 ?_
      refine ⟨rfl, hF, ?_⟩
      rw [zSt_yes hw e1 e2 (show zWhy w 6 n = 3 by unfold zWhy; rw [if_pos (by omega)]) (by decide)]
      exact hM
    · -- 92 F
      refine g_iload C hl dL_step_95 rfl ?_
      refine g_bipush 10 C dL_step_97 (by decide) ?_
      refine g_irem C dL_step_99 (by omega) (by decide) (by decide) ?_
      refine g_bipush 7 C dL_step_100 (by decide) ?_
      refine g_icmp_gt (tgt := 119) C dL_step_102 (by decide) (by omega) (by omega) (fun c102 => ?_) (fun c102 => ?_)
      · -- 102 T
        refine g_aload_n C hl dL_step_119 rfl ?_
        refine g_bipush 15 C dL_step_120 (by decide) ?_
        refine g_iconst 3 C dL_step_122 (by decide) ?_
        refine u_ast (115) C hk hM hF hR hS (uJ_w rfl (by decide)) dL_step_123 (fun mem hM hF H locs hR hS => ?_)
        refine g_goto (tgt := 168) C dL_step_124 (by decide) ?_
        refine g_aload_n C hl dL_step_168 rfl ?_
        refine g_bipush 15 C dL_step_169 (by decide) ?_
        refine u_ald (115) C hk hM hR (uJ_w rfl (by decide)) dL_step_171 ?_
        refine g_if_le (tgt := 176) C dL_step_172 (by decide) (by rw [fU_s]; decide) (fun z9 => absurd z9 (by rw [fU_s]; decide)) (fun c172 => ?_)
        refine g_vret C hR hS dL_step_175 ?_
        refine ⟨rfl, hF, ?_⟩
        rw [zSt_yes hw e1 e2 (show zWhy w 6 n = 3 by unfold zWhy; rw [if_pos (by omega)]) (by decide)]
        exact hM
      · -- 102 F
        refine g_iload C hl dL_step_105 rfl ?_
        refine g_bipush 7 C dL_step_107 (by decide) ?_
        refine g_icmp_ne (tgt := 127) C dL_step_109 (by decide) (by omega) (by omega) (fun c109 => ?_) (fun z9 => absurd z9 (by omega))
        refine g_iload C hl dL_step_127 rfl ?_
        refine g_bipush 7 C dL_step_129 (by decide) ?_
        refine g_icmp_ne (tgt := 150) C dL_step_131 (by decide) (by omega) (by omega) (fun c131 => ?_) (fun z9 => absurd z9 (by omega))
        refine g_iload C hl dL_step_150 rfl ?_
        refine g_bipush 8 C dL_step_152 (by decide) ?_
        refine g_icmp_ne (tgt := 168) C dL_step_154 (by decide) (by omega) (by omega) (fun c154 => ?_) (fun z9 => absurd z9 (by omega))
        refine g_aload_n C hl dL_step_168 rfl ?_
        refine g_bipush 15 C dL_step_169 (by decide) ?_
        refine u_ald (115) C hk hM hR (uJ_w rfl (by decide)) dL_step_171 ?_
        refine g_if_le (tgt := 176) C dL_step_172 (by decide) (by omega) (fun c172 => ?_) (fun z9 => absurd z9 (by omega))
        refine g_iload C hl dL_step_176 rfl ?_
        refine g_iconst 1 C dL_step_178 (by decide) ?_
        refine g_icmp_ne (tgt := 188) C dL_step_179 (by decide) (by omega) (by omega) (fun c179 => ?_) (fun z9 => absurd z9 (by omega))
        refine g_iload C hl dL_step_188 rfl ?_
        refine g_iconst 2 C dL_step_190 (by decide) ?_
        refine g_icmp_ne (tgt := 215) C dL_step_191 (by decide) (by omega) (by omega) (fun c191 => ?_) (fun z9 => absurd z9 (by omega))
        refine g_iload C hl dL_step_215 rfl ?_
        refine g_iconst 3 C dL_step_217 (by decide) ?_
        refine g_icmp_ne (tgt := 327) C dL_step_218 (by decide) (by omega) (by omega) (fun c218 => ?_) (fun z9 => absurd z9 (by omega))
        refine g_iload C hl dL_step_327 rfl ?_
        refine g_iconst 4 C dL_step_329 (by decide) ?_
        refine g_icmp_eq (tgt := 346) C dL_step_330 (by decide) (by omega) (by omega) (fun z9 => absurd z9 (by omega)) (fun c330 => ?_)
        refine g_iload C hl dL_step_333 rfl ?_
        refine g_iconst 5 C dL_step_335 (by decide) ?_
        refine g_icmp_ne (tgt := 352) C dL_step_336 (by decide) (by omega) (by omega) (fun c336 => ?_) (fun z9 => absurd z9 (by omega))
        refine g_iload C hl dL_step_352 rfl ?_
        refine g_bipush 6 C dL_step_354 (by decide) ?_
        refine g_icmp_ne (tgt := 371) C dL_step_356 (by decide) (by omega) (by omega) (fun z9 => absurd z9 (by omega)) (fun c356 => ?_)
        refine g_aload_n C hl dL_step_359 rfl ?_
        refine g_iload C hl dL_step_360 rfl ?_
        refine g_bipush 10 C dL_step_362 (by decide) ?_
        refine g_idiv C dL_step_364 (by omega) (by decide) (by decide) ?_
        refine g_iload C hl dL_step_365 rfl ?_
        refine g_bipush 10 C dL_step_367 (by decide) ?_
        refine g_irem C dL_step_369 (by omega) (by decide) (by decide) ?_
        refine u_ast (100 + n / 10) C hk hM hF hR hS (uJ_w rfl (by omega)) dL_step_370 (fun mem hM hF H locs hR hS => ?_)
        refine g_iload C hl dL_step_371 rfl ?_
        refine g_bipush 7 C dL_step_373 (by decide) ?_
        refine g_icmp_ne (tgt := 454) C dL_step_375 (by decide) (by omega) (by omega) (fun c375 => ?_) (fun z9 => absurd z9 (by omega))
        refine g_iload C hl dL_step_454 rfl ?_
        refine g_bipush 8 C dL_step_456 (by decide) ?_
        refine g_icmp_ne (tgt := 501) C dL_step_458 (by decide) (by omega) (by omega) (fun c458 => ?_) (fun z9 => absurd z9 (by omega))
        refine g_iload C hl dL_step_501 rfl ?_
        refine g_bipush 9 C dL_step_503 (by decide) ?_
        refine g_icmp_ne (tgt := 523) C dL_step_505 (by decide) (by omega) (by omega) (fun c505 => ?_) (fun z9 => absurd z9 (by omega))
        have e5 := zSt_no hw e1 e2 h115 (by unfold zWhy; rw [if_neg (by omega), if_neg (by omega), if_neg (by omega)])
        exact tail _ _ _ _ _ hl (by rw [e5]; exact hM) hF hR hS
  · -- kind 7
    refine g_iload C hl dL_step_51 rfl ?_
    refine g_if_ne (tgt := 61) C dL_step_53 (by decide) (by omega) (fun c53 => ?_) (fun z9 => absurd z9 (by omega))
    refine g_iload C hl dL_step_61 rfl ?_
    refine g_iconst 1 C dL_step_63 (by decide) ?_
    refine g_icmp_le (tgt := 81) C dL_step_64 (by decide) (by omega) (by omega) (fun z9 => absurd z9 (by omega)) (fun c64 => ?_)
    refine g_iload C hl dL_step_67 rfl ?_
    refine g_bipush 6 C dL_step_69 (by decide) ?_
    refine g_icmp_ge (tgt := 81) C dL_step_71 (by decide) (by omega) (by omega) (fun c71 => ?_) (fun z9 => absurd z9 (by omega))
    refine g_iload C hl dL_step_81 rfl ?_
    refine g_bipush 6 C dL_step_83 (by decide) ?_
    refine g_icmp_ne (tgt := 105) C dL_step_85 (by decide) (by omega) (by omega) (fun c85 => ?_) (fun z9 => absurd z9 (by omega))
    refine g_iload C hl dL_step_105 rfl ?_
    refine g_bipush 7 C dL_step_107 (by decide) ?_
    refine g_icmp_ne (tgt := 127) C dL_step_109 (by decide) (by omega) (by omega) (fun z9 => absurd z9 (by omega)) (fun c109 => ?_)
    refine g_iload C hl dL_step_112 rfl ?_
    refine g_bipush 79 C dL_step_114 (by decide) ?_
    refine g_icmp_le (tgt := 127) C dL_step_116 (by decide) (by omega) (by omega) (fun c116 => ?_) (fun c116 => ?_)
    · -- 116 T
      refine g_iload C hl dL_step_127 rfl ?_
      refine g_bipush 7 C dL_step_129 (by decide) ?_
      refine g_icmp_ne (tgt := 150) C dL_step_131 (by decide) (by omega) (by omega) (fun z9 => absurd z9 (by omega)) (fun c131 => ?_)
      refine g_aload_n C hl dL_step_134 rfl ?_
      refine g_iconst 0 C dL_step_135 (by decide) ?_
      refine u_ald (116) C hk hM hR (uJ_f rfl (by decide)) dL_step_136 ?_
      refine g_bipush 8 C dL_step_137 (by decide) ?_
      refine g_icmp_ne (tgt := 150) C dL_step_139 (by decide) (by omega) (by omega) (fun c139 => ?_) (fun c139 => ?_)
      · -- 139 T
        refine g_iload C hl dL_step_150 rfl ?_
        refine g_bipush 8 C dL_step_152 (by decide) ?_
        refine g_icmp_ne (tgt := 168) C dL_step_154 (by decide) (by omega) (by omega) (fun c154 => ?_) (fun z9 => absurd z9 (by omega))
        refine g_aload_n C hl dL_step_168 rfl ?_
        refine g_bipush 15 C dL_step_169 (by decide) ?_
        refine u_ald (115) C hk hM hR (uJ_w rfl (by decide)) dL_step_171 ?_
        refine g_if_le (tgt := 176) C dL_step_172 (by decide) (by omega) (fun c172 => ?_) (fun z9 => absurd z9 (by omega))
        refine g_iload C hl dL_step_176 rfl ?_
        refine g_iconst 1 C dL_step_178 (by decide) ?_
        refine g_icmp_ne (tgt := 188) C dL_step_179 (by decide) (by omega) (by omega) (fun c179 => ?_) (fun z9 => absurd z9 (by omega))
        refine g_iload C hl dL_step_188 rfl ?_
        refine g_iconst 2 C dL_step_190 (by decide) ?_
        refine g_icmp_ne (tgt := 215) C dL_step_191 (by decide) (by omega) (by omega) (fun c191 => ?_) (fun z9 => absurd z9 (by omega))
        refine g_iload C hl dL_step_215 rfl ?_
        refine g_iconst 3 C dL_step_217 (by decide) ?_
        refine g_icmp_ne (tgt := 327) C dL_step_218 (by decide) (by omega) (by omega) (fun c218 => ?_) (fun z9 => absurd z9 (by omega))
        refine g_iload C hl dL_step_327 rfl ?_
        refine g_iconst 4 C dL_step_329 (by decide) ?_
        refine g_icmp_eq (tgt := 346) C dL_step_330 (by decide) (by omega) (by omega) (fun z9 => absurd z9 (by omega)) (fun c330 => ?_)
        refine g_iload C hl dL_step_333 rfl ?_
        refine g_iconst 5 C dL_step_335 (by decide) ?_
        refine g_icmp_ne (tgt := 352) C dL_step_336 (by decide) (by omega) (by omega) (fun c336 => ?_) (fun z9 => absurd z9 (by omega))
        refine g_iload C hl dL_step_352 rfl ?_
        refine g_bipush 6 C dL_step_354 (by decide) ?_
        refine g_icmp_ne (tgt := 371) C dL_step_356 (by decide) (by omega) (by omega) (fun c356 => ?_) (fun z9 => absurd z9 (by omega))
        refine g_iload C hl dL_step_371 rfl ?_
        refine g_bipush 7 C dL_step_373 (by decide) ?_
        refine g_icmp_ne (tgt := 454) C dL_step_375 (by decide) (by omega) (by omega) (fun z9 => absurd z9 (by omega)) (fun c375 => ?_)
        refine g_aload_n C hl dL_step_378 rfl ?_
        refine g_iconst 1 C dL_step_379 (by decide) ?_
        refine g_iconst 3 C dL_step_380 (by decide) ?_
        refine g_aload_n C hl dL_step_381 rfl ?_
        refine g_iconst 0 C dL_step_382 (by decide) ?_
        refine u_ald (116) C hk hM hR (uJ_f rfl (by decide)) dL_step_383 ?_
        refine g_imul C dL_step_384 ?_
        refine g_iadd C dL_step_385 ?_
        refine g_iload C hl dL_step_386 rfl ?_
        refine u_ast (117 + 3 * w 116) C hk hM hF hR hS (uJ_f (by omega) (by omega)) dL_step_388 (fun mem hM hF H locs hR hS => ?_)
        refine g_aload_n C hl dL_step_389 rfl ?_
        refine g_iconst 2 C dL_step_390 (by decide) ?_
        refine g_iconst 3 C dL_step_391 (by decide) ?_
        refine g_aload_n C hl dL_step_392 rfl ?_
        refine g_iconst 0 C dL_step_393 (by decide) ?_
        refine u_ald (116) C hk hM hR (uJ_f rfl (by decide)) dL_step_394 ?_
        rw [fU_n _ _ (show ¬ 116 = 117 + 3 * w 116 by omega)]
        refine g_imul C dL_step_395 ?_
        refine g_iadd C dL_step_396 ?_
        refine g_aload_n C hl dL_step_397 rfl ?_
        refine g_iload C hl dL_step_398 rfl ?_
        refine u_ald (100 + z 114 / 16) C hk hM hR (uJ_w rfl (by omega)) dL_step_400 ?_
        refine u_ast (117 + 3 * w 116 + 1) C hk hM hF hR hS (uJ_f (by omega) (by omega)) dL_step_401 (fun mem hM hF H locs hR hS => ?_)
        refine g_aload_n C hl dL_step_402 rfl ?_
        refine g_iconst 3 C dL_step_403 (by decide) ?_
        refine g_iconst 3 C dL_step_404 (by decide) ?_
        refine g_aload_n C hl dL_step_405 rfl ?_
        refine g_iconst 0 C dL_step_406 (by decide) ?_
        refine u_ald (116) C hk hM hR (uJ_f rfl (by decide)) dL_step_407 ?_
        rw [fU_n _ _ (show ¬ 116 = 117 + 3 * w 116 + 1 by omega), fU_n _ _ (show ¬ 116 = 117 + 3 * w 116 by omega)]
        refine g_imul C dL_step_408 ?_
        refine g_iadd C dL_step_409 ?_
        refine g_aload_n C hl dL_step_410 rfl ?_
        refine g_bipush 14 C dL_step_411 (by decide) ?_
        refine u_ald (114) C hk hM hR (uJ_w rfl (by decide)) dL_step_413 ?_
        refine u_ast (117 + 3 * w 116 + 2) C hk hM hF hR hS (uJ_f (by omega) (by omega)) dL_step_414 (fun mem hM hF H locs hR hS => ?_)
        refine g_aload_n C hl dL_step_415 rfl ?_
        refine g_iconst 0 C dL_step_416 (by decide) ?_
        refine g_dup2 C dL_step_417 rfl rfl ?_
        refine u_ald (116) C hk hM hR (uJ_f rfl (by decide)) dL_step_418 ?_
        refine g_iconst 1 C dL_step_419 (by decide) ?_
        refine g_iadd C dL_step_420 ?_
        refine u_ast (116) C hk hM hF hR hS (uJ_f rfl (by decide)) dL_step_421 (fun mem hM hF H locs hR hS => ?_)
        refine g_aload_n C hl dL_step_422 rfl ?_
        refine g_bipush 17 C dL_step_423 (by decide) ?_
        refine g_dup2 C dL_step_425 rfl rfl ?_
        refine u_ald (179) C hk hM hR (uJ_s rfl (by decide) (by decide)) dL_step_426 ?_
        refine g_iconst 1 C dL_step_427 (by decide) ?_
        refine g_iadd C dL_step_428 ?_
        refine u_ast (179) C hk hM hF hR hS (uJ_s rfl (by decide) (by decide)) dL_step_429 (fun mem hM hF H locs hR hS => ?_)
        refine g_aload_n C hl dL_step_430 rfl ?_
        refine g_iload C hl dL_step_431 rfl ?_
        refine g_iload C hl dL_step_433 rfl ?_
        refine g_bipush 10 C dL_step_435 (by decide) ?_
        refine g_idiv C dL_step_437 (by omega) (by decide) (by decide) ?_
        refine u_ast (100 + z 114 / 16) C hk hM hF hR hS (uJ_w rfl (by omega)) dL_step_438 (fun mem hM hF H locs hR hS => ?_)
        refine g_aload_n C hl dL_step_439 rfl ?_
        refine g_bipush 14 C dL_step_440 (by decide) ?_
        refine g_bipush 16 C dL_step_442 (by decide) ?_
        refine g_iload C hl dL_step_444 rfl ?_
        refine g_imul C dL_step_446 ?_
        refine g_iload C hl dL_step_447 rfl ?_
        refine g_bipush 10 C dL_step_449 (by decide) ?_
        refine g_irem C dL_step_451 (by omega) (by decide) (by decide) ?_
        refine g_iadd C dL_step_452 ?_
        refine u_ast (114) C hk hM hF hR hS (uJ_w rfl (by decide)) dL_step_453 (fun mem hM hF H locs hR hS => ?_)
        refine g_iload C hl dL_step_454 rfl ?_
        refine g_bipush 8 C dL_step_456 (by decide) ?_
        refine g_icmp_ne (tgt := 501) C dL_step_458 (by decide) (by omega) (by omega) (fun c458 => ?_) (fun z9 => absurd z9 (by omega))
        refine g_iload C hl dL_step_501 rfl ?_
        refine g_bipush 9 C dL_step_503 (by decide) ?_
        refine g_icmp_ne (tgt := 523) C dL_step_505 (by decide) (by omega) (by omega) (fun c505 => ?_) (fun z9 => absurd z9 (by omega))
        have e5 := zSt_no hw e1 e2 h115 (by unfold zWhy; rw [if_neg (by omega), if_neg (by omega), if_neg (by omega)])
        exact tail _ _ _ _ _ hl (by rw [e5]; exact hM) hF hR hS
      · -- 139 F
        refine g_aload_n C hl dL_step_142 rfl ?_
        refine g_bipush 15 C dL_step_143 (by decide) ?_
        refine g_iconst 4 C dL_step_145 (by decide) ?_
        refine u_ast (115) C hk hM hF hR hS (uJ_w rfl (by decide)) dL_step_146 (fun mem hM hF H locs hR hS => ?_)
        refine g_goto (tgt := 168) C dL_step_147 (by decide) ?_
        refine g_aload_n C hl dL_step_168 rfl ?_
        refine g_bipush 15 C dL_step_169 (by decide) ?_
        refine u_ald (115) C hk hM hR (uJ_w rfl (by decide)) dL_step_171 ?_
        refine g_if_le (tgt := 176) C dL_step_172 (by decide) (by rw [fU_s]; decide) (fun z9 => absurd z9 (by rw [fU_s]; decide)) (fun c172 => ?_)
        refine g_vret C hR hS dL_step_175 ?_
        refine ⟨rfl, hF, ?_⟩
        rw [zSt_yes hw e1 e2 (show zWhy w 7 n = 4 by unfold zWhy; rw [if_neg (by omega), if_pos (by omega)]) (by decide)]
        exact hM
    · -- 116 F
      refine g_aload_n C hl dL_step_119 rfl ?_
      refine g_bipush 15 C dL_step_120 (by decide) ?_
      refine g_iconst 3 C dL_step_122 (by decide) ?_
      refine u_ast (115) C hk hM hF hR hS (uJ_w rfl (by decide)) dL_step_123 (fun mem hM hF H locs hR hS => ?_)
      refine g_goto (tgt := 168) C dL_step_124 (by decide) ?_
      refine g_aload_n C hl dL_step_168 rfl ?_
      refine g_bipush 15 C dL_step_169 (by decide) ?_
      refine u_ald (115) C hk hM hR (uJ_w rfl (by decide)) dL_step_171 ?_
      refine g_if_le (tgt := 176) C dL_step_172 (by decide) (by rw [fU_s]; decide) (fun z9 => absurd z9 (by rw [fU_s]; decide)) (fun c172 => ?_)
      refine g_vret C hR hS dL_step_175 ?_
      refine ⟨rfl, hF, ?_⟩
      rw [zSt_yes hw e1 e2 (show zWhy w 7 n = 3 by unfold zWhy; rw [if_pos (by omega)]) (by decide)]
      exact hM
  · -- kind 8
    refine g_iload C hl dL_step_51 rfl ?_
    refine g_if_ne (tgt := 61) C dL_step_53 (by decide) (by omega) (fun c53 => ?_) (fun z9 => absurd z9 (by omega))
    refine g_iload C hl dL_step_61 rfl ?_
    refine g_iconst 1 C dL_step_63 (by decide) ?_
    refine g_icmp_le (tgt := 81) C dL_step_64 (by decide) (by omega) (by omega) (fun z9 => absurd z9 (by omega)) (fun c64 => ?_)
    refine g_iload C hl dL_step_67 rfl ?_
    refine g_bipush 6 C dL_step_69 (by decide) ?_
    refine g_icmp_ge (tgt := 81) C dL_step_71 (by decide) (by omega) (by omega) (fun c71 => ?_) (fun z9 => absurd z9 (by omega))
    refine g_iload C hl dL_step_81 rfl ?_
    refine g_bipush 6 C dL_step_83 (by decide) ?_
    refine g_icmp_ne (tgt := 105) C dL_step_85 (by decide) (by omega) (by omega) (fun c85 => ?_) (fun z9 => absurd z9 (by omega))
    refine g_iload C hl dL_step_105 rfl ?_
    refine g_bipush 7 C dL_step_107 (by decide) ?_
    refine g_icmp_ne (tgt := 127) C dL_step_109 (by decide) (by omega) (by omega) (fun c109 => ?_) (fun z9 => absurd z9 (by omega))
    refine g_iload C hl dL_step_127 rfl ?_
    refine g_bipush 7 C dL_step_129 (by decide) ?_
    refine g_icmp_ne (tgt := 150) C dL_step_131 (by decide) (by omega) (by omega) (fun c131 => ?_) (fun z9 => absurd z9 (by omega))
    refine g_iload C hl dL_step_150 rfl ?_
    refine g_bipush 8 C dL_step_152 (by decide) ?_
    refine g_icmp_ne (tgt := 168) C dL_step_154 (by decide) (by omega) (by omega) (fun z9 => absurd z9 (by omega)) (fun c154 => ?_)
    refine g_aload_n C hl dL_step_157 rfl ?_
    refine g_iconst 0 C dL_step_158 (by decide) ?_
    refine u_ald (116) C hk hM hR (uJ_f rfl (by decide)) dL_step_159 ?_
    refine g_if_ne (tgt := 168) C dL_step_160 (by decide) (by omega) (fun c160 => ?_) (fun c160 => ?_)
    · -- 160 T
      refine g_aload_n C hl dL_step_168 rfl ?_
      refine g_bipush 15 C dL_step_169 (by decide) ?_
      refine u_ald (115) C hk hM hR (uJ_w rfl (by decide)) dL_step_171 ?_
      refine g_if_le (tgt := 176) C dL_step_172 (by decide) (by omega) (fun c172 => ?_) (fun z9 => absurd z9 (by omega))
      refine g_iload C hl dL_step_176 rfl ?_
      refine g_iconst 1 C dL_step_178 (by decide) ?_
      refine g_icmp_ne (tgt := 188) C dL_step_179 (by decide) (by omega) (by omega) (fun c179 => ?_) (fun z9 => absurd z9 (by omega))
      refine g_iload C hl dL_step_188 rfl ?_
      refine g_iconst 2 C dL_step_190 (by decide) ?_
      refine g_icmp_ne (tgt := 215) C dL_step_191 (by decide) (by omega) (by omega) (fun c191 => ?_) (fun z9 => absurd z9 (by omega))
      refine g_iload C hl dL_step_215 rfl ?_
      refine g_iconst 3 C dL_step_217 (by decide) ?_
      refine g_icmp_ne (tgt := 327) C dL_step_218 (by decide) (by omega) (by omega) (fun c218 => ?_) (fun z9 => absurd z9 (by omega))
      refine g_iload C hl dL_step_327 rfl ?_
      refine g_iconst 4 C dL_step_329 (by decide) ?_
      refine g_icmp_eq (tgt := 346) C dL_step_330 (by decide) (by omega) (by omega) (fun z9 => absurd z9 (by omega)) (fun c330 => ?_)
      refine g_iload C hl dL_step_333 rfl ?_
      refine g_iconst 5 C dL_step_335 (by decide) ?_
      refine g_icmp_ne (tgt := 352) C dL_step_336 (by decide) (by omega) (by omega) (fun c336 => ?_) (fun z9 => absurd z9 (by omega))
      refine g_iload C hl dL_step_352 rfl ?_
      refine g_bipush 6 C dL_step_354 (by decide) ?_
      refine g_icmp_ne (tgt := 371) C dL_step_356 (by decide) (by omega) (by omega) (fun c356 => ?_) (fun z9 => absurd z9 (by omega))
      refine g_iload C hl dL_step_371 rfl ?_
      refine g_bipush 7 C dL_step_373 (by decide) ?_
      refine g_icmp_ne (tgt := 454) C dL_step_375 (by decide) (by omega) (by omega) (fun c375 => ?_) (fun z9 => absurd z9 (by omega))
      refine g_iload C hl dL_step_454 rfl ?_
      refine g_bipush 8 C dL_step_456 (by decide) ?_
      refine g_icmp_ne (tgt := 501) C dL_step_458 (by decide) (by omega) (by omega) (fun z9 => absurd z9 (by omega)) (fun c458 => ?_)
      refine g_aload_n C hl dL_step_461 rfl ?_
      refine g_iconst 0 C dL_step_462 (by decide) ?_
      refine g_dup2 C dL_step_463 rfl rfl ?_
      refine u_ald (116) C hk hM hR (uJ_f rfl (by decide)) dL_step_464 ?_
      refine g_iconst 1 C dL_step_465 (by decide) ?_
      refine g_isub C dL_step_466 (by omega) ?_
      refine u_ast (116) C hk hM hF hR hS (uJ_f rfl (by decide)) dL_step_467 (fun mem hM hF H locs hR hS => ?_)
      refine g_aload_n C hl dL_step_468 rfl ?_
      refine g_aload_n C hl dL_step_469 rfl ?_
      refine g_iconst 1 C dL_step_470 (by decide) ?_
      refine g_iconst 3 C dL_step_471 (by decide) ?_
      refine g_aload_n C hl dL_step_472 rfl ?_
      refine g_iconst 0 C dL_step_473 (by decide) ?_
      refine u_ald (116) C hk hM hR (uJ_f rfl (by decide)) dL_step_474 ?_
      rw [fU_s]
      refine g_imul C dL_step_475 ?_
      refine g_iadd C dL_step_476 ?_
      refine u_ald (117 + 3 * (w 116 - 1)) C hk hM hR (uJ_f (by omega) (by omega)) dL_step_477 ?_
      rw [fU_n _ _ (show ¬ 117 + 3 * (w 116 - 1) = 116 by omega)]
      refine g_aload_n C hl dL_step_478 rfl ?_
      refine g_iconst 2 C dL_step_479 (by decide) ?_
      refine g_iconst 3 C dL_step_480 (by decide) ?_
      refine g_aload_n C hl dL_step_481 rfl ?_
      refine g_iconst 0 C dL_step_482 (by decide) ?_
      refine u_ald (116) C hk hM hR (uJ_f rfl (by decide)) dL_step_483 ?_
      rw [fU_s]
      refine g_imul C dL_step_484 ?_
      refine g_iadd C dL_step_485 ?_
      refine u_ald (117 + 3 * (w 116 - 1) + 1) C hk hM hR (uJ_f (by omega) (by omega)) dL_step_486 ?_
      refine u_ast (100 + w (117 + 3 * (w 116 - 1))) C hk hM hF hR hS (uJ_w rfl (by have := (h3.2.2.2.2.2.2.2.2.1 (w 116 - 1) (by omega)).1; omega)) dL_step_487 (fun mem hM hF H locs hR hS => ?_)
      refine g_aload_n C hl dL_step_488 rfl ?_
      refine g_bipush 14 C dL_step_489 (by decide) ?_
      refine g_aload_n C hl dL_step_491 rfl ?_
      refine g_iconst 3 C dL_step_492 (by decide) ?_
      refine g_iconst 3 C dL_step_493 (by decide) ?_
      refine g_aload_n C hl dL_step_494 rfl ?_
      refine g_iconst 0 C dL_step_495 (by decide) ?_
      refine u_ald (116) C hk hM hR (uJ_f rfl (by decide)) dL_step_496 ?_
      rw [fU_n _ _ (show ¬ 116 = 100 + w (117 + 3 * (w 116 - 1)) by have := (h3.2.2.2.2.2.2.2.2.1 (w 116 - 1) (by omega)).1; omega), fU_s]
      refine g_imul C dL_step_497 ?_
      refine g_iadd C dL_step_498 ?_
      refine u_ald (117 + 3 * (w 116 - 1) + 2) C hk hM hR (uJ_f (by omega) (by omega)) dL_step_499 ?_
      refine u_ast (114) C hk hM hF hR hS (uJ_w rfl (by decide)) dL_step_500 (fun mem hM hF H locs hR hS => ?_)
      refine g_iload C hl dL_step_501 rfl ?_
      refine g_bipush 9 C dL_step_503 (by decide) ?_
      refine g_icmp_ne (tgt := 523) C dL_step_505 (by decide) (by omega) (by omega) (fun c505 => ?_) (fun z9 => absurd z9 (by omega))
      have e5 := zSt_no hw e1 e2 h115 (by unfold zWhy; rw [if_neg (by omega), if_neg (by omega), if_neg (by omega)])
      exact tail _ _ _ _ _ hl (by rw [e5]; exact hM) hF hR hS
    · -- 160 F
      refine g_aload_n C hl dL_step_163 rfl ?_
      refine g_bipush 15 C dL_step_164 (by decide) ?_
      refine g_iconst 5 C dL_step_166 (by decide) ?_
      refine u_ast (115) C hk hM hF hR hS (uJ_w rfl (by decide)) dL_step_167 (fun mem hM hF H locs hR hS => ?_)
      refine g_aload_n C hl dL_step_168 rfl ?_
      refine g_bipush 15 C dL_step_169 (by decide) ?_
      refine u_ald (115) C hk hM hR (uJ_w rfl (by decide)) dL_step_171 ?_
      refine g_if_le (tgt := 176) C dL_step_172 (by decide) (by rw [fU_s]; decide) (fun z9 => absurd z9 (by rw [fU_s]; decide)) (fun c172 => ?_)
      refine g_vret C hR hS dL_step_175 ?_
      refine ⟨rfl, hF, ?_⟩
      rw [zSt_yes hw e1 e2 (show zWhy w 8 n = 5 by unfold zWhy; rw [if_neg (by omega), if_neg (by omega), if_pos (by omega)]) (by decide)]
      exact hM
  · -- kind 9
    refine g_iload C hl dL_step_51 rfl ?_
    refine g_if_ne (tgt := 61) C dL_step_53 (by decide) (by omega) (fun c53 => ?_) (fun z9 => absurd z9 (by omega))
    refine g_iload C hl dL_step_61 rfl ?_
    refine g_iconst 1 C dL_step_63 (by decide) ?_
    refine g_icmp_le (tgt := 81) C dL_step_64 (by decide) (by omega) (by omega) (fun z9 => absurd z9 (by omega)) (fun c64 => ?_)
    refine g_iload C hl dL_step_67 rfl ?_
    refine g_bipush 6 C dL_step_69 (by decide) ?_
    refine g_icmp_ge (tgt := 81) C dL_step_71 (by decide) (by omega) (by omega) (fun c71 => ?_) (fun z9 => absurd z9 (by omega))
    refine g_iload C hl dL_step_81 rfl ?_
    refine g_bipush 6 C dL_step_83 (by decide) ?_
    refine g_icmp_ne (tgt := 105) C dL_step_85 (by decide) (by omega) (by omega) (fun c85 => ?_) (fun z9 => absurd z9 (by omega))
    refine g_iload C hl dL_step_105 rfl ?_
    refine g_bipush 7 C dL_step_107 (by decide) ?_
    refine g_icmp_ne (tgt := 127) C dL_step_109 (by decide) (by omega) (by omega) (fun c109 => ?_) (fun z9 => absurd z9 (by omega))
    refine g_iload C hl dL_step_127 rfl ?_
    refine g_bipush 7 C dL_step_129 (by decide) ?_
    refine g_icmp_ne (tgt := 150) C dL_step_131 (by decide) (by omega) (by omega) (fun c131 => ?_) (fun z9 => absurd z9 (by omega))
    refine g_iload C hl dL_step_150 rfl ?_
    refine g_bipush 8 C dL_step_152 (by decide) ?_
    refine g_icmp_ne (tgt := 168) C dL_step_154 (by decide) (by omega) (by omega) (fun c154 => ?_) (fun z9 => absurd z9 (by omega))
    refine g_aload_n C hl dL_step_168 rfl ?_
    refine g_bipush 15 C dL_step_169 (by decide) ?_
    refine u_ald (115) C hk hM hR (uJ_w rfl (by decide)) dL_step_171 ?_
    refine g_if_le (tgt := 176) C dL_step_172 (by decide) (by omega) (fun c172 => ?_) (fun z9 => absurd z9 (by omega))
    refine g_iload C hl dL_step_176 rfl ?_
    refine g_iconst 1 C dL_step_178 (by decide) ?_
    refine g_icmp_ne (tgt := 188) C dL_step_179 (by decide) (by omega) (by omega) (fun c179 => ?_) (fun z9 => absurd z9 (by omega))
    refine g_iload C hl dL_step_188 rfl ?_
    refine g_iconst 2 C dL_step_190 (by decide) ?_
    refine g_icmp_ne (tgt := 215) C dL_step_191 (by decide) (by omega) (by omega) (fun c191 => ?_) (fun z9 => absurd z9 (by omega))
    refine g_iload C hl dL_step_215 rfl ?_
    refine g_iconst 3 C dL_step_217 (by decide) ?_
    refine g_icmp_ne (tgt := 327) C dL_step_218 (by decide) (by omega) (by omega) (fun c218 => ?_) (fun z9 => absurd z9 (by omega))
    refine g_iload C hl dL_step_327 rfl ?_
    refine g_iconst 4 C dL_step_329 (by decide) ?_
    refine g_icmp_eq (tgt := 346) C dL_step_330 (by decide) (by omega) (by omega) (fun z9 => absurd z9 (by omega)) (fun c330 => ?_)
    refine g_iload C hl dL_step_333 rfl ?_
    refine g_iconst 5 C dL_step_335 (by decide) ?_
    refine g_icmp_ne (tgt := 352) C dL_step_336 (by decide) (by omega) (by omega) (fun c336 => ?_) (fun z9 => absurd z9 (by omega))
    refine g_iload C hl dL_step_352 rfl ?_
    refine g_bipush 6 C dL_step_354 (by decide) ?_
    refine g_icmp_ne (tgt := 371) C dL_step_356 (by decide) (by omega) (by omega) (fun c356 => ?_) (fun z9 => absurd z9 (by omega))
    refine g_iload C hl dL_step_371 rfl ?_
    refine g_bipush 7 C dL_step_373 (by decide) ?_
    refine g_icmp_ne (tgt := 454) C dL_step_375 (by decide) (by omega) (by omega) (fun c375 => ?_) (fun z9 => absurd z9 (by omega))
    refine g_iload C hl dL_step_454 rfl ?_
    refine g_bipush 8 C dL_step_456 (by decide) ?_
    refine g_icmp_ne (tgt := 501) C dL_step_458 (by decide) (by omega) (by omega) (fun c458 => ?_) (fun z9 => absurd z9 (by omega))
    refine g_iload C hl dL_step_501 rfl ?_
    refine g_bipush 9 C dL_step_503 (by decide) ?_
    refine g_icmp_ne (tgt := 523) C dL_step_505 (by decide) (by omega) (by omega) (fun z9 => absurd z9 (by omega)) (fun c505 => ?_)
    refine g_aload_n C hl dL_step_508 rfl ?_
    refine g_bipush 13 C dL_step_509 (by decide) ?_
    refine g_aload_n C hl dL_step_511 rfl ?_
    refine g_bipush 13 C dL_step_512 (by decide) ?_
    refine u_ald (113) C hk hM hR (uJ_w rfl (by decide)) dL_step_514 ?_
    refine g_iload C hl dL_step_515 rfl ?_
    refine g_iadd C dL_step_517 ?_
    refine g_sipush 1000 C dL_step_518 (by decide) ?_
    refine g_irem C dL_step_521 (by omega) (by decide) (by decide) ?_
    rw [zSm_mod (by omega) (by omega)]
    refine u_ast (113) C hk hM hF hR hS (uJ_w rfl (by decide)) dL_step_522 (fun mem hM hF H locs hR hS => ?_)
    have e5 := zSt_no hw e1 e2 h115 (by unfold zWhy; rw [if_neg (by omega), if_neg (by omega), if_neg (by omega)])
    exact tail _ _ _ _ _ hl (by rw [e5]; exact hM) hF hR hS
