/-! ===== Machine: an order, a step ===== -/
theorem mR_wr1 {g : Nat → Nat → Nat} {z : Nat → Nat} {a x : Nat} (hb : zBk z a < 8) (h1 : z (104 + zBk z a) = 1) (hx : x = if z 112 = 1 then 2 else 0) (h : mR g (fU (fU z (190 + zBk z a) (z (190 + zBk z a) + 1)) 115 x)) : mR g (zWr z a) := by
  have e1 : zWr1 z (zBk z a) (190 + zBk z a) = z (190 + zBk z a) := fU_n _ _ (by omega)
  have e2 : zWr2 z (zBk z a) 112 = z 112 := by
    unfold zWr2 zWr1
    rw [fU_n _ _ (by omega), fU_n _ _ (by omega)]
  unfold zWr
  rw [if_pos h1]
  unfold zWr3
  rw [e2, ← hx]
  unfold zWr2
  rw [e1]
  unfold zWr1
  rw [fU_c _ (i := 181) (j := 190 + zBk z a) _ _ (by omega), fU_c _ (i := 181) (j := 115) _ _ (by decide)]
  exact mR_180 h (Or.inr rfl)
theorem mR_wr0 {g : Nat → Nat → Nat} {z : Nat → Nat} {a : Nat} (hb : zBk z a < 8) (hat : zAt z a < 100) (h1 : z (104 + zBk z a) = 0) (h0 : z 115 = 0) (h : mR g (fU (fU (fU z (zAt z a) (z 113)) (182 + zBk z a) (fU z (zAt z a) (z 113) (182 + zBk z a) + 1)) 115 0)) : mR g (zWr z a) := by
  have e1 : zWs2 z (zBk z a) a (182 + zBk z a) = zWs1 z (zBk z a) a (182 + zBk z a) := fU_n _ _ (by omega)
  unfold zWr
  rw [if_neg (by omega)]
  unfold zWs3
  rw [e1]
  unfold zWs2
  rw [fU_c _ (i := 180) (j := 182 + zBk z a) _ _ (by omega)]
  refine mR_180 ?_ (Or.inl rfl)
  unfold zWs1
  have e9 : fU (fU (fU z (zAt z a) (z 113)) (182 + zBk z a) (fU z (zAt z a) (z 113) (182 + zBk z a) + 1)) 115 0 = fU (fU z (zAt z a) (z 113)) (182 + zBk z a) (fU z (zAt z a) (z 113) (182 + zBk z a) + 1) := by
    funext j
    by_cases e : j = 115
    · subst e
      rw [fU_s, fU_n _ _ (by omega), fU_n _ _ (by omega), h0]
    · rw [fU_n _ _ e]
  rw [e9] at h
  exact h
set_option maxRecDepth 100000 in
set_option maxHeartbeats 4000000 in
/-- X4_carryOut -/
theorem c_X4_carryOut (l : Launch) {X : gX} (hI : gInj X) {mem : gM} {k : Nat} (hk : k < 7) {g : Nat → Nat → Nat} {z : Nat → Nat} (hM : mR g z) (hz : zI z) {kind n w : Nat} (hkd : kind < 10) (hn : n < 100) (hw : w < 4) (hy : zWhy z kind n = 0) (h115 : z 115 = 0) : gMt l yX4_carryOut cX4_carryOut 4 none 3 68 X [.ref (gAd X k 0), .int (nI kind), .int (nI n), .int (nI w)] (fU mem k g) (mP mem k (zOrd z kind n w) none) := by
  refine gMt.of (own := RX4) (by decide) rfl hI (by simp [Value.category]) (Nat.le_of_ble_eq_true rfl) ?_
  intro p e s m args below meth c ls H locs C hnm hl hR hS
  obtain ⟨y1, y2, y3⟩ := zWhy_0 hy
  have h113 := hz.2.2.2.2.1
  have h114 := hz.2.2.2.2.2.1
  have h116 := hz.2.2.2.2.2.2.2.1
  rcases (show kind = 0 ∨ kind = 1 ∨ kind = 2 ∨ kind = 3 ∨ kind = 4 ∨ kind = 5 ∨ kind = 6 ∨ kind = 7 ∨ kind = 8 ∨ kind = 9 by omega) with rfl | rfl | rfl | rfl | rfl | rfl | rfl | rfl | rfl | rfl
  · -- 0
    refine g_iload_n C hl dX4_carryOut_0 rfl ?_
    refine lv_tableOut (tgt := 184) C.1 C.2.1 dX4_carryOut_1 (by decide) (by decide) ?_
    refine g_aload_n C hl dX4_carryOut_184 rfl ?_
    refine g_iconst 1 C dX4_carryOut_185 (by decide) ?_
    refine zpt_X4_5 C hk hM hR hS fl_X4_49 dX4_carryOut_186 (fun g hM H locs hR hS => ?_)
    refine g_vret C hR hS dX4_carryOut_189 ?_
    refine ⟨rfl, _, rfl, ?_⟩
    exact hM
  · -- 1
    refine g_iload_n C hl dX4_carryOut_0 rfl ?_
    refine lv_tableIn (tgt := 52) C.1 C.2.1 dX4_carryOut_1 (by decide) (by decide) rfl (by decide) ?_
    refine g_aload_n C hl dX4_carryOut_52 rfl ?_
    refine g_iload_n C hl dX4_carryOut_53 rfl ?_
    refine zpt_X4_3 C hk hM hR hS fl_X4_42 dX4_carryOut_54 (fun g hM H locs hR hS => ?_)
    refine g_goto (tgt := 189) C dX4_carryOut_57 (by decide) ?_
    refine g_vret C hR hS dX4_carryOut_189 ?_
    refine ⟨rfl, _, rfl, ?_⟩
    exact hM
  · -- 2
    refine g_iload_n C hl dX4_carryOut_0 rfl ?_
    refine lv_tableIn (tgt := 60) C.1 C.2.1 dX4_carryOut_1 (by decide) (by decide) rfl (by decide) ?_
    refine g_aload_n C hl dX4_carryOut_60 rfl ?_
    refine g_aload_n C hl dX4_carryOut_61 rfl ?_
    refine gt_X4_0 C hk hR fl_X4_12 dX4_carryOut_62 ?_
    refine g_iload_n C hl dX4_carryOut_65 rfl ?_
    refine g_callVi C hl.1 hR hS (rc_X0 hk) md_X0_numberAt ml_X4_64 (c_X0_numberAt l hI hk hM hz (by omega)) rfl rfl ⟨Nat.le_of_ble_eq_true rfl, Nat.le_of_ble_eq_true rfl⟩ ⟨Nat.le_refl _, Nat.le_refl _⟩ (Nat.le_of_ble_eq_true rfl) dX4_carryOut_66 (fun H locs hR hS => ?_)
    refine g_callKv C hl.1 hR hS (rc_X4 hk) md_X4_increase ml_X4_86 (c_X4_increase l hI hk hM h113 (hz.1 _ (hz.at (by omega)))) rfl rfl ⟨Nat.le_of_ble_eq_true rfl, Nat.le_of_ble_eq_true rfl⟩ ⟨Nat.le_refl _, Nat.le_refl _⟩ (Nat.le_of_ble_eq_true rfl) dX4_carryOut_69 (fun g hM H locs hR hS => ?_)
    refine g_goto (tgt := 189) C dX4_carryOut_72 (by decide) ?_
    refine g_vret C hR hS dX4_carryOut_189 ?_
    refine ⟨rfl, _, rfl, ?_⟩
    exact hM
  · -- 3
    refine g_iload_n C hl dX4_carryOut_0 rfl ?_
    refine lv_tableIn (tgt := 75) C.1 C.2.1 dX4_carryOut_1 (by decide) (by decide) rfl (by decide) ?_
    refine g_aload_n C hl dX4_carryOut_75 rfl ?_
    refine g_aload_n C hl dX4_carryOut_76 rfl ?_
    refine gt_X4_0 C hk hR fl_X4_12 dX4_carryOut_77 ?_
    refine g_iload_n C hl dX4_carryOut_80 rfl ?_
    refine g_aload_n C hl dX4_carryOut_81 rfl ?_
    refine zgt_X4_3 C hk hM hR fl_X4_42 dX4_carryOut_82 ?_
    by_cases h9 : z (104 + zBk z n) = 1
    · -- 85 p
      refine g_callKi C hl.1 hR hS (rc_X0 hk) md_X0_storeUnlessAlone ml_X4_90 (c_X0_store1 l hI hk hM hz (by omega) h9) rfl rfl ⟨Nat.le_of_ble_eq_true rfl, Nat.le_of_ble_eq_true rfl⟩ ⟨Nat.le_refl _, Nat.le_refl _⟩ (Nat.le_of_ble_eq_true rfl) dX4_carryOut_85 (fun g hM H locs hR hS => ?_)
      refine g_if_ne (tgt := 98) C dX4_carryOut_88 (by decide) (by omega) (fun z9 => absurd z9 (by omega)) (fun c88 => ?_)
      refine g_aload_n C hl dX4_carryOut_91 rfl ?_
      refine zgt_X4_6 C hk hM hR fl_X4_52 dX4_carryOut_92 ?_
      have e112 : fU z (190 + zBk z n) (z (190 + zBk z n) + 1) 112 = z 112 := fU_n _ _ (by have := hz.bk (a := n) (by omega); omega)
      refine g_if_ne (tgt := 102) C dX4_carryOut_95 (by decide) (by have := hz.2.2.2.1; rw [fU_n _ _ (by have := hz.bk (a := n) (by omega); omega)]; omega) (fun c95 => ?_) (fun c95 => ?_)
      · -- 95 T
        refine g_iconst 2 C dX4_carryOut_102 (by decide) ?_
        have u112 : z 112 = 1 := by
          have := hz.2.2.2.1
          rw [e112] at c95
          omega
        refine zpt_X4_5 C hk hM hR hS fl_X4_49 dX4_carryOut_103 (fun g hM H locs hR hS => ?_)
        refine g_goto (tgt := 189) C dX4_carryOut_106 (by decide) ?_
        refine g_vret C hR hS dX4_carryOut_189 ?_
        refine ⟨rfl, _, rfl, ?_⟩
        exact mR_wr1 (hz.bk (by omega)) h9 (by rw [if_pos u112]) hM
      · -- 95 F
        refine g_iconst 0 C dX4_carryOut_98 (by decide) ?_
        have u112 : ¬ z 112 = 1 := by
          rw [← e112]
          omega
        refine g_goto (tgt := 103) C dX4_carryOut_99 (by decide) ?_
        refine zpt_X4_5 C hk hM hR hS fl_X4_49 dX4_carryOut_103 (fun g hM H locs hR hS => ?_)
        refine g_goto (tgt := 189) C dX4_carryOut_106 (by decide) ?_
        refine g_vret C hR hS dX4_carryOut_189 ?_
        refine ⟨rfl, _, rfl, ?_⟩
        exact mR_wr1 (hz.bk (by omega)) h9 (by rw [if_neg u112]) hM
    · -- 85 q
      refine g_callKi C hl.1 hR hS (rc_X0 hk) md_X0_storeUnlessAlone ml_X4_90 (c_X0_store0 l hI hk hM hz (by omega) (by have := hz.2.2.1 _ (hz.bk (a := n) (by omega)); omega)) rfl rfl ⟨Nat.le_of_ble_eq_true rfl, Nat.le_of_ble_eq_true rfl⟩ ⟨Nat.le_refl _, Nat.le_refl _⟩ (Nat.le_of_ble_eq_true rfl) dX4_carryOut_85 (fun g hM H locs hR hS => ?_)
      refine g_if_ne (tgt := 98) C dX4_carryOut_88 (by decide) (by omega) (fun c88 => ?_) (fun z9 => absurd z9 (by omega))
      refine g_iconst 0 C dX4_carryOut_98 (by decide) ?_
      refine g_goto (tgt := 103) C dX4_carryOut_99 (by decide) ?_
      refine zpt_X4_5 C hk hM hR hS fl_X4_49 dX4_carryOut_103 (fun g hM H locs hR hS => ?_)
      refine g_goto (tgt := 189) C dX4_carryOut_106 (by decide) ?_
      refine g_vret C hR hS dX4_carryOut_189 ?_
      refine ⟨rfl, _, rfl, ?_⟩
      exact mR_wr0 (hz.bk (by omega)) (hz.at (by omega)) (by have := hz.2.2.1 _ (hz.bk (a := n) (by omega)); omega) h115 hM
  · -- 4
    refine g_iload_n C hl dX4_carryOut_0 rfl ?_
    refine lv_tableIn (tgt := 109) C.1 C.2.1 dX4_carryOut_1 (by decide) (by decide) rfl (by decide) ?_
    refine g_aload_n C hl dX4_carryOut_109 rfl ?_
    refine g_iload_n C hl dX4_carryOut_110 rfl ?_
    refine zpt_X4_4 C hk hM hR hS fl_X4_46 dX4_carryOut_111 (fun g hM H locs hR hS => ?_)
    refine g_goto (tgt := 189) C dX4_carryOut_114 (by decide) ?_
    refine g_vret C hR hS dX4_carryOut_189 ?_
    refine ⟨rfl, _, rfl, ?_⟩
    exact hM
  · -- 5
    refine g_iload_n C hl dX4_carryOut_0 rfl ?_
    refine lv_tableIn (tgt := 117) C.1 C.2.1 dX4_carryOut_1 (by decide) (by decide) rfl (by decide) ?_
    refine g_aload_n C hl dX4_carryOut_117 rfl ?_
    refine g_aload_n C hl dX4_carryOut_118 rfl ?_
    refine zgt_X4_3 C hk hM hR fl_X4_42 dX4_carryOut_119 ?_
    refine g_if_ne (tgt := 129) C dX4_carryOut_122 (by decide) (by omega) (fun c122 => ?_) (fun c122 => ?_)
    · -- 122 T
      refine g_aload_n C hl dX4_carryOut_129 rfl ?_
      refine zgt_X4_4 C hk hM hR fl_X4_46 dX4_carryOut_130 ?_
      refine zpt_X4_4 C hk hM hR hS fl_X4_46 dX4_carryOut_133 (fun g hM H locs hR hS => ?_)
      refine g_goto (tgt := 189) C dX4_carryOut_136 (by decide) ?_
      refine g_vret C hR hS dX4_carryOut_189 ?_
      refine ⟨rfl, _, rfl, ?_⟩
      show mR g (fU z 114 (if z 113 = 0 then n else z 114))
      rw [if_neg (by omega)]
      exact hM
    · -- 122 F
      refine g_iload_n C hl dX4_carryOut_125 rfl ?_
      refine g_goto (tgt := 133) C dX4_carryOut_126 (by decide) ?_
      refine zpt_X4_4 C hk hM hR hS fl_X4_46 dX4_carryOut_133 (fun g hM H locs hR hS => ?_)
      refine g_goto (tgt := 189) C dX4_carryOut_136 (by decide) ?_
      refine g_vret C hR hS dX4_carryOut_189 ?_
      refine ⟨rfl, _, rfl, ?_⟩
      show mR g (fU z 114 (if z 113 = 0 then n else z 114))
      rw [if_pos (by omega)]
      exact hM
  · -- 6
    refine g_iload_n C hl dX4_carryOut_0 rfl ?_
    refine lv_tableIn (tgt := 139) C.1 C.2.1 dX4_carryOut_1 (by decide) (by decide) rfl (by decide) ?_
    refine g_aload_n C hl dX4_carryOut_139 rfl ?_
    refine gt_X4_0 C hk hR fl_X4_12 dX4_carryOut_140 ?_
    refine gn_X0_2 C hk hR fn_X4_93 dX4_carryOut_143 ?_
    refine g_iload_n C hl dX4_carryOut_146 rfl ?_
    refine g_bipush 10 C dX4_carryOut_147 (by decide) ?_
    refine g_idiv C dX4_carryOut_149 (by omega) (by decide) (by decide) ?_
    refine g_iload_n C hl dX4_carryOut_150 rfl ?_
    refine g_bipush 10 C dX4_carryOut_151 (by decide) ?_
    refine g_irem C dX4_carryOut_153 (by omega) (by decide) (by decide) ?_
    refine g_callKv C hl.1 hR hS (rc_X5 (gRow_6 hk)) md_X5_write ml_X4_97 (c_zw l hI hM (gRow_6 hk) mB_7 (by omega)) rfl rfl ⟨Nat.le_of_ble_eq_true rfl, Nat.le_of_ble_eq_true rfl⟩ ⟨Nat.le_refl _, Nat.le_refl _⟩ (Nat.le_of_ble_eq_true rfl) dX4_carryOut_154 (fun g hM H locs hR hS => ?_)
    refine g_goto (tgt := 189) C dX4_carryOut_157 (by decide) ?_
    refine g_vret C hR hS dX4_carryOut_189 ?_
    refine ⟨rfl, _, rfl, ?_⟩
    exact hM
  · -- 7
    refine g_iload_n C hl dX4_carryOut_0 rfl ?_
    refine lv_tableIn (tgt := 160) C.1 C.2.1 dX4_carryOut_1 (by decide) (by decide) rfl (by decide) ?_
    refine g_aload_n C hl dX4_carryOut_160 rfl ?_
    refine g_iload_n C hl dX4_carryOut_161 rfl ?_
    refine g_iload_n C hl dX4_carryOut_162 rfl ?_
    refine g_callKv C hl.1 hR hS (rc_X4 hk) md_X4_callFrom ml_X4_103 (c_X4_callFrom l hI hk hM (by omega) hw hn) rfl rfl ⟨Nat.le_of_ble_eq_true rfl, Nat.le_of_ble_eq_true rfl⟩ ⟨Nat.le_refl _, Nat.le_refl _⟩ (Nat.le_of_ble_eq_true rfl) dX4_carryOut_163 (fun g hM H locs hR hS => ?_)
    refine g_goto (tgt := 189) C dX4_carryOut_166 (by decide) ?_
    refine g_vret C hR hS dX4_carryOut_189 ?_
    refine ⟨rfl, _, rfl, ?_⟩
    exact hM
  · -- 8
    refine g_iload_n C hl dX4_carryOut_0 rfl ?_
    refine lv_tableIn (tgt := 169) C.1 C.2.1 dX4_carryOut_1 (by decide) (by decide) rfl (by decide) ?_
    refine g_aload_n C hl dX4_carryOut_169 rfl ?_
    refine g_callKv C hl.1 hR hS (rc_X4 hk) md_X4_comeBack ml_X4_106 (c_X4_comeBack l hI hk hM hz (by omega)) rfl rfl ⟨Nat.le_of_ble_eq_true rfl, Nat.le_of_ble_eq_true rfl⟩ ⟨Nat.le_refl _, Nat.le_refl _⟩ (Nat.le_of_ble_eq_true rfl) dX4_carryOut_170 (fun g hM H locs hR hS => ?_)
    refine g_goto (tgt := 189) C dX4_carryOut_173 (by decide) ?_
    refine g_vret C hR hS dX4_carryOut_189 ?_
    refine ⟨rfl, _, rfl, ?_⟩
    exact hM
  · -- 9
    refine g_iload_n C hl dX4_carryOut_0 rfl ?_
    refine lv_tableIn (tgt := 176) C.1 C.2.1 dX4_carryOut_1 (by decide) (by decide) rfl (by decide) ?_
    refine g_aload_n C hl dX4_carryOut_176 rfl ?_
    refine g_iload_n C hl dX4_carryOut_177 rfl ?_
    refine g_callKv C hl.1 hR hS (rc_X4 hk) md_X4_increase ml_X4_86 (c_X4_increase l hI hk hM h113 (by omega)) rfl rfl ⟨Nat.le_of_ble_eq_true rfl, Nat.le_of_ble_eq_true rfl⟩ ⟨Nat.le_refl _, Nat.le_refl _⟩ (Nat.le_of_ble_eq_true rfl) dX4_carryOut_178 (fun g hM H locs hR hS => ?_)
    refine g_goto (tgt := 189) C dX4_carryOut_181 (by decide) ?_
    refine g_vret C hR hS dX4_carryOut_189 ?_
    refine ⟨rfl, _, rfl, ?_⟩
    exact hM
theorem zSt1_eq {z : Nat → Nat} (had : z 114 < 64) (h12 : z 141 ≤ 12) : zSt2 z = fU (zKq z (z 114) (zBk z (z 114)) (z (zAt z (z 114)))) 178 (z 178 + 1) := by
  have e0 : zKp0 z 141 ≤ 12 := by
    unfold zKp0
    by_cases c : z 141 < 12
    · rw [if_pos c, fU_s]; omega
    · rw [if_neg c]; omega
  have e1 : zKq z (z 114) (zBk z (z 114)) (z (zAt z (z 114))) 178 = z 178 := by
    unfold zKq
    rw [fU_n _ _ (by omega), fU_n _ _ (by omega), fU_n _ _ (by omega)]
    unfold zSh
    rw [if_neg (by omega), zKp0_hi (by omega)]
  unfold zSt2 zSt1
  rw [zKq_eq _ _ had, e1]
set_option maxRecDepth 100000 in
set_option maxHeartbeats 4000000 in
/-- step -/
theorem c_X4_step (l : Launch) {X : gX} (hI : gInj X) {mem : gM} {k : Nat} (hk : k < 7) {g : Nat → Nat → Nat} {z : Nat → Nat} (hM : mR g z) (hz : zI z) (had : z 114 < 64) (h31 : z 178 < 2 ^ 31) : gMt l yX4_step cX4_step 5 none 4 91 X [.ref (gAd X k 0)] (fU mem k g) (mP mem k (zStep z) none) := by
  refine gMt.of (own := RX4) (by decide) rfl hI (by simp [Value.category]) (Nat.le_of_ble_eq_true rfl) ?_
  intro p e s m args below meth c ls H locs C hnm hl hR hS
  have hord := hz.1 _ (hz.at had)
  have h2 := zI_st2 hz
  have h3 := zI_st3 hz had
  have h4 := zI_st4 hz had
  have h5 := zI_st5 hz had
  have e114 : zSt2 z 114 = z 114 := zSt2_lo (by decide)
  refine g_aload_n C hl dX4_step_0 rfl ?_
  refine zgt_X4_4 C hk hM hR fl_X4_46 dX4_step_1 ?_
  refine g_istore_n C hl dX4_step_4 (Nat.le_of_ble_eq_true rfl) (fun ls hl => ?_)
  refine g_aload_n C hl dX4_step_5 rfl ?_
  refine gt_X4_0 C hk hR fl_X4_12 dX4_step_6 ?_
  refine g_iload_n C hl dX4_step_9 rfl ?_
  refine g_callVi C hl.1 hR hS (rc_X0 hk) md_X0_numberAt ml_X4_64 (c_X0_numberAt l hI hk hM hz had) rfl rfl ⟨Nat.le_of_ble_eq_true rfl, Nat.le_of_ble_eq_true rfl⟩ ⟨Nat.le_refl _, Nat.le_refl _⟩ (Nat.le_of_ble_eq_true rfl) dX4_step_10 (fun H locs hR hS => ?_)
  refine g_istore_n C hl dX4_step_13 (Nat.le_of_ble_eq_true rfl) (fun ls hl => ?_)
  refine g_iload_n C hl dX4_step_14 rfl ?_
  refine g_bipush 100 C dX4_step_15 (by decide) ?_
  refine g_idiv C dX4_step_17 (by omega) (by decide) (by decide) ?_
  refine g_istore_n C hl dX4_step_18 (Nat.le_of_ble_eq_true rfl) (fun ls hl => ?_)
  refine g_iload_n C hl dX4_step_19 rfl ?_
  refine g_bipush 100 C dX4_step_20 (by decide) ?_
  refine g_irem C dX4_step_22 (by omega) (by decide) (by decide) ?_
  refine g_istore C hl dX4_step_23 (Nat.le_of_ble_eq_true rfl) (fun ls hl => ?_)
  refine g_aload_n C hl dX4_step_25 rfl ?_
  refine gt_X4_2 C hk hR fl_X4_28 dX4_step_26 ?_
  refine g_iload_n C hl dX4_step_29 rfl ?_
  refine g_aload_n C hl dX4_step_30 rfl ?_
  refine gt_X4_0 C hk hR fl_X4_12 dX4_step_31 ?_
  refine g_iload_n C hl dX4_step_34 rfl ?_
  refine g_callVi C hl.1 hR hS (rc_X0 hk) md_X0_bankAt ml_X4_68 (c_X0_bankAt l hI hk hM had) rfl rfl ⟨Nat.le_of_ble_eq_true rfl, Nat.le_of_ble_eq_true rfl⟩ ⟨Nat.le_refl _, Nat.le_refl _⟩ (Nat.le_of_ble_eq_true rfl) dX4_step_35 (fun H locs hR hS => ?_)
  refine g_iload_n C hl dX4_step_38 rfl ?_
  refine g_callKv C hl.1 hR hS (rc_X7 hk) md_X7_add ml_X4_71 (c_X7_add l hI hk hM h31) rfl rfl ⟨Nat.le_of_ble_eq_true rfl, Nat.le_of_ble_eq_true rfl⟩ ⟨Nat.le_refl _, Nat.le_refl _⟩ (Nat.le_of_ble_eq_true rfl) dX4_step_39 (fun g hM H locs hR hS => ?_)
  rw [← zSt1_eq had hz.2.2.2.2.2.2.2.2.2] at hM
  refine g_aload_n C hl dX4_step_42 rfl ?_
  refine g_iload_n C hl dX4_step_43 rfl ?_
  refine g_iconst 1 C dX4_step_44 (by decide) ?_
  refine g_iadd C dX4_step_45 ?_
  refine zpt_X4_4 C hk hM hR hS fl_X4_46 dX4_step_46 (fun g hM H locs hR hS => ?_)
  rw [← e114] at hM
  have hM : mR g (zSt3 z) := hM
  refine g_aload_n C hl dX4_step_49 rfl ?_
  refine g_aload_n C hl dX4_step_50 rfl ?_
  refine g_iload_n C hl dX4_step_51 rfl ?_
  refine g_iload C hl dX4_step_52 rfl ?_
  refine g_callVi C hl.1 hR hS (rc_X4 hk) md_X4_hindranceOf ml_X4_75 (c_X4_hindranceOf l hI hk hM h3.2.2.2.2.2.2.2.1 (by omega) (by omega)) rfl rfl ⟨Nat.le_of_ble_eq_true rfl, Nat.le_of_ble_eq_true rfl⟩ ⟨Nat.le_refl _, Nat.le_refl _⟩ (Nat.le_of_ble_eq_true rfl) dX4_step_54 (fun H locs hR hS => ?_)
  refine zpt_X4_5 C hk hM hR hS fl_X4_49 dX4_step_57 (fun g hM H locs hR hS => ?_)
  have hM : mR g (zSt4 z) := hM
  refine g_aload_n C hl dX4_step_60 rfl ?_
  refine zgt_X4_5 C hk hM hR fl_X4_49 dX4_step_61 ?_
  refine g_if_ne (tgt := 78) C dX4_step_64 (by decide) (by have := h4.2.2.2.2.2.2.1; omega) (fun c64 => ?_) (fun c64 => ?_)
  · -- 64 T
    refine g_aload_n C hl dX4_step_78 rfl ?_
    refine zgt_X4_5 C hk hM hR fl_X4_49 dX4_step_79 ?_
    refine g_if_ne (tgt := 100) C dX4_step_82 (by decide) (by have := h5.2.2.2.2.2.2.1; have := h4.2.2.2.2.2.2.1; omega) (fun c82 => ?_) (fun z9 => absurd z9 (by omega))
    refine g_vret C hR hS dX4_step_100 ?_
    refine ⟨rfl, _, rfl, ?_⟩
    have e5 : zSt5 z = zSt4 z := if_neg c64
    have e6 : zStep z = zSt5 z := if_neg (by rw [e5]; omega)
    rw [e6, e5]
    exact hM
  · -- 64 F
    refine g_aload_n C hl dX4_step_67 rfl ?_
    refine g_iload_n C hl dX4_step_68 rfl ?_
    refine g_iload C hl dX4_step_69 rfl ?_
    refine g_iload_n C hl dX4_step_71 rfl ?_
    refine g_bipush 16 C dX4_step_72 (by decide) ?_
    refine g_idiv C dX4_step_74 (by omega) (by decide) (by decide) ?_
    refine g_callKv C hl.1 hR hS (rc_X4 hk) md_X4_carryOut ml_X4_79 (c_X4_carryOut l hI hk hM h4 (by omega) (by omega) (by omega) (zSt4_why c64) c64) rfl rfl ⟨Nat.le_of_ble_eq_true rfl, Nat.le_of_ble_eq_true rfl⟩ ⟨Nat.le_refl _, Nat.le_refl _⟩ (Nat.le_of_ble_eq_true rfl) dX4_step_75 (fun g hM H locs hR hS => ?_)
    have e5 : zOrd (zSt4 z) (z (zAt z (z 114)) / 100) (z (zAt z (z 114)) % 100) (z 114 / 16) = zSt5 z := (if_pos c64).symm
    rw [e5] at hM
    refine g_aload_n C hl dX4_step_78 rfl ?_
    refine zgt_X4_5 C hk hM hR fl_X4_49 dX4_step_79 ?_
    refine g_if_ne (tgt := 100) C dX4_step_82 (by decide) (by have := h5.2.2.2.2.2.2.1; have := h4.2.2.2.2.2.2.1; omega) (fun c82 => ?_) (fun c82 => ?_)
    · -- 82 T
      refine g_vret C hR hS dX4_step_100 ?_
      refine ⟨rfl, _, rfl, ?_⟩
      have e6 : zStep z = zSt5 z := if_neg (by omega)
      rw [e6]
      exact hM
    · -- 82 F
      refine g_aload_n C hl dX4_step_85 rfl ?_
      refine zgt_X4_4 C hk hM hR fl_X4_46 dX4_step_86 ?_
      refine g_bipush 64 C dX4_step_89 (by decide) ?_
      refine g_icmp_ne (tgt := 100) C dX4_step_91 (by decide) (by have := h5.2.2.2.2.2.1; omega) (by have := h5.2.2.2.2.2.1; omega) (fun c91 => ?_) (fun c91 => ?_)
      · -- 91 T
        refine g_vret C hR hS dX4_step_100 ?_
        refine ⟨rfl, _, rfl, ?_⟩
        have e6 : zStep z = zSt5 z := if_neg (by omega)
        rw [e6]
        exact hM
      · -- 91 F
        refine g_aload_n C hl dX4_step_94 rfl ?_
        refine g_bipush 6 C dX4_step_95 (by decide) ?_
        refine zpt_X4_5 C hk hM hR hS fl_X4_49 dX4_step_97 (fun g hM H locs hR hS => ?_)
        refine g_vret C hR hS dX4_step_100 ?_
        refine ⟨rfl, _, rfl, ?_⟩
        have e6 : zStep z = fU (zSt5 z) 115 6 := if_pos ⟨by omega, by omega⟩
        rw [e6]
        exact hM
theorem zKp_178 {z : Nat → Nat} {a n : Nat} (h12 : z 141 ≤ 12) : zKp z a n 178 = z 178 := by
  have e0 : zKp0 z 141 ≤ 12 := by
    unfold zKp0
    by_cases c : z 141 < 12
    · rw [if_pos c, fU_s]; omega
    · rw [if_neg c]; omega
  unfold zKp zKp2 zKp1
  rw [fU_n _ _ (by omega), fU_n _ _ (by omega), fU_n _ _ (by omega)]
  unfold zSh
  rw [if_neg (by omega), zKp0_hi (by omega)]
theorem zWr_178 {z : Nat → Nat} {a : Nat} (hb : zBk z a < 8) (hat : zAt z a < 100) : zWr z a 178 = z 178 := by
  unfold zWr
  by_cases c : z (104 + zBk z a) = 1
  · rw [if_pos c]
    unfold zWr3 zWr2 zWr1
    rw [fU_n _ _ (by omega), fU_n _ _ (by omega), fU_n _ _ (by omega)]
  · rw [if_neg c]
    unfold zWs3 zWs2 zWs1
    rw [fU_n _ _ (by omega), fU_n _ _ (by omega), fU_n _ _ (by omega)]
theorem zOrd_178 {z : Nat → Nat} {kind n w : Nat} (hz : zI z) (hk : kind < 10) (hn : n < 100) (hw : w < 4) (hy : zWhy z kind n = 0) : zOrd z kind n w 178 = z 178 := by
  have h116 := hz.2.2.2.2.2.2.2.1
  obtain ⟨y1, y2, y3⟩ := zWhy_0 hy
  match kind, hk with
  | 0, _ => exact fU_n _ _ (by omega)
  | 1, _ => exact fU_n _ _ (by omega)
  | 2, _ => exact fU_n _ _ (by omega)
  | 3, _ => exact zWr_178 (hz.bk (by omega)) (hz.at (by omega))
  | 4, _ => exact fU_n _ _ (by omega)
  | 5, _ => exact fU_n _ _ (by omega)
  | 6, _ => exact fU_n _ _ (by omega)
  | 7, _ =>
    show zCl z w n 178 = z 178
    rw [zCl_eq hw (by omega)]
    rw [fU_n _ _ (by omega), fU_n _ _ (by omega), fU_n _ _ (by omega), fU_n _ _ (by omega), fU_n _ _ (by omega), fU_n _ _ (by omega), fU_n _ _ (by omega)]
  | 8, _ =>
    obtain ⟨q1, q2, q3⟩ := hz.2.2.2.2.2.2.2.2.1 (z 116 - 1) (by omega)
    show zBc z 178 = z 178
    rw [zBc_eq (by omega) h116 q1]
    rw [fU_n _ _ (by omega), fU_n _ _ (by omega), fU_n _ _ (by omega)]
  | 9, _ => exact fU_n _ _ (by omega)
  | k + 10, h => exact absurd h (by omega)
theorem zStep_178 {z : Nat → Nat} (hz : zI z) (had : z 114 < 64) : zStep z 178 = z 178 + 1 := by
  have hord := hz.1 _ (hz.at had)
  have e2 : zSt2 z 178 = z 178 + 1 := by
    unfold zSt2
    rw [fU_s]
    unfold zSt1
    rw [zKp_178 hz.2.2.2.2.2.2.2.2.2]
  have e4 : zSt4 z 178 = z 178 + 1 := by
    unfold zSt4 zSt3
    rw [fU_n _ _ (by omega), fU_n _ _ (by omega), e2]
  have e5 : zSt5 z 178 = z 178 + 1 := by
    unfold zSt5
    by_cases c : zSt4 z 115 = 0
    · rw [if_pos c, zOrd_178 (zI_st4 hz had) (by omega) (by omega) (by omega) (zSt4_why c), e4]
    · rw [if_neg c, e4]
  unfold zStep
  by_cases c : zSt5 z 115 = 0 ∧ zSt5 z 114 = 64
  · rw [if_pos c, fU_n _ _ (by omega), e5]
  · rw [if_neg c, e5]
theorem zRun_178 {z : Nat → Nat} (hz : zI z) (hg : zG z) : ∀ n, zRun z n 178 ≤ z 178 + n
  | 0 => Nat.le_refl _
  | n + 1 => by
    have ih := zRun_178 hz hg n
    obtain ⟨h1, h2⟩ := zRun_I hz hg n
    show (if zRun z n 115 = 0 then zStep (zRun z n) else zRun z n) 178 ≤ _
    by_cases c : zRun z n 115 = 0
    · rw [if_pos c, zStep_178 h1 (h2 c)]
      omega
    · rw [if_neg c]
      omega
set_option maxRecDepth 100000 in
set_option maxHeartbeats 4000000 in
/-- X4_takeSteps -/
theorem c_X4_takeSteps (l : Launch) {X : gX} (hI : gInj X) {mem : gM} {k : Nat} (hk : k < 7) {g : Nat → Nat → Nat} {z : Nat → Nat} (hM : mR g z) (hz : zI z) (hg : zG z) (hB : z 178 ≤ 999999) {n : Nat} (hn : n < 2000) : gMt l yX4_takeSteps cX4_takeSteps 3 (some .int) 5 115 X [.ref (gAd X k 0), .int (nI n)] (fU mem k g) (mP mem k (zRun z n) (some (.int (nI (zTk z n))))) := by
  refine gMt.of (own := RX4) (by decide) rfl hI (by simp [Value.category]) (Nat.le_of_ble_eq_true rfl) ?_
  intro p e s m args below meth c ls H locs C hnm hl hR hS
  have loop : ∀ (d i : Nat), i + d = n → zTk z i = i → ∀ (ls : Array Slot) (H : Heap) (locs : List Loc) (g : Nat → Nat → Nat) (hM : mR g (zRun z i)), gL ls [some (.ref (gAd X k 0)), some (.int (nI n)), some (.int (nI i))] → gRep X (fU mem k g) H → va_S (gA X) s.heap H locs → W p l e { frames := 5, cells := 0, slots := 0, locals := 115 } s m args below meth c H locs 0 0 (MQ below (gQ X (mP mem k (zRun z n) (some (.int (nI (zTk z n)))))) args s 0 0 (gA X)) (F0 m 2 ls []) := by
    intro d
    induction d with
    | zero =>
      intro i hi ht ls H locs g hM hl hR hS
      have hi2 : i = n := by omega
      subst hi2
      refine g_iload_n C hl dX4_takeSteps_2 rfl ?_
      refine g_iload_n C hl dX4_takeSteps_3 rfl ?_
      refine g_icmp_ge (tgt := 24) C dX4_takeSteps_4 (by decide) (by omega) (by omega) (fun c4 => ?_) (fun z9 => absurd z9 (by omega))
      refine g_iload_n C hl dX4_takeSteps_24 rfl ?_
      refine g_iret C hR hS dX4_takeSteps_25 ?_
      rw [ht]
      exact ⟨rfl, _, rfl, hM⟩
    | succ d ih =>
      intro i hi ht ls H locs g hM hl hR hS
      refine g_iload_n C hl dX4_takeSteps_2 rfl ?_
      refine g_iload_n C hl dX4_takeSteps_3 rfl ?_
      refine g_icmp_ge (tgt := 24) C dX4_takeSteps_4 (by decide) (by omega) (by omega) (fun z9 => absurd z9 (by omega)) (fun c4 => ?_)
      refine g_aload_n C hl dX4_takeSteps_7 rfl ?_
      refine zgt_X4_5 C hk hM hR fl_X4_49 dX4_takeSteps_8 ?_
      refine g_if_ne (tgt := 24) C dX4_takeSteps_11 (by decide) (by have := (zRun_I hz hg i).1.2.2.2.2.2.2.1; omega) (fun c11 => ?_) (fun c11 => ?_)
      · -- 11 T
        refine g_iload_n C hl dX4_takeSteps_24 rfl ?_
        refine g_iret C hR hS dX4_takeSteps_25 ?_
        obtain ⟨e1, e2⟩ := zRun_stop c11 (n - i)
        rw [show i + (n - i) = n by omega] at e1 e2
        rw [e1, e2, ht]
        exact ⟨rfl, _, rfl, hM⟩
      · -- 11 F
        refine g_aload_n C hl dX4_takeSteps_14 rfl ?_
        refine g_callKv C hl.1 hR hS (rc_X4 hk) md_X4_step ml_X4_61 (c_X4_step l hI hk hM (zRun_I hz hg i).1 ((zRun_I hz hg i).2 c11) (by have := zRun_178 hz hg i; omega)) rfl rfl ⟨Nat.le_of_ble_eq_true rfl, Nat.le_of_ble_eq_true rfl⟩ ⟨Nat.le_refl _, Nat.le_refl _⟩ (Nat.le_of_ble_eq_true rfl) dX4_takeSteps_15 (fun g hM H locs hR hS => ?_)
        refine g_iinc (k := 1) C hl dX4_takeSteps_18 rfl (by decide) (fun ls hl => ?_)
        refine g_goto (tgt := 2) C dX4_takeSteps_21 (by decide) ?_
        have e1 : zRun z (i + 1) = zStep (zRun z i) := if_pos c11
        have e2 : zTk z (i + 1) = i + 1 := if_pos c11
        rw [← e1] at hM
        refine ih (i + 1) (by omega) e2  ls H locs g hM hl ?_ hS
        exact hR
  refine g_iconst 0 C dX4_takeSteps_0 (by decide) ?_
  refine g_istore_n C hl dX4_takeSteps_1 (Nat.le_of_ble_eq_true rfl) (fun ls hl => ?_)
  exact loop n 0 (by omega) rfl _ _ _ g hM hl hR hS
