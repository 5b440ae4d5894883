/-! ===== the law's loop ===== -/
theorem i2c_ex (v : Int32) : ∃ ch : Nat, ch < 65536 ∧ (v.toUInt32 % 65536).toInt32 = nI ch := by
  exact ⟨_, Nat.mod_lt _ (by decide), pk_char v⟩
theorem lw_gt {L i : Nat} (h : L < i + 4) (hL : L ≤ 2048) (hi : i < 2 ^ 30) : nI L - nI 4 < nI i := by
  by_cases h4 : 4 ≤ L
  · rw [pk_sub h4]
    exact (nI_ltI (by omega) (by omega)).mpr (by omega)
  · have key : ∀ q, q < 4 → nI q - nI 4 < 0 := by decide
    have h0 := key L (by omega)
    rw [Int32.lt_iff_toInt_lt] at h0 ⊢
    rw [nI_toInt (by omega)]
    have e0 : (0 : Int32).toInt = 0 := rfl
    omega
theorem lw_ngt {L i : Nat} (h : i + 4 ≤ L) (hL : L ≤ 2048) : ¬ nI L - nI 4 < nI i := by
  rw [pk_sub (by omega)]
  intro z
  have := (nI_ltI (by omega) (by omega)).mp z
  omega
set_option maxRecDepth 100000 in
set_option maxHeartbeats 4000000 in
theorem law_loop (l : Launch) {X : gX} (hI : gInj X) {p : Program} {e : Env} {s : State} {m : MethodId} {args : Array Value} {below : List Frame} {meth : Method} {c : Code} {cells slots b L : Nat} {Q : State → Prop} {rt : Option FieldType} {xs : Nat → Int32} (C : gC X RL cL_law rt 4 p s m args meth c) (hcs : cells ≤ room_1.cells ∧ slots ≤ room_1.slots) (hX : va_X b L xs s s.heap) (hbl : b < s.heap.size) (hbA : ¬ gA X b) (hL : L ≤ 2048) (hend : ∀ (ls : Array Slot) (H : Heap) (locs : List Loc), va_S (gA X) s.heap H locs → W p l e room_1 s m args below meth c H locs cells slots Q (F0 m 764 ls [.int (nI 1)])) : ∀ (d i : Nat), L + 4 ≤ i + d → i ≤ L → ∀ (S : aS) (mem : gM), lR S mem → ∀ (ls : Array Slot) (H : Heap) (locs : List Loc), gL ls [some (.ref b), some (.ref (gAd X 7 0)), some (.ref (gAd X 8 0)), some (.int (nI i))] → gRep X mem H → va_S (gA X) s.heap H locs → W p l e room_1 s m args below meth c H locs cells slots Q (F0 m 18 ls []) := by
  intro d
  induction d with
  | zero =>
    intro i hi hiL0 S mem hJ ls H locs hl hR hS
    refine g_iload_n C hl dL_law_18 rfl ?_
    refine g_aload_n C hl dL_law_19 rfl ?_
    refine va_slen C.1 C.2.1 hX hbl hbA hS dL_law_20 ?_
    show W p l e room_1 s m args below meth c H locs cells slots Q (F0 m 21 ls [.int (nI L), .int (nI i)])
    refine g_iconst 4 C dL_law_21 (by decide) ?_
    refine lv_isub C.1 C.2.1 dL_law_22 ?_
    refine lv_icmp_gt (tgt := 763) C.1 C.2.1 dL_law_23 (by decide) (fun _ => ?_) (fun z9 => absurd (lw_gt (by omega) (by omega) (by omega)) z9)
    refine g_iconst 1 C dL_law_763 (by decide) ?_
    exact hend _ _ _ hS
  | succ d ih =>
    intro i hi hiL0 S mem hJ ls H locs hl hR hS
    refine g_iload_n C hl dL_law_18 rfl ?_
    refine g_aload_n C hl dL_law_19 rfl ?_
    refine va_slen C.1 C.2.1 hX hbl hbA hS dL_law_20 ?_
    show W p l e room_1 s m args below meth c H locs cells slots Q (F0 m 21 ls [.int (nI L), .int (nI i)])
    refine g_iconst 4 C dL_law_21 (by decide) ?_
    refine lv_isub C.1 C.2.1 dL_law_22 ?_
    by_cases hiL : L < i + 4
    · refine lv_icmp_gt (tgt := 763) C.1 C.2.1 dL_law_23 (by decide) (fun _ => ?_) (fun z9 => absurd (lw_gt hiL (by omega) (by omega)) z9)
      refine g_iconst 1 C dL_law_763 (by decide) ?_
      exact hend _ _ _ hS
    refine lv_icmp_gt (tgt := 763) C.1 C.2.1 dL_law_23 (by decide) (fun z9 => absurd z9 (lw_ngt (by omega) (by omega))) (fun _ => ?_)
    refine g_aload_n C hl dL_law_26 rfl ?_
    refine g_iload_n C hl dL_law_27 rfl ?_
    refine va_sld C.1 C.2.1 hX hbl hbA hS (vp_in_nI (by omega) (by omega)) dL_law_28 ?_
    rw [nI_clamp (by omega)]
    refine g_bipush 31 C dL_law_29 (by decide) ?_
    refine lv_iand C.1 C.2.1 dL_law_31 ?_
    obtain ⟨k9, hk9, ek⟩ := pk_andE (xs i) (m := nI 31) 5 (by decide)
    rw [ek]
    by_cases h22 : k9 < 23
    · rcases (show k9 = 0 ∨ k9 = 1 ∨ k9 = 2 ∨ k9 = 3 ∨ k9 = 4 ∨ k9 = 5 ∨ k9 = 6 ∨ k9 = 7 ∨ k9 = 8 ∨ k9 = 9 ∨ k9 = 10 ∨ k9 = 11 ∨ k9 = 12 ∨ k9 = 13 ∨ k9 = 14 ∨ k9 = 15 ∨ k9 = 16 ∨ k9 = 17 ∨ k9 = 18 ∨ k9 = 19 ∨ k9 = 20 ∨ k9 = 21 ∨ k9 = 22 by omega) with rfl | rfl | rfl | rfl | rfl | rfl | rfl | rfl | rfl | rfl | rfl | rfl | rfl | rfl | rfl | rfl | rfl | rfl | rfl | rfl | rfl | rfl | rfl
      · -- case 0
        refine lv_tableIn (tgt := 140) C.1 C.2.1 dL_law_32 (by decide) (by decide) rfl (by decide) ?_
        refine g_aload_n C hl dL_law_140 rfl ?_
        refine g_aload_n C hl dL_law_141 rfl ?_
        refine g_iload_n C hl dL_law_142 rfl ?_
        refine g_iconst 1 C dL_law_143 (by decide) ?_
        refine g_iadd C dL_law_144 ?_
        refine va_sld C.1 C.2.1 hX hbl hbA hS (vp_in_nI (by omega) (by omega)) dL_law_145 ?_
        rw [nI_clamp (by omega)]
        refine g_aload_n C hl dL_law_146 rfl ?_
        refine g_iload_n C hl dL_law_147 rfl ?_
        refine g_iconst 2 C dL_law_148 (by decide) ?_
        refine g_iadd C dL_law_149 ?_
        refine va_sld C.1 C.2.1 hX hbl hbA hS (vp_in_nI (by omega) (by omega)) dL_law_150 ?_
        rw [nI_clamp (by omega)]
        refine g_aload_n C hl dL_law_151 rfl ?_
        refine g_iload_n C hl dL_law_152 rfl ?_
        refine g_iconst 3 C dL_law_153 (by decide) ?_
        refine g_iadd C dL_law_154 ?_
        refine va_sld C.1 C.2.1 hX hbl hbA hS (vp_in_nI (by omega) (by omega)) dL_law_155 ?_
        rw [nI_clamp (by omega)]
        refine g_callV C hl.1 hR hS rc_X8 md_X8_put ml_L_13 (c_X8_put l hI hJ.1 hJ.2.1) rfl rfl ⟨Nat.le_of_ble_eq_true rfl, Nat.le_of_ble_eq_true rfl⟩ hcs (Nat.le_of_ble_eq_true rfl) dL_law_156 (fun v mem2 H locs hp hR hS => ?_)
        obtain ⟨e1, hc1⟩ := hp
        subst e1
        have hT := hJ.c (aI_put hJ.1 hJ.n4.1 _ _ _) hc1
        refine g_aload_n C hl dL_law_159 rfl ?_
        refine g_aload_n C hl dL_law_160 rfl ?_
        refine g_iload_n C hl dL_law_161 rfl ?_
        refine g_iconst 1 C dL_law_162 (by decide) ?_
        refine g_iadd C dL_law_163 ?_
        refine va_sld C.1 C.2.1 hX hbl hbA hS (vp_in_nI (by omega) (by omega)) dL_law_164 ?_
        rw [nI_clamp (by omega)]
        refine g_aload_n C hl dL_law_165 rfl ?_
        refine g_iload_n C hl dL_law_166 rfl ?_
        refine g_iconst 2 C dL_law_167 (by decide) ?_
        refine g_iadd C dL_law_168 ?_
        refine va_sld C.1 C.2.1 hX hbl hbA hS (vp_in_nI (by omega) (by omega)) dL_law_169 ?_
        rw [nI_clamp (by omega)]
        refine g_aload_n C hl dL_law_170 rfl ?_
        refine g_iload_n C hl dL_law_171 rfl ?_
        refine g_iconst 3 C dL_law_172 (by decide) ?_
        refine g_iadd C dL_law_173 ?_
        refine va_sld C.1 C.2.1 hX hbl hbA hS (vp_in_nI (by omega) (by omega)) dL_law_174 ?_
        rw [nI_clamp (by omega)]
        refine g_callV C hl.1 hR hS rc_X9 md_X9_put ml_L_17 (g8 (c_X9_put l hI hT.1 hT.2.2.2)) rfl rfl ⟨Nat.le_of_ble_eq_true rfl, Nat.le_of_ble_eq_true rfl⟩ hcs (Nat.le_of_ble_eq_true rfl) dL_law_175 (fun v mem3 H locs hp hR hS => ?_)
        obtain ⟨e1, hr1⟩ := hp
        subst e1
        have hN := hT.r hr1
        refine lv_icmp_eq (tgt := 757) C.1 C.2.1 dL_law_178 (by decide) (fun _ => ?_) (fun z9 => absurd rfl z9)
        refine g_iinc (k := 4) C hl dL_law_757 rfl (by decide) (fun ls hl => ?_)
        refine g_goto (tgt := 18) C dL_law_760 (by decide) ?_
        exact ih (i + 4) (by omega) (by omega) _ _ hN ls H locs hl hR hS
      · -- case 1
        refine lv_tableIn (tgt := 183) C.1 C.2.1 dL_law_32 (by decide) (by decide) rfl (by decide) ?_
        by_cases h0 : xs (i + 2) = 0
        · -- zero
          refine g_aload_n C hl dL_law_183 rfl ?_
          refine g_aload_n C hl dL_law_184 rfl ?_
          refine g_iload_n C hl dL_law_185 rfl ?_
          refine g_iconst 1 C dL_law_186 (by decide) ?_
          refine g_iadd C dL_law_187 ?_
          refine va_sld C.1 C.2.1 hX hbl hbA hS (vp_in_nI (by omega) (by omega)) dL_law_188 ?_
          rw [nI_clamp (by omega)]
          refine g_aload_n C hl dL_law_189 rfl ?_
          refine g_iload_n C hl dL_law_190 rfl ?_
          refine g_iconst 2 C dL_law_191 (by decide) ?_
          refine g_iadd C dL_law_192 ?_
          refine va_sld C.1 C.2.1 hX hbl hbA hS (vp_in_nI (by omega) (by omega)) dL_law_193 ?_
          rw [nI_clamp (by omega)]
          refine lv_if_eq (tgt := 201) C.1 C.2.1 dL_law_194 (by decide) (fun _ => ?_) (fun z9 => absurd h0 z9)
          refine g_iconst 0 C dL_law_201 (by decide) ?_
          refine g_callV C hl.1 hR hS rc_X8 md_X8_lock ml_L_18 (c_X8_lock l hI (by decide) hJ.1 hJ.2.1) rfl rfl ⟨Nat.le_of_ble_eq_true rfl, Nat.le_of_ble_eq_true rfl⟩ hcs (Nat.le_of_ble_eq_true rfl) dL_law_202 (fun v mem2 H locs hp hR hS => ?_)
          obtain ⟨e1, hc1⟩ := hp
          subst e1
          have hT := hJ.c (aI_lock hJ.1 hJ.n4.1 _ (by decide)) hc1
          refine g_aload_n C hl dL_law_205 rfl ?_
          refine g_aload_n C hl dL_law_206 rfl ?_
          refine g_iload_n C hl dL_law_207 rfl ?_
          refine g_iconst 1 C dL_law_208 (by decide) ?_
          refine g_iadd C dL_law_209 ?_
          refine va_sld C.1 C.2.1 hX hbl hbA hS (vp_in_nI (by omega) (by omega)) dL_law_210 ?_
          rw [nI_clamp (by omega)]
          refine g_aload_n C hl dL_law_211 rfl ?_
          refine g_iload_n C hl dL_law_212 rfl ?_
          refine g_iconst 2 C dL_law_213 (by decide) ?_
          refine g_iadd C dL_law_214 ?_
          refine va_sld C.1 C.2.1 hX hbl hbA hS (vp_in_nI (by omega) (by omega)) dL_law_215 ?_
          rw [nI_clamp (by omega)]
          refine lv_if_eq (tgt := 223) C.1 C.2.1 dL_law_216 (by decide) (fun _ => ?_) (fun z9 => absurd h0 z9)
          refine g_iconst 0 C dL_law_223 (by decide) ?_
          refine g_callV C hl.1 hR hS rc_X9 md_X9_lock ml_L_22 (g8 (c_X9_lock l hI (by decide) hT.1 hT.2.2.2)) rfl rfl ⟨Nat.le_of_ble_eq_true rfl, Nat.le_of_ble_eq_true rfl⟩ hcs (Nat.le_of_ble_eq_true rfl) dL_law_224 (fun v mem3 H locs hp hR hS => ?_)
          obtain ⟨e1, hr1⟩ := hp
          subst e1
          have hN := hT.r hr1
          refine lv_icmp_eq (tgt := 757) C.1 C.2.1 dL_law_227 (by decide) (fun _ => ?_) (fun z9 => absurd rfl z9)
          refine g_iinc (k := 4) C hl dL_law_757 rfl (by decide) (fun ls hl => ?_)
          refine g_goto (tgt := 18) C dL_law_760 (by decide) ?_
          exact ih (i + 4) (by omega) (by omega) _ _ hN ls H locs hl hR hS
        · -- not
          refine g_aload_n C hl dL_law_183 rfl ?_
          refine g_aload_n C hl dL_law_184 rfl ?_
          refine g_iload_n C hl dL_law_185 rfl ?_
          refine g_iconst 1 C dL_law_186 (by decide) ?_
          refine g_iadd C dL_law_187 ?_
          refine va_sld C.1 C.2.1 hX hbl hbA hS (vp_in_nI (by omega) (by omega)) dL_law_188 ?_
          rw [nI_clamp (by omega)]
          refine g_aload_n C hl dL_law_189 rfl ?_
          refine g_iload_n C hl dL_law_190 rfl ?_
          refine g_iconst 2 C dL_law_191 (by decide) ?_
          refine g_iadd C dL_law_192 ?_
          refine va_sld C.1 C.2.1 hX hbl hbA hS (vp_in_nI (by omega) (by omega)) dL_law_193 ?_
          rw [nI_clamp (by omega)]
          refine lv_if_eq (tgt := 201) C.1 C.2.1 dL_law_194 (by decide) (fun z9 => absurd z9 h0) (fun _ => ?_)
          refine g_iconst 1 C dL_law_197 (by decide) ?_
          refine g_goto (tgt := 202) C dL_law_198 (by decide) ?_
          refine g_callV C hl.1 hR hS rc_X8 md_X8_lock ml_L_18 (c_X8_lock l hI (by decide) hJ.1 hJ.2.1) rfl rfl ⟨Nat.le_of_ble_eq_true rfl, Nat.le_of_ble_eq_true rfl⟩ hcs (Nat.le_of_ble_eq_true rfl) dL_law_202 (fun v mem2 H locs hp hR hS => ?_)
          obtain ⟨e1, hc1⟩ := hp
          subst e1
          have hT := hJ.c (aI_lock hJ.1 hJ.n4.1 _ (by decide)) hc1
          refine g_aload_n C hl dL_law_205 rfl ?_
          refine g_aload_n C hl dL_law_206 rfl ?_
          refine g_iload_n C hl dL_law_207 rfl ?_
          refine g_iconst 1 C dL_law_208 (by decide) ?_
          refine g_iadd C dL_law_209 ?_
          refine va_sld C.1 C.2.1 hX hbl hbA hS (vp_in_nI (by omega) (by omega)) dL_law_210 ?_
          rw [nI_clamp (by omega)]
          refine g_aload_n C hl dL_law_211 rfl ?_
          refine g_iload_n C hl dL_law_212 rfl ?_
          refine g_iconst 2 C dL_law_213 (by decide) ?_
          refine g_iadd C dL_law_214 ?_
          refine va_sld C.1 C.2.1 hX hbl hbA hS (vp_in_nI (by omega) (by omega)) dL_law_215 ?_
          rw [nI_clamp (by omega)]
          refine lv_if_eq (tgt := 223) C.1 C.2.1 dL_law_216 (by decide) (fun z9 => absurd z9 h0) (fun _ => ?_)
          refine g_iconst 1 C dL_law_219 (by decide) ?_
          refine g_goto (tgt := 224) C dL_law_220 (by decide) ?_
          refine g_callV C hl.1 hR hS rc_X9 md_X9_lock ml_L_22 (g8 (c_X9_lock l hI (by decide) hT.1 hT.2.2.2)) rfl rfl ⟨Nat.le_of_ble_eq_true rfl, Nat.le_of_ble_eq_true rfl⟩ hcs (Nat.le_of_ble_eq_true rfl) dL_law_224 (fun v mem3 H locs hp hR hS => ?_)
          obtain ⟨e1, hr1⟩ := hp
          subst e1
          have hN := hT.r hr1
          refine lv_icmp_eq (tgt := 757) C.1 C.2.1 dL_law_227 (by decide) (fun _ => ?_) (fun z9 => absurd rfl z9)
          refine g_iinc (k := 4) C hl dL_law_757 rfl (by decide) (fun ls hl => ?_)
          refine g_goto (tgt := 18) C dL_law_760 (by decide) ?_
          exact ih (i + 4) (by omega) (by omega) _ _ hN ls H locs hl hR hS
      · -- case 2
        refine lv_tableIn (tgt := 232) C.1 C.2.1 dL_law_32 (by decide) (by decide) rfl (by decide) ?_
        refine g_aload_n C hl dL_law_232 rfl ?_
        refine g_aload_n C hl dL_law_233 rfl ?_
        refine g_iload_n C hl dL_law_234 rfl ?_
        refine g_iconst 1 C dL_law_235 (by decide) ?_
        refine g_iadd C dL_law_236 ?_
        refine va_sld C.1 C.2.1 hX hbl hbA hS (vp_in_nI (by omega) (by omega)) dL_law_237 ?_
        rw [nI_clamp (by omega)]
        refine g_aload_n C hl dL_law_238 rfl ?_
        refine g_iload_n C hl dL_law_239 rfl ?_
        refine g_iconst 2 C dL_law_240 (by decide) ?_
        refine g_iadd C dL_law_241 ?_
        refine va_sld C.1 C.2.1 hX hbl hbA hS (vp_in_nI (by omega) (by omega)) dL_law_242 ?_
        rw [nI_clamp (by omega)]
        refine g_callV C hl.1 hR hS rc_X8 md_X8_show ml_L_23 (c_X8_show l hI hJ.1 hJ.2.1) rfl rfl ⟨Nat.le_of_ble_eq_true rfl, Nat.le_of_ble_eq_true rfl⟩ hcs (Nat.le_of_ble_eq_true rfl) dL_law_243 (fun v mem2 H locs hp hR hS => ?_)
        obtain ⟨e1, hc1⟩ := hp
        subst e1
        have hT := hJ.c (aI_show hJ.1 hJ.n4.1 _ _) hc1
        refine g_aload_n C hl dL_law_246 rfl ?_
        refine g_aload_n C hl dL_law_247 rfl ?_
        refine g_iload_n C hl dL_law_248 rfl ?_
        refine g_iconst 1 C dL_law_249 (by decide) ?_
        refine g_iadd C dL_law_250 ?_
        refine va_sld C.1 C.2.1 hX hbl hbA hS (vp_in_nI (by omega) (by omega)) dL_law_251 ?_
        rw [nI_clamp (by omega)]
        refine g_aload_n C hl dL_law_252 rfl ?_
        refine g_iload_n C hl dL_law_253 rfl ?_
        refine g_iconst 2 C dL_law_254 (by decide) ?_
        refine g_iadd C dL_law_255 ?_
        refine va_sld C.1 C.2.1 hX hbl hbA hS (vp_in_nI (by omega) (by omega)) dL_law_256 ?_
        rw [nI_clamp (by omega)]
        refine g_callV C hl.1 hR hS rc_X9 md_X9_show ml_L_27 (g8 (c_X9_show l hI hT.1 hT.2.2.2)) rfl rfl ⟨Nat.le_of_ble_eq_true rfl, Nat.le_of_ble_eq_true rfl⟩ hcs (Nat.le_of_ble_eq_true rfl) dL_law_257 (fun v mem3 H locs hp hR hS => ?_)
        obtain ⟨e1, hr1⟩ := hp
        subst e1
        have hN := hT.r hr1
        refine lv_icmp_eq (tgt := 757) C.1 C.2.1 dL_law_260 (by decide) (fun _ => ?_) (fun z9 => absurd rfl z9)
        refine g_iinc (k := 4) C hl dL_law_757 rfl (by decide) (fun ls hl => ?_)
        refine g_goto (tgt := 18) C dL_law_760 (by decide) ?_
        exact ih (i + 4) (by omega) (by omega) _ _ hN ls H locs hl hR hS
      · -- case 3
        refine lv_tableIn (tgt := 265) C.1 C.2.1 dL_law_32 (by decide) (by decide) rfl (by decide) ?_
        refine g_aload_n C hl dL_law_265 rfl ?_
        refine g_aload_n C hl dL_law_266 rfl ?_
        refine g_iload_n C hl dL_law_267 rfl ?_
        refine g_iconst 1 C dL_law_268 (by decide) ?_
        refine g_iadd C dL_law_269 ?_
        refine va_sld C.1 C.2.1 hX hbl hbA hS (vp_in_nI (by omega) (by omega)) dL_law_270 ?_
        rw [nI_clamp (by omega)]
        refine g_aload_n C hl dL_law_271 rfl ?_
        refine g_iload_n C hl dL_law_272 rfl ?_
        refine g_iconst 2 C dL_law_273 (by decide) ?_
        refine g_iadd C dL_law_274 ?_
        refine va_sld C.1 C.2.1 hX hbl hbA hS (vp_in_nI (by omega) (by omega)) dL_law_275 ?_
        rw [nI_clamp (by omega)]
        refine g_callV C hl.1 hR hS rc_X8 md_X8_copyBank ml_L_28 (c_X8_copyBank l hI hJ.1 hJ.2.1) rfl rfl ⟨Nat.le_of_ble_eq_true rfl, Nat.le_of_ble_eq_true rfl⟩ hcs (Nat.le_of_ble_eq_true rfl) dL_law_276 (fun v mem2 H locs hp hR hS => ?_)
        obtain ⟨e1, hc1⟩ := hp
        subst e1
        have hT := hJ.c (aI_copy hJ.1 hJ.n4.1 _ _) hc1
        refine g_aload_n C hl dL_law_279 rfl ?_
        refine g_aload_n C hl dL_law_280 rfl ?_
        refine g_iload_n C hl dL_law_281 rfl ?_
        refine g_iconst 1 C dL_law_282 (by decide) ?_
        refine g_iadd C dL_law_283 ?_
        refine va_sld C.1 C.2.1 hX hbl hbA hS (vp_in_nI (by omega) (by omega)) dL_law_284 ?_
        rw [nI_clamp (by omega)]
        refine g_aload_n C hl dL_law_285 rfl ?_
        refine g_iload_n C hl dL_law_286 rfl ?_
        refine g_iconst 2 C dL_law_287 (by decide) ?_
        refine g_iadd C dL_law_288 ?_
        refine va_sld C.1 C.2.1 hX hbl hbA hS (vp_in_nI (by omega) (by omega)) dL_law_289 ?_
        rw [nI_clamp (by omega)]
        refine g_callV C hl.1 hR hS rc_X9 md_X9_copyBank ml_L_31 (g8 (c_X9_copyBank l hI hT.1 hT.2.2.2)) rfl rfl ⟨Nat.le_of_ble_eq_true rfl, Nat.le_of_ble_eq_true rfl⟩ hcs (Nat.le_of_ble_eq_true rfl) dL_law_290 (fun v mem3 H locs hp hR hS => ?_)
        obtain ⟨e1, hr1⟩ := hp
        subst e1
        have hN := hT.r hr1
        refine lv_icmp_eq (tgt := 757) C.1 C.2.1 dL_law_293 (by decide) (fun _ => ?_) (fun z9 => absurd rfl z9)
        refine g_iinc (k := 4) C hl dL_law_757 rfl (by decide) (fun ls hl => ?_)
        refine g_goto (tgt := 18) C dL_law_760 (by decide) ?_
        exact ih (i + 4) (by omega) (by omega) _ _ hN ls H locs hl hR hS
      · -- case 4
        refine lv_tableIn (tgt := 298) C.1 C.2.1 dL_law_32 (by decide) (by decide) rfl (by decide) ?_
        refine g_aload_n C hl dL_law_298 rfl ?_
        refine g_aload_n C hl dL_law_299 rfl ?_
        refine g_iload_n C hl dL_law_300 rfl ?_
        refine g_iconst 1 C dL_law_301 (by decide) ?_
        refine g_iadd C dL_law_302 ?_
        refine va_sld C.1 C.2.1 hX hbl hbA hS (vp_in_nI (by omega) (by omega)) dL_law_303 ?_
        rw [nI_clamp (by omega)]
        refine g_callV C hl.1 hR hS rc_X8 md_X8_set ml_L_32 (c_X8_set l hI hJ.1 hJ.2.1) rfl rfl ⟨Nat.le_of_ble_eq_true rfl, Nat.le_of_ble_eq_true rfl⟩ hcs (Nat.le_of_ble_eq_true rfl) dL_law_304 (fun v mem2 H locs hp hR hS => ?_)
        obtain ⟨e1, hc1⟩ := hp
        subst e1
        have hT := hJ.c (aI_set hJ.1 hJ.n4.1 _) hc1
        refine g_aload_n C hl dL_law_307 rfl ?_
        refine g_aload_n C hl dL_law_308 rfl ?_
        refine g_iload_n C hl dL_law_309 rfl ?_
        refine g_iconst 1 C dL_law_310 (by decide) ?_
        refine g_iadd C dL_law_311 ?_
        refine va_sld C.1 C.2.1 hX hbl hbA hS (vp_in_nI (by omega) (by omega)) dL_law_312 ?_
        rw [nI_clamp (by omega)]
        refine g_callV C hl.1 hR hS rc_X9 md_X9_set ml_L_36 (g8 (c_X9_set l hI hT.1 hT.2.2.2)) rfl rfl ⟨Nat.le_of_ble_eq_true rfl, Nat.le_of_ble_eq_true rfl⟩ hcs (Nat.le_of_ble_eq_true rfl) dL_law_313 (fun v mem3 H locs hp hR hS => ?_)
        obtain ⟨e1, hr1⟩ := hp
        subst e1
        have hN := hT.r hr1
        refine lv_icmp_eq (tgt := 757) C.1 C.2.1 dL_law_316 (by decide) (fun _ => ?_) (fun z9 => absurd rfl z9)
        refine g_iinc (k := 4) C hl dL_law_757 rfl (by decide) (fun ls hl => ?_)
        refine g_goto (tgt := 18) C dL_law_760 (by decide) ?_
        exact ih (i + 4) (by omega) (by omega) _ _ hN ls H locs hl hR hS
      · -- case 5
        refine lv_tableIn (tgt := 321) C.1 C.2.1 dL_law_32 (by decide) (by decide) rfl (by decide) ?_
        refine g_aload_n C hl dL_law_321 rfl ?_
        refine g_aload_n C hl dL_law_322 rfl ?_
        refine g_iload_n C hl dL_law_323 rfl ?_
        refine g_iconst 1 C dL_law_324 (by decide) ?_
        refine g_iadd C dL_law_325 ?_
        refine va_sld C.1 C.2.1 hX hbl hbA hS (vp_in_nI (by omega) (by omega)) dL_law_326 ?_
        rw [nI_clamp (by omega)]
        refine g_callV C hl.1 hR hS rc_X8 md_X8_begin ml_L_37 (c_X8_begin l hI hJ.1 hJ.2.1) rfl rfl ⟨Nat.le_of_ble_eq_true rfl, Nat.le_of_ble_eq_true rfl⟩ hcs (Nat.le_of_ble_eq_true rfl) dL_law_327 (fun v mem2 H locs hp hR hS => ?_)
        obtain ⟨e1, hc1⟩ := hp
        subst e1
        have hT := hJ.c (aI_begin hJ.1 hJ.n4.1 _) hc1
        refine g_aload_n C hl dL_law_330 rfl ?_
        refine g_aload_n C hl dL_law_331 rfl ?_
        refine g_iload_n C hl dL_law_332 rfl ?_
        refine g_iconst 1 C dL_law_333 (by decide) ?_
        refine g_iadd C dL_law_334 ?_
        refine va_sld C.1 C.2.1 hX hbl hbA hS (vp_in_nI (by omega) (by omega)) dL_law_335 ?_
        rw [nI_clamp (by omega)]
        refine g_callV C hl.1 hR hS rc_X9 md_X9_begin ml_L_40 (g8 (c_X9_begin l hI hT.1 hT.2.2.2)) rfl rfl ⟨Nat.le_of_ble_eq_true rfl, Nat.le_of_ble_eq_true rfl⟩ hcs (Nat.le_of_ble_eq_true rfl) dL_law_336 (fun v mem3 H locs hp hR hS => ?_)
        obtain ⟨e1, hr1⟩ := hp
        subst e1
        have hN := hT.r hr1
        refine lv_icmp_eq (tgt := 757) C.1 C.2.1 dL_law_339 (by decide) (fun _ => ?_) (fun z9 => absurd rfl z9)
        refine g_iinc (k := 4) C hl dL_law_757 rfl (by decide) (fun ls hl => ?_)
        refine g_goto (tgt := 18) C dL_law_760 (by decide) ?_
        exact ih (i + 4) (by omega) (by omega) _ _ hN ls H locs hl hR hS
      · -- case 6
        refine lv_tableIn (tgt := 344) C.1 C.2.1 dL_law_32 (by decide) (by decide) rfl (by decide) ?_
        refine g_aload_n C hl dL_law_344 rfl ?_
        refine g_aload_n C hl dL_law_345 rfl ?_
        refine g_iload_n C hl dL_law_346 rfl ?_
        refine g_iconst 1 C dL_law_347 (by decide) ?_
        refine g_iadd C dL_law_348 ?_
        refine va_sld C.1 C.2.1 hX hbl hbA hS (vp_in_nI (by omega) (by omega)) dL_law_349 ?_
        rw [nI_clamp (by omega)]
        refine g_callV C hl.1 hR hS rc_X8 md_X8_run ml_L_41 (c_X8_run l hI hJ.1 hJ.2.1) rfl rfl ⟨Nat.le_of_ble_eq_true rfl, Nat.le_of_ble_eq_true rfl⟩ hcs (Nat.le_of_ble_eq_true rfl) dL_law_350 (fun v mem2 H locs hp hR hS => ?_)
        obtain ⟨e1, hc1⟩ := hp
        subst e1
        have hT := hJ.c (aI_run hJ.1 hJ.n4.1 _) hc1
        refine g_aload_n C hl dL_law_353 rfl ?_
        refine g_aload_n C hl dL_law_354 rfl ?_
        refine g_iload_n C hl dL_law_355 rfl ?_
        refine g_iconst 1 C dL_law_356 (by decide) ?_
        refine g_iadd C dL_law_357 ?_
        refine va_sld C.1 C.2.1 hX hbl hbA hS (vp_in_nI (by omega) (by omega)) dL_law_358 ?_
        rw [nI_clamp (by omega)]
        refine g_callV C hl.1 hR hS rc_X9 md_X9_run ml_L_44 (g8 (c_X9_run l hI hT.1 hT.2.2.2)) rfl rfl ⟨Nat.le_of_ble_eq_true rfl, Nat.le_of_ble_eq_true rfl⟩ hcs (Nat.le_of_ble_eq_true rfl) dL_law_359 (fun v mem3 H locs hp hR hS => ?_)
        obtain ⟨e1, hr1⟩ := hp
        subst e1
        have hN := hT.r hr1
        refine lv_icmp_eq (tgt := 757) C.1 C.2.1 dL_law_362 (by decide) (fun _ => ?_) (fun z9 => absurd rfl z9)
        refine g_iinc (k := 4) C hl dL_law_757 rfl (by decide) (fun ls hl => ?_)
        refine g_goto (tgt := 18) C dL_law_760 (by decide) ?_
        exact ih (i + 4) (by omega) (by omega) _ _ hN ls H locs hl hR hS
      · -- case 7
        refine lv_tableIn (tgt := 367) C.1 C.2.1 dL_law_32 (by decide) (by decide) rfl (by decide) ?_
        refine g_aload_n C hl dL_law_367 rfl ?_
        refine g_aload_n C hl dL_law_368 rfl ?_
        refine g_iload_n C hl dL_law_369 rfl ?_
        refine g_iconst 1 C dL_law_370 (by decide) ?_
        refine g_iadd C dL_law_371 ?_
        refine va_sld C.1 C.2.1 hX hbl hbA hS (vp_in_nI (by omega) (by omega)) dL_law_372 ?_
        rw [nI_clamp (by omega)]
        obtain ⟨ch, hch, ech⟩ := i2c_ex (xs (i + 1))
        refine lv_i2c C.1 C.2.1 dL_law_373 ech ?_
        refine g_callV C hl.1 hR hS rc_X8 md_X8_type ml_L_45 (c_X8_type l hI hch hJ.1 hJ.2.1) rfl rfl ⟨Nat.le_of_ble_eq_true rfl, Nat.le_of_ble_eq_true rfl⟩ hcs (Nat.le_of_ble_eq_true rfl) dL_law_374 (fun v mem2 H locs hp hR hS => ?_)
        obtain ⟨e1, hc1⟩ := hp
        subst e1
        have hT := hJ.c (aI_type hJ.1 hch) hc1
        refine g_aload_n C hl dL_law_377 rfl ?_
        refine g_aload_n C hl dL_law_378 rfl ?_
        refine g_iload_n C hl dL_law_379 rfl ?_
        refine g_iconst 1 C dL_law_380 (by decide) ?_
        refine g_iadd C dL_law_381 ?_
        refine va_sld C.1 C.2.1 hX hbl hbA hS (vp_in_nI (by omega) (by omega)) dL_law_382 ?_
        rw [nI_clamp (by omega)]
        refine lv_i2c C.1 C.2.1 dL_law_383 ech ?_
        refine g_callV C hl.1 hR hS rc_X9 md_X9_type ml_L_49 (g8 (c_X9_type l hI hT.1 hT.2.2.2)) rfl rfl ⟨Nat.le_of_ble_eq_true rfl, Nat.le_of_ble_eq_true rfl⟩ hcs (Nat.le_of_ble_eq_true rfl) dL_law_384 (fun v mem3 H locs hp hR hS => ?_)
        obtain ⟨e1, hr1⟩ := hp
        subst e1
        have hN := hT.r hr1
        refine lv_icmp_eq (tgt := 757) C.1 C.2.1 dL_law_387 (by decide) (fun _ => ?_) (fun z9 => absurd rfl z9)
        refine g_iinc (k := 4) C hl dL_law_757 rfl (by decide) (fun ls hl => ?_)
        refine g_goto (tgt := 18) C dL_law_760 (by decide) ?_
        exact ih (i + 4) (by omega) (by omega) _ _ hN ls H locs hl hR hS
      · -- case 8
        refine lv_tableIn (tgt := 392) C.1 C.2.1 dL_law_32 (by decide) (by decide) rfl (by decide) ?_
        refine g_aload_n C hl dL_law_392 rfl ?_
        refine g_callV C hl.1 hR hS rc_X8 md_X8_clearText ml_L_50 (c_X8_clearText l hI hJ.1 hJ.2.1) rfl rfl ⟨Nat.le_of_ble_eq_true rfl, Nat.le_of_ble_eq_true rfl⟩ hcs (Nat.le_of_ble_eq_true rfl) dL_law_393 (fun v mem2 H locs hp hR hS => ?_)
        obtain ⟨e1, hc1⟩ := hp
        subst e1
        have hT := hJ.c (aI_clear hJ.1) hc1
        refine g_aload_n C hl dL_law_396 rfl ?_
        refine g_callV C hl.1 hR hS rc_X9 md_X9_clearText ml_L_54 (g8 (c_X9_clearText l hI hT.1 hT.2.2.2)) rfl rfl ⟨Nat.le_of_ble_eq_true rfl, Nat.le_of_ble_eq_true rfl⟩ hcs (Nat.le_of_ble_eq_true rfl) dL_law_397 (fun v mem3 H locs hp hR hS => ?_)
        obtain ⟨e1, hr1⟩ := hp
        subst e1
        have hN := hT.r hr1
        refine lv_icmp_eq (tgt := 757) C.1 C.2.1 dL_law_400 (by decide) (fun _ => ?_) (fun z9 => absurd rfl z9)
        refine g_iinc (k := 4) C hl dL_law_757 rfl (by decide) (fun ls hl => ?_)
        refine g_goto (tgt := 18) C dL_law_760 (by decide) ?_
        exact ih (i + 4) (by omega) (by omega) _ _ hN ls H locs hl hR hS
      · -- case 9
        refine lv_tableIn (tgt := 405) C.1 C.2.1 dL_law_32 (by decide) (by decide) rfl (by decide) ?_
        refine g_aload_n C hl dL_law_405 rfl ?_
        refine g_aload_n C hl dL_law_406 rfl ?_
        refine g_iload_n C hl dL_law_407 rfl ?_
        refine g_iconst 1 C dL_law_408 (by decide) ?_
        refine g_iadd C dL_law_409 ?_
        refine va_sld C.1 C.2.1 hX hbl hbA hS (vp_in_nI (by omega) (by omega)) dL_law_410 ?_
        rw [nI_clamp (by omega)]
        refine g_aload_n C hl dL_law_411 rfl ?_
        refine g_iload_n C hl dL_law_412 rfl ?_
        refine g_iconst 2 C dL_law_413 (by decide) ?_
        refine g_iadd C dL_law_414 ?_
        refine va_sld C.1 C.2.1 hX hbl hbA hS (vp_in_nI (by omega) (by omega)) dL_law_415 ?_
        rw [nI_clamp (by omega)]
        refine g_callV C hl.1 hR hS rc_X8 md_X8_assemble ml_L_55 (c_X8_assemble l hI hJ.1 hJ.2.1) rfl rfl ⟨Nat.le_of_ble_eq_true rfl, Nat.le_of_ble_eq_true rfl⟩ hcs (Nat.le_of_ble_eq_true rfl) dL_law_416 (fun v mem2 H locs hp hR hS => ?_)
        obtain ⟨e1, hc1⟩ := hp
        subst e1
        have hT := hJ.c (aI_asm hJ.1 hJ.n4.1 _ _) hc1
        refine g_aload_n C hl dL_law_419 rfl ?_
        refine g_aload_n C hl dL_law_420 rfl ?_
        refine g_iload_n C hl dL_law_421 rfl ?_
        refine g_iconst 1 C dL_law_422 (by decide) ?_
        refine g_iadd C dL_law_423 ?_
        refine va_sld C.1 C.2.1 hX hbl hbA hS (vp_in_nI (by omega) (by omega)) dL_law_424 ?_
        rw [nI_clamp (by omega)]
        refine g_aload_n C hl dL_law_425 rfl ?_
        refine g_iload_n C hl dL_law_426 rfl ?_
        refine g_iconst 2 C dL_law_427 (by decide) ?_
        refine g_iadd C dL_law_428 ?_
        refine va_sld C.1 C.2.1 hX hbl hbA hS (vp_in_nI (by omega) (by omega)) dL_law_429 ?_
        rw [nI_clamp (by omega)]
        refine g_callV C hl.1 hR hS rc_X9 md_X9_assemble ml_L_58 (g8 (c_X9_assemble l hI hT.1 hT.2.2.2)) rfl rfl ⟨Nat.le_of_ble_eq_true rfl, Nat.le_of_ble_eq_true rfl⟩ hcs (Nat.le_of_ble_eq_true rfl) dL_law_430 (fun v mem3 H locs hp hR hS => ?_)
        obtain ⟨e1, hr1⟩ := hp
        subst e1
        have hN := hT.r hr1
        refine lv_icmp_eq (tgt := 757) C.1 C.2.1 dL_law_433 (by decide) (fun _ => ?_) (fun z9 => absurd rfl z9)
        refine g_iinc (k := 4) C hl dL_law_757 rfl (by decide) (fun ls hl => ?_)
        refine g_goto (tgt := 18) C dL_law_760 (by decide) ?_
        exact ih (i + 4) (by omega) (by omega) _ _ hN ls H locs hl hR hS
      · -- case 10
        refine lv_tableIn (tgt := 438) C.1 C.2.1 dL_law_32 (by decide) (by decide) rfl (by decide) ?_
        refine g_aload_n C hl dL_law_438 rfl ?_
        refine g_callV C hl.1 hR hS rc_X8 md_X8_undo ml_L_59 (c_X8_undo l hI hJ.1 hJ.2.1) rfl rfl ⟨Nat.le_of_ble_eq_true rfl, Nat.le_of_ble_eq_true rfl⟩ hcs (Nat.le_of_ble_eq_true rfl) dL_law_439 (fun v mem2 H locs hp hR hS => ?_)
        obtain ⟨e1, hc1⟩ := hp
        subst e1
        have hT := hJ.c (aI_undo hJ.1) hc1
        refine g_aload_n C hl dL_law_442 rfl ?_
        refine g_callV C hl.1 hR hS rc_X9 md_X9_undo ml_L_62 (g8 (a_X9_undo l hI hT.1 hT.2.2.2)) rfl rfl ⟨Nat.le_of_ble_eq_true rfl, Nat.le_of_ble_eq_true rfl⟩ hcs (Nat.le_of_ble_eq_true rfl) dL_law_443 (fun v mem3 H locs hp hR hS => ?_)
        obtain ⟨e1, hr1⟩ := hp
        subst e1
        have hN := hT.r hr1
        refine lv_icmp_eq (tgt := 757) C.1 C.2.1 dL_law_446 (by decide) (fun _ => ?_) (fun z9 => absurd rfl z9)
        refine g_iinc (k := 4) C hl dL_law_757 rfl (by decide) (fun ls hl => ?_)
        refine g_goto (tgt := 18) C dL_law_760 (by decide) ?_
        exact ih (i + 4) (by omega) (by omega) _ _ hN ls H locs hl hR hS
      · -- case 11
        refine lv_tableIn (tgt := 451) C.1 C.2.1 dL_law_32 (by decide) (by decide) rfl (by decide) ?_
        refine g_aload_n C hl dL_law_451 rfl ?_
        refine g_callV C hl.1 hR hS rc_X8 md_X8_keep ml_L_63 (c_X8_keep l hI hJ.1 hJ.2.1) rfl rfl ⟨Nat.le_of_ble_eq_true rfl, Nat.le_of_ble_eq_true rfl⟩ hcs (Nat.le_of_ble_eq_true rfl) dL_law_452 (fun v mem2 H locs hp hR hS => ?_)
        obtain ⟨e1, hc1⟩ := hp
        subst e1
        have hT := hJ.c (aI_keep hJ.1) hc1
        refine g_aload_n C hl dL_law_455 rfl ?_
        refine g_callV C hl.1 hR hS rc_X9 md_X9_keep ml_L_66 (g8 (a_X9_keep l hI hT.1 hT.2.2.2)) rfl rfl ⟨Nat.le_of_ble_eq_true rfl, Nat.le_of_ble_eq_true rfl⟩ hcs (Nat.le_of_ble_eq_true rfl) dL_law_456 (fun v mem3 H locs hp hR hS => ?_)
        obtain ⟨e1, hr1⟩ := hp
        subst e1
        have hN := hT.r hr1
        refine lv_icmp_eq (tgt := 757) C.1 C.2.1 dL_law_459 (by decide) (fun _ => ?_) (fun z9 => absurd rfl z9)
        refine g_iinc (k := 4) C hl dL_law_757 rfl (by decide) (fun ls hl => ?_)
        refine g_goto (tgt := 18) C dL_law_760 (by decide) ?_
        exact ih (i + 4) (by omega) (by omega) _ _ hN ls H locs hl hR hS
      · -- case 12
        refine lv_tableIn (tgt := 464) C.1 C.2.1 dL_law_32 (by decide) (by decide) rfl (by decide) ?_
        refine g_aload_n C hl dL_law_464 rfl ?_
        refine g_callV C hl.1 hR hS rc_X8 md_X8_restore ml_L_67 (c_X8_restore l hI hJ.1 hJ.2.1) rfl rfl ⟨Nat.le_of_ble_eq_true rfl, Nat.le_of_ble_eq_true rfl⟩ hcs (Nat.le_of_ble_eq_true rfl) dL_law_465 (fun v mem2 H locs hp hR hS => ?_)
        obtain ⟨e1, hc1⟩ := hp
        subst e1
        have hT := hJ.c (aI_rest hJ.1 hJ.n4.1 hJ.n4.2) hc1
        refine g_aload_n C hl dL_law_468 rfl ?_
        refine g_callV C hl.1 hR hS rc_X9 md_X9_restore ml_L_70 (g8 (a_X9_restore l hI hT.1 hT.2.2.2)) rfl rfl ⟨Nat.le_of_ble_eq_true rfl, Nat.le_of_ble_eq_true rfl⟩ hcs (Nat.le_of_ble_eq_true rfl) dL_law_469 (fun v mem3 H locs hp hR hS => ?_)
        obtain ⟨e1, hr1⟩ := hp
        subst e1
        have hN := hT.r hr1
        refine lv_icmp_eq (tgt := 757) C.1 C.2.1 dL_law_472 (by decide) (fun _ => ?_) (fun z9 => absurd rfl z9)
        refine g_iinc (k := 4) C hl dL_law_757 rfl (by decide) (fun ls hl => ?_)
        refine g_goto (tgt := 18) C dL_law_760 (by decide) ?_
        exact ih (i + 4) (by omega) (by omega) _ _ hN ls H locs hl hR hS
      · -- case 13
        refine lv_tableIn (tgt := 477) C.1 C.2.1 dL_law_32 (by decide) (by decide) rfl (by decide) ?_
        refine g_aload_n C hl dL_law_477 rfl ?_
        refine g_aload_n C hl dL_law_478 rfl ?_
        refine g_iload_n C hl dL_law_479 rfl ?_
        refine g_iconst 1 C dL_law_480 (by decide) ?_
        refine g_iadd C dL_law_481 ?_
        refine va_sld C.1 C.2.1 hX hbl hbA hS (vp_in_nI (by omega) (by omega)) dL_law_482 ?_
        rw [nI_clamp (by omega)]
        refine g_aload_n C hl dL_law_483 rfl ?_
        refine g_iload_n C hl dL_law_484 rfl ?_
        refine g_iconst 2 C dL_law_485 (by decide) ?_
        refine g_iadd C dL_law_486 ?_
        refine va_sld C.1 C.2.1 hX hbl hbA hS (vp_in_nI (by omega) (by omega)) dL_law_487 ?_
        rw [nI_clamp (by omega)]
        refine g_callV C hl.1 hR hS rc_X8 md_X8_cell ml_L_71 (c_X8_cell l hI hJ.1 hJ.2.1) rfl rfl ⟨Nat.le_of_ble_eq_true rfl, Nat.le_of_ble_eq_true rfl⟩ hcs (Nat.le_of_ble_eq_true rfl) dL_law_488 (fun v mem2 H locs hp hR hS => ?_)
        obtain ⟨e1, hc1⟩ := hp
        subst e1
        have hT := hJ.c (hJ.1) hc1
        refine g_aload_n C hl dL_law_491 rfl ?_
        refine g_aload_n C hl dL_law_492 rfl ?_
        refine g_iload_n C hl dL_law_493 rfl ?_
        refine g_iconst 1 C dL_law_494 (by decide) ?_
        refine g_iadd C dL_law_495 ?_
        refine va_sld C.1 C.2.1 hX hbl hbA hS (vp_in_nI (by omega) (by omega)) dL_law_496 ?_
        rw [nI_clamp (by omega)]
        refine g_aload_n C hl dL_law_497 rfl ?_
        refine g_iload_n C hl dL_law_498 rfl ?_
        refine g_iconst 2 C dL_law_499 (by decide) ?_
        refine g_iadd C dL_law_500 ?_
        refine va_sld C.1 C.2.1 hX hbl hbA hS (vp_in_nI (by omega) (by omega)) dL_law_501 ?_
        rw [nI_clamp (by omega)]
        refine g_callV C hl.1 hR hS rc_X9 md_X9_cell ml_L_74 (g8 (c_X9_cell l hI hT.1 hT.2.2.2)) rfl rfl ⟨Nat.le_of_ble_eq_true rfl, Nat.le_of_ble_eq_true rfl⟩ hcs (Nat.le_of_ble_eq_true rfl) dL_law_502 (fun v mem3 H locs hp hR hS => ?_)
        obtain ⟨e1, hr1⟩ := hp
        subst e1
        have hN := hT.r hr1
        refine lv_icmp_eq (tgt := 757) C.1 C.2.1 dL_law_505 (by decide) (fun _ => ?_) (fun z9 => absurd rfl z9)
        refine g_iinc (k := 4) C hl dL_law_757 rfl (by decide) (fun ls hl => ?_)
        refine g_goto (tgt := 18) C dL_law_760 (by decide) ?_
        exact ih (i + 4) (by omega) (by omega) _ _ hN ls H locs hl hR hS
      · -- case 14
        refine lv_tableIn (tgt := 510) C.1 C.2.1 dL_law_32 (by decide) (by decide) rfl (by decide) ?_
        refine g_aload_n C hl dL_law_510 rfl ?_
        refine g_aload_n C hl dL_law_511 rfl ?_
        refine g_iload_n C hl dL_law_512 rfl ?_
        refine g_iconst 1 C dL_law_513 (by decide) ?_
        refine g_iadd C dL_law_514 ?_
        refine va_sld C.1 C.2.1 hX hbl hbA hS (vp_in_nI (by omega) (by omega)) dL_law_515 ?_
        rw [nI_clamp (by omega)]
        refine g_aload_n C hl dL_law_516 rfl ?_
        refine g_iload_n C hl dL_law_517 rfl ?_
        refine g_iconst 2 C dL_law_518 (by decide) ?_
        refine g_iadd C dL_law_519 ?_
        refine va_sld C.1 C.2.1 hX hbl hbA hS (vp_in_nI (by omega) (by omega)) dL_law_520 ?_
        rw [nI_clamp (by omega)]
        refine g_callV C hl.1 hR hS rc_X8 md_X8_address ml_L_75 (c_X8_address l hI hJ.1 hJ.2.1) rfl rfl ⟨Nat.le_of_ble_eq_true rfl, Nat.le_of_ble_eq_true rfl⟩ hcs (Nat.le_of_ble_eq_true rfl) dL_law_521 (fun v mem2 H locs hp hR hS => ?_)
        obtain ⟨e1, hc1⟩ := hp
        subst e1
        have hT := hJ.c (hJ.1) hc1
        refine g_aload_n C hl dL_law_524 rfl ?_
        refine g_aload_n C hl dL_law_525 rfl ?_
        refine g_iload_n C hl dL_law_526 rfl ?_
        refine g_iconst 1 C dL_law_527 (by decide) ?_
        refine g_iadd C dL_law_528 ?_
        refine va_sld C.1 C.2.1 hX hbl hbA hS (vp_in_nI (by omega) (by omega)) dL_law_529 ?_
        rw [nI_clamp (by omega)]
        refine g_aload_n C hl dL_law_530 rfl ?_
        refine g_iload_n C hl dL_law_531 rfl ?_
        refine g_iconst 2 C dL_law_532 (by decide) ?_
        refine g_iadd C dL_law_533 ?_
        refine va_sld C.1 C.2.1 hX hbl hbA hS (vp_in_nI (by omega) (by omega)) dL_law_534 ?_
        rw [nI_clamp (by omega)]
        refine g_callV C hl.1 hR hS rc_X9 md_X9_address ml_L_78 (g8 (c_X9_address l hI hT.1 hT.2.2.2)) rfl rfl ⟨Nat.le_of_ble_eq_true rfl, Nat.le_of_ble_eq_true rfl⟩ hcs (Nat.le_of_ble_eq_true rfl) dL_law_535 (fun v mem3 H locs hp hR hS => ?_)
        obtain ⟨e1, hr1⟩ := hp
        subst e1
        have hN := hT.r hr1
        refine lv_icmp_eq (tgt := 757) C.1 C.2.1 dL_law_538 (by decide) (fun _ => ?_) (fun z9 => absurd rfl z9)
        refine g_iinc (k := 4) C hl dL_law_757 rfl (by decide) (fun ls hl => ?_)
        refine g_goto (tgt := 18) C dL_law_760 (by decide) ?_
        exact ih (i + 4) (by omega) (by omega) _ _ hN ls H locs hl hR hS
      · -- case 15
        refine lv_tableIn (tgt := 543) C.1 C.2.1 dL_law_32 (by decide) (by decide) rfl (by decide) ?_
        refine g_aload_n C hl dL_law_543 rfl ?_
        refine g_aload_n C hl dL_law_544 rfl ?_
        refine g_iload_n C hl dL_law_545 rfl ?_
        refine g_iconst 1 C dL_law_546 (by decide) ?_
        refine g_iadd C dL_law_547 ?_
        refine va_sld C.1 C.2.1 hX hbl hbA hS (vp_in_nI (by omega) (by omega)) dL_law_548 ?_
        rw [nI_clamp (by omega)]
        refine g_aload_n C hl dL_law_549 rfl ?_
        refine g_iload_n C hl dL_law_550 rfl ?_
        refine g_iconst 2 C dL_law_551 (by decide) ?_
        refine g_iadd C dL_law_552 ?_
        refine va_sld C.1 C.2.1 hX hbl hbA hS (vp_in_nI (by omega) (by omega)) dL_law_553 ?_
        rw [nI_clamp (by omega)]
        refine g_callV C hl.1 hR hS rc_X8 md_X8_bank ml_L_79 (c_X8_bank l hI hJ.1 hJ.2.1) rfl rfl ⟨Nat.le_of_ble_eq_true rfl, Nat.le_of_ble_eq_true rfl⟩ hcs (Nat.le_of_ble_eq_true rfl) dL_law_554 (fun v mem2 H locs hp hR hS => ?_)
        obtain ⟨e1, hc1⟩ := hp
        subst e1
        have hT := hJ.c (hJ.1) hc1
        refine g_aload_n C hl dL_law_557 rfl ?_
        refine g_aload_n C hl dL_law_558 rfl ?_
        refine g_iload_n C hl dL_law_559 rfl ?_
        refine g_iconst 1 C dL_law_560 (by decide) ?_
        refine g_iadd C dL_law_561 ?_
        refine va_sld C.1 C.2.1 hX hbl hbA hS (vp_in_nI (by omega) (by omega)) dL_law_562 ?_
        rw [nI_clamp (by omega)]
        refine g_aload_n C hl dL_law_563 rfl ?_
        refine g_iload_n C hl dL_law_564 rfl ?_
        refine g_iconst 2 C dL_law_565 (by decide) ?_
        refine g_iadd C dL_law_566 ?_
        refine va_sld C.1 C.2.1 hX hbl hbA hS (vp_in_nI (by omega) (by omega)) dL_law_567 ?_
        rw [nI_clamp (by omega)]
        refine g_callV C hl.1 hR hS rc_X9 md_X9_bank ml_L_82 (g8 (c_X9_bank l hI hT.1 hT.2.2.2)) rfl rfl ⟨Nat.le_of_ble_eq_true rfl, Nat.le_of_ble_eq_true rfl⟩ hcs (Nat.le_of_ble_eq_true rfl) dL_law_568 (fun v mem3 H locs hp hR hS => ?_)
        obtain ⟨e1, hr1⟩ := hp
        subst e1
        have hN := hT.r hr1
        refine lv_icmp_eq (tgt := 757) C.1 C.2.1 dL_law_571 (by decide) (fun _ => ?_) (fun z9 => absurd rfl z9)
        refine g_iinc (k := 4) C hl dL_law_757 rfl (by decide) (fun ls hl => ?_)
        refine g_goto (tgt := 18) C dL_law_760 (by decide) ?_
        exact ih (i + 4) (by omega) (by omega) _ _ hN ls H locs hl hR hS
      · -- case 16
        refine lv_tableIn (tgt := 576) C.1 C.2.1 dL_law_32 (by decide) (by decide) rfl (by decide) ?_
        refine g_aload_n C hl dL_law_576 rfl ?_
        refine g_aload_n C hl dL_law_577 rfl ?_
        refine g_iload_n C hl dL_law_578 rfl ?_
        refine g_iconst 1 C dL_law_579 (by decide) ?_
        refine g_iadd C dL_law_580 ?_
        refine va_sld C.1 C.2.1 hX hbl hbA hS (vp_in_nI (by omega) (by omega)) dL_law_581 ?_
        rw [nI_clamp (by omega)]
        refine g_callV C hl.1 hR hS rc_X8 md_X8_window ml_L_83 (c_X8_window l hI hJ.1 hJ.2.1) rfl rfl ⟨Nat.le_of_ble_eq_true rfl, Nat.le_of_ble_eq_true rfl⟩ hcs (Nat.le_of_ble_eq_true rfl) dL_law_582 (fun v mem2 H locs hp hR hS => ?_)
        obtain ⟨e1, hc1⟩ := hp
        subst e1
        have hT := hJ.c (hJ.1) hc1
        refine g_aload_n C hl dL_law_585 rfl ?_
        refine g_aload_n C hl dL_law_586 rfl ?_
        refine g_iload_n C hl dL_law_587 rfl ?_
        refine g_iconst 1 C dL_law_588 (by decide) ?_
        refine g_iadd C dL_law_589 ?_
        refine va_sld C.1 C.2.1 hX hbl hbA hS (vp_in_nI (by omega) (by omega)) dL_law_590 ?_
        rw [nI_clamp (by omega)]
        refine g_callV C hl.1 hR hS rc_X9 md_X9_window ml_L_86 (g8 (c_X9_window l hI hT.1 hT.2.2.2)) rfl rfl ⟨Nat.le_of_ble_eq_true rfl, Nat.le_of_ble_eq_true rfl⟩ hcs (Nat.le_of_ble_eq_true rfl) dL_law_591 (fun v mem3 H locs hp hR hS => ?_)
        obtain ⟨e1, hr1⟩ := hp
        subst e1
        have hN := hT.r hr1
        refine lv_icmp_eq (tgt := 757) C.1 C.2.1 dL_law_594 (by decide) (fun _ => ?_) (fun z9 => absurd rfl z9)
        refine g_iinc (k := 4) C hl dL_law_757 rfl (by decide) (fun ls hl => ?_)
        refine g_goto (tgt := 18) C dL_law_760 (by decide) ?_
        exact ih (i + 4) (by omega) (by omega) _ _ hN ls H locs hl hR hS
      · -- case 17
        refine lv_tableIn (tgt := 599) C.1 C.2.1 dL_law_32 (by decide) (by decide) rfl (by decide) ?_
        refine g_aload_n C hl dL_law_599 rfl ?_
        refine g_aload_n C hl dL_law_600 rfl ?_
        refine g_iload_n C hl dL_law_601 rfl ?_
        refine g_iconst 1 C dL_law_602 (by decide) ?_
        refine g_iadd C dL_law_603 ?_
        refine va_sld C.1 C.2.1 hX hbl hbA hS (vp_in_nI (by omega) (by omega)) dL_law_604 ?_
        rw [nI_clamp (by omega)]
        refine g_aload_n C hl dL_law_605 rfl ?_
        refine g_iload_n C hl dL_law_606 rfl ?_
        refine g_iconst 2 C dL_law_607 (by decide) ?_
        refine g_iadd C dL_law_608 ?_
        refine va_sld C.1 C.2.1 hX hbl hbA hS (vp_in_nI (by omega) (by omega)) dL_law_609 ?_
        rw [nI_clamp (by omega)]
        refine g_callV C hl.1 hR hS rc_X8 md_X8_frame ml_L_87 (c_X8_frame l hI hJ.1 hJ.2.1) rfl rfl ⟨Nat.le_of_ble_eq_true rfl, Nat.le_of_ble_eq_true rfl⟩ hcs (Nat.le_of_ble_eq_true rfl) dL_law_610 (fun v mem2 H locs hp hR hS => ?_)
        obtain ⟨e1, hc1⟩ := hp
        subst e1
        have hT := hJ.c (hJ.1) hc1
        refine g_aload_n C hl dL_law_613 rfl ?_
        refine g_aload_n C hl dL_law_614 rfl ?_
        refine g_iload_n C hl dL_law_615 rfl ?_
        refine g_iconst 1 C dL_law_616 (by decide) ?_
        refine g_iadd C dL_law_617 ?_
        refine va_sld C.1 C.2.1 hX hbl hbA hS (vp_in_nI (by omega) (by omega)) dL_law_618 ?_
        rw [nI_clamp (by omega)]
        refine g_aload_n C hl dL_law_619 rfl ?_
        refine g_iload_n C hl dL_law_620 rfl ?_
        refine g_iconst 2 C dL_law_621 (by decide) ?_
        refine g_iadd C dL_law_622 ?_
        refine va_sld C.1 C.2.1 hX hbl hbA hS (vp_in_nI (by omega) (by omega)) dL_law_623 ?_
        rw [nI_clamp (by omega)]
        refine g_callV C hl.1 hR hS rc_X9 md_X9_frame ml_L_90 (g8 (c_X9_frame l hI hT.1 hT.2.2.2)) rfl rfl ⟨Nat.le_of_ble_eq_true rfl, Nat.le_of_ble_eq_true rfl⟩ hcs (Nat.le_of_ble_eq_true rfl) dL_law_624 (fun v mem3 H locs hp hR hS => ?_)
        obtain ⟨e1, hr1⟩ := hp
        subst e1
        have hN := hT.r hr1
        refine lv_icmp_eq (tgt := 757) C.1 C.2.1 dL_law_627 (by decide) (fun _ => ?_) (fun z9 => absurd rfl z9)
        refine g_iinc (k := 4) C hl dL_law_757 rfl (by decide) (fun ls hl => ?_)
        refine g_goto (tgt := 18) C dL_law_760 (by decide) ?_
        exact ih (i + 4) (by omega) (by omega) _ _ hN ls H locs hl hR hS
      · -- case 18
        refine lv_tableIn (tgt := 632) C.1 C.2.1 dL_law_32 (by decide) (by decide) rfl (by decide) ?_
        refine g_aload_n C hl dL_law_632 rfl ?_
        refine g_aload_n C hl dL_law_633 rfl ?_
        refine g_iload_n C hl dL_law_634 rfl ?_
        refine g_iconst 1 C dL_law_635 (by decide) ?_
        refine g_iadd C dL_law_636 ?_
        refine va_sld C.1 C.2.1 hX hbl hbA hS (vp_in_nI (by omega) (by omega)) dL_law_637 ?_
        rw [nI_clamp (by omega)]
        refine g_aload_n C hl dL_law_638 rfl ?_
        refine g_iload_n C hl dL_law_639 rfl ?_
        refine g_iconst 2 C dL_law_640 (by decide) ?_
        refine g_iadd C dL_law_641 ?_
        refine va_sld C.1 C.2.1 hX hbl hbA hS (vp_in_nI (by omega) (by omega)) dL_law_642 ?_
        rw [nI_clamp (by omega)]
        refine g_callV C hl.1 hR hS rc_X8 md_X8_latest ml_L_91 (c_X8_latest l hI hJ.1 hJ.2.1) rfl rfl ⟨Nat.le_of_ble_eq_true rfl, Nat.le_of_ble_eq_true rfl⟩ hcs (Nat.le_of_ble_eq_true rfl) dL_law_643 (fun v mem2 H locs hp hR hS => ?_)
        obtain ⟨e1, hc1⟩ := hp
        subst e1
        have hT := hJ.c (hJ.1) hc1
        refine g_aload_n C hl dL_law_646 rfl ?_
        refine g_aload_n C hl dL_law_647 rfl ?_
        refine g_iload_n C hl dL_law_648 rfl ?_
        refine g_iconst 1 C dL_law_649 (by decide) ?_
        refine g_iadd C dL_law_650 ?_
        refine va_sld C.1 C.2.1 hX hbl hbA hS (vp_in_nI (by omega) (by omega)) dL_law_651 ?_
        rw [nI_clamp (by omega)]
        refine g_aload_n C hl dL_law_652 rfl ?_
        refine g_iload_n C hl dL_law_653 rfl ?_
        refine g_iconst 2 C dL_law_654 (by decide) ?_
        refine g_iadd C dL_law_655 ?_
        refine va_sld C.1 C.2.1 hX hbl hbA hS (vp_in_nI (by omega) (by omega)) dL_law_656 ?_
        rw [nI_clamp (by omega)]
        refine g_callV C hl.1 hR hS rc_X9 md_X9_latest ml_L_94 (g8 (c_X9_latest l hI hT.1 hT.2.2.2)) rfl rfl ⟨Nat.le_of_ble_eq_true rfl, Nat.le_of_ble_eq_true rfl⟩ hcs (Nat.le_of_ble_eq_true rfl) dL_law_657 (fun v mem3 H locs hp hR hS => ?_)
        obtain ⟨e1, hr1⟩ := hp
        subst e1
        have hN := hT.r hr1
        refine lv_icmp_eq (tgt := 757) C.1 C.2.1 dL_law_660 (by decide) (fun _ => ?_) (fun z9 => absurd rfl z9)
        refine g_iinc (k := 4) C hl dL_law_757 rfl (by decide) (fun ls hl => ?_)
        refine g_goto (tgt := 18) C dL_law_760 (by decide) ?_
        exact ih (i + 4) (by omega) (by omega) _ _ hN ls H locs hl hR hS
      · -- case 19
        refine lv_tableIn (tgt := 665) C.1 C.2.1 dL_law_32 (by decide) (by decide) rfl (by decide) ?_
        refine g_aload_n C hl dL_law_665 rfl ?_
        refine g_aload_n C hl dL_law_666 rfl ?_
        refine g_iload_n C hl dL_law_667 rfl ?_
        refine g_iconst 1 C dL_law_668 (by decide) ?_
        refine g_iadd C dL_law_669 ?_
        refine va_sld C.1 C.2.1 hX hbl hbA hS (vp_in_nI (by omega) (by omega)) dL_law_670 ?_
        rw [nI_clamp (by omega)]
        refine g_callV C hl.1 hR hS rc_X8 md_X8_next ml_L_95 (c_X8_next l hI hJ.1 hJ.2.1) rfl rfl ⟨Nat.le_of_ble_eq_true rfl, Nat.le_of_ble_eq_true rfl⟩ hcs (Nat.le_of_ble_eq_true rfl) dL_law_671 (fun v mem2 H locs hp hR hS => ?_)
        obtain ⟨e1, hc1⟩ := hp
        subst e1
        have hT := hJ.c (hJ.1) hc1
        refine g_aload_n C hl dL_law_674 rfl ?_
        refine g_aload_n C hl dL_law_675 rfl ?_
        refine g_iload_n C hl dL_law_676 rfl ?_
        refine g_iconst 1 C dL_law_677 (by decide) ?_
        refine g_iadd C dL_law_678 ?_
        refine va_sld C.1 C.2.1 hX hbl hbA hS (vp_in_nI (by omega) (by omega)) dL_law_679 ?_
        rw [nI_clamp (by omega)]
        refine g_callV C hl.1 hR hS rc_X9 md_X9_next ml_L_98 (g8 (c_X9_next l hI hT.1 hT.2.2.2)) rfl rfl ⟨Nat.le_of_ble_eq_true rfl, Nat.le_of_ble_eq_true rfl⟩ hcs (Nat.le_of_ble_eq_true rfl) dL_law_680 (fun v mem3 H locs hp hR hS => ?_)
        obtain ⟨e1, hr1⟩ := hp
        subst e1
        have hN := hT.r hr1
        refine lv_icmp_eq (tgt := 757) C.1 C.2.1 dL_law_683 (by decide) (fun _ => ?_) (fun z9 => absurd rfl z9)
        refine g_iinc (k := 4) C hl dL_law_757 rfl (by decide) (fun ls hl => ?_)
        refine g_goto (tgt := 18) C dL_law_760 (by decide) ?_
        exact ih (i + 4) (by omega) (by omega) _ _ hN ls H locs hl hR hS
      · -- case 20
        refine lv_tableIn (tgt := 688) C.1 C.2.1 dL_law_32 (by decide) (by decide) rfl (by decide) ?_
        refine g_aload_n C hl dL_law_688 rfl ?_
        refine g_aload_n C hl dL_law_689 rfl ?_
        refine g_iload_n C hl dL_law_690 rfl ?_
        refine g_iconst 1 C dL_law_691 (by decide) ?_
        refine g_iadd C dL_law_692 ?_
        refine va_sld C.1 C.2.1 hX hbl hbA hS (vp_in_nI (by omega) (by omega)) dL_law_693 ?_
        rw [nI_clamp (by omega)]
        refine g_aload_n C hl dL_law_694 rfl ?_
        refine g_iload_n C hl dL_law_695 rfl ?_
        refine g_iconst 2 C dL_law_696 (by decide) ?_
        refine g_iadd C dL_law_697 ?_
        refine va_sld C.1 C.2.1 hX hbl hbA hS (vp_in_nI (by omega) (by omega)) dL_law_698 ?_
        rw [nI_clamp (by omega)]
        refine g_callV C hl.1 hR hS rc_X8 md_X8_ifRun ml_L_99 (c_X8_ifRun l hI hJ.1 hJ.2.1) rfl rfl ⟨Nat.le_of_ble_eq_true rfl, Nat.le_of_ble_eq_true rfl⟩ hcs (Nat.le_of_ble_eq_true rfl) dL_law_699 (fun v mem2 H locs hp hR hS => ?_)
        obtain ⟨e1, hc1⟩ := hp
        subst e1
        have hT := hJ.c (hJ.1) hc1
        refine g_aload_n C hl dL_law_702 rfl ?_
        refine g_aload_n C hl dL_law_703 rfl ?_
        refine g_iload_n C hl dL_law_704 rfl ?_
        refine g_iconst 1 C dL_law_705 (by decide) ?_
        refine g_iadd C dL_law_706 ?_
        refine va_sld C.1 C.2.1 hX hbl hbA hS (vp_in_nI (by omega) (by omega)) dL_law_707 ?_
        rw [nI_clamp (by omega)]
        refine g_aload_n C hl dL_law_708 rfl ?_
        refine g_iload_n C hl dL_law_709 rfl ?_
        refine g_iconst 2 C dL_law_710 (by decide) ?_
        refine g_iadd C dL_law_711 ?_
        refine va_sld C.1 C.2.1 hX hbl hbA hS (vp_in_nI (by omega) (by omega)) dL_law_712 ?_
        rw [nI_clamp (by omega)]
        refine g_callV C hl.1 hR hS rc_X9 md_X9_ifRun ml_L_102 (g8 (c_X9_ifRun l hI hT.1 hT.2.2.2)) rfl rfl ⟨Nat.le_of_ble_eq_true rfl, Nat.le_of_ble_eq_true rfl⟩ hcs (Nat.le_of_ble_eq_true rfl) dL_law_713 (fun v mem3 H locs hp hR hS => ?_)
        obtain ⟨e1, hr1⟩ := hp
        subst e1
        have hN := hT.r hr1
        refine lv_icmp_eq (tgt := 757) C.1 C.2.1 dL_law_716 (by decide) (fun _ => ?_) (fun z9 => absurd rfl z9)
        refine g_iinc (k := 4) C hl dL_law_757 rfl (by decide) (fun ls hl => ?_)
        refine g_goto (tgt := 18) C dL_law_760 (by decide) ?_
        exact ih (i + 4) (by omega) (by omega) _ _ hN ls H locs hl hR hS
      · -- case 21
        refine lv_tableIn (tgt := 721) C.1 C.2.1 dL_law_32 (by decide) (by decide) rfl (by decide) ?_
        refine g_aload_n C hl dL_law_721 rfl ?_
        refine g_callV C hl.1 hR hS rc_X8 md_X8_backIn ml_L_103 (c_X8_backIn l hI hJ.1 hJ.2.1) rfl rfl ⟨Nat.le_of_ble_eq_true rfl, Nat.le_of_ble_eq_true rfl⟩ hcs (Nat.le_of_ble_eq_true rfl) dL_law_722 (fun v mem2 H locs hp hR hS => ?_)
        obtain ⟨e1, hc1⟩ := hp
        subst e1
        have hT := hJ.c (hJ.1) hc1
        refine g_aload_n C hl dL_law_725 rfl ?_
        refine g_callV C hl.1 hR hS rc_X9 md_X9_backIn ml_L_106 (g8 (c_X9_backIn l hI hT.1 hT.2.2.2)) rfl rfl ⟨Nat.le_of_ble_eq_true rfl, Nat.le_of_ble_eq_true rfl⟩ hcs (Nat.le_of_ble_eq_true rfl) dL_law_726 (fun v mem3 H locs hp hR hS => ?_)
        obtain ⟨e1, hr1⟩ := hp
        subst e1
        have hN := hT.r hr1
        refine lv_icmp_eq (tgt := 757) C.1 C.2.1 dL_law_729 (by decide) (fun _ => ?_) (fun z9 => absurd rfl z9)
        refine g_iinc (k := 4) C hl dL_law_757 rfl (by decide) (fun ls hl => ?_)
        refine g_goto (tgt := 18) C dL_law_760 (by decide) ?_
        exact ih (i + 4) (by omega) (by omega) _ _ hN ls H locs hl hR hS
      · -- case 22
        refine lv_tableIn (tgt := 734) C.1 C.2.1 dL_law_32 (by decide) (by decide) rfl (by decide) ?_
        refine g_aload_n C hl dL_law_734 rfl ?_
        refine g_aload_n C hl dL_law_735 rfl ?_
        refine g_iload_n C hl dL_law_736 rfl ?_
        refine g_iconst 1 C dL_law_737 (by decide) ?_
        refine g_iadd C dL_law_738 ?_
        refine va_sld C.1 C.2.1 hX hbl hbA hS (vp_in_nI (by omega) (by omega)) dL_law_739 ?_
        rw [nI_clamp (by omega)]
        refine g_callV C hl.1 hR hS rc_X8 md_X8_count ml_L_107 (c_X8_count l hI hJ.1 hJ.2.1) rfl rfl ⟨Nat.le_of_ble_eq_true rfl, Nat.le_of_ble_eq_true rfl⟩ hcs (Nat.le_of_ble_eq_true rfl) dL_law_740 (fun v mem2 H locs hp hR hS => ?_)
        obtain ⟨e1, hc1⟩ := hp
        subst e1
        have hT := hJ.c (hJ.1) hc1
        refine g_aload_n C hl dL_law_743 rfl ?_
        refine g_aload_n C hl dL_law_744 rfl ?_
        refine g_iload_n C hl dL_law_745 rfl ?_
        refine g_iconst 1 C dL_law_746 (by decide) ?_
        refine g_iadd C dL_law_747 ?_
        refine va_sld C.1 C.2.1 hX hbl hbA hS (vp_in_nI (by omega) (by omega)) dL_law_748 ?_
        rw [nI_clamp (by omega)]
        refine g_callV C hl.1 hR hS rc_X9 md_X9_count ml_L_110 (g8 (c_X9_count l hI hT.1 hT.2.2.2)) rfl rfl ⟨Nat.le_of_ble_eq_true rfl, Nat.le_of_ble_eq_true rfl⟩ hcs (Nat.le_of_ble_eq_true rfl) dL_law_749 (fun v mem3 H locs hp hR hS => ?_)
        obtain ⟨e1, hr1⟩ := hp
        subst e1
        have hN := hT.r hr1
        refine lv_icmp_eq (tgt := 757) C.1 C.2.1 dL_law_752 (by decide) (fun _ => ?_) (fun z9 => absurd rfl z9)
        refine g_iinc (k := 4) C hl dL_law_757 rfl (by decide) (fun ls hl => ?_)
        refine g_goto (tgt := 18) C dL_law_760 (by decide) ?_
        exact ih (i + 4) (by omega) (by omega) _ _ hN ls H locs hl hR hS
    · refine lv_tableOut (tgt := 757) C.1 C.2.1 dL_law_32 (Or.inr (by rw [nI_toInt (by omega)]; omega)) (by decide) ?_
      have hN := hJ
      refine g_iinc (k := 4) C hl dL_law_757 rfl (by decide) (fun ls hl => ?_)
      refine g_goto (tgt := 18) C dL_law_760 (by decide) ?_
      exact ih (i + 4) (by omega) (by omega) _ _ hN ls H locs hl hR hS
