/-! ===== the law: a number is put ===== -/
theorem aPut_in {S : aS} {b i n : Nat} (hb : b < 8) (hi : i < 16) (hn : n ≤ 999) : (aPut S (nI b) (nI i) (nI n)).1 = (if aZ S (zIx b i) = n then -5 else nI (aZ S (zIx b i))) ∧ aZ (aPut S (nI b) (nI i) (nI n)).2 = fU (aZ S) (zIx b i) n := by
  by_cases h : aZ S (zIx b i) = n
  · rw [aPut_4 (by omega) (by omega) hn h, if_pos h]
    exact ⟨rfl, (fU_same h).symm⟩
  · rw [aPut_5 (by omega) (by omega) hn h, if_neg h]
    exact ⟨rfl, rfl⟩
set_option maxRecDepth 100000 in
set_option maxHeartbeats 4000000 in
/-- L_puts -/
theorem c_L_puts (l : Launch) {X : gX} (hI : gInj X) {mem : gM} (hk : uG X 8) {S : aS} (hJ : lR S mem) {x y : Int32} : gMt l yL_puts cL_puts 12 (some .boolean) 6 156 X [.ref (gAd X 7 0), .int x, .int y, .ref (gAd X 8 0), .ref (gAd X 8 1), .ref (gAd X 8 2)] mem (fun v9 m9 => v9 = some (.int (nI 1)) ∧ ∃ T, lR T m9 ∧ aZ T 178 ≤ aZ S 178 + 60) := by
  refine gMt.of (own := RL) (by decide) rfl hI (by simp [Value.category]) (Nat.le_of_ble_eq_true rfl) ?_
  intro p e s m args below meth c ls H locs C hnm hl hR hS
  have hM := hJ.2.2
  have hz : zI (aZ S) := hJ.1.1.1
  have fin : ∀ (b i n : Nat) (v1 v2 : Option Value), b < 8 → i < 16 → n ≤ 999 → ∀ (ls : Array Slot) (H : Heap) (locs : List Loc), gL ls [some (.ref (gAd X 7 0)), some (.int x), some (.int y), some (.ref (gAd X 8 0)), some (.ref (gAd X 8 1)), some (.ref (gAd X 8 2)), some (.int (nI b)), some (.int (nI i)), v1, v2, some (.int (nI n)), none] → gRep X mem H → va_S (gA X) s.heap H locs → W p l e { frames := 6, cells := 0, slots := 0, locals := 156 } s m args below meth c H locs 0 0 (MQ below (gQ X (fun v9 m9 => v9 = some (.int (nI 1)) ∧ ∃ T, lR T m9 ∧ aZ T 178 ≤ aZ S 178 + 60)) args s 0 0 (gA X)) (F0 m 197 ls []) := by
    intro b i n v1 v2 hb hi hn ls H locs hl hR hS
    have hx9 := zIx_lt hb hi
    have hF : uF 8 mem mem := uF.rf
    refine g_aload C hl dL_puts_197 rfl ?_
    refine g_aload C hl dL_puts_199 rfl ?_
    refine g_iload C hl dL_puts_201 rfl ?_
    refine g_iload C hl dL_puts_203 rfl ?_
    refine g_callSi C hl.1 hR hS md_L_cell ml_L_9 (c_L_cell l hI hk hM hb hi) rfl rfl ⟨Nat.le_of_ble_eq_true rfl, Nat.le_of_ble_eq_true rfl⟩ ⟨Nat.le_refl _, Nat.le_refl _⟩ (Nat.le_of_ble_eq_true rfl) dL_puts_205 (fun H locs hR hS => ?_)
    refine g_istore C hl dL_puts_208 (Nat.le_of_ble_eq_true rfl) (fun ls hl => ?_)
    refine g_aload C hl dL_puts_210 rfl ?_
    refine g_aload C hl dL_puts_212 rfl ?_
    refine g_iload C hl dL_puts_214 rfl ?_
    refine g_iload C hl dL_puts_216 rfl ?_
    refine g_iload C hl dL_puts_218 rfl ?_
    refine g_callU C hl.1 hF hR hS md_L_put ml_L_19 (c_L_put l hI hk hM hb hi) rfl rfl ⟨Nat.le_of_ble_eq_true rfl, Nat.le_of_ble_eq_true rfl⟩ ⟨Nat.le_refl _, Nat.le_refl _⟩ (Nat.le_of_ble_eq_true rfl) dL_puts_220 (fun mem hM hF H locs hR hS => ?_)
    have hc := aCl_u hJ.2.1 (by decide) hF
    refine g_aload_n C hl dL_puts_223 rfl ?_
    refine g_iload C hl dL_puts_224 rfl ?_
    refine g_iload C hl dL_puts_226 rfl ?_
    refine g_iload C hl dL_puts_228 rfl ?_
    refine g_callV C hl.1 hR hS rc_X8 md_X8_put ml_L_69 (c_X8_put l hI hJ.1 hc) rfl rfl ⟨Nat.le_of_ble_eq_true rfl, Nat.le_of_ble_eq_true rfl⟩ ⟨Nat.le_refl _, Nat.le_refl _⟩ (Nat.le_of_ble_eq_true rfl) dL_puts_230 (fun v mem H locs hp hR hS => ?_)
    obtain ⟨e9, hc9⟩ := hp
    subst e9
    have hP := aPut_in (S := S) hb hi hn
    obtain ⟨T, hT, hJ⟩ : ∃ T, aZ T 178 ≤ aZ S 178 + 60 ∧ lR T mem := ⟨_, by
      rw [hP.2, fU_n _ _ (by omega)]
      omega, aI_put hJ.1 hJ.n4.1 _ _ _, hc9.1, by
      rw [hc9.2 8 (by decide), hP.2]
      exact hM⟩
    refine g_iload C hl dL_puts_233 rfl ?_
    refine g_iload C hl dL_puts_235 rfl ?_
    refine g_icmp_ne (tgt := 245) C dL_puts_237 (by decide) (by have := hz.1 _ hx9; omega) (by have := hz.1 _ hx9; omega) (fun c237 => ?_) (fun c237 => ?_)
    · -- 237 T
      refine g_iload C hl dL_puts_245 rfl ?_
      refine lv_icmp_ne (tgt := 294) C.1 C.2.1 dL_puts_247 (by decide) (fun z9 => absurd (by rw [hP.1, if_neg c237]) z9) (fun _ => ?_)
      refine g_aload_n C hl dL_puts_250 rfl ?_
      refine g_bipush 8 C dL_puts_251 (by decide) ?_
      refine g_iconst 0 C dL_puts_253 (by decide) ?_
      refine g_iconst 0 C dL_puts_254 (by decide) ?_
      refine g_callV C hl.1 hR hS rc_X8 md_X8_put ml_L_69 (c_X8_put l hI hJ.1 hJ.2.1) rfl rfl ⟨Nat.le_of_ble_eq_true rfl, Nat.le_of_ble_eq_true rfl⟩ ⟨Nat.le_refl _, Nat.le_refl _⟩ (Nat.le_of_ble_eq_true rfl) dL_puts_255 (fun v mem H locs hp hR hS => ?_)
      obtain ⟨e9, hc9⟩ := hp
      rw [aPut_1 (by decide)] at e9 hc9
      subst e9
      have hJ := hJ.ob hc9
      refine g_iconstM (-1) C dL_puts_258 (by decide) ?_
      refine lv_icmp_ne (tgt := 294) C.1 C.2.1 dL_puts_259 (by decide) (fun z9 => absurd rfl z9) (fun _ => ?_)
      refine g_aload_n C hl dL_puts_262 rfl ?_
      refine g_iconst 0 C dL_puts_263 (by decide) ?_
      refine g_bipush 16 C dL_puts_264 (by decide) ?_
      refine g_sipush 1000 C dL_puts_266 (by decide) ?_
      refine g_callV C hl.1 hR hS rc_X8 md_X8_put ml_L_69 (c_X8_put l hI hJ.1 hJ.2.1) rfl rfl ⟨Nat.le_of_ble_eq_true rfl, Nat.le_of_ble_eq_true rfl⟩ ⟨Nat.le_refl _, Nat.le_refl _⟩ (Nat.le_of_ble_eq_true rfl) dL_puts_269 (fun v mem H locs hp hR hS => ?_)
      obtain ⟨e9, hc9⟩ := hp
      rw [aPut_2 (by decide)] at e9 hc9
      subst e9
      have hJ := hJ.ob hc9
      refine g_iconstM (-1) C dL_puts_272 (by decide) ?_
      refine lv_icmp_ne (tgt := 294) C.1 C.2.1 dL_puts_273 (by decide) (fun z9 => absurd rfl z9) (fun _ => ?_)
      refine g_aload_n C hl dL_puts_276 rfl ?_
      refine g_iconst 0 C dL_puts_277 (by decide) ?_
      refine g_iconst 0 C dL_puts_278 (by decide) ?_
      refine g_sipush 1000 C dL_puts_279 (by decide) ?_
      refine g_callV C hl.1 hR hS rc_X8 md_X8_put ml_L_69 (c_X8_put l hI hJ.1 hJ.2.1) rfl rfl ⟨Nat.le_of_ble_eq_true rfl, Nat.le_of_ble_eq_true rfl⟩ ⟨Nat.le_refl _, Nat.le_refl _⟩ (Nat.le_of_ble_eq_true rfl) dL_puts_282 (fun v mem H locs hp hR hS => ?_)
      obtain ⟨e9, hc9⟩ := hp
      rw [aPut_3 (by decide) (by decide) (by decide)] at e9 hc9
      subst e9
      have hJ := hJ.ob hc9
      refine g_bipushM (-2) C dL_puts_285 (by decide) ?_
      refine lv_icmp_ne (tgt := 294) C.1 C.2.1 dL_puts_287 (by decide) (fun z9 => absurd rfl z9) (fun _ => ?_)
      refine g_iconst 1 C dL_puts_290 (by decide) ?_
      refine g_goto (tgt := 295) C dL_puts_291 (by decide) ?_
      refine g_zret C hR hS dL_puts_295 rfl ?_
      exact ⟨rfl, T, hJ, hT⟩
    · -- 237 F
      refine g_bipushM (-5) C dL_puts_240 (by decide) ?_
      refine g_goto (tgt := 247) C dL_puts_242 (by decide) ?_
      refine lv_icmp_ne (tgt := 294) C.1 C.2.1 dL_puts_247 (by decide) (fun z9 => absurd (by rw [hP.1, if_pos c237]) z9) (fun _ => ?_)
      refine g_aload_n C hl dL_puts_250 rfl ?_
      refine g_bipush 8 C dL_puts_251 (by decide) ?_
      refine g_iconst 0 C dL_puts_253 (by decide) ?_
      refine g_iconst 0 C dL_puts_254 (by decide) ?_
      refine g_callV C hl.1 hR hS rc_X8 md_X8_put ml_L_69 (c_X8_put l hI hJ.1 hJ.2.1) rfl rfl ⟨Nat.le_of_ble_eq_true rfl, Nat.le_of_ble_eq_true rfl⟩ ⟨Nat.le_refl _, Nat.le_refl _⟩ (Nat.le_of_ble_eq_true rfl) dL_puts_255 (fun v mem H locs hp hR hS => ?_)
      obtain ⟨e9, hc9⟩ := hp
      rw [aPut_1 (by decide)] at e9 hc9
      subst e9
      have hJ := hJ.ob hc9
      refine g_iconstM (-1) C dL_puts_258 (by decide) ?_
      refine lv_icmp_ne (tgt := 294) C.1 C.2.1 dL_puts_259 (by decide) (fun z9 => absurd rfl z9) (fun _ => ?_)
      refine g_aload_n C hl dL_puts_262 rfl ?_
      refine g_iconst 0 C dL_puts_263 (by decide) ?_
      refine g_bipush 16 C dL_puts_264 (by decide) ?_
      refine g_sipush 1000 C dL_puts_266 (by decide) ?_
      refine g_callV C hl.1 hR hS rc_X8 md_X8_put ml_L_69 (c_X8_put l hI hJ.1 hJ.2.1) rfl rfl ⟨Nat.le_of_ble_eq_true rfl, Nat.le_of_ble_eq_true rfl⟩ ⟨Nat.le_refl _, Nat.le_refl _⟩ (Nat.le_of_ble_eq_true rfl) dL_puts_269 (fun v mem H locs hp hR hS => ?_)
      obtain ⟨e9, hc9⟩ := hp
      rw [aPut_2 (by decide)] at e9 hc9
      subst e9
      have hJ := hJ.ob hc9
      refine g_iconstM (-1) C dL_puts_272 (by decide) ?_
      refine lv_icmp_ne (tgt := 294) C.1 C.2.1 dL_puts_273 (by decide) (fun z9 => absurd rfl z9) (fun _ => ?_)
      refine g_aload_n C hl dL_puts_276 rfl ?_
      refine g_iconst 0 C dL_puts_277 (by decide) ?_
      refine g_iconst 0 C dL_puts_278 (by decide) ?_
      refine g_sipush 1000 C dL_puts_279 (by decide) ?_
      refine g_callV C hl.1 hR hS rc_X8 md_X8_put ml_L_69 (c_X8_put l hI hJ.1 hJ.2.1) rfl rfl ⟨Nat.le_of_ble_eq_true rfl, Nat.le_of_ble_eq_true rfl⟩ ⟨Nat.le_refl _, Nat.le_refl _⟩ (Nat.le_of_ble_eq_true rfl) dL_puts_282 (fun v mem H locs hp hR hS => ?_)
      obtain ⟨e9, hc9⟩ := hp
      rw [aPut_3 (by decide) (by decide) (by decide)] at e9 hc9
      subst e9
      have hJ := hJ.ob hc9
      refine g_bipushM (-2) C dL_puts_285 (by decide) ?_
      refine lv_icmp_ne (tgt := 294) C.1 C.2.1 dL_puts_287 (by decide) (fun z9 => absurd rfl z9) (fun _ => ?_)
      refine g_iconst 1 C dL_puts_290 (by decide) ?_
      refine g_goto (tgt := 295) C dL_puts_291 (by decide) ?_
      refine g_zret C hR hS dL_puts_295 rfl ?_
      exact ⟨rfl, T, hJ, hT⟩
  have mid : ∀ (b i kd n : Nat), b < 8 → i < 16 → kd < 10 → n < 100 → ∀ (ls : Array Slot) (H : Heap) (locs : List Loc), gL ls [some (.ref (gAd X 7 0)), some (.int x), some (.int y), some (.ref (gAd X 8 0)), some (.ref (gAd X 8 1)), some (.ref (gAd X 8 2)), some (.int (nI b)), some (.int (nI i)), some (.int (nI kd)), some (.int (nI n)), none, none] → gRep X mem H → va_S (gA X) s.heap H locs → W p l e { frames := 6, cells := 0, slots := 0, locals := 156 } s m args below meth c H locs 0 0 (MQ below (gQ X (fun v9 m9 => v9 = some (.int (nI 1)) ∧ ∃ T, lR T m9 ∧ aZ T 178 ≤ aZ S 178 + 60)) args s 0 0 (gA X)) (F0 m 168 ls []) := by
    intro b i kd n hb hi hkd hn ls H locs hl hR hS
    refine g_iload_n C hl dL_puts_168 rfl ?_
    refine g_bipush 7 C dL_puts_169 (by decide) ?_
    refine lv_iand C.1 C.2.1 dL_puts_171 ?_
    refine lv_if_ne (tgt := 187) C.1 C.2.1 dL_puts_172 (by decide) (fun _ => ?_) (fun _ => ?_)
    · -- 172 T
      refine g_bipush 100 C dL_puts_187 (by decide) ?_
      refine g_iload C hl dL_puts_189 rfl ?_
      refine g_imul C dL_puts_191 ?_
      refine g_iload C hl dL_puts_192 rfl ?_
      refine g_iadd C dL_puts_194 ?_
      refine g_istore C hl dL_puts_195 (Nat.le_of_ble_eq_true rfl) (fun ls hl => ?_)
      exact fin _ _ _ _ _ hb hi (by omega) _ _ _ hl hR hS
    · -- 172 F
      refine g_iload_n C hl dL_puts_175 rfl ?_
      refine g_iconst 4 C dL_puts_176 (by decide) ?_
      refine lv_ishr C.1 C.2.1 dL_puts_177 ?_
      refine g_sipush 1000 C dL_puts_178 (by decide) ?_
      refine g_callS C hl.1 hR hS md_L_low ml_L_66 (c_L_low l hI (by decide) (by decide)) rfl rfl ⟨Nat.le_of_ble_eq_true rfl, Nat.le_of_ble_eq_true rfl⟩ ⟨Nat.le_refl _, Nat.le_refl _⟩ (Nat.le_of_ble_eq_true rfl) dL_puts_181 (fun v mem2 H locs hp hR hS => ?_)
      obtain ⟨r, hr, e9, e8⟩ := hp
      subst e9
      rw [e8] at hR
      clear e8
      refine g_goto (tgt := 195) C dL_puts_184 (by decide) ?_
      refine g_istore C hl dL_puts_195 (Nat.le_of_ble_eq_true rfl) (fun ls hl => ?_)
      exact fin _ _ _ _ _ hb hi (by omega) _ _ _ hl hR hS
  have knd : ∀ (b i kd : Nat), b < 8 → i < 16 → kd < 10 → ∀ (ls : Array Slot) (H : Heap) (locs : List Loc), gL ls [some (.ref (gAd X 7 0)), some (.int x), some (.int y), some (.ref (gAd X 8 0)), some (.ref (gAd X 8 1)), some (.ref (gAd X 8 2)), some (.int (nI b)), some (.int (nI i)), some (.int (nI kd)), none, none, none] → gRep X mem H → va_S (gA X) s.heap H locs → W p l e { frames := 6, cells := 0, slots := 0, locals := 156 } s m args below meth c H locs 0 0 (MQ below (gQ X (fun v9 m9 => v9 = some (.int (nI 1)) ∧ ∃ T, lR T m9 ∧ aZ T 178 ≤ aZ S 178 + 60)) args s 0 0 (gA X)) (F0 m 41 ls []) := by
    intro b i kd hb hi hkd ls H locs hl hR hS
    refine g_iload C hl dL_puts_41 rfl ?_
    refine g_iconst 1 C dL_puts_43 (by decide) ?_
    refine g_icmp_le (tgt := 81) C dL_puts_44 (by decide) (by omega) (by omega) (fun c44 => ?_) (fun c44 => ?_)
    · -- 44 T
      refine g_iload C hl dL_puts_81 rfl ?_
      refine g_bipush 6 C dL_puts_83 (by decide) ?_
      refine g_icmp_ne (tgt := 112) C dL_puts_85 (by decide) (by omega) (by omega) (fun c85 => ?_) (fun z9 => absurd z9 (by omega))
      refine g_iload C hl dL_puts_112 rfl ?_
      refine g_bipush 7 C dL_puts_114 (by decide) ?_
      refine g_icmp_ne (tgt := 157) C dL_puts_116 (by decide) (by omega) (by omega) (fun c116 => ?_) (fun z9 => absurd z9 (by omega))
      refine g_iload_n C hl dL_puts_157 rfl ?_
      refine g_bipush 7 C dL_puts_158 (by decide) ?_
      refine lv_ishr C.1 C.2.1 dL_puts_160 ?_
      refine g_bipush 100 C dL_puts_161 (by decide) ?_
      refine g_callS C hl.1 hR hS md_L_low ml_L_66 (c_L_low l hI (by decide) (by decide)) rfl rfl ⟨Nat.le_of_ble_eq_true rfl, Nat.le_of_ble_eq_true rfl⟩ ⟨Nat.le_refl _, Nat.le_refl _⟩ (Nat.le_of_ble_eq_true rfl) dL_puts_163 (fun v mem2 H locs hp hR hS => ?_)
      obtain ⟨r, hr, e9, e8⟩ := hp
      subst e9
      rw [e8] at hR
      clear e8
      refine g_istore C hl dL_puts_166 (Nat.le_of_ble_eq_true rfl) (fun ls hl => ?_)
      exact mid _ _ _ _ hb hi hkd (by omega) _ _ _ hl hR hS
    · -- 44 F
      refine g_iload C hl dL_puts_47 rfl ?_
      refine g_bipush 6 C dL_puts_49 (by decide) ?_
      refine g_icmp_ge (tgt := 81) C dL_puts_51 (by decide) (by omega) (by omega) (fun c51 => ?_) (fun c51 => ?_)
      · -- 51 T
        refine g_iload C hl dL_puts_81 rfl ?_
        refine g_bipush 6 C dL_puts_83 (by decide) ?_
        refine g_icmp_ne (tgt := 112) C dL_puts_85 (by decide) (by omega) (by omega) (fun c85 => ?_) (fun c85 => ?_)
        · -- 85 T
          refine g_iload C hl dL_puts_112 rfl ?_
          refine g_bipush 7 C dL_puts_114 (by decide) ?_
          refine g_icmp_ne (tgt := 157) C dL_puts_116 (by decide) (by omega) (by omega) (fun c116 => ?_) (fun c116 => ?_)
          · -- 116 T
            refine g_iload_n C hl dL_puts_157 rfl ?_
            refine g_bipush 7 C dL_puts_158 (by decide) ?_
            refine lv_ishr C.1 C.2.1 dL_puts_160 ?_
            refine g_bipush 100 C dL_puts_161 (by decide) ?_
            refine g_callS C hl.1 hR hS md_L_low ml_L_66 (c_L_low l hI (by decide) (by decide)) rfl rfl ⟨Nat.le_of_ble_eq_true rfl, Nat.le_of_ble_eq_true rfl⟩ ⟨Nat.le_refl _, Nat.le_refl _⟩ (Nat.le_of_ble_eq_true rfl) dL_puts_163 (fun v mem2 H locs hp hR hS => ?_)
            obtain ⟨r, hr, e9, e8⟩ := hp
            subst e9
            rw [e8] at hR
            clear e8
            refine g_istore C hl dL_puts_166 (Nat.le_of_ble_eq_true rfl) (fun ls hl => ?_)
            exact mid _ _ _ _ hb hi hkd (by omega) _ _ _ hl hR hS
          · -- 116 F
            refine g_bipush 10 C dL_puts_119 (by decide) ?_
            refine g_iload_n C hl dL_puts_121 rfl ?_
            refine g_bipush 7 C dL_puts_122 (by decide) ?_
            refine lv_ishr C.1 C.2.1 dL_puts_124 ?_
            refine g_iload_n C hl dL_puts_125 rfl ?_
            refine g_bipush 6 C dL_puts_126 (by decide) ?_
            refine lv_ishr C.1 C.2.1 dL_puts_128 ?_
            refine g_bipush 7 C dL_puts_129 (by decide) ?_
            refine lv_iand C.1 C.2.1 dL_puts_131 ?_
            refine lv_if_ne (tgt := 140) C.1 C.2.1 dL_puts_132 (by decide) (fun _ => ?_) (fun _ => ?_)
            · -- 132 T
              refine g_iconst 4 C dL_puts_140 (by decide) ?_
              refine g_callS C hl.1 hR hS md_L_low ml_L_66 (c_L_low l hI (by decide) (by decide)) rfl rfl ⟨Nat.le_of_ble_eq_true rfl, Nat.le_of_ble_eq_true rfl⟩ ⟨Nat.le_refl _, Nat.le_refl _⟩ (Nat.le_of_ble_eq_true rfl) dL_puts_141 (fun v mem2 H locs hp hR hS => ?_)
              obtain ⟨r1, hr1, e9, e8⟩ := hp
              subst e9
              rw [e8] at hR
              clear e8
              refine g_imul C dL_puts_144 ?_
              refine g_iload_n C hl dL_puts_145 rfl ?_
              refine g_bipush 11 C dL_puts_146 (by decide) ?_
              refine lv_ishr C.1 C.2.1 dL_puts_148 ?_
              refine g_iconst 3 C dL_puts_149 (by decide) ?_
              refine g_callS C hl.1 hR hS md_L_low ml_L_66 (c_L_low l hI (by decide) (by decide)) rfl rfl ⟨Nat.le_of_ble_eq_true rfl, Nat.le_of_ble_eq_true rfl⟩ ⟨Nat.le_refl _, Nat.le_refl _⟩ (Nat.le_of_ble_eq_true rfl) dL_puts_150 (fun v mem2 H locs hp hR hS => ?_)
              obtain ⟨r2, hr2, e9, e8⟩ := hp
              subst e9
              rw [e8] at hR
              clear e8
              refine g_iadd C dL_puts_153 ?_
              refine g_goto (tgt := 166) C dL_puts_154 (by decide) ?_
              refine g_istore C hl dL_puts_166 (Nat.le_of_ble_eq_true rfl) (fun ls hl => ?_)
              exact mid _ _ _ _ hb hi hkd (by omega) _ _ _ hl hR hS
            · -- 132 F
              refine g_bipush 10 C dL_puts_135 (by decide) ?_
              refine g_goto (tgt := 141) C dL_puts_137 (by decide) ?_
              refine g_callS C hl.1 hR hS md_L_low ml_L_66 (c_L_low l hI (by decide) (by decide)) rfl rfl ⟨Nat.le_of_ble_eq_true rfl, Nat.le_of_ble_eq_true rfl⟩ ⟨Nat.le_refl _, Nat.le_refl _⟩ (Nat.le_of_ble_eq_true rfl) dL_puts_141 (fun v mem2 H locs hp hR hS => ?_)
              obtain ⟨r1, hr1, e9, e8⟩ := hp
              subst e9
              rw [e8] at hR
              clear e8
              refine g_imul C dL_puts_144 ?_
              refine g_iload_n C hl dL_puts_145 rfl ?_
              refine g_bipush 11 C dL_puts_146 (by decide) ?_
              refine lv_ishr C.1 C.2.1 dL_puts_148 ?_
              refine g_iconst 3 C dL_puts_149 (by decide) ?_
              refine g_callS C hl.1 hR hS md_L_low ml_L_66 (c_L_low l hI (by decide) (by decide)) rfl rfl ⟨Nat.le_of_ble_eq_true rfl, Nat.le_of_ble_eq_true rfl⟩ ⟨Nat.le_refl _, Nat.le_refl _⟩ (Nat.le_of_ble_eq_true rfl) dL_puts_150 (fun v mem2 H locs hp hR hS => ?_)
              obtain ⟨r2, hr2, e9, e8⟩ := hp
              subst e9
              rw [e8] at hR
              clear e8
              refine g_iadd C dL_puts_153 ?_
              refine g_goto (tgt := 166) C dL_puts_154 (by decide) ?_
              refine g_istore C hl dL_puts_166 (Nat.le_of_ble_eq_true rfl) (fun ls hl => ?_)
              exact mid _ _ _ _ hb hi hkd (by omega) _ _ _ hl hR hS
        · -- 85 F
          refine g_bipush 10 C dL_puts_88 (by decide) ?_
          refine g_iload_n C hl dL_puts_90 rfl ?_
          refine g_bipush 7 C dL_puts_91 (by decide) ?_
          refine lv_ishr C.1 C.2.1 dL_puts_93 ?_
          refine g_iconst 4 C dL_puts_94 (by decide) ?_
          refine g_callS C hl.1 hR hS md_L_low ml_L_66 (c_L_low l hI (by decide) (by decide)) rfl rfl ⟨Nat.le_of_ble_eq_true rfl, Nat.le_of_ble_eq_true rfl⟩ ⟨Nat.le_refl _, Nat.le_refl _⟩ (Nat.le_of_ble_eq_true rfl) dL_puts_95 (fun v mem2 H locs hp hR hS => ?_)
          obtain ⟨r1, hr1, e9, e8⟩ := hp
          subst e9
          rw [e8] at hR
          clear e8
          refine g_imul C dL_puts_98 ?_
          refine g_iload_n C hl dL_puts_99 rfl ?_
          refine g_bipush 10 C dL_puts_100 (by decide) ?_
          refine lv_ishr C.1 C.2.1 dL_puts_102 ?_
          refine g_bipush 8 C dL_puts_103 (by decide) ?_
          refine g_callS C hl.1 hR hS md_L_low ml_L_66 (c_L_low l hI (by decide) (by decide)) rfl rfl ⟨Nat.le_of_ble_eq_true rfl, Nat.le_of_ble_eq_true rfl⟩ ⟨Nat.le_refl _, Nat.le_refl _⟩ (Nat.le_of_ble_eq_true rfl) dL_puts_105 (fun v mem2 H locs hp hR hS => ?_)
          obtain ⟨r2, hr2, e9, e8⟩ := hp
          subst e9
          rw [e8] at hR
          clear e8
          refine g_iadd C dL_puts_108 ?_
          refine g_goto (tgt := 166) C dL_puts_109 (by decide) ?_
          refine g_istore C hl dL_puts_166 (Nat.le_of_ble_eq_true rfl) (fun ls hl => ?_)
          exact mid _ _ _ _ hb hi hkd (by omega) _ _ _ hl hR hS
      · -- 51 F
        refine g_iload_n C hl dL_puts_54 rfl ?_
        refine g_bipush 7 C dL_puts_55 (by decide) ?_
        refine lv_ishr C.1 C.2.1 dL_puts_57 ?_
        refine g_iload_n C hl dL_puts_58 rfl ?_
        refine g_bipush 6 C dL_puts_59 (by decide) ?_
        refine lv_ishr C.1 C.2.1 dL_puts_61 ?_
        refine g_bipush 7 C dL_puts_62 (by decide) ?_
        refine lv_iand C.1 C.2.1 dL_puts_64 ?_
        refine lv_if_ne (tgt := 73) C.1 C.2.1 dL_puts_65 (by decide) (fun _ => ?_) (fun _ => ?_)
        · -- 65 T
          refine g_bipush 64 C dL_puts_73 (by decide) ?_
          refine g_callS C hl.1 hR hS md_L_low ml_L_66 (c_L_low l hI (by decide) (by decide)) rfl rfl ⟨Nat.le_of_ble_eq_true rfl, Nat.le_of_ble_eq_true rfl⟩ ⟨Nat.le_refl _, Nat.le_refl _⟩ (Nat.le_of_ble_eq_true rfl) dL_puts_75 (fun v mem2 H locs hp hR hS => ?_)
          obtain ⟨r, hr, e9, e8⟩ := hp
          subst e9
          rw [e8] at hR
          clear e8
          refine g_goto (tgt := 166) C dL_puts_78 (by decide) ?_
          refine g_istore C hl dL_puts_166 (Nat.le_of_ble_eq_true rfl) (fun ls hl => ?_)
          exact mid _ _ _ _ hb hi hkd (by omega) _ _ _ hl hR hS
        · -- 65 F
          refine g_bipush 100 C dL_puts_68 (by decide) ?_
          refine g_goto (tgt := 75) C dL_puts_70 (by decide) ?_
          refine g_callS C hl.1 hR hS md_L_low ml_L_66 (c_L_low l hI (by decide) (by decide)) rfl rfl ⟨Nat.le_of_ble_eq_true rfl, Nat.le_of_ble_eq_true rfl⟩ ⟨Nat.le_refl _, Nat.le_refl _⟩ (Nat.le_of_ble_eq_true rfl) dL_puts_75 (fun v mem2 H locs hp hR hS => ?_)
          obtain ⟨r, hr, e9, e8⟩ := hp
          subst e9
          rw [e8] at hR
          clear e8
          refine g_goto (tgt := 166) C dL_puts_78 (by decide) ?_
          refine g_istore C hl dL_puts_166 (Nat.le_of_ble_eq_true rfl) (fun ls hl => ?_)
          exact mid _ _ _ _ hb hi hkd (by omega) _ _ _ hl hR hS
  have bnk : ∀ (b : Nat), b < 8 → ∀ (ls : Array Slot) (H : Heap) (locs : List Loc), gL ls [some (.ref (gAd X 7 0)), some (.int x), some (.int y), some (.ref (gAd X 8 0)), some (.ref (gAd X 8 1)), some (.ref (gAd X 8 2)), some (.int (nI b)), none, none, none, none, none] → gRep X mem H → va_S (gA X) s.heap H locs → W p l e { frames := 6, cells := 0, slots := 0, locals := 156 } s m args below meth c H locs 0 0 (MQ below (gQ X (fun v9 m9 => v9 = some (.int (nI 1)) ∧ ∃ T, lR T m9 ∧ aZ T 178 ≤ aZ S 178 + 60)) args s 0 0 (gA X)) (F0 m 21 ls []) := by
    intro b hb ls H locs hl hR hS
    refine g_iload_n C hl dL_puts_21 rfl ?_
    refine g_iconst 3 C dL_puts_22 (by decide) ?_
    refine lv_ishr C.1 C.2.1 dL_puts_23 ?_
    refine g_bipush 16 C dL_puts_24 (by decide) ?_
    refine g_callS C hl.1 hR hS md_L_low ml_L_66 (c_L_low l hI (by decide) (by decide)) rfl rfl ⟨Nat.le_of_ble_eq_true rfl, Nat.le_of_ble_eq_true rfl⟩ ⟨Nat.le_refl _, Nat.le_refl _⟩ (Nat.le_of_ble_eq_true rfl) dL_puts_26 (fun v mem2 H locs hp hR hS => ?_)
    obtain ⟨r1, hr1, e9, e8⟩ := hp
    subst e9
    rw [e8] at hR
    clear e8
    refine g_istore C hl dL_puts_29 (Nat.le_of_ble_eq_true rfl) (fun ls hl => ?_)
    refine g_iload_n C hl dL_puts_31 rfl ?_
    refine g_iconst 3 C dL_puts_32 (by decide) ?_
    refine lv_ishr C.1 C.2.1 dL_puts_33 ?_
    refine g_bipush 10 C dL_puts_34 (by decide) ?_
    refine g_callS C hl.1 hR hS md_L_low ml_L_66 (c_L_low l hI (by decide) (by decide)) rfl rfl ⟨Nat.le_of_ble_eq_true rfl, Nat.le_of_ble_eq_true rfl⟩ ⟨Nat.le_refl _, Nat.le_refl _⟩ (Nat.le_of_ble_eq_true rfl) dL_puts_36 (fun v mem2 H locs hp hR hS => ?_)
    obtain ⟨r2, hr2, e9, e8⟩ := hp
    subst e9
    rw [e8] at hR
    clear e8
    refine g_istore C hl dL_puts_39 (Nat.le_of_ble_eq_true rfl) (fun ls hl => ?_)
    exact knd _ _ _ hb (by omega) (by omega) _ _ _ hl hR hS
  refine g_iload_n C hl dL_puts_0 rfl ?_
  refine g_iload_n C hl dL_puts_1 rfl ?_
  refine g_bipush 14 C dL_puts_2 (by decide) ?_
  refine lv_ishr C.1 C.2.1 dL_puts_4 ?_
  refine g_iconst 3 C dL_puts_5 (by decide) ?_
  refine lv_iand C.1 C.2.1 dL_puts_6 ?_
  refine lv_if_ne (tgt := 15) C.1 C.2.1 dL_puts_7 (by decide) (fun _ => ?_) (fun _ => ?_)
  · -- 7 T
    refine g_iconst 4 C dL_puts_15 (by decide) ?_
    refine g_callS C hl.1 hR hS md_L_low ml_L_66 (c_L_low l hI (by decide) (by decide)) rfl rfl ⟨Nat.le_of_ble_eq_true rfl, Nat.le_of_ble_eq_true rfl⟩ ⟨Nat.le_refl _, Nat.le_refl _⟩ (Nat.le_of_ble_eq_true rfl) dL_puts_16 (fun v mem2 H locs hp hR hS => ?_)
    obtain ⟨r, hr, e9, e8⟩ := hp
    subst e9
    rw [e8] at hR
    clear e8
    refine g_istore C hl dL_puts_19 (Nat.le_of_ble_eq_true rfl) (fun ls hl => ?_)
    exact bnk _ (by omega) _ _ _ hl hR hS
  · -- 7 F
    refine g_bipush 8 C dL_puts_10 (by decide) ?_
    refine g_goto (tgt := 16) C dL_puts_12 (by decide) ?_
    refine g_callS C hl.1 hR hS md_L_low ml_L_66 (c_L_low l hI (by decide) (by decide)) rfl rfl ⟨Nat.le_of_ble_eq_true rfl, Nat.le_of_ble_eq_true rfl⟩ ⟨Nat.le_refl _, Nat.le_refl _⟩ (Nat.le_of_ble_eq_true rfl) dL_puts_16 (fun v mem2 H locs hp hR hS => ?_)
    obtain ⟨r, hr, e9, e8⟩ := hp
    subst e9
    rw [e8] at hR
    clear e8
    refine g_istore C hl dL_puts_19 (Nat.le_of_ble_eq_true rfl) (fun ls hl => ?_)
    exact bnk _ (by omega) _ _ _ hl hR hS
