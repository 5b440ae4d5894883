/-! ===== the law: its turns ===== -/
theorem lR_call {S : aS} {mem m9 : gM} (h : lR S mem) (hF : ∀ k, k < 8 → m9 k = mem k) (e : m9 8 = mem 8) : lR S m9 := ⟨h.1, aCl_hi h.2.1 hF, by
  rw [e]
  exact h.2.2⟩
set_option maxRecDepth 100000 in
set_option maxHeartbeats 4000000 in
theorem law_loop (l : Launch) {X : gX} (hI : gInj X) (hx : gXt X = 4) {p : Program} {e : Env} {s : State} {m : MethodId} {args : Array Value} {below : List Frame} {meth : Method} {c : Code} {b L : Nat} {Q : State → Prop} {rt : Option FieldType} {xs : Nat → Int32} (C : gC X RL cL_law rt 10 p s m args meth c) (hX : va_X b L xs s s.heap) (hbl : b < s.heap.size) (hbA : ¬ gA X b) (hL : L ≤ 260) (hend : ∀ (cells slots : Nat), cells ≤ 600000 → slots ≤ 7302250 → ∀ (ls : Array Slot) (H : Heap) (locs : List Loc), va_S (gA X) s.heap H locs → W p l e room_1 s m args below meth c H locs cells slots Q (F0 m 263 ls [.int (nI 1)])) : ∀ (d t : Nat), t + d = 60 → ∀ (S : aS) (mem : gM) (cells slots : Nat), cells ≤ 200 + 4 * t → slots ≤ 4000 + 164 * t → lR S mem → aZ S 178 ≤ 60 * t → ∀ (ls : Array Slot) (H : Heap) (locs : List Loc), gL ls [some (.ref b), some (.ref (gAd X 7 0)), some (.ref (gAd X 8 0)), some (.ref (gAd X 8 1)), some (.ref (gAd X 8 2)), some (.ref (gAd X 8 3)), some (.int (nI (t))), none, none, none] → gRep X mem H → va_S (gA X) s.heap H locs → W p l e room_1 s m args below meth c H locs cells slots Q (F0 m 112 ls []) := by
  have hk : uG X 8 := ⟨by decide, by omega⟩
  have r1 : room_1.cells = 600000 := rfl
  have r2 : room_1.slots = 7302250 := rfl
  intro d
  induction d with
  | zero =>
    intro t ht S mem cells slots hc1 hc2 hJ hB ls H locs hl hR hS
    refine g_iload C hl dL_law_112 rfl ?_
    refine g_bipush 60 C dL_law_114 (by decide) ?_
    refine g_icmp_ge (tgt := 262) C dL_law_116 (by decide) (by omega) (by omega) (fun c116 => ?_) (fun z9 => absurd z9 (by omega))
    refine g_iconst 1 C dL_law_262 (by decide) ?_
    exact hend _ _ (by omega) (by omega) _ _ _ hS
  | succ d ih =>
    intro t ht S mem cells slots hc1 hc2 hJ hB ls H locs hl hR hS
    have hcs : cells ≤ room_1.cells ∧ slots ≤ room_1.slots := ⟨by omega, by omega⟩
    have nx : ∀ (T : aS) (mem : gM) (cells slots : Nat), cells ≤ 204 + 4 * t → slots ≤ 4164 + 164 * t → lR T mem → aZ T 178 ≤ 60 * (t + 1) → ∀ (x y : Int32) (v9 : Option Value) (ls : Array Slot) (H : Heap) (locs : List Loc), gL ls [some (.ref b), some (.ref (gAd X 7 0)), some (.ref (gAd X 8 0)), some (.ref (gAd X 8 1)), some (.ref (gAd X 8 2)), some (.ref (gAd X 8 3)), some (.int (nI (t))), some (.int x), some (.int y), v9] → gRep X mem H → va_S (gA X) s.heap H locs → W p l e room_1 s m args below meth c H locs cells slots Q (F0 m 256 ls []) := by
      intro T mem cells slots hc1 hc2 hJ hB x y v9 ls H locs hl hR hS
      refine g_iinc (k := 1) C hl dL_law_256 rfl (by decide) (fun ls hl => ?_)
      refine g_goto (tgt := 112) C dL_law_259 (by decide) ?_
      exact ih (t + 1) (by omega) T _ _ _ (by omega) (by omega) hJ hB _ _ _ (((hl.forget 7).forget 8).forget 9) hR hS
    have chk : ∀ (T : aS) (mem : gM), lR T mem → aZ T 178 ≤ 60 * (t + 1) → ∀ (x y : Int32) (ls : Array Slot) (H : Heap) (locs : List Loc), gL ls [some (.ref b), some (.ref (gAd X 7 0)), some (.ref (gAd X 8 0)), some (.ref (gAd X 8 1)), some (.ref (gAd X 8 2)), some (.ref (gAd X 8 3)), some (.int (nI (t))), some (.int x), some (.int y), some (.int (nI (1)))] → gRep X mem H → va_S (gA X) s.heap H locs → W p l e room_1 s m args below meth c H locs cells slots Q (F0 m 191 ls []) := by
      intro T mem hJ hB x y ls H locs hl hR hS
      refine g_iload C hl dL_law_191 rfl ?_
      refine g_if_eq (tgt := 254) C dL_law_193 (by decide) (by decide) (fun z9 => absurd z9 (by omega)) (fun c193 => ?_)
      refine g_aload_n C hl dL_law_196 rfl ?_
      refine g_aload_n C hl dL_law_197 rfl ?_
      refine g_aload_n C hl dL_law_198 rfl ?_
      refine g_aload C hl dL_law_199 rfl ?_
      refine g_aload C hl dL_law_201 rfl ?_
      refine g_callS C hl.1 hR hS md_L_isSo ml_L_91 (c_L_isSo l hI hk hJ) rfl rfl ⟨Nat.le_of_ble_eq_true rfl, Nat.le_of_ble_eq_true rfl⟩ hcs (Nat.le_of_ble_eq_true rfl) dL_law_203 (fun v mem H locs hp hR hS => ?_)
      obtain ⟨e9, hJ⟩ := hp
      subst e9
      refine g_if_eq (tgt := 254) C dL_law_206 (by decide) (by decide) (fun z9 => absurd z9 (by omega)) (fun c206 => ?_)
      refine g_iload C hl dL_law_209 rfl ?_
      refine g_iconst 5 C dL_law_211 (by decide) ?_
      refine g_irem C dL_law_212 (by omega) (by decide) (by decide) ?_
      refine g_iconst 4 C dL_law_213 (by decide) ?_
      refine g_icmp_ne (tgt := 256) C dL_law_214 (by decide) (by omega) (by omega) (fun c214 => ?_) (fun c214 => ?_)
      · -- 214 T
        exact nx T _ _ _ (by omega) (by omega) hJ hB _ _ _ _ _ _ hl hR hS
      · -- 214 F
        refine g_aload_n C hl dL_law_217 rfl ?_
        refine g_iconst 1 C dL_law_218 (by decide) ?_
        refine g_iload C hl dL_law_219 rfl ?_
        refine g_iconst 4 C dL_law_221 (by decide) ?_
        refine lv_ishr C.1 C.2.1 dL_law_222 ?_
        refine g_iload C hl dL_law_223 rfl ?_
        refine g_iconst 1 C dL_law_225 (by decide) ?_
        refine lv_iand C.1 C.2.1 dL_law_226 ?_
        refine lv_if_ne (tgt := 236) C.1 C.2.1 dL_law_227 (by decide) (fun _ => ?_) (fun _ => ?_)
        · -- 227 T
          refine g_bipush 9 C dL_law_236 (by decide) ?_
          refine g_callS C hl.1 hR hS md_L_low ml_L_66 (c_L_low l hI (by decide) (by decide)) rfl rfl ⟨Nat.le_of_ble_eq_true rfl, Nat.le_of_ble_eq_true rfl⟩ hcs (Nat.le_of_ble_eq_true rfl) dL_law_238 (fun v mem2 H locs hp hR hS => ?_)
          obtain ⟨r, hr, e9, e8⟩ := hp
          subst e9
          rw [e8] at hR
          clear e8
          refine g_iadd C dL_law_241 ?_
          refine g_aload_n C hl dL_law_242 rfl ?_
          refine g_aload_n C hl dL_law_243 rfl ?_
          refine g_aload C hl dL_law_244 rfl ?_
          refine g_aload C hl dL_law_246 rfl ?_
          refine g_callSA C hl.1 hR hS md_L_isAhead ml_L_95 (c_L_isAhead l hI hx hJ (n := 1 + r) (by omega) (by omega)) rfl rfl ⟨Nat.le_of_ble_eq_true rfl, Nat.le_of_ble_eq_true rfl⟩ ⟨by omega, by omega⟩ (Nat.le_of_ble_eq_true rfl) dL_law_248 (fun v mem H locs hp hR hS => ?_)
          obtain ⟨e9, hJ⟩ := hp
          subst e9
          refine g_if_ne (tgt := 256) C dL_law_251 (by decide) (by decide) (fun c251 => ?_) (fun z9 => absurd z9 (by omega))
          exact nx T _ _ _ (by omega) (by omega) hJ hB _ _ _ _ _ _ hl hR hS
        · -- 227 F
          refine g_sipush 999 C dL_law_230 (by decide) ?_
          refine g_goto (tgt := 238) C dL_law_233 (by decide) ?_
          refine g_callS C hl.1 hR hS md_L_low ml_L_66 (c_L_low l hI (by decide) (by decide)) rfl rfl ⟨Nat.le_of_ble_eq_true rfl, Nat.le_of_ble_eq_true rfl⟩ hcs (Nat.le_of_ble_eq_true rfl) dL_law_238 (fun v mem2 H locs hp hR hS => ?_)
          obtain ⟨r, hr, e9, e8⟩ := hp
          subst e9
          rw [e8] at hR
          clear e8
          refine g_iadd C dL_law_241 ?_
          refine g_aload_n C hl dL_law_242 rfl ?_
          refine g_aload_n C hl dL_law_243 rfl ?_
          refine g_aload C hl dL_law_244 rfl ?_
          refine g_aload C hl dL_law_246 rfl ?_
          refine g_callSA C hl.1 hR hS md_L_isAhead ml_L_95 (c_L_isAhead l hI hx hJ (n := 1 + r) (by omega) (by omega)) rfl rfl ⟨Nat.le_of_ble_eq_true rfl, Nat.le_of_ble_eq_true rfl⟩ ⟨by omega, by omega⟩ (Nat.le_of_ble_eq_true rfl) dL_law_248 (fun v mem H locs hp hR hS => ?_)
          obtain ⟨e9, hJ⟩ := hp
          subst e9
          refine g_if_ne (tgt := 256) C dL_law_251 (by decide) (by decide) (fun c251 => ?_) (fun z9 => absurd z9 (by omega))
          exact nx T _ _ _ (by omega) (by omega) hJ hB _ _ _ _ _ _ hl hR hS
    refine g_iload C hl dL_law_112 rfl ?_
    refine g_bipush 60 C dL_law_114 (by decide) ?_
    refine g_icmp_ge (tgt := 262) C dL_law_116 (by decide) (by omega) (by omega) (fun z9 => absurd z9 (by omega)) (fun c116 => ?_)
    refine g_aload_n C hl dL_law_119 rfl ?_
    refine g_iconst 2 C dL_law_120 (by decide) ?_
    refine g_iload C hl dL_law_121 rfl ?_
    refine g_imul C dL_law_123 ?_
    refine g_callX (i := 2 * t) C hl.1 hR hS hX hbl hbA ml_L_108 (c_L_cell1 l hI hbA (by omega) (by omega)) ⟨Nat.le_of_ble_eq_true rfl, Nat.le_of_ble_eq_true rfl⟩ hcs (Nat.le_of_ble_eq_true rfl) dL_law_124 (fun w H locs hR hS => ?_)
    refine g_istore C hl dL_law_127 (Nat.le_of_ble_eq_true rfl) (fun ls hl => ?_)
    refine g_aload_n C hl dL_law_129 rfl ?_
    refine g_iconst 2 C dL_law_130 (by decide) ?_
    refine g_iload C hl dL_law_131 rfl ?_
    refine g_imul C dL_law_133 ?_
    refine g_iconst 1 C dL_law_134 (by decide) ?_
    refine g_iadd C dL_law_135 ?_
    refine g_callX (i := 2 * t + 1) C hl.1 hR hS hX hbl hbA ml_L_108 (c_L_cell1 l hI hbA (by omega) (by omega)) ⟨Nat.le_of_ble_eq_true rfl, Nat.le_of_ble_eq_true rfl⟩ hcs (Nat.le_of_ble_eq_true rfl) dL_law_136 (fun w H locs hR hS => ?_)
    refine g_istore C hl dL_law_139 (Nat.le_of_ble_eq_true rfl) (fun ls hl => ?_)
    refine g_iload C hl dL_law_141 rfl ?_
    refine g_bipush 14 C dL_law_143 (by decide) ?_
    refine g_icmp_lt (tgt := 160) C dL_law_145 (by decide) (by omega) (by omega) (fun c145 => ?_) (fun c145 => ?_)
    · -- 145 T
      refine g_aload_n C hl dL_law_160 rfl ?_
      refine g_iload C hl dL_law_161 rfl ?_
      refine g_iload C hl dL_law_163 rfl ?_
      refine g_aload_n C hl dL_law_165 rfl ?_
      refine g_aload_n C hl dL_law_166 rfl ?_
      refine g_aload C hl dL_law_167 rfl ?_
      refine g_callS C hl.1 hR hS md_L_puts ml_L_112 (c_L_puts l hI hk hJ) rfl rfl ⟨Nat.le_of_ble_eq_true rfl, Nat.le_of_ble_eq_true rfl⟩ hcs (Nat.le_of_ble_eq_true rfl) dL_law_169 (fun v mem H locs hp hR hS => ?_)
      obtain ⟨e9, T, hJ, hT⟩ := hp
      subst e9
      refine g_goto (tgt := 189) C dL_law_172 (by decide) ?_
      refine g_istore C hl dL_law_189 (Nat.le_of_ble_eq_true rfl) (fun ls hl => ?_)
      exact chk T _ hJ (by omega) _ _ _ _ _ hl hR hS
    · -- 145 F
      refine g_iload C hl dL_law_148 rfl ?_
      refine g_bipush 16 C dL_law_150 (by decide) ?_
      refine lv_ishr C.1 C.2.1 dL_law_152 ?_
      refine g_iconst 3 C dL_law_153 (by decide) ?_
      refine g_callS C hl.1 hR hS md_L_low ml_L_66 (c_L_low l hI (by decide) (by decide)) rfl rfl ⟨Nat.le_of_ble_eq_true rfl, Nat.le_of_ble_eq_true rfl⟩ hcs (Nat.le_of_ble_eq_true rfl) dL_law_154 (fun v mem2 H locs hp hR hS => ?_)
      obtain ⟨r, hr, e9, e8⟩ := hp
      subst e9
      rw [e8] at hR
      clear e8
      refine g_if_ne (tgt := 175) C dL_law_157 (by decide) (by omega) (fun c157 => ?_) (fun c157 => ?_)
      · -- 157 T
        refine g_aload_n C hl dL_law_175 rfl ?_
        refine g_iload C hl dL_law_176 rfl ?_
        refine g_iload C hl dL_law_178 rfl ?_
        refine g_aload_n C hl dL_law_180 rfl ?_
        refine g_aload_n C hl dL_law_181 rfl ?_
        refine g_aload C hl dL_law_182 rfl ?_
        refine g_aload C hl dL_law_184 rfl ?_
        refine g_callS C hl.1 hR hS md_L_others ml_L_116 (c_L_others l hI hk hJ (by omega)) rfl rfl ⟨Nat.le_of_ble_eq_true rfl, Nat.le_of_ble_eq_true rfl⟩ hcs (Nat.le_of_ble_eq_true rfl) dL_law_186 (fun v mem H locs hp hR hS => ?_)
        obtain ⟨e9, T, hJ, hT⟩ := hp
        subst e9
        refine g_istore C hl dL_law_189 (Nat.le_of_ble_eq_true rfl) (fun ls hl => ?_)
        exact chk T _ hJ (by omega) _ _ _ _ _ hl hR hS
      · -- 157 F
        refine g_aload_n C hl dL_law_160 rfl ?_
        refine g_iload C hl dL_law_161 rfl ?_
        refine g_iload C hl dL_law_163 rfl ?_
        refine g_aload_n C hl dL_law_165 rfl ?_
        refine g_aload_n C hl dL_law_166 rfl ?_
        refine g_aload C hl dL_law_167 rfl ?_
        refine g_callS C hl.1 hR hS md_L_puts ml_L_112 (c_L_puts l hI hk hJ) rfl rfl ⟨Nat.le_of_ble_eq_true rfl, Nat.le_of_ble_eq_true rfl⟩ hcs (Nat.le_of_ble_eq_true rfl) dL_law_169 (fun v mem H locs hp hR hS => ?_)
        obtain ⟨e9, T, hJ, hT⟩ := hp
        subst e9
        refine g_goto (tgt := 189) C dL_law_172 (by decide) ?_
        refine g_istore C hl dL_law_189 (Nat.le_of_ble_eq_true rfl) (fun ls hl => ?_)
        exact chk T _ hJ (by omega) _ _ _ _ _ hl hR hS
set_option maxRecDepth 100000 in
set_option maxHeartbeats 4000000 in
theorem law_body (l : Launch) {X : gX} (hI : gInj X) (hx : gXt X = 4) {p : Program} {e : Env} {s : State} {m : MethodId} {args : Array Value} {below : List Frame} {meth : Method} {c : Code} {b L : Nat} {Q : State → Prop} {rt : Option FieldType} {xs : Nat → Int32} (C : gC X RL cL_law rt 10 p s m args meth c) (hX : va_X b L xs s s.heap) (hbl : b < s.heap.size) (hbA : ¬ gA X b) (hL : L ≤ 260) (hend : ∀ (cells slots : Nat), cells ≤ 600000 → slots ≤ 7302250 → ∀ (ls : Array Slot) (H : Heap) (locs : List Loc), va_S (gA X) s.heap H locs → W p l e room_1 s m args below meth c H locs cells slots Q (F0 m 263 ls [.int (nI 1)])) {mem : gM} {cells slots : Nat} (hc1 : cells ≤ 190) (hc2 : slots ≤ 3000) (hc : aCl S0 mem) (h8 : ∀ o, o < 4 → ∀ i, mem 8 o i = 0) {ls : Array Slot} {H : Heap} {locs : List Loc} (hl : gL ls [some (.ref b), some (.ref (gAd X 7 0)), some (.ref (gAd X 8 0)), some (.ref (gAd X 8 1)), some (.ref (gAd X 8 2)), some (.ref (gAd X 8 3)), none, none, none, none]) (hR : gRep X mem H) (hS : va_S (gA X) s.heap H locs) : W p l e room_1 s m args below meth c H locs cells slots Q (F0 m 30 ls []) := by
  have hk : uG X 8 := ⟨by decide, by omega⟩
  have r1 : room_1.cells = 600000 := rfl
  have r2 : room_1.slots = 7302250 := rfl
  have hcs : cells ≤ room_1.cells ∧ slots ≤ room_1.slots := ⟨by omega, by omega⟩
  have rest : ∀ (mem : gM), lR S0 mem → ∀ (v6 : Option Value) (ls : Array Slot) (H : Heap) (locs : List Loc), gL ls [some (.ref b), some (.ref (gAd X 7 0)), some (.ref (gAd X 8 0)), some (.ref (gAd X 8 1)), some (.ref (gAd X 8 2)), some (.ref (gAd X 8 3)), v6, none, none, none] → gRep X mem H → va_S (gA X) s.heap H locs → W p l e room_1 s m args below meth c H locs cells slots Q (F0 m 51 ls []) := by
    intro mem hJ v6 ls H locs hl hR hS
    refine g_aload_n C hl dL_law_51 rfl ?_
    refine g_aload_n C hl dL_law_52 rfl ?_
    refine g_aload_n C hl dL_law_53 rfl ?_
    refine g_aload C hl dL_law_54 rfl ?_
    refine g_aload C hl dL_law_56 rfl ?_
    refine g_callS C hl.1 hR hS md_L_isSo ml_L_91 (c_L_isSo l hI hk hJ) rfl rfl ⟨Nat.le_of_ble_eq_true rfl, Nat.le_of_ble_eq_true rfl⟩ hcs (Nat.le_of_ble_eq_true rfl) dL_law_58 (fun v mem H locs hp hR hS => ?_)
    obtain ⟨e9, hJ⟩ := hp
    subst e9
    refine g_if_eq (tgt := 107) C dL_law_61 (by decide) (by decide) (fun z9 => absurd z9 (by omega)) (fun c61 => ?_)
    refine g_aload_n C hl dL_law_64 rfl ?_
    refine g_iconst 5 C dL_law_65 (by decide) ?_
    refine g_aload_n C hl dL_law_66 rfl ?_
    refine g_aload_n C hl dL_law_67 rfl ?_
    refine g_aload C hl dL_law_68 rfl ?_
    refine g_aload C hl dL_law_70 rfl ?_
    refine g_callSA C hl.1 hR hS md_L_isAhead ml_L_95 (c_L_isAhead l hI hx hJ (n := 5) (by decide) (by decide)) rfl rfl ⟨Nat.le_of_ble_eq_true rfl, Nat.le_of_ble_eq_true rfl⟩ ⟨by omega, by omega⟩ (Nat.le_of_ble_eq_true rfl) dL_law_72 (fun v mem H locs hp hR hS => ?_)
    obtain ⟨e9, hJ⟩ := hp
    subst e9
    have hcs : cells + 4 ≤ room_1.cells ∧ slots + 164 ≤ room_1.slots := ⟨by omega, by omega⟩
    refine g_if_eq (tgt := 107) C dL_law_75 (by decide) (by decide) (fun z9 => absurd z9 (by omega)) (fun c75 => ?_)
    refine g_aload_n C hl dL_law_78 rfl ?_
    refine g_callV C hl.1 hR hS rc_X8 md_X8_undo ml_L_99 (c_X8_undo l hI hJ.1 hJ.2.1) rfl rfl ⟨Nat.le_of_ble_eq_true rfl, Nat.le_of_ble_eq_true rfl⟩ hcs (Nat.le_of_ble_eq_true rfl) dL_law_79 (fun v mem H locs hp hR hS => ?_)
    obtain ⟨e9, hc9⟩ := hp
    rw [show aUndo S0 = (-5, S0) from if_pos rfl] at e9 hc9
    subst e9
    have hJ := hJ.ob hc9
    refine g_bipushM (-5) C dL_law_82 (by decide) ?_
    refine lv_icmp_ne (tgt := 107) C.1 C.2.1 dL_law_84 (by decide) (fun z9 => absurd rfl z9) (fun _ => ?_)
    refine g_aload_n C hl dL_law_87 rfl ?_
    refine g_callV C hl.1 hR hS rc_X8 md_X8_restore ml_L_102 (c_X8_restore l hI hJ.1 hJ.2.1) rfl rfl ⟨Nat.le_of_ble_eq_true rfl, Nat.le_of_ble_eq_true rfl⟩ hcs (Nat.le_of_ble_eq_true rfl) dL_law_88 (fun v mem H locs hp hR hS => ?_)
    obtain ⟨e9, hc9⟩ := hp
    rw [show aRest S0 = (-5, S0) from if_pos rfl] at e9 hc9
    subst e9
    have hJ := hJ.ob hc9
    refine g_bipushM (-5) C dL_law_91 (by decide) ?_
    refine lv_icmp_ne (tgt := 107) C.1 C.2.1 dL_law_93 (by decide) (fun z9 => absurd rfl z9) (fun _ => ?_)
    refine g_aload_n C hl dL_law_96 rfl ?_
    refine g_iconst 0 C dL_law_97 (by decide) ?_
    refine g_iconst 0 C dL_law_98 (by decide) ?_
    refine g_callV C hl.1 hR hS rc_X8 md_X8_latest ml_L_105 (c_X8_latest l hI hJ.1 hJ.2.1) rfl rfl ⟨Nat.le_of_ble_eq_true rfl, Nat.le_of_ble_eq_true rfl⟩ hcs (Nat.le_of_ble_eq_true rfl) dL_law_99 (fun v mem H locs hp hR hS => ?_)
    obtain ⟨e9, hc9⟩ := hp
    rw [show sLate (aZ S0) (nI 0) (nI 0) = -5 by decide +kernel] at e9
    subst e9
    have hJ := hJ.ob hc9
    refine g_bipushM (-5) C dL_law_102 (by decide) ?_
    refine lv_icmp_eq (tgt := 109) C.1 C.2.1 dL_law_104 (by decide) (fun _ => ?_) (fun z9 => absurd rfl z9)
    refine g_iconst 0 C dL_law_109 (by decide) ?_
    refine g_istore C hl dL_law_110 (Nat.le_of_ble_eq_true rfl) (fun ls hl => ?_)
    exact law_loop l hI hx C hX hbl hbA hL hend 60 0 (by omega) S0 _ _ _ (by omega) (by omega) hJ (Nat.zero_le _) _ _ _ hl hR hS
  have loop : ∀ (d i : Nat), i + d = 4 → ∀ (mem : gM), aCl S0 mem → uR (mem 8) (zW i) → ∀ (ls : Array Slot) (H : Heap) (locs : List Loc), gL ls [some (.ref b), some (.ref (gAd X 7 0)), some (.ref (gAd X 8 0)), some (.ref (gAd X 8 1)), some (.ref (gAd X 8 2)), some (.ref (gAd X 8 3)), some (.int (nI (i))), none, none, none] → gRep X mem H → va_S (gA X) s.heap H locs → W p l e room_1 s m args below meth c H locs cells slots Q (F0 m 33 ls []) := by
    intro d
    induction d with
    | zero =>
      intro i hi mem hc hM ls H locs hl hR hS
      obtain rfl : i = 4 := by omega
      refine g_iload C hl dL_law_33 rfl ?_
      refine g_iconst 4 C dL_law_35 (by decide) ?_
      refine g_icmp_ge (tgt := 51) C dL_law_36 (by decide) (by omega) (by omega) (fun c36 => ?_) (fun z9 => absurd z9 (by omega))
      exact rest _ ⟨S0_I, hc, uR_eq hM (fun j _ => by rw [zW_4]; rfl)⟩ _ _ _ _ hl hR hS
    | succ d ih =>
      intro i hi mem hc hM ls H locs hl hR hS
      have hF : uF 8 mem mem := uF.rf
      refine g_iload C hl dL_law_33 rfl ?_
      refine g_iconst 4 C dL_law_35 (by decide) ?_
      refine g_icmp_ge (tgt := 51) C dL_law_36 (by decide) (by omega) (by omega) (fun z9 => absurd z9 (by omega)) (fun c36 => ?_)
      refine g_aload_n C hl dL_law_39 rfl ?_
      refine g_iload C hl dL_law_40 rfl ?_
      refine g_iload C hl dL_law_42 rfl ?_
      refine u_ast (100 + i) C hk hM hF hR hS (uJ_w rfl (by omega)) dL_law_44 (fun mem hM hF H locs hR hS => ?_)
      refine g_iinc (k := 1) C hl dL_law_45 rfl (by decide) (fun ls hl => ?_)
      rw [zW_s] at hM
      refine g_goto (tgt := 33) C dL_law_48 (by decide) ?_
      exact ih (i + 1) (by omega) _ (aCl_u hc (by decide) hF) hM _ _ _ hl hR hS
  refine g_iconst 0 C dL_law_30 (by decide) ?_
  refine g_istore C hl dL_law_31 (Nat.le_of_ble_eq_true rfl) (fun ls hl => ?_)
  exact loop 4 0 (by omega) _ hc (uR_z h8) _ _ _ hl hR hS
set_option maxRecDepth 100000 in
set_option maxHeartbeats 4000000 in
theorem st_walk {p : Program} {e : Env} {s : State} {m : MethodId} {below : List Frame} {meth : Method} {c : Code} (l : Launch) {b L : Nat} {xs : Nat → Int32} (hL : L ≤ 260) (C0 : lw_At p s m meth c b L xs) : W p l e room_1 s m #[Value.ref b] below meth c s.heap [] 0 0 (lw_Z below #[Value.ref b] s) (entryFrame m ([Value.ref b] : List Value).toArray 10) := by
  obtain ⟨X, hSz, hAd, hx, hE, hO⟩ := st_env C0
  have hI : gInj X := kInj hAd hx
  obtain ⟨w1, w2, w3, w4, w5, hts, w7, w8, w9, -⟩ := C0
  have C : gC X RL cL_law ret 10 p s m #[Value.ref b] meth c := ⟨w1, w2, w3, w4, w5, fun w hw => hts w (wA_tbl w hw), w9, hI, hE⟩
  have hl := gL.entry [Value.ref b] 10 (by simp [Value.category]) (Nat.le_of_ble_eq_true rfl)
  rw [lg_entry_eq]
  generalize (lg_sl [Value.ref b] ++ List.replicate (10 - (lg_sl [Value.ref b]).length) Slot.unset).toArray = ls at hl ⊢
  have hB : kSt X (gA X) s (gSz X) [] s.heap [] 0 := ⟨kP_nil, hSz.symm, va_S.rf, hSz.symm, fun q hq => hq, Nat.le_refl _, fun q hq => hq⟩
  refine kk_new (ci := 8) (n := 0) (fs := [.null, .null, .null, .null, .null, .null, .int (nI 0)]) tyX8 C hB rfl tyX8_ok ilX8 cl_L_32 ib_X8 in_X8 rfl (fun j hj => by rcases (show j = 0 ∨ j = 1 ∨ j = 2 ∨ j = 3 ∨ j = 4 ∨ j = 5 ∨ j = 6 by omega) with rfl | rfl | rfl | rfl | rfl | rfl | rfl <;> rfl) (Nat.le_of_ble_eq_true rfl) (Nat.le_of_ble_eq_true rfl) dL_law_0 (fun H hB => ?_)
  refine g_dup C dL_law_3 rfl ?_
  refine kk_call (n := 0) C hl.1 hO hB rfl im_X8_init co_X8_init in_X8 (by decide +kernel) rfl ml_L_90 (kc_X8 l hI) rfl rfl rfl ⟨Nat.le_of_ble_eq_true rfl, Nat.le_of_ble_eq_true rfl⟩ ⟨Nat.le_of_ble_eq_true rfl, Nat.le_of_ble_eq_true rfl⟩ (Nat.le_of_ble_eq_true rfl) dL_law_4 (fun H locs hB => ?_)
  have hB : kSt X (gA X) s (gSz X) (kFb X (gSz X)) H locs _ := hB
  have hR : gRep X mem0 H := st_rep rfl hAd hx hB.1
  have hS : va_S (gA X) s.heap H locs := hB.2.2.1
  have e7 : gSz X + 0 = gAd X 7 0 := (hAd 7 0).symm
  rw [e7]
  have hst := st_st
  refine g_astore_n C hl dL_law_7 (Nat.le_of_ble_eq_true rfl) (fun ls hl => ?_)
  refine g_bipush 36 C dL_law_8 (by decide) ?_
  refine g_newL (k := 8) (o := 0) (n := 36) C (by omega) (by omega) rfl hst hR hS (Nat.le_of_ble_eq_true rfl) (Nat.le_of_ble_eq_true rfl) dL_law_10 (fun Y1 H L1 x1 C hR hS => ?_)
  have hst := hst.gP (k := 8) (o := 0) (f := fun _ => 0) (by decide)
  refine g_astore_n C hl dL_law_12 (Nat.le_of_ble_eq_true rfl) (fun ls hl => ?_)
  refine g_bipush 52 C dL_law_13 (by decide) ?_
  refine g_newL (k := 8) (o := 1) (n := 52) C (by omega) (by omega) rfl hst hR hS (Nat.le_of_ble_eq_true rfl) (Nat.le_of_ble_eq_true rfl) dL_law_15 (fun Y2 H L2 x2 C hR hS => ?_)
  have hst := hst.gP (k := 8) (o := 1) (f := fun _ => 0) (by decide)
  refine g_astore_n C hl dL_law_17 (Nat.le_of_ble_eq_true rfl) (fun ls hl => ?_)
  refine g_bipush 48 C dL_law_18 (by decide) ?_
  refine g_newL (k := 8) (o := 2) (n := 48) C (by omega) (by omega) rfl hst hR hS (Nat.le_of_ble_eq_true rfl) (Nat.le_of_ble_eq_true rfl) dL_law_20 (fun Y3 H L3 x3 C hR hS => ?_)
  have hst := hst.gP (k := 8) (o := 2) (f := fun _ => 0) (by decide)
  refine g_astore C hl dL_law_22 (Nat.le_of_ble_eq_true rfl) (fun ls hl => ?_)
  refine g_bipush 28 C dL_law_24 (by decide) ?_
  refine g_newL (k := 8) (o := 3) (n := 28) C (by omega) (by omega) rfl hst hR hS (Nat.le_of_ble_eq_true rfl) (Nat.le_of_ble_eq_true rfl) dL_law_26 (fun Y4 H L4 x4 C hR hS => ?_)
  have hst := hst.gP (k := 8) (o := 3) (f := fun _ => 0) (by decide)
  refine g_astore C hl dL_law_28 (Nat.le_of_ble_eq_true rfl) (fun ls hl => ?_)
  have Lx : uLe X Y4 := L1.tr (L2.tr (L3.tr L4))
  have hl : gL ls [some (.ref b), some (.ref (gAd Y4 7 0)), some (.ref (gAd Y4 8 0)), some (.ref (gAd Y4 8 1)), some (.ref (gAd Y4 8 2)), some (.ref (gAd Y4 8 3)), none, none, none, none] := by
    rw [Lx.2.2.2.2 7 0 (Or.inl (by decide)), (L2.tr (L3.tr L4)).2.2.2.2 8 0 (Or.inr (gLx_mem (by decide) (by decide) (by omega))), (L3.tr L4).2.2.2.2 8 1 (Or.inr (gLx_mem (by decide) (by decide) (by omega))), L4.2.2.2.2 8 2 (Or.inr (gLx_mem (by decide) (by decide) (by omega)))]
    exact hl
  have hbA : ¬ gA Y4 b := by
    intro z
    have z2 : gSz Y4 ≤ b := z
    rw [Lx.2.2.1] at z2
    omega
  refine law_body l C.2.2.2.2.2.2.2.1 (by omega) C w7 w8 hbA hL (fun cells slots k1 k2 ls H locs hS => ?_) (Nat.le_of_ble_eq_true rfl) (Nat.le_of_ble_eq_true rfl) (st_cl (fun k hk => ?_)) (fun o ho i => ?_) hl hR hS
  · refine va_forget (fun q hq => ?_) ?_
    · have h2 : gSz Y4 ≤ q.base := hS.2.2 q hq
      rw [Lx.2.2.1] at h2
      omega
    refine W.widen (k := 600000) (n := 7302250) k1 k2 ?_
    exact lw_ret w1 w2 w3 w9 dL_law_263
  · rw [gP_nk _ _ (by omega), gP_nk _ _ (by omega), gP_nk _ _ (by omega), gP_nk _ _ (by omega)]
  · rcases (show o = 0 ∨ o = 1 ∨ o = 2 ∨ o = 3 by omega) with rfl | rfl | rfl | rfl
    · rw [gP_n _ _ (by decide), gP_n _ _ (by decide), gP_n _ _ (by decide), gP_s]
    · rw [gP_n _ _ (by decide), gP_n _ _ (by decide), gP_s]
    · rw [gP_n _ _ (by decide), gP_s]
    · rw [gP_s]
