/-! ===== the words of the language: Strings ===== -/
def gCh (i j : Nat) : Nat := ((gByt.getD i []).getD j 0).toNatClampNeg
def gLn (i : Nat) : Nat := gLen.getD i 0
theorem gCh_all : ∀ i, i < 10 → ∀ j, j < 5 → ((gByt.getD i []).getD j 0 == nI (gCh i j) && Nat.blt (gCh i j) 128) = true := by decide +kernel
theorem gLn_all : ∀ i, i < 10 → gLn i ≤ 5 := by decide +kernel
theorem gCh_eq {i j : Nat} (hi : i < 10) (hj : j < gLn i) : (gByt.getD i []).getD j 0 = nI (gCh i j) ∧ gCh i j < 128 := by
  have h := gCh_all i hi j (by have := gLn_all i hi; omega)
  simp only [Bool.and_eq_true, beq_iff_eq, Nat.blt_eq] at h
  exact h
section GS
variable {p : Program} {l : Launch} {e : Env} {R : Room} {s : State} {m : MethodId} {args : Array Value} {below : List Frame} {meth : Method} {c : Code} {H : Heap} {locs : List Loc} {cells slots : Nat} {Q : State → Prop}
variable {cc : ByteArray} {pc : Nat} {ls : Array Slot} {rest : List Value} {X : gX} {own : String} {ret : Option FieldType} {nL : Nat} {mem : gM}
theorem gs_coder {i index : Nat} (C : gC X own cc ret nL p s m args meth c) (hi : i < 10) (hS : va_S (gA X) s.heap H locs) (hlink : Cond.fieldLink own index "java/lang/String" "coder" "B" ∈ wA) (hdg : decode cc pc = .ok (.getfield index, 3)) (kk : W p l e R s m args below meth c H locs cells slots Q (F0 m (pc + 3) ls (.int (nI 0) :: rest))) : W p l e R s m args below meth c H locs cells slots Q (F0 m pc ls (.ref (gKs X i) :: rest)) := by
  obtain ⟨hx, hb, -, -, hown, hA, -, -, hE⟩ := C
  exact vk_getf hx hb (hE.2.2.2.1.1 i hi).2.1 hS hown (hA _ hlink) (fun x h => h) hdg kk
theorem gs_value {i index : Nat} (C : gC X own cc ret nL p s m args meth c) (hi : i < 10) (hS : va_S (gA X) s.heap H locs) (hlink : Cond.fieldLink own index "java/lang/String" "value" "[B" ∈ wA) (hdg : decode cc pc = .ok (.getfield index, 3)) (kk : W p l e R s m args below meth c H locs cells slots Q (F0 m (pc + 3) ls (.ref (gVs X i) :: rest))) : W p l e R s m args below meth c H locs cells slots Q (F0 m pc ls (.ref (gKs X i) :: rest)) := by
  obtain ⟨hx, hb, -, -, hown, hA, -, -, hE⟩ := C
  exact vk_getf hx hb (hE.2.2.2.1.1 i hi).2.2.1 hS hown (hA _ hlink) (fun x h => h) hdg kk
theorem gs_len {i : Nat} (C : gC X own cc ret nL p s m args meth c) (hi : i < 10) (hS : va_S (gA X) s.heap H locs) (hdg : decode cc pc = .ok (.arraylength, 1)) (kk : W p l e R s m args below meth c H locs cells slots Q (F0 m (pc + 1) ls (.int (nI (gLn i)) :: rest))) : W p l e R s m args below meth c H locs cells slots Q (F0 m pc ls (.ref (gVs X i) :: rest)) := by
  obtain ⟨hx, hb, -, -, hown, hA, -, -, hE⟩ := C
  exact va_tlen hx hb (hE.2.2.2.1.1 i hi).2.2.2 hS rfl hdg kk
theorem gs_bald {i j : Nat} (C : gC X own cc ret nL p s m args meth c) (hi : i < 10) (hj : j < gLn i) (hS : va_S (gA X) s.heap H locs) (hdg : decode cc pc = .ok (.baload, 1)) (kk : W p l e R s m args below meth c H locs cells slots Q (F0 m (pc + 1) ls (.int (nI (gCh i j)) :: rest))) : W p l e R s m args below meth c H locs cells slots Q (F0 m pc ls (.int (nI j) :: .ref (gVs X i) :: rest)) := by
  obtain ⟨hx, hb, -, -, hown, hA, -, -, hE⟩ := C
  have h5 := gLn_all i hi
  exact va_tb hx hb (hE.2.2.2.1.1 i hi).2.2.2 hS (vp_in_nI hj (by have : gLn i = gLen.getD i 0 := rfl; omega)) (by rw [nI_clamp (by omega), (gCh_eq hi hj).1]) hdg kk
theorem gs_compact {index : Nat} (C : gC X own cc ret nL p s m args meth c) (hS : va_S (gA X) s.heap H locs) (hlink : Cond.fieldLink own index "java/lang/String" "COMPACT_STRINGS" "Z" ∈ wA) (hdg : decode cc pc = .ok (.getstatic index, 3)) (kk : W p l e R s m args below meth c H locs cells slots Q (F0 m (pc + 3) ls (.int (nI 1) :: rest))) : W p l e R s m args below meth c H locs cells slots Q (F0 m pc ls rest) := by
  obtain ⟨hx, hb, -, -, hown, hA, -, -, hE⟩ := C
  exact va_gets hx hb hE.2.2.2.2.2.1 hS hown (hA _ hlink) (fun x h => h) hdg kk
theorem gs_form {index : Nat} (C : gC X own cc ret nL p s m args meth c) (hS : va_S (gA X) s.heap H locs) (hlink : Cond.fieldLink own index "jdk/internal/util/Preconditions" "SIOOBE_FORMATTER" "Ljava/util/function/BiFunction;" ∈ wA) (hdg : decode cc pc = .ok (.getstatic index, 3)) (k0 : W p l e R s m args below meth c H locs cells slots Q (F0 m (pc + 3) ls (.null :: rest))) (k1 : ∀ t : Nat, W p l e R s m args below meth c H locs cells slots Q (F0 m (pc + 3) ls (.ref t :: rest))) : W p l e R s m args below meth c H locs cells slots Q (F0 m pc ls rest) := by
  obtain ⟨hx, hb, -, -, hown, hA, -, -, hE⟩ := C
  rcases hE.2.2.2.2.2.2 with h | ⟨t, h⟩
  · exact va_gets hx hb h hS hown (hA _ hlink) (fun x h => h) hdg k0
  · exact va_gets hx hb h hS hown (hA _ hlink) (fun x h => h) hdg (k1 t)
theorem gs_ldc {i index : Nat} (C : gC X RX1 cc ret nL p s m args meth c) (hi : i < 10) (he : (gTx i).2 = index) (hdg : decode cc pc = .ok (.ldc index, 2)) (kk : W p l e R s m args below meth c H locs cells slots Q (F0 m (pc + 2) ls (.ref (gKs X i) :: rest))) : W p l e R s m args below meth c H locs cells slots Q (F0 m pc ls rest) := by
  obtain ⟨hx, hb, -, -, hown, hA, -, -, hE⟩ := C
  have h := hE.2.2.2.2.1 i hi
  rw [he] at h
  exact va_ldcS hx hb hown h hdg kk
theorem gs_callV {i index fr2 lo2 nL2 n : Nat} {y : MethodName} {cc2 : ByteArray} {ret2 : Option FieldType} {As st0 : List Value} {post : Option Value → gM → Prop} (C : gC X own cc ret nL p s m args meth c) (hz : ls.size = nL) (hR : gRep X mem H) (hS : va_S (gA X) s.heap H locs) (hi : i < 10) (hcl : y.cls = "java/lang/String") (md : gMd y cc2 nL2 ret2 n) (hlink : Cond.methodLink own index y ∈ wA) (hM : gMt l y cc2 nL2 ret2 fr2 lo2 X (.ref (gKs X i) :: As) mem post) (hn : As.length = n) (hst : st0 = As.reverse ++ .ref (gKs X i) :: rest) (hroom : fr2 + 1 ≤ R.frames ∧ 8 + (nL2 + 11) + lo2 ≤ R.locals) (hf : cells ≤ R.cells ∧ slots ≤ R.slots) (hw : (rest.map fun v => v.category).sum ≤ 8) (hdg : decode cc pc = .ok (.invokevirtual index, 3)) (kk : ∀ (v : Option Value) (mem' : gM) (H1 : Heap) (locs1 : List Loc), post v mem' → gRep X mem' H1 → va_S (gA X) s.heap H1 locs1 → W p l e R s m args below meth c H1 locs1 cells slots Q (F0 m (pc + 3) ls (v.toList ++ rest))) : W p l e R s m args below meth c H locs cells slots Q (F0 m pc ls st0) := by
  obtain ⟨hx, hb, -, hml, hown, hA, -, -, hE⟩ := C
  obtain ⟨i1, i2, i3, i4, i5⟩ := md
  have cb := callB_of (R := R) (rm := { frames := fr2, cells := 0, slots := 0, locals := lo2 }) (mc := 0) (ms := 0) n hA (g_good i3) rfl rfl rfl (hA _ i4) (hA _ hlink) i5 hroom
  refine g_go (rest := rest) (va_runV (C := y.cls) (rest := rest) ⟨hx, hb, hml, hown, hA⟩ hM ⟨cb, hA _ i1, hA _ i2⟩ ⟨gB_blind, by rw [hcl]; exact vk_recv hE.2.2.2.1 hi hS, fun U hU hW => ⟨rfl, by rw [hU]; exact hR, by rw [hU]; exact hE.to hW hS.1 hS.2.1⟩⟩ rfl hn hz hst (lv_room hw) hdg hf) hS kk
theorem gs_callVi {i index fr2 lo2 nL2 n : Nat} {x : Int32} {mem2 : gM} {y : MethodName} {cc2 : ByteArray} {ret2 : Option FieldType} {As st0 : List Value} (C : gC X own cc ret nL p s m args meth c) (hz : ls.size = nL) (hR : gRep X mem H) (hS : va_S (gA X) s.heap H locs) (hi : i < 10) (hcl : y.cls = "java/lang/String") (md : gMd y cc2 nL2 ret2 n) (hlink : Cond.methodLink own index y ∈ wA) (hM : gF l y cc2 nL2 ret2 fr2 lo2 X (.ref (gKs X i) :: As) mem (some (.int x)) mem2) (hn : As.length = n) (hst : st0 = As.reverse ++ .ref (gKs X i) :: rest) (hroom : fr2 + 1 ≤ R.frames ∧ 8 + (nL2 + 11) + lo2 ≤ R.locals) (hf : cells ≤ R.cells ∧ slots ≤ R.slots) (hw : (rest.map fun v => v.category).sum ≤ 8) (hdg : decode cc pc = .ok (.invokevirtual index, 3)) (kk : ∀ (H1 : Heap) (locs1 : List Loc), gRep X mem2 H1 → va_S (gA X) s.heap H1 locs1 → W p l e R s m args below meth c H1 locs1 cells slots Q (F0 m (pc + 3) ls (.int x :: rest))) : W p l e R s m args below meth c H locs cells slots Q (F0 m pc ls st0) := gs_callV C hz hR hS hi hcl md hlink hM hn hst hroom hf hw hdg (fun v mem9 H1 locs1 hp hR1 hS1 => by
  obtain ⟨rfl, rfl⟩ := hp
  exact kk H1 locs1 hR1 hS1)
end GS
set_option maxRecDepth 100000 in
set_option maxHeartbeats 4000000 in
/-- coder -/
theorem c_J0_coder_7d493 (l : Launch) {X : gX} (hI : gInj X) {mem : gM} {i : Nat} (hi : i < 10) : gF l yJ0_coder_7d493 cJ0_coder_7d493 1 (some .byte) 0 0 X [.ref (gKs X i)] mem (some (.int (nI 0))) mem := by
  refine gMt.of (own := RJ0) (by decide) rfl hI (by simp [Value.category]) (Nat.le_of_ble_eq_true rfl) ?_
  intro p e s m args below meth c ls H locs C hnm hl hR hS
  refine gs_compact C hS fl_J0_38 dJ0_coder_7d493_0 ?_
  refine g_if_eq (tgt := 13) C dJ0_coder_7d493_3 (by decide) (by decide) (fun z9 => absurd z9 (by decide)) (fun c3 => ?_)
  refine g_aload_n C hl dJ0_coder_7d493_6 rfl ?_
  refine gs_coder C hi hS fl_J0_15 dJ0_coder_7d493_7 ?_
  refine g_goto (tgt := 14) C dJ0_coder_7d493_10 (by decide) ?_
  refine g_zret C hR hS dJ0_coder_7d493_14 rfl ?_
  exact ⟨rfl, rfl⟩
set_option maxRecDepth 100000 in
set_option maxHeartbeats 4000000 in
/-- isLatin1 -/
theorem c_J0_isLatin1_aae02 (l : Launch) {X : gX} (hI : gInj X) {mem : gM} {i : Nat} (hi : i < 10) : gF l yJ0_isLatin1_aae02 cJ0_isLatin1_aae02 1 (some .boolean) 0 0 X [.ref (gKs X i)] mem (some (.int (nI 1))) mem := by
  refine gMt.of (own := RJ0) (by decide) rfl hI (by simp [Value.category]) (Nat.le_of_ble_eq_true rfl) ?_
  intro p e s m args below meth c ls H locs C hnm hl hR hS
  refine gs_compact C hS fl_J0_38 dJ0_isLatin1_aae02_0 ?_
  refine g_if_eq (tgt := 17) C dJ0_isLatin1_aae02_3 (by decide) (by decide) (fun z9 => absurd z9 (by decide)) (fun c3 => ?_)
  refine g_aload_n C hl dJ0_isLatin1_aae02_6 rfl ?_
  refine gs_coder C hi hS fl_J0_15 dJ0_isLatin1_aae02_7 ?_
  refine g_if_ne (tgt := 17) C dJ0_isLatin1_aae02_10 (by decide) (by decide) (fun z9 => absurd z9 (fun z9 => z9 rfl)) (fun c10 => ?_)
  refine g_iconst 1 C dJ0_isLatin1_aae02_13 (by decide) ?_
  refine g_goto (tgt := 18) C dJ0_isLatin1_aae02_14 (by decide) ?_
  refine g_zret C hR hS dJ0_isLatin1_aae02_18 rfl ?_
  exact ⟨rfl, rfl⟩
theorem i_shr0 : ∀ i, i < 10 → (nI (gLn i) >>> (nI 0 &&& 31) == nI (gLn i)) = true := by decide +kernel
theorem gLn_rc {i : Nat} (hi : i < 10) : nI (gLn i) >>> (nI 0 &&& 31) = nI (gLn i) := by simpa using i_shr0 i hi
set_option maxRecDepth 100000 in
set_option maxHeartbeats 4000000 in
/-- length -/
theorem c_J0_length_8abf5 (l : Launch) {X : gX} (hI : gInj X) {mem : gM} {i : Nat} (hi : i < 10) : gF l yJ0_length_8abf5 cJ0_length_8abf5 1 (some .int) 1 20 X [.ref (gKs X i)] mem (some (.int (nI (gLn i)))) mem := by
  refine gMt.of (own := RJ0) (by decide) rfl hI (by simp [Value.category]) (Nat.le_of_ble_eq_true rfl) ?_
  intro p e s m args below meth c ls H locs C hnm hl hR hS
  refine g_aload_n C hl dJ0_length_8abf5_0 rfl ?_
  refine gs_value C hi hS fl_J0_9 dJ0_length_8abf5_1 ?_
  refine gs_len C hi hS dJ0_length_8abf5_4 ?_
  refine g_aload_n C hl dJ0_length_8abf5_5 rfl ?_
  refine gs_callVi C hl.1 hR hS hi rfl md_J0_coder_7d493 ml_J0_335 (c_J0_coder_7d493 l hI hi) rfl rfl ⟨Nat.le_of_ble_eq_true rfl, Nat.le_of_ble_eq_true rfl⟩ ⟨Nat.le_refl _, Nat.le_refl _⟩ (Nat.le_of_ble_eq_true rfl) dJ0_length_8abf5_6 (fun H locs hR hS => ?_)
  refine lv_ishr C.1 C.2.1 dJ0_length_8abf5_9 ?_
  rw [gLn_rc hi]
  refine g_iret C hR hS dJ0_length_8abf5_10 ?_
  exact ⟨rfl, rfl⟩
set_option maxRecDepth 100000 in
set_option maxHeartbeats 4000000 in
/-- checkIndex -/
theorem c_J3_check0 (l : Launch) {X : gX} (hI : gInj X) {mem : gM} {j n : Nat} (hj : j < n) (hn : n < 2 ^ 31) : gF l yJ3_checkIndex_8e157 cJ3_checkIndex_8e157 3 (some .int) 0 0 X [.int (nI j), .int (nI n), .null] mem (some (.int (nI j))) mem := by
  refine gMt.of (own := RJ3) (by decide) rfl hI (by simp [Value.category]) (Nat.le_of_ble_eq_true rfl) ?_
  intro p e s m args below meth c ls H locs C hnm hl hR hS
  refine g_iload_n C hl dJ3_checkIndex_8e157_0 rfl ?_
  refine g_if_lt (tgt := 9) C dJ3_checkIndex_8e157_1 (by decide) (by omega) ?_
  refine g_iload_n C hl dJ3_checkIndex_8e157_4 rfl ?_
  refine g_iload_n C hl dJ3_checkIndex_8e157_5 rfl ?_
  refine g_icmp_lt (tgt := 16) C dJ3_checkIndex_8e157_6 (by decide) (by omega) (by omega) (fun c6 => ?_) (fun z9 => absurd z9 (by omega))
  refine g_iload_n C hl dJ3_checkIndex_8e157_16 rfl ?_
  refine g_iret C hR hS dJ3_checkIndex_8e157_17 ?_
  exact ⟨rfl, rfl⟩
set_option maxRecDepth 100000 in
set_option maxHeartbeats 4000000 in
/-- checkIndex -/
theorem c_J3_check1 (l : Launch) {X : gX} (hI : gInj X) {mem : gM} {j n : Nat} (hj : j < n) (hn : n < 2 ^ 31) {t9 : Nat} : gF l yJ3_checkIndex_8e157 cJ3_checkIndex_8e157 3 (some .int) 0 0 X [.int (nI j), .int (nI n), .ref t9] mem (some (.int (nI j))) mem := by
  refine gMt.of (own := RJ3) (by decide) rfl hI (by simp [Value.category]) (Nat.le_of_ble_eq_true rfl) ?_
  intro p e s m args below meth c ls H locs C hnm hl hR hS
  refine g_iload_n C hl dJ3_checkIndex_8e157_0 rfl ?_
  refine g_if_lt (tgt := 9) C dJ3_checkIndex_8e157_1 (by decide) (by omega) ?_
  refine g_iload_n C hl dJ3_checkIndex_8e157_4 rfl ?_
  refine g_iload_n C hl dJ3_checkIndex_8e157_5 rfl ?_
  refine g_icmp_lt (tgt := 16) C dJ3_checkIndex_8e157_6 (by decide) (by omega) (by omega) (fun c6 => ?_) (fun z9 => absurd z9 (by omega))
  refine g_iload_n C hl dJ3_checkIndex_8e157_16 rfl ?_
  refine g_iret C hR hS dJ3_checkIndex_8e157_17 ?_
  exact ⟨rfl, rfl⟩
set_option maxRecDepth 100000 in
set_option maxHeartbeats 4000000 in
/-- checkIndex -/
theorem c_J0_checkIndex_df160 (l : Launch) {X : gX} (hI : gInj X) {mem : gM} {j n : Nat} (hj : j < n) (hn : n < 2 ^ 31) : gF l yJ0_checkIndex_df160 cJ0_checkIndex_df160 2 none 1 22 X [.int (nI j), .int (nI n)] mem none mem := by
  refine gMt.of (own := RJ0) (by decide) rfl hI (by simp [Value.category]) (Nat.le_of_ble_eq_true rfl) ?_
  intro p e s m args below meth c ls H locs C hnm hl hR hS
  refine g_iload_n C hl dJ0_checkIndex_df160_0 rfl ?_
  refine g_iload_n C hl dJ0_checkIndex_df160_1 rfl ?_
  refine gs_form C hS fl_J0_1053 dJ0_checkIndex_df160_2 ?_ (fun t9 => ?_)
  · refine g_callSi C hl.1 hR hS md_J3_checkIndex_8e157 ml_J0_1059 (c_J3_check0 l hI hj hn) rfl rfl ⟨Nat.le_of_ble_eq_true rfl, Nat.le_of_ble_eq_true rfl⟩ ⟨Nat.le_refl _, Nat.le_refl _⟩ (Nat.le_of_ble_eq_true rfl) dJ0_checkIndex_df160_5 (fun H locs hR hS => ?_)
    refine g_pop C dJ0_checkIndex_df160_8 rfl ?_
    refine g_vret C hR hS dJ0_checkIndex_df160_9 ?_
    exact ⟨rfl, rfl⟩
  · refine g_callSi C hl.1 hR hS md_J3_checkIndex_8e157 ml_J0_1059 (c_J3_check1 l hI hj hn) rfl rfl ⟨Nat.le_of_ble_eq_true rfl, Nat.le_of_ble_eq_true rfl⟩ ⟨Nat.le_refl _, Nat.le_refl _⟩ (Nat.le_of_ble_eq_true rfl) dJ0_checkIndex_df160_5 (fun H locs hR hS => ?_)
    refine g_pop C dJ0_checkIndex_df160_8 rfl ?_
    refine g_vret C hR hS dJ0_checkIndex_df160_9 ?_
    exact ⟨rfl, rfl⟩
theorem gCh_and : ∀ i, i < 10 → ∀ j, j < 5 → ((((nI (gCh i j) &&& nI 255).toUInt32 % 65536).toInt32) == nI (gCh i j)) = true := by decide +kernel
set_option maxRecDepth 100000 in
set_option maxHeartbeats 4000000 in
/-- charAt -/
theorem c_J1_charAt_3b067 (l : Launch) {X : gX} (hI : gInj X) {mem : gM} {i : Nat} (hi : i < 10) {j : Nat} (hj : j < gLn i) : gF l yJ1_charAt_3b067 cJ1_charAt_3b067 2 (some .char) 2 43 X [.ref (gVs X i), .int (nI j)] mem (some (.int (nI (gCh i j)))) mem := by
  refine gMt.of (own := RJ1) (by decide) rfl hI (by simp [Value.category]) (Nat.le_of_ble_eq_true rfl) ?_
  intro p e s m args below meth c ls H locs C hnm hl hR hS
  have h5 := gLn_all i hi
  refine g_iload_n C hl dJ1_charAt_3b067_0 rfl ?_
  refine g_aload_n C hl dJ1_charAt_3b067_1 rfl ?_
  refine gs_len C hi hS dJ1_charAt_3b067_2 ?_
  refine g_callSv C hl.1 hR hS md_J0_checkIndex_df160 ml_J1_9 (c_J0_checkIndex_df160 l hI hj (by omega)) rfl rfl ⟨Nat.le_of_ble_eq_true rfl, Nat.le_of_ble_eq_true rfl⟩ ⟨Nat.le_refl _, Nat.le_refl _⟩ (Nat.le_of_ble_eq_true rfl) dJ1_charAt_3b067_3 (fun H locs hR hS => ?_)
  refine g_aload_n C hl dJ1_charAt_3b067_6 rfl ?_
  refine g_iload_n C hl dJ1_charAt_3b067_7 rfl ?_
  refine gs_bald C hi hj hS dJ1_charAt_3b067_8 ?_
  refine g_sipush 255 C dJ1_charAt_3b067_9 (by decide) ?_
  refine lv_iand C.1 C.2.1 dJ1_charAt_3b067_12 ?_
  refine lv_i2c C.1 C.2.1 dJ1_charAt_3b067_13 (v := nI (gCh i j)) (by simpa using gCh_and i hi j (by omega)) ?_
  refine g_zret C hR hS dJ1_charAt_3b067_14 (pk_charN (by have := (gCh_eq hi hj).2; omega)).1 ?_
  exact ⟨rfl, rfl⟩
set_option maxRecDepth 100000 in
set_option maxHeartbeats 4000000 in
/-- String.charAt -/
theorem c_J0_charAt_5068e (l : Launch) {X : gX} (hI : gInj X) {mem : gM} {i : Nat} (hi : i < 10) {j : Nat} (hj : j < gLn i) : gF l yJ0_charAt_5068e cJ0_charAt_5068e 2 (some .char) 4 85 X [.ref (gKs X i), .int (nI j)] mem (some (.int (nI (gCh i j)))) mem := by
  refine gMt.of (own := RJ0) (by decide) rfl hI (by simp [Value.category]) (Nat.le_of_ble_eq_true rfl) ?_
  intro p e s m args below meth c ls H locs C hnm hl hR hS
  refine g_aload_n C hl dJ0_charAt_5068e_0 rfl ?_
  refine gs_callVi C hl.1 hR hS hi rfl md_J0_isLatin1_aae02 ml_J0_492 (c_J0_isLatin1_aae02 l hI hi) rfl rfl ⟨Nat.le_of_ble_eq_true rfl, Nat.le_of_ble_eq_true rfl⟩ ⟨Nat.le_refl _, Nat.le_refl _⟩ (Nat.le_of_ble_eq_true rfl) dJ0_charAt_5068e_1 (fun H locs hR hS => ?_)
  refine g_if_eq (tgt := 16) C dJ0_charAt_5068e_4 (by decide) (by decide) (fun z9 => absurd z9 (by decide)) (fun c4 => ?_)
  refine g_aload_n C hl dJ0_charAt_5068e_7 rfl ?_
  refine gs_value C hi hS fl_J0_9 dJ0_charAt_5068e_8 ?_
  refine g_iload_n C hl dJ0_charAt_5068e_11 rfl ?_
  refine g_callSi C hl.1 hR hS md_J1_charAt_3b067 ml_J0_495 (c_J1_charAt_3b067 l hI hi hj) rfl rfl ⟨Nat.le_of_ble_eq_true rfl, Nat.le_of_ble_eq_true rfl⟩ ⟨Nat.le_refl _, Nat.le_refl _⟩ (Nat.le_of_ble_eq_true rfl) dJ0_charAt_5068e_12 (fun H locs hR hS => ?_)
  refine g_zret C hR hS dJ0_charAt_5068e_15 (pk_charN (by have := (gCh_eq hi hj).2; omega)).1 ?_
  exact ⟨rfl, rfl⟩
set_option maxRecDepth 100000 in
set_option maxHeartbeats 4000000 in
/-- X1_wordOf -/
theorem c_X1_wordOf (l : Launch) {X : gX} (hI : gInj X) {mem : gM} {i : Nat} (hi : i < 10) : gF l yX1_wordOf cX1_wordOf 1 (some (.object "java/lang/String")) 0 0 X [.int (nI i)] mem (some (.ref (gKs X i))) mem := by
  refine gMt.of (own := RX1) (by decide) rfl hI (by simp [Value.category]) (Nat.le_of_ble_eq_true rfl) ?_
  intro p e s m args below meth c ls H locs C hnm hl hR hS
  rcases (show i = 0 ∨ i = 1 ∨ i = 2 ∨ i = 3 ∨ i = 4 ∨ i = 5 ∨ i = 6 ∨ i = 7 ∨ i = 8 ∨ i = 9 by omega) with rfl | rfl | rfl | rfl | rfl | rfl | rfl | rfl | rfl | rfl
  · -- 0
    refine g_iload_n C hl dX1_wordOf_0 rfl ?_
    refine lv_tableIn (tgt := 52) C.1 C.2.1 dX1_wordOf_1 (by decide) (by decide) rfl (by decide) ?_
    refine gs_ldc (i := 0) C (by decide) rfl dX1_wordOf_52 ?_
    refine g_aret C hR hS dX1_wordOf_54 ?_
    exact ⟨rfl, rfl⟩
  · -- 1
    refine g_iload_n C hl dX1_wordOf_0 rfl ?_
    refine lv_tableIn (tgt := 55) C.1 C.2.1 dX1_wordOf_1 (by decide) (by decide) rfl (by decide) ?_
    refine gs_ldc (i := 1) C (by decide) rfl dX1_wordOf_55 ?_
    refine g_aret C hR hS dX1_wordOf_57 ?_
    exact ⟨rfl, rfl⟩
  · -- 2
    refine g_iload_n C hl dX1_wordOf_0 rfl ?_
    refine lv_tableIn (tgt := 58) C.1 C.2.1 dX1_wordOf_1 (by decide) (by decide) rfl (by decide) ?_
    refine gs_ldc (i := 2) C (by decide) rfl dX1_wordOf_58 ?_
    refine g_aret C hR hS dX1_wordOf_60 ?_
    exact ⟨rfl, rfl⟩
  · -- 3
    refine g_iload_n C hl dX1_wordOf_0 rfl ?_
    refine lv_tableIn (tgt := 61) C.1 C.2.1 dX1_wordOf_1 (by decide) (by decide) rfl (by decide) ?_
    refine gs_ldc (i := 3) C (by decide) rfl dX1_wordOf_61 ?_
    refine g_aret C hR hS dX1_wordOf_63 ?_
    exact ⟨rfl, rfl⟩
  · -- 4
    refine g_iload_n C hl dX1_wordOf_0 rfl ?_
    refine lv_tableIn (tgt := 64) C.1 C.2.1 dX1_wordOf_1 (by decide) (by decide) rfl (by decide) ?_
    refine gs_ldc (i := 4) C (by decide) rfl dX1_wordOf_64 ?_
    refine g_aret C hR hS dX1_wordOf_66 ?_
    exact ⟨rfl, rfl⟩
  · -- 5
    refine g_iload_n C hl dX1_wordOf_0 rfl ?_
    refine lv_tableIn (tgt := 67) C.1 C.2.1 dX1_wordOf_1 (by decide) (by decide) rfl (by decide) ?_
    refine gs_ldc (i := 5) C (by decide) rfl dX1_wordOf_67 ?_
    refine g_aret C hR hS dX1_wordOf_69 ?_
    exact ⟨rfl, rfl⟩
  · -- 6
    refine g_iload_n C hl dX1_wordOf_0 rfl ?_
    refine lv_tableIn (tgt := 70) C.1 C.2.1 dX1_wordOf_1 (by decide) (by decide) rfl (by decide) ?_
    refine gs_ldc (i := 6) C (by decide) rfl dX1_wordOf_70 ?_
    refine g_aret C hR hS dX1_wordOf_72 ?_
    exact ⟨rfl, rfl⟩
  · -- 7
    refine g_iload_n C hl dX1_wordOf_0 rfl ?_
    refine lv_tableIn (tgt := 73) C.1 C.2.1 dX1_wordOf_1 (by decide) (by decide) rfl (by decide) ?_
    refine gs_ldc (i := 7) C (by decide) rfl dX1_wordOf_73 ?_
    refine g_aret C hR hS dX1_wordOf_75 ?_
    exact ⟨rfl, rfl⟩
  · -- 8
    refine g_iload_n C hl dX1_wordOf_0 rfl ?_
    refine lv_tableIn (tgt := 76) C.1 C.2.1 dX1_wordOf_1 (by decide) (by decide) rfl (by decide) ?_
    refine gs_ldc (i := 8) C (by decide) rfl dX1_wordOf_76 ?_
    refine g_aret C hR hS dX1_wordOf_78 ?_
    exact ⟨rfl, rfl⟩
  · -- 9
    refine g_iload_n C hl dX1_wordOf_0 rfl ?_
    refine lv_tableOut (tgt := 79) C.1 C.2.1 dX1_wordOf_1 (by decide) (by decide) ?_
    refine gs_ldc (i := 9) C (by decide) rfl dX1_wordOf_79 ?_
    refine g_aret C hR hS dX1_wordOf_81 ?_
    exact ⟨rfl, rfl⟩
