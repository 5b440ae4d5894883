/-! ===== the law: numbers, cells, addresses, copies ===== -/
set_option maxRecDepth 100000 in
set_option maxHeartbeats 4000000 in
theorem c_L_low (l : Launch) {X : gX} (hI : gInj X) {mem : gM} {v : Int32} {n : Nat} (h0 : 0 < n) (hn : n < 2 ^ 31) : gMt l yL_low cL_low 2 (some .int) 0 0 X [.int v, .int (nI n)] mem (fun v9 m9 => ∃ r, r < n ∧ v9 = some (.int (nI r)) ∧ m9 = mem) := by
  refine gMt.of (own := RL) (by decide) rfl hI (by simp [Value.category]) (Nat.le_of_ble_eq_true rfl) ?_
  intro p e s m args below meth c ls H locs C hnm hl hR hS
  refine g_iload_n C hl dL_low_0 rfl ?_
  refine g_ldc 2147483647 C cn_L_8 rfl dL_low_1 ?_
  refine lv_iand C.1 C.2.1 dL_low_3 ?_
  obtain ⟨w9, hw9, ew9⟩ := pk_andE v (m := nI 2147483647) 31 (by decide)
  rw [ew9]
  refine g_iload_n C hl dL_low_4 rfl ?_
  refine g_irem C dL_low_5 (by omega) h0 hn ?_
  refine g_iret C hR hS dL_low_6 ?_
  exact ⟨_, Nat.mod_lt _ h0, rfl, rfl⟩
set_option maxRecDepth 100000 in
set_option maxHeartbeats 4000000 in
theorem c_L_cell (l : Launch) {X : gX} (hI : gInj X) {mem : gM} {k : Nat} (hk : uG X k) {z : Nat → Nat} (hM : uR (mem k) z) {b c9 : Nat} (hb : b < 8) (hc : c9 < 16) : gF l yL_cell cL_cell 4 (some .int) 0 0 X [.ref (gAd X k 1), .ref (gAd X k 2), .int (nI b), .int (nI c9)] mem (some (.int (nI (z (zIx b c9))))) mem := by
  refine gMt.of (own := RL) (by decide) rfl hI (by simp [Value.category]) (Nat.le_of_ble_eq_true rfl) ?_
  intro p e s m args below meth c ls H locs C hnm hl hR hS
  refine g_iload_n C hl dL_cell_0 rfl ?_
  refine g_bipush 11 C dL_cell_1 (by decide) ?_
  refine g_icmp_le (tgt := 18) C dL_cell_3 (by decide) (by omega) (by omega) (fun c3 => ?_) (fun c3 => ?_)
  · -- 3 T
    refine g_iload_n C hl dL_cell_18 rfl ?_
    refine g_iconst 4 C dL_cell_19 (by decide) ?_
    refine g_icmp_ge (tgt := 34) C dL_cell_20 (by decide) (by omega) (by omega) (fun c20 => ?_) (fun c20 => ?_)
    · -- 20 T
      refine g_aload_n C hl dL_cell_34 rfl ?_
      refine g_bipush 12 C dL_cell_35 (by decide) ?_
      refine g_iload_n C hl dL_cell_37 rfl ?_
      refine g_imul C dL_cell_38 ?_
      refine g_bipush 48 C dL_cell_39 (by decide) ?_
      refine g_isub C dL_cell_41 (by omega) ?_
      refine g_iload_n C hl dL_cell_42 rfl ?_
      refine g_iadd C dL_cell_43 ?_
      refine u_ald (12 * b + c9) C hk hM hR (uJ_d (by omega) (by omega)) dL_cell_44 ?_
      refine g_iret C hR hS dL_cell_45 ?_
      refine ⟨?_, rfl⟩
      unfold zIx
      rw [if_pos (by omega)]
    · -- 20 F
      refine g_aload_n C hl dL_cell_23 rfl ?_
      refine g_bipush 12 C dL_cell_24 (by decide) ?_
      refine g_iload_n C hl dL_cell_26 rfl ?_
      refine g_imul C dL_cell_27 ?_
      refine g_iload_n C hl dL_cell_28 rfl ?_
      refine g_iadd C dL_cell_29 ?_
      refine u_ald (12 * b + c9) C hk hM hR (uJ_c rfl (by omega)) dL_cell_30 ?_
      refine g_goto (tgt := 45) C dL_cell_31 (by decide) ?_
      refine g_iret C hR hS dL_cell_45 ?_
      refine ⟨?_, rfl⟩
      unfold zIx
      rw [if_pos (by omega)]
  · -- 3 F
    refine g_aload_n C hl dL_cell_6 rfl ?_
    refine g_bipush 48 C dL_cell_7 (by decide) ?_
    refine g_iload_n C hl dL_cell_9 rfl ?_
    refine g_iadd C dL_cell_10 ?_
    refine g_bipush 12 C dL_cell_11 (by decide) ?_
    refine g_isub C dL_cell_13 (by omega) ?_
    refine u_ald (84 + c9) C hk hM hR (uJ_m (by omega) (by omega) (by omega)) dL_cell_14 ?_
    refine g_goto (tgt := 45) C dL_cell_15 (by decide) ?_
    refine g_iret C hR hS dL_cell_45 ?_
    refine ⟨?_, rfl⟩
    unfold zIx
    rw [if_neg (by omega)]
set_option maxRecDepth 100000 in
set_option maxHeartbeats 4000000 in
theorem c_L_put (l : Launch) {X : gX} (hI : gInj X) {mem : gM} {k : Nat} (hk : uG X k) {z : Nat → Nat} (hM : uR (mem k) z) {b c9 n : Nat} (hb : b < 8) (hc : c9 < 16) : gMt l yL_put cL_put 5 none 0 0 X [.ref (gAd X k 1), .ref (gAd X k 2), .int (nI b), .int (nI c9), .int (nI n)] mem (uP k mem (fU z (zIx b c9) n) none) := by
  refine gMt.of (own := RL) (by decide) rfl hI (by simp [Value.category]) (Nat.le_of_ble_eq_true rfl) ?_
  intro p e s m args below meth c ls H locs C hnm hl hR hS
  have hF : uF k mem mem := uF.rf
  refine g_iload_n C hl dL_put_0 rfl ?_
  refine g_bipush 11 C dL_put_1 (by decide) ?_
  refine g_icmp_le (tgt := 14) C dL_put_3 (by decide) (by omega) (by omega) (fun c3 => ?_) (fun c3 => ?_)
  · -- 3 T
    refine g_iload_n C hl dL_put_14 rfl ?_
    refine g_bipush 12 C dL_put_15 (by decide) ?_
    refine g_icmp_ge (tgt := 35) C dL_put_17 (by decide) (by omega) (by omega) (fun z9 => absurd z9 (by omega)) (fun c17 => ?_)
    refine g_iload_n C hl dL_put_20 rfl ?_
    refine g_iconst 4 C dL_put_21 (by decide) ?_
    refine g_icmp_ge (tgt := 35) C dL_put_22 (by decide) (by omega) (by omega) (fun c22 => ?_) (fun c22 => ?_)
    · -- 22 T
      refine g_iload_n C hl dL_put_35 rfl ?_
      refine g_bipush 12 C dL_put_36 (by decide) ?_
      refine g_icmp_ge (tgt := 59) C dL_put_38 (by decide) (by omega) (by omega) (fun z9 => absurd z9 (by omega)) (fun c38 => ?_)
      refine g_iload_n C hl dL_put_41 rfl ?_
      refine g_iconst 3 C dL_put_42 (by decide) ?_
      refine g_icmp_le (tgt := 59) C dL_put_43 (by decide) (by omega) (by omega) (fun z9 => absurd z9 (by omega)) (fun c43 => ?_)
      refine g_aload_n C hl dL_put_46 rfl ?_
      refine g_bipush 12 C dL_put_47 (by decide) ?_
      refine g_iload_n C hl dL_put_49 rfl ?_
      refine g_imul C dL_put_50 ?_
      refine g_bipush 48 C dL_put_51 (by decide) ?_
      refine g_isub C dL_put_53 (by omega) ?_
      refine g_iload_n C hl dL_put_54 rfl ?_
      refine g_iadd C dL_put_55 ?_
      refine g_iload C hl dL_put_56 rfl ?_
      refine u_ast (12 * b + c9) C hk hM hF hR hS (uJ_d (by omega) (by omega)) dL_put_58 (fun mem hM hF H locs hR hS => ?_)
      refine g_vret C hR hS dL_put_59 ?_
      refine ⟨rfl, hF, ?_⟩
      unfold zIx
      rw [if_pos (by omega)]
      exact hM
    · -- 22 F
      refine g_aload_n C hl dL_put_25 rfl ?_
      refine g_bipush 12 C dL_put_26 (by decide) ?_
      refine g_iload_n C hl dL_put_28 rfl ?_
      refine g_imul C dL_put_29 ?_
      refine g_iload_n C hl dL_put_30 rfl ?_
      refine g_iadd C dL_put_31 ?_
      refine g_iload C hl dL_put_32 rfl ?_
      refine u_ast (12 * b + c9) C hk hM hF hR hS (uJ_c rfl (by omega)) dL_put_34 (fun mem hM hF H locs hR hS => ?_)
      refine g_iload_n C hl dL_put_35 rfl ?_
      refine g_bipush 12 C dL_put_36 (by decide) ?_
      refine g_icmp_ge (tgt := 59) C dL_put_38 (by decide) (by omega) (by omega) (fun z9 => absurd z9 (by omega)) (fun c38 => ?_)
      refine g_iload_n C hl dL_put_41 rfl ?_
      refine g_iconst 3 C dL_put_42 (by decide) ?_
      refine g_icmp_le (tgt := 59) C dL_put_43 (by decide) (by omega) (by omega) (fun c43 => ?_) (fun z9 => absurd z9 (by omega))
      refine g_vret C hR hS dL_put_59 ?_
      refine ⟨rfl, hF, ?_⟩
      unfold zIx
      rw [if_pos (by omega)]
      exact hM
  · -- 3 F
    refine g_aload_n C hl dL_put_6 rfl ?_
    refine g_bipush 36 C dL_put_7 (by decide) ?_
    refine g_iload_n C hl dL_put_9 rfl ?_
    refine g_iadd C dL_put_10 ?_
    refine g_iload C hl dL_put_11 rfl ?_
    refine u_ast (84 + c9) C hk hM hF hR hS (uJ_m (by omega) (by omega) (by omega)) dL_put_13 (fun mem hM hF H locs hR hS => ?_)
    refine g_iload_n C hl dL_put_14 rfl ?_
    refine g_bipush 12 C dL_put_15 (by decide) ?_
    refine g_icmp_ge (tgt := 35) C dL_put_17 (by decide) (by omega) (by omega) (fun c17 => ?_) (fun z9 => absurd z9 (by omega))
    refine g_iload_n C hl dL_put_35 rfl ?_
    refine g_bipush 12 C dL_put_36 (by decide) ?_
    refine g_icmp_ge (tgt := 59) C dL_put_38 (by decide) (by omega) (by omega) (fun c38 => ?_) (fun z9 => absurd z9 (by omega))
    refine g_vret C hR hS dL_put_59 ?_
    refine ⟨rfl, hF, ?_⟩
    unfold zIx
    rw [if_neg (by omega)]
    exact hM
set_option maxRecDepth 100000 in
set_option maxHeartbeats 4000000 in
theorem c_L_at (l : Launch) {X : gX} (hI : gInj X) {mem : gM} {k : Nat} (hk : uG X k) {z : Nat → Nat} (hM : uR (mem k) z) (hz : zI z) {a : Nat} (ha : a < 64) : gF l yL_at cL_at 4 (some .int) 1 23 X [.ref (gAd X k 0), .ref (gAd X k 1), .ref (gAd X k 2), .int (nI a)] mem (some (.int (nI (z (zAt z a))))) mem := by
  refine gMt.of (own := RL) (by decide) rfl hI (by simp [Value.category]) (Nat.le_of_ble_eq_true rfl) ?_
  intro p e s m args below meth c ls H locs C hnm hl hR hS
  refine g_aload_n C hl dL_at_0 rfl ?_
  refine g_aload_n C hl dL_at_1 rfl ?_
  refine g_aload_n C hl dL_at_2 rfl ?_
  refine g_iload_n C hl dL_at_3 rfl ?_
  refine g_bipush 16 C dL_at_4 (by decide) ?_
  refine g_idiv C dL_at_6 (by omega) (by decide) (by decide) ?_
  refine u_ald (100 + a / 16) C hk hM hR (uJ_w rfl (by omega)) dL_at_7 ?_
  refine g_iload_n C hl dL_at_8 rfl ?_
  refine g_bipush 16 C dL_at_9 (by decide) ?_
  refine g_irem C dL_at_11 (by omega) (by decide) (by decide) ?_
  refine g_callSi C hl.1 hR hS md_L_cell ml_L_9 (c_L_cell l hI hk hM (hz.bk ha) (show a % 16 < 16 by omega)) rfl rfl ⟨Nat.le_of_ble_eq_true rfl, Nat.le_of_ble_eq_true rfl⟩ ⟨Nat.le_refl _, Nat.le_refl _⟩ (Nat.le_of_ble_eq_true rfl) dL_at_12 (fun H locs hR hS => ?_)
  refine g_iret C hR hS dL_at_15 ?_
  exact ⟨rfl, rfl⟩
set_option maxRecDepth 100000 in
set_option maxHeartbeats 4000000 in
/-- L_copy -/
theorem c_L_copy (l : Launch) {X : gX} (hI : gInj X) {mem : gM} {o : Nat} (h8 : uG X 8) (h9 : uG X 9) (ho : o < 4) : gF l yL_copy cL_copy 3 none 0 0 X [.ref (gAd X 8 o), .ref (gAd X 9 o)] mem none (gP mem 9 o (cpF (mem 8 o) (mem 9 o) 0 0 (gLn o))) := by
  refine gMt.of (own := RL) (by decide) rfl hI (by simp [Value.category]) (Nat.le_of_ble_eq_true rfl) ?_
  intro p e s m args below meth c ls H locs C hnm hl hR hS
  have hln : gLn o < 2 ^ 31 := gLn_lt o
  have loop : ∀ (d i : Nat), i + d = gLn o → ∀ (ls : Array Slot) (H : Heap) (locs : List Loc), gL ls [some (.ref (gAd X 8 o)), some (.ref (gAd X 9 o)), some (.int (nI i))] → gRep X (gP mem 9 o (cpF (mem 8 o) (mem 9 o) 0 0 i)) H → va_S (gA X) s.heap H locs → W p l e { frames := 0, cells := 0, slots := 0, locals := 0 } s m args below meth c H locs 0 0 (MQ below (gQ X (fun v m => v = none ∧ m = gP mem 9 o (cpF (mem 8 o) (mem 9 o) 0 0 (gLn o)))) args s 0 0 (gA X)) (F0 m 2 ls []) := by
    intro d
    induction d with
    | zero =>
      intro i hi  ls H locs  hl hR hS
      have hi2 : i = gLn o := by omega
      subst hi2
      refine g_iload_n C hl dL_copy_2 rfl ?_
      refine g_aload_n C hl dL_copy_3 rfl ?_
      refine g_alen C hR (h8.mem ho) (fun g => h8.sh g) dL_copy_4 ?_
      refine g_icmp_ge (tgt := 20) C dL_copy_5 (by decide) (by omega) (by omega) (fun c5 => ?_) (fun z9 => absurd z9 (by omega))
      refine g_vret C hR hS dL_copy_20 ?_
      exact ⟨rfl, rfl⟩
    | succ d ih =>
      intro i hi  ls H locs  hl hR hS
      refine g_iload_n C hl dL_copy_2 rfl ?_
      refine g_aload_n C hl dL_copy_3 rfl ?_
      refine g_alen C hR (h8.mem ho) (fun g => h8.sh g) dL_copy_4 ?_
      refine g_icmp_ge (tgt := 20) C dL_copy_5 (by decide) (by omega) (by omega) (fun z9 => absurd z9 (by omega)) (fun c5 => ?_)
      refine g_aload_n C hl dL_copy_8 rfl ?_
      refine g_iload_n C hl dL_copy_9 rfl ?_
      refine g_aload_n C hl dL_copy_10 rfl ?_
      refine g_iload_n C hl dL_copy_11 rfl ?_
      refine g_iald C hR (h8.mem ho) (fun g => h8.sh g) (by omega) hln dL_copy_12 ?_
      rw [gP_n mem _ (show ¬ (8 = 9 ∧ o = o) by omega)]
      refine g_iast C hR hS (h9.mem ho) (fun g => h9.sh g) (by omega) hln dL_copy_13 (fun H locs hR hS => ?_)
      rw [gP_u, gP_s] at hR
      refine g_iinc (k := 1) C hl dL_copy_14 rfl (by decide) (fun ls hl => ?_)
      refine g_goto (tgt := 2) C dL_copy_17 (by decide) ?_
      refine ih (i + 1) (by omega)  ls H locs hl ?_ hS
      rw [← cpF_s, Nat.zero_add]
      exact hR
  refine g_iconst 0 C dL_copy_0 (by decide) ?_
  refine g_istore_n C hl dL_copy_1 (Nat.le_of_ble_eq_true rfl) (fun ls hl => ?_)
  exact loop (gLn o) 0 (by omega) _ _ _ hl (by rw [cpF_0, gP_self]; exact hR) hS
theorem uK_at : ∀ j, j < 198 → uK j = true → uO j < 4 ∧ uX j < gLn (uO j) := by decide +kernel
/-- four copies -/
def uCp (mem : gM) (n : Nat) : gM := match n with
  | 0 => mem
  | n + 1 => gP (uCp mem n) 9 n (cpF (uCp mem n 8 n) (uCp mem n 9 n) 0 0 (gLn n))
theorem uCp_F {mem : gM} : ∀ n, uF 9 mem (uCp mem n)
  | 0 => uF.rf
  | n + 1 => (uCp_F n).gP
theorem uCp_at {mem : gM} : ∀ n o, o < n → ∀ i, i < gLn o → uCp mem n 9 o i = mem 8 o i
  | 0, _, h, _, _ => absurd h (Nat.not_lt_zero _)
  | n + 1, o, h, i, hi => by
    show gP (uCp mem n) 9 n (cpF (uCp mem n 8 n) (uCp mem n 9 n) 0 0 (gLn n)) 9 o i = mem 8 o i
    by_cases e : o = n
    · subst e
      rw [gP_s, cpF_in (by omega) (by omega), Nat.zero_add, Nat.sub_zero, uCp_F o 8 (by decide)]
    · rw [gP_n _ _ (fun q => e q.2)]
      exact uCp_at n o (by omega) i hi
theorem uCp_R {mem : gM} {z : Nat → Nat} (h : uR (mem 8) z) : uR (uCp mem 4 9) z := by
  intro j hk
  obtain ⟨h1, h2⟩ := uK_at j (uK_lt hk) hk
  rw [uCp_at 4 _ h1 _ h2]
  exact h j hk
