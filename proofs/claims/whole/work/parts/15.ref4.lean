/-! ===== the reference: rows copied, records, what is told ===== -/
def cpF (src dst : Nat → Nat) (s d n : Nat) : Nat → Nat := fun j => if d ≤ j ∧ j < d + n then src (s + (j - d)) else dst j
theorem cpF_0 (src dst : Nat → Nat) (s d : Nat) : cpF src dst s d 0 = dst := by
  funext j
  unfold cpF
  rw [if_neg (by omega)]
theorem cpF_s (src dst : Nat → Nat) (s d i : Nat) : fU (cpF src dst s d i) (d + i) (src (s + i)) = cpF src dst s d (i + 1) := by
  funext j
  unfold cpF fU
  by_cases e : j = d + i
  · rw [if_pos e, if_pos (by omega), e, show d + i - d = i by omega]
  · rw [if_neg e]
    dsimp only
    by_cases g : d ≤ j ∧ j < d + i
    · rw [if_pos g, if_pos (by omega)]
    · rw [if_neg g, if_neg (by omega)]
theorem cpF_in {src dst : Nat → Nat} {s d n j : Nat} (h : d ≤ j) (h2 : j < d + n) : cpF src dst s d n j = src (s + (j - d)) := by
  unfold cpF
  rw [if_pos ⟨h, h2⟩]
theorem cpF_out {src dst : Nat → Nat} {s d n j : Nat} (h : ¬ (d ≤ j ∧ j < d + n)) : cpF src dst s d n j = dst j := by
  unfold cpF
  rw [if_neg h]
def shF (o : Nat → Nat) (i : Nat) : Nat → Nat := fun j => if j < i then o (198 + j) else o j
theorem shF_0 (o : Nat → Nat) : shF o 0 = o := by
  funext j
  unfold shF
  rw [if_neg (by omega)]
theorem shF_s (o : Nat → Nat) (i : Nat) : fU (shF o i) i (shF o i (198 + i)) = shF o (i + 1) := by
  funext j
  unfold shF fU
  by_cases e : j = i
  · rw [if_pos e, if_neg (show ¬ 198 + i < i by omega), if_pos (by omega), e]
  · rw [if_neg e]
    dsimp only
    by_cases g : j < i
    · rw [if_pos g, if_pos (by omega)]
    · rw [if_neg g, if_neg (by omega)]
def rN (n : Nat) : Nat := if n = 4 then 4 else n + 1
def oRec (n : Nat) (o z : Nat → Nat) : Nat → Nat := if n = 4 then cpF z (shF o 594) 0 594 198 else cpF z o 0 (198 * n) 198
set_option maxRecDepth 100000 in
set_option maxHeartbeats 4000000 in
/-- X9_putAside -/
theorem c_X9_putAside (l : Launch) {X : gX} (hI : gInj X) {mem : gM} {f z a o k t r : Nat → Nat} : gF l yX9_putAside cX9_putAside 2 none 0 0 X [.ref (gAd X 8 0)] (gM8 mem f z a o k t r) none (gM8 mem f z z o k t r) := by
  refine gMt.of (own := RX9) (by decide) rfl hI (by simp [Value.category]) (Nat.le_of_ble_eq_true rfl) ?_
  intro p e s m args below meth c ls H locs C hnm hl hR hS
  have loop : ∀ (d i : Nat), i + d = 198 → ∀ (ls : Array Slot) (H : Heap) (locs : List Loc), gL ls [some (.ref (gAd X 8 0)), some (.int (nI i))] → gRep X (gM8 mem f z (cpF z a 0 0 i) o k t r) H → va_S (gA X) s.heap H locs → W p l e { frames := 0, cells := 0, slots := 0, locals := 0 } s m args below meth c H locs 0 0 (MQ below (gQ X (fun v m => v = none ∧ m = gM8 mem f z z o k t r)) args s 0 0 (gA X)) (F0 m 2 ls []) := by
    intro d
    induction d with
    | zero =>
      intro i hi  ls H locs  hl hR hS
      have hi2 : i = 198 := by omega
      subst hi2
      refine g_iload_n C hl dX9_putAside_2 rfl ?_
      refine g_sipush 198 C dX9_putAside_3 (by decide) ?_
      refine g_icmp_ge (tgt := 27) C dX9_putAside_6 (by decide) (by omega) (by omega) (fun c6 => ?_) (fun z9 => absurd z9 (by omega))
      have hR := r_arr2 (g := z) hR (fun j hj => by rw [cpF_in (by omega) (by omega), Nat.zero_add, Nat.sub_zero])
      refine g_vret C hR hS dX9_putAside_27 ?_
      exact ⟨rfl, rfl⟩
    | succ d ih =>
      intro i hi  ls H locs  hl hR hS
      refine g_iload_n C hl dX9_putAside_2 rfl ?_
      refine g_sipush 198 C dX9_putAside_3 (by decide) ?_
      refine g_icmp_ge (tgt := 27) C dX9_putAside_6 (by decide) (by omega) (by omega) (fun z9 => absurd z9 (by omega)) (fun c6 => ?_)
      refine g_aload_n C hl dX9_putAside_9 rfl ?_
      refine gt_X9_1 C hR fl_X9_13 dX9_putAside_10 ?_
      refine g_iload_n C hl dX9_putAside_13 rfl ?_
      refine g_aload_n C hl dX9_putAside_14 rfl ?_
      refine gt_X9_0 C hR fl_X9_7 dX9_putAside_15 ?_
      refine g_iload_n C hl dX9_putAside_18 rfl ?_
      refine r_ald1 C hR (by omega) dX9_putAside_19 ?_
      refine r_ast2 C hR hS (by omega) dX9_putAside_20 (fun H locs hR hS => ?_)
      refine g_iinc (k := 1) C hl dX9_putAside_21 rfl (by decide) (fun ls hl => ?_)
      refine g_goto (tgt := 2) C dX9_putAside_24 (by decide) ?_
      refine ih (i + 1) (by omega)  ls H locs hl ?_ hS
      rw [← cpF_s, Nat.zero_add]
      exact hR
  refine g_iconst 0 C dX9_putAside_0 (by decide) ?_
  refine g_istore_n C hl dX9_putAside_1 (Nat.le_of_ble_eq_true rfl) (fun ls hl => ?_)
  exact loop 198 0 (by omega) _ _ _ hl (by rw [cpF_0]; exact hR) hS
set_option maxRecDepth 100000 in
set_option maxHeartbeats 4000000 in
/-- X9_putBack -/
theorem c_X9_putBack (l : Launch) {X : gX} (hI : gInj X) {mem : gM} {f z a o k t r : Nat → Nat} : gF l yX9_putBack cX9_putBack 2 none 0 0 X [.ref (gAd X 8 0)] (gM8 mem f z a o k t r) none (gM8 mem f a a o k t r) := by
  refine gMt.of (own := RX9) (by decide) rfl hI (by simp [Value.category]) (Nat.le_of_ble_eq_true rfl) ?_
  intro p e s m args below meth c ls H locs C hnm hl hR hS
  have loop : ∀ (d i : Nat), i + d = 198 → ∀ (ls : Array Slot) (H : Heap) (locs : List Loc), gL ls [some (.ref (gAd X 8 0)), some (.int (nI i))] → gRep X (gM8 mem f (cpF a z 0 0 i) a o k t r) H → va_S (gA X) s.heap H locs → W p l e { frames := 0, cells := 0, slots := 0, locals := 0 } s m args below meth c H locs 0 0 (MQ below (gQ X (fun v m => v = none ∧ m = gM8 mem f a a o k t r)) args s 0 0 (gA X)) (F0 m 2 ls []) := by
    intro d
    induction d with
    | zero =>
      intro i hi  ls H locs  hl hR hS
      have hi2 : i = 198 := by omega
      subst hi2
      refine g_iload_n C hl dX9_putBack_2 rfl ?_
      refine g_sipush 198 C dX9_putBack_3 (by decide) ?_
      refine g_icmp_ge (tgt := 27) C dX9_putBack_6 (by decide) (by omega) (by omega) (fun c6 => ?_) (fun z9 => absurd z9 (by omega))
      have hR := r_arr1 (g := a) hR (fun j hj => by rw [cpF_in (by omega) (by omega), Nat.zero_add, Nat.sub_zero])
      refine g_vret C hR hS dX9_putBack_27 ?_
      exact ⟨rfl, rfl⟩
    | succ d ih =>
      intro i hi  ls H locs  hl hR hS
      refine g_iload_n C hl dX9_putBack_2 rfl ?_
      refine g_sipush 198 C dX9_putBack_3 (by decide) ?_
      refine g_icmp_ge (tgt := 27) C dX9_putBack_6 (by decide) (by omega) (by omega) (fun z9 => absurd z9 (by omega)) (fun c6 => ?_)
      refine g_aload_n C hl dX9_putBack_9 rfl ?_
      refine gt_X9_0 C hR fl_X9_7 dX9_putBack_10 ?_
      refine g_iload_n C hl dX9_putBack_13 rfl ?_
      refine g_aload_n C hl dX9_putBack_14 rfl ?_
      refine gt_X9_1 C hR fl_X9_13 dX9_putBack_15 ?_
      refine g_iload_n C hl dX9_putBack_18 rfl ?_
      refine r_ald2 C hR (by omega) dX9_putBack_19 ?_
      refine r_ast1 C hR hS (by omega) dX9_putBack_20 (fun H locs hR hS => ?_)
      refine g_iinc (k := 1) C hl dX9_putBack_21 rfl (by decide) (fun ls hl => ?_)
      refine g_goto (tgt := 2) C dX9_putBack_24 (by decide) ?_
      refine ih (i + 1) (by omega)  ls H locs hl ?_ hS
      rw [← cpF_s, Nat.zero_add]
      exact hR
  refine g_iconst 0 C dX9_putBack_0 (by decide) ?_
  refine g_istore_n C hl dX9_putBack_1 (Nat.le_of_ble_eq_true rfl) (fun ls hl => ?_)
  exact loop 198 0 (by omega) _ _ _ hl (by rw [cpF_0]; exact hR) hS
set_option maxRecDepth 100000 in
set_option maxHeartbeats 4000000 in
/-- X9_record -/
theorem c_X9_record (l : Launch) {X : gX} (hI : gInj X) {mem : gM} {f z a o k t r : Nat → Nat} (h4 : f 3 ≤ 4) : gF l yX9_record cX9_record 2 none 0 0 X [.ref (gAd X 8 0)] (gM8 mem f z a o k t r) none (gM8 mem (fU f 3 (rN (f 3))) z a (oRec (f 3) o z) k t r) := by
  refine gMt.of (own := RX9) (by decide) rfl hI (by simp [Value.category]) (Nat.le_of_ble_eq_true rfl) ?_
  intro p e s m args below meth c ls H locs C hnm hl hR hS
  have loop4 : ∀ (d i : Nat), i + d = 198 → (f 3 = 4) → ∀ (ls : Array Slot) (H : Heap) (locs : List Loc), gL ls [some (.ref (gAd X 8 0)), some (.int (nI i))] → gRep X (gM8 mem (fU f 3 3) z a (cpF z (shF o 594) 0 (198 * 3) i) k t r) H → va_S (gA X) s.heap H locs → W p l e { frames := 0, cells := 0, slots := 0, locals := 0 } s m args below meth c H locs 0 0 (MQ below (gQ X (fun v m => v = none ∧ m = gM8 mem (fU f 3 (rN (f 3))) z a (oRec (f 3) o z) k t r)) args s 0 0 (gA X)) (F0 m 51 ls []) := by
    intro d
    induction d with
    | zero =>
      intro i hi c5 ls H locs  hl hR hS
      have hi2 : i = 198 := by omega
      subst hi2
      refine g_iload_n C hl dX9_record_51 rfl ?_
      refine g_sipush 198 C dX9_record_52 (by decide) ?_
      refine g_icmp_ge (tgt := 85) C dX9_record_55 (by decide) (by omega) (by omega) (fun c55 => ?_) (fun z9 => absurd z9 (by omega))
      refine g_aload_n C hl dX9_record_85 rfl ?_
      refine g_dup C dX9_record_86 rfl ?_
      refine rt_3 C hR fl_X9_40 dX9_record_87 ?_
      rw [fU_s]
      refine g_iconst 1 C dX9_record_90 (by decide) ?_
      refine g_iadd C dX9_record_91 ?_
      refine rp_3 C hR hS fl_X9_40 dX9_record_92 (fun H locs hR hS => ?_)
      refine g_vret C hR hS dX9_record_95 ?_
      refine ⟨rfl, ?_⟩
      rw [fU_u]
      unfold rN oRec
      rw [if_pos c5, if_pos c5]
    | succ d ih =>
      intro i hi c5 ls H locs  hl hR hS
      refine g_iload_n C hl dX9_record_51 rfl ?_
      refine g_sipush 198 C dX9_record_52 (by decide) ?_
      refine g_icmp_ge (tgt := 85) C dX9_record_55 (by decide) (by omega) (by omega) (fun z9 => absurd z9 (by omega)) (fun c55 => ?_)
      refine g_aload_n C hl dX9_record_58 rfl ?_
      refine gt_X9_2 C hR fl_X9_16 dX9_record_59 ?_
      refine g_sipush 198 C dX9_record_62 (by decide) ?_
      refine g_aload_n C hl dX9_record_65 rfl ?_
      refine rt_3 C hR fl_X9_40 dX9_record_66 ?_
      rw [fU_s]
      refine g_imul C dX9_record_69 ?_
      refine g_iload_n C hl dX9_record_70 rfl ?_
      refine g_iadd C dX9_record_71 ?_
      refine g_aload_n C hl dX9_record_72 rfl ?_
      refine gt_X9_0 C hR fl_X9_7 dX9_record_73 ?_
      refine g_iload_n C hl dX9_record_76 rfl ?_
      refine r_ald1 C hR (by omega) dX9_record_77 ?_
      refine r_ast3 C hR hS (by omega) dX9_record_78 (fun H locs hR hS => ?_)
      refine g_iinc (k := 1) C hl dX9_record_79 rfl (by decide) (fun ls hl => ?_)
      refine g_goto (tgt := 51) C dX9_record_82 (by decide) ?_
      refine ih (i + 1) (by omega) c5 ls H locs hl ?_ hS
      rw [← cpF_s, Nat.zero_add]
      exact hR
  have loopn : ∀ (d i : Nat), i + d = 198 → (¬ f 3 = 4) → ∀ (ls : Array Slot) (H : Heap) (locs : List Loc), gL ls [some (.ref (gAd X 8 0)), some (.int (nI i))] → gRep X (gM8 mem f z a (cpF z (o) 0 (198 * f 3) i) k t r) H → va_S (gA X) s.heap H locs → W p l e { frames := 0, cells := 0, slots := 0, locals := 0 } s m args below meth c H locs 0 0 (MQ below (gQ X (fun v m => v = none ∧ m = gM8 mem (fU f 3 (rN (f 3))) z a (oRec (f 3) o z) k t r)) args s 0 0 (gA X)) (F0 m 51 ls []) := by
    intro d
    induction d with
    | zero =>
      intro i hi c5 ls H locs  hl hR hS
      have hi2 : i = 198 := by omega
      subst hi2
      refine g_iload_n C hl dX9_record_51 rfl ?_
      refine g_sipush 198 C dX9_record_52 (by decide) ?_
      refine g_icmp_ge (tgt := 85) C dX9_record_55 (by decide) (by omega) (by omega) (fun c55 => ?_) (fun z9 => absurd z9 (by omega))
      refine g_aload_n C hl dX9_record_85 rfl ?_
      refine g_dup C dX9_record_86 rfl ?_
      refine rt_3 C hR fl_X9_40 dX9_record_87 ?_
      refine g_iconst 1 C dX9_record_90 (by decide) ?_
      refine g_iadd C dX9_record_91 ?_
      refine rp_3 C hR hS fl_X9_40 dX9_record_92 (fun H locs hR hS => ?_)
      refine g_vret C hR hS dX9_record_95 ?_
      refine ⟨rfl, ?_⟩
      unfold rN oRec
      rw [if_neg c5, if_neg c5]
    | succ d ih =>
      intro i hi c5 ls H locs  hl hR hS
      refine g_iload_n C hl dX9_record_51 rfl ?_
      refine g_sipush 198 C dX9_record_52 (by decide) ?_
      refine g_icmp_ge (tgt := 85) C dX9_record_55 (by decide) (by omega) (by omega) (fun z9 => absurd z9 (by omega)) (fun c55 => ?_)
      refine g_aload_n C hl dX9_record_58 rfl ?_
      refine gt_X9_2 C hR fl_X9_16 dX9_record_59 ?_
      refine g_sipush 198 C dX9_record_62 (by decide) ?_
      refine g_aload_n C hl dX9_record_65 rfl ?_
      refine rt_3 C hR fl_X9_40 dX9_record_66 ?_
      refine g_imul C dX9_record_69 ?_
      refine g_iload_n C hl dX9_record_70 rfl ?_
      refine g_iadd C dX9_record_71 ?_
      refine g_aload_n C hl dX9_record_72 rfl ?_
      refine gt_X9_0 C hR fl_X9_7 dX9_record_73 ?_
      refine g_iload_n C hl dX9_record_76 rfl ?_
      refine r_ald1 C hR (by omega) dX9_record_77 ?_
      refine r_ast3 C hR hS (by omega) dX9_record_78 (fun H locs hR hS => ?_)
      refine g_iinc (k := 1) C hl dX9_record_79 rfl (by decide) (fun ls hl => ?_)
      refine g_goto (tgt := 51) C dX9_record_82 (by decide) ?_
      refine ih (i + 1) (by omega) c5 ls H locs hl ?_ hS
      rw [← cpF_s, Nat.zero_add]
      exact hR
  have loop1 : ∀ (d i : Nat), i + d = 594 → (f 3 = 4) → ∀ (ls : Array Slot) (H : Heap) (locs : List Loc), gL ls [some (.ref (gAd X 8 0)), some (.int (nI i))] → gRep X (gM8 mem f z a (shF o i) k t r) H → va_S (gA X) s.heap H locs → W p l e { frames := 0, cells := 0, slots := 0, locals := 0 } s m args below meth c H locs 0 0 (MQ below (gQ X (fun v m => v = none ∧ m = gM8 mem (fU f 3 (rN (f 3))) z a (oRec (f 3) o z) k t r)) args s 0 0 (gA X)) (F0 m 10 ls []) := by
    intro d
    induction d with
    | zero =>
      intro i hi c5 ls H locs  hl hR hS
      have hi2 : i = 594 := by omega
      subst hi2
      refine g_iload_n C hl dX9_record_10 rfl ?_
      refine g_sipush 594 C dX9_record_11 (by decide) ?_
      refine g_icmp_ge (tgt := 39) C dX9_record_14 (by decide) (by omega) (by omega) (fun c14 => ?_) (fun z9 => absurd z9 (by omega))
      refine g_aload_n C hl dX9_record_39 rfl ?_
      refine g_dup C dX9_record_40 rfl ?_
      refine rt_3 C hR fl_X9_40 dX9_record_41 ?_
      refine g_iconst 1 C dX9_record_44 (by decide) ?_
      refine g_isub C dX9_record_45 (by omega) ?_
      refine rp_3 C hR hS fl_X9_40 dX9_record_46 (fun H locs hR hS => ?_)
      rw [c5] at hR
      refine g_iconst 0 C dX9_record_49 (by decide) ?_
      refine g_istore_n C hl dX9_record_50 (Nat.le_of_ble_eq_true rfl) (fun ls hl => ?_)
      exact loop4 198 0 (by omega) c5 _ _ _ hl (by rw [cpF_0]; exact hR) hS
    | succ d ih =>
      intro i hi c5 ls H locs  hl hR hS
      refine g_iload_n C hl dX9_record_10 rfl ?_
      refine g_sipush 594 C dX9_record_11 (by decide) ?_
      refine g_icmp_ge (tgt := 39) C dX9_record_14 (by decide) (by omega) (by omega) (fun z9 => absurd z9 (by omega)) (fun c14 => ?_)
      refine g_aload_n C hl dX9_record_17 rfl ?_
      refine gt_X9_2 C hR fl_X9_16 dX9_record_18 ?_
      refine g_iload_n C hl dX9_record_21 rfl ?_
      refine g_aload_n C hl dX9_record_22 rfl ?_
      refine gt_X9_2 C hR fl_X9_16 dX9_record_23 ?_
      refine g_sipush 198 C dX9_record_26 (by decide) ?_
      refine g_iload_n C hl dX9_record_29 rfl ?_
      refine g_iadd C dX9_record_30 ?_
      refine r_ald3 C hR (by omega) dX9_record_31 ?_
      refine r_ast3 C hR hS (by omega) dX9_record_32 (fun H locs hR hS => ?_)
      refine g_iinc (k := 1) C hl dX9_record_33 rfl (by decide) (fun ls hl => ?_)
      refine g_goto (tgt := 10) C dX9_record_36 (by decide) ?_
      refine ih (i + 1) (by omega) c5 ls H locs hl ?_ hS
      rw [← shF_s]
      exact hR
  refine g_aload_n C hl dX9_record_0 rfl ?_
  refine rt_3 C hR fl_X9_40 dX9_record_1 ?_
  refine g_iconst 4 C dX9_record_4 (by decide) ?_
  refine g_icmp_ne (tgt := 49) C dX9_record_5 (by decide) (by omega) (by omega) (fun c5 => ?_) (fun c5 => ?_)
  · -- 5 T
    refine g_iconst 0 C dX9_record_49 (by decide) ?_
    refine g_istore_n C hl dX9_record_50 (Nat.le_of_ble_eq_true rfl) (fun ls hl => ?_)
    exact loopn 198 0 (by omega) c5 _ _ _ hl (by rw [cpF_0]; exact hR) hS
  · -- 5 F
    refine g_iconst 0 C dX9_record_8 (by decide) ?_
    refine g_istore_n C hl dX9_record_9 (Nat.le_of_ble_eq_true rfl) (fun ls hl => ?_)
    exact loop1 594 0 (by omega) c5 _ _ _ hl (by rw [shF_0]; exact hR) hS
theorem gIw_ok {j lo hi : Nat} (h1 : lo ≤ j) (h2 : j ≤ hi) (hh : hi < 2 ^ 31) : gIw (nI j) lo hi = true := (gIw_n (Nat.lt_of_le_of_lt h2 hh)).mpr ⟨h1, h2⟩
def oSl (o : Nat → Nat) (i : Nat) : Nat → Nat := fun j => o (198 * i + j)
set_option maxRecDepth 100000 in
set_option maxHeartbeats 4000000 in
/-- X9_keep -/
theorem c_X9_keep (l : Launch) {X : gX} (hI : gInj X) {mem : gM} {f z a o k t r : Nat → Nat} : gF l yX9_keep cX9_keep 2 (some .int) 0 0 X [.ref (gAd X 8 0)] (gM8 mem f z a o k t r) (some (.int (nI (z 114)))) (gM8 mem (fU f 5 1) z a o z t r) := by
  refine gMt.of (own := RX9) (by decide) rfl hI (by simp [Value.category]) (Nat.le_of_ble_eq_true rfl) ?_
  intro p e s m args below meth c ls H locs C hnm hl hR hS
  have loop : ∀ (d i : Nat), i + d = 198 → ∀ (ls : Array Slot) (H : Heap) (locs : List Loc), gL ls [some (.ref (gAd X 8 0)), some (.int (nI i))] → gRep X (gM8 mem f z a o (cpF z k 0 0 i) t r) H → va_S (gA X) s.heap H locs → W p l e { frames := 0, cells := 0, slots := 0, locals := 0 } s m args below meth c H locs 0 0 (MQ below (gQ X (fun v m => v = some (.int (nI (z 114))) ∧ m = gM8 mem (fU f 5 1) z a o z t r)) args s 0 0 (gA X)) (F0 m 2 ls []) := by
    intro d
    induction d with
    | zero =>
      intro i hi  ls H locs  hl hR hS
      have hi2 : i = 198 := by omega
      subst hi2
      refine g_iload_n C hl dX9_keep_2 rfl ?_
      refine g_sipush 198 C dX9_keep_3 (by decide) ?_
      refine g_icmp_ge (tgt := 27) C dX9_keep_6 (by decide) (by omega) (by omega) (fun c6 => ?_) (fun z9 => absurd z9 (by omega))
      have hR := r_arr4 (g := z) hR (fun j hj => by rw [cpF_in (by omega) (by omega), Nat.zero_add, Nat.sub_zero])
      refine g_aload_n C hl dX9_keep_27 rfl ?_
      refine g_iconst 1 C dX9_keep_28 (by decide) ?_
      refine rp_5 C hR hS (by omega) fl_X9_44 dX9_keep_29 (fun H locs hR hS => ?_)
      refine g_aload_n C hl dX9_keep_32 rfl ?_
      refine gt_X9_0 C hR fl_X9_7 dX9_keep_33 ?_
      refine g_bipush 114 C dX9_keep_36 (by decide) ?_
      refine r_ald1 C hR (by omega) dX9_keep_38 ?_
      refine g_iret C hR hS dX9_keep_39 ?_
      exact ⟨rfl, rfl⟩
    | succ d ih =>
      intro i hi  ls H locs  hl hR hS
      refine g_iload_n C hl dX9_keep_2 rfl ?_
      refine g_sipush 198 C dX9_keep_3 (by decide) ?_
      refine g_icmp_ge (tgt := 27) C dX9_keep_6 (by decide) (by omega) (by omega) (fun z9 => absurd z9 (by omega)) (fun c6 => ?_)
      refine g_aload_n C hl dX9_keep_9 rfl ?_
      refine gt_X9_4 C hR fl_X9_19 dX9_keep_10 ?_
      refine g_iload_n C hl dX9_keep_13 rfl ?_
      refine g_aload_n C hl dX9_keep_14 rfl ?_
      refine gt_X9_0 C hR fl_X9_7 dX9_keep_15 ?_
      refine g_iload_n C hl dX9_keep_18 rfl ?_
      refine r_ald1 C hR (by omega) dX9_keep_19 ?_
      refine r_ast4 C hR hS (by omega) dX9_keep_20 (fun H locs hR hS => ?_)
      refine g_iinc (k := 1) C hl dX9_keep_21 rfl (by decide) (fun ls hl => ?_)
      refine g_goto (tgt := 2) C dX9_keep_24 (by decide) ?_
      refine ih (i + 1) (by omega)  ls H locs hl ?_ hS
      rw [← cpF_s, Nat.zero_add]
      exact hR
  refine g_iconst 0 C dX9_keep_0 (by decide) ?_
  refine g_istore_n C hl dX9_keep_1 (Nat.le_of_ble_eq_true rfl) (fun ls hl => ?_)
  exact loop 198 0 (by omega) _ _ _ hl (by rw [cpF_0]; exact hR) hS
set_option maxRecDepth 100000 in
set_option maxHeartbeats 4000000 in
/-- restore, no snapshot -/
theorem c_X9_restore_0 (l : Launch) {X : gX} (hI : gInj X) {mem : gM} {f z a o k t r : Nat → Nat} (h5 : f 5 = 0) : gF l yX9_restore cX9_restore 2 (some .int) 1 21 X [.ref (gAd X 8 0)] (gM8 mem f z a o k t r) (some (.int (-5))) (gM8 mem f z a o k t r) := by
  refine gMt.of (own := RX9) (by decide) rfl hI (by simp [Value.category]) (Nat.le_of_ble_eq_true rfl) ?_
  intro p e s m args below meth c ls H locs C hnm hl hR hS
  refine g_aload_n C hl dX9_restore_0 rfl ?_
  refine rt_5 C hR fl_X9_44 dX9_restore_1 ?_
  refine g_if_ne (tgt := 10) C dX9_restore_4 (by decide) (by omega) (fun z9 => absurd z9 (by omega)) (fun c4 => ?_)
  refine g_bipushM (-5) C dX9_restore_7 (by decide) ?_
  refine g_iret C hR hS dX9_restore_9 ?_
  exact ⟨rfl, rfl⟩
set_option maxRecDepth 100000 in
set_option maxHeartbeats 4000000 in
/-- restore -/
theorem c_X9_restore_1 (l : Launch) {X : gX} (hI : gInj X) {mem : gM} {f z a o k t r : Nat → Nat} (h5 : f 5 = 1) (h4 : f 3 ≤ 4) : gF l yX9_restore cX9_restore 2 (some .int) 1 21 X [.ref (gAd X 8 0)] (gM8 mem f z a o k t r) (some (.int (nI (k 114)))) (gM8 mem (fU f 3 (rN (f 3))) k a (oRec (f 3) o z) k t r) := by
  refine gMt.of (own := RX9) (by decide) rfl hI (by simp [Value.category]) (Nat.le_of_ble_eq_true rfl) ?_
  intro p e s m args below meth c ls H locs C hnm hl hR hS
  have loop : ∀ (d i : Nat), i + d = 198 → ∀ (ls : Array Slot) (H : Heap) (locs : List Loc), gL ls [some (.ref (gAd X 8 0)), some (.int (nI i))] → gRep X (gM8 mem (fU f 3 (rN (f 3))) (cpF k z 0 0 i) a (oRec (f 3) o z) k t r) H → va_S (gA X) s.heap H locs → W p l e { frames := 1, cells := 0, slots := 0, locals := 21 } s m args below meth c H locs 0 0 (MQ below (gQ X (fun v m => v = some (.int (nI (k 114))) ∧ m = gM8 mem (fU f 3 (rN (f 3))) k a (oRec (f 3) o z) k t r)) args s 0 0 (gA X)) (F0 m 16 ls []) := by
    intro d
    induction d with
    | zero =>
      intro i hi  ls H locs  hl hR hS
      have hi2 : i = 198 := by omega
      subst hi2
      refine g_iload_n C hl dX9_restore_16 rfl ?_
      refine g_sipush 198 C dX9_restore_17 (by decide) ?_
      refine g_icmp_ge (tgt := 41) C dX9_restore_20 (by decide) (by omega) (by omega) (fun c20 => ?_) (fun z9 => absurd z9 (by omega))
      have hR := r_arr1 (g := k) hR (fun j hj => by rw [cpF_in (by omega) (by omega), Nat.zero_add, Nat.sub_zero])
      refine g_aload_n C hl dX9_restore_41 rfl ?_
      refine gt_X9_0 C hR fl_X9_7 dX9_restore_42 ?_
      refine g_bipush 114 C dX9_restore_45 (by decide) ?_
      refine r_ald1 C hR (by omega) dX9_restore_47 ?_
      refine g_iret C hR hS dX9_restore_48 ?_
      exact ⟨rfl, rfl⟩
    | succ d ih =>
      intro i hi  ls H locs  hl hR hS
      refine g_iload_n C hl dX9_restore_16 rfl ?_
      refine g_sipush 198 C dX9_restore_17 (by decide) ?_
      refine g_icmp_ge (tgt := 41) C dX9_restore_20 (by decide) (by omega) (by omega) (fun z9 => absurd z9 (by omega)) (fun c20 => ?_)
      refine g_aload_n C hl dX9_restore_23 rfl ?_
      refine gt_X9_0 C hR fl_X9_7 dX9_restore_24 ?_
      refine g_iload_n C hl dX9_restore_27 rfl ?_
      refine g_aload_n C hl dX9_restore_28 rfl ?_
      refine gt_X9_4 C hR fl_X9_19 dX9_restore_29 ?_
      refine g_iload_n C hl dX9_restore_32 rfl ?_
      refine r_ald4 C hR (by omega) dX9_restore_33 ?_
      refine r_ast1 C hR hS (by omega) dX9_restore_34 (fun H locs hR hS => ?_)
      refine g_iinc (k := 1) C hl dX9_restore_35 rfl (by decide) (fun ls hl => ?_)
      refine g_goto (tgt := 16) C dX9_restore_38 (by decide) ?_
      refine ih (i + 1) (by omega)  ls H locs hl ?_ hS
      rw [← cpF_s, Nat.zero_add]
      exact hR
  refine g_aload_n C hl dX9_restore_0 rfl ?_
  refine rt_5 C hR fl_X9_44 dX9_restore_1 ?_
  refine g_if_ne (tgt := 10) C dX9_restore_4 (by decide) (by omega) (fun c4 => ?_) (fun z9 => absurd z9 (by omega))
  refine g_aload_n C hl dX9_restore_10 rfl ?_
  refine g_callVv C hl.1 hR hS rc_X9 md_X9_record ml_X9_48 (c_X9_record l hI h4) rfl rfl ⟨Nat.le_of_ble_eq_true rfl, Nat.le_of_ble_eq_true rfl⟩ ⟨Nat.le_refl _, Nat.le_refl _⟩ (Nat.le_of_ble_eq_true rfl) dX9_restore_11 (fun H locs hR hS => ?_)
  refine g_iconst 0 C dX9_restore_14 (by decide) ?_
  refine g_istore_n C hl dX9_restore_15 (Nat.le_of_ble_eq_true rfl) (fun ls hl => ?_)
  exact loop 198 0 (by omega) _ _ _ hl (by rw [cpF_0]; exact hR) hS
set_option maxRecDepth 100000 in
set_option maxHeartbeats 4000000 in
/-- undo, empty history -/
theorem c_X9_undo_0 (l : Launch) {X : gX} (hI : gInj X) {mem : gM} {f z a o k t r : Nat → Nat} (h4 : f 3 = 0) : gF l yX9_undo cX9_undo 2 (some .int) 0 0 X [.ref (gAd X 8 0)] (gM8 mem f z a o k t r) (some (.int (-5))) (gM8 mem f z a o k t r) := by
  refine gMt.of (own := RX9) (by decide) rfl hI (by simp [Value.category]) (Nat.le_of_ble_eq_true rfl) ?_
  intro p e s m args below meth c ls H locs C hnm hl hR hS
  refine g_aload_n C hl dX9_undo_0 rfl ?_
  refine rt_3 C hR fl_X9_40 dX9_undo_1 ?_
  refine g_if_ne (tgt := 10) C dX9_undo_4 (by decide) (by omega) (fun z9 => absurd z9 (by omega)) (fun c4 => ?_)
  refine g_bipushM (-5) C dX9_undo_7 (by decide) ?_
  refine g_iret C hR hS dX9_undo_9 ?_
  exact ⟨rfl, rfl⟩
set_option maxRecDepth 100000 in
set_option maxHeartbeats 4000000 in
/-- undo -/
theorem c_X9_undo_1 (l : Launch) {X : gX} (hI : gInj X) {mem : gM} {f z a o k t r : Nat → Nat} (h0 : 0 < f 3) (h4 : f 3 ≤ 4) : gF l yX9_undo cX9_undo 2 (some .int) 0 0 X [.ref (gAd X 8 0)] (gM8 mem f z a o k t r) (some (.int (nI (f 3 - 1)))) (gM8 mem (fU f 3 (f 3 - 1)) (oSl o (f 3 - 1)) a o k t r) := by
  refine gMt.of (own := RX9) (by decide) rfl hI (by simp [Value.category]) (Nat.le_of_ble_eq_true rfl) ?_
  intro p e s m args below meth c ls H locs C hnm hl hR hS
  have loop : ∀ (d i : Nat), i + d = 198 → ∀ (ls : Array Slot) (H : Heap) (locs : List Loc), gL ls [some (.ref (gAd X 8 0)), some (.int (nI i))] → gRep X (gM8 mem (fU f 3 (f 3 - 1)) (cpF o z (198 * (f 3 - 1)) 0 i) a o k t r) H → va_S (gA X) s.heap H locs → W p l e { frames := 0, cells := 0, slots := 0, locals := 0 } s m args below meth c H locs 0 0 (MQ below (gQ X (fun v m => v = some (.int (nI (f 3 - 1))) ∧ m = gM8 mem (fU f 3 (f 3 - 1)) (oSl o (f 3 - 1)) a o k t r)) args s 0 0 (gA X)) (F0 m 22 ls []) := by
    intro d
    induction d with
    | zero =>
      intro i hi  ls H locs  hl hR hS
      have hi2 : i = 198 := by omega
      subst hi2
      refine g_iload_n C hl dX9_undo_22 rfl ?_
      refine g_sipush 198 C dX9_undo_23 (by decide) ?_
      refine g_icmp_ge (tgt := 56) C dX9_undo_26 (by decide) (by omega) (by omega) (fun c26 => ?_) (fun z9 => absurd z9 (by omega))
      have hR := r_arr1 (g := oSl o (f 3 - 1)) hR (fun j hj => by rw [cpF_in (by omega) (by omega), Nat.sub_zero]; rfl)
      refine g_aload_n C hl dX9_undo_56 rfl ?_
      refine rt_3 C hR fl_X9_40 dX9_undo_57 ?_
      rw [fU_s]
      refine g_iret C hR hS dX9_undo_60 ?_
      exact ⟨rfl, rfl⟩
    | succ d ih =>
      intro i hi  ls H locs  hl hR hS
      refine g_iload_n C hl dX9_undo_22 rfl ?_
      refine g_sipush 198 C dX9_undo_23 (by decide) ?_
      refine g_icmp_ge (tgt := 56) C dX9_undo_26 (by decide) (by omega) (by omega) (fun z9 => absurd z9 (by omega)) (fun c26 => ?_)
      refine g_aload_n C hl dX9_undo_29 rfl ?_
      refine gt_X9_0 C hR fl_X9_7 dX9_undo_30 ?_
      refine g_iload_n C hl dX9_undo_33 rfl ?_
      refine g_aload_n C hl dX9_undo_34 rfl ?_
      refine gt_X9_2 C hR fl_X9_16 dX9_undo_35 ?_
      refine g_sipush 198 C dX9_undo_38 (by decide) ?_
      refine g_aload_n C hl dX9_undo_41 rfl ?_
      refine rt_3 C hR fl_X9_40 dX9_undo_42 ?_
      rw [fU_s]
      refine g_imul C dX9_undo_45 ?_
      refine g_iload_n C hl dX9_undo_46 rfl ?_
      refine g_iadd C dX9_undo_47 ?_
      refine r_ald3 C hR (by omega) dX9_undo_48 ?_
      refine r_ast1 C hR hS (by omega) dX9_undo_49 (fun H locs hR hS => ?_)
      refine g_iinc (k := 1) C hl dX9_undo_50 rfl (by decide) (fun ls hl => ?_)
      refine g_goto (tgt := 22) C dX9_undo_53 (by decide) ?_
      refine ih (i + 1) (by omega)  ls H locs hl ?_ hS
      rw [← cpF_s, Nat.zero_add]
      exact hR
  refine g_aload_n C hl dX9_undo_0 rfl ?_
  refine rt_3 C hR fl_X9_40 dX9_undo_1 ?_
  refine g_if_ne (tgt := 10) C dX9_undo_4 (by decide) (by omega) (fun c4 => ?_) (fun z9 => absurd z9 (by omega))
  refine g_aload_n C hl dX9_undo_10 rfl ?_
  refine g_dup C dX9_undo_11 rfl ?_
  refine rt_3 C hR fl_X9_40 dX9_undo_12 ?_
  refine g_iconst 1 C dX9_undo_15 (by decide) ?_
  refine g_isub C dX9_undo_16 (by omega) ?_
  refine rp_3 C hR hS fl_X9_40 dX9_undo_17 (fun H locs hR hS => ?_)
  refine g_iconst 0 C dX9_undo_20 (by decide) ?_
  refine g_istore_n C hl dX9_undo_21 (Nat.le_of_ble_eq_true rfl) (fun ls hl => ?_)
  exact loop 198 0 (by omega) _ _ _ hl (by rw [cpF_0]; exact hR) hS
set_option maxRecDepth 100000 in
set_option maxHeartbeats 4000000 in
/-- change, so already -/
theorem c_X9_change_0 (l : Launch) {X : gX} (hI : gInj X) {mem : gM} {f z a o k t r : Nat → Nat} {i v : Nat} (h4 : f 3 ≤ 4) (hi : i < 198) (hv : v < 2 ^ 31) (hb : z i < 2 ^ 31) (he : z i = v) : gF l yX9_change cX9_change 4 (some .int) 1 21 X [.ref (gAd X 8 0), .int (nI i), .int (nI v)] (gM8 mem f z a o k t r) (some (.int (-5))) (gM8 mem f z a o k t r) := by
  refine gMt.of (own := RX9) (by decide) rfl hI (by simp [Value.category]) (Nat.le_of_ble_eq_true rfl) ?_
  intro p e s m args below meth c ls H locs C hnm hl hR hS
  refine g_aload_n C hl dX9_change_0 rfl ?_
  refine gt_X9_0 C hR fl_X9_7 dX9_change_1 ?_
  refine g_iload_n C hl dX9_change_4 rfl ?_
  refine r_ald1 C hR (by omega) dX9_change_5 ?_
  refine g_iload_n C hl dX9_change_6 rfl ?_
  refine g_icmp_ne (tgt := 13) C dX9_change_7 (by decide) (by omega) (by omega) (fun z9 => absurd z9 (by omega)) (fun c7 => ?_)
  refine g_bipushM (-5) C dX9_change_10 (by decide) ?_
  refine g_iret C hR hS dX9_change_12 ?_
  exact ⟨rfl, rfl⟩
set_option maxRecDepth 100000 in
set_option maxHeartbeats 4000000 in
/-- change -/
theorem c_X9_change_1 (l : Launch) {X : gX} (hI : gInj X) {mem : gM} {f z a o k t r : Nat → Nat} {i v : Nat} (h4 : f 3 ≤ 4) (hi : i < 198) (hv : v < 2 ^ 31) (hb : z i < 2 ^ 31) (he : ¬ z i = v) : gF l yX9_change cX9_change 4 (some .int) 1 21 X [.ref (gAd X 8 0), .int (nI i), .int (nI v)] (gM8 mem f z a o k t r) (some (.int (nI (z i)))) (gM8 mem (fU f 3 (rN (f 3))) (fU z i v) a (oRec (f 3) o z) k t r) := by
  refine gMt.of (own := RX9) (by decide) rfl hI (by simp [Value.category]) (Nat.le_of_ble_eq_true rfl) ?_
  intro p e s m args below meth c ls H locs C hnm hl hR hS
  refine g_aload_n C hl dX9_change_0 rfl ?_
  refine gt_X9_0 C hR fl_X9_7 dX9_change_1 ?_
  refine g_iload_n C hl dX9_change_4 rfl ?_
  refine r_ald1 C hR (by omega) dX9_change_5 ?_
  refine g_iload_n C hl dX9_change_6 rfl ?_
  refine g_icmp_ne (tgt := 13) C dX9_change_7 (by decide) (by omega) (by omega) (fun c7 => ?_) (fun z9 => absurd z9 (by omega))
  refine g_aload_n C hl dX9_change_13 rfl ?_
  refine g_callVv C hl.1 hR hS rc_X9 md_X9_record ml_X9_48 (c_X9_record l hI h4) rfl rfl ⟨Nat.le_of_ble_eq_true rfl, Nat.le_of_ble_eq_true rfl⟩ ⟨Nat.le_refl _, Nat.le_refl _⟩ (Nat.le_of_ble_eq_true rfl) dX9_change_14 (fun H locs hR hS => ?_)
  refine g_aload_n C hl dX9_change_17 rfl ?_
  refine gt_X9_0 C hR fl_X9_7 dX9_change_18 ?_
  refine g_iload_n C hl dX9_change_21 rfl ?_
  refine r_ald1 C hR (by omega) dX9_change_22 ?_
  refine g_istore_n C hl dX9_change_23 (Nat.le_of_ble_eq_true rfl) (fun ls hl => ?_)
  refine g_aload_n C hl dX9_change_24 rfl ?_
  refine gt_X9_0 C hR fl_X9_7 dX9_change_25 ?_
  refine g_iload_n C hl dX9_change_28 rfl ?_
  refine g_iload_n C hl dX9_change_29 rfl ?_
  refine r_ast1 C hR hS (by omega) dX9_change_30 (fun H locs hR hS => ?_)
  refine g_iload_n C hl dX9_change_31 rfl ?_
  refine g_iret C hR hS dX9_change_32 ?_
  exact ⟨rfl, rfl⟩
set_option maxRecDepth 100000 in
set_option maxHeartbeats 4000000 in
/-- X9_locked -/
theorem c_X9_locked (l : Launch) {X : gX} (hI : gInj X) {mem : gM} {f z a o k t r : Nat → Nat} : gF l yX9_locked cX9_locked 3 (some .int) 0 0 X [.ref (gAd X 8 0)] (gM8 mem f z a o k t r) (some (.int (nI (gSum (fun b => z (104 + b)) 8)))) (gM8 mem f z a o k t r) := by
  refine gMt.of (own := RX9) (by decide) rfl hI (by simp [Value.category]) (Nat.le_of_ble_eq_true rfl) ?_
  intro p e s m args below meth c ls H locs C hnm hl hR hS
  have loop : ∀ (d i : Nat), i + d = 8 → ∀ (ls : Array Slot) (H : Heap) (locs : List Loc), gL ls [some (.ref (gAd X 8 0)), some (.int (nI (gSum (fun b => z (104 + b)) i))), some (.int (nI i))] → gRep X (gM8 mem f z a o k t r) H → va_S (gA X) s.heap H locs → W p l e { frames := 0, cells := 0, slots := 0, locals := 0 } s m args below meth c H locs 0 0 (MQ below (gQ X (fun v m => v = some (.int (nI (gSum (fun b => z (104 + b)) 8))) ∧ m = gM8 mem f z a o k t r)) args s 0 0 (gA X)) (F0 m 4 ls []) := by
    intro d
    induction d with
    | zero =>
      intro i hi  ls H locs  hl hR hS
      have hi2 : i = 8 := by omega
      subst hi2
      refine g_iload_n C hl dX9_locked_4 rfl ?_
      refine g_bipush 8 C dX9_locked_5 (by decide) ?_
      refine g_icmp_ge (tgt := 28) C dX9_locked_7 (by decide) (by omega) (by omega) (fun c7 => ?_) (fun z9 => absurd z9 (by omega))
      refine g_iload_n C hl dX9_locked_28 rfl ?_
      refine g_iret C hR hS dX9_locked_29 ?_
      exact ⟨rfl, rfl⟩
    | succ d ih =>
      intro i hi  ls H locs  hl hR hS
      refine g_iload_n C hl dX9_locked_4 rfl ?_
      refine g_bipush 8 C dX9_locked_5 (by decide) ?_
      refine g_icmp_ge (tgt := 28) C dX9_locked_7 (by decide) (by omega) (by omega) (fun z9 => absurd z9 (by omega)) (fun c7 => ?_)
      refine g_iload_n C hl dX9_locked_10 rfl ?_
      refine g_aload_n C hl dX9_locked_11 rfl ?_
      refine gt_X9_0 C hR fl_X9_7 dX9_locked_12 ?_
      refine g_bipush 104 C dX9_locked_15 (by decide) ?_
      refine g_iload_n C hl dX9_locked_17 rfl ?_
      refine g_iadd C dX9_locked_18 ?_
      refine r_ald1 C hR (by omega) dX9_locked_19 ?_
      refine g_iadd C dX9_locked_20 ?_
      refine g_istore_n C hl dX9_locked_21 (Nat.le_of_ble_eq_true rfl) (fun ls hl => ?_)
      refine g_iinc (k := 1) C hl dX9_locked_22 rfl (by decide) (fun ls hl => ?_)
      refine g_goto (tgt := 4) C dX9_locked_25 (by decide) ?_
      refine ih (i + 1) (by omega)  ls H locs hl ?_ hS
      exact hR
  refine g_iconst 0 C dX9_locked_0 (by decide) ?_
  refine g_istore_n C hl dX9_locked_1 (Nat.le_of_ble_eq_true rfl) (fun ls hl => ?_)
  refine g_iconst 0 C dX9_locked_2 (by decide) ?_
  refine g_istore_n C hl dX9_locked_3 (Nat.le_of_ble_eq_true rfl) (fun ls hl => ?_)
  exact loop 8 0 (by omega) _ _ _ hl hR hS
set_option maxRecDepth 100000 in
set_option maxHeartbeats 4000000 in
/-- X9_filled -/
theorem c_X9_filled (l : Launch) {X : gX} (hI : gInj X) {mem : gM} {f z a o k t r : Nat → Nat} {b : Nat} (hz : zI z) (hb : b < 8) : gF l yX9_filled cX9_filled 4 (some .int) 1 21 X [.ref (gAd X 8 0), .int (nI b)] (gM8 mem f z a o k t r) (some (.int (nI (gSum (fun c9 => if z (zIx b c9) = 0 then 0 else 1) 12)))) (gM8 mem f z a o k t r) := by
  refine gMt.of (own := RX9) (by decide) rfl hI (by simp [Value.category]) (Nat.le_of_ble_eq_true rfl) ?_
  intro p e s m args below meth c ls H locs C hnm hl hR hS
  have hx : ∀ i, i < 12 → z (zIx b i) ≤ 999 := fun i hi => hz.1 _ (zIx_lt hb (by omega))
  have loop : ∀ (d i : Nat), i + d = 12 → ∀ (ls : Array Slot) (H : Heap) (locs : List Loc), gL ls [some (.ref (gAd X 8 0)), some (.int (nI b)), some (.int (nI (gSum (fun c9 => if z (zIx b c9) = 0 then 0 else 1) i))), some (.int (nI i))] → gRep X (gM8 mem f z a o k t r) H → va_S (gA X) s.heap H locs → W p l e { frames := 1, cells := 0, slots := 0, locals := 21 } s m args below meth c H locs 0 0 (MQ below (gQ X (fun v m => v = some (.int (nI (gSum (fun c9 => if z (zIx b c9) = 0 then 0 else 1) 12))) ∧ m = gM8 mem f z a o k t r)) args s 0 0 (gA X)) (F0 m 4 ls []) := by
    intro d
    induction d with
    | zero =>
      intro i hi  ls H locs  hl hR hS
      have hi2 : i = 12 := by omega
      subst hi2
      refine g_iload_n C hl dX9_filled_4 rfl ?_
      refine g_bipush 12 C dX9_filled_5 (by decide) ?_
      refine g_icmp_ge (tgt := 37) C dX9_filled_7 (by decide) (by omega) (by omega) (fun c7 => ?_) (fun z9 => absurd z9 (by omega))
      refine g_iload_n C hl dX9_filled_37 rfl ?_
      refine g_iret C hR hS dX9_filled_38 ?_
      exact ⟨rfl, rfl⟩
    | succ d ih =>
      intro i hi  ls H locs  hl hR hS
      refine g_iload_n C hl dX9_filled_4 rfl ?_
      refine g_bipush 12 C dX9_filled_5 (by decide) ?_
      refine g_icmp_ge (tgt := 37) C dX9_filled_7 (by decide) (by omega) (by omega) (fun z9 => absurd z9 (by omega)) (fun c7 => ?_)
      refine g_iload_n C hl dX9_filled_10 rfl ?_
      refine g_aload_n C hl dX9_filled_11 rfl ?_
      refine gt_X9_0 C hR fl_X9_7 dX9_filled_12 ?_
      refine g_iload_n C hl dX9_filled_15 rfl ?_
      refine g_iload_n C hl dX9_filled_16 rfl ?_
      refine g_callSi C hl.1 hR hS md_X9_index ml_X9_36 (c_X9_index l hI hb (by omega)) rfl rfl ⟨Nat.le_of_ble_eq_true rfl, Nat.le_of_ble_eq_true rfl⟩ ⟨Nat.le_refl _, Nat.le_refl _⟩ (Nat.le_of_ble_eq_true rfl) dX9_filled_17 (fun H locs hR hS => ?_)
      refine r_ald1 C hR (by have := zIx_lt hb (show i < 16 by omega); omega) dX9_filled_20 ?_
      refine g_if_eq (tgt := 28) C dX9_filled_21 (by decide) (by have := hx i (by omega); omega) (fun c21 => ?_) (fun c21 => ?_)
      · -- 21 T
        refine g_iconst 0 C dX9_filled_28 (by decide) ?_
        refine g_iadd C dX9_filled_29 ?_
        refine g_istore_n C hl dX9_filled_30 (Nat.le_of_ble_eq_true rfl) (fun ls hl => ?_)
        refine g_iinc (k := 1) C hl dX9_filled_31 rfl (by decide) (fun ls hl => ?_)
        refine g_goto (tgt := 4) C dX9_filled_34 (by decide) ?_
        have e9 : gSum (fun c9 => if z (zIx b c9) = 0 then 0 else 1) (i + 1) = gSum (fun c9 => if z (zIx b c9) = 0 then 0 else 1) i + (if z (zIx b i) = 0 then 0 else 1) := rfl
        first | rw [if_pos c21] at e9 | rw [if_neg c21] at e9
        rw [← e9] at hl
        refine ih (i + 1) (by omega)  ls H locs hl ?_ hS
        exact hR
      · -- 21 F
        refine g_iconst 1 C dX9_filled_24 (by decide) ?_
        refine g_goto (tgt := 29) C dX9_filled_25 (by decide) ?_
        refine g_iadd C dX9_filled_29 ?_
        refine g_istore_n C hl dX9_filled_30 (Nat.le_of_ble_eq_true rfl) (fun ls hl => ?_)
        refine g_iinc (k := 1) C hl dX9_filled_31 rfl (by decide) (fun ls hl => ?_)
        refine g_goto (tgt := 4) C dX9_filled_34 (by decide) ?_
        have e9 : gSum (fun c9 => if z (zIx b c9) = 0 then 0 else 1) (i + 1) = gSum (fun c9 => if z (zIx b c9) = 0 then 0 else 1) i + (if z (zIx b i) = 0 then 0 else 1) := rfl
        first | rw [if_pos c21] at e9 | rw [if_neg c21] at e9
        rw [← e9] at hl
        refine ih (i + 1) (by omega)  ls H locs hl ?_ hS
        exact hR
  refine g_iconst 0 C dX9_filled_0 (by decide) ?_
  refine g_istore_n C hl dX9_filled_1 (Nat.le_of_ble_eq_true rfl) (fun ls hl => ?_)
  refine g_iconst 0 C dX9_filled_2 (by decide) ?_
  refine g_istore_n C hl dX9_filled_3 (Nat.le_of_ble_eq_true rfl) (fun ls hl => ?_)
  exact loop 12 0 (by omega) _ _ _ hl hR hS
set_option maxRecDepth 100000 in
set_option maxHeartbeats 4000000 in
/-- X9_framesTo -/
theorem c_X9_framesTo (l : Launch) {X : gX} (hI : gInj X) {mem : gM} {f z a o k t r : Nat → Nat} {b : Nat} (hz : zI z) (hb : b < 8) : gF l yX9_framesTo cX9_framesTo 4 (some .int) 0 0 X [.ref (gAd X 8 0), .int (nI b)] (gM8 mem f z a o k t r) (some (.int (nI (gSum (fun q => if z (118 + 3 * q) = b then 1 else 0) (z 116))))) (gM8 mem f z a o k t r) := by
  refine gMt.of (own := RX9) (by decide) rfl hI (by simp [Value.category]) (Nat.le_of_ble_eq_true rfl) ?_
  intro p e s m args below meth c ls H locs C hnm hl hR hS
  have h116 := hz.2.2.2.2.2.2.2.1
  have loop : ∀ (d i : Nat), i + d = z 116 → ∀ (ls : Array Slot) (H : Heap) (locs : List Loc), gL ls [some (.ref (gAd X 8 0)), some (.int (nI b)), some (.int (nI (gSum (fun q => if z (118 + 3 * q) = b then 1 else 0) i))), some (.int (nI i))] → gRep X (gM8 mem f z a o k t r) H → va_S (gA X) s.heap H locs → W p l e { frames := 0, cells := 0, slots := 0, locals := 0 } s m args below meth c H locs 0 0 (MQ below (gQ X (fun v m => v = some (.int (nI (gSum (fun q => if z (118 + 3 * q) = b then 1 else 0) (z 116)))) ∧ m = gM8 mem f z a o k t r)) args s 0 0 (gA X)) (F0 m 4 ls []) := by
    intro d
    induction d with
    | zero =>
      intro i hi  ls H locs  hl hR hS
      have hi2 : i = z 116 := by omega
      subst hi2
      refine g_iload_n C hl dX9_framesTo_4 rfl ?_
      refine g_aload_n C hl dX9_framesTo_5 rfl ?_
      refine gt_X9_0 C hR fl_X9_7 dX9_framesTo_6 ?_
      refine g_bipush 116 C dX9_framesTo_9 (by decide) ?_
      refine r_ald1 C hR (by omega) dX9_framesTo_11 ?_
      refine g_icmp_ge (tgt := 46) C dX9_framesTo_12 (by decide) (by omega) (by omega) (fun c12 => ?_) (fun z9 => absurd z9 (by omega))
      refine g_iload_n C hl dX9_framesTo_46 rfl ?_
      refine g_iret C hR hS dX9_framesTo_47 ?_
      exact ⟨rfl, rfl⟩
    | succ d ih =>
      intro i hi  ls H locs  hl hR hS
      refine g_iload_n C hl dX9_framesTo_4 rfl ?_
      refine g_aload_n C hl dX9_framesTo_5 rfl ?_
      refine gt_X9_0 C hR fl_X9_7 dX9_framesTo_6 ?_
      refine g_bipush 116 C dX9_framesTo_9 (by decide) ?_
      refine r_ald1 C hR (by omega) dX9_framesTo_11 ?_
      refine g_icmp_ge (tgt := 46) C dX9_framesTo_12 (by decide) (by omega) (by omega) (fun z9 => absurd z9 (by omega)) (fun c12 => ?_)
      refine g_iload_n C hl dX9_framesTo_15 rfl ?_
      refine g_aload_n C hl dX9_framesTo_16 rfl ?_
      refine gt_X9_0 C hR fl_X9_7 dX9_framesTo_17 ?_
      refine g_bipush 117 C dX9_framesTo_20 (by decide) ?_
      refine g_iconst 3 C dX9_framesTo_22 (by decide) ?_
      refine g_iload_n C hl dX9_framesTo_23 rfl ?_
      refine g_imul C dX9_framesTo_24 ?_
      refine g_iadd C dX9_framesTo_25 ?_
      refine g_iconst 1 C dX9_framesTo_26 (by decide) ?_
      refine g_iadd C dX9_framesTo_27 ?_
      refine r_ald1 C hR (by omega) dX9_framesTo_28 ?_
      rw [show 117 + 3 * i + 1 = 118 + 3 * i by omega]
      have hx := (hz.2.2.2.2.2.2.2.2.1 i (by omega)).2.1
      refine g_iload_n C hl dX9_framesTo_29 rfl ?_
      refine g_icmp_ne (tgt := 37) C dX9_framesTo_30 (by decide) (by omega) (by omega) (fun c30 => ?_) (fun c30 => ?_)
      · -- 30 T
        refine g_iconst 0 C dX9_framesTo_37 (by decide) ?_
        refine g_iadd C dX9_framesTo_38 ?_
        refine g_istore_n C hl dX9_framesTo_39 (Nat.le_of_ble_eq_true rfl) (fun ls hl => ?_)
        refine g_iinc (k := 1) C hl dX9_framesTo_40 rfl (by decide) (fun ls hl => ?_)
        refine g_goto (tgt := 4) C dX9_framesTo_43 (by decide) ?_
        have e9 : gSum (fun q => if z (118 + 3 * q) = b then 1 else 0) (i + 1) = gSum (fun q => if z (118 + 3 * q) = b then 1 else 0) i + (if z (118 + 3 * i) = b then 1 else 0) := rfl
        first | rw [if_pos c30] at e9 | rw [if_neg c30] at e9
        rw [← e9] at hl
        refine ih (i + 1) (by omega)  ls H locs hl ?_ hS
        exact hR
      · -- 30 F
        refine g_iconst 1 C dX9_framesTo_33 (by decide) ?_
        refine g_goto (tgt := 38) C dX9_framesTo_34 (by decide) ?_
        refine g_iadd C dX9_framesTo_38 ?_
        refine g_istore_n C hl dX9_framesTo_39 (Nat.le_of_ble_eq_true rfl) (fun ls hl => ?_)
        refine g_iinc (k := 1) C hl dX9_framesTo_40 rfl (by decide) (fun ls hl => ?_)
        refine g_goto (tgt := 4) C dX9_framesTo_43 (by decide) ?_
        have e9 : gSum (fun q => if z (118 + 3 * q) = b then 1 else 0) (i + 1) = gSum (fun q => if z (118 + 3 * q) = b then 1 else 0) i + (if z (118 + 3 * i) = b then 1 else 0) := rfl
        first | rw [if_pos c30] at e9 | rw [if_neg c30] at e9
        rw [← e9] at hl
        refine ih (i + 1) (by omega)  ls H locs hl ?_ hS
        exact hR
  refine g_iconst 0 C dX9_framesTo_0 (by decide) ?_
  refine g_istore_n C hl dX9_framesTo_1 (Nat.le_of_ble_eq_true rfl) (fun ls hl => ?_)
  refine g_iconst 0 C dX9_framesTo_2 (by decide) ?_
  refine g_istore_n C hl dX9_framesTo_3 (Nat.le_of_ble_eq_true rfl) (fun ls hl => ?_)
  exact loop (z 116) 0 (by omega) _ _ _ hl hR hS
set_option maxRecDepth 100000 in
set_option maxHeartbeats 4000000 in
/-- X9_unlikeCells -/
theorem c_X9_unlikeCells (l : Launch) {X : gX} (hI : gInj X) {mem : gM} {f z a o k t r : Nat → Nat} (hz : zI z) (ha : zI a) : gF l yX9_unlikeCells cX9_unlikeCells 3 (some .int) 0 0 X [.ref (gAd X 8 0)] (gM8 mem f z a o k t r) (some (.int (nI (gSum (fun j => if z j = a j then 0 else 1) 100)))) (gM8 mem f z a o k t r) := by
  refine gMt.of (own := RX9) (by decide) rfl hI (by simp [Value.category]) (Nat.le_of_ble_eq_true rfl) ?_
  intro p e s m args below meth c ls H locs C hnm hl hR hS
  have loop : ∀ (d i : Nat), i + d = 100 → ∀ (ls : Array Slot) (H : Heap) (locs : List Loc), gL ls [some (.ref (gAd X 8 0)), some (.int (nI (gSum (fun j => if z j = a j then 0 else 1) i))), some (.int (nI i))] → gRep X (gM8 mem f z a o k t r) H → va_S (gA X) s.heap H locs → W p l e { frames := 0, cells := 0, slots := 0, locals := 0 } s m args below meth c H locs 0 0 (MQ below (gQ X (fun v m => v = some (.int (nI (gSum (fun j => if z j = a j then 0 else 1) 100))) ∧ m = gM8 mem f z a o k t r)) args s 0 0 (gA X)) (F0 m 4 ls []) := by
    intro d
    induction d with
    | zero =>
      intro i hi  ls H locs  hl hR hS
      have hi2 : i = 100 := by omega
      subst hi2
      refine g_iload_n C hl dX9_unlikeCells_4 rfl ?_
      refine g_bipush 100 C dX9_unlikeCells_5 (by decide) ?_
      refine g_icmp_ge (tgt := 39) C dX9_unlikeCells_7 (by decide) (by omega) (by omega) (fun c7 => ?_) (fun z9 => absurd z9 (by omega))
      refine g_iload_n C hl dX9_unlikeCells_39 rfl ?_
      refine g_iret C hR hS dX9_unlikeCells_40 ?_
      exact ⟨rfl, rfl⟩
    | succ d ih =>
      intro i hi  ls H locs  hl hR hS
      refine g_iload_n C hl dX9_unlikeCells_4 rfl ?_
      refine g_bipush 100 C dX9_unlikeCells_5 (by decide) ?_
      refine g_icmp_ge (tgt := 39) C dX9_unlikeCells_7 (by decide) (by omega) (by omega) (fun z9 => absurd z9 (by omega)) (fun c7 => ?_)
      refine g_iload_n C hl dX9_unlikeCells_10 rfl ?_
      refine g_aload_n C hl dX9_unlikeCells_11 rfl ?_
      refine gt_X9_0 C hR fl_X9_7 dX9_unlikeCells_12 ?_
      refine g_iload_n C hl dX9_unlikeCells_15 rfl ?_
      refine r_ald1 C hR (by omega) dX9_unlikeCells_16 ?_
      refine g_aload_n C hl dX9_unlikeCells_17 rfl ?_
      refine gt_X9_1 C hR fl_X9_13 dX9_unlikeCells_18 ?_
      refine g_iload_n C hl dX9_unlikeCells_21 rfl ?_
      refine r_ald2 C hR (by omega) dX9_unlikeCells_22 ?_
      refine g_icmp_eq (tgt := 30) C dX9_unlikeCells_23 (by decide) (by have := hz.1 i (by omega); omega) (by have := ha.1 i (by omega); omega) (fun c23 => ?_) (fun c23 => ?_)
      · -- 23 T
        refine g_iconst 0 C dX9_unlikeCells_30 (by decide) ?_
        refine g_iadd C dX9_unlikeCells_31 ?_
        refine g_istore_n C hl dX9_unlikeCells_32 (Nat.le_of_ble_eq_true rfl) (fun ls hl => ?_)
        refine g_iinc (k := 1) C hl dX9_unlikeCells_33 rfl (by decide) (fun ls hl => ?_)
        refine g_goto (tgt := 4) C dX9_unlikeCells_36 (by decide) ?_
        have e9 : gSum (fun j => if z j = a j then 0 else 1) (i + 1) = gSum (fun j => if z j = a j then 0 else 1) i + (if z i = a i then 0 else 1) := rfl
        first | rw [if_pos c23] at e9 | rw [if_neg c23] at e9
        rw [← e9] at hl
        refine ih (i + 1) (by omega)  ls H locs hl ?_ hS
        exact hR
      · -- 23 F
        refine g_iconst 1 C dX9_unlikeCells_26 (by decide) ?_
        refine g_goto (tgt := 31) C dX9_unlikeCells_27 (by decide) ?_
        refine g_iadd C dX9_unlikeCells_31 ?_
        refine g_istore_n C hl dX9_unlikeCells_32 (Nat.le_of_ble_eq_true rfl) (fun ls hl => ?_)
        refine g_iinc (k := 1) C hl dX9_unlikeCells_33 rfl (by decide) (fun ls hl => ?_)
        refine g_goto (tgt := 4) C dX9_unlikeCells_36 (by decide) ?_
        have e9 : gSum (fun j => if z j = a j then 0 else 1) (i + 1) = gSum (fun j => if z j = a j then 0 else 1) i + (if z i = a i then 0 else 1) := rfl
        first | rw [if_pos c23] at e9 | rw [if_neg c23] at e9
        rw [← e9] at hl
        refine ih (i + 1) (by omega)  ls H locs hl ?_ hS
        exact hR
  refine g_iconst 0 C dX9_unlikeCells_0 (by decide) ?_
  refine g_istore_n C hl dX9_unlikeCells_1 (Nat.le_of_ble_eq_true rfl) (fun ls hl => ?_)
  refine g_iconst 0 C dX9_unlikeCells_2 (by decide) ?_
  refine g_istore_n C hl dX9_unlikeCells_3 (Nat.le_of_ble_eq_true rfl) (fun ls hl => ?_)
  exact loop 100 0 (by omega) _ _ _ hl hR hS
