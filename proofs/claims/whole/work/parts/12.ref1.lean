/-! ===== truth values; the reference's tests ===== -/
def gb (P : Prop) [Decidable P] : Nat := if P then 1 else 0
theorem gb_t {P : Prop} [Decidable P] (h : P) : gb P = 1 := if_pos h
theorem gb_f {P : Prop} [Decidable P] (h : ¬ P) : gb P = 0 := if_neg h
theorem gb_lt (P : Prop) [Decidable P] : gb P < 2 := by
  unfold gb
  by_cases h : P
  · rw [if_pos h]; decide
  · rw [if_neg h]; decide
theorem gb_0 {P : Prop} [Decidable P] : gb P = 0 ↔ ¬ P := by
  unfold gb
  by_cases h : P
  · rw [if_pos h]; simp [h]
  · rw [if_neg h]; simp [h]
/-- an int that lies between two bounds -/
def gIw (v : Int32) (lo hi : Nat) : Bool := decide ((lo : Int) ≤ v.toInt) && decide (v.toInt ≤ (hi : Int))
theorem gIw_iff {v : Int32} {lo hi : Nat} : gIw v lo hi = true ↔ (lo : Int) ≤ v.toInt ∧ v.toInt ≤ (hi : Int) := by
  unfold gIw
  rw [Bool.and_eq_true, decide_eq_true_eq, decide_eq_true_eq]
theorem gIw_n {a lo hi : Nat} (ha : a < 2 ^ 31) : gIw (nI a) lo hi = true ↔ lo ≤ a ∧ a ≤ hi := by
  rw [gIw_iff, nI_toInt ha]
  omega
theorem gIw_t {v : Int32} {lo hi : Nat} (h : gIw v lo hi = true) (hh : hi < 2 ^ 31) : ∃ a : Nat, v = nI a ∧ lo ≤ a ∧ a ≤ hi := by
  rw [gIw_iff] at h
  have h0 : ¬ v < 0 := by
    rw [Int32.lt_iff_toInt_lt]
    have : (0 : Int32).toInt = 0 := rfl
    omega
  obtain ⟨j, hj, rfl⟩ := nI_of h0
  rw [nI_toInt hj] at h
  exact ⟨j, rfl, by omega, by omega⟩
theorem gIw_lt {v : Int32} {a : Nat} (ha : a < 2 ^ 31) : v < nI a ↔ v.toInt < (a : Int) := by
  rw [Int32.lt_iff_toInt_lt, nI_toInt ha]
theorem gIw_gt {v : Int32} {a : Nat} (ha : a < 2 ^ 31) : nI a < v ↔ (a : Int) < v.toInt := by
  rw [Int32.lt_iff_toInt_lt, nI_toInt ha]
section GT
variable {p : Program} {l : Launch} {e : Env} {R : Room} {s : State} {m : MethodId} {args : Array Value} {below : List Frame} {meth : Method} {c : Code} {H : Heap} {locs : List Loc} {cells slots : Nat} {Q : State → Prop}
variable {cc : ByteArray} {pc : Nat} {ls : Array Slot} {rest : List Value} {X : gX} {own : String} {ret : Option FieldType} {nL : Nat} {mem : gM}
theorem g_ifb_eq {P : Prop} [Decidable P] {tgt : Nat} {off : Int} (C : gC X own cc ret nL p s m args meth c) (hdg : decode cc pc = .ok (.ifCond .eq off, 3)) (ht : (pc : Int) + off = (tgt : Int)) (kt : ¬ P → W p l e R s m args below meth c H locs cells slots Q (F0 m tgt ls rest)) (kf : P → W p l e R s m args below meth c H locs cells slots Q (F0 m (pc + 3) ls rest)) : W p l e R s m args below meth c H locs cells slots Q (F0 m pc ls (.int (nI (gb P)) :: rest)) := g_if_eq C hdg ht (Nat.lt_trans (gb_lt P) (by decide)) (fun h => kt (gb_0.mp h)) (fun h => kf (Decidable.byContradiction (fun z => h (gb_0.mpr z))))
theorem g_ifw_eq {a lo hi tgt : Nat} {off : Int} (C : gC X own cc ret nL p s m args meth c) (hdg : decode cc pc = .ok (.ifCond .eq off, 3)) (ht : (pc : Int) + off = (tgt : Int)) (ha : a < 2 ^ 31) (kt : ¬ (lo ≤ a ∧ a ≤ hi) → W p l e R s m args below meth c H locs cells slots Q (F0 m tgt ls rest)) (kf : lo ≤ a ∧ a ≤ hi → W p l e R s m args below meth c H locs cells slots Q (F0 m (pc + 3) ls rest)) : W p l e R s m args below meth c H locs cells slots Q (F0 m pc ls (.int (nI (gb (gIw (nI a) lo hi = true))) :: rest)) := g_ifb_eq C hdg ht (fun h => kt (fun z => h ((gIw_n ha).mpr z))) (fun h => kf ((gIw_n ha).mp h))
theorem g_ifv_eq {v : Int32} {lo hi tgt : Nat} {off : Int} (C : gC X own cc ret nL p s m args meth c) (hdg : decode cc pc = .ok (.ifCond .eq off, 3)) (ht : (pc : Int) + off = (tgt : Int)) (hh : hi < 2 ^ 31) (kt : gIw v lo hi = false → W p l e R s m args below meth c H locs cells slots Q (F0 m tgt ls rest)) (kf : ∀ a : Nat, v = nI a → lo ≤ a → a ≤ hi → W p l e R s m args below meth c H locs cells slots Q (F0 m (pc + 3) ls rest)) : W p l e R s m args below meth c H locs cells slots Q (F0 m pc ls (.int (nI (gb (gIw v lo hi = true))) :: rest)) := g_ifb_eq C hdg ht (fun h => kt (by simpa using h)) (fun h => by obtain ⟨a, h1, h2, h3⟩ := gIw_t h hh; exact kf a h1 h2 h3)
theorem g_ifb_ne {P : Prop} [Decidable P] {tgt : Nat} {off : Int} (C : gC X own cc ret nL p s m args meth c) (hdg : decode cc pc = .ok (.ifCond .ne off, 3)) (ht : (pc : Int) + off = (tgt : Int)) (kt : P → W p l e R s m args below meth c H locs cells slots Q (F0 m tgt ls rest)) (kf : ¬ P → W p l e R s m args below meth c H locs cells slots Q (F0 m (pc + 3) ls rest)) : W p l e R s m args below meth c H locs cells slots Q (F0 m pc ls (.int (nI (gb P)) :: rest)) := g_if_ne C hdg ht (Nat.lt_trans (gb_lt P) (by decide)) (fun h => kt (Decidable.byContradiction (fun z => h (gb_0.mpr z)))) (fun h => kf (gb_0.mp h))
theorem g_ifw_ne {a lo hi tgt : Nat} {off : Int} (C : gC X own cc ret nL p s m args meth c) (hdg : decode cc pc = .ok (.ifCond .ne off, 3)) (ht : (pc : Int) + off = (tgt : Int)) (ha : a < 2 ^ 31) (kt : lo ≤ a ∧ a ≤ hi → W p l e R s m args below meth c H locs cells slots Q (F0 m tgt ls rest)) (kf : ¬ (lo ≤ a ∧ a ≤ hi) → W p l e R s m args below meth c H locs cells slots Q (F0 m (pc + 3) ls rest)) : W p l e R s m args below meth c H locs cells slots Q (F0 m pc ls (.int (nI (gb (gIw (nI a) lo hi = true))) :: rest)) := g_ifb_ne C hdg ht (fun h => kt ((gIw_n ha).mp h)) (fun h => kf (fun z => h ((gIw_n ha).mpr z)))
theorem g_ifv_ne {v : Int32} {lo hi tgt : Nat} {off : Int} (C : gC X own cc ret nL p s m args meth c) (hdg : decode cc pc = .ok (.ifCond .ne off, 3)) (ht : (pc : Int) + off = (tgt : Int)) (hh : hi < 2 ^ 31) (kt : ∀ a : Nat, v = nI a → lo ≤ a → a ≤ hi → W p l e R s m args below meth c H locs cells slots Q (F0 m tgt ls rest)) (kf : gIw v lo hi = false → W p l e R s m args below meth c H locs cells slots Q (F0 m (pc + 3) ls rest)) : W p l e R s m args below meth c H locs cells slots Q (F0 m pc ls (.int (nI (gb (gIw v lo hi = true))) :: rest)) := g_ifb_ne C hdg ht (fun h => by obtain ⟨a, h1, h2, h3⟩ := gIw_t h hh; exact kt a h1 h2 h3) (fun h => kf (by simpa using h))
end GT
set_option maxRecDepth 100000 in
set_option maxHeartbeats 4000000 in
/-- in -/
theorem c_X9_in (l : Launch) {X : gX} (hI : gInj X) {mem : gM} {v : Int32} {lo hi : Nat} (hlo : lo < 2 ^ 31) (hhi : hi < 2 ^ 31) : gF l yX9_in cX9_in 3 (some .boolean) 0 0 X [.int v, .int (nI lo), .int (nI hi)] mem (some (.int (nI (gb (gIw v lo hi = true))))) mem := by
  refine gMt.of (own := RX9) (by decide) rfl hI (by simp [Value.category]) (Nat.le_of_ble_eq_true rfl) ?_
  intro p e s m args below meth c ls H locs C hnm hl hR hS
  refine g_iload_n C hl dX9_in_0 rfl ?_
  refine g_iload_n C hl dX9_in_1 rfl ?_
  refine lv_icmp_lt (tgt := 14) C.1 C.2.1 dX9_in_2 (by decide) (fun c2 => ?_) (fun c2 => ?_)
  · refine g_iconst 0 C dX9_in_14 (by decide) ?_
    refine g_zret C hR hS dX9_in_15 rfl ⟨?_, rfl⟩
    rw [gb_f (fun z => by rw [gIw_lt hlo] at c2; rw [gIw_iff] at z; omega)]
  refine g_iload_n C hl dX9_in_5 rfl ?_
  refine g_iload_n C hl dX9_in_6 rfl ?_
  refine lv_icmp_gt (tgt := 14) C.1 C.2.1 dX9_in_7 (by decide) (fun c7 => ?_) (fun c7 => ?_)
  · refine g_iconst 0 C dX9_in_14 (by decide) ?_
    refine g_zret C hR hS dX9_in_15 rfl ⟨?_, rfl⟩
    rw [gb_f (fun z => by rw [gIw_gt hhi] at c7; rw [gIw_iff] at z; omega)]
  refine g_iconst 1 C dX9_in_10 (by decide) ?_
  refine g_goto (tgt := 15) C dX9_in_11 (by decide) ?_
  refine g_zret C hR hS dX9_in_15 rfl ?_
  refine ⟨?_, rfl⟩
  rw [gb_t (by rw [gIw_lt hlo] at c2; rw [gIw_gt hhi] at c7; rw [gIw_iff]; omega)]
set_option maxRecDepth 100000 in
set_option maxHeartbeats 4000000 in
/-- isBank -/
theorem c_X9_isBank (l : Launch) {X : gX} (hI : gInj X) {mem : gM} {v : Int32} : gF l yX9_isBank cX9_isBank 1 (some .boolean) 1 22 X [.int v] mem (some (.int (nI (gb (gIw v 0 7 = true))))) mem := by
  refine gMt.of (own := RX9) (by decide) rfl hI (by simp [Value.category]) (Nat.le_of_ble_eq_true rfl) ?_
  intro p e s m args below meth c ls H locs C hnm hl hR hS
  refine g_iload_n C hl dX9_isBank_0 rfl ?_
  refine g_iconst 0 C dX9_isBank_1 (by decide) ?_
  refine g_bipush 7 C dX9_isBank_2 (by decide) ?_
  refine g_callSi C hl.1 hR hS md_X9_in ml_X9_28 (c_X9_in l hI (by decide) (by decide)) rfl rfl ⟨Nat.le_of_ble_eq_true rfl, Nat.le_of_ble_eq_true rfl⟩ ⟨Nat.le_refl _, Nat.le_refl _⟩ (Nat.le_of_ble_eq_true rfl) dX9_isBank_4 (fun H locs hR hS => ?_)
  refine g_zret C hR hS dX9_isBank_7 (by unfold gb; by_cases h : gIw v 0 7 = true <;> simp [h] <;> rfl) ?_
  exact ⟨rfl, rfl⟩
set_option maxRecDepth 100000 in
set_option maxHeartbeats 4000000 in
/-- isCell -/
theorem c_X9_isCell (l : Launch) {X : gX} (hI : gInj X) {mem : gM} {v : Int32} : gF l yX9_isCell cX9_isCell 1 (some .boolean) 1 22 X [.int v] mem (some (.int (nI (gb (gIw v 0 15 = true))))) mem := by
  refine gMt.of (own := RX9) (by decide) rfl hI (by simp [Value.category]) (Nat.le_of_ble_eq_true rfl) ?_
  intro p e s m args below meth c ls H locs C hnm hl hR hS
  refine g_iload_n C hl dX9_isCell_0 rfl ?_
  refine g_iconst 0 C dX9_isCell_1 (by decide) ?_
  refine g_bipush 15 C dX9_isCell_2 (by decide) ?_
  refine g_callSi C hl.1 hR hS md_X9_in ml_X9_28 (c_X9_in l hI (by decide) (by decide)) rfl rfl ⟨Nat.le_of_ble_eq_true rfl, Nat.le_of_ble_eq_true rfl⟩ ⟨Nat.le_refl _, Nat.le_refl _⟩ (Nat.le_of_ble_eq_true rfl) dX9_isCell_4 (fun H locs hR hS => ?_)
  refine g_zret C hR hS dX9_isCell_7 (by unfold gb; by_cases h : gIw v 0 15 = true <;> simp [h] <;> rfl) ?_
  exact ⟨rfl, rfl⟩
set_option maxRecDepth 100000 in
set_option maxHeartbeats 4000000 in
/-- isWindow -/
theorem c_X9_isWindow (l : Launch) {X : gX} (hI : gInj X) {mem : gM} {v : Int32} : gF l yX9_isWindow cX9_isWindow 1 (some .boolean) 1 22 X [.int v] mem (some (.int (nI (gb (gIw v 0 3 = true))))) mem := by
  refine gMt.of (own := RX9) (by decide) rfl hI (by simp [Value.category]) (Nat.le_of_ble_eq_true rfl) ?_
  intro p e s m args below meth c ls H locs C hnm hl hR hS
  refine g_iload_n C hl dX9_isWindow_0 rfl ?_
  refine g_iconst 0 C dX9_isWindow_1 (by decide) ?_
  refine g_iconst 3 C dX9_isWindow_2 (by decide) ?_
  refine g_callSi C hl.1 hR hS md_X9_in ml_X9_28 (c_X9_in l hI (by decide) (by decide)) rfl rfl ⟨Nat.le_of_ble_eq_true rfl, Nat.le_of_ble_eq_true rfl⟩ ⟨Nat.le_refl _, Nat.le_refl _⟩ (Nat.le_of_ble_eq_true rfl) dX9_isWindow_3 (fun H locs hR hS => ?_)
  refine g_zret C hR hS dX9_isWindow_6 (by unfold gb; by_cases h : gIw v 0 3 = true <;> simp [h] <;> rfl) ?_
  exact ⟨rfl, rfl⟩
set_option maxRecDepth 100000 in
set_option maxHeartbeats 4000000 in
/-- isAddress -/
theorem c_X9_isAddress (l : Launch) {X : gX} (hI : gInj X) {mem : gM} {v : Int32} : gF l yX9_isAddress cX9_isAddress 1 (some .boolean) 1 22 X [.int v] mem (some (.int (nI (gb (gIw v 0 63 = true))))) mem := by
  refine gMt.of (own := RX9) (by decide) rfl hI (by simp [Value.category]) (Nat.le_of_ble_eq_true rfl) ?_
  intro p e s m args below meth c ls H locs C hnm hl hR hS
  refine g_iload_n C hl dX9_isAddress_0 rfl ?_
  refine g_iconst 0 C dX9_isAddress_1 (by decide) ?_
  refine g_bipush 63 C dX9_isAddress_2 (by decide) ?_
  refine g_callSi C hl.1 hR hS md_X9_in ml_X9_28 (c_X9_in l hI (by decide) (by decide)) rfl rfl ⟨Nat.le_of_ble_eq_true rfl, Nat.le_of_ble_eq_true rfl⟩ ⟨Nat.le_refl _, Nat.le_refl _⟩ (Nat.le_of_ble_eq_true rfl) dX9_isAddress_4 (fun H locs hR hS => ?_)
  refine g_zret C hR hS dX9_isAddress_7 (by unfold gb; by_cases h : gIw v 0 63 = true <;> simp [h] <;> rfl) ?_
  exact ⟨rfl, rfl⟩
set_option maxRecDepth 100000 in
set_option maxHeartbeats 4000000 in
/-- index -/
theorem c_X9_index (l : Launch) {X : gX} (hI : gInj X) {mem : gM} {b c9 : Nat} (hb : b < 8) (hc : c9 < 16) : gF l yX9_index cX9_index 2 (some .int) 0 0 X [.int (nI b), .int (nI c9)] mem (some (.int (nI (zIx b c9)))) mem := by
  refine gMt.of (own := RX9) (by decide) rfl hI (by simp [Value.category]) (Nat.le_of_ble_eq_true rfl) ?_
  intro p e s m args below meth c ls H locs C hnm hl hR hS
  refine g_iload_n C hl dX9_index_0 rfl ?_
  refine g_bipush 12 C dX9_index_1 (by decide) ?_
  refine g_icmp_ge (tgt := 15) C dX9_index_3 (by decide) (by omega) (by omega) (fun c3 => ?_) (fun c3 => ?_)
  · -- 3 T
    refine g_bipush 96 C dX9_index_15 (by decide) ?_
    refine g_iload_n C hl dX9_index_17 rfl ?_
    refine g_iadd C dX9_index_18 ?_
    refine g_bipush 12 C dX9_index_19 (by decide) ?_
    refine g_isub C dX9_index_21 (by omega) ?_
    refine g_iret C hR hS dX9_index_22 ?_
    refine ⟨?_, rfl⟩
    unfold zIx
    first | (rw [if_neg (by omega), show 96 + c9 - 12 = 84 + c9 by omega]) | rw [if_pos (by omega)]
  · -- 3 F
    refine g_bipush 12 C dX9_index_6 (by decide) ?_
    refine g_iload_n C hl dX9_index_8 rfl ?_
    refine g_imul C dX9_index_9 ?_
    refine g_iload_n C hl dX9_index_10 rfl ?_
    refine g_iadd C dX9_index_11 ?_
    refine g_goto (tgt := 22) C dX9_index_12 (by decide) ?_
    refine g_iret C hR hS dX9_index_22 ?_
    refine ⟨?_, rfl⟩
    unfold zIx
    first | (rw [if_neg (by omega), show 96 + c9 - 12 = 84 + c9 by omega]) | rw [if_pos (by omega)]
set_option maxRecDepth 100000 in
set_option maxHeartbeats 4000000 in
/-- bankAt -/
theorem c_X9_bankAt (l : Launch) {X : gX} (hI : gInj X) {mem : gM} {f z a o k t r : Nat → Nat} {i : Nat} (hi : i < 64) : gF l yX9_bankAt cX9_bankAt 2 (some .int) 0 0 X [.ref (gAd X 8 0), .int (nI i)] (gM8 mem f z a o k t r) (some (.int (nI (zBk z i)))) (gM8 mem f z a o k t r) := by
  refine gMt.of (own := RX9) (by decide) rfl hI (by simp [Value.category]) (Nat.le_of_ble_eq_true rfl) ?_
  intro p e s m args below meth c ls H locs C hnm hl hR hS
  refine g_aload_n C hl dX9_bankAt_0 rfl ?_
  refine gt_X9_0 C hR fl_X9_7 dX9_bankAt_1 ?_
  refine g_bipush 100 C dX9_bankAt_4 (by decide) ?_
  refine g_iload_n C hl dX9_bankAt_6 rfl ?_
  refine g_bipush 16 C dX9_bankAt_7 (by decide) ?_
  refine g_idiv C dX9_bankAt_9 (by omega) (by decide) (by decide) ?_
  refine g_iadd C dX9_bankAt_10 ?_
  refine r_ald1 C hR (by omega) dX9_bankAt_11 ?_
  refine g_iret C hR hS dX9_bankAt_12 ?_
  exact ⟨rfl, rfl⟩
set_option maxRecDepth 100000 in
set_option maxHeartbeats 4000000 in
/-- indexAt -/
theorem c_X9_indexAt (l : Launch) {X : gX} (hI : gInj X) {mem : gM} {f z a o k t r : Nat → Nat} {i : Nat} (hz : zI z) (hi : i < 64) : gF l yX9_indexAt cX9_indexAt 2 (some .int) 1 21 X [.ref (gAd X 8 0), .int (nI i)] (gM8 mem f z a o k t r) (some (.int (nI (zAt z i)))) (gM8 mem f z a o k t r) := by
  refine gMt.of (own := RX9) (by decide) rfl hI (by simp [Value.category]) (Nat.le_of_ble_eq_true rfl) ?_
  intro p e s m args below meth c ls H locs C hnm hl hR hS
  refine g_aload_n C hl dX9_indexAt_0 rfl ?_
  refine g_iload_n C hl dX9_indexAt_1 rfl ?_
  refine g_callVi C hl.1 hR hS rc_X9 md_X9_bankAt ml_X9_32 (c_X9_bankAt l hI hi) rfl rfl ⟨Nat.le_of_ble_eq_true rfl, Nat.le_of_ble_eq_true rfl⟩ ⟨Nat.le_refl _, Nat.le_refl _⟩ (Nat.le_of_ble_eq_true rfl) dX9_indexAt_2 (fun H locs hR hS => ?_)
  refine g_iload_n C hl dX9_indexAt_5 rfl ?_
  refine g_bipush 16 C dX9_indexAt_6 (by decide) ?_
  refine g_irem C dX9_indexAt_8 (by omega) (by decide) (by decide) ?_
  refine g_callSi C hl.1 hR hS md_X9_index ml_X9_36 (c_X9_index l hI (hz.bk hi) (by omega)) rfl rfl ⟨Nat.le_of_ble_eq_true rfl, Nat.le_of_ble_eq_true rfl⟩ ⟨Nat.le_refl _, Nat.le_refl _⟩ (Nat.le_of_ble_eq_true rfl) dX9_indexAt_9 (fun H locs hR hS => ?_)
  refine g_iret C hR hS dX9_indexAt_12 ?_
  exact ⟨rfl, rfl⟩
set_option maxRecDepth 100000 in
set_option maxHeartbeats 4000000 in
/-- sum -/
theorem c_X9_sum (l : Launch) {X : gX} (hI : gInj X) {mem : gM} {x y : Nat} (hx9 : x < 100000) (hy : y < 100000) : gF l yX9_sum cX9_sum 2 (some .int) 0 0 X [.int (nI x), .int (nI y)] mem (some (.int (nI (zSm x y)))) mem := by
  refine gMt.of (own := RX9) (by decide) rfl hI (by simp [Value.category]) (Nat.le_of_ble_eq_true rfl) ?_
  intro p e s m args below meth c ls H locs C hnm hl hR hS
  refine g_iload_n C hl dX9_sum_0 rfl ?_
  refine g_iload_n C hl dX9_sum_1 rfl ?_
  refine g_iadd C dX9_sum_2 ?_
  refine g_sipush 999 C dX9_sum_3 (by decide) ?_
  refine g_icmp_le (tgt := 19) C dX9_sum_6 (by decide) (by omega) (by omega) (fun c6 => ?_) (fun c6 => ?_)
  · -- 6 T
    refine g_iload_n C hl dX9_sum_19 rfl ?_
    refine g_iload_n C hl dX9_sum_20 rfl ?_
    refine g_iadd C dX9_sum_21 ?_
    refine g_iret C hR hS dX9_sum_22 ?_
    refine ⟨?_, rfl⟩
    unfold zSm
    first | rw [if_pos (by omega)] | rw [if_neg (by omega)]
  · -- 6 F
    refine g_iload_n C hl dX9_sum_9 rfl ?_
    refine g_iload_n C hl dX9_sum_10 rfl ?_
    refine g_iadd C dX9_sum_11 ?_
    refine g_sipush 1000 C dX9_sum_12 (by decide) ?_
    refine g_isub C dX9_sum_15 (by omega) ?_
    refine g_goto (tgt := 22) C dX9_sum_16 (by decide) ?_
    refine g_iret C hR hS dX9_sum_22 ?_
    refine ⟨?_, rfl⟩
    unfold zSm
    first | rw [if_pos (by omega)] | rw [if_neg (by omega)]
