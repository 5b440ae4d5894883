/-! ===== Frames, Trail ===== -/
theorem gSum_cg {f g : Nat → Nat} : ∀ n, (∀ i, i < n → f i = g i) → gSum f n = gSum g n
  | 0, _ => rfl
  | n + 1, h => by
    show gSum f n + f n = gSum g n + g n
    rw [gSum_cg n (fun i hi => h i (by omega)), h n (by omega)]
theorem gSum_sh {f : Nat → Nat} : ∀ n, gSum f (n + 1) = f 0 + gSum (fun i => f (i + 1)) n
  | 0 => by
    show 0 + f 0 = f 0 + 0
    omega
  | n + 1 => by
    show gSum f (n + 1) + f (n + 1) = f 0 + (gSum (fun i => f (i + 1)) n + f (n + 1))
    rw [gSum_sh n]
    omega
theorem gSum_rev : ∀ (n : Nat) (f : Nat → Nat), gSum (fun r => f (n - 1 - r)) n = gSum f n
  | 0, _ => rfl
  | n + 1, f => by
    have h := gSum_rev n (fun i => f (i + 1))
    rw [gSum_sh (f := f) n, ← h]
    show gSum (fun r => f (n + 1 - 1 - r)) n + f (n + 1 - 1 - n) = _
    rw [show n + 1 - 1 - n = 0 by omega, Nat.add_comm (f 0)]
    congr 1
    exact gSum_cg n (fun i hi => by show f _ = f _; congr 1; omega)
set_option maxRecDepth 100000 in
set_option maxHeartbeats 4000000 in
/-- Frames.add -/
theorem c_X2_add (l : Launch) {X : gX} (hI : gInj X) {mem : gM} {k : Nat} (hk : k < 7) {g : Nat → Nat → Nat} {z : Nat → Nat} (hM : mR g z) (h8 : z 116 < 8) {w b p9 : Nat} : gMt l yX2_add cX2_add 5 none 1 22 X [.ref (gAd X k 12), .int (nI w), .int (nI b), .int (nI p9)] (fU mem k g) (mP mem k (fU (fU (fU (fU z (117 + 3 * z 116) w) (117 + 3 * z 116 + 1) b) (117 + 3 * z 116 + 2) p9) 116 (z 116 + 1)) none) := by
  refine gMt.of (own := RX2) (by decide) rfl hI (by simp [Value.category]) (Nat.le_of_ble_eq_true rfl) ?_
  intro p e s m args below meth c ls H locs C hnm hl hR hS
  refine g_aload_n C hl dX2_add_0 rfl ?_
  refine zgt_X2_1 C hk hM hR fl_X2_24 dX2_add_1 ?_
  refine g_iconst 3 C dX2_add_4 (by decide) ?_
  refine g_imul C dX2_add_5 ?_
  refine g_istore C hl dX2_add_6 (Nat.le_of_ble_eq_true rfl) (fun ls hl => ?_)
  refine g_aload_n C hl dX2_add_8 rfl ?_
  refine gt_X2_0 C hk hR fl_X2_16 dX2_add_9 ?_
  refine g_iload C hl dX2_add_12 rfl ?_
  refine g_iconst 0 C dX2_add_14 (by decide) ?_
  refine g_iadd C dX2_add_15 ?_
  refine g_iload_n C hl dX2_add_16 rfl ?_
  refine g_callKv C hl.1 hR hS (rc_X5 (gRow_13 hk)) md_X5_write ml_X2_28 (c_zw l hI hM (gRow_13 hk) mB_14 (by omega)) rfl rfl ⟨Nat.le_of_ble_eq_true rfl, Nat.le_of_ble_eq_true rfl⟩ ⟨Nat.le_refl _, Nat.le_refl _⟩ (Nat.le_of_ble_eq_true rfl) dX2_add_17 (fun g hM H locs hR hS => ?_)
  rw [show 117 + (z 116 * 3 + 0) = 117 + 3 * z 116 by omega] at hM
  refine g_aload_n C hl dX2_add_20 rfl ?_
  refine gt_X2_0 C hk hR fl_X2_16 dX2_add_21 ?_
  refine g_iload C hl dX2_add_24 rfl ?_
  refine g_iconst 1 C dX2_add_26 (by decide) ?_
  refine g_iadd C dX2_add_27 ?_
  refine g_iload_n C hl dX2_add_28 rfl ?_
  refine g_callKv C hl.1 hR hS (rc_X5 (gRow_13 hk)) md_X5_write ml_X2_28 (c_zw l hI hM (gRow_13 hk) mB_14 (by omega)) rfl rfl ⟨Nat.le_of_ble_eq_true rfl, Nat.le_of_ble_eq_true rfl⟩ ⟨Nat.le_refl _, Nat.le_refl _⟩ (Nat.le_of_ble_eq_true rfl) dX2_add_29 (fun g hM H locs hR hS => ?_)
  rw [show 117 + (z 116 * 3 + 1) = 117 + 3 * z 116 + 1 by omega] at hM
  refine g_aload_n C hl dX2_add_32 rfl ?_
  refine gt_X2_0 C hk hR fl_X2_16 dX2_add_33 ?_
  refine g_iload C hl dX2_add_36 rfl ?_
  refine g_iconst 2 C dX2_add_38 (by decide) ?_
  refine g_iadd C dX2_add_39 ?_
  refine g_iload_n C hl dX2_add_40 rfl ?_
  refine g_callKv C hl.1 hR hS (rc_X5 (gRow_13 hk)) md_X5_write ml_X2_28 (c_zw l hI hM (gRow_13 hk) mB_14 (by omega)) rfl rfl ⟨Nat.le_of_ble_eq_true rfl, Nat.le_of_ble_eq_true rfl⟩ ⟨Nat.le_refl _, Nat.le_refl _⟩ (Nat.le_of_ble_eq_true rfl) dX2_add_41 (fun g hM H locs hR hS => ?_)
  rw [show 117 + (z 116 * 3 + 2) = 117 + 3 * z 116 + 2 by omega] at hM
  refine g_aload_n C hl dX2_add_44 rfl ?_
  refine g_dup C dX2_add_45 rfl ?_
  refine zgt_X2_1 C hk hM hR fl_X2_24 dX2_add_46 ?_
  rw [fU_n _ _ (by omega), fU_n _ _ (by omega), fU_n _ _ (by omega)]
  refine g_iconst 1 C dX2_add_49 (by decide) ?_
  refine g_iadd C dX2_add_50 ?_
  refine zpt_X2_1 C hk hM hR hS fl_X2_24 dX2_add_51 (fun g hM H locs hR hS => ?_)
  refine g_vret C hR hS dX2_add_54 ?_
  exact ⟨rfl, _, rfl, hM⟩
set_option maxRecDepth 100000 in
set_option maxHeartbeats 4000000 in
/-- Frames.tell -/
theorem c_X2_tell (l : Launch) {X : gX} (hI : gInj X) {mem : gM} {k : Nat} (hk : k < 7) {g : Nat → Nat → Nat} {z : Nat → Nat} (hM : mR g z) (h8 : z 116 ≤ 8) {r9 w : Nat} (hr : r9 < z 116) (hw : w < 3) : gF l yX2_tell cX2_tell 3 (some .int) 1 21 X [.ref (gAd X k 12), .int (nI r9), .int (nI w)] (fU mem k g) (some (.int (nI (z (117 + 3 * (z 116 - 1 - r9) + w))))) (fU mem k g) := by
  refine gMt.of (own := RX2) (by decide) rfl hI (by simp [Value.category]) (Nat.le_of_ble_eq_true rfl) ?_
  intro p e s m args below meth c ls H locs C hnm hl hR hS
  refine g_aload_n C hl dX2_tell_0 rfl ?_
  refine gt_X2_0 C hk hR fl_X2_16 dX2_tell_1 ?_
  refine g_aload_n C hl dX2_tell_4 rfl ?_
  refine zgt_X2_1 C hk hM hR fl_X2_24 dX2_tell_5 ?_
  refine g_iconst 1 C dX2_tell_8 (by decide) ?_
  refine g_isub C dX2_tell_9 (by omega) ?_
  refine g_iload_n C hl dX2_tell_10 rfl ?_
  refine g_isub C dX2_tell_11 (by omega) ?_
  refine g_iconst 3 C dX2_tell_12 (by decide) ?_
  refine g_imul C dX2_tell_13 ?_
  refine g_iload_n C hl dX2_tell_14 rfl ?_
  refine g_iadd C dX2_tell_15 ?_
  refine g_callVi C hl.1 hR hS (rc_X5 (gRow_13 hk)) md_X5_read ml_X2_32 (c_zr l hI hM (gRow_13 hk) mB_14 (by omega)) rfl rfl ⟨Nat.le_of_ble_eq_true rfl, Nat.le_of_ble_eq_true rfl⟩ ⟨Nat.le_refl _, Nat.le_refl _⟩ (Nat.le_of_ble_eq_true rfl) dX2_tell_16 (fun H locs hR hS => ?_)
  rw [show 117 + ((z 116 - 1 - r9) * 3 + w) = 117 + 3 * (z 116 - 1 - r9) + w by omega]
  refine g_iret C hR hS dX2_tell_19 ?_
  exact ⟨rfl, rfl⟩
set_option maxRecDepth 100000 in
set_option maxHeartbeats 4000000 in
/-- X2_howManyBackTo -/
theorem c_X2_howManyBackTo (l : Launch) {X : gX} (hI : gInj X) {mem : gM} {k : Nat} (hk : k < 7) {g : Nat → Nat → Nat} {z : Nat → Nat} (hM : mR g z) (hz : zI z) {b : Nat} (hb : b < 8) : gF l yX2_howManyBackTo cX2_howManyBackTo 4 (some .int) 2 43 X [.ref (gAd X k 12), .int (nI b)] (fU mem k g) (some (.int (nI (zFrm z b (z 116))))) (fU mem k g) := by
  refine gMt.of (own := RX2) (by decide) rfl hI (by simp [Value.category]) (Nat.le_of_ble_eq_true rfl) ?_
  intro p e s m args below meth c ls H locs C hnm hl hR hS
  have h116 := hz.2.2.2.2.2.2.2.1
  have loop : ∀ (d i : Nat), i + d = z 116 → ∀ (ls : Array Slot) (H : Heap) (locs : List Loc), gL ls [some (.ref (gAd X k 12)), some (.int (nI b)), some (.int (nI (gSum (fun r => if z (118 + 3 * (z 116 - 1 - r)) = b then 1 else 0) i))), some (.int (nI i))] → gRep X (fU mem k g) H → va_S (gA X) s.heap H locs → W p l e { frames := 2, cells := 0, slots := 0, locals := 43 } s m args below meth c H locs 0 0 (MQ below (gQ X (fun v m => v = some (.int (nI (zFrm z b (z 116)))) ∧ m = fU mem k g)) args s 0 0 (gA X)) (F0 m 4 ls []) := by
    intro d
    induction d with
    | zero =>
      intro i hi  ls H locs  hl hR hS
      have hi2 : i = z 116 := by omega
      subst hi2
      refine g_iload_n C hl dX2_howManyBackTo_4 rfl ?_
      refine g_aload_n C hl dX2_howManyBackTo_5 rfl ?_
      refine zgt_X2_1 C hk hM hR fl_X2_24 dX2_howManyBackTo_6 ?_
      refine g_icmp_ge (tgt := 31) C dX2_howManyBackTo_9 (by decide) (by omega) (by omega) (fun c9 => ?_) (fun z9 => absurd z9 (by omega))
      refine g_iload_n C hl dX2_howManyBackTo_31 rfl ?_
      refine g_iret C hR hS dX2_howManyBackTo_32 ?_
      rw [gSum_rev (z 116) (fun q => if z (118 + 3 * q) = b then 1 else 0)]
      exact ⟨rfl, rfl⟩
    | succ d ih =>
      intro i hi  ls H locs  hl hR hS
      refine g_iload_n C hl dX2_howManyBackTo_4 rfl ?_
      refine g_aload_n C hl dX2_howManyBackTo_5 rfl ?_
      refine zgt_X2_1 C hk hM hR fl_X2_24 dX2_howManyBackTo_6 ?_
      refine g_icmp_ge (tgt := 31) C dX2_howManyBackTo_9 (by decide) (by omega) (by omega) (fun z9 => absurd z9 (by omega)) (fun c9 => ?_)
      refine g_aload_n C hl dX2_howManyBackTo_12 rfl ?_
      refine g_iload_n C hl dX2_howManyBackTo_13 rfl ?_
      refine g_iconst 1 C dX2_howManyBackTo_14 (by decide) ?_
      refine g_callVi C hl.1 hR hS (rc_X2 hk) md_X2_tell ml_X2_36 (c_X2_tell l hI hk hM (by omega) (by omega) (by decide)) rfl rfl ⟨Nat.le_of_ble_eq_true rfl, Nat.le_of_ble_eq_true rfl⟩ ⟨Nat.le_refl _, Nat.le_refl _⟩ (Nat.le_of_ble_eq_true rfl) dX2_howManyBackTo_15 (fun H locs hR hS => ?_)
      rw [show 117 + 3 * (z 116 - 1 - i) + 1 = 118 + 3 * (z 116 - 1 - i) by omega]
      have hx := (hz.2.2.2.2.2.2.2.2.1 (z 116 - 1 - i) (by omega)).2.1
      refine g_iload_n C hl dX2_howManyBackTo_18 rfl ?_
      refine g_icmp_ne (tgt := 25) C dX2_howManyBackTo_19 (by decide) (by omega) (by omega) (fun c19 => ?_) (fun c19 => ?_)
      · -- 19 T
        refine g_iinc (k := 1) C hl dX2_howManyBackTo_25 rfl (by decide) (fun ls hl => ?_)
        refine g_goto (tgt := 4) C dX2_howManyBackTo_28 (by decide) ?_
        have e9 : gSum (fun r => if z (118 + 3 * (z 116 - 1 - r)) = b then 1 else 0) (i + 1) = gSum (fun r => if z (118 + 3 * (z 116 - 1 - r)) = b then 1 else 0) i + (if z (118 + 3 * (z 116 - 1 - i)) = b then 1 else 0) := rfl
        first | rw [if_pos c19] at e9 | rw [if_neg c19, Nat.add_zero (gSum (fun r => if z (118 + 3 * (z 116 - 1 - r)) = b then 1 else 0) i)] at e9
        rw [← e9] at hl
        refine ih (i + 1) (by omega)  ls H locs hl ?_ hS
        exact hR
      · -- 19 F
        refine g_iinc (k := 1) C hl dX2_howManyBackTo_22 rfl (by decide) (fun ls hl => ?_)
        refine g_iinc (k := 1) C hl dX2_howManyBackTo_25 rfl (by decide) (fun ls hl => ?_)
        refine g_goto (tgt := 4) C dX2_howManyBackTo_28 (by decide) ?_
        have e9 : gSum (fun r => if z (118 + 3 * (z 116 - 1 - r)) = b then 1 else 0) (i + 1) = gSum (fun r => if z (118 + 3 * (z 116 - 1 - r)) = b then 1 else 0) i + (if z (118 + 3 * (z 116 - 1 - i)) = b then 1 else 0) := rfl
        first | rw [if_pos c19] at e9 | rw [if_neg c19, Nat.add_zero (gSum (fun r => if z (118 + 3 * (z 116 - 1 - r)) = b then 1 else 0) i)] at e9
        rw [← e9] at hl
        refine ih (i + 1) (by omega)  ls H locs hl ?_ hS
        exact hR
  refine g_iconst 0 C dX2_howManyBackTo_0 (by decide) ?_
  refine g_istore_n C hl dX2_howManyBackTo_1 (Nat.le_of_ble_eq_true rfl) (fun ls hl => ?_)
  refine g_iconst 0 C dX2_howManyBackTo_2 (by decide) ?_
  refine g_istore_n C hl dX2_howManyBackTo_3 (Nat.le_of_ble_eq_true rfl) (fun ls hl => ?_)
  exact loop (z 116) 0 (by omega) _ _ _ hl hR hS
/-! a step comes into the trail -/
def zKq (z : Nat → Nat) (a b n : Nat) : Nat → Nat := fU (fU (fU (zSh (zKp0 z) 3) 142 a) 143 b) 144 n
theorem zKq_eq (z : Nat → Nat) {a : Nat} (n : Nat) (ha : a < 64) : zKp z a n = zKq z a (zBk z a) n := by
  have e : zBk (zKp1 z a) a = zBk z a := by
    unfold zBk zKp1
    rw [fU_n _ _ (by omega)]
    unfold zSh
    rw [if_neg (by omega), zKp0_lo (by omega)]
  unfold zKp zKp2 zKq
  rw [e]
  rfl
def gAdd (g : Nat → Nat → Nat) (a b n : Nat) : Nat → Nat := fU (fU (fU (g 17) (g 15 1 % 12 * 3 + 0) a) (g 15 1 % 12 * 3 + 1) b) (g 15 1 % 12 * 3 + 2) n
theorem zKp0_hi {z : Nat → Nat} {j : Nat} (h : 142 ≤ j) : zKp0 z j = z j := by
  unfold zKp0
  by_cases e : z 141 < 12
  · rw [if_pos e, fU_n _ _ (by omega)]
  · rw [if_neg e]
theorem mR_add {g : Nat → Nat → Nat} {z : Nat → Nat} {a b n : Nat} (h : mR g z) : mR (fU (fU g 17 (gAdd g a b n)) 15 (fU (g 15) 1 (z 178 + 1))) (fU (zKq z a b n) 178 (z 178 + 1)) := by
  have ht : g 15 1 = z 178 := h.1 178 rfl
  obtain ⟨h1, h2, h3⟩ := h
  have k1 : zKp0 z 141 = min (z 178 + 1) 12 := by
    unfold zKp0
    by_cases e : z 141 < 12
    · rw [if_pos e, fU_s]; omega
    · rw [if_neg e]; omega
  have q1 : zKq z a b n 141 = min (z 178 + 1) 12 := by
    unfold zKq
    rw [fU_n _ _ (by omega), fU_n _ _ (by omega), fU_n _ _ (by omega)]
    unfold zSh
    rw [if_neg (by omega)]
    exact k1
  refine ⟨fun j hj => ?_, ?_, fun r q hr hq => ?_⟩
  · have hc := mK_cases hj
    by_cases e : j = 178
    · subst e
      rw [fU_s]
      show (fU (fU g 17 (gAdd g a b n)) 15 (fU (g 15) 1 (z 178 + 1))) 15 1 = z 178 + 1
      rw [fU_s, fU_s]
    · rw [fU_n (zKq z a b n) _ e]
      have e2 : zKq z a b n j = z j := by
        unfold zKq
        rw [fU_n _ _ (by omega), fU_n _ _ (by omega), fU_n _ _ (by omega)]
        unfold zSh
        rw [if_neg (by omega)]
        rcases hc with hc | hc | hc | hc
        · exact zKp0_lo (by omega)
        all_goals exact zKp0_hi (by omega)
      rw [e2, ← h1 j hj]
      by_cases e3 : mO j = 15
      · have e4 : ¬ mI j = 1 := fun e4 => e (mOI hj (show mK 178 = true from rfl) e3 e4)
        rw [e3, fU_s, fU_n _ _ e4]
      · rw [fU_n _ _ e3, fU_n _ _ (fun e5 => mO_17 hj e5.symm)]
  · rw [fU_n (zKq z a b n) _ (by decide), fU_s, q1]
  · rw [fU_n (zKq z a b n) _ (by decide), q1] at hr
    rw [fU_s, fU_n (zKq z a b n) _ (by omega), fU_n _ _ (by decide), fU_s]
    unfold gAdd zKq
    rw [ht]
    by_cases e : r = 0
    · subst e
      rw [show (z 178 + 1 - 1 - 0) % 12 * 3 + q = z 178 % 12 * 3 + q by omega]
      rcases (show q = 0 ∨ q = 1 ∨ q = 2 by omega) with rfl | rfl | rfl
      · rw [fU_n _ _ (by omega), fU_n _ _ (by omega), fU_s, fU_n _ _ (by omega), fU_n _ _ (by omega), fU_s]
      · rw [fU_n _ _ (by omega), fU_s, fU_n _ _ (by omega), fU_s]
      · rw [fU_s, fU_s]
    · have hh : ¬ (z 178 + 1 - 1 - r) % 12 = z 178 % 12 := by omega
      rw [fU_n _ _ (by omega), fU_n _ _ (by omega), fU_n _ _ (by omega), fU_n _ _ (by omega), fU_n _ _ (by omega), fU_n _ _ (by omega)]
      unfold zSh
      rw [k1, if_pos (by omega), zKp0_hi (by omega), show 142 + 3 * r + q - 3 = 142 + 3 * (r - 1) + q by omega, ← h3 (r - 1) q (by omega) hq]
      congr 2
      omega
set_option maxRecDepth 100000 in
set_option maxHeartbeats 4000000 in
/-- Trail.add -/
theorem c_X7_add (l : Launch) {X : gX} (hI : gInj X) {mem : gM} {k : Nat} (hk : k < 7) {g : Nat → Nat → Nat} {z : Nat → Nat} (hM : mR g z) (h31 : z 178 < 2 ^ 31) {a b n : Nat} : gMt l yX7_add cX7_add 5 none 1 22 X [.ref (gAd X k 15), .int (nI a), .int (nI b), .int (nI n)] (fU mem k g) (mP mem k (fU (zKq z a b n) 178 (z 178 + 1)) none) := by
  refine gMt.of (own := RX7) (by decide) rfl hI (by simp [Value.category]) (Nat.le_of_ble_eq_true rfl) ?_
  intro p e s m args below meth c ls H locs C hnm hl hR hS
  have ht : g 15 1 = z 178 := hM.1 178 rfl
  refine g_aload_n C hl dX7_add_0 rfl ?_
  refine gt_X7_1 C hk hR fl_X7_24 dX7_add_1 ?_
  rw [fU_s]
  refine g_bipush 12 C dX7_add_4 (by decide) ?_
  refine g_irem C dX7_add_6 (by omega) (by decide) (by decide) ?_
  refine g_iconst 3 C dX7_add_7 (by decide) ?_
  refine g_imul C dX7_add_8 ?_
  refine g_istore C hl dX7_add_9 (Nat.le_of_ble_eq_true rfl) (fun ls hl => ?_)
  refine g_aload_n C hl dX7_add_11 rfl ?_
  refine gt_X7_0 C hk hR fl_X7_16 dX7_add_12 ?_
  refine g_iload C hl dX7_add_15 rfl ?_
  refine g_iconst 0 C dX7_add_17 (by decide) ?_
  refine g_iadd C dX7_add_18 ?_
  refine g_iload_n C hl dX7_add_19 rfl ?_
  refine g_callVv C hl.1 hR hS (rc_X5 (gRow_16 hk)) md_X5_write ml_X7_28 (c_X5_write l hI (gRow_16 hk) (show _ < 36 by omega)) rfl rfl ⟨Nat.le_of_ble_eq_true rfl, Nat.le_of_ble_eq_true rfl⟩ ⟨Nat.le_refl _, Nat.le_refl _⟩ (Nat.le_of_ble_eq_true rfl) dX7_add_20 (fun H locs hR hS => ?_)
  rw [gP_fU] at hR
  refine g_aload_n C hl dX7_add_23 rfl ?_
  refine gt_X7_0 C hk hR fl_X7_16 dX7_add_24 ?_
  refine g_iload C hl dX7_add_27 rfl ?_
  refine g_iconst 1 C dX7_add_29 (by decide) ?_
  refine g_iadd C dX7_add_30 ?_
  refine g_iload_n C hl dX7_add_31 rfl ?_
  refine g_callVv C hl.1 hR hS (rc_X5 (gRow_16 hk)) md_X5_write ml_X7_28 (c_X5_write l hI (gRow_16 hk) (show _ < 36 by omega)) rfl rfl ⟨Nat.le_of_ble_eq_true rfl, Nat.le_of_ble_eq_true rfl⟩ ⟨Nat.le_refl _, Nat.le_refl _⟩ (Nat.le_of_ble_eq_true rfl) dX7_add_32 (fun H locs hR hS => ?_)
  rw [gP_fU] at hR
  refine g_aload_n C hl dX7_add_35 rfl ?_
  refine gt_X7_0 C hk hR fl_X7_16 dX7_add_36 ?_
  refine g_iload C hl dX7_add_39 rfl ?_
  refine g_iconst 2 C dX7_add_41 (by decide) ?_
  refine g_iadd C dX7_add_42 ?_
  refine g_iload_n C hl dX7_add_43 rfl ?_
  refine g_callVv C hl.1 hR hS (rc_X5 (gRow_16 hk)) md_X5_write ml_X7_28 (c_X5_write l hI (gRow_16 hk) (show _ < 36 by omega)) rfl rfl ⟨Nat.le_of_ble_eq_true rfl, Nat.le_of_ble_eq_true rfl⟩ ⟨Nat.le_refl _, Nat.le_refl _⟩ (Nat.le_of_ble_eq_true rfl) dX7_add_44 (fun H locs hR hS => ?_)
  rw [gP_fU] at hR
  refine g_aload_n C hl dX7_add_47 rfl ?_
  refine g_dup C dX7_add_48 rfl ?_
  refine gt_X7_1 C hk hR fl_X7_24 dX7_add_49 ?_
  rw [fU_s, fU_n _ _ (show ¬ 15 = 17 by decide), fU_n _ _ (show ¬ 15 = 17 by decide), fU_n _ _ (show ¬ 15 = 17 by decide), ht]
  refine g_iconst 1 C dX7_add_52 (by decide) ?_
  refine g_iadd C dX7_add_53 ?_
  refine pt_X7_1 C hk hR hS fl_X7_24 dX7_add_54 (fun H locs hR hS => ?_)
  rw [gP_fU] at hR
  refine g_vret C hR hS dX7_add_57 ?_
  have e : fU (fU (fU (fU g 17 (fU (g 17) (g 15 1 % 12 * 3 + 0) a)) 17 (fU (fU g 17 (fU (g 17) (g 15 1 % 12 * 3 + 0) a) 17) (g 15 1 % 12 * 3 + 1) b)) 17 (fU (fU (fU g 17 (fU (g 17) (g 15 1 % 12 * 3 + 0) a)) 17 (fU (fU g 17 (fU (g 17) (g 15 1 % 12 * 3 + 0) a) 17) (g 15 1 % 12 * 3 + 1) b) 17) (g 15 1 % 12 * 3 + 2) n)) 15 (fU (g 15) 1 (z 178 + 1)) = fU (fU g 17 (gAdd g a b n)) 15 (fU (g 15) 1 (z 178 + 1)) := by
    unfold gAdd
    rw [fU_s, fU_u, fU_s, fU_u]
  refine ⟨rfl, _, rfl, ?_⟩
  have e7 := mR_add (a := a) (b := b) (n := n) hM
  rw [← e] at e7
  exact e7
set_option maxRecDepth 100000 in
set_option maxHeartbeats 4000000 in
/-- Trail.tell -/
theorem c_X7_tell (l : Launch) {X : gX} (hI : gInj X) {mem : gM} {k : Nat} (hk : k < 7) {g : Nat → Nat → Nat} {z : Nat → Nat} (hM : mR g z) (h31 : z 178 < 2 ^ 31) {r9 w : Nat} (hr : r9 < z 141) (hw : w < 3) : gMt l yX7_tell cX7_tell 3 (some .int) 1 21 X [.ref (gAd X k 15), .int (nI r9), .int (nI w)] (fU mem k g) (fun v m => v = some (.int (nI (z (142 + 3 * r9 + w)))) ∧ m = fU mem k g) := by
  refine gMt.of (own := RX7) (by decide) rfl hI (by simp [Value.category]) (Nat.le_of_ble_eq_true rfl) ?_
  intro p e s m args below meth c ls H locs C hnm hl hR hS
  have ht : g 15 1 = z 178 := hM.1 178 rfl
  have h12 := hM.2.1
  refine g_aload_n C hl dX7_tell_0 rfl ?_
  refine gt_X7_0 C hk hR fl_X7_16 dX7_tell_1 ?_
  refine g_aload_n C hl dX7_tell_4 rfl ?_
  refine gt_X7_1 C hk hR fl_X7_24 dX7_tell_5 ?_
  rw [fU_s, ht]
  refine g_iconst 1 C dX7_tell_8 (by decide) ?_
  refine g_isub C dX7_tell_9 (by omega) ?_
  refine g_iload_n C hl dX7_tell_10 rfl ?_
  refine g_isub C dX7_tell_11 (by omega) ?_
  refine g_bipush 12 C dX7_tell_12 (by decide) ?_
  refine g_irem C dX7_tell_14 (by omega) (by decide) (by decide) ?_
  refine g_iconst 3 C dX7_tell_15 (by decide) ?_
  refine g_imul C dX7_tell_16 ?_
  refine g_iload_n C hl dX7_tell_17 rfl ?_
  refine g_iadd C dX7_tell_18 ?_
  refine g_callVi C hl.1 hR hS (rc_X5 (gRow_16 hk)) md_X5_read ml_X7_32 (c_X5_read l hI (gRow_16 hk) (show _ < 36 by omega)) rfl rfl ⟨Nat.le_of_ble_eq_true rfl, Nat.le_of_ble_eq_true rfl⟩ ⟨Nat.le_refl _, Nat.le_refl _⟩ (Nat.le_of_ble_eq_true rfl) dX7_tell_19 (fun H locs hR hS => ?_)
  rw [fU_s, hM.2.2 r9 w hr hw]
  refine g_iret C hR hS dX7_tell_22 ?_
  exact ⟨rfl, rfl⟩
