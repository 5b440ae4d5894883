/-! ===== the law: a run; what the class tells, told of good arguments ===== -/
theorem gL.forget {ls : Array Slot} {vs : List (Option Value)} (h : gL ls vs) (i : Nat) : gL ls (vs.set i none) := by
  refine ⟨by rw [List.length_set]; exact h.1, h.2.1, fun j v hj => ?_⟩
  by_cases e : j = i
  · subst e
    by_cases hi : j < vs.length
    · rw [List.getElem?_set_self hi] at hj
      cases hj
    · rw [List.getElem?_eq_none (by rw [List.length_set]; omega)] at hj
      cases hj
  · rw [List.getElem?_set_ne (Ne.symm e)] at hj
    exact h.2.2 j v hj
theorem sCell_in {z : Nat → Nat} {b i : Nat} (hb : b < 8) (hi : i < 16) : sCell z (nI b) (nI i) = nI (z (zIx b i)) := by
  unfold sCell
  rw [if_pos (gIw_ok (by omega) (by omega) (by decide)), if_pos (gIw_ok (by omega) (by omega) (by decide)), nI_clamp (by omega), nI_clamp (by omega)]
theorem sBank_in {z : Nat → Nat} {b k : Nat} (hb : b < 8) (hk : k < 6) : sBank z (nI b) (nI k) = nI (match k with | 0 => z (104 + b) | 1 => zWin z b 4 | 2 => zFil z b 12 | 3 => zFrm z b (z 116) | 4 => z (182 + b) | _ => z (190 + b)) := by
  unfold sBank
  rw [if_pos (gIw_ok (by omega) (by omega) (by decide)), if_pos (gIw_ok (by omega) (by omega) (by decide)), nI_clamp (show b < 2 ^ 31 by omega), nI_clamp (show k < 2 ^ 31 by omega)]
  rcases (show k = 0 ∨ k = 1 ∨ k = 2 ∨ k = 3 ∨ k = 4 ∨ k = 5 by omega) with rfl | rfl | rfl | rfl | rfl | rfl <;> rfl
theorem sWin_in {z : Nat → Nat} {w : Nat} (hw : w < 4) : sWin z (nI w) = nI (z (100 + w)) := by
  unfold sWin
  rw [if_pos (gIw_ok (by omega) (by omega) (by decide)), nI_clamp (by omega)]
theorem nI_nneg {a : Nat} (ha : a < 2 ^ 31) : ¬ nI a < 0 := nI_pos ha
theorem sFrame_in {z : Nat → Nat} {i : Nat} (h8 : z 116 ≤ 8) (h : i < 3 * z 116) : sFrame z (nI (z 116 - 1 - i / 3)) (nI (i % 3)) = nI (z (117 + i)) := by
  unfold sFrame
  rw [if_neg (nI_nneg (by omega)), if_pos (gIw_ok (by omega) (by omega) (by decide)), nI_clamp (by omega), nI_clamp (by omega), if_pos (by omega), show 117 + 3 * (z 116 - 1 - (z 116 - 1 - i / 3)) + i % 3 = 117 + i by omega]
theorem sFrame_no {z : Nat → Nat} (h8 : z 116 ≤ 8) : sFrame z (nI (z 116)) (nI 0) = -5 := by
  unfold sFrame
  rw [if_neg (nI_nneg (by omega)), if_pos (gIw_ok (by omega) (by omega) (by decide)), nI_clamp (by omega), if_neg (by omega)]
theorem sAddr_in {z : Nat → Nat} {a k : Nat} (ha : a < 64) (hk : k < 4) : sAddr z (nI a) (nI k) = (match k with | 0 => nI (z (zAt z a)) | 1 => nI (zBk z a) | 2 => nI (a % 16) | _ => zSame z a 64) := by
  unfold sAddr
  rw [if_pos (gIw_ok (by omega) (by omega) (by decide)), if_pos (gIw_ok (by omega) (by omega) (by decide)), nI_clamp (show a < 2 ^ 31 by omega), nI_clamp (show k < 2 ^ 31 by omega)]
  rcases (show k = 0 ∨ k = 1 ∨ k = 2 ∨ k = 3 by omega) with rfl | rfl | rfl | rfl <;> rfl
theorem sCount_in {S : aS} {k : Nat} (hk : k < 10) : sCount S (nI k) = nI (match k with | 0 => aZ S 113 | 1 => aZ S 114 | 2 => aZ S 116 | 3 => aZ S 115 | 4 => aZ S 178 | 5 => aZ S 179 | 6 => aZ S 180 | 7 => aZ S 181 | 8 => gSum (fun b => aZ S (104 + b)) 8 | _ => aZ S 112) := by
  unfold sCount
  rw [if_pos (gIw_ok (by omega) (by omega) (by decide)), nI_clamp (by omega)]
  rcases (show k = 0 ∨ k = 1 ∨ k = 2 ∨ k = 3 ∨ k = 4 ∨ k = 5 ∨ k = 6 ∨ k = 7 ∨ k = 8 ∨ k = 9 by omega) with rfl | rfl | rfl | rfl | rfl | rfl | rfl | rfl | rfl | rfl <;> rfl
theorem sNext_in {z : Nat → Nat} {k : Nat} (h0 : z 115 = 0) (hk : k < 3) : sNext z (nI k) = nI (match k with | 0 => z (zAt z (z 114)) | 1 => zStep z 115 | _ => zStep z 114) := by
  unfold sNext
  rw [if_pos (gIw_ok (by omega) (by omega) (by decide)), if_neg (by omega), nI_clamp (by omega)]
  rcases (show k = 0 ∨ k = 1 ∨ k = 2 by omega) with rfl | rfl | rfl <;> rfl
theorem sNext_st {z : Nat → Nat} (h0 : ¬ z 115 = 0) : sNext z (nI 0) = -5 := by
  unfold sNext
  rw [if_pos (gIw_ok (by omega) (by omega) (by decide)), if_pos (by omega)]
theorem sNext_3 {z : Nat → Nat} : sNext z (nI 3) = -2 := by
  unfold sNext
  rw [if_neg (by decide)]
theorem sIf_in {z : Nat → Nat} {n k : Nat} (h0 : z 115 = 0) (hn1 : 1 ≤ n) (hn : n ≤ 999) (hk : k < 5) : sIf z (nI n) (nI k) = nI (match k with | 0 => zTk z n | 1 => zRun z n 115 | 2 => zRun z n 113 | 3 => zRun z n 116 | _ => zDif (zRun z n) z 100) := by
  unfold sIf
  rw [if_pos (gIw_ok hn1 hn (by decide)), if_pos (gIw_ok (by omega) (by omega) (by decide)), if_neg (by omega), nI_clamp (show n < 2 ^ 31 by omega), nI_clamp (show k < 2 ^ 31 by omega)]
  rcases (show k = 0 ∨ k = 1 ∨ k = 2 ∨ k = 3 ∨ k = 4 by omega) with rfl | rfl | rfl | rfl | rfl <;> rfl
theorem sIf_st {z : Nat → Nat} {n : Nat} (h0 : ¬ z 115 = 0) (hn1 : 1 ≤ n) (hn : n ≤ 999) : sIf z (nI n) (nI 0) = -4 := by
  unfold sIf
  rw [if_pos (gIw_ok hn1 hn (by decide)), if_pos (gIw_ok (by omega) (by omega) (by decide)), if_pos (by omega)]
theorem sIf_00 {z : Nat → Nat} : sIf z (nI 0) (nI 0) = -2 := by
  unfold sIf
  rw [if_neg (by decide)]
theorem sIf_15 {z : Nat → Nat} : sIf z (nI 1) (nI 5) = -2 := by
  unfold sIf
  rw [if_pos (by decide), if_neg (by decide)]
theorem fl_a {z : Nat → Nat} {b i : Nat} (h : 12 ≤ i) : zFil z b (min i 12) + 0 = zFil z b (min (i + 1) 12) := by
  rw [show min (i + 1) 12 = min i 12 by omega]
  rfl
theorem fl_b {z : Nat → Nat} {b i : Nat} (h : i < 12) (hc : z (zIx b i) = 0) : zFil z b (min i 12) + 0 = zFil z b (min (i + 1) 12) := by
  rw [show min (i + 1) 12 = i + 1 by omega, show min i 12 = i by omega]
  show _ = zFil z b i + (if z (zIx b i) = 0 then 0 else 1)
  rw [if_pos hc]
theorem fl_c {z : Nat → Nat} {b i : Nat} (h : i < 12) (hc : ¬ z (zIx b i) = 0) : zFil z b (min i 12) + 1 = zFil z b (min (i + 1) 12) := by
  rw [show min (i + 1) 12 = i + 1 by omega, show min i 12 = i by omega]
  show _ = zFil z b i + (if z (zIx b i) = 0 then 0 else 1)
  rw [if_neg hc]
theorem wn_a {z : Nat → Nat} {b i : Nat} (h : z (100 + i) = b) : zWin z b i + 2 ^ i = zWin z b (i + 1) := by
  show _ = zWin z b i + (if z (100 + i) = b then 2 ^ i else 0)
  rw [if_pos h]
theorem wn_b {z : Nat → Nat} {b i : Nat} (h : ¬ z (100 + i) = b) : zWin z b i = zWin z b (i + 1) := by
  show _ = zWin z b i + (if z (100 + i) = b then 2 ^ i else 0)
  rw [if_neg h]
  rfl
theorem or_0 (a : Nat) : nI a ||| nI 0 = nI a := Int32.or_zero
theorem fr_a {z : Nat → Nat} {b i : Nat} (h : z (118 + 3 * i) = b) : zFrm z b i + 1 = zFrm z b (i + 1) := by
  show _ = zFrm z b i + (if z (118 + 3 * i) = b then 1 else 0)
  rw [if_pos h]
theorem fr_b {z : Nat → Nat} {b i : Nat} (h : ¬ z (118 + 3 * i) = b) : zFrm z b i + 0 = zFrm z b (i + 1) := by
  show _ = zFrm z b i + (if z (118 + 3 * i) = b then 1 else 0)
  rw [if_neg h]
/-- a window's number that falls below 0 -/
def wI (w : Nat) : Int32 := if w = 0 then -1 else nI (w - 1)
theorem wI_dec (w : Nat) : nI w + Int32.ofInt (-1) = wI w := by
  cases w with
  | zero => rfl
  | succ w => exact pk_m1 w
set_option maxRecDepth 100000 in
set_option maxHeartbeats 4000000 in
/-- L_run -/
theorem c_L_run (l : Launch) {X : gX} (hI : gInj X) {mem : gM} {k : Nat} (hk : uG X k) {z : Nat → Nat} (hM : uR (mem k) z) (hz : zI z) (hg : zG z) {n : Nat} (hn : n < 2 ^ 31) : gMt l yL_run cL_run 6 (some .int) 3 75 X [.int (nI n), .ref (gAd X k 0), .ref (gAd X k 1), .ref (gAd X k 2), .ref (gAd X k 3)] mem (uP k mem (zRun z n) (some (.int (nI (zTk z n))))) := by
  refine gMt.of (own := RL) (by decide) rfl hI (by simp [Value.category]) (Nat.le_of_ble_eq_true rfl) ?_
  intro p e s m args below meth c ls H locs C hnm hl hR hS
  obtain ⟨mem0, em0⟩ : ∃ mem0, mem0 = mem := ⟨_, rfl⟩
  rw [← em0]
  have hF : uF k mem0 mem := by
    rw [em0]
    exact uF.rf
  have loop : ∀ (d i : Nat), i + d = n → zTk z i = i → ∀ (ls : Array Slot) (H : Heap) (locs : List Loc) (mem : gM) (hM : uR (mem k) (zRun z i)) (hF : uF k mem0 mem), gL ls [some (.int (nI n)), some (.ref (gAd X k 0)), some (.ref (gAd X k 1)), some (.ref (gAd X k 2)), some (.ref (gAd X k 3)), some (.int (nI i))] → gRep X (mem) H → va_S (gA X) s.heap H locs → W p l e { frames := 3, cells := 0, slots := 0, locals := 75 } s m args below meth c H locs 0 0 (MQ below (gQ X (uP k mem0 (zRun z n) (some (.int (nI (zTk z n)))))) args s 0 0 (gA X)) (F0 m 3 ls []) := by
    intro d
    induction d with
    | zero =>
      intro i hi ht ls H locs mem hM hF hl hR hS
      have hi2 : i = n := by omega
      subst hi2
      refine g_iload C hl dL_run_3 rfl ?_
      refine g_iload_n C hl dL_run_5 rfl ?_
      refine g_icmp_ge (tgt := 30) C dL_run_6 (by decide) (by omega) (by omega) (fun c6 => ?_) (fun z9 => absurd z9 (by omega))
      refine g_iload C hl dL_run_30 rfl ?_
      refine g_iret C hR hS dL_run_32 ?_
      rw [ht]
      exact ⟨rfl, hF, hM⟩
    | succ d ih =>
      intro i hi ht ls H locs mem hM hF hl hR hS
      refine g_iload C hl dL_run_3 rfl ?_
      refine g_iload_n C hl dL_run_5 rfl ?_
      refine g_icmp_ge (tgt := 30) C dL_run_6 (by decide) (by omega) (by omega) (fun z9 => absurd z9 (by omega)) (fun c6 => ?_)
      refine g_aload_n C hl dL_run_9 rfl ?_
      refine g_bipush 15 C dL_run_10 (by decide) ?_
      refine u_ald (115) C hk hM hR (uJ_w rfl (by decide)) dL_run_12 ?_
      refine g_if_ne (tgt := 30) C dL_run_13 (by decide) (by have := (zRun_I hz hg i).1.2.2.2.2.2.2.1; omega) (fun c13 => ?_) (fun c13 => ?_)
      · -- 13 T
        refine g_iload C hl dL_run_30 rfl ?_
        refine g_iret C hR hS dL_run_32 ?_
        obtain ⟨e1, e2⟩ := zRun_stop c13 (n - i)
        rw [show i + (n - i) = n by omega] at e1 e2
        refine ⟨?_, hF, ?_⟩
        · rw [e2, ht]
        · rw [e1]
          exact hM
      · -- 13 F
        refine g_aload_n C hl dL_run_16 rfl ?_
        refine g_aload_n C hl dL_run_17 rfl ?_
        refine g_aload_n C hl dL_run_18 rfl ?_
        refine g_aload C hl dL_run_19 rfl ?_
        refine g_callU C hl.1 hF hR hS md_L_step ml_L_23 (c_L_step l hI hk hM (zRun_I hz hg i).1 ((zRun_I hz hg i).2 c13) c13) rfl rfl ⟨Nat.le_of_ble_eq_true rfl, Nat.le_of_ble_eq_true rfl⟩ ⟨Nat.le_refl _, Nat.le_refl _⟩ (Nat.le_of_ble_eq_true rfl) dL_run_21 (fun mem hM hF H locs hR hS => ?_)
        refine g_iinc (k := 1) C hl dL_run_24 rfl (by decide) (fun ls hl => ?_)
        refine g_goto (tgt := 3) C dL_run_27 (by decide) ?_
        have e1 : zRun z (i + 1) = zStep (zRun z i) := if_pos c13
        have e2 : zTk z (i + 1) = i + 1 := if_pos c13
        rw [← e1] at hM
        refine ih (i + 1) (by omega) e2  ls H locs mem hM hF hl ?_ hS
        exact hR
  refine g_iconst 0 C dL_run_0 (by decide) ?_
  refine g_istore C hl dL_run_1 (Nat.le_of_ble_eq_true rfl) (fun ls hl => ?_)
  exact loop n 0 (by omega) rfl _ _ _ mem hM hF hl hR hS
