/-! ===== Text, and the class's Code ===== -/
def hTx (mem : gM) (n : Nat) (t : Nat → Nat) : Prop := mem 7 3 1 = n ∧ mem 7 4 = t ∧ n ≤ 80 ∧ ∀ j, j < n → t j < 65536
theorem hTx.p {mem : gM} {n : Nat} {t : Nat → Nat} (h : hTx mem n t) (f : Nat → Nat) : hTx (gP mem 7 5 f) n t := by
  obtain ⟨h1, h2, h3, h4⟩ := h
  exact ⟨by rw [gP_n _ _ (by decide)]; exact h1, by rw [gP_n _ _ (by decide)]; exact h2, h3, h4⟩
theorem hTx.q {mem : gM} {n : Nat} {t : Nat → Nat} (h : hTx mem n t) (f : Nat → Nat) : hTx (gP mem 7 7 f) n t := by
  obtain ⟨h1, h2, h3, h4⟩ := h
  exact ⟨by rw [gP_n _ _ (by decide)]; exact h1, by rw [gP_n _ _ (by decide)]; exact h2, h3, h4⟩
def vAt (n : Nat) (t : Nat → Nat) (i : Nat) : Int32 := if i < n then nI (t i) else -1
theorem vAt_in {n i : Nat} {t : Nat → Nat} (h : i < n) : vAt n t i = nI (pSg n t i) := by
  unfold vAt pSg
  rw [if_pos h, if_pos h]
theorem vAt_out {n i : Nat} {t : Nat → Nat} (h : ¬ i < n) : vAt n t i = -1 ∧ pSg n t i = 0 := by
  unfold vAt pSg
  rw [if_neg h, if_neg h]
  exact ⟨rfl, rfl⟩
theorem n1_ne {c : Nat} (h : c < 65536) : ¬ (-1 : Int32) = nI c := by
  intro z
  have h1 := congrArg Int32.toInt z
  rw [nI_toInt (by omega)] at h1
  have h2 : (-1 : Int32).toInt = -1 := rfl
  omega
section GT
variable {p : Program} {l : Launch} {e : Env} {R : Room} {s : State} {m : MethodId} {args : Array Value} {below : List Frame} {meth : Method} {c : Code} {H : Heap} {locs : List Loc} {cells slots : Nat} {Q : State → Prop}
variable {cc : ByteArray} {pc : Nat} {ls : Array Slot} {rest : List Value} {X : gX} {own : String} {ret : Option FieldType} {nL : Nat} {mem : gM}
theorem g_at_ne {n ch i tgt : Nat} {t : Nat → Nat} {off : Int} (C : gC X own cc ret nL p s m args meth c) (hdg : decode cc pc = .ok (.if_icmp .ne off, 3)) (ht : (pc : Int) + off = (tgt : Int)) (hx : ∀ j, j < n → t j < 65536) (h0 : 0 < ch) (hc : ch < 65536) (kt : ¬ pSg n t i = ch → W p l e R s m args below meth c H locs cells slots Q (F0 m tgt ls rest)) (kf : pSg n t i = ch → W p l e R s m args below meth c H locs cells slots Q (F0 m (pc + 3) ls rest)) : W p l e R s m args below meth c H locs cells slots Q (F0 m pc ls (.int (nI ch) :: .int (vAt n t i) :: rest)) := by
  by_cases h : i < n
  · rw [vAt_in h]
    have := pSg_lt hx i
    exact g_icmp_ne C hdg ht (by omega) (by omega) kt kf
  · rw [(vAt_out h).1]
    exact lv_icmp_ne C.1 C.2.1 hdg ht (fun _ => kt (by rw [(vAt_out h).2]; omega)) (fun z => absurd z (n1_ne hc))
theorem g_atE_ne {n i tgt : Nat} {t : Nat → Nat} {off : Int} (C : gC X own cc ret nL p s m args meth c) (hdg : decode cc pc = .ok (.if_icmp .ne off, 3)) (ht : (pc : Int) + off = (tgt : Int)) (hx : ∀ j, j < n → t j < 65536) (kt : i < n → W p l e R s m args below meth c H locs cells slots Q (F0 m tgt ls rest)) (kf : ¬ i < n → W p l e R s m args below meth c H locs cells slots Q (F0 m (pc + 3) ls rest)) : W p l e R s m args below meth c H locs cells slots Q (F0 m pc ls (.int (-1) :: .int (vAt n t i) :: rest)) := by
  by_cases h : i < n
  · rw [vAt_in h]
    exact lv_icmp_ne C.1 C.2.1 hdg ht (fun _ => kt h) (fun z => absurd z.symm (n1_ne (pSg_lt hx i)))
  · rw [(vAt_out h).1]
    exact lv_icmp_ne C.1 C.2.1 hdg ht (fun z => absurd rfl z) (fun _ => kf h)
/-! Code's position and soundness -/
def cT (f : Nat → Nat) (p9 s9 : Nat) : Nat → Nat := fun j => if j = 2 then p9 else if j = 3 then s9 else f j
theorem cT_2 (f : Nat → Nat) (p9 s9 x : Nat) : fU (cT f p9 s9) 2 x = cT f x s9 := by
  funext j
  unfold fU cT
  by_cases g : j = 2
  · rw [if_pos g, if_pos g]
  · rw [if_neg g, if_neg g, if_neg g]
theorem cT_3 (f : Nat → Nat) (p9 s9 x : Nat) : fU (cT f p9 s9) 3 x = cT f p9 x := by
  funext j
  unfold fU cT
  by_cases g : j = 3
  · rw [if_pos g, if_neg (by omega), if_pos g]
  · rw [if_neg g]
    by_cases g2 : j = 2
    · rw [if_pos g2, if_pos g2]
    · rw [if_neg g2, if_neg g2, if_neg g, if_neg g]
theorem cT_1 (f : Nat → Nat) (p9 s9 x : Nat) : fU (cT f p9 s9) 1 x = cT (fU f 1 x) p9 s9 := by
  funext j
  unfold fU cT
  dsimp only
  by_cases g : j = 1
  · rw [if_pos g, if_neg (by omega), if_neg (by omega), if_pos g]
  · rw [if_neg g, if_neg g]
theorem cT_self (f : Nat → Nat) : cT f (f 2) (f 3) = f := by
  funext j
  unfold cT
  by_cases g : j = 2
  · rw [if_pos g, g]
  · rw [if_neg g]
    by_cases h : j = 3
    · rw [if_pos h, h]
    · rw [if_neg h]
theorem xg_1 {f : Nat → Nat} {p9 s9 index : Nat} (C : gC X own cc ret nL p s m args meth c) (hR : gRep X (gP mem 7 5 (cT f p9 s9)) H) (hlink : Cond.fieldLink own index "FarBanks$Code" "size" "I" ∈ wA) (hdg : decode cc pc = .ok (.getfield index, 3)) (kk : W p l e R s m args below meth c H locs cells slots Q (F0 m (pc + 3) ls (.int (nI (f 1)) :: rest))) : W p l e R s m args below meth c H locs cells slots Q (F0 m pc ls (.ref (gAd X 7 5) :: rest)) := gt_X1_1 C hR hlink hdg (by rw [gP_s]; exact kk)
theorem xp_1 {f : Nat → Nat} {p9 s9 index x : Nat} (C : gC X own cc ret nL p s m args meth c) (hR : gRep X (gP mem 7 5 (cT f p9 s9)) H) (hS : va_S (gA X) s.heap H locs) (hlink : Cond.fieldLink own index "FarBanks$Code" "size" "I" ∈ wA) (hdg : decode cc pc = .ok (.putfield index, 3)) (kk : ∀ (H1 : Heap) (locs1 : List Loc), gRep X (gP mem 7 5 (cT (fU f 1 x) p9 s9)) H1 → va_S (gA X) s.heap H1 locs1 → W p l e R s m args below meth c H1 locs1 cells slots Q (F0 m (pc + 3) ls rest)) : W p l e R s m args below meth c H locs cells slots Q (F0 m pc ls (.int (nI x) :: .ref (gAd X 7 5) :: rest)) := pt_X1_1 C hR hS hlink hdg (fun H1 locs1 hR1 hS1 => kk H1 locs1 (by rw [gP_s, gP_u, cT_1] at hR1; exact hR1) hS1)
theorem xg_2 {f : Nat → Nat} {p9 s9 index : Nat} (C : gC X own cc ret nL p s m args meth c) (hR : gRep X (gP mem 7 5 (cT f p9 s9)) H) (hlink : Cond.fieldLink own index "FarBanks$Code" "position" "I" ∈ wA) (hdg : decode cc pc = .ok (.getfield index, 3)) (kk : W p l e R s m args below meth c H locs cells slots Q (F0 m (pc + 3) ls (.int (nI (p9)) :: rest))) : W p l e R s m args below meth c H locs cells slots Q (F0 m pc ls (.ref (gAd X 7 5) :: rest)) := gt_X1_2 C hR hlink hdg (by rw [gP_s]; exact kk)
theorem xp_2 {f : Nat → Nat} {p9 s9 index x : Nat} (C : gC X own cc ret nL p s m args meth c) (hR : gRep X (gP mem 7 5 (cT f p9 s9)) H) (hS : va_S (gA X) s.heap H locs) (hlink : Cond.fieldLink own index "FarBanks$Code" "position" "I" ∈ wA) (hdg : decode cc pc = .ok (.putfield index, 3)) (kk : ∀ (H1 : Heap) (locs1 : List Loc), gRep X (gP mem 7 5 (cT f x s9)) H1 → va_S (gA X) s.heap H1 locs1 → W p l e R s m args below meth c H1 locs1 cells slots Q (F0 m (pc + 3) ls rest)) : W p l e R s m args below meth c H locs cells slots Q (F0 m pc ls (.int (nI x) :: .ref (gAd X 7 5) :: rest)) := pt_X1_2 C hR hS hlink hdg (fun H1 locs1 hR1 hS1 => kk H1 locs1 (by rw [gP_s, gP_u, cT_2] at hR1; exact hR1) hS1)
theorem xg_3 {f : Nat → Nat} {p9 s9 index : Nat} (C : gC X own cc ret nL p s m args meth c) (hR : gRep X (gP mem 7 5 (cT f p9 s9)) H) (hlink : Cond.fieldLink own index "FarBanks$Code" "isSound" "Z" ∈ wA) (hdg : decode cc pc = .ok (.getfield index, 3)) (kk : W p l e R s m args below meth c H locs cells slots Q (F0 m (pc + 3) ls (.int (nI (s9)) :: rest))) : W p l e R s m args below meth c H locs cells slots Q (F0 m pc ls (.ref (gAd X 7 5) :: rest)) := gt_X1_3 C hR hlink hdg (by rw [gP_s]; exact kk)
theorem xp_3 {f : Nat → Nat} {p9 s9 index x : Nat} (C : gC X own cc ret nL p s m args meth c) (hR : gRep X (gP mem 7 5 (cT f p9 s9)) H) (hS : va_S (gA X) s.heap H locs) (hb2 : x < 2) (hlink : Cond.fieldLink own index "FarBanks$Code" "isSound" "Z" ∈ wA) (hdg : decode cc pc = .ok (.putfield index, 3)) (kk : ∀ (H1 : Heap) (locs1 : List Loc), gRep X (gP mem 7 5 (cT f p9 x)) H1 → va_S (gA X) s.heap H1 locs1 → W p l e R s m args below meth c H1 locs1 cells slots Q (F0 m (pc + 3) ls rest)) : W p l e R s m args below meth c H locs cells slots Q (F0 m pc ls (.int (nI x) :: .ref (gAd X 7 5) :: rest)) := pt_X1_3 C hR hS hb2 hlink hdg (fun H1 locs1 hR1 hS1 => kk H1 locs1 (by rw [gP_s, gP_u, cT_3] at hR1; exact hR1) hS1)
end GT
set_option maxRecDepth 100000 in
set_option maxHeartbeats 4000000 in
/-- Text.at -/
theorem c_X6_at (l : Launch) {X : gX} (hI : gInj X) {mem : gM} {n : Nat} {t : Nat → Nat} (hx : hTx mem n t) {i : Nat} (hi : i < 2 ^ 31) : gF l yX6_at cX6_at 2 (some .int) 0 0 X [.ref (gAd X 7 3), .int (nI i)] mem (some (.int (vAt n t i))) mem := by
  refine gMt.of (own := RX6) (by decide) rfl hI (by simp [Value.category]) (Nat.le_of_ble_eq_true rfl) ?_
  intro p e s m args below meth c ls H locs C hnm hl hR hS
  obtain ⟨h1, h2, h3, h4⟩ := hx
  refine g_iload_n C hl dX6_at_0 rfl ?_
  refine g_if_lt (tgt := 30) C dX6_at_1 (by decide) (by omega) ?_
  refine g_iload_n C hl dX6_at_4 rfl ?_
  refine g_aload_n C hl dX6_at_5 rfl ?_
  refine gt_X6_1 C hR fl_X6_15 dX6_at_6 ?_
  rw [h1]
  refine g_icmp_ge (tgt := 30) C dX6_at_9 (by decide) (by omega) (by omega) (fun c9 => ?_) (fun c9 => ?_)
  · -- 9 T
    refine g_iconstM (-1) C dX6_at_30 (by decide) ?_
    refine g_iret C hR hS dX6_at_31 ?_
    have e9 : vAt n t i = -1 := (vAt_out (by omega)).1
    rw [e9]
    exact ⟨rfl, rfl⟩
  · -- 9 F
    refine g_iload_n C hl dX6_at_12 rfl ?_
    refine g_aload_n C hl dX6_at_13 rfl ?_
    refine gt_X6_0 C hR fl_X6_9 dX6_at_14 ?_
    refine g_clen C hR dX6_at_17 ?_
    refine g_icmp_ge (tgt := 30) C dX6_at_18 (by decide) (by omega) (by omega) (fun z9 => absurd z9 (by omega)) (fun c18 => ?_)
    refine g_aload_n C hl dX6_at_21 rfl ?_
    refine gt_X6_0 C hR fl_X6_9 dX6_at_22 ?_
    refine g_iload_n C hl dX6_at_25 rfl ?_
    refine g_cald C hR (by omega) dX6_at_26 ?_
    rw [h2]
    refine g_goto (tgt := 31) C dX6_at_27 (by decide) ?_
    refine g_iret C hR hS dX6_at_31 ?_
    have e9 : vAt n t i = nI (t i) := if_pos (by omega)
    rw [e9]
    exact ⟨rfl, rfl⟩
set_option maxRecDepth 100000 in
set_option maxHeartbeats 4000000 in
/-- isFull -/
theorem c_X6_isFull (l : Launch) {X : gX} (hI : gInj X) {mem : gM} {n : Nat} {t : Nat → Nat} (hx : hTx mem n t) : gF l yX6_isFull cX6_isFull 1 (some .boolean) 0 0 X [.ref (gAd X 7 3)] mem (some (.int (nI (if n = 80 then 1 else 0)))) mem := by
  refine gMt.of (own := RX6) (by decide) rfl hI (by simp [Value.category]) (Nat.le_of_ble_eq_true rfl) ?_
  intro p e s m args below meth c ls H locs C hnm hl hR hS
  obtain ⟨h1, h2, h3, h4⟩ := hx
  refine g_aload_n C hl dX6_isFull_0 rfl ?_
  refine gt_X6_1 C hR fl_X6_15 dX6_isFull_1 ?_
  rw [h1]
  refine g_bipush 80 C dX6_isFull_4 (by decide) ?_
  refine g_icmp_lt (tgt := 13) C dX6_isFull_6 (by decide) (by omega) (by omega) (fun c6 => ?_) (fun c6 => ?_)
  · -- 6 T
    refine g_iconst 0 C dX6_isFull_13 (by decide) ?_
    refine g_zret C hR hS dX6_isFull_14 rfl ?_
    rw [if_neg (by omega)]
    exact ⟨rfl, rfl⟩
  · -- 6 F
    refine g_iconst 1 C dX6_isFull_9 (by decide) ?_
    refine g_goto (tgt := 14) C dX6_isFull_10 (by decide) ?_
    refine g_zret C hR hS dX6_isFull_14 rfl ?_
    rw [if_pos (by omega)]
    exact ⟨rfl, rfl⟩
set_option maxRecDepth 100000 in
set_option maxHeartbeats 4000000 in
/-- append -/
theorem c_X6_append (l : Launch) {X : gX} (hI : gInj X) {mem : gM} {n : Nat} {t : Nat → Nat} (hx : hTx mem n t) (hn : n < 80) {ch : Nat} (hc : ch < 65536) : gF l yX6_append cX6_append 2 none 0 0 X [.ref (gAd X 7 3), .int (nI ch)] mem none (gP (gP mem 7 4 (fU t n ch)) 7 3 (fU (mem 7 3) 1 (n + 1))) := by
  refine gMt.of (own := RX6) (by decide) rfl hI (by simp [Value.category]) (Nat.le_of_ble_eq_true rfl) ?_
  intro p e s m args below meth c ls H locs C hnm hl hR hS
  obtain ⟨h1, h2, h3, h4⟩ := hx
  refine g_aload_n C hl dX6_append_0 rfl ?_
  refine gt_X6_1 C hR fl_X6_15 dX6_append_1 ?_
  rw [h1]
  refine g_if_lt (tgt := 39) C dX6_append_4 (by decide) (by omega) ?_
  refine g_aload_n C hl dX6_append_7 rfl ?_
  refine gt_X6_1 C hR fl_X6_15 dX6_append_8 ?_
  rw [h1]
  refine g_aload_n C hl dX6_append_11 rfl ?_
  refine gt_X6_0 C hR fl_X6_9 dX6_append_12 ?_
  refine g_clen C hR dX6_append_15 ?_
  refine g_icmp_ge (tgt := 39) C dX6_append_16 (by decide) (by omega) (by omega) (fun z9 => absurd z9 (by omega)) (fun c16 => ?_)
  refine g_aload_n C hl dX6_append_19 rfl ?_
  refine gt_X6_0 C hR fl_X6_9 dX6_append_20 ?_
  refine g_aload_n C hl dX6_append_23 rfl ?_
  refine gt_X6_1 C hR fl_X6_15 dX6_append_24 ?_
  rw [h1]
  refine g_iload_n C hl dX6_append_27 rfl ?_
  refine g_cast C hR hS (by omega) hc dX6_append_28 (fun H locs hR hS => ?_)
  rw [h2] at hR
  refine g_aload_n C hl dX6_append_29 rfl ?_
  refine g_dup C dX6_append_30 rfl ?_
  refine gt_X6_1 C hR fl_X6_15 dX6_append_31 ?_
  rw [gP_n _ _ (by decide), h1]
  refine g_iconst 1 C dX6_append_34 (by decide) ?_
  refine g_iadd C dX6_append_35 ?_
  refine pt_X6_1 C hR hS fl_X6_15 dX6_append_36 (fun H locs hR hS => ?_)
  refine g_vret C hR hS dX6_append_39 ?_
  refine ⟨rfl, ?_⟩
  rw [gP_n _ _ (show ¬ (7 = 7 ∧ 3 = 4) by decide)]
def vDg (n : Nat) (t : Nat → Nat) (i : Nat) : Int32 := if 48 ≤ pSg n t i ∧ pSg n t i ≤ 57 then nI (pSg n t i - 48) else -1
set_option maxRecDepth 100000 in
set_option maxHeartbeats 4000000 in
/-- digitAt -/
theorem c_X1_digitAt (l : Launch) {X : gX} (hI : gInj X) {mem : gM} {n : Nat} {t : Nat → Nat} (hx : hTx mem n t) {i : Nat} (hi : i < 2 ^ 31) : gF l yX1_digitAt cX1_digitAt 3 (some .int) 1 21 X [.ref (gAd X 7 3), .int (nI i)] mem (some (.int (vDg n t i))) mem := by
  refine gMt.of (own := RX1) (by decide) rfl hI (by simp [Value.category]) (Nat.le_of_ble_eq_true rfl) ?_
  intro p e s m args below meth c ls H locs C hnm hl hR hS
  have hl9 := pSg_lt hx.2.2.2 i
  refine g_aload_n C hl dX1_digitAt_0 rfl ?_
  refine g_iload_n C hl dX1_digitAt_1 rfl ?_
  refine g_callVi C hl.1 hR hS rc_X6 md_X6_at ml_X1_39 (c_X6_at l hI hx hi) rfl rfl ⟨Nat.le_of_ble_eq_true rfl, Nat.le_of_ble_eq_true rfl⟩ ⟨Nat.le_refl _, Nat.le_refl _⟩ (Nat.le_of_ble_eq_true rfl) dX1_digitAt_2 (fun H locs hR hS => ?_)
  refine g_istore_n C hl dX1_digitAt_5 (Nat.le_of_ble_eq_true rfl) (fun ls hl => ?_)
  by_cases h9 : i < n
  · rw [vAt_in h9] at hl
    refine g_iload_n C hl dX1_digitAt_6 rfl ?_
    refine g_bipush 48 C dX1_digitAt_7 (by decide) ?_
    refine g_icmp_lt (tgt := 25) C dX1_digitAt_9 (by decide) (by omega) (by omega) (fun c9 => ?_) (fun c9 => ?_)
    · -- 9 T
      refine g_iconstM (-1) C dX1_digitAt_25 (by decide) ?_
      refine g_iret C hR hS dX1_digitAt_26 ?_
      have e9 : vDg n t i = -1 := if_neg (by omega)
      rw [e9]
      exact ⟨rfl, rfl⟩
    · -- 9 F
      refine g_iload_n C hl dX1_digitAt_12 rfl ?_
      refine g_bipush 57 C dX1_digitAt_13 (by decide) ?_
      refine g_icmp_gt (tgt := 25) C dX1_digitAt_15 (by decide) (by omega) (by omega) (fun c15 => ?_) (fun c15 => ?_)
      · -- 15 T
        refine g_iconstM (-1) C dX1_digitAt_25 (by decide) ?_
        refine g_iret C hR hS dX1_digitAt_26 ?_
        have e9 : vDg n t i = -1 := if_neg (by omega)
        rw [e9]
        exact ⟨rfl, rfl⟩
      · -- 15 F
        refine g_iload_n C hl dX1_digitAt_18 rfl ?_
        refine g_bipush 48 C dX1_digitAt_19 (by decide) ?_
        refine g_isub C dX1_digitAt_21 (by omega) ?_
        refine g_goto (tgt := 26) C dX1_digitAt_22 (by decide) ?_
        refine g_iret C hR hS dX1_digitAt_26 ?_
        have e9 : vDg n t i = nI (pSg n t i - 48) := if_pos (by omega)
        rw [e9]
        exact ⟨rfl, rfl⟩
  · have o9 := vAt_out (t := t) h9
    rw [o9.1] at hl
    refine g_iload_n C hl dX1_digitAt_6 rfl ?_
    refine g_bipush 48 C dX1_digitAt_7 (by decide) ?_
    refine lv_icmp_lt (tgt := 25) C.1 C.2.1 dX1_digitAt_9 (by decide) (fun _ => ?_) (fun z9 => absurd (by decide) z9)
    refine g_iconstM (-1) C dX1_digitAt_25 (by decide) ?_
    refine g_iret C hR hS dX1_digitAt_26 ?_
    have e9 : vDg n t i = -1 := if_neg (by omega)
    rw [e9]
    exact ⟨rfl, rfl⟩
