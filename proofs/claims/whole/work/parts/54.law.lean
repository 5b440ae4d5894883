/-! ===== the law's first rows, and its walk ===== -/
set_option maxRecDepth 100000 in
set_option maxHeartbeats 4000000 in
theorem st_walk {p : Program} {e : Env} {s : State} {m : MethodId} {below : List Frame} {meth : Method} {c : Code} (l : Launch) {b L : Nat} {xs : Nat → Int32} (hL : L ≤ 2048) (C0 : lw_At p s m meth c b L xs) : W p l e room_1 s m #[Value.ref b] below meth c s.heap [] 0 0 (lw_Z below #[Value.ref b] s) (entryFrame m ([Value.ref b] : List Value).toArray 4) := by
  obtain ⟨X, hSz, hAd, hE, hO⟩ := st_env C0
  have hI : gInj X := kInj hAd
  obtain ⟨w1, w2, w3, w4, w5, hts, w7, w8, w9, -⟩ := C0
  have C : gC X RL cL_law ret 4 p s m #[Value.ref b] meth c := ⟨w1, w2, w3, w4, w5, fun w hw => hts w (wA_tbl w hw), w9, hI, hE⟩
  have hl := gL.entry [Value.ref b] 4 (by simp [Value.category]) (Nat.le_of_ble_eq_true rfl)
  rw [lg_entry_eq]
  generalize (lg_sl [Value.ref b] ++ List.replicate (4 - (lg_sl [Value.ref b]).length) Slot.unset).toArray = ls at hl ⊢
  have hB : kSt X (gA X) s (gSz X) [] s.heap [] 0 := ⟨kP_nil, hSz.symm, va_S.rf, hSz.symm, fun q hq => hq, Nat.le_refl _, fun q hq => hq⟩
  refine kk_new (ci := 8) (n := 0) (fs := [.null, .null, .null, .null, .null, .null, .int (nI 0)]) tyX8 C hB rfl tyX8_ok ilX8 cl_L_7 ib_X8 in_X8 rfl (fun j hj => by rcases (show j = 0 ∨ j = 1 ∨ j = 2 ∨ j = 3 ∨ j = 4 ∨ j = 5 ∨ j = 6 by omega) with rfl | rfl | rfl | rfl | rfl | rfl | rfl <;> rfl) (Nat.le_of_ble_eq_true rfl) (Nat.le_of_ble_eq_true rfl) dL_law_0 (fun H hB => ?_)
  refine g_dup C dL_law_3 rfl ?_
  refine kk_call (n := 0) C hl.1 hO hB rfl im_X8_init co_X8_init in_X8 (by decide +kernel) rfl ml_L_9 (kc_X8 l hI) rfl rfl rfl ⟨Nat.le_of_ble_eq_true rfl, Nat.le_of_ble_eq_true rfl⟩ ⟨Nat.le_of_ble_eq_true rfl, Nat.le_of_ble_eq_true rfl⟩ (Nat.le_of_ble_eq_true rfl) dL_law_4 (fun H locs hB => ?_)
  have hB : kSt X (gA X) s (gSz X) (kFb X (gSz X)) H locs _ := hB
  refine g_astore_n C hl dL_law_7 (Nat.le_of_ble_eq_true rfl) (fun ls hl => ?_)
  refine kk_new (ci := 9) (n := 134) (fs := [.null, .null, .null, .int (nI 0), .null, .int (nI 0), .null, .int (nI 0), .int (nI 0), .int (nI 0), .null, .int (nI 0)]) tyX9 C hB rfl tyX9_ok ilX9 cl_L_10 ib_X9 in_X9 rfl (fun j hj => by rcases (show j = 0 ∨ j = 1 ∨ j = 2 ∨ j = 3 ∨ j = 4 ∨ j = 5 ∨ j = 6 ∨ j = 7 ∨ j = 8 ∨ j = 9 ∨ j = 10 ∨ j = 11 by omega) with rfl | rfl | rfl | rfl | rfl | rfl | rfl | rfl | rfl | rfl | rfl | rfl <;> rfl) (Nat.le_of_ble_eq_true rfl) (Nat.le_of_ble_eq_true rfl) dL_law_8 (fun H hB => ?_)
  refine g_dup C dL_law_11 rfl ?_
  refine kk_call (n := 134) C hl.1 hO hB rfl im_X9_init co_X9_init in_X9 (by decide +kernel) rfl ml_L_12 (kc_X9 l hI) rfl rfl rfl ⟨Nat.le_of_ble_eq_true rfl, Nat.le_of_ble_eq_true rfl⟩ ⟨Nat.le_of_ble_eq_true rfl, Nat.le_of_ble_eq_true rfl⟩ (Nat.le_of_ble_eq_true rfl) dL_law_12 (fun H locs hB => ?_)
  refine g_astore_n C hl dL_law_15 (Nat.le_of_ble_eq_true rfl) (fun ls hl => ?_)
  refine g_iconst 0 C dL_law_16 (by decide) ?_
  refine g_istore_n C hl dL_law_17 (Nat.le_of_ble_eq_true rfl) (fun ls hl => ?_)
  have hR : gRep X mem0 H := st_rep rfl hAd hB.1
  have hS : va_S (gA X) s.heap H locs := hB.2.2.1
  have hbA : ¬ gA X b := by
    intro z
    have z2 : gSz X ≤ b := z
    omega
  have e7 : gAd X 7 0 = gSz X := hAd 7 0
  have e8 : gAd X 8 0 = gSz X + 134 := hAd 8 0
  refine law_loop l hI C ⟨Nat.le_of_ble_eq_true rfl, Nat.le_of_ble_eq_true rfl⟩ w7 w8 hbA hL (fun ls H locs hS => ?_) (L + 4) 0 (by omega) (Nat.zero_le _) S0 mem0 st_lR ls H locs (by rw [e7, e8]; exact hl) hR hS
  refine va_forget (fun q hq => ?_) ?_
  · have h2 : gSz X ≤ q.base := hS.2.2 q hq
    omega
  refine W.widen (k := 600000) (n := 7302250) (Nat.le_of_ble_eq_true rfl) (Nat.le_of_ble_eq_true rfl) ?_
  exact lw_ret w1 w2 w3 w9 dL_law_764
