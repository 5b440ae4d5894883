/-! ===== the law: what is so ===== -/
section GI
variable {p : Program} {l : Launch} {e : Env} {R : Room} {s : State} {m : MethodId} {args : Array Value} {below : List Frame} {meth : Method} {c : Code} {H : Heap} {locs : List Loc} {cells slots : Nat} {Q : State → Prop}
variable {cc : ByteArray} {pc : Nat} {ls : Array Slot} {rest : List Value} {X : gX} {own : String} {ret : Option FieldType} {nL : Nat}
theorem g_iincV {vs : List (Option Value)} {i a : Nat} {n : Int} {v : Int32} (C : gC X own cc ret nL p s m args meth c) (hl : gL ls vs) (hdg : decode cc pc = .ok (.iinc i n, 3)) (hi : vs[i]? = some (some (.int (nI a)))) (hn : nI a + Int32.ofInt n = v) (kk : ∀ ls' : Array Slot, gL ls' (vs.set i (some (.int v))) → W p l e R s m args below meth c H locs cells slots Q (F0 m (pc + 3) ls' rest)) : W p l e R s m args below meth c H locs cells slots Q (F0 m pc ls rest) := by
  have hlt := (List.getElem?_eq_some_iff.mp hi).1
  obtain ⟨q, hq⟩ := List.getElem?_of_mem (gLs_mem (q := (i, .int (nI a))).mpr hi)
  exact lv_iinc (v := v) C.1 C.2.1 hdg hl.has hq hn hlt rfl (fun ls' h' => kk ls' (hl.set hlt rfl h'))
end GI
set_option maxRecDepth 100000 in
set_option maxHeartbeats 4000000 in
/-- L_isSo -/
theorem c_L_isSo (l : Launch) {X : gX} (hI : gInj X) {mem : gM} (h8 : uG X 8) {S : aS} (hJ : lR S mem) : gMt l yL_isSo cL_isSo 11 (some .boolean) 4 89 X [.ref (gAd X 7 0), .ref (gAd X 8 0), .ref (gAd X 8 1), .ref (gAd X 8 2), .ref (gAd X 8 3)] mem (fun v9 m9 => v9 = some (.int (nI 1)) ∧ lR S m9) := by
  refine gMt.of (own := RL) (by decide) rfl hI (by simp [Value.category]) (Nat.le_of_ble_eq_true rfl) ?_
  intro p e s m args below meth c ls H locs C hnm hl hR hS
  have fin : ∀ (ls : Array Slot) (H : Heap) (locs : List Loc) (mem : gM), lR S mem → gL ls [some (.ref (gAd X 7 0)), some (.ref (gAd X 8 0)), some (.ref (gAd X 8 1)), some (.ref (gAd X 8 2)), some (.ref (gAd X 8 3)), some (.int (nI (gSum (fun b9 => aZ S (104 + b9)) 8))), none, none, none, none, none] → gRep X mem H → va_S (gA X) s.heap H locs → W p l e { frames := 4, cells := 0, slots := 0, locals := 89 } s m args below meth c H locs 0 0 (MQ below (gQ X (fun v9 m9 => v9 = some (.int (nI 1)) ∧ lR S m9)) args s 0 0 (gA X)) (F0 m 504 ls []) := by
    intro ls H locs mem hJ hl hR hS
    have hM := hJ.2.2
    have hz : zI (aZ S) := hJ.1.1.1
    have h116 := hz.2.2.2.2.2.2.2.1
    refine g_aload_n C hl dL_isSo_504 rfl ?_
    refine g_aload C hl dL_isSo_505 rfl ?_
    refine g_iconst 0 C dL_isSo_507 (by decide) ?_
    refine u_ald (116) C h8 hM hR (uJ_f rfl (by decide)) dL_isSo_508 ?_
    refine g_iconst 0 C dL_isSo_509 (by decide) ?_
    refine g_callV C hl.1 hR hS rc_X8 md_X8_frame ml_L_57 (c_X8_frame l hI hJ.1 hJ.2.1) rfl rfl ⟨Nat.le_of_ble_eq_true rfl, Nat.le_of_ble_eq_true rfl⟩ ⟨Nat.le_refl _, Nat.le_refl _⟩ (Nat.le_of_ble_eq_true rfl) dL_isSo_510 (fun v mem H locs hp hR hS => ?_)
    obtain ⟨e9, hc9⟩ := hp
    subst e9
    have hJ := hJ.ob hc9
    have hM := hJ.2.2
    rw [sFrame_no (by omega)]
    refine g_bipushM (-5) C dL_isSo_513 (by decide) ?_
    refine lv_icmp_ne (tgt := 644) C.1 C.2.1 dL_isSo_515 (by decide) (fun z9 => absurd rfl z9) (fun _ => ?_)
    refine g_aload_n C hl dL_isSo_518 rfl ?_
    refine g_iconst 0 C dL_isSo_519 (by decide) ?_
    refine g_callV C hl.1 hR hS rc_X8 md_X8_count ml_L_63 (c_X8_count l hI hJ.1 hJ.2.1) rfl rfl ⟨Nat.le_of_ble_eq_true rfl, Nat.le_of_ble_eq_true rfl⟩ ⟨Nat.le_refl _, Nat.le_refl _⟩ (Nat.le_of_ble_eq_true rfl) dL_isSo_520 (fun v mem H locs hp hR hS => ?_)
    obtain ⟨e9, hc9⟩ := hp
    subst e9
    have hJ := hJ.ob hc9
    have hM := hJ.2.2
    rw [sCount_in (by decide)]
    refine g_aload_n C hl dL_isSo_523 rfl ?_
    refine g_bipush 13 C dL_isSo_524 (by decide) ?_
    refine u_ald (113) C h8 hM hR (uJ_w rfl (by decide)) dL_isSo_526 ?_
    refine lv_icmp_ne (tgt := 644) C.1 C.2.1 dL_isSo_527 (by decide) (fun z9 => absurd rfl z9) (fun _ => ?_)
    refine g_aload_n C hl dL_isSo_530 rfl ?_
    refine g_iconst 1 C dL_isSo_531 (by decide) ?_
    refine g_callV C hl.1 hR hS rc_X8 md_X8_count ml_L_63 (c_X8_count l hI hJ.1 hJ.2.1) rfl rfl ⟨Nat.le_of_ble_eq_true rfl, Nat.le_of_ble_eq_true rfl⟩ ⟨Nat.le_refl _, Nat.le_refl _⟩ (Nat.le_of_ble_eq_true rfl) dL_isSo_532 (fun v mem H locs hp hR hS => ?_)
    obtain ⟨e9, hc9⟩ := hp
    subst e9
    have hJ := hJ.ob hc9
    have hM := hJ.2.2
    rw [sCount_in (by decide)]
    refine g_aload_n C hl dL_isSo_535 rfl ?_
    refine g_bipush 14 C dL_isSo_536 (by decide) ?_
    refine u_ald (114) C h8 hM hR (uJ_w rfl (by decide)) dL_isSo_538 ?_
    refine lv_icmp_ne (tgt := 644) C.1 C.2.1 dL_isSo_539 (by decide) (fun z9 => absurd rfl z9) (fun _ => ?_)
    refine g_aload_n C hl dL_isSo_542 rfl ?_
    refine g_iconst 2 C dL_isSo_543 (by decide) ?_
    refine g_callV C hl.1 hR hS rc_X8 md_X8_count ml_L_63 (c_X8_count l hI hJ.1 hJ.2.1) rfl rfl ⟨Nat.le_of_ble_eq_true rfl, Nat.le_of_ble_eq_true rfl⟩ ⟨Nat.le_refl _, Nat.le_refl _⟩ (Nat.le_of_ble_eq_true rfl) dL_isSo_544 (fun v mem H locs hp hR hS => ?_)
    obtain ⟨e9, hc9⟩ := hp
    subst e9
    have hJ := hJ.ob hc9
    have hM := hJ.2.2
    rw [sCount_in (by decide)]
    refine g_aload C hl dL_isSo_547 rfl ?_
    refine g_iconst 0 C dL_isSo_549 (by decide) ?_
    refine u_ald (116) C h8 hM hR (uJ_f rfl (by decide)) dL_isSo_550 ?_
    refine lv_icmp_ne (tgt := 644) C.1 C.2.1 dL_isSo_551 (by decide) (fun z9 => absurd rfl z9) (fun _ => ?_)
    refine g_aload_n C hl dL_isSo_554 rfl ?_
    refine g_iconst 3 C dL_isSo_555 (by decide) ?_
    refine g_callV C hl.1 hR hS rc_X8 md_X8_count ml_L_63 (c_X8_count l hI hJ.1 hJ.2.1) rfl rfl ⟨Nat.le_of_ble_eq_true rfl, Nat.le_of_ble_eq_true rfl⟩ ⟨Nat.le_refl _, Nat.le_refl _⟩ (Nat.le_of_ble_eq_true rfl) dL_isSo_556 (fun v mem H locs hp hR hS => ?_)
    obtain ⟨e9, hc9⟩ := hp
    subst e9
    have hJ := hJ.ob hc9
    have hM := hJ.2.2
    rw [sCount_in (by decide)]
    refine g_aload_n C hl dL_isSo_559 rfl ?_
    refine g_bipush 15 C dL_isSo_560 (by decide) ?_
    refine u_ald (115) C h8 hM hR (uJ_w rfl (by decide)) dL_isSo_562 ?_
    refine lv_icmp_ne (tgt := 644) C.1 C.2.1 dL_isSo_563 (by decide) (fun z9 => absurd rfl z9) (fun _ => ?_)
    refine g_aload_n C hl dL_isSo_566 rfl ?_
    refine g_iconst 4 C dL_isSo_567 (by decide) ?_
    refine g_callV C hl.1 hR hS rc_X8 md_X8_count ml_L_63 (c_X8_count l hI hJ.1 hJ.2.1) rfl rfl ⟨Nat.le_of_ble_eq_true rfl, Nat.le_of_ble_eq_true rfl⟩ ⟨Nat.le_refl _, Nat.le_refl _⟩ (Nat.le_of_ble_eq_true rfl) dL_isSo_568 (fun v mem H locs hp hR hS => ?_)
    obtain ⟨e9, hc9⟩ := hp
    subst e9
    have hJ := hJ.ob hc9
    have hM := hJ.2.2
    rw [sCount_in (by decide)]
    refine g_aload_n C hl dL_isSo_571 rfl ?_
    refine g_bipush 16 C dL_isSo_572 (by decide) ?_
    refine u_ald (178) C h8 hM hR (uJ_s rfl (by decide) (by decide)) dL_isSo_574 ?_
    refine lv_icmp_ne (tgt := 644) C.1 C.2.1 dL_isSo_575 (by decide) (fun z9 => absurd rfl z9) (fun _ => ?_)
    refine g_aload_n C hl dL_isSo_578 rfl ?_
    refine g_iconst 5 C dL_isSo_579 (by decide) ?_
    refine g_callV C hl.1 hR hS rc_X8 md_X8_count ml_L_63 (c_X8_count l hI hJ.1 hJ.2.1) rfl rfl ⟨Nat.le_of_ble_eq_true rfl, Nat.le_of_ble_eq_true rfl⟩ ⟨Nat.le_refl _, Nat.le_refl _⟩ (Nat.le_of_ble_eq_true rfl) dL_isSo_580 (fun v mem H locs hp hR hS => ?_)
    obtain ⟨e9, hc9⟩ := hp
    subst e9
    have hJ := hJ.ob hc9
    have hM := hJ.2.2
    rw [sCount_in (by decide)]
    refine g_aload_n C hl dL_isSo_583 rfl ?_
    refine g_bipush 17 C dL_isSo_584 (by decide) ?_
    refine u_ald (179) C h8 hM hR (uJ_s rfl (by decide) (by decide)) dL_isSo_586 ?_
    refine lv_icmp_ne (tgt := 644) C.1 C.2.1 dL_isSo_587 (by decide) (fun z9 => absurd rfl z9) (fun _ => ?_)
    refine g_aload_n C hl dL_isSo_590 rfl ?_
    refine g_bipush 6 C dL_isSo_591 (by decide) ?_
    refine g_callV C hl.1 hR hS rc_X8 md_X8_count ml_L_63 (c_X8_count l hI hJ.1 hJ.2.1) rfl rfl ⟨Nat.le_of_ble_eq_true rfl, Nat.le_of_ble_eq_true rfl⟩ ⟨Nat.le_refl _, Nat.le_refl _⟩ (Nat.le_of_ble_eq_true rfl) dL_isSo_593 (fun v mem H locs hp hR hS => ?_)
    obtain ⟨e9, hc9⟩ := hp
    subst e9
    have hJ := hJ.ob hc9
    have hM := hJ.2.2
    rw [sCount_in (by decide)]
    refine g_aload_n C hl dL_isSo_596 rfl ?_
    refine g_bipush 18 C dL_isSo_597 (by decide) ?_
    refine u_ald (180) C h8 hM hR (uJ_s rfl (by decide) (by decide)) dL_isSo_599 ?_
    refine lv_icmp_ne (tgt := 644) C.1 C.2.1 dL_isSo_600 (by decide) (fun z9 => absurd rfl z9) (fun _ => ?_)
    refine g_aload_n C hl dL_isSo_603 rfl ?_
    refine g_bipush 7 C dL_isSo_604 (by decide) ?_
    refine g_callV C hl.1 hR hS rc_X8 md_X8_count ml_L_63 (c_X8_count l hI hJ.1 hJ.2.1) rfl rfl ⟨Nat.le_of_ble_eq_true rfl, Nat.le_of_ble_eq_true rfl⟩ ⟨Nat.le_refl _, Nat.le_refl _⟩ (Nat.le_of_ble_eq_true rfl) dL_isSo_606 (fun v mem H locs hp hR hS => ?_)
    obtain ⟨e9, hc9⟩ := hp
    subst e9
    have hJ := hJ.ob hc9
    have hM := hJ.2.2
    rw [sCount_in (by decide)]
    refine g_aload_n C hl dL_isSo_609 rfl ?_
    refine g_bipush 19 C dL_isSo_610 (by decide) ?_
    refine u_ald (181) C h8 hM hR (uJ_s rfl (by decide) (by decide)) dL_isSo_612 ?_
    refine lv_icmp_ne (tgt := 644) C.1 C.2.1 dL_isSo_613 (by decide) (fun z9 => absurd rfl z9) (fun _ => ?_)
    refine g_aload_n C hl dL_isSo_616 rfl ?_
    refine g_bipush 8 C dL_isSo_617 (by decide) ?_
    refine g_callV C hl.1 hR hS rc_X8 md_X8_count ml_L_63 (c_X8_count l hI hJ.1 hJ.2.1) rfl rfl ⟨Nat.le_of_ble_eq_true rfl, Nat.le_of_ble_eq_true rfl⟩ ⟨Nat.le_refl _, Nat.le_refl _⟩ (Nat.le_of_ble_eq_true rfl) dL_isSo_619 (fun v mem H locs hp hR hS => ?_)
    obtain ⟨e9, hc9⟩ := hp
    subst e9
    have hJ := hJ.ob hc9
    have hM := hJ.2.2
    rw [sCount_in (by decide)]
    refine g_iload C hl dL_isSo_622 rfl ?_
    refine lv_icmp_ne (tgt := 644) C.1 C.2.1 dL_isSo_624 (by decide) (fun z9 => absurd rfl z9) (fun _ => ?_)
    refine g_aload_n C hl dL_isSo_627 rfl ?_
    refine g_bipush 9 C dL_isSo_628 (by decide) ?_
    refine g_callV C hl.1 hR hS rc_X8 md_X8_count ml_L_63 (c_X8_count l hI hJ.1 hJ.2.1) rfl rfl ⟨Nat.le_of_ble_eq_true rfl, Nat.le_of_ble_eq_true rfl⟩ ⟨Nat.le_refl _, Nat.le_refl _⟩ (Nat.le_of_ble_eq_true rfl) dL_isSo_630 (fun v mem H locs hp hR hS => ?_)
    obtain ⟨e9, hc9⟩ := hp
    subst e9
    have hJ := hJ.ob hc9
    have hM := hJ.2.2
    rw [sCount_in (by decide)]
    refine g_aload_n C hl dL_isSo_633 rfl ?_
    refine g_bipush 12 C dL_isSo_634 (by decide) ?_
    refine u_ald (112) C h8 hM hR (uJ_w rfl (by decide)) dL_isSo_636 ?_
    refine lv_icmp_ne (tgt := 644) C.1 C.2.1 dL_isSo_637 (by decide) (fun z9 => absurd rfl z9) (fun _ => ?_)
    refine g_iconst 1 C dL_isSo_640 (by decide) ?_
    refine g_goto (tgt := 645) C dL_isSo_641 (by decide) ?_
    refine g_zret C hR hS dL_isSo_645 rfl ?_
    exact ⟨rfl, hJ⟩
  have addr : ∀ (d a : Nat), a + d = 64 → ∀ (ls : Array Slot) (H : Heap) (locs : List Loc) (mem : gM), lR S mem → gL ls [some (.ref (gAd X 7 0)), some (.ref (gAd X 8 0)), some (.ref (gAd X 8 1)), some (.ref (gAd X 8 2)), some (.ref (gAd X 8 3)), some (.int (nI (gSum (fun b9 => aZ S (104 + b9)) 8))), some (.int (nI (a))), none, none, none, none] → gRep X mem H → va_S (gA X) s.heap H locs → W p l e { frames := 4, cells := 0, slots := 0, locals := 89 } s m args below meth c H locs 0 0 (MQ below (gQ X (fun v9 m9 => v9 = some (.int (nI 1)) ∧ lR S m9)) args s 0 0 (gA X)) (F0 m 357 ls []) := by
    intro d
    induction d with
    | zero =>
      intro a ha ls H locs mem hJ hl hR hS
      have hM := hJ.2.2
      have hz : zI (aZ S) := hJ.1.1.1
      have h116 := hz.2.2.2.2.2.2.2.1
      refine g_iload C hl dL_isSo_357 rfl ?_
      refine g_bipush 64 C dL_isSo_359 (by decide) ?_
      refine g_icmp_ge (tgt := 504) C dL_isSo_361 (by decide) (by omega) (by omega) (fun c361 => ?_) (fun z9 => absurd z9 (by omega))
      exact fin _ _ _ _ hJ (hl.forget 6) hR hS
    | succ d ih =>
      intro a ha
      have scan : ∀ (w : Nat), w ≤ 4 → ∀ (ls : Array Slot) (H : Heap) (locs : List Loc) (mem : gM), lR S mem → gL ls [some (.ref (gAd X 7 0)), some (.ref (gAd X 8 0)), some (.ref (gAd X 8 1)), some (.ref (gAd X 8 2)), some (.ref (gAd X 8 3)), some (.int (nI (gSum (fun b9 => aZ S (104 + b9)) 8))), some (.int (nI (a))), some (.int (zSame (aZ S) a (64 - 16 * w))), some (.int (wI w)), none, none] → gRep X mem H → va_S (gA X) s.heap H locs → W p l e { frames := 4, cells := 0, slots := 0, locals := 89 } s m args below meth c H locs 0 0 (MQ below (gQ X (fun v9 m9 => v9 = some (.int (nI 1)) ∧ lR S m9)) args s 0 0 (gA X)) (F0 m 371 ls []) := by
        intro w
        induction w with
        | zero =>
          intro hw ls H locs mem hJ hl hR hS
          have hM := hJ.2.2
          have hz : zI (aZ S) := hJ.1.1.1
          have h116 := hz.2.2.2.2.2.2.2.1
          refine g_iload C hl dL_isSo_371 rfl ?_
          refine lv_if_lt (tgt := 434) C.1 C.2.1 dL_isSo_373 (by decide) (fun _ => ?_) (fun z9 => absurd (show wI 0 < 0 from by decide) z9)
          refine g_aload_n C hl dL_isSo_434 rfl ?_
          refine g_iload C hl dL_isSo_435 rfl ?_
          refine g_iconst 0 C dL_isSo_437 (by decide) ?_
          refine g_callV C hl.1 hR hS rc_X8 md_X8_address ml_L_60 (c_X8_address l hI hJ.1 hJ.2.1) rfl rfl ⟨Nat.le_of_ble_eq_true rfl, Nat.le_of_ble_eq_true rfl⟩ ⟨Nat.le_refl _, Nat.le_refl _⟩ (Nat.le_of_ble_eq_true rfl) dL_isSo_438 (fun v mem H locs hp hR hS => ?_)
          obtain ⟨e9, hc9⟩ := hp
          subst e9
          have hJ := hJ.ob hc9
          have hM := hJ.2.2
          rw [sAddr_in (by omega) (by decide)]
          refine g_aload_n C hl dL_isSo_441 rfl ?_
          refine g_aload_n C hl dL_isSo_442 rfl ?_
          refine g_aload_n C hl dL_isSo_443 rfl ?_
          refine g_iload C hl dL_isSo_444 rfl ?_
          refine g_callSi C hl.1 hR hS md_L_at ml_L_15 (c_L_at l hI h8 hM hz (by omega)) rfl rfl ⟨Nat.le_of_ble_eq_true rfl, Nat.le_of_ble_eq_true rfl⟩ ⟨Nat.le_refl _, Nat.le_refl _⟩ (Nat.le_of_ble_eq_true rfl) dL_isSo_446 (fun H locs hR hS => ?_)
          refine lv_icmp_ne (tgt := 496) C.1 C.2.1 dL_isSo_449 (by decide) (fun z9 => absurd rfl z9) (fun _ => ?_)
          refine g_aload_n C hl dL_isSo_452 rfl ?_
          refine g_iload C hl dL_isSo_453 rfl ?_
          refine g_iconst 1 C dL_isSo_455 (by decide) ?_
          refine g_callV C hl.1 hR hS rc_X8 md_X8_address ml_L_60 (c_X8_address l hI hJ.1 hJ.2.1) rfl rfl ⟨Nat.le_of_ble_eq_true rfl, Nat.le_of_ble_eq_true rfl⟩ ⟨Nat.le_refl _, Nat.le_refl _⟩ (Nat.le_of_ble_eq_true rfl) dL_isSo_456 (fun v mem H locs hp hR hS => ?_)
          obtain ⟨e9, hc9⟩ := hp
          subst e9
          have hJ := hJ.ob hc9
          have hM := hJ.2.2
          rw [sAddr_in (by omega) (by decide)]
          refine g_aload_n C hl dL_isSo_459 rfl ?_
          refine g_iload C hl dL_isSo_460 rfl ?_
          refine g_bipush 16 C dL_isSo_462 (by decide) ?_
          refine g_idiv C dL_isSo_464 (by omega) (by decide) (by decide) ?_
          refine u_ald (100 + a / 16) C h8 hM hR (uJ_w rfl (by omega)) dL_isSo_465 ?_
          refine lv_icmp_ne (tgt := 496) C.1 C.2.1 dL_isSo_466 (by decide) (fun z9 => absurd rfl z9) (fun _ => ?_)
          refine g_aload_n C hl dL_isSo_469 rfl ?_
          refine g_iload C hl dL_isSo_470 rfl ?_
          refine g_iconst 2 C dL_isSo_472 (by decide) ?_
          refine g_callV C hl.1 hR hS rc_X8 md_X8_address ml_L_60 (c_X8_address l hI hJ.1 hJ.2.1) rfl rfl ⟨Nat.le_of_ble_eq_true rfl, Nat.le_of_ble_eq_true rfl⟩ ⟨Nat.le_refl _, Nat.le_refl _⟩ (Nat.le_of_ble_eq_true rfl) dL_isSo_473 (fun v mem H locs hp hR hS => ?_)
          obtain ⟨e9, hc9⟩ := hp
          subst e9
          have hJ := hJ.ob hc9
          have hM := hJ.2.2
          rw [sAddr_in (by omega) (by decide)]
          refine g_iload C hl dL_isSo_476 rfl ?_
          refine g_bipush 16 C dL_isSo_478 (by decide) ?_
          refine g_irem C dL_isSo_480 (by omega) (by decide) (by decide) ?_
          refine lv_icmp_ne (tgt := 496) C.1 C.2.1 dL_isSo_481 (by decide) (fun z9 => absurd rfl z9) (fun _ => ?_)
          refine g_aload_n C hl dL_isSo_484 rfl ?_
          refine g_iload C hl dL_isSo_485 rfl ?_
          refine g_iconst 3 C dL_isSo_487 (by decide) ?_
          refine g_callV C hl.1 hR hS rc_X8 md_X8_address ml_L_60 (c_X8_address l hI hJ.1 hJ.2.1) rfl rfl ⟨Nat.le_of_ble_eq_true rfl, Nat.le_of_ble_eq_true rfl⟩ ⟨Nat.le_refl _, Nat.le_refl _⟩ (Nat.le_of_ble_eq_true rfl) dL_isSo_488 (fun v mem H locs hp hR hS => ?_)
          obtain ⟨e9, hc9⟩ := hp
          subst e9
          have hJ := hJ.ob hc9
          have hM := hJ.2.2
          rw [sAddr_in (by omega) (by decide)]
          refine g_iload C hl dL_isSo_491 rfl ?_
          refine lv_icmp_eq (tgt := 498) C.1 C.2.1 dL_isSo_493 (by decide) (fun _ => ?_) (fun z9 => absurd rfl z9)
          refine g_iinc (k := 1) C hl dL_isSo_498 rfl (by decide) (fun ls hl => ?_)
          refine g_goto (tgt := 357) C dL_isSo_501 (by decide) ?_
          exact ih (a + 1) (by omega) _ _ _ _ hJ ((hl.forget 7).forget 8) hR hS
        | succ w ihw =>
          intro hw ls H locs mem hJ hl hR hS
          have hM := hJ.2.2
          have hz : zI (aZ S) := hJ.1.1.1
          have h116 := hz.2.2.2.2.2.2.2.1
          have hl : gL ls [some (.ref (gAd X 7 0)), some (.ref (gAd X 8 0)), some (.ref (gAd X 8 1)), some (.ref (gAd X 8 2)), some (.ref (gAd X 8 3)), some (.int (nI (gSum (fun b9 => aZ S (104 + b9)) 8))), some (.int (nI (a))), some (.int (zSame (aZ S) a (64 - 16 * (w + 1)))), some (.int (nI (w))), none, none] := hl
          refine g_iload C hl dL_isSo_371 rfl ?_
          refine g_if_lt (tgt := 434) C dL_isSo_373 (by decide) (by omega) ?_
          refine g_iload C hl dL_isSo_376 rfl ?_
          refine g_iload C hl dL_isSo_378 rfl ?_
          refine g_bipush 16 C dL_isSo_380 (by decide) ?_
          refine g_idiv C dL_isSo_382 (by omega) (by decide) (by decide) ?_
          refine g_icmp_eq (tgt := 424) C dL_isSo_383 (by decide) (by omega) (by omega) (fun c383 => ?_) (fun c383 => ?_)
          · -- 383 T
            refine g_iload C hl dL_isSo_424 rfl ?_
            refine g_istore C hl dL_isSo_426 (Nat.le_of_ble_eq_true rfl) (fun ls hl => ?_)
            refine g_iincV (v := wI w) C hl dL_isSo_428 rfl (wI_dec w) (fun ls hl => ?_)
            have e9 : zSame (aZ S) a (64 - 16 * (w + 1)) = zSame (aZ S) a (64 - 16 * w) := (zSame_no hz (by omega) (by omega) (by unfold zBk; rw [show (w * 16 + a % 16) / 16 = w by omega]; omega)).symm
            rw [e9] at hl
            refine g_goto (tgt := 371) C dL_isSo_431 (by decide) ?_
            exact ihw (by omega) _ _ _ _ hJ hl hR hS
          · -- 383 F
            refine g_aload_n C hl dL_isSo_386 rfl ?_
            refine g_iload C hl dL_isSo_387 rfl ?_
            refine u_ald (100 + w) C h8 hM hR (uJ_w rfl (by omega)) dL_isSo_389 ?_
            refine g_aload_n C hl dL_isSo_390 rfl ?_
            refine g_iload C hl dL_isSo_391 rfl ?_
            refine g_bipush 16 C dL_isSo_393 (by decide) ?_
            refine g_idiv C dL_isSo_395 (by omega) (by decide) (by decide) ?_
            refine u_ald (100 + a / 16) C h8 hM hR (uJ_w rfl (by omega)) dL_isSo_396 ?_
            refine g_icmp_eq (tgt := 410) C dL_isSo_397 (by decide) (by have := hz.2.1 (a / 16) (by omega); have := hz.2.1 w (by omega); omega) (by have := hz.2.1 (a / 16) (by omega); have := hz.2.1 w (by omega); omega) (fun c397 => ?_) (fun c397 => ?_)
            · -- 397 T
              refine g_bipush 16 C dL_isSo_410 (by decide) ?_
              refine g_iload C hl dL_isSo_412 rfl ?_
              refine g_imul C dL_isSo_414 ?_
              refine g_iload C hl dL_isSo_415 rfl ?_
              refine g_bipush 16 C dL_isSo_417 (by decide) ?_
              refine g_irem C dL_isSo_419 (by omega) (by decide) (by decide) ?_
              refine g_iadd C dL_isSo_420 ?_
              refine g_goto (tgt := 426) C dL_isSo_421 (by decide) ?_
              refine g_istore C hl dL_isSo_426 (Nat.le_of_ble_eq_true rfl) (fun ls hl => ?_)
              refine g_iincV (v := wI w) C hl dL_isSo_428 rfl (wI_dec w) (fun ls hl => ?_)
              have e9 : nI (16 * w + a % 16) = zSame (aZ S) a (64 - 16 * w) := by
                rw [show 16 * w + a % 16 = w * 16 + a % 16 by omega]
                exact (zSame_yes hz (by omega) (by omega) (by omega) (by unfold zBk; rw [show (w * 16 + a % 16) / 16 = w by omega]; omega)).symm
              rw [e9] at hl
              refine g_goto (tgt := 371) C dL_isSo_431 (by decide) ?_
              exact ihw (by omega) _ _ _ _ hJ hl hR hS
            · -- 397 F
              refine g_iload C hl dL_isSo_400 rfl ?_
              refine g_bipush 16 C dL_isSo_402 (by decide) ?_
              refine g_irem C dL_isSo_404 (by omega) (by decide) (by decide) ?_
              refine g_bipush 11 C dL_isSo_405 (by decide) ?_
              refine g_icmp_le (tgt := 424) C dL_isSo_407 (by decide) (by omega) (by omega) (fun c407 => ?_) (fun c407 => ?_)
              · -- 407 T
                refine g_iload C hl dL_isSo_424 rfl ?_
                refine g_istore C hl dL_isSo_426 (Nat.le_of_ble_eq_true rfl) (fun ls hl => ?_)
                refine g_iincV (v := wI w) C hl dL_isSo_428 rfl (wI_dec w) (fun ls hl => ?_)
                have e9 : zSame (aZ S) a (64 - 16 * (w + 1)) = zSame (aZ S) a (64 - 16 * w) := (zSame_no hz (by omega) (by omega) (by unfold zBk; rw [show (w * 16 + a % 16) / 16 = w by omega]; omega)).symm
                rw [e9] at hl
                refine g_goto (tgt := 371) C dL_isSo_431 (by decide) ?_
                exact ihw (by omega) _ _ _ _ hJ hl hR hS
              · -- 407 F
                refine g_bipush 16 C dL_isSo_410 (by decide) ?_
                refine g_iload C hl dL_isSo_412 rfl ?_
                refine g_imul C dL_isSo_414 ?_
                refine g_iload C hl dL_isSo_415 rfl ?_
                refine g_bipush 16 C dL_isSo_417 (by decide) ?_
                refine g_irem C dL_isSo_419 (by omega) (by decide) (by decide) ?_
                refine g_iadd C dL_isSo_420 ?_
                refine g_goto (tgt := 426) C dL_isSo_421 (by decide) ?_
                refine g_istore C hl dL_isSo_426 (Nat.le_of_ble_eq_true rfl) (fun ls hl => ?_)
                refine g_iincV (v := wI w) C hl dL_isSo_428 rfl (wI_dec w) (fun ls hl => ?_)
                have e9 : nI (16 * w + a % 16) = zSame (aZ S) a (64 - 16 * w) := by
                  rw [show 16 * w + a % 16 = w * 16 + a % 16 by omega]
                  exact (zSame_yes hz (by omega) (by omega) (by omega) (by unfold zBk; rw [show (w * 16 + a % 16) / 16 = w by omega]; omega)).symm
                rw [e9] at hl
                refine g_goto (tgt := 371) C dL_isSo_431 (by decide) ?_
                exact ihw (by omega) _ _ _ _ hJ hl hR hS
      intro ls H locs mem hJ hl hR hS
      have hM := hJ.2.2
      have hz : zI (aZ S) := hJ.1.1.1
      have h116 := hz.2.2.2.2.2.2.2.1
      refine g_iload C hl dL_isSo_357 rfl ?_
      refine g_bipush 64 C dL_isSo_359 (by decide) ?_
      refine g_icmp_ge (tgt := 504) C dL_isSo_361 (by decide) (by omega) (by omega) (fun z9 => absurd z9 (by omega)) (fun c361 => ?_)
      refine g_bipushM (-5) C dL_isSo_364 (by decide) ?_
      refine g_istore C hl dL_isSo_366 (Nat.le_of_ble_eq_true rfl) (fun ls hl => ?_)
      refine g_iconst 3 C dL_isSo_368 (by decide) ?_
      refine g_istore C hl dL_isSo_369 (Nat.le_of_ble_eq_true rfl) (fun ls hl => ?_)
      exact scan 4 (by decide) _ _ _ _ hJ hl hR hS
  have frm : ∀ (d i : Nat), i + d = 3 * aZ S 116 → ∀ (ls : Array Slot) (H : Heap) (locs : List Loc) (mem : gM), lR S mem → gL ls [some (.ref (gAd X 7 0)), some (.ref (gAd X 8 0)), some (.ref (gAd X 8 1)), some (.ref (gAd X 8 2)), some (.ref (gAd X 8 3)), some (.int (nI (gSum (fun b9 => aZ S (104 + b9)) 8))), some (.int (nI (i))), none, none, none, none] → gRep X mem H → va_S (gA X) s.heap H locs → W p l e { frames := 4, cells := 0, slots := 0, locals := 89 } s m args below meth c H locs 0 0 (MQ below (gQ X (fun v9 m9 => v9 = some (.int (nI 1)) ∧ lR S m9)) args s 0 0 (gA X)) (F0 m 306 ls []) := by
    intro d
    induction d with
    | zero =>
      intro i hi ls H locs mem hJ hl hR hS
      have hM := hJ.2.2
      have hz : zI (aZ S) := hJ.1.1.1
      have h116 := hz.2.2.2.2.2.2.2.1
      refine g_iload C hl dL_isSo_306 rfl ?_
      refine g_iconst 3 C dL_isSo_308 (by decide) ?_
      refine g_aload C hl dL_isSo_309 rfl ?_
      refine g_iconst 0 C dL_isSo_311 (by decide) ?_
      refine u_ald (116) C h8 hM hR (uJ_f rfl (by decide)) dL_isSo_312 ?_
      refine g_imul C dL_isSo_313 ?_
      refine g_icmp_ge (tgt := 354) C dL_isSo_314 (by decide) (by omega) (by omega) (fun c314 => ?_) (fun z9 => absurd z9 (by omega))
      refine g_iconst 0 C dL_isSo_354 (by decide) ?_
      refine g_istore C hl dL_isSo_355 (Nat.le_of_ble_eq_true rfl) (fun ls hl => ?_)
      exact addr 64 0 (by omega) _ _ _ _ hJ hl hR hS
    | succ d ih =>
      intro i hi ls H locs mem hJ hl hR hS
      have hM := hJ.2.2
      have hz : zI (aZ S) := hJ.1.1.1
      have h116 := hz.2.2.2.2.2.2.2.1
      refine g_iload C hl dL_isSo_306 rfl ?_
      refine g_iconst 3 C dL_isSo_308 (by decide) ?_
      refine g_aload C hl dL_isSo_309 rfl ?_
      refine g_iconst 0 C dL_isSo_311 (by decide) ?_
      refine u_ald (116) C h8 hM hR (uJ_f rfl (by decide)) dL_isSo_312 ?_
      refine g_imul C dL_isSo_313 ?_
      refine g_icmp_ge (tgt := 354) C dL_isSo_314 (by decide) (by omega) (by omega) (fun z9 => absurd z9 (by omega)) (fun c314 => ?_)
      refine g_aload_n C hl dL_isSo_317 rfl ?_
      refine g_aload C hl dL_isSo_318 rfl ?_
      refine g_iconst 0 C dL_isSo_320 (by decide) ?_
      refine u_ald (116) C h8 hM hR (uJ_f rfl (by decide)) dL_isSo_321 ?_
      refine g_iconst 1 C dL_isSo_322 (by decide) ?_
      refine g_isub C dL_isSo_323 (by omega) ?_
      refine g_iload C hl dL_isSo_324 rfl ?_
      refine g_iconst 3 C dL_isSo_326 (by decide) ?_
      refine g_idiv C dL_isSo_327 (by omega) (by decide) (by decide) ?_
      refine g_isub C dL_isSo_328 (by omega) ?_
      refine g_iload C hl dL_isSo_329 rfl ?_
      refine g_iconst 3 C dL_isSo_331 (by decide) ?_
      refine g_irem C dL_isSo_332 (by omega) (by decide) (by decide) ?_
      refine g_callV C hl.1 hR hS rc_X8 md_X8_frame ml_L_57 (c_X8_frame l hI hJ.1 hJ.2.1) rfl rfl ⟨Nat.le_of_ble_eq_true rfl, Nat.le_of_ble_eq_true rfl⟩ ⟨Nat.le_refl _, Nat.le_refl _⟩ (Nat.le_of_ble_eq_true rfl) dL_isSo_333 (fun v mem H locs hp hR hS => ?_)
      obtain ⟨e9, hc9⟩ := hp
      subst e9
      have hJ := hJ.ob hc9
      have hM := hJ.2.2
      rw [sFrame_in (by omega) (by omega)]
      refine g_aload C hl dL_isSo_336 rfl ?_
      refine g_iconst 1 C dL_isSo_338 (by decide) ?_
      refine g_iload C hl dL_isSo_339 rfl ?_
      refine g_iadd C dL_isSo_341 ?_
      refine u_ald (117 + i) C h8 hM hR (uJ_f (by omega) (by omega)) dL_isSo_342 ?_
      refine lv_icmp_eq (tgt := 348) C.1 C.2.1 dL_isSo_343 (by decide) (fun _ => ?_) (fun z9 => absurd rfl z9)
      refine g_iinc (k := 1) C hl dL_isSo_348 rfl (by decide) (fun ls hl => ?_)
      refine g_goto (tgt := 306) C dL_isSo_351 (by decide) ?_
      exact ih (i + 1) (by omega) _ _ _ _ hJ hl hR hS
  have win : ∀ (d i : Nat), i + d = 4 → ∀ (ls : Array Slot) (H : Heap) (locs : List Loc) (mem : gM), lR S mem → gL ls [some (.ref (gAd X 7 0)), some (.ref (gAd X 8 0)), some (.ref (gAd X 8 1)), some (.ref (gAd X 8 2)), some (.ref (gAd X 8 3)), some (.int (nI (gSum (fun b9 => aZ S (104 + b9)) 8))), some (.int (nI (i))), none, none, none, none] → gRep X mem H → va_S (gA X) s.heap H locs → W p l e { frames := 4, cells := 0, slots := 0, locals := 89 } s m args below meth c H locs 0 0 (MQ below (gQ X (fun v9 m9 => v9 = some (.int (nI 1)) ∧ lR S m9)) args s 0 0 (gA X)) (F0 m 276 ls []) := by
    intro d
    induction d with
    | zero =>
      intro i hi ls H locs mem hJ hl hR hS
      have hM := hJ.2.2
      have hz : zI (aZ S) := hJ.1.1.1
      have h116 := hz.2.2.2.2.2.2.2.1
      refine g_iload C hl dL_isSo_276 rfl ?_
      refine g_iconst 4 C dL_isSo_278 (by decide) ?_
      refine g_icmp_ge (tgt := 303) C dL_isSo_279 (by decide) (by omega) (by omega) (fun c279 => ?_) (fun z9 => absurd z9 (by omega))
      refine g_iconst 0 C dL_isSo_303 (by decide) ?_
      refine g_istore C hl dL_isSo_304 (Nat.le_of_ble_eq_true rfl) (fun ls hl => ?_)
      exact frm (3 * aZ S 116) 0 (by omega) _ _ _ _ hJ hl hR hS
    | succ d ih =>
      intro i hi ls H locs mem hJ hl hR hS
      have hM := hJ.2.2
      have hz : zI (aZ S) := hJ.1.1.1
      have h116 := hz.2.2.2.2.2.2.2.1
      refine g_iload C hl dL_isSo_276 rfl ?_
      refine g_iconst 4 C dL_isSo_278 (by decide) ?_
      refine g_icmp_ge (tgt := 303) C dL_isSo_279 (by decide) (by omega) (by omega) (fun z9 => absurd z9 (by omega)) (fun c279 => ?_)
      refine g_aload_n C hl dL_isSo_282 rfl ?_
      refine g_iload C hl dL_isSo_283 rfl ?_
      refine g_callV C hl.1 hR hS rc_X8 md_X8_window ml_L_54 (c_X8_window l hI hJ.1 hJ.2.1) rfl rfl ⟨Nat.le_of_ble_eq_true rfl, Nat.le_of_ble_eq_true rfl⟩ ⟨Nat.le_refl _, Nat.le_refl _⟩ (Nat.le_of_ble_eq_true rfl) dL_isSo_285 (fun v mem H locs hp hR hS => ?_)
      obtain ⟨e9, hc9⟩ := hp
      subst e9
      have hJ := hJ.ob hc9
      have hM := hJ.2.2
      rw [sWin_in (by omega)]
      refine g_aload_n C hl dL_isSo_288 rfl ?_
      refine g_iload C hl dL_isSo_289 rfl ?_
      refine u_ald (100 + i) C h8 hM hR (uJ_w rfl (by omega)) dL_isSo_291 ?_
      refine lv_icmp_eq (tgt := 297) C.1 C.2.1 dL_isSo_292 (by decide) (fun _ => ?_) (fun z9 => absurd rfl z9)
      refine g_iinc (k := 1) C hl dL_isSo_297 rfl (by decide) (fun ls hl => ?_)
      refine g_goto (tgt := 276) C dL_isSo_300 (by decide) ?_
      exact ih (i + 1) (by omega) _ _ _ _ hJ hl hR hS
  have bank : ∀ (d b : Nat), b + d = 8 → ∀ (ls : Array Slot) (H : Heap) (locs : List Loc) (mem : gM), lR S mem → gL ls [some (.ref (gAd X 7 0)), some (.ref (gAd X 8 0)), some (.ref (gAd X 8 1)), some (.ref (gAd X 8 2)), some (.ref (gAd X 8 3)), some (.int (nI (gSum (fun b9 => aZ S (104 + b9)) b))), some (.int (nI (b))), none, none, none, none] → gRep X mem H → va_S (gA X) s.heap H locs → W p l e { frames := 4, cells := 0, slots := 0, locals := 89 } s m args below meth c H locs 0 0 (MQ below (gQ X (fun v9 m9 => v9 = some (.int (nI 1)) ∧ lR S m9)) args s 0 0 (gA X)) (F0 m 6 ls []) := by
    intro d
    induction d with
    | zero =>
      intro b hb ls H locs mem hJ hl hR hS
      obtain rfl : b = 8 := by omega
      have hM := hJ.2.2
      have hz : zI (aZ S) := hJ.1.1.1
      have h116 := hz.2.2.2.2.2.2.2.1
      refine g_iload C hl dL_isSo_6 rfl ?_
      refine g_bipush 8 C dL_isSo_8 (by decide) ?_
      refine g_icmp_ge (tgt := 273) C dL_isSo_10 (by decide) (by omega) (by omega) (fun c10 => ?_) (fun z9 => absurd z9 (by omega))
      refine g_iconst 0 C dL_isSo_273 (by decide) ?_
      refine g_istore C hl dL_isSo_274 (Nat.le_of_ble_eq_true rfl) (fun ls hl => ?_)
      exact win 4 0 (by omega) _ _ _ _ hJ hl hR hS
    | succ d ih =>
      intro b hb
      have frames : ∀ (d i : Nat), i + d = aZ S 116 → ∀ (ls : Array Slot) (H : Heap) (locs : List Loc) (mem : gM), lR S mem → gL ls [some (.ref (gAd X 7 0)), some (.ref (gAd X 8 0)), some (.ref (gAd X 8 1)), some (.ref (gAd X 8 2)), some (.ref (gAd X 8 3)), some (.int (nI (gSum (fun b9 => aZ S (104 + b9)) b))), some (.int (nI (b))), some (.int (nI (zFil (aZ S) b 12))), some (.int (nI (zWin (aZ S) b 4))), some (.int (nI (zFrm (aZ S) b i))), some (.int (nI (i)))] → gRep X mem H → va_S (gA X) s.heap H locs → W p l e { frames := 4, cells := 0, slots := 0, locals := 89 } s m args below meth c H locs 0 0 (MQ below (gQ X (fun v9 m9 => v9 = some (.int (nI 1)) ∧ lR S m9)) args s 0 0 (gA X)) (F0 m 129 ls []) := by
        intro d
        induction d with
        | zero =>
          intro i hi ls H locs mem hJ hl hR hS
          have hM := hJ.2.2
          have hz : zI (aZ S) := hJ.1.1.1
          have h116 := hz.2.2.2.2.2.2.2.1
          obtain rfl : i = aZ S 116 := by omega
          refine g_iload C hl dL_isSo_129 rfl ?_
          refine g_aload C hl dL_isSo_131 rfl ?_
          refine g_iconst 0 C dL_isSo_133 (by decide) ?_
          refine u_ald (116) C h8 hM hR (uJ_f rfl (by decide)) dL_isSo_134 ?_
          refine g_icmp_ge (tgt := 168) C dL_isSo_135 (by decide) (by omega) (by omega) (fun c135 => ?_) (fun z9 => absurd z9 (by omega))
          refine g_iload C hl dL_isSo_168 rfl ?_
          refine g_aload_n C hl dL_isSo_170 rfl ?_
          refine g_iconst 4 C dL_isSo_171 (by decide) ?_
          refine g_iload C hl dL_isSo_172 rfl ?_
          refine g_iadd C dL_isSo_174 ?_
          refine u_ald (104 + b) C h8 hM hR (uJ_w (by omega) (by omega)) dL_isSo_175 ?_
          refine g_iadd C dL_isSo_176 ?_
          refine g_istore C hl dL_isSo_177 (Nat.le_of_ble_eq_true rfl) (fun ls hl => ?_)
          refine g_aload_n C hl dL_isSo_179 rfl ?_
          refine g_iload C hl dL_isSo_180 rfl ?_
          refine g_iconst 0 C dL_isSo_182 (by decide) ?_
          refine g_callV C hl.1 hR hS rc_X8 md_X8_bank ml_L_51 (c_X8_bank l hI hJ.1 hJ.2.1) rfl rfl ⟨Nat.le_of_ble_eq_true rfl, Nat.le_of_ble_eq_true rfl⟩ ⟨Nat.le_refl _, Nat.le_refl _⟩ (Nat.le_of_ble_eq_true rfl) dL_isSo_183 (fun v mem H locs hp hR hS => ?_)
          obtain ⟨e9, hc9⟩ := hp
          subst e9
          have hJ := hJ.ob hc9
          have hM := hJ.2.2
          rw [sBank_in (by omega) (by decide)]
          refine g_aload_n C hl dL_isSo_186 rfl ?_
          refine g_iconst 4 C dL_isSo_187 (by decide) ?_
          refine g_iload C hl dL_isSo_188 rfl ?_
          refine g_iadd C dL_isSo_190 ?_
          refine u_ald (104 + b) C h8 hM hR (uJ_w (by omega) (by omega)) dL_isSo_191 ?_
          refine lv_icmp_ne (tgt := 265) C.1 C.2.1 dL_isSo_192 (by decide) (fun z9 => absurd rfl z9) (fun _ => ?_)
          refine g_aload_n C hl dL_isSo_195 rfl ?_
          refine g_iload C hl dL_isSo_196 rfl ?_
          refine g_iconst 1 C dL_isSo_198 (by decide) ?_
          refine g_callV C hl.1 hR hS rc_X8 md_X8_bank ml_L_51 (c_X8_bank l hI hJ.1 hJ.2.1) rfl rfl ⟨Nat.le_of_ble_eq_true rfl, Nat.le_of_ble_eq_true rfl⟩ ⟨Nat.le_refl _, Nat.le_refl _⟩ (Nat.le_of_ble_eq_true rfl) dL_isSo_199 (fun v mem H locs hp hR hS => ?_)
          obtain ⟨e9, hc9⟩ := hp
          subst e9
          have hJ := hJ.ob hc9
          have hM := hJ.2.2
          rw [sBank_in (by omega) (by decide)]
          refine g_iload C hl dL_isSo_202 rfl ?_
          refine lv_icmp_ne (tgt := 265) C.1 C.2.1 dL_isSo_204 (by decide) (fun z9 => absurd rfl z9) (fun _ => ?_)
          refine g_aload_n C hl dL_isSo_207 rfl ?_
          refine g_iload C hl dL_isSo_208 rfl ?_
          refine g_iconst 2 C dL_isSo_210 (by decide) ?_
          refine g_callV C hl.1 hR hS rc_X8 md_X8_bank ml_L_51 (c_X8_bank l hI hJ.1 hJ.2.1) rfl rfl ⟨Nat.le_of_ble_eq_true rfl, Nat.le_of_ble_eq_true rfl⟩ ⟨Nat.le_refl _, Nat.le_refl _⟩ (Nat.le_of_ble_eq_true rfl) dL_isSo_211 (fun v mem H locs hp hR hS => ?_)
          obtain ⟨e9, hc9⟩ := hp
          subst e9
          have hJ := hJ.ob hc9
          have hM := hJ.2.2
          rw [sBank_in (by omega) (by decide)]
          refine g_iload C hl dL_isSo_214 rfl ?_
          refine lv_icmp_ne (tgt := 265) C.1 C.2.1 dL_isSo_216 (by decide) (fun z9 => absurd rfl z9) (fun _ => ?_)
          refine g_aload_n C hl dL_isSo_219 rfl ?_
          refine g_iload C hl dL_isSo_220 rfl ?_
          refine g_iconst 3 C dL_isSo_222 (by decide) ?_
          refine g_callV C hl.1 hR hS rc_X8 md_X8_bank ml_L_51 (c_X8_bank l hI hJ.1 hJ.2.1) rfl rfl ⟨Nat.le_of_ble_eq_true rfl, Nat.le_of_ble_eq_true rfl⟩ ⟨Nat.le_refl _, Nat.le_refl _⟩ (Nat.le_of_ble_eq_true rfl) dL_isSo_223 (fun v mem H locs hp hR hS => ?_)
          obtain ⟨e9, hc9⟩ := hp
          subst e9
          have hJ := hJ.ob hc9
          have hM := hJ.2.2
          rw [sBank_in (by omega) (by decide)]
          refine g_iload C hl dL_isSo_226 rfl ?_
          refine lv_icmp_ne (tgt := 265) C.1 C.2.1 dL_isSo_228 (by decide) (fun z9 => absurd rfl z9) (fun _ => ?_)
          refine g_aload_n C hl dL_isSo_231 rfl ?_
          refine g_iload C hl dL_isSo_232 rfl ?_
          refine g_iconst 4 C dL_isSo_234 (by decide) ?_
          refine g_callV C hl.1 hR hS rc_X8 md_X8_bank ml_L_51 (c_X8_bank l hI hJ.1 hJ.2.1) rfl rfl ⟨Nat.le_of_ble_eq_true rfl, Nat.le_of_ble_eq_true rfl⟩ ⟨Nat.le_refl _, Nat.le_refl _⟩ (Nat.le_of_ble_eq_true rfl) dL_isSo_235 (fun v mem H locs hp hR hS => ?_)
          obtain ⟨e9, hc9⟩ := hp
          subst e9
          have hJ := hJ.ob hc9
          have hM := hJ.2.2
          rw [sBank_in (by omega) (by decide)]
          refine g_aload_n C hl dL_isSo_238 rfl ?_
          refine g_bipush 20 C dL_isSo_239 (by decide) ?_
          refine g_iload C hl dL_isSo_241 rfl ?_
          refine g_iadd C dL_isSo_243 ?_
          refine u_ald (182 + b) C h8 hM hR (uJ_s (by omega) (by omega) (by omega)) dL_isSo_244 ?_
          refine lv_icmp_ne (tgt := 265) C.1 C.2.1 dL_isSo_245 (by decide) (fun z9 => absurd rfl z9) (fun _ => ?_)
          refine g_aload_n C hl dL_isSo_248 rfl ?_
          refine g_iload C hl dL_isSo_249 rfl ?_
          refine g_iconst 5 C dL_isSo_251 (by decide) ?_
          refine g_callV C hl.1 hR hS rc_X8 md_X8_bank ml_L_51 (c_X8_bank l hI hJ.1 hJ.2.1) rfl rfl ⟨Nat.le_of_ble_eq_true rfl, Nat.le_of_ble_eq_true rfl⟩ ⟨Nat.le_refl _, Nat.le_refl _⟩ (Nat.le_of_ble_eq_true rfl) dL_isSo_252 (fun v mem H locs hp hR hS => ?_)
          obtain ⟨e9, hc9⟩ := hp
          subst e9
          have hJ := hJ.ob hc9
          have hM := hJ.2.2
          rw [sBank_in (by omega) (by decide)]
          refine g_aload_n C hl dL_isSo_255 rfl ?_
          refine g_bipush 28 C dL_isSo_256 (by decide) ?_
          refine g_iload C hl dL_isSo_258 rfl ?_
          refine g_iadd C dL_isSo_260 ?_
          refine u_ald (190 + b) C h8 hM hR (uJ_s (by omega) (by omega) (by omega)) dL_isSo_261 ?_
          refine lv_icmp_eq (tgt := 267) C.1 C.2.1 dL_isSo_262 (by decide) (fun _ => ?_) (fun z9 => absurd rfl z9)
          refine g_iinc (k := 1) C hl dL_isSo_267 rfl (by decide) (fun ls hl => ?_)
          refine g_goto (tgt := 6) C dL_isSo_270 (by decide) ?_
          exact ih (b + 1) (by omega) _ _ _ _ hJ ((((hl.forget 7).forget 8).forget 9).forget 10) hR hS
        | succ d ihi =>
          intro i hi ls H locs mem hJ hl hR hS
          have hM := hJ.2.2
          have hz : zI (aZ S) := hJ.1.1.1
          have h116 := hz.2.2.2.2.2.2.2.1
          refine g_iload C hl dL_isSo_129 rfl ?_
          refine g_aload C hl dL_isSo_131 rfl ?_
          refine g_iconst 0 C dL_isSo_133 (by decide) ?_
          refine u_ald (116) C h8 hM hR (uJ_f rfl (by decide)) dL_isSo_134 ?_
          refine g_icmp_ge (tgt := 168) C dL_isSo_135 (by decide) (by omega) (by omega) (fun z9 => absurd z9 (by omega)) (fun c135 => ?_)
          refine g_iload C hl dL_isSo_138 rfl ?_
          refine g_aload C hl dL_isSo_140 rfl ?_
          refine g_iconst 2 C dL_isSo_142 (by decide) ?_
          refine g_iconst 3 C dL_isSo_143 (by decide) ?_
          refine g_iload C hl dL_isSo_144 rfl ?_
          refine g_imul C dL_isSo_146 ?_
          refine g_iadd C dL_isSo_147 ?_
          refine u_ald (118 + 3 * i) C h8 hM hR (uJ_f (by omega) (by omega)) dL_isSo_148 ?_
          refine g_iload C hl dL_isSo_149 rfl ?_
          refine g_icmp_ne (tgt := 158) C dL_isSo_151 (by decide) (by have := (hz.2.2.2.2.2.2.2.2.1 i (by omega)).2.1; omega) (by have := (hz.2.2.2.2.2.2.2.2.1 i (by omega)).2.1; omega) (fun c151 => ?_) (fun c151 => ?_)
          · -- 151 T
            refine g_iconst 0 C dL_isSo_158 (by decide) ?_
            refine g_iadd C dL_isSo_159 ?_
            refine g_istore C hl dL_isSo_160 (Nat.le_of_ble_eq_true rfl) (fun ls hl => ?_)
            refine g_iinc (k := 1) C hl dL_isSo_162 rfl (by decide) (fun ls hl => ?_)
            rw [fr_b c151] at hl
            refine g_goto (tgt := 129) C dL_isSo_165 (by decide) ?_
            exact ihi (i + 1) (by omega) _ _ _ _ hJ hl hR hS
          · -- 151 F
            refine g_iconst 1 C dL_isSo_154 (by decide) ?_
            refine g_goto (tgt := 159) C dL_isSo_155 (by decide) ?_
            refine g_iadd C dL_isSo_159 ?_
            refine g_istore C hl dL_isSo_160 (Nat.le_of_ble_eq_true rfl) (fun ls hl => ?_)
            refine g_iinc (k := 1) C hl dL_isSo_162 rfl (by decide) (fun ls hl => ?_)
            rw [fr_a c151] at hl
            refine g_goto (tgt := 129) C dL_isSo_165 (by decide) ?_
            exact ihi (i + 1) (by omega) _ _ _ _ hJ hl hR hS
      have wins : ∀ (d i : Nat), i + d = 4 → ∀ (ls : Array Slot) (H : Heap) (locs : List Loc) (mem : gM), lR S mem → gL ls [some (.ref (gAd X 7 0)), some (.ref (gAd X 8 0)), some (.ref (gAd X 8 1)), some (.ref (gAd X 8 2)), some (.ref (gAd X 8 3)), some (.int (nI (gSum (fun b9 => aZ S (104 + b9)) b))), some (.int (nI (b))), some (.int (nI (zFil (aZ S) b 12))), some (.int (nI (zWin (aZ S) b i))), some (.int (nI (0))), some (.int (nI (i)))] → gRep X mem H → va_S (gA X) s.heap H locs → W p l e { frames := 4, cells := 0, slots := 0, locals := 89 } s m args below meth c H locs 0 0 (MQ below (gQ X (fun v9 m9 => v9 = some (.int (nI 1)) ∧ lR S m9)) args s 0 0 (gA X)) (F0 m 92 ls []) := by
        intro d
        induction d with
        | zero =>
          intro i hi ls H locs mem hJ hl hR hS
          have hM := hJ.2.2
          have hz : zI (aZ S) := hJ.1.1.1
          have h116 := hz.2.2.2.2.2.2.2.1
          refine g_iload C hl dL_isSo_92 rfl ?_
          refine g_iconst 4 C dL_isSo_94 (by decide) ?_
          refine g_icmp_ge (tgt := 126) C dL_isSo_95 (by decide) (by omega) (by omega) (fun c95 => ?_) (fun z9 => absurd z9 (by omega))
          refine g_iconst 0 C dL_isSo_126 (by decide) ?_
          refine g_istore C hl dL_isSo_127 (Nat.le_of_ble_eq_true rfl) (fun ls hl => ?_)
          obtain rfl : i = 4 := by omega
          exact frames (aZ S 116) 0 (by omega) _ _ _ _ hJ hl hR hS
        | succ d ihi =>
          intro i hi ls H locs mem hJ hl hR hS
          have hM := hJ.2.2
          have hz : zI (aZ S) := hJ.1.1.1
          have h116 := hz.2.2.2.2.2.2.2.1
          refine g_iload C hl dL_isSo_92 rfl ?_
          refine g_iconst 4 C dL_isSo_94 (by decide) ?_
          refine g_icmp_ge (tgt := 126) C dL_isSo_95 (by decide) (by omega) (by omega) (fun z9 => absurd z9 (by omega)) (fun c95 => ?_)
          refine g_iload C hl dL_isSo_98 rfl ?_
          refine g_aload_n C hl dL_isSo_100 rfl ?_
          refine g_iload C hl dL_isSo_101 rfl ?_
          refine u_ald (100 + i) C h8 hM hR (uJ_w rfl (by omega)) dL_isSo_103 ?_
          refine g_iload C hl dL_isSo_104 rfl ?_
          refine g_icmp_ne (tgt := 116) C dL_isSo_106 (by decide) (by have := hz.2.1 i (by omega); omega) (by have := hz.2.1 i (by omega); omega) (fun c106 => ?_) (fun c106 => ?_)
          · -- 106 T
            refine g_iconst 0 C dL_isSo_116 (by decide) ?_
            refine lv_ior C.1 C.2.1 dL_isSo_117 ?_
            rw [or_0]
            refine g_istore C hl dL_isSo_118 (Nat.le_of_ble_eq_true rfl) (fun ls hl => ?_)
            refine g_iinc (k := 1) C hl dL_isSo_120 rfl (by decide) (fun ls hl => ?_)
            rw [wn_b c106] at hl
            refine g_goto (tgt := 92) C dL_isSo_123 (by decide) ?_
            exact ihi (i + 1) (by omega) _ _ _ _ hJ hl hR hS
          · -- 106 F
            refine g_iconst 1 C dL_isSo_109 (by decide) ?_
            refine g_iload C hl dL_isSo_110 rfl ?_
            refine lv_ishl C.1 C.2.1 dL_isSo_112 ?_
            refine g_goto (tgt := 117) C dL_isSo_113 (by decide) ?_
            refine lv_ior C.1 C.2.1 dL_isSo_117 ?_
            rw [or_pow i (by omega) _ (zWin_lt i)]
            refine g_istore C hl dL_isSo_118 (Nat.le_of_ble_eq_true rfl) (fun ls hl => ?_)
            refine g_iinc (k := 1) C hl dL_isSo_120 rfl (by decide) (fun ls hl => ?_)
            rw [wn_a c106] at hl
            refine g_goto (tgt := 92) C dL_isSo_123 (by decide) ?_
            exact ihi (i + 1) (by omega) _ _ _ _ hJ hl hR hS
      have cells9 : ∀ (d i : Nat), i + d = 16 → ∀ (ls : Array Slot) (H : Heap) (locs : List Loc) (mem : gM), lR S mem → gL ls [some (.ref (gAd X 7 0)), some (.ref (gAd X 8 0)), some (.ref (gAd X 8 1)), some (.ref (gAd X 8 2)), some (.ref (gAd X 8 3)), some (.int (nI (gSum (fun b9 => aZ S (104 + b9)) b))), some (.int (nI (b))), some (.int (nI (zFil (aZ S) b (min i 12)))), some (.int (nI (0))), some (.int (nI (0))), some (.int (nI (i)))] → gRep X mem H → va_S (gA X) s.heap H locs → W p l e { frames := 4, cells := 0, slots := 0, locals := 89 } s m args below meth c H locs 0 0 (MQ below (gQ X (fun v9 m9 => v9 = some (.int (nI 1)) ∧ lR S m9)) args s 0 0 (gA X)) (F0 m 25 ls []) := by
        intro d
        induction d with
        | zero =>
          intro i hi ls H locs mem hJ hl hR hS
          have hM := hJ.2.2
          have hz : zI (aZ S) := hJ.1.1.1
          have h116 := hz.2.2.2.2.2.2.2.1
          refine g_iload C hl dL_isSo_25 rfl ?_
          refine g_bipush 16 C dL_isSo_27 (by decide) ?_
          refine g_icmp_ge (tgt := 89) C dL_isSo_29 (by decide) (by omega) (by omega) (fun c29 => ?_) (fun z9 => absurd z9 (by omega))
          refine g_iconst 0 C dL_isSo_89 (by decide) ?_
          refine g_istore C hl dL_isSo_90 (Nat.le_of_ble_eq_true rfl) (fun ls hl => ?_)
          obtain rfl : i = 16 := by omega
          exact wins 4 0 (by omega) _ _ _ _ hJ hl hR hS
        | succ d ihi =>
          intro i hi ls H locs mem hJ hl hR hS
          have hM := hJ.2.2
          have hz : zI (aZ S) := hJ.1.1.1
          have h116 := hz.2.2.2.2.2.2.2.1
          refine g_iload C hl dL_isSo_25 rfl ?_
          refine g_bipush 16 C dL_isSo_27 (by decide) ?_
          refine g_icmp_ge (tgt := 89) C dL_isSo_29 (by decide) (by omega) (by omega) (fun z9 => absurd z9 (by omega)) (fun c29 => ?_)
          refine g_aload_n C hl dL_isSo_32 rfl ?_
          refine g_iload C hl dL_isSo_33 rfl ?_
          refine g_iload C hl dL_isSo_35 rfl ?_
          refine g_callV C hl.1 hR hS rc_X8 md_X8_cell ml_L_49 (c_X8_cell l hI hJ.1 hJ.2.1) rfl rfl ⟨Nat.le_of_ble_eq_true rfl, Nat.le_of_ble_eq_true rfl⟩ ⟨Nat.le_refl _, Nat.le_refl _⟩ (Nat.le_of_ble_eq_true rfl) dL_isSo_37 (fun v mem H locs hp hR hS => ?_)
          obtain ⟨e9, hc9⟩ := hp
          subst e9
          have hJ := hJ.ob hc9
          have hM := hJ.2.2
          rw [sCell_in (by omega) (by omega)]
          refine g_aload_n C hl dL_isSo_40 rfl ?_
          refine g_aload_n C hl dL_isSo_41 rfl ?_
          refine g_iload C hl dL_isSo_42 rfl ?_
          refine g_iload C hl dL_isSo_44 rfl ?_
          refine g_callSi C hl.1 hR hS md_L_cell ml_L_9 (c_L_cell l hI h8 hM (by omega) (by omega)) rfl rfl ⟨Nat.le_of_ble_eq_true rfl, Nat.le_of_ble_eq_true rfl⟩ ⟨Nat.le_refl _, Nat.le_refl _⟩ (Nat.le_of_ble_eq_true rfl) dL_isSo_46 (fun H locs hR hS => ?_)
          refine lv_icmp_eq (tgt := 54) C.1 C.2.1 dL_isSo_49 (by decide) (fun _ => ?_) (fun z9 => absurd rfl z9)
          refine g_iload C hl dL_isSo_54 rfl ?_
          refine g_iload C hl dL_isSo_56 rfl ?_
          refine g_bipush 12 C dL_isSo_58 (by decide) ?_
          refine g_icmp_ge (tgt := 79) C dL_isSo_60 (by decide) (by omega) (by omega) (fun c60 => ?_) (fun c60 => ?_)
          · -- 60 T
            refine g_iconst 0 C dL_isSo_79 (by decide) ?_
            refine g_iadd C dL_isSo_80 ?_
            refine g_istore C hl dL_isSo_81 (Nat.le_of_ble_eq_true rfl) (fun ls hl => ?_)
            refine g_iinc (k := 1) C hl dL_isSo_83 rfl (by decide) (fun ls hl => ?_)
            rw [fl_a c60] at hl
            refine g_goto (tgt := 25) C dL_isSo_86 (by decide) ?_
            exact ihi (i + 1) (by omega) _ _ _ _ hJ hl hR hS
          · -- 60 F
            refine g_aload_n C hl dL_isSo_63 rfl ?_
            refine g_aload_n C hl dL_isSo_64 rfl ?_
            refine g_iload C hl dL_isSo_65 rfl ?_
            refine g_iload C hl dL_isSo_67 rfl ?_
            refine g_callSi C hl.1 hR hS md_L_cell ml_L_9 (c_L_cell l hI h8 hM (by omega) (by omega)) rfl rfl ⟨Nat.le_of_ble_eq_true rfl, Nat.le_of_ble_eq_true rfl⟩ ⟨Nat.le_refl _, Nat.le_refl _⟩ (Nat.le_of_ble_eq_true rfl) dL_isSo_69 (fun H locs hR hS => ?_)
            refine g_if_eq (tgt := 79) C dL_isSo_72 (by decide) (by have := hz.1 _ (zIx_lt (show b < 8 by omega) (show i < 16 by omega)); omega) (fun c72 => ?_) (fun c72 => ?_)
            · -- 72 T
              refine g_iconst 0 C dL_isSo_79 (by decide) ?_
              refine g_iadd C dL_isSo_80 ?_
              refine g_istore C hl dL_isSo_81 (Nat.le_of_ble_eq_true rfl) (fun ls hl => ?_)
              refine g_iinc (k := 1) C hl dL_isSo_83 rfl (by decide) (fun ls hl => ?_)
              rw [fl_b c60 c72] at hl
              refine g_goto (tgt := 25) C dL_isSo_86 (by decide) ?_
              exact ihi (i + 1) (by omega) _ _ _ _ hJ hl hR hS
            · -- 72 F
              refine g_iconst 1 C dL_isSo_75 (by decide) ?_
              refine g_goto (tgt := 80) C dL_isSo_76 (by decide) ?_
              refine g_iadd C dL_isSo_80 ?_
              refine g_istore C hl dL_isSo_81 (Nat.le_of_ble_eq_true rfl) (fun ls hl => ?_)
              refine g_iinc (k := 1) C hl dL_isSo_83 rfl (by decide) (fun ls hl => ?_)
              rw [fl_c c60 c72] at hl
              refine g_goto (tgt := 25) C dL_isSo_86 (by decide) ?_
              exact ihi (i + 1) (by omega) _ _ _ _ hJ hl hR hS
      intro ls H locs mem hJ hl hR hS
      have hM := hJ.2.2
      have hz : zI (aZ S) := hJ.1.1.1
      have h116 := hz.2.2.2.2.2.2.2.1
      refine g_iload C hl dL_isSo_6 rfl ?_
      refine g_bipush 8 C dL_isSo_8 (by decide) ?_
      refine g_icmp_ge (tgt := 273) C dL_isSo_10 (by decide) (by omega) (by omega) (fun z9 => absurd z9 (by omega)) (fun c10 => ?_)
      refine g_iconst 0 C dL_isSo_13 (by decide) ?_
      refine g_istore C hl dL_isSo_14 (Nat.le_of_ble_eq_true rfl) (fun ls hl => ?_)
      refine g_iconst 0 C dL_isSo_16 (by decide) ?_
      refine g_istore C hl dL_isSo_17 (Nat.le_of_ble_eq_true rfl) (fun ls hl => ?_)
      refine g_iconst 0 C dL_isSo_19 (by decide) ?_
      refine g_istore C hl dL_isSo_20 (Nat.le_of_ble_eq_true rfl) (fun ls hl => ?_)
      refine g_iconst 0 C dL_isSo_22 (by decide) ?_
      refine g_istore C hl dL_isSo_23 (Nat.le_of_ble_eq_true rfl) (fun ls hl => ?_)
      exact cells9 16 0 (by omega) _ _ _ _ hJ hl hR hS
  refine g_iconst 0 C dL_isSo_0 (by decide) ?_
  refine g_istore C hl dL_isSo_1 (Nat.le_of_ble_eq_true rfl) (fun ls hl => ?_)
  refine g_iconst 0 C dL_isSo_3 (by decide) ?_
  refine g_istore C hl dL_isSo_4 (Nat.le_of_ble_eq_true rfl) (fun ls hl => ?_)
  exact bank 8 0 (by omega) _ _ _ _ hJ hl hR hS
