/-! ===== Row ===== -/
def gSum (f : Nat → Nat) : Nat → Nat
  | 0 => 0
  | n + 1 => gSum f n + f n
theorem gRep_arr {X : gX} {mem : gM} {H : Heap} {k a n : Nat} {f f' : Nat → Nat} (h : gRep X (gP mem k a f) H) (hsh : ∀ g, gE X k a g = gAr X n g) (he : ∀ j, j < n → f j = f' j) : gRep X (gP mem k a f') H := gRep_congr h (fun k' o' hv D cl hat => by
  by_cases hko : k' = k ∧ o' = a
  · obtain ⟨rfl, rfl⟩ := hko
    rw [gP_s, hsh] at hat ⊢
    exact gAr_congr he hat
  · rw [gP_n _ _ hko] at hat ⊢
    exact hat)
section GR
variable {p : Program} {l : Launch} {e : Env} {R : Room} {s : State} {m : MethodId} {args : Array Value} {below : List Frame} {meth : Method} {c : Code} {H : Heap} {locs : List Loc} {cells slots : Nat} {Q : State → Prop}
variable {cc : ByteArray} {pc : Nat} {ls : Array Slot} {rest : List Value} {X : gX} {own : String} {ret : Option FieldType} {nL : Nat} {mem : gM}
theorem g_min {index n : Nat} (C : gC X own cc ret nL p s m args meth c) (hz : ls.size = nL) (hlink : Cond.methodLink own index Lib.Math.min.name ∈ wA) (hf : cells ≤ R.cells ∧ slots ≤ R.slots) (hfr : 1 ≤ R.frames) (hlo : (rest.map fun v => v.category).sum + 13 ≤ R.locals) (hdg : decode cc pc = .ok (.invokestatic index, 3)) (kk : W p l e R s m args below meth c H locs cells slots Q (F0 m (pc + 3) ls (.int (nI n) :: rest))) : W p l e R s m args below meth c H locs cells slots Q (F0 m pc ls (.int (nI n) :: .int (nI n) :: rest)) := by
  obtain ⟨hx, hb, -, hml, hown, hA, -, -, hE⟩ := C
  refine va_mmin hx hb (hml.trans hz.symm) hown (hA _ hlink) (hA _ st_min) (hA _ in_J9) (hA _ co_min) hfr hlo hf.1 hf.2 hdg ?_
  rw [ite_self]
  exact kk
theorem g_acopy {index n k a k2 a2 : Nat} (C : gC X own cc ret nL p s m args meth c) (hz : ls.size = nL) (hlink : Cond.methodLink own index arraycopyName ∈ wA) (hR : gRep X mem H) (hS : va_S (gA X) s.heap H locs) (hv : (k, a) ∈ gIds) (hv2 : (k2, a2) ∈ gIds) (hsh : ∀ g, gE X k a g = gAr X n g) (hsh2 : ∀ g, gE X k2 a2 g = gAr X n g) (hn : n < 2 ^ 31) (hfr : 1 ≤ R.frames) (hlo : (rest.map fun v => v.category).sum + (nativeFrameWords "java/lang/System" "arraycopy" 5 + 11) ≤ R.locals) (hdg : decode cc pc = .ok (.invokestatic index, 3)) (kk : ∀ (H1 : Heap) (locs1 : List Loc), gRep X (gP mem k a (mem k2 a2)) H1 → va_S (gA X) s.heap H1 locs1 → W p l e R s m args below meth c H1 locs1 cells slots Q (F0 m (pc + 3) ls rest)) : W p l e R s m args below meth c H locs cells slots Q (F0 m pc ls (.int (nI n) :: .int (nI 0) :: .ref (gAd X k a) :: .int (nI 0) :: .ref (gAd X k2 a2) :: rest)) := by
  obtain ⟨hx, hb, -, hml, hown, hA, -, hI, hE⟩ := C
  obtain ⟨q1, hq⟩ := List.getElem?_of_mem (gIx (X := X) hv)
  obtain ⟨q0, hq2⟩ := List.getElem?_of_mem (gIx (X := X) hv2)
  have he : (gWs X mem)[q1]? = some (gAd X k a, .inl (gCl X 0, n, .inl (fun j => nI (mem k a j)))) := by rw [gWs_at hq, hsh]; rfl
  have he2 : (gWs X mem)[q0]? = some (gAd X k2 a2, .inl (gCl X 0, n, .inl (fun j => nI (mem k2 a2 j)))) := by rw [gWs_at hq2, hsh2]; rfl
  refine va_copyi hx hb (hml.trans hz.symm) hown (hA _ hlink) (hA _ nt_acopy) (hA _ st_acopy) (hA _ in_J10) hE.1 hR (hI mem) hS q0 q1 0 0 he2 he rfl rfl rfl (nI_pos (by decide)) (nI_pos (by decide)) (nI_pos hn) (by rw [nI_clamp hn, nI_clamp (by decide)]; omega) (by rw [nI_clamp hn, nI_clamp (by decide)]; omega) (fun i _ => rfl) hfr hlo hdg (fun H1 locs1 hP hD hS1 => kk H1 locs1 ?_ hS1)
  rw [nI_clamp hn, nI_clamp (by decide)] at hP
  have e9 : (.inl (gCl X 0, n, .inl (va_cpy (fun j => nI (mem k2 a2 j)) (fun j => nI (mem k a j)) 0 0 n)) : va_E) = gE X k a (fun j => if j < n then mem k2 a2 j else mem k a j) := by
    rw [hsh]
    show _ = (.inl (gCl X 0, n, .inl (fun j => nI (if j < n then mem k2 a2 j else mem k a j))) : va_E)
    have e8 : va_cpy (fun j => nI (mem k2 a2 j)) (fun j => nI (mem k a j)) 0 0 n = fun j => nI (if j < n then mem k2 a2 j else mem k a j) := by
      funext j
      unfold va_cpy
      by_cases h : j < n
      · rw [if_pos ⟨Nat.zero_le _, by omega⟩, if_pos h, Nat.zero_add, Nat.sub_zero]
      · rw [if_neg (by omega), if_neg h]
    rw [e8]
  rw [e9, gWs_set hq] at hP
  exact gRep_arr hP hsh (fun j hj => if_pos hj)
end GR
set_option maxRecDepth 100000 in
set_option maxHeartbeats 4000000 in
/-- Row.read, in range -/
theorem c_X5_read (l : Launch) {X : gX} (hI : gInj X) {mem : gM} {k o a n i : Nat} (hw : gRow k o a n) (hi : i < n) : gF l yX5_read cX5_read 2 (some .int) 0 0 X [.ref (gAd X k o), .int (nI i)] mem (some (.int (nI (mem k a i)))) mem := by
  refine gMt.of (own := RX5) (by decide) rfl hI (by simp [Value.category]) (Nat.le_of_ble_eq_true rfl) ?_
  intro p e s m args below meth c ls H locs C hnm hl hR hS
  have hn := hw.2.2.1
  refine g_iload_n C hl dX5_read_0 rfl ?_
  refine g_if_lt (tgt := 22) C dX5_read_1 (by decide) (by omega) ?_
  refine g_iload_n C hl dX5_read_4 rfl ?_
  refine g_aload_n C hl dX5_read_5 rfl ?_
  refine gt_X5 C hw hR fl_X5_13 dX5_read_6 ?_
  refine g_alen_w C hw hR dX5_read_9 ?_
  refine g_icmp_ge (tgt := 22) C dX5_read_10 (by decide) (by omega) (by omega) (fun z9 => absurd z9 (by omega)) (fun c10 => ?_)
  refine g_aload_n C hl dX5_read_13 rfl ?_
  refine gt_X5 C hw hR fl_X5_13 dX5_read_14 ?_
  refine g_iload_n C hl dX5_read_17 rfl ?_
  refine g_iald_w C hw hR (by omega) dX5_read_18 ?_
  refine g_goto (tgt := 23) C dX5_read_19 (by decide) ?_
  refine g_iret C hR hS dX5_read_23 ?_
  exact ⟨rfl, rfl⟩
set_option maxRecDepth 100000 in
set_option maxHeartbeats 4000000 in
/-- Row.write, in range -/
theorem c_X5_write (l : Launch) {X : gX} (hI : gInj X) {mem : gM} {k o a n i x : Nat} (hw : gRow k o a n) (hi : i < n) : gF l yX5_write cX5_write 3 none 0 0 X [.ref (gAd X k o), .int (nI i), .int (nI x)] mem none (gP mem k a (fU (mem k a) i x)) := by
  refine gMt.of (own := RX5) (by decide) rfl hI (by simp [Value.category]) (Nat.le_of_ble_eq_true rfl) ?_
  intro p e s m args below meth c ls H locs C hnm hl hR hS
  have hn := hw.2.2.1
  refine g_iload_n C hl dX5_write_0 rfl ?_
  refine g_if_lt (tgt := 20) C dX5_write_1 (by decide) (by omega) ?_
  refine g_iload_n C hl dX5_write_4 rfl ?_
  refine g_aload_n C hl dX5_write_5 rfl ?_
  refine gt_X5 C hw hR fl_X5_13 dX5_write_6 ?_
  refine g_alen_w C hw hR dX5_write_9 ?_
  refine g_icmp_ge (tgt := 20) C dX5_write_10 (by decide) (by omega) (by omega) (fun z9 => absurd z9 (by omega)) (fun c10 => ?_)
  refine g_aload_n C hl dX5_write_13 rfl ?_
  refine gt_X5 C hw hR fl_X5_13 dX5_write_14 ?_
  refine g_iload_n C hl dX5_write_17 rfl ?_
  refine g_iload_n C hl dX5_write_18 rfl ?_
  refine g_iast_w C hw hR hS (by omega) dX5_write_19 (fun H locs hR hS => ?_)
  refine g_vret C hR hS dX5_write_20 ?_
  exact ⟨rfl, rfl⟩
set_option maxRecDepth 100000 in
set_option maxHeartbeats 4000000 in
/-- Row.write, beyond -/
theorem c_X5_write_out (l : Launch) {X : gX} (hI : gInj X) {mem : gM} {k o a n i x : Nat} (hw : gRow k o a n) (hi : n ≤ i) (hi2 : i < 2 ^ 31) : gF l yX5_write cX5_write 3 none 0 0 X [.ref (gAd X k o), .int (nI i), .int (nI x)] mem none mem := by
  refine gMt.of (own := RX5) (by decide) rfl hI (by simp [Value.category]) (Nat.le_of_ble_eq_true rfl) ?_
  intro p e s m args below meth c ls H locs C hnm hl hR hS
  have hn := hw.2.2.1
  refine g_iload_n C hl dX5_write_0 rfl ?_
  refine g_if_lt (tgt := 20) C dX5_write_1 (by decide) (by omega) ?_
  refine g_iload_n C hl dX5_write_4 rfl ?_
  refine g_aload_n C hl dX5_write_5 rfl ?_
  refine gt_X5 C hw hR fl_X5_13 dX5_write_6 ?_
  refine g_alen_w C hw hR dX5_write_9 ?_
  refine g_icmp_ge (tgt := 20) C dX5_write_10 (by decide) (by omega) (by omega) (fun c10 => ?_) (fun z9 => absurd z9 (by omega))
  refine g_vret C hR hS dX5_write_20 ?_
  exact ⟨rfl, rfl⟩
set_option maxRecDepth 100000 in
set_option maxHeartbeats 4000000 in
/-- Row.sum -/
theorem c_X5_sum (l : Launch) {X : gX} (hI : gInj X) {mem : gM} {k o a n : Nat} (hw : gRow k o a n) : gF l yX5_sum cX5_sum 6 (some .int) 0 0 X [.ref (gAd X k o)] mem (some (.int (nI (gSum (mem k a) n)))) mem := by
  refine gMt.of (own := RX5) (by decide) rfl hI (by simp [Value.category]) (Nat.le_of_ble_eq_true rfl) ?_
  intro p e s m args below meth c ls H locs C hnm hl hR hS
  have hn := hw.2.2.1
  have loop : ∀ (d i : Nat), i + d = n → ∀ (ls : Array Slot) (w : Option Value), gL ls [some (.ref (gAd X k o)), some (.int (nI (gSum (mem k a) i))), some (.ref (gAd X k a)), some (.int (nI n)), some (.int (nI i)), w] → W p l e { frames := 0, cells := 0, slots := 0, locals := 0 } s m args below meth c H locs 0 0 (MQ below (gQ X (fun v m => v = some (.int (nI (gSum (mem k a) n))) ∧ m = mem)) args s 0 0 (gA X)) (F0 m 13 ls []) := by
    intro d
    induction d with
    | zero =>
      intro i hi ls w hl
      have hi2 : i = n := by omega
      subst hi2
      refine g_iload C hl dX5_sum_13 rfl ?_
      refine g_iload_n C hl dX5_sum_15 rfl ?_
      refine g_icmp_ge (tgt := 36) C dX5_sum_16 (by decide) (by omega) (by omega) (fun c16 => ?_) (fun z9 => absurd z9 (by omega))
      refine g_iload_n C hl dX5_sum_36 rfl ?_
      refine g_iret C hR hS dX5_sum_37 ?_
      exact ⟨rfl, rfl⟩
    | succ d ih =>
      intro i hi ls w hl
      refine g_iload C hl dX5_sum_13 rfl ?_
      refine g_iload_n C hl dX5_sum_15 rfl ?_
      refine g_icmp_ge (tgt := 36) C dX5_sum_16 (by decide) (by omega) (by omega) (fun z9 => absurd z9 (by omega)) (fun c16 => ?_)
      refine g_aload_n C hl dX5_sum_19 rfl ?_
      refine g_iload C hl dX5_sum_20 rfl ?_
      refine g_iald_w C hw hR (by omega) dX5_sum_22 ?_
      refine g_istore C hl dX5_sum_23 (Nat.le_of_ble_eq_true rfl) (fun ls hl => ?_)
      refine g_iload_n C hl dX5_sum_25 rfl ?_
      refine g_iload C hl dX5_sum_26 rfl ?_
      refine g_iadd C dX5_sum_28 ?_
      refine g_istore_n C hl dX5_sum_29 (Nat.le_of_ble_eq_true rfl) (fun ls hl => ?_)
      refine g_iinc (k := 1) C hl dX5_sum_30 rfl (by decide) (fun ls hl => ?_)
      refine g_goto (tgt := 13) C dX5_sum_33 (by decide) ?_
      exact ih (i + 1) (by omega) _ _ hl
  refine g_iconst 0 C dX5_sum_0 (by decide) ?_
  refine g_istore_n C hl dX5_sum_1 (Nat.le_of_ble_eq_true rfl) (fun ls hl => ?_)
  refine g_aload_n C hl dX5_sum_2 rfl ?_
  refine gt_X5 C hw hR fl_X5_13 dX5_sum_3 ?_
  refine g_astore_n C hl dX5_sum_6 (Nat.le_of_ble_eq_true rfl) (fun ls hl => ?_)
  refine g_aload_n C hl dX5_sum_7 rfl ?_
  refine g_alen_w C hw hR dX5_sum_8 ?_
  refine g_istore_n C hl dX5_sum_9 (Nat.le_of_ble_eq_true rfl) (fun ls hl => ?_)
  refine g_iconst 0 C dX5_sum_10 (by decide) ?_
  refine g_istore C hl dX5_sum_11 (Nat.le_of_ble_eq_true rfl) (fun ls hl => ?_)
  exact loop n 0 (by omega) _ _ hl
set_option maxRecDepth 100000 in
set_option maxHeartbeats 4000000 in
/-- Row.copyFrom, of one length -/
theorem c_X5_copyFrom (l : Launch) {X : gX} (hI : gInj X) {mem : gM} {k o a n k2 o2 a2 : Nat} (hw : gRow k o a n) (hw2 : gRow k2 o2 a2 n) : gF l yX5_copyFrom cX5_copyFrom 2 none 1 48 X [.ref (gAd X k o), .ref (gAd X k2 o2)] mem none (gP mem k a (mem k2 a2)) := by
  refine gMt.of (own := RX5) (by decide) rfl hI (by simp [Value.category]) (Nat.le_of_ble_eq_true rfl) ?_
  intro p e s m args below meth c ls H locs C hnm hl hR hS
  refine g_aload_n C hl dX5_copyFrom_0 rfl ?_
  refine gt_X5 C hw2 hR fl_X5_13 dX5_copyFrom_1 ?_
  refine g_iconst 0 C dX5_copyFrom_4 (by decide) ?_
  refine g_aload_n C hl dX5_copyFrom_5 rfl ?_
  refine gt_X5 C hw hR fl_X5_13 dX5_copyFrom_6 ?_
  refine g_iconst 0 C dX5_copyFrom_9 (by decide) ?_
  refine g_aload_n C hl dX5_copyFrom_10 rfl ?_
  refine gt_X5 C hw hR fl_X5_13 dX5_copyFrom_11 ?_
  refine g_alen_w C hw hR dX5_copyFrom_14 ?_
  refine g_aload_n C hl dX5_copyFrom_15 rfl ?_
  refine gt_X5 C hw2 hR fl_X5_13 dX5_copyFrom_16 ?_
  refine g_alen_w C hw2 hR dX5_copyFrom_19 ?_
  refine g_min C hl.1 ml_X5_23 ⟨Nat.le_refl _, Nat.le_refl _⟩ (Nat.le_of_ble_eq_true rfl) (Nat.le_of_ble_eq_true rfl) dX5_copyFrom_20 ?_
  refine g_acopy C hl.1 ml_X5_26 hR hS hw.2.1 hw2.2.1 (hw.2.2.2.2 X) (hw2.2.2.2.2 X) hw.2.2.1 (Nat.le_of_ble_eq_true rfl) (Nat.le_of_ble_eq_true rfl) dX5_copyFrom_23 (fun H locs hR hS => ?_)
  refine g_vret C hR hS dX5_copyFrom_26 ?_
  exact ⟨rfl, rfl⟩
