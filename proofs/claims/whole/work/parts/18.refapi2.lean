/-! ===== the reference's calls, on ===== -/
theorem gMt.mono {l : Launch} {y : MethodName} {cc : ByteArray} {nL fr lo : Nat} {ret : Option FieldType} {X : gX} {av : List Value} {mem : gM} {post post' : Option Value → gM → Prop} (h : gMt l y cc nL ret fr lo X av mem post) (hp : ∀ v m, post v m → post' v m) : gMt l y cc nL ret fr lo X av mem post' := by
  intro p e ha hc hk s m args below hf happ hP hK
  obtain ⟨n, o, h1, h2, h3, h4, h5⟩ := h p e ha hc hk s m args below hf happ hP hK
  obtain ⟨⟨v, mem', q1, q2, q3⟩, q4⟩ := h4
  exact ⟨n, o, h1, h2, h3, ⟨⟨v, mem', q1, hp v mem' q2, q3⟩, q4⟩, h5⟩
theorem gSum_le {f : Nat → Nat} (h : ∀ i, f i ≤ 1) : ∀ n, gSum f n ≤ n
  | 0 => Nat.le_refl _
  | n + 1 => Nat.add_le_add (gSum_le h n) (h n)
theorem zUn_le {z : Nat → Nat} {a b : Nat} (n : Nat) : zUn z a b n ≤ n := gSum_le (fun i => by split <;> omega) n
theorem zCp_le {z : Nat → Nat} {a b : Nat} (hz : zI z) (ha : a < 8) (hb : b < 8) : ∀ n, n ≤ 12 → zI (zCp z a b n)
  | 0, _ => hz
  | n + 1, hn => by
    have h := zCp_le hz ha hb n (by omega)
    have h1 := h.1 _ (zIx_lt ha (show n < 16 by omega))
    have h2 := zIx_lt hb (show n < 16 by omega)
    exact h.upd9 (by omega) (by omega) (by omega) (by omega) (by omega) (by omega) (by omega) (by omega) (fun q hq => by omega) (by omega)
theorem g_iincI {p : Program} {l : Launch} {e : Env} {R : Room} {s : State} {m : MethodId} {args : Array Value} {below : List Frame} {meth : Method} {c : Code} {H : Heap} {locs : List Loc} {cells slots : Nat} {Q : State → Prop} {cc : ByteArray} {pc : Nat} {ls : Array Slot} {rest : List Value} {X : gX} {own : String} {ret : Option FieldType} {nL : Nat} {vs : List (Option Value)} {i : Nat} {n : Int} {x : Int32} (v : Int32) (C : gC X own cc ret nL p s m args meth c) (hl : gL ls vs) (hdg : decode cc pc = .ok (.iinc i n, 3)) (hi : vs[i]? = some (some (.int x))) (hv : x + Int32.ofInt n = v) (kk : ∀ ls' : Array Slot, gL ls' (vs.set i (some (.int v))) → W p l e R s m args below meth c H locs cells slots Q (F0 m (pc + 3) ls' rest)) : W p l e R s m args below meth c H locs cells slots Q (F0 m pc ls rest) := by
  have hlt := (List.getElem?_eq_some_iff.mp hi).1
  obtain ⟨q, hq⟩ := List.getElem?_of_mem (gLs_mem (q := (i, .int x)).mpr hi)
  exact lv_iinc (v := v) C.1 C.2.1 hdg hl.has hq hv hlt rfl (fun ls' h' => kk ls' (hl.set hlt rfl h'))
theorem zWin_lt {z : Nat → Nat} {b : Nat} : ∀ i, zWin z b i < 2 ^ i
  | 0 => Nat.lt_of_lt_of_eq (by decide : 0 < 1) rfl
  | i + 1 => by
    have h := zWin_lt (z := z) (b := b) i
    have e : zWin z b (i + 1) = zWin z b i + (if z (100 + i) = b then 2 ^ i else 0) := rfl
    rw [e, Nat.pow_succ]
    split <;> omega
theorem w_shl : ∀ i, i < 4 → nI 1 <<< (nI i &&& 31) = nI (2 ^ i) := by decide +kernel
theorem w_or0 : ∀ i, i < 4 → ∀ x, x < 16 → x < 2 ^ i → nI x ||| nI (2 ^ i) = nI (x + 2 ^ i) := by decide +kernel
theorem w_or {x i : Nat} (hi : i < 4) (h : x < 2 ^ i) : nI x ||| nI (2 ^ i) = nI (x + 2 ^ i) := by
  refine w_or0 i hi x ?_ h
  have h1 : 2 ^ i ≤ 2 ^ 3 := Nat.pow_le_pow_right (by decide) (by omega)
  omega
theorem w_orz0 : ∀ x, x < 16 → nI x ||| nI 0 = nI (x + 0) := by decide +kernel
theorem w_orz {x i : Nat} (hi : i < 4) (h : x < 2 ^ i) : nI x ||| nI 0 = nI (x + 0) := by
  refine w_orz0 x ?_
  have h1 : 2 ^ i ≤ 2 ^ 3 := Nat.pow_le_pow_right (by decide) (by omega)
  omega
set_option maxRecDepth 100000 in
set_option maxHeartbeats 4000000 in
/-- copyBank -/
theorem c_X9_copyBank (l : Launch) {X : gX} (hI : gInj X) {mem : gM} {f z a o k t r : Nat → Nat} {S : aS} {w b : Int32} (hJ : aI S) (hr : aRf S f z o k t) : gMt l yX9_copyBank cX9_copyBank 5 (some .int) 2 42 X [.ref (gAd X 8 0), .int w, .int b] (gM8 mem f z a o k t r) (fun v9 m9 => v9 = some (.int (aCopy S w b).1) ∧ aRm (aCopy S w b).2 mem m9) := by
  refine gMt.of (own := RX9) (by decide) rfl hI (by simp [Value.category]) (Nat.le_of_ble_eq_true rfl) ?_
  intro p e s m args below meth c ls H locs C hnm hl hR hS
  have hr0 := hr
  obtain ⟨r1, r2, r3, r4, r5, r6, r7, r8, r9, r10⟩ := hr
  subst r4
  have hz : zI (aZ S) := hJ.1.1
  have hg : zG (aZ S) := hJ.1.2.1
  have hB : aZ S 178 ≤ 999999 := hJ.1.2.2.1
  have h4 : f 3 ≤ 4 := by omega
  have h115 := hz.2.2.2.2.2.2.1
  have h116 := hz.2.2.2.2.2.2.2.1
  refine g_iload_n C hl dX9_copyBank_0 rfl ?_
  refine g_callSi C hl.1 hR hS md_X9_isBank ml_X9_51 (c_X9_isBank l hI) rfl rfl ⟨Nat.le_of_ble_eq_true rfl, Nat.le_of_ble_eq_true rfl⟩ ⟨Nat.le_refl _, Nat.le_refl _⟩ (Nat.le_of_ble_eq_true rfl) dX9_copyBank_1 (fun H locs hR hS => ?_)
  refine g_ifv_eq (tgt := 14) C dX9_copyBank_4 (by decide) (by decide) (fun c4 => ?_) (fun fr9 efr9 hfr91 hfr92 => ?_)
  · -- 4 T
    refine g_iconstM (-1) C dX9_copyBank_14 (by decide) ?_
    refine g_iret C hR hS dX9_copyBank_15 ?_
    rw [aCopy_1 c4]
    exact ⟨rfl, _, _, _, _, _, _, _, rfl, hr0⟩
  · -- 4 F
    subst efr9
    refine g_iload_n C hl dX9_copyBank_7 rfl ?_
    refine g_callSi C hl.1 hR hS md_X9_isBank ml_X9_51 (c_X9_isBank l hI) rfl rfl ⟨Nat.le_of_ble_eq_true rfl, Nat.le_of_ble_eq_true rfl⟩ ⟨Nat.le_refl _, Nat.le_refl _⟩ (Nat.le_of_ble_eq_true rfl) dX9_copyBank_8 (fun H locs hR hS => ?_)
    refine g_ifv_ne (tgt := 16) C dX9_copyBank_11 (by decide) (by decide) (fun to eto hto1 hto2 => ?_) (fun c11 => ?_)
    · -- 11 T
      subst eto
      have hfr := hfr92
      have hto := hto2
      have loop2 : ∀ (d i : Nat), i + d = 12 → ¬ zUn (aZ S) fr9 to 12 = 0 → ∀ (ls : Array Slot) (H : Heap) (locs : List Loc), gL ls [some (.ref (gAd X 8 0)), some (.int (nI fr9)), some (.int (nI to)), some (.int (nI (zUn (aZ S) fr9 to 12))), some (.int (nI i))] → gRep X (gM8 mem (fU f 3 (rN (f 3))) (zCp (aZ S) fr9 to i) a (oRec (f 3) o (aZ S)) k t r) H → va_S (gA X) s.heap H locs → W p l e { frames := 2, cells := 0, slots := 0, locals := 42 } s m args below meth c H locs 0 0 (MQ below (gQ X (fun v9 m9 => v9 = some (.int (aCopy S (nI fr9) (nI to)).1) ∧ aRm (aCopy S (nI fr9) (nI to)).2 mem m9)) args s 0 0 (gA X)) (F0 m 81 ls []) := by
        intro d
        induction d with
        | zero =>
          intro i hi c68 ls H locs  hl hR hS
          have hi2 : i = 12 := by omega
          subst hi2
          refine g_iload C hl dX9_copyBank_81 rfl ?_
          refine g_bipush 12 C dX9_copyBank_83 (by decide) ?_
          refine g_icmp_ge (tgt := 116) C dX9_copyBank_85 (by decide) (by omega) (by omega) (fun c85 => ?_) (fun z9 => absurd z9 (by omega))
          refine g_iload_n C hl dX9_copyBank_116 rfl ?_
          refine g_iret C hR hS dX9_copyBank_117 ?_
          rw [aCopy_4 hfr hto c68]
          exact ⟨rfl, _, _, _, _, _, _, _, rfl, aRf_z (aRf_rec hr0)⟩
        | succ d ih =>
          intro i hi c68 ls H locs  hl hR hS
          refine g_iload C hl dX9_copyBank_81 rfl ?_
          refine g_bipush 12 C dX9_copyBank_83 (by decide) ?_
          refine g_icmp_ge (tgt := 116) C dX9_copyBank_85 (by decide) (by omega) (by omega) (fun z9 => absurd z9 (by omega)) (fun c85 => ?_)
          refine g_aload_n C hl dX9_copyBank_88 rfl ?_
          refine gt_X9_0 C hR fl_X9_7 dX9_copyBank_89 ?_
          refine g_iload_n C hl dX9_copyBank_92 rfl ?_
          refine g_iload C hl dX9_copyBank_93 rfl ?_
          refine g_callSi C hl.1 hR hS md_X9_index ml_X9_36 (c_X9_index l hI (by omega) (by omega)) rfl rfl ⟨Nat.le_of_ble_eq_true rfl, Nat.le_of_ble_eq_true rfl⟩ ⟨Nat.le_refl _, Nat.le_refl _⟩ (Nat.le_of_ble_eq_true rfl) dX9_copyBank_95 (fun H locs hR hS => ?_)
          refine g_aload_n C hl dX9_copyBank_98 rfl ?_
          refine gt_X9_0 C hR fl_X9_7 dX9_copyBank_99 ?_
          refine g_iload_n C hl dX9_copyBank_102 rfl ?_
          refine g_iload C hl dX9_copyBank_103 rfl ?_
          refine g_callSi C hl.1 hR hS md_X9_index ml_X9_36 (c_X9_index l hI (by omega) (by omega)) rfl rfl ⟨Nat.le_of_ble_eq_true rfl, Nat.le_of_ble_eq_true rfl⟩ ⟨Nat.le_refl _, Nat.le_refl _⟩ (Nat.le_of_ble_eq_true rfl) dX9_copyBank_105 (fun H locs hR hS => ?_)
          refine r_ald1 C hR (by have := zIx_lt (b := fr9) (c := i) (by omega) (by omega); omega) dX9_copyBank_108 ?_
          refine r_ast1 C hR hS (by have := zIx_lt (b := to) (c := i) (by omega) (by omega); omega) dX9_copyBank_109 (fun H locs hR hS => ?_)
          refine g_iinc (k := 1) C hl dX9_copyBank_110 rfl (by decide) (fun ls hl => ?_)
          refine g_goto (tgt := 81) C dX9_copyBank_113 (by decide) ?_
          refine ih (i + 1) (by omega) c68 ls H locs hl ?_ hS
          exact hR
      have loop1 : ∀ (d i : Nat), i + d = 12 → ∀ (ls : Array Slot) (H : Heap) (locs : List Loc), gL ls [some (.ref (gAd X 8 0)), some (.int (nI fr9)), some (.int (nI to)), some (.int (nI (zUn (aZ S) fr9 to i))), some (.int (nI i))] → gRep X (gM8 mem f (aZ S) a o k t r) H → va_S (gA X) s.heap H locs → W p l e { frames := 2, cells := 0, slots := 0, locals := 42 } s m args below meth c H locs 0 0 (MQ below (gQ X (fun v9 m9 => v9 = some (.int (aCopy S (nI fr9) (nI to)).1) ∧ aRm (aCopy S (nI fr9) (nI to)).2 mem m9)) args s 0 0 (gA X)) (F0 m 21 ls []) := by
        intro d
        induction d with
        | zero =>
          intro i hi  ls H locs  hl hR hS
          have hi2 : i = 12 := by omega
          subst hi2
          refine g_iload C hl dX9_copyBank_21 rfl ?_
          refine g_bipush 12 C dX9_copyBank_23 (by decide) ?_
          refine g_icmp_ge (tgt := 67) C dX9_copyBank_25 (by decide) (by omega) (by omega) (fun c25 => ?_) (fun z9 => absurd z9 (by omega))
          refine g_iload_n C hl dX9_copyBank_67 rfl ?_
          refine g_if_ne (tgt := 74) C dX9_copyBank_68 (by decide) (by have := zUn_le (z := aZ S) (a := fr9) (b := to) 12; omega) (fun c68 => ?_) (fun c68 => ?_)
          · -- 68 T
            refine g_aload_n C hl dX9_copyBank_74 rfl ?_
            refine g_callVv C hl.1 hR hS rc_X9 md_X9_record ml_X9_48 (c_X9_record l hI h4) rfl rfl ⟨Nat.le_of_ble_eq_true rfl, Nat.le_of_ble_eq_true rfl⟩ ⟨Nat.le_refl _, Nat.le_refl _⟩ (Nat.le_of_ble_eq_true rfl) dX9_copyBank_75 (fun H locs hR hS => ?_)
            refine g_iconst 0 C dX9_copyBank_78 (by decide) ?_
            refine g_istore C hl dX9_copyBank_79 (Nat.le_of_ble_eq_true rfl) (fun ls hl => ?_)
            exact loop2 12 0 (by omega) c68 _ _ _ hl hR hS
          · -- 68 F
            refine g_bipushM (-5) C dX9_copyBank_71 (by decide) ?_
            refine g_iret C hR hS dX9_copyBank_73 ?_
            rw [aCopy_3 hfr hto c68]
            exact ⟨rfl, _, _, _, _, _, _, _, rfl, hr0⟩
        | succ d ih =>
          intro i hi  ls H locs  hl hR hS
          refine g_iload C hl dX9_copyBank_21 rfl ?_
          refine g_bipush 12 C dX9_copyBank_23 (by decide) ?_
          refine g_icmp_ge (tgt := 67) C dX9_copyBank_25 (by decide) (by omega) (by omega) (fun z9 => absurd z9 (by omega)) (fun c25 => ?_)
          refine g_iload_n C hl dX9_copyBank_28 rfl ?_
          refine g_aload_n C hl dX9_copyBank_29 rfl ?_
          refine gt_X9_0 C hR fl_X9_7 dX9_copyBank_30 ?_
          refine g_iload_n C hl dX9_copyBank_33 rfl ?_
          refine g_iload C hl dX9_copyBank_34 rfl ?_
          refine g_callSi C hl.1 hR hS md_X9_index ml_X9_36 (c_X9_index l hI (by omega) (by omega)) rfl rfl ⟨Nat.le_of_ble_eq_true rfl, Nat.le_of_ble_eq_true rfl⟩ ⟨Nat.le_refl _, Nat.le_refl _⟩ (Nat.le_of_ble_eq_true rfl) dX9_copyBank_36 (fun H locs hR hS => ?_)
          refine r_ald1 C hR (by have := zIx_lt (b := fr9) (c := i) (by omega) (by omega); omega) dX9_copyBank_39 ?_
          refine g_aload_n C hl dX9_copyBank_40 rfl ?_
          refine gt_X9_0 C hR fl_X9_7 dX9_copyBank_41 ?_
          refine g_iload_n C hl dX9_copyBank_44 rfl ?_
          refine g_iload C hl dX9_copyBank_45 rfl ?_
          refine g_callSi C hl.1 hR hS md_X9_index ml_X9_36 (c_X9_index l hI (by omega) (by omega)) rfl rfl ⟨Nat.le_of_ble_eq_true rfl, Nat.le_of_ble_eq_true rfl⟩ ⟨Nat.le_refl _, Nat.le_refl _⟩ (Nat.le_of_ble_eq_true rfl) dX9_copyBank_47 (fun H locs hR hS => ?_)
          refine r_ald1 C hR (by have := zIx_lt (b := to) (c := i) (by omega) (by omega); omega) dX9_copyBank_50 ?_
          refine g_icmp_eq (tgt := 58) C dX9_copyBank_51 (by decide) (by have := hz.1 (zIx fr9 i) (zIx_lt (by omega) (by omega)); omega) (by have := hz.1 (zIx to i) (zIx_lt (by omega) (by omega)); omega) (fun c51 => ?_) (fun c51 => ?_)
          · -- 51 T
            refine g_iconst 0 C dX9_copyBank_58 (by decide) ?_
            refine g_iadd C dX9_copyBank_59 ?_
            refine g_istore_n C hl dX9_copyBank_60 (Nat.le_of_ble_eq_true rfl) (fun ls hl => ?_)
            refine g_iinc (k := 1) C hl dX9_copyBank_61 rfl (by decide) (fun ls hl => ?_)
            refine g_goto (tgt := 21) C dX9_copyBank_64 (by decide) ?_
            have e9 : zUn (aZ S) fr9 to (i + 1) = zUn (aZ S) fr9 to i + (if aZ S (zIx fr9 i) = aZ S (zIx to i) then 0 else 1) := rfl
            first | rw [if_pos c51] at e9 | rw [if_neg c51] at e9
            rw [← e9] at hl
            refine ih (i + 1) (by omega)  ls H locs hl ?_ hS
            exact hR
          · -- 51 F
            refine g_iconst 1 C dX9_copyBank_54 (by decide) ?_
            refine g_goto (tgt := 59) C dX9_copyBank_55 (by decide) ?_
            refine g_iadd C dX9_copyBank_59 ?_
            refine g_istore_n C hl dX9_copyBank_60 (Nat.le_of_ble_eq_true rfl) (fun ls hl => ?_)
            refine g_iinc (k := 1) C hl dX9_copyBank_61 rfl (by decide) (fun ls hl => ?_)
            refine g_goto (tgt := 21) C dX9_copyBank_64 (by decide) ?_
            have e9 : zUn (aZ S) fr9 to (i + 1) = zUn (aZ S) fr9 to i + (if aZ S (zIx fr9 i) = aZ S (zIx to i) then 0 else 1) := rfl
            first | rw [if_pos c51] at e9 | rw [if_neg c51] at e9
            rw [← e9] at hl
            refine ih (i + 1) (by omega)  ls H locs hl ?_ hS
            exact hR
      refine g_iconst 0 C dX9_copyBank_16 (by decide) ?_
      refine g_istore_n C hl dX9_copyBank_17 (Nat.le_of_ble_eq_true rfl) (fun ls hl => ?_)
      refine g_iconst 0 C dX9_copyBank_18 (by decide) ?_
      refine g_istore C hl dX9_copyBank_19 (Nat.le_of_ble_eq_true rfl) (fun ls hl => ?_)
      exact loop1 12 0 (by omega) _ _ _ hl hR hS
    · -- 11 F
      refine g_iconstM (-1) C dX9_copyBank_14 (by decide) ?_
      refine g_iret C hR hS dX9_copyBank_15 ?_
      rw [aCopy_2 c11]
      exact ⟨rfl, _, _, _, _, _, _, _, rfl, hr0⟩
set_option maxRecDepth 100000 in
set_option maxHeartbeats 4000000 in
/-- type -/
theorem c_X9_type (l : Launch) {X : gX} (hI : gInj X) {mem : gM} {f z a o k t r : Nat → Nat} {S : aS} {ch : Nat} (hJ : aI S) (hr : aRf S f z o k t) : gMt l yX9_type cX9_type 2 (some .int) 0 0 X [.ref (gAd X 8 0), .int (nI ch)] (gM8 mem f z a o k t r) (fun v9 m9 => v9 = some (.int (aType S ch).1) ∧ aRm (aType S ch).2 mem m9) := by
  refine gMt.of (own := RX9) (by decide) rfl hI (by simp [Value.category]) (Nat.le_of_ble_eq_true rfl) ?_
  intro p e s m args below meth c ls H locs C hnm hl hR hS
  have hr0 := hr
  obtain ⟨r1, r2, r3, r4, r5, r6, r7, r8, r9, r10⟩ := hr
  subst r4
  have hz : zI (aZ S) := hJ.1.1
  have hg : zG (aZ S) := hJ.1.2.1
  have hB : aZ S 178 ≤ 999999 := hJ.1.2.2.1
  have h4 : f 3 ≤ 4 := by omega
  have h115 := hz.2.2.2.2.2.2.1
  have h116 := hz.2.2.2.2.2.2.2.1
  refine g_aload_n C hl dX9_type_0 rfl ?_
  refine rt_7 C hR fl_X9_105 dX9_type_1 ?_
  rw [r8]
  refine g_bipush 80 C dX9_type_4 (by decide) ?_
  refine g_icmp_ne (tgt := 12) C dX9_type_6 (by decide) (by omega) (by omega) (fun c6 => ?_) (fun c6 => ?_)
  · -- 6 T
    refine g_aload_n C hl dX9_type_12 rfl ?_
    refine gt_X9_6 C hR fl_X9_22 dX9_type_13 ?_
    refine g_aload_n C hl dX9_type_16 rfl ?_
    refine rt_7 C hR fl_X9_105 dX9_type_17 ?_
    rw [r8]
    refine g_iload_n C hl dX9_type_20 rfl ?_
    refine r_ast5 C hR hS (by omega) dX9_type_21 (fun H locs hR hS => ?_)
    refine g_aload_n C hl dX9_type_22 rfl ?_
    refine g_dup C dX9_type_23 rfl ?_
    refine rt_7 C hR fl_X9_105 dX9_type_24 ?_
    rw [r8]
    refine g_iconst 1 C dX9_type_27 (by decide) ?_
    refine g_iadd C dX9_type_28 ?_
    refine rp_7 C hR hS fl_X9_105 dX9_type_29 (fun H locs hR hS => ?_)
    refine g_aload_n C hl dX9_type_32 rfl ?_
    refine rt_7 C hR fl_X9_105 dX9_type_33 ?_
    rw [fU_s]
    refine g_iret C hR hS dX9_type_36 ?_
    unfold aType
    rw [if_neg c6]
    exact ⟨rfl, _, _, _, _, _, _, _, rfl, by show fU f 7 (aL S + 1) 3 = aN S; rw [fU_n _ _ (by omega)]; exact r1, r2, r3, rfl, by show fU f 7 (aL S + 1) 5 = aK S; rw [fU_n _ _ (by omega)]; exact r5, r6, r7, fU_s _ _ _, by show aL S + 1 ≤ 80; omega, by show fU t (aL S) ch = fU (aT S) (aL S) ch; rw [r10]⟩
  · -- 6 F
    refine g_bipushM (-3) C dX9_type_9 (by decide) ?_
    refine g_iret C hR hS dX9_type_11 ?_
    unfold aType
    rw [if_pos c6]
    exact ⟨rfl, _, _, _, _, _, _, _, rfl, hr0⟩
set_option maxRecDepth 100000 in
set_option maxHeartbeats 4000000 in
/-- clearText -/
theorem c_X9_clearText (l : Launch) {X : gX} (hI : gInj X) {mem : gM} {f z a o k t r : Nat → Nat} {S : aS}  (hJ : aI S) (hr : aRf S f z o k t) : gMt l yX9_clearText cX9_clearText 2 (some .int) 0 0 X [.ref (gAd X 8 0)] (gM8 mem f z a o k t r) (fun v9 m9 => v9 = some (.int (aClear S).1) ∧ aRm (aClear S).2 mem m9) := by
  refine gMt.of (own := RX9) (by decide) rfl hI (by simp [Value.category]) (Nat.le_of_ble_eq_true rfl) ?_
  intro p e s m args below meth c ls H locs C hnm hl hR hS
  have hr0 := hr
  obtain ⟨r1, r2, r3, r4, r5, r6, r7, r8, r9, r10⟩ := hr
  subst r4
  have hz : zI (aZ S) := hJ.1.1
  have hg : zG (aZ S) := hJ.1.2.1
  have hB : aZ S 178 ≤ 999999 := hJ.1.2.2.1
  have h4 : f 3 ≤ 4 := by omega
  have h115 := hz.2.2.2.2.2.2.1
  have h116 := hz.2.2.2.2.2.2.2.1
  refine g_aload_n C hl dX9_clearText_0 rfl ?_
  refine rt_7 C hR fl_X9_105 dX9_clearText_1 ?_
  rw [r8]
  refine g_istore_n C hl dX9_clearText_4 (Nat.le_of_ble_eq_true rfl) (fun ls hl => ?_)
  refine g_aload_n C hl dX9_clearText_5 rfl ?_
  refine g_iconst 0 C dX9_clearText_6 (by decide) ?_
  refine rp_7 C hR hS fl_X9_105 dX9_clearText_7 (fun H locs hR hS => ?_)
  refine g_iload_n C hl dX9_clearText_10 rfl ?_
  refine g_iret C hR hS dX9_clearText_11 ?_
  exact ⟨rfl, _, _, _, _, _, _, _, rfl, by show fU f 7 0 3 = aN S; rw [fU_n _ _ (by omega)]; exact r1, r2, r3, rfl, by show fU f 7 0 5 = aK S; rw [fU_n _ _ (by omega)]; exact r5, r6, r7, fU_s _ _ _, Nat.zero_le _, r10⟩
set_option maxRecDepth 100000 in
set_option maxHeartbeats 4000000 in
/-- undo -/
theorem c_X9_undo_2 (l : Launch) {X : gX} (hI : gInj X) {mem : gM} {f z a o k t r y : Nat → Nat} (h0 : 0 < f 3) (h4 : f 3 ≤ 4) (hy : ∀ j, j < 198 → o (198 * (f 3 - 1) + j) = y j) : gF l yX9_undo cX9_undo 2 (some .int) 0 0 X [.ref (gAd X 8 0)] (gM8 mem f z a o k t r) (some (.int (nI (f 3 - 1)))) (gM8 mem (fU f 3 (f 3 - 1)) y a o k t r) := by
  refine gMt.of (own := RX9) (by decide) rfl hI (by simp [Value.category]) (Nat.le_of_ble_eq_true rfl) ?_
  intro p e s m args below meth c ls H locs C hnm hl hR hS
  have loop : ∀ (d i : Nat), i + d = 198 → ∀ (ls : Array Slot) (H : Heap) (locs : List Loc), gL ls [some (.ref (gAd X 8 0)), some (.int (nI i))] → gRep X (gM8 mem (fU f 3 (f 3 - 1)) (cpF o z (198 * (f 3 - 1)) 0 i) a o k t r) H → va_S (gA X) s.heap H locs → W p l e { frames := 0, cells := 0, slots := 0, locals := 0 } s m args below meth c H locs 0 0 (MQ below (gQ X (fun v m => v = some (.int (nI (f 3 - 1))) ∧ m = gM8 mem (fU f 3 (f 3 - 1)) y a o k t r)) args s 0 0 (gA X)) (F0 m 22 ls []) := by
    intro d
    induction d with
    | zero =>
      intro i hi  ls H locs  hl hR hS
      have hi2 : i = 198 := by omega
      subst hi2
      refine g_iload_n C hl dX9_undo_22 rfl ?_
      refine g_sipush 198 C dX9_undo_23 (by decide) ?_
      refine g_icmp_ge (tgt := 56) C dX9_undo_26 (by decide) (by omega) (by omega) (fun c26 => ?_) (fun z9 => absurd z9 (by omega))
      have hR := r_arr1 (g := y) hR (fun j hj => by rw [cpF_in (by omega) (by omega), Nat.sub_zero]; exact hy j hj)
      refine g_aload_n C hl dX9_undo_56 rfl ?_
      refine rt_3 C hR fl_X9_40 dX9_undo_57 ?_
      rw [fU_s]
      refine g_iret C hR hS dX9_undo_60 ?_
      exact ⟨rfl, rfl⟩
    | succ d ih =>
      intro i hi  ls H locs  hl hR hS
      refine g_iload_n C hl dX9_undo_22 rfl ?_
      refine g_sipush 198 C dX9_undo_23 (by decide) ?_
      refine g_icmp_ge (tgt := 56) C dX9_undo_26 (by decide) (by omega) (by omega) (fun z9 => absurd z9 (by omega)) (fun c26 => ?_)
      refine g_aload_n C hl dX9_undo_29 rfl ?_
      refine gt_X9_0 C hR fl_X9_7 dX9_undo_30 ?_
      refine g_iload_n C hl dX9_undo_33 rfl ?_
      refine g_aload_n C hl dX9_undo_34 rfl ?_
      refine gt_X9_2 C hR fl_X9_16 dX9_undo_35 ?_
      refine g_sipush 198 C dX9_undo_38 (by decide) ?_
      refine g_aload_n C hl dX9_undo_41 rfl ?_
      refine rt_3 C hR fl_X9_40 dX9_undo_42 ?_
      rw [fU_s]
      refine g_imul C dX9_undo_45 ?_
      refine g_iload_n C hl dX9_undo_46 rfl ?_
      refine g_iadd C dX9_undo_47 ?_
      refine r_ald3 C hR (by omega) dX9_undo_48 ?_
      refine r_ast1 C hR hS (by omega) dX9_undo_49 (fun H locs hR hS => ?_)
      refine g_iinc (k := 1) C hl dX9_undo_50 rfl (by decide) (fun ls hl => ?_)
      refine g_goto (tgt := 22) C dX9_undo_53 (by decide) ?_
      refine ih (i + 1) (by omega)  ls H locs hl ?_ hS
      rw [← cpF_s, Nat.zero_add]
      exact hR
  refine g_aload_n C hl dX9_undo_0 rfl ?_
  refine rt_3 C hR fl_X9_40 dX9_undo_1 ?_
  refine g_if_ne (tgt := 10) C dX9_undo_4 (by decide) (by omega) (fun c4 => ?_) (fun z9 => absurd z9 (by omega))
  refine g_aload_n C hl dX9_undo_10 rfl ?_
  refine g_dup C dX9_undo_11 rfl ?_
  refine rt_3 C hR fl_X9_40 dX9_undo_12 ?_
  refine g_iconst 1 C dX9_undo_15 (by decide) ?_
  refine g_isub C dX9_undo_16 (by omega) ?_
  refine rp_3 C hR hS fl_X9_40 dX9_undo_17 (fun H locs hR hS => ?_)
  refine g_iconst 0 C dX9_undo_20 (by decide) ?_
  refine g_istore_n C hl dX9_undo_21 (Nat.le_of_ble_eq_true rfl) (fun ls hl => ?_)
  exact loop 198 0 (by omega) _ _ _ hl (by rw [cpF_0]; exact hR) hS
theorem a_X9_undo (l : Launch) {X : gX} (hI : gInj X) {mem : gM} {f z a o k t r : Nat → Nat} {S : aS} (hJ : aI S) (hr : aRf S f z o k t) : gMt l yX9_undo cX9_undo 2 (some .int) 0 0 X [.ref (gAd X 8 0)] (gM8 mem f z a o k t r) (fun v9 m9 => v9 = some (.int (aUndo S).1) ∧ aRm (aUndo S).2 mem m9) := by
  have hr0 := hr
  obtain ⟨r1, r2, r3, r4, r5, r6, r7, r8, r9, r10⟩ := hr
  subst r4
  have hz : zI (aZ S) := hJ.1.1
  have hg : zG (aZ S) := hJ.1.2.1
  have hB : aZ S 178 ≤ 999999 := hJ.1.2.2.1
  have h4 : f 3 ≤ 4 := by omega
  have h115 := hz.2.2.2.2.2.2.1
  have h116 := hz.2.2.2.2.2.2.2.1
  unfold aUndo
  by_cases c : aN S = 0
  · rw [if_pos c]
    refine (c_X9_undo_0 l hI (by omega)).mono ?_
    rintro v9 m9 ⟨rfl, rfl⟩
    exact ⟨rfl, _, _, _, _, _, _, _, rfl, hr0⟩
  · rw [if_neg c]
    refine (c_X9_undo_2 l hI (y := aH S (aN S - 1)) (by omega) h4 (fun j hj => by rw [r1]; exact r3 _ (by omega) j hj)).mono ?_
    rintro v9 m9 ⟨rfl, rfl⟩
    rw [r1]
    exact ⟨rfl, _, _, _, _, _, _, _, rfl, fU_s _ _ _, by show aN S - 1 ≤ 4; omega, fun i hi j hj => r3 i (by have : i < aN S - 1 := hi; omega) j hj, rfl, by show fU f 3 (aN S - 1) 5 = aK S; rw [fU_n _ _ (by omega)]; exact r5, r6, r7, by show fU f 3 (aN S - 1) 7 = aL S; rw [fU_n _ _ (by omega)]; exact r8, r9, r10⟩
theorem a_X9_keep (l : Launch) {X : gX} (hI : gInj X) {mem : gM} {f z a o k t r : Nat → Nat} {S : aS} (hJ : aI S) (hr : aRf S f z o k t) : gMt l yX9_keep cX9_keep 2 (some .int) 0 0 X [.ref (gAd X 8 0)] (gM8 mem f z a o k t r) (fun v9 m9 => v9 = some (.int (aKeep S).1) ∧ aRm (aKeep S).2 mem m9) := by
  have hr0 := hr
  obtain ⟨r1, r2, r3, r4, r5, r6, r7, r8, r9, r10⟩ := hr
  subst r4
  have hz : zI (aZ S) := hJ.1.1
  have hg : zG (aZ S) := hJ.1.2.1
  have hB : aZ S 178 ≤ 999999 := hJ.1.2.2.1
  have h4 : f 3 ≤ 4 := by omega
  have h115 := hz.2.2.2.2.2.2.1
  have h116 := hz.2.2.2.2.2.2.2.1
  refine (c_X9_keep l hI).mono ?_
  rintro v9 m9 ⟨rfl, rfl⟩
  exact ⟨rfl, _, _, _, _, _, _, _, rfl, by show fU f 5 1 3 = aN S; rw [fU_n _ _ (by omega)]; exact r1, r2, r3, rfl, fU_s _ _ _, by show 1 < 2; decide, fun _ => rfl, by show fU f 5 1 7 = aL S; rw [fU_n _ _ (by omega)]; exact r8, r9, r10⟩
theorem a_X9_restore (l : Launch) {X : gX} (hI : gInj X) {mem : gM} {f z a o k t r : Nat → Nat} {S : aS} (hJ : aI S) (hr : aRf S f z o k t) : gMt l yX9_restore cX9_restore 2 (some .int) 1 21 X [.ref (gAd X 8 0)] (gM8 mem f z a o k t r) (fun v9 m9 => v9 = some (.int (aRest S).1) ∧ aRm (aRest S).2 mem m9) := by
  have hr0 := hr
  obtain ⟨r1, r2, r3, r4, r5, r6, r7, r8, r9, r10⟩ := hr
  subst r4
  have hz : zI (aZ S) := hJ.1.1
  have hg : zG (aZ S) := hJ.1.2.1
  have hB : aZ S 178 ≤ 999999 := hJ.1.2.2.1
  have h4 : f 3 ≤ 4 := by omega
  have h115 := hz.2.2.2.2.2.2.1
  have h116 := hz.2.2.2.2.2.2.2.1
  unfold aRest
  by_cases c : aK S = 0
  · rw [if_pos c]
    refine (c_X9_restore_0 l hI (by omega)).mono ?_
    rintro v9 m9 ⟨rfl, rfl⟩
    exact ⟨rfl, _, _, _, _, _, _, _, rfl, hr0⟩
  · rw [if_neg c]
    have ek := r7 (by omega)
    refine (c_X9_restore_1 l hI (by omega) h4).mono ?_
    rintro v9 m9 ⟨rfl, rfl⟩
    rw [← ek]
    exact ⟨rfl, _, _, _, _, _, _, _, rfl, aRf_z (aRf_rec hr0)⟩
