/-! ===== the law: the other calls ===== -/
theorem aLock_in {S : aS} {b v : Nat} (hb : b < 8) : (aLock S (nI b) v).1 = (if aZ S (104 + b) = v then -5 else nI (gSum (fun q => fU (aZ S) (104 + b) v (104 + q)) 8)) ∧ aZ (aLock S (nI b) v).2 = fU (aZ S) (104 + b) v := by
  by_cases h : aZ S (104 + b) = v
  · rw [aLock_2 (by omega) h, if_pos h]
    exact ⟨rfl, (fU_same h).symm⟩
  · rw [aLock_3 (by omega) h, if_neg h]
    exact ⟨rfl, rfl⟩
theorem aShow_in {S : aS} {w b : Nat} (hw : w < 4) (hb : b < 8) : (aShow S (nI w) (nI b)).1 = (if aZ S (100 + w) = b then -5 else nI (aZ S (100 + w))) ∧ aZ (aShow S (nI w) (nI b)).2 = fU (aZ S) (100 + w) b := by
  by_cases h : aZ S (100 + w) = b
  · rw [aShow_3 (by omega) (by omega) h, if_pos h]
    exact ⟨rfl, (fU_same h).symm⟩
  · rw [aShow_4 (by omega) (by omega) h, if_neg h]
    exact ⟨rfl, rfl⟩
theorem aSet_in {S : aS} {v : Nat} (hv : v < 2) : (aSet S (nI v)).1 = (if aZ S 112 = v then -5 else nI (aZ S 112)) ∧ aZ (aSet S (nI v)).2 = fU (aZ S) 112 v := by
  by_cases h : aZ S 112 = v
  · rw [aSet_2 (by omega) h, if_pos h]
    exact ⟨rfl, (fU_same h).symm⟩
  · rw [aSet_3 (by omega) h, if_neg h]
    exact ⟨rfl, rfl⟩
theorem zIx_ne {a b i j : Nat} (hi : i < 12) (hj : j < 12) (h : ¬ i = j) : ¬ zIx a i = zIx b j := by
  unfold zIx
  rw [if_pos hi, if_pos hj]
  omega
theorem zCp_at {z : Nat → Nat} {fr to q : Nat} : ∀ n i, n ≤ i → i < 12 → zCp z fr to n (zIx q i) = z (zIx q i)
  | 0, _, _, _ => rfl
  | n + 1, i, h1, h2 => by
    show fU (zCp z fr to n) (zIx to n) (zCp z fr to n (zIx fr n)) (zIx q i) = z (zIx q i)
    rw [fU_n _ _ (zIx_ne h2 (by omega) (by omega))]
    exact zCp_at n i (by omega) h2
theorem zUn_0 {z : Nat → Nat} {fr to : Nat} : ∀ n, zUn z fr to n = 0 → ∀ i, i < n → z (zIx fr i) = z (zIx to i)
  | 0, _, _, h => absurd h (Nat.not_lt_zero _)
  | n + 1, h, i, hi => by
    have e : zUn z fr to (n + 1) = zUn z fr to n + (if z (zIx fr n) = z (zIx to n) then 0 else 1) := rfl
    rw [e] at h
    by_cases c : z (zIx fr n) = z (zIx to n)
    · rw [if_pos c] at h
      by_cases e2 : i = n
      · rw [e2]; exact c
      · exact zUn_0 n h i (by omega)
    · rw [if_neg c] at h
      omega
theorem zCp_id {z : Nat → Nat} {fr to : Nat} : ∀ n, n ≤ 12 → (∀ i, i < 12 → z (zIx fr i) = z (zIx to i)) → zCp z fr to n = z
  | 0, _, _ => rfl
  | n + 1, h, he => by
    show fU (zCp z fr to n) (zIx to n) (zCp z fr to n (zIx fr n)) = z
    rw [zCp_id n (by omega) he, he n (by omega), fU_self]
theorem zCp_178 {z : Nat → Nat} {fr to : Nat} (ht : to < 8) : ∀ n, n ≤ 12 → zCp z fr to n 178 = z 178
  | 0, _ => rfl
  | n + 1, h => by
    show fU (zCp z fr to n) (zIx to n) (zCp z fr to n (zIx fr n)) 178 = z 178
    rw [fU_n _ _ (by have := zIx_lt ht (show n < 16 by omega); omega)]
    exact zCp_178 ht n (by omega)
theorem aCopy_in {S : aS} {w b : Nat} (hw : w < 8) (hb : b < 8) : (aCopy S (nI w) (nI b)).1 = (if zUn (aZ S) w b 12 = 0 then -5 else nI (zUn (aZ S) w b 12)) ∧ aZ (aCopy S (nI w) (nI b)).2 = zCp (aZ S) w b 12 := by
  by_cases h : zUn (aZ S) w b 12 = 0
  · rw [aCopy_3 (by omega) (by omega) h, if_pos h]
    exact ⟨rfl, (zCp_id 12 (Nat.le_refl _) (zUn_0 12 h)).symm⟩
  · rw [aCopy_4 (by omega) (by omega) h, if_neg h]
    exact ⟨rfl, rfl⟩
theorem un_c {z : Nat → Nat} {fr to i : Nat} (hi : i < 12) (h : zCp z fr to i (zIx fr i) = zCp z fr to i (zIx to i)) : zUn z fr to i + 0 = zUn z fr to (i + 1) := by
  rw [zCp_at i i (Nat.le_refl _) hi, zCp_at i i (Nat.le_refl _) hi] at h
  show _ = zUn z fr to i + (if z (zIx fr i) = z (zIx to i) then 0 else 1)
  rw [if_pos h]
theorem un_d {z : Nat → Nat} {fr to i : Nat} (hi : i < 12) (h : ¬ zCp z fr to i (zIx fr i) = zCp z fr to i (zIx to i)) : zUn z fr to i + 1 = zUn z fr to (i + 1) := by
  rw [zCp_at i i (Nat.le_refl _) hi, zCp_at i i (Nat.le_refl _) hi] at h
  show _ = zUn z fr to i + (if z (zIx fr i) = z (zIx to i) then 0 else 1)
  rw [if_neg h]
theorem zBg_178 {z : Nat → Nat} {p9 : Nat} : zBg z p9 178 = z 178 := by
  unfold zBg
  rw [fU_n _ _ (by decide), fU_n _ _ (by decide), fU_n _ _ (by decide), fU_n _ _ (by decide)]
theorem zBg_114 {z : Nat → Nat} {p9 : Nat} : fU (fU (fU (fU z 114 p9) 113 0) 115 0) 116 0 114 = p9 := by
  rw [fU_n _ _ (by decide), fU_n _ _ (by decide), fU_n _ _ (by decide), fU_s]
set_option maxRecDepth 100000 in
set_option maxHeartbeats 4000000 in
/-- L_others -/
theorem c_L_others (l : Launch) {X : gX} (hI : gInj X) {mem : gM} (hk : uG X 8) {S : aS} (hJ : lR S mem) (hB : aZ S 178 + 60 ≤ 999999) {x y : Int32} : gMt l yL_others cL_others 13 (some .boolean) 7 158 X [.ref (gAd X 7 0), .int x, .int y, .ref (gAd X 8 0), .ref (gAd X 8 1), .ref (gAd X 8 2), .ref (gAd X 8 3)] mem (fun v9 m9 => v9 = some (.int (nI 1)) ∧ ∃ T, lR T m9 ∧ aZ T 178 ≤ aZ S 178 + 60) := by
  refine gMt.of (own := RL) (by decide) rfl hI (by simp [Value.category]) (Nat.le_of_ble_eq_true rfl) ?_
  intro p e s m args below meth c ls H locs C hnm hl hR hS
  have hM := hJ.2.2
  have hz : zI (aZ S) := hJ.1.1.1
  have hg : zG (aZ S) := hJ.1.1.2.1
  have h115 := hz.2.2.2.2.2.2.1
  have lk : ∀ (b v : Nat), b < 8 → v < 2 → ∀ (ls : Array Slot) (H : Heap) (locs : List Loc), gL ls [some (.ref (gAd X 7 0)), some (.int x), some (.int y), some (.ref (gAd X 8 0)), some (.ref (gAd X 8 1)), some (.ref (gAd X 8 2)), some (.ref (gAd X 8 3)), some (.int (nI (0))), some (.int (nI (b))), some (.int (nI (v))), none, none, none] → gRep X mem H → va_S (gA X) s.heap H locs → W p l e { frames := 7, cells := 0, slots := 0, locals := 158 } s m args below meth c H locs 0 0 (MQ below (gQ X (fun v9 m9 => v9 = some (.int (nI 1)) ∧ ∃ T, lR T m9 ∧ aZ T 178 ≤ aZ S 178 + 60)) args s 0 0 (gA X)) (F0 m 35 ls []) := by
    intro b v hb hv ls H locs hl hR hS
    have hF : uF 8 mem mem := uF.rf
    have hb2 := hz.2.2.1 b hb
    have many : ∀ (w : Nat), w = aZ S (104 + b) → ∀ (mem1 : gM), uF 8 mem mem1 → uR (mem1 8) (fU (aZ S) (104 + b) v) → ∀ (d j : Nat), j + d = 8 → ∀ (ls : Array Slot) (H : Heap) (locs : List Loc), gL ls [some (.ref (gAd X 7 0)), some (.int x), some (.int y), some (.ref (gAd X 8 0)), some (.ref (gAd X 8 1)), some (.ref (gAd X 8 2)), some (.ref (gAd X 8 3)), some (.int (nI (0))), some (.int (nI (b))), some (.int (nI (v))), some (.int (nI (w))), some (.int (nI (gSum (fun q => fU (aZ S) (104 + b) v (104 + q)) j))), some (.int (nI (4 + j)))] → gRep X mem1 H → va_S (gA X) s.heap H locs → W p l e { frames := 7, cells := 0, slots := 0, locals := 158 } s m args below meth c H locs 0 0 (MQ below (gQ X (fun v9 m9 => v9 = some (.int (nI 1)) ∧ ∃ T, lR T m9 ∧ aZ T 178 ≤ aZ S 178 + 60)) args s 0 0 (gA X)) (F0 m 74 ls []) := by
      intro w hw mem hF hM d
      induction d with
      | zero =>
        intro j hj ls H locs hl hR hS
        obtain rfl : j = 8 := by omega
        refine g_iload C hl dL_others_74 rfl ?_
        refine g_bipush 12 C dL_others_76 (by decide) ?_
        refine g_icmp_ge (tgt := 96) C dL_others_78 (by decide) (by omega) (by omega) (fun c78 => ?_) (fun z9 => absurd z9 (by omega))
        refine g_aload_n C hl dL_others_96 rfl ?_
        refine g_iload C hl dL_others_97 rfl ?_
        refine g_iload C hl dL_others_99 rfl ?_
        have hc := aCl_u hJ.2.1 (by decide) hF
        refine g_callV C hl.1 hR hS rc_X8 md_X8_lock ml_L_72 (c_X8_lock l hI hv hJ.1 hc) rfl rfl ⟨Nat.le_of_ble_eq_true rfl, Nat.le_of_ble_eq_true rfl⟩ ⟨Nat.le_refl _, Nat.le_refl _⟩ (Nat.le_of_ble_eq_true rfl) dL_others_101 (fun v mem H locs hp hR hS => ?_)
        obtain ⟨e9, hc9⟩ := hp
        subst e9
        have hP := aLock_in (S := S) (v := v) hb
        rw [← hc9.2 8 (by decide)] at hM
        obtain ⟨T, hT, hJ⟩ : ∃ T, aZ T 178 ≤ aZ S 178 + 60 ∧ lR T mem := ⟨_, by
          rw [hP.2, fU_n _ _ (by omega)]
          omega, aI_lock hJ.1 hJ.n4.1 _ hv, hc9.1, by
          rw [hP.2]
          exact hM⟩
        refine g_iload C hl dL_others_104 rfl ?_
        refine g_iload C hl dL_others_106 rfl ?_
        refine g_icmp_ne (tgt := 116) C dL_others_108 (by decide) (by omega) (by omega) (fun c108 => ?_) (fun c108 => ?_)
        · -- 108 T
          refine g_iload C hl dL_others_116 rfl ?_
          refine lv_icmp_ne (tgt := 136) C.1 C.2.1 dL_others_118 (by decide) (fun z9 => absurd (by rw [hP.1, if_neg (by omega)]) z9) (fun _ => ?_)
          refine g_aload_n C hl dL_others_121 rfl ?_
          refine g_bipush 8 C dL_others_122 (by decide) ?_
          refine g_iconst 1 C dL_others_124 (by decide) ?_
          refine g_callV C hl.1 hR hS rc_X8 md_X8_lock ml_L_72 (c_X8_lock l hI (by decide) hJ.1 hJ.2.1) rfl rfl ⟨Nat.le_of_ble_eq_true rfl, Nat.le_of_ble_eq_true rfl⟩ ⟨Nat.le_refl _, Nat.le_refl _⟩ (Nat.le_of_ble_eq_true rfl) dL_others_125 (fun v mem H locs hp hR hS => ?_)
          obtain ⟨e9, hc9⟩ := hp
          rw [aLock_1 (by decide)] at e9 hc9
          subst e9
          have hJ := hJ.ob hc9
          refine g_iconstM (-1) C dL_others_128 (by decide) ?_
          refine lv_icmp_ne (tgt := 136) C.1 C.2.1 dL_others_129 (by decide) (fun z9 => absurd rfl z9) (fun _ => ?_)
          refine g_iconst 1 C dL_others_132 (by decide) ?_
          refine g_goto (tgt := 137) C dL_others_133 (by decide) ?_
          refine g_zret C hR hS dL_others_137 rfl ?_
          exact ⟨rfl, T, hJ, hT⟩
        · -- 108 F
          refine g_bipushM (-5) C dL_others_111 (by decide) ?_
          refine g_goto (tgt := 118) C dL_others_113 (by decide) ?_
          refine lv_icmp_ne (tgt := 136) C.1 C.2.1 dL_others_118 (by decide) (fun z9 => absurd (by rw [hP.1, if_pos (by omega)]) z9) (fun _ => ?_)
          refine g_aload_n C hl dL_others_121 rfl ?_
          refine g_bipush 8 C dL_others_122 (by decide) ?_
          refine g_iconst 1 C dL_others_124 (by decide) ?_
          refine g_callV C hl.1 hR hS rc_X8 md_X8_lock ml_L_72 (c_X8_lock l hI (by decide) hJ.1 hJ.2.1) rfl rfl ⟨Nat.le_of_ble_eq_true rfl, Nat.le_of_ble_eq_true rfl⟩ ⟨Nat.le_refl _, Nat.le_refl _⟩ (Nat.le_of_ble_eq_true rfl) dL_others_125 (fun v mem H locs hp hR hS => ?_)
          obtain ⟨e9, hc9⟩ := hp
          rw [aLock_1 (by decide)] at e9 hc9
          subst e9
          have hJ := hJ.ob hc9
          refine g_iconstM (-1) C dL_others_128 (by decide) ?_
          refine lv_icmp_ne (tgt := 136) C.1 C.2.1 dL_others_129 (by decide) (fun z9 => absurd rfl z9) (fun _ => ?_)
          refine g_iconst 1 C dL_others_132 (by decide) ?_
          refine g_goto (tgt := 137) C dL_others_133 (by decide) ?_
          refine g_zret C hR hS dL_others_137 rfl ?_
          exact ⟨rfl, T, hJ, hT⟩
      | succ d ih =>
        intro j hj ls H locs hl hR hS
        refine g_iload C hl dL_others_74 rfl ?_
        refine g_bipush 12 C dL_others_76 (by decide) ?_
        refine g_icmp_ge (tgt := 96) C dL_others_78 (by decide) (by omega) (by omega) (fun z9 => absurd z9 (by omega)) (fun c78 => ?_)
        refine g_iload C hl dL_others_81 rfl ?_
        refine g_aload_n C hl dL_others_83 rfl ?_
        refine g_iload C hl dL_others_84 rfl ?_
        refine u_ald (104 + j) C hk hM hR (uJ_w (by omega) (by omega)) dL_others_86 ?_
        refine g_iadd C dL_others_87 ?_
        refine g_istore C hl dL_others_88 (Nat.le_of_ble_eq_true rfl) (fun ls hl => ?_)
        refine g_iinc (k := 1) C hl dL_others_90 rfl (by decide) (fun ls hl => ?_)
        refine g_goto (tgt := 74) C dL_others_93 (by decide) ?_
        exact ih (j + 1) (by omega) _ _ _ hl hR hS
    refine g_aload_n C hl dL_others_35 rfl ?_
    refine g_iconst 4 C dL_others_36 (by decide) ?_
    refine g_iload C hl dL_others_37 rfl ?_
    refine g_iadd C dL_others_39 ?_
    refine u_ald (104 + b) C hk hM hR (uJ_w (by omega) (by omega)) dL_others_40 ?_
    refine g_iconst 1 C dL_others_41 (by decide) ?_
    refine g_icmp_ne (tgt := 49) C dL_others_42 (by decide) (by omega) (by decide) (fun c42 => ?_) (fun c42 => ?_)
    · -- 42 T
      refine g_iconst 0 C dL_others_49 (by decide) ?_
      refine g_istore C hl dL_others_50 (Nat.le_of_ble_eq_true rfl) (fun ls hl => ?_)
      refine g_aload_n C hl dL_others_52 rfl ?_
      refine g_iconst 4 C dL_others_53 (by decide) ?_
      refine g_iload C hl dL_others_54 rfl ?_
      refine g_iadd C dL_others_56 ?_
      refine g_iload C hl dL_others_57 rfl ?_
      refine g_if_eq (tgt := 66) C dL_others_59 (by decide) (by omega) (fun c59 => ?_) (fun c59 => ?_)
      · -- 59 T
        refine g_iconst 0 C dL_others_66 (by decide) ?_
        obtain rfl : v = 0 := by omega
        refine u_ast (104 + b) C hk hM hF hR hS (uJ_w (by omega) (by omega)) dL_others_67 (fun mem hM hF H locs hR hS => ?_)
        refine g_iconst 0 C dL_others_68 (by decide) ?_
        refine g_istore C hl dL_others_69 (Nat.le_of_ble_eq_true rfl) (fun ls hl => ?_)
        refine g_iconst 4 C dL_others_71 (by decide) ?_
        refine g_istore C hl dL_others_72 (Nat.le_of_ble_eq_true rfl) (fun ls hl => ?_)
        exact many _ (by omega) _ hF hM 8 0 (by omega) _ _ _ hl hR hS
      · -- 59 F
        refine g_iconst 1 C dL_others_62 (by decide) ?_
        obtain rfl : v = 1 := by omega
        refine g_goto (tgt := 67) C dL_others_63 (by decide) ?_
        refine u_ast (104 + b) C hk hM hF hR hS (uJ_w (by omega) (by omega)) dL_others_67 (fun mem hM hF H locs hR hS => ?_)
        refine g_iconst 0 C dL_others_68 (by decide) ?_
        refine g_istore C hl dL_others_69 (Nat.le_of_ble_eq_true rfl) (fun ls hl => ?_)
        refine g_iconst 4 C dL_others_71 (by decide) ?_
        refine g_istore C hl dL_others_72 (Nat.le_of_ble_eq_true rfl) (fun ls hl => ?_)
        exact many _ (by omega) _ hF hM 8 0 (by omega) _ _ _ hl hR hS
    · -- 42 F
      refine g_iconst 1 C dL_others_45 (by decide) ?_
      refine g_goto (tgt := 50) C dL_others_46 (by decide) ?_
      refine g_istore C hl dL_others_50 (Nat.le_of_ble_eq_true rfl) (fun ls hl => ?_)
      refine g_aload_n C hl dL_others_52 rfl ?_
      refine g_iconst 4 C dL_others_53 (by decide) ?_
      refine g_iload C hl dL_others_54 rfl ?_
      refine g_iadd C dL_others_56 ?_
      refine g_iload C hl dL_others_57 rfl ?_
      refine g_if_eq (tgt := 66) C dL_others_59 (by decide) (by omega) (fun c59 => ?_) (fun c59 => ?_)
      · -- 59 T
        refine g_iconst 0 C dL_others_66 (by decide) ?_
        obtain rfl : v = 0 := by omega
        refine u_ast (104 + b) C hk hM hF hR hS (uJ_w (by omega) (by omega)) dL_others_67 (fun mem hM hF H locs hR hS => ?_)
        refine g_iconst 0 C dL_others_68 (by decide) ?_
        refine g_istore C hl dL_others_69 (Nat.le_of_ble_eq_true rfl) (fun ls hl => ?_)
        refine g_iconst 4 C dL_others_71 (by decide) ?_
        refine g_istore C hl dL_others_72 (Nat.le_of_ble_eq_true rfl) (fun ls hl => ?_)
        exact many _ (by omega) _ hF hM 8 0 (by omega) _ _ _ hl hR hS
      · -- 59 F
        refine g_iconst 1 C dL_others_62 (by decide) ?_
        obtain rfl : v = 1 := by omega
        refine g_goto (tgt := 67) C dL_others_63 (by decide) ?_
        refine u_ast (104 + b) C hk hM hF hR hS (uJ_w (by omega) (by omega)) dL_others_67 (fun mem hM hF H locs hR hS => ?_)
        refine g_iconst 0 C dL_others_68 (by decide) ?_
        refine g_istore C hl dL_others_69 (Nat.le_of_ble_eq_true rfl) (fun ls hl => ?_)
        refine g_iconst 4 C dL_others_71 (by decide) ?_
        refine g_istore C hl dL_others_72 (Nat.le_of_ble_eq_true rfl) (fun ls hl => ?_)
        exact many _ (by omega) _ hF hM 8 0 (by omega) _ _ _ hl hR hS
  have cpy : ∀ (b fr : Nat), b < 8 → fr < 8 → ∀ (d i : Nat), i + d = 12 → ∀ (mem1 : gM), uF 8 mem mem1 → uR (mem1 8) (zCp (aZ S) fr b i) → ∀ (ls : Array Slot) (H : Heap) (locs : List Loc), gL ls [some (.ref (gAd X 7 0)), some (.int x), some (.int y), some (.ref (gAd X 8 0)), some (.ref (gAd X 8 1)), some (.ref (gAd X 8 2)), some (.ref (gAd X 8 3)), some (.int (nI (2))), some (.int (nI (b))), some (.int (nI (fr))), some (.int (nI (zUn (aZ S) fr b i))), some (.int (nI (i))), none] → gRep X mem1 H → va_S (gA X) s.heap H locs → W p l e { frames := 7, cells := 0, slots := 0, locals := 158 } s m args below meth c H locs 0 0 (MQ below (gQ X (fun v9 m9 => v9 = some (.int (nI 1)) ∧ ∃ T, lR T m9 ∧ aZ T 178 ≤ aZ S 178 + 60)) args s 0 0 (gA X)) (F0 m 239 ls []) := by
    intro b fr hb hfr d
    induction d with
    | zero =>
      intro i hi mem hF hM ls H locs hl hR hS
      obtain rfl : i = 12 := by omega
      have hun : zUn (aZ S) fr b 12 < 2 ^ 31 := by
        have h9 : ∀ n, zUn (aZ S) fr b n ≤ n := by
          intro n
          induction n with
          | zero => exact Nat.le_refl _
          | succ n ih =>
            show zUn (aZ S) fr b n + (if aZ S (zIx fr n) = aZ S (zIx b n) then 0 else 1) ≤ n + 1
            split <;> omega
        have := h9 12
        omega
      refine g_iload C hl dL_others_239 rfl ?_
      refine g_bipush 12 C dL_others_241 (by decide) ?_
      refine g_icmp_ge (tgt := 309) C dL_others_243 (by decide) (by omega) (by omega) (fun c243 => ?_) (fun z9 => absurd z9 (by omega))
      refine g_aload_n C hl dL_others_309 rfl ?_
      refine g_iload C hl dL_others_310 rfl ?_
      refine g_iload C hl dL_others_312 rfl ?_
      have hc := aCl_u hJ.2.1 (by decide) hF
      refine g_callV C hl.1 hR hS rc_X8 md_X8_copyBank ml_L_79 (c_X8_copyBank l hI hJ.1 hc) rfl rfl ⟨Nat.le_of_ble_eq_true rfl, Nat.le_of_ble_eq_true rfl⟩ ⟨Nat.le_refl _, Nat.le_refl _⟩ (Nat.le_of_ble_eq_true rfl) dL_others_314 (fun v mem H locs hp hR hS => ?_)
      obtain ⟨e9, hc9⟩ := hp
      subst e9
      have hP := aCopy_in (S := S) hfr hb
      rw [← hc9.2 8 (by decide)] at hM
      obtain ⟨T, hT, hJ⟩ : ∃ T, aZ T 178 ≤ aZ S 178 + 60 ∧ lR T mem := ⟨_, by
        rw [hP.2, zCp_178 hb 12 (Nat.le_refl _)]
        omega, aI_copy hJ.1 hJ.n4.1 _ _, hc9.1, by
        rw [hP.2]
        exact hM⟩
      refine g_iload C hl dL_others_317 rfl ?_
      refine g_if_ne (tgt := 327) C dL_others_319 (by decide) hun (fun c319 => ?_) (fun c319 => ?_)
      · -- 319 T
        refine g_iload C hl dL_others_327 rfl ?_
        refine lv_icmp_ne (tgt := 346) C.1 C.2.1 dL_others_329 (by decide) (fun z9 => absurd (by rw [hP.1, if_neg c319]) z9) (fun _ => ?_)
        refine g_aload_n C hl dL_others_332 rfl ?_
        refine g_iconstM (-1) C dL_others_333 (by decide) ?_
        refine g_iconst 0 C dL_others_334 (by decide) ?_
        refine g_callV C hl.1 hR hS rc_X8 md_X8_copyBank ml_L_79 (c_X8_copyBank l hI hJ.1 hJ.2.1) rfl rfl ⟨Nat.le_of_ble_eq_true rfl, Nat.le_of_ble_eq_true rfl⟩ ⟨Nat.le_refl _, Nat.le_refl _⟩ (Nat.le_of_ble_eq_true rfl) dL_others_335 (fun v mem H locs hp hR hS => ?_)
        obtain ⟨e9, hc9⟩ := hp
        rw [aCopy_1 (by decide)] at e9 hc9
        subst e9
        have hJ := hJ.ob hc9
        refine g_iconstM (-1) C dL_others_338 (by decide) ?_
        refine lv_icmp_ne (tgt := 346) C.1 C.2.1 dL_others_339 (by decide) (fun z9 => absurd rfl z9) (fun _ => ?_)
        refine g_iconst 1 C dL_others_342 (by decide) ?_
        refine g_goto (tgt := 347) C dL_others_343 (by decide) ?_
        refine g_zret C hR hS dL_others_347 rfl ?_
        exact ⟨rfl, T, hJ, hT⟩
      · -- 319 F
        refine g_bipushM (-5) C dL_others_322 (by decide) ?_
        refine g_goto (tgt := 329) C dL_others_324 (by decide) ?_
        refine lv_icmp_ne (tgt := 346) C.1 C.2.1 dL_others_329 (by decide) (fun z9 => absurd (by rw [hP.1, if_pos c319]) z9) (fun _ => ?_)
        refine g_aload_n C hl dL_others_332 rfl ?_
        refine g_iconstM (-1) C dL_others_333 (by decide) ?_
        refine g_iconst 0 C dL_others_334 (by decide) ?_
        refine g_callV C hl.1 hR hS rc_X8 md_X8_copyBank ml_L_79 (c_X8_copyBank l hI hJ.1 hJ.2.1) rfl rfl ⟨Nat.le_of_ble_eq_true rfl, Nat.le_of_ble_eq_true rfl⟩ ⟨Nat.le_refl _, Nat.le_refl _⟩ (Nat.le_of_ble_eq_true rfl) dL_others_335 (fun v mem H locs hp hR hS => ?_)
        obtain ⟨e9, hc9⟩ := hp
        rw [aCopy_1 (by decide)] at e9 hc9
        subst e9
        have hJ := hJ.ob hc9
        refine g_iconstM (-1) C dL_others_338 (by decide) ?_
        refine lv_icmp_ne (tgt := 346) C.1 C.2.1 dL_others_339 (by decide) (fun z9 => absurd rfl z9) (fun _ => ?_)
        refine g_iconst 1 C dL_others_342 (by decide) ?_
        refine g_goto (tgt := 347) C dL_others_343 (by decide) ?_
        refine g_zret C hR hS dL_others_347 rfl ?_
        exact ⟨rfl, T, hJ, hT⟩
    | succ d ih =>
      intro i hi mem hF hM ls H locs hl hR hS
      have hy := zCp_le hz hfr hb i (by omega)
      have y1 := hy.1 _ (zIx_lt hfr (show i < 16 by omega))
      have y2 := hy.1 _ (zIx_lt hb (show i < 16 by omega))
      refine g_iload C hl dL_others_239 rfl ?_
      refine g_bipush 12 C dL_others_241 (by decide) ?_
      refine g_icmp_ge (tgt := 309) C dL_others_243 (by decide) (by omega) (by omega) (fun z9 => absurd z9 (by omega)) (fun c243 => ?_)
      refine g_iload C hl dL_others_246 rfl ?_
      refine g_aload C hl dL_others_248 rfl ?_
      refine g_aload C hl dL_others_250 rfl ?_
      refine g_iload C hl dL_others_252 rfl ?_
      refine g_iload C hl dL_others_254 rfl ?_
      refine g_callSi C hl.1 hR hS md_L_cell ml_L_9 (c_L_cell l hI hk hM hfr (show i < 16 by omega)) rfl rfl ⟨Nat.le_of_ble_eq_true rfl, Nat.le_of_ble_eq_true rfl⟩ ⟨Nat.le_refl _, Nat.le_refl _⟩ (Nat.le_of_ble_eq_true rfl) dL_others_256 (fun H locs hR hS => ?_)
      refine g_aload C hl dL_others_259 rfl ?_
      refine g_aload C hl dL_others_261 rfl ?_
      refine g_iload C hl dL_others_263 rfl ?_
      refine g_iload C hl dL_others_265 rfl ?_
      refine g_callSi C hl.1 hR hS md_L_cell ml_L_9 (c_L_cell l hI hk hM hb (show i < 16 by omega)) rfl rfl ⟨Nat.le_of_ble_eq_true rfl, Nat.le_of_ble_eq_true rfl⟩ ⟨Nat.le_refl _, Nat.le_refl _⟩ (Nat.le_of_ble_eq_true rfl) dL_others_267 (fun H locs hR hS => ?_)
      refine g_icmp_eq (tgt := 277) C dL_others_270 (by decide) (by omega) (by omega) (fun c270 => ?_) (fun c270 => ?_)
      · -- 270 T
        refine g_iconst 0 C dL_others_277 (by decide) ?_
        refine g_iadd C dL_others_278 ?_
        refine g_istore C hl dL_others_279 (Nat.le_of_ble_eq_true rfl) (fun ls hl => ?_)
        refine g_aload C hl dL_others_281 rfl ?_
        refine g_aload C hl dL_others_283 rfl ?_
        refine g_iload C hl dL_others_285 rfl ?_
        refine g_iload C hl dL_others_287 rfl ?_
        refine g_aload C hl dL_others_289 rfl ?_
        refine g_aload C hl dL_others_291 rfl ?_
        refine g_iload C hl dL_others_293 rfl ?_
        refine g_iload C hl dL_others_295 rfl ?_
        refine g_callSi C hl.1 hR hS md_L_cell ml_L_9 (c_L_cell l hI hk hM hfr (show i < 16 by omega)) rfl rfl ⟨Nat.le_of_ble_eq_true rfl, Nat.le_of_ble_eq_true rfl⟩ ⟨Nat.le_refl _, Nat.le_refl _⟩ (Nat.le_of_ble_eq_true rfl) dL_others_297 (fun H locs hR hS => ?_)
        refine g_callU C hl.1 hF hR hS md_L_put ml_L_19 (c_L_put l hI hk hM hb (show i < 16 by omega)) rfl rfl ⟨Nat.le_of_ble_eq_true rfl, Nat.le_of_ble_eq_true rfl⟩ ⟨Nat.le_refl _, Nat.le_refl _⟩ (Nat.le_of_ble_eq_true rfl) dL_others_300 (fun mem hM hF H locs hR hS => ?_)
        refine g_iinc (k := 1) C hl dL_others_303 rfl (by decide) (fun ls hl => ?_)
        rw [un_c (by omega) c270] at hl
        refine g_goto (tgt := 239) C dL_others_306 (by decide) ?_
        exact ih (i + 1) (by omega) _ hF hM _ _ _ hl hR hS
      · -- 270 F
        refine g_iconst 1 C dL_others_273 (by decide) ?_
        refine g_goto (tgt := 278) C dL_others_274 (by decide) ?_
        refine g_iadd C dL_others_278 ?_
        refine g_istore C hl dL_others_279 (Nat.le_of_ble_eq_true rfl) (fun ls hl => ?_)
        refine g_aload C hl dL_others_281 rfl ?_
        refine g_aload C hl dL_others_283 rfl ?_
        refine g_iload C hl dL_others_285 rfl ?_
        refine g_iload C hl dL_others_287 rfl ?_
        refine g_aload C hl dL_others_289 rfl ?_
        refine g_aload C hl dL_others_291 rfl ?_
        refine g_iload C hl dL_others_293 rfl ?_
        refine g_iload C hl dL_others_295 rfl ?_
        refine g_callSi C hl.1 hR hS md_L_cell ml_L_9 (c_L_cell l hI hk hM hfr (show i < 16 by omega)) rfl rfl ⟨Nat.le_of_ble_eq_true rfl, Nat.le_of_ble_eq_true rfl⟩ ⟨Nat.le_refl _, Nat.le_refl _⟩ (Nat.le_of_ble_eq_true rfl) dL_others_297 (fun H locs hR hS => ?_)
        refine g_callU C hl.1 hF hR hS md_L_put ml_L_19 (c_L_put l hI hk hM hb (show i < 16 by omega)) rfl rfl ⟨Nat.le_of_ble_eq_true rfl, Nat.le_of_ble_eq_true rfl⟩ ⟨Nat.le_refl _, Nat.le_refl _⟩ (Nat.le_of_ble_eq_true rfl) dL_others_300 (fun mem hM hF H locs hR hS => ?_)
        refine g_iinc (k := 1) C hl dL_others_303 rfl (by decide) (fun ls hl => ?_)
        rw [un_d (by omega) c270] at hl
        refine g_goto (tgt := 239) C dL_others_306 (by decide) ?_
        exact ih (i + 1) (by omega) _ hF hM _ _ _ hl hR hS
  have rn : ∀ (hw9 b st : Nat), 1 ≤ st → st ≤ 60 → ∀ (ls : Array Slot) (H : Heap) (locs : List Loc), gL ls [some (.ref (gAd X 7 0)), some (.int x), some (.int y), some (.ref (gAd X 8 0)), some (.ref (gAd X 8 1)), some (.ref (gAd X 8 2)), some (.ref (gAd X 8 3)), some (.int (nI (hw9))), some (.int (nI (b))), some (.int (nI (st))), none, none, none] → gRep X mem H → va_S (gA X) s.heap H locs → W p l e { frames := 7, cells := 0, slots := 0, locals := 158 } s m args below meth c H locs 0 0 (MQ below (gQ X (fun v9 m9 => v9 = some (.int (nI 1)) ∧ ∃ T, lR T m9 ∧ aZ T 178 ≤ aZ S 178 + 60)) args s 0 0 (gA X)) (F0 m 505 ls []) := by
    intro hw9 b st hs1 hs2 ls H locs hl hR hS
    refine g_aload_n C hl dL_others_505 rfl ?_
    refine g_bipush 15 C dL_others_506 (by decide) ?_
    refine u_ald (115) C hk hM hR (uJ_w rfl (by decide)) dL_others_508 ?_
    refine g_if_le (tgt := 539) C dL_others_509 (by decide) (by omega) (fun c509 => ?_) (fun c509 => ?_)
    · -- 509 T
      refine g_iload C hl dL_others_539 rfl ?_
      refine g_aload_n C hl dL_others_541 rfl ?_
      refine g_aload C hl dL_others_542 rfl ?_
      refine g_aload C hl dL_others_544 rfl ?_
      refine g_aload C hl dL_others_546 rfl ?_
      have hF : uF 8 mem mem := uF.rf
      refine g_callU C hl.1 hF hR hS md_L_run ml_L_45 (c_L_run l hI hk hM hz hg (show st < 2 ^ 31 by omega)) rfl rfl ⟨Nat.le_of_ble_eq_true rfl, Nat.le_of_ble_eq_true rfl⟩ ⟨Nat.le_refl _, Nat.le_refl _⟩ (Nat.le_of_ble_eq_true rfl) dL_others_548 (fun mem hM hF H locs hR hS => ?_)
      refine g_istore C hl dL_others_551 (Nat.le_of_ble_eq_true rfl) (fun ls hl => ?_)
      refine g_aload_n C hl dL_others_553 rfl ?_
      refine g_iload C hl dL_others_554 rfl ?_
      have hc := aCl_u hJ.2.1 (by decide) hF
      refine g_callV C hl.1 hR hS rc_X8 md_X8_run ml_L_88 (c_X8_run l hI hJ.1 hc) rfl rfl ⟨Nat.le_of_ble_eq_true rfl, Nat.le_of_ble_eq_true rfl⟩ ⟨Nat.le_refl _, Nat.le_refl _⟩ (Nat.le_of_ble_eq_true rfl) dL_others_556 (fun v mem H locs hp hR hS => ?_)
      obtain ⟨e9, hc9⟩ := hp
      have h178 := zRun_178 hz hg st
      rw [aRun_4 hs1 (by omega) c509 (by omega)] at e9 hc9
      subst e9
      have haI := aI_run hJ.1 hJ.n4.1 (nI st)
      rw [aRun_4 hs1 (by omega) c509 (by omega)] at haI
      obtain ⟨T, hT, hJ⟩ : ∃ T, aZ T 178 ≤ aZ S 178 + 60 ∧ lR T mem := ⟨_, by
        show zRun (aZ S) st 178 ≤ _
        omega, haI, hc9.1, by
        rw [hc9.2 8 (by decide)]
        exact hM⟩
      refine g_iload C hl dL_others_559 rfl ?_
      refine lv_icmp_ne (tgt := 580) C.1 C.2.1 dL_others_561 (by decide) (fun z9 => absurd rfl z9) (fun _ => ?_)
      refine g_aload_n C hl dL_others_564 rfl ?_
      refine g_sipush 1000 C dL_others_565 (by decide) ?_
      refine g_callV C hl.1 hR hS rc_X8 md_X8_run ml_L_88 (c_X8_run l hI hJ.1 hJ.2.1) rfl rfl ⟨Nat.le_of_ble_eq_true rfl, Nat.le_of_ble_eq_true rfl⟩ ⟨Nat.le_refl _, Nat.le_refl _⟩ (Nat.le_of_ble_eq_true rfl) dL_others_568 (fun v mem H locs hp hR hS => ?_)
      obtain ⟨e9, hc9⟩ := hp
      rw [aRun_1 (by decide)] at e9 hc9
      subst e9
      have hJ := hJ.ob hc9
      refine g_bipushM (-2) C dL_others_571 (by decide) ?_
      refine lv_icmp_ne (tgt := 580) C.1 C.2.1 dL_others_573 (by decide) (fun z9 => absurd rfl z9) (fun _ => ?_)
      refine g_iconst 1 C dL_others_576 (by decide) ?_
      refine g_goto (tgt := 581) C dL_others_577 (by decide) ?_
      refine g_zret C hR hS dL_others_581 rfl ?_
      exact ⟨rfl, T, hJ, hT⟩
    · -- 509 F
      refine g_aload_n C hl dL_others_512 rfl ?_
      refine g_iload C hl dL_others_513 rfl ?_
      refine g_callV C hl.1 hR hS rc_X8 md_X8_run ml_L_88 (c_X8_run l hI hJ.1 hJ.2.1) rfl rfl ⟨Nat.le_of_ble_eq_true rfl, Nat.le_of_ble_eq_true rfl⟩ ⟨Nat.le_refl _, Nat.le_refl _⟩ (Nat.le_of_ble_eq_true rfl) dL_others_515 (fun v mem H locs hp hR hS => ?_)
      obtain ⟨e9, hc9⟩ := hp
      rw [aRun_2 hs1 (by omega) (by omega)] at e9 hc9
      subst e9
      have hJ := hJ.ob hc9
      refine g_bipushM (-4) C dL_others_518 (by decide) ?_
      refine lv_icmp_ne (tgt := 537) C.1 C.2.1 dL_others_520 (by decide) (fun z9 => absurd rfl z9) (fun _ => ?_)
      refine g_aload_n C hl dL_others_523 rfl ?_
      refine g_iconst 0 C dL_others_524 (by decide) ?_
      refine g_callV C hl.1 hR hS rc_X8 md_X8_run ml_L_88 (c_X8_run l hI hJ.1 hJ.2.1) rfl rfl ⟨Nat.le_of_ble_eq_true rfl, Nat.le_of_ble_eq_true rfl⟩ ⟨Nat.le_refl _, Nat.le_refl _⟩ (Nat.le_of_ble_eq_true rfl) dL_others_525 (fun v mem H locs hp hR hS => ?_)
      obtain ⟨e9, hc9⟩ := hp
      rw [aRun_1 (by decide)] at e9 hc9
      subst e9
      have hJ := hJ.ob hc9
      refine g_bipushM (-2) C dL_others_528 (by decide) ?_
      refine lv_icmp_ne (tgt := 537) C.1 C.2.1 dL_others_530 (by decide) (fun z9 => absurd rfl z9) (fun _ => ?_)
      refine g_iconst 1 C dL_others_533 (by decide) ?_
      refine g_goto (tgt := 538) C dL_others_534 (by decide) ?_
      refine g_zret C hR hS dL_others_538 rfl ?_
      exact ⟨rfl, S, hJ, by omega⟩
  have go16 : ∀ (hw9 b : Nat), hw9 < 9 → b < 8 → ∀ (ls : Array Slot) (H : Heap) (locs : List Loc), gL ls [some (.ref (gAd X 7 0)), some (.int x), some (.int y), some (.ref (gAd X 8 0)), some (.ref (gAd X 8 1)), some (.ref (gAd X 8 2)), some (.ref (gAd X 8 3)), some (.int (nI (hw9))), some (.int (nI (b))), none, none, none, none] → gRep X mem H → va_S (gA X) s.heap H locs → W p l e { frames := 7, cells := 0, slots := 0, locals := 158 } s m args below meth c H locs 0 0 (MQ below (gQ X (fun v9 m9 => v9 = some (.int (nI 1)) ∧ ∃ T, lR T m9 ∧ aZ T 178 ≤ aZ S 178 + 60)) args s 0 0 (gA X)) (F0 m 16 ls []) := by
    intro hw9 b hh hb ls H locs hl hR hS
    have hF : uF 8 mem mem := uF.rf
    refine g_iload C hl dL_others_16 rfl ?_
    refine g_if_ne (tgt := 138) C dL_others_18 (by decide) (by omega) (fun c18 => ?_) (fun c18 => ?_)
    · -- 18 T
      refine g_iload C hl dL_others_138 rfl ?_
      refine g_iconst 1 C dL_others_140 (by decide) ?_
      refine g_icmp_ne (tgt := 217) C dL_others_141 (by decide) (by omega) (by omega) (fun c141 => ?_) (fun c141 => ?_)
      · -- 141 T
        refine g_iload C hl dL_others_217 rfl ?_
        refine g_iconst 2 C dL_others_219 (by decide) ?_
        refine g_icmp_ne (tgt := 348) C dL_others_220 (by decide) (by omega) (by omega) (fun c220 => ?_) (fun c220 => ?_)
        · -- 220 T
          refine g_iload C hl dL_others_348 rfl ?_
          refine g_iconst 3 C dL_others_350 (by decide) ?_
          refine g_icmp_ne (tgt := 412) C dL_others_351 (by decide) (by omega) (by omega) (fun c351 => ?_) (fun c351 => ?_)
          · -- 351 T
            refine g_iload C hl dL_others_412 rfl ?_
            refine g_bipush 6 C dL_others_414 (by decide) ?_
            refine g_icmp_ge (tgt := 481) C dL_others_416 (by decide) (by omega) (by omega) (fun c416 => ?_) (fun c416 => ?_)
            · -- 416 T
              refine g_iconst 1 C dL_others_481 (by decide) ?_
              refine g_iload_n C hl dL_others_482 rfl ?_
              refine g_iload_n C hl dL_others_483 rfl ?_
              refine g_bipush 9 C dL_others_484 (by decide) ?_
              refine lv_ishr C.1 C.2.1 dL_others_486 ?_
              refine g_iconst 3 C dL_others_487 (by decide) ?_
              refine lv_iand C.1 C.2.1 dL_others_488 ?_
              refine lv_if_ne (tgt := 497) C.1 C.2.1 dL_others_489 (by decide) (fun _ => ?_) (fun _ => ?_)
              · -- 489 T
                refine g_bipush 7 C dL_others_497 (by decide) ?_
                refine g_callS C hl.1 hR hS md_L_low ml_L_66 (c_L_low l hI (by decide) (by decide)) rfl rfl ⟨Nat.le_of_ble_eq_true rfl, Nat.le_of_ble_eq_true rfl⟩ ⟨Nat.le_refl _, Nat.le_refl _⟩ (Nat.le_of_ble_eq_true rfl) dL_others_499 (fun v mem2 H locs hp hR hS => ?_)
                obtain ⟨r, hr, e9, e8⟩ := hp
                subst e9
                rw [e8] at hR
                clear e8
                refine g_iadd C dL_others_502 ?_
                refine g_istore C hl dL_others_503 (Nat.le_of_ble_eq_true rfl) (fun ls hl => ?_)
                exact rn _ _ _ (by omega) (by omega) _ _ _ hl hR hS
              · -- 489 F
                refine g_bipush 60 C dL_others_492 (by decide) ?_
                refine g_goto (tgt := 499) C dL_others_494 (by decide) ?_
                refine g_callS C hl.1 hR hS md_L_low ml_L_66 (c_L_low l hI (by decide) (by decide)) rfl rfl ⟨Nat.le_of_ble_eq_true rfl, Nat.le_of_ble_eq_true rfl⟩ ⟨Nat.le_refl _, Nat.le_refl _⟩ (Nat.le_of_ble_eq_true rfl) dL_others_499 (fun v mem2 H locs hp hR hS => ?_)
                obtain ⟨r, hr, e9, e8⟩ := hp
                subst e9
                rw [e8] at hR
                clear e8
                refine g_iadd C dL_others_502 ?_
                refine g_istore C hl dL_others_503 (Nat.le_of_ble_eq_true rfl) (fun ls hl => ?_)
                exact rn _ _ _ (by omega) (by omega) _ _ _ hl hR hS
            · -- 416 F
              refine g_aload_n C hl dL_others_419 rfl ?_
              refine g_bipush 14 C dL_others_420 (by decide) ?_
              refine u_ald (114) C hk hM hR (uJ_w rfl (by decide)) dL_others_422 ?_
              refine g_istore C hl dL_others_423 (Nat.le_of_ble_eq_true rfl) (fun ls hl => ?_)
              refine g_aload_n C hl dL_others_425 rfl ?_
              refine g_bipush 14 C dL_others_426 (by decide) ?_
              refine g_iload_n C hl dL_others_428 rfl ?_
              refine g_iconst 3 C dL_others_429 (by decide) ?_
              refine lv_ishr C.1 C.2.1 dL_others_430 ?_
              refine g_bipush 64 C dL_others_431 (by decide) ?_
              refine g_callS C hl.1 hR hS md_L_low ml_L_66 (c_L_low l hI (by decide) (by decide)) rfl rfl ⟨Nat.le_of_ble_eq_true rfl, Nat.le_of_ble_eq_true rfl⟩ ⟨Nat.le_refl _, Nat.le_refl _⟩ (Nat.le_of_ble_eq_true rfl) dL_others_433 (fun v mem2 H locs hp hR hS => ?_)
              obtain ⟨r, hr, e9, e8⟩ := hp
              subst e9
              rw [e8] at hR
              clear e8
              refine u_ast (114) C hk hM hF hR hS (uJ_w rfl (by decide)) dL_others_436 (fun mem hM hF H locs hR hS => ?_)
              refine g_aload_n C hl dL_others_437 rfl ?_
              refine g_bipush 13 C dL_others_438 (by decide) ?_
              refine g_iconst 0 C dL_others_440 (by decide) ?_
              refine u_ast (113) C hk hM hF hR hS (uJ_w rfl (by decide)) dL_others_441 (fun mem hM hF H locs hR hS => ?_)
              refine g_aload_n C hl dL_others_442 rfl ?_
              refine g_bipush 15 C dL_others_443 (by decide) ?_
              refine g_iconst 0 C dL_others_445 (by decide) ?_
              refine u_ast (115) C hk hM hF hR hS (uJ_w rfl (by decide)) dL_others_446 (fun mem hM hF H locs hR hS => ?_)
              refine g_aload C hl dL_others_447 rfl ?_
              refine g_iconst 0 C dL_others_449 (by decide) ?_
              refine g_iconst 0 C dL_others_450 (by decide) ?_
              refine u_ast (116) C hk hM hF hR hS (uJ_f rfl (by decide)) dL_others_451 (fun mem hM hF H locs hR hS => ?_)
              refine g_aload_n C hl dL_others_452 rfl ?_
              refine g_aload_n C hl dL_others_453 rfl ?_
              refine g_bipush 14 C dL_others_454 (by decide) ?_
              refine u_ald (114) C hk hM hR (uJ_w rfl (by decide)) dL_others_456 ?_
              rw [zBg_114]
              have hc := aCl_u hJ.2.1 (by decide) hF
              refine g_callV C hl.1 hR hS rc_X8 md_X8_begin ml_L_85 (c_X8_begin l hI hJ.1 hc) rfl rfl ⟨Nat.le_of_ble_eq_true rfl, Nat.le_of_ble_eq_true rfl⟩ ⟨Nat.le_refl _, Nat.le_refl _⟩ (Nat.le_of_ble_eq_true rfl) dL_others_457 (fun v mem H locs hp hR hS => ?_)
              obtain ⟨e9, hc9⟩ := hp
              have haI := aI_begin hJ.1 hJ.n4.1 (nI r)
              rw [aBegin_2 (by omega)] at e9 hc9 haI
              subst e9
              obtain ⟨T, hT, hJ⟩ : ∃ T, aZ T 178 ≤ aZ S 178 + 60 ∧ lR T mem := ⟨_, by
                show zBg (aZ S) r 178 ≤ _
                rw [zBg_178]
                omega, haI, hc9.1, by
                rw [hc9.2 8 (by decide)]
                exact hM⟩
              refine g_iload C hl dL_others_460 rfl ?_
              refine lv_icmp_ne (tgt := 479) C.1 C.2.1 dL_others_462 (by decide) (fun z9 => absurd rfl z9) (fun _ => ?_)
              refine g_aload_n C hl dL_others_465 rfl ?_
              refine g_bipush 64 C dL_others_466 (by decide) ?_
              refine g_callV C hl.1 hR hS rc_X8 md_X8_begin ml_L_85 (c_X8_begin l hI hJ.1 hJ.2.1) rfl rfl ⟨Nat.le_of_ble_eq_true rfl, Nat.le_of_ble_eq_true rfl⟩ ⟨Nat.le_refl _, Nat.le_refl _⟩ (Nat.le_of_ble_eq_true rfl) dL_others_468 (fun v mem H locs hp hR hS => ?_)
              obtain ⟨e9, hc9⟩ := hp
              rw [aBegin_1 (by decide)] at e9 hc9
              subst e9
              have hJ := hJ.ob hc9
              refine g_iconstM (-1) C dL_others_471 (by decide) ?_
              refine lv_icmp_ne (tgt := 479) C.1 C.2.1 dL_others_472 (by decide) (fun z9 => absurd rfl z9) (fun _ => ?_)
              refine g_iconst 1 C dL_others_475 (by decide) ?_
              refine g_goto (tgt := 480) C dL_others_476 (by decide) ?_
              refine g_zret C hR hS dL_others_480 rfl ?_
              exact ⟨rfl, T, hJ, hT⟩
          · -- 351 F
            refine g_aload_n C hl dL_others_354 rfl ?_
            refine g_bipush 12 C dL_others_355 (by decide) ?_
            refine u_ald (112) C hk hM hR (uJ_w rfl (by decide)) dL_others_357 ?_
            refine g_istore C hl dL_others_358 (Nat.le_of_ble_eq_true rfl) (fun ls hl => ?_)
            refine g_aload_n C hl dL_others_360 rfl ?_
            refine g_bipush 12 C dL_others_361 (by decide) ?_
            refine g_iload_n C hl dL_others_363 rfl ?_
            refine g_iconst 3 C dL_others_364 (by decide) ?_
            refine lv_ishr C.1 C.2.1 dL_others_365 ?_
            refine g_iconst 1 C dL_others_366 (by decide) ?_
            refine lv_iand C.1 C.2.1 dL_others_367 ?_
            obtain ⟨w8, hw8, ew8⟩ := pk_andE (y >>> (nI 3 &&& 31)) (m := nI 1) 1 (by decide)
            rw [ew8]
            refine u_ast (112) C hk hM hF hR hS (uJ_w rfl (by decide)) dL_others_368 (fun mem hM hF H locs hR hS => ?_)
            refine g_aload_n C hl dL_others_369 rfl ?_
            refine g_aload_n C hl dL_others_370 rfl ?_
            refine g_bipush 12 C dL_others_371 (by decide) ?_
            refine u_ald (112) C hk hM hR (uJ_w rfl (by decide)) dL_others_373 ?_
            rw [fU_s]
            have hc := aCl_u hJ.2.1 (by decide) hF
            refine g_callV C hl.1 hR hS rc_X8 md_X8_set ml_L_82 (c_X8_set l hI hJ.1 hc) rfl rfl ⟨Nat.le_of_ble_eq_true rfl, Nat.le_of_ble_eq_true rfl⟩ ⟨Nat.le_refl _, Nat.le_refl _⟩ (Nat.le_of_ble_eq_true rfl) dL_others_374 (fun v mem H locs hp hR hS => ?_)
            obtain ⟨e9, hc9⟩ := hp
            subst e9
            have hP := aSet_in (S := S) hw8
            rw [← hc9.2 8 (by decide)] at hM
            obtain ⟨T, hT, hJ⟩ : ∃ T, aZ T 178 ≤ aZ S 178 + 60 ∧ lR T mem := ⟨_, by
              rw [hP.2, fU_n _ _ (by omega)]
              omega, aI_set hJ.1 hJ.n4.1 _, hc9.1, by
              rw [hP.2]
              exact hM⟩
            refine g_iload C hl dL_others_377 rfl ?_
            refine g_aload_n C hl dL_others_379 rfl ?_
            refine g_bipush 12 C dL_others_380 (by decide) ?_
            refine u_ald (112) C hk hM hR (uJ_w rfl (by decide)) dL_others_382 ?_
            rw [fU_s]
            refine g_icmp_ne (tgt := 391) C dL_others_383 (by decide) (by have := hz.2.2.2.1; omega) (by omega) (fun c383 => ?_) (fun c383 => ?_)
            · -- 383 T
              refine g_iload C hl dL_others_391 rfl ?_
              refine lv_icmp_ne (tgt := 410) C.1 C.2.1 dL_others_393 (by decide) (fun z9 => absurd (by rw [hP.1, if_neg c383]) z9) (fun _ => ?_)
              refine g_aload_n C hl dL_others_396 rfl ?_
              refine g_iconst 2 C dL_others_397 (by decide) ?_
              refine g_callV C hl.1 hR hS rc_X8 md_X8_set ml_L_82 (c_X8_set l hI hJ.1 hJ.2.1) rfl rfl ⟨Nat.le_of_ble_eq_true rfl, Nat.le_of_ble_eq_true rfl⟩ ⟨Nat.le_refl _, Nat.le_refl _⟩ (Nat.le_of_ble_eq_true rfl) dL_others_398 (fun v mem H locs hp hR hS => ?_)
              obtain ⟨e9, hc9⟩ := hp
              rw [aSet_1 (by decide)] at e9 hc9
              subst e9
              have hJ := hJ.ob hc9
              refine g_bipushM (-2) C dL_others_401 (by decide) ?_
              refine lv_icmp_ne (tgt := 410) C.1 C.2.1 dL_others_403 (by decide) (fun z9 => absurd rfl z9) (fun _ => ?_)
              refine g_iconst 1 C dL_others_406 (by decide) ?_
              refine g_goto (tgt := 411) C dL_others_407 (by decide) ?_
              refine g_zret C hR hS dL_others_411 rfl ?_
              exact ⟨rfl, T, hJ, hT⟩
            · -- 383 F
              refine g_bipushM (-5) C dL_others_386 (by decide) ?_
              refine g_goto (tgt := 393) C dL_others_388 (by decide) ?_
              refine lv_icmp_ne (tgt := 410) C.1 C.2.1 dL_others_393 (by decide) (fun z9 => absurd (by rw [hP.1, if_pos c383]) z9) (fun _ => ?_)
              refine g_aload_n C hl dL_others_396 rfl ?_
              refine g_iconst 2 C dL_others_397 (by decide) ?_
              refine g_callV C hl.1 hR hS rc_X8 md_X8_set ml_L_82 (c_X8_set l hI hJ.1 hJ.2.1) rfl rfl ⟨Nat.le_of_ble_eq_true rfl, Nat.le_of_ble_eq_true rfl⟩ ⟨Nat.le_refl _, Nat.le_refl _⟩ (Nat.le_of_ble_eq_true rfl) dL_others_398 (fun v mem H locs hp hR hS => ?_)
              obtain ⟨e9, hc9⟩ := hp
              rw [aSet_1 (by decide)] at e9 hc9
              subst e9
              have hJ := hJ.ob hc9
              refine g_bipushM (-2) C dL_others_401 (by decide) ?_
              refine lv_icmp_ne (tgt := 410) C.1 C.2.1 dL_others_403 (by decide) (fun z9 => absurd rfl z9) (fun _ => ?_)
              refine g_iconst 1 C dL_others_406 (by decide) ?_
              refine g_goto (tgt := 411) C dL_others_407 (by decide) ?_
              refine g_zret C hR hS dL_others_411 rfl ?_
              exact ⟨rfl, T, hJ, hT⟩
        · -- 220 F
          refine g_iload_n C hl dL_others_223 rfl ?_
          refine g_iconst 3 C dL_others_224 (by decide) ?_
          refine lv_ishr C.1 C.2.1 dL_others_225 ?_
          refine g_bipush 8 C dL_others_226 (by decide) ?_
          refine g_callS C hl.1 hR hS md_L_low ml_L_66 (c_L_low l hI (by decide) (by decide)) rfl rfl ⟨Nat.le_of_ble_eq_true rfl, Nat.le_of_ble_eq_true rfl⟩ ⟨Nat.le_refl _, Nat.le_refl _⟩ (Nat.le_of_ble_eq_true rfl) dL_others_228 (fun v mem2 H locs hp hR hS => ?_)
          obtain ⟨r, hr, e9, e8⟩ := hp
          subst e9
          rw [e8] at hR
          clear e8
          refine g_istore C hl dL_others_231 (Nat.le_of_ble_eq_true rfl) (fun ls hl => ?_)
          refine g_iconst 0 C dL_others_233 (by decide) ?_
          refine g_istore C hl dL_others_234 (Nat.le_of_ble_eq_true rfl) (fun ls hl => ?_)
          refine g_iconst 0 C dL_others_236 (by decide) ?_
          refine g_istore C hl dL_others_237 (Nat.le_of_ble_eq_true rfl) (fun ls hl => ?_)
          obtain rfl : hw9 = 2 := by omega
          exact cpy b r hb hr 12 0 (by omega) _ hF hM _ _ _ hl hR hS
      · -- 141 F
        refine g_iload_n C hl dL_others_144 rfl ?_
        refine g_iconst 3 C dL_others_145 (by decide) ?_
        refine lv_ishr C.1 C.2.1 dL_others_146 ?_
        refine g_iconst 4 C dL_others_147 (by decide) ?_
        refine g_callS C hl.1 hR hS md_L_low ml_L_66 (c_L_low l hI (by decide) (by decide)) rfl rfl ⟨Nat.le_of_ble_eq_true rfl, Nat.le_of_ble_eq_true rfl⟩ ⟨Nat.le_refl _, Nat.le_refl _⟩ (Nat.le_of_ble_eq_true rfl) dL_others_148 (fun v mem2 H locs hp hR hS => ?_)
        obtain ⟨r, hr, e9, e8⟩ := hp
        subst e9
        rw [e8] at hR
        clear e8
        refine g_istore C hl dL_others_151 (Nat.le_of_ble_eq_true rfl) (fun ls hl => ?_)
        refine g_aload_n C hl dL_others_153 rfl ?_
        refine g_iload C hl dL_others_154 rfl ?_
        refine u_ald (100 + r) C hk hM hR (uJ_w rfl (by omega)) dL_others_156 ?_
        refine g_istore C hl dL_others_157 (Nat.le_of_ble_eq_true rfl) (fun ls hl => ?_)
        refine g_aload_n C hl dL_others_159 rfl ?_
        refine g_iload C hl dL_others_160 rfl ?_
        refine g_iload C hl dL_others_162 rfl ?_
        refine u_ast (100 + r) C hk hM hF hR hS (uJ_w rfl (by omega)) dL_others_164 (fun mem hM hF H locs hR hS => ?_)
        refine g_aload_n C hl dL_others_165 rfl ?_
        refine g_iload C hl dL_others_166 rfl ?_
        refine g_iload C hl dL_others_168 rfl ?_
        have hc := aCl_u hJ.2.1 (by decide) hF
        refine g_callV C hl.1 hR hS rc_X8 md_X8_show ml_L_76 (c_X8_show l hI hJ.1 hc) rfl rfl ⟨Nat.le_of_ble_eq_true rfl, Nat.le_of_ble_eq_true rfl⟩ ⟨Nat.le_refl _, Nat.le_refl _⟩ (Nat.le_of_ble_eq_true rfl) dL_others_170 (fun v mem H locs hp hR hS => ?_)
        obtain ⟨e9, hc9⟩ := hp
        subst e9
        have hP := aShow_in (S := S) hr hb
        rw [← hc9.2 8 (by decide)] at hM
        obtain ⟨T, hT, hJ⟩ : ∃ T, aZ T 178 ≤ aZ S 178 + 60 ∧ lR T mem := ⟨_, by
          rw [hP.2, fU_n _ _ (by omega)]
          omega, aI_show hJ.1 hJ.n4.1 _ _, hc9.1, by
          rw [hP.2]
          exact hM⟩
        refine g_iload C hl dL_others_173 rfl ?_
        refine g_iload C hl dL_others_175 rfl ?_
        refine g_icmp_ne (tgt := 185) C dL_others_177 (by decide) (by have := hz.2.1 r hr; omega) (by omega) (fun c177 => ?_) (fun c177 => ?_)
        · -- 177 T
          refine g_iload C hl dL_others_185 rfl ?_
          refine lv_icmp_ne (tgt := 215) C.1 C.2.1 dL_others_187 (by decide) (fun z9 => absurd (by rw [hP.1, if_neg c177]) z9) (fun _ => ?_)
          refine g_aload_n C hl dL_others_190 rfl ?_
          refine g_iconst 4 C dL_others_191 (by decide) ?_
          refine g_iconst 0 C dL_others_192 (by decide) ?_
          refine g_callV C hl.1 hR hS rc_X8 md_X8_show ml_L_76 (c_X8_show l hI hJ.1 hJ.2.1) rfl rfl ⟨Nat.le_of_ble_eq_true rfl, Nat.le_of_ble_eq_true rfl⟩ ⟨Nat.le_refl _, Nat.le_refl _⟩ (Nat.le_of_ble_eq_true rfl) dL_others_193 (fun v mem H locs hp hR hS => ?_)
          obtain ⟨e9, hc9⟩ := hp
          rw [aShow_1 (by decide)] at e9 hc9
          subst e9
          have hJ := hJ.ob hc9
          refine g_iconstM (-1) C dL_others_196 (by decide) ?_
          refine lv_icmp_ne (tgt := 215) C.1 C.2.1 dL_others_197 (by decide) (fun z9 => absurd rfl z9) (fun _ => ?_)
          refine g_aload_n C hl dL_others_200 rfl ?_
          refine g_iconst 0 C dL_others_201 (by decide) ?_
          refine g_bipush 8 C dL_others_202 (by decide) ?_
          refine g_callV C hl.1 hR hS rc_X8 md_X8_show ml_L_76 (c_X8_show l hI hJ.1 hJ.2.1) rfl rfl ⟨Nat.le_of_ble_eq_true rfl, Nat.le_of_ble_eq_true rfl⟩ ⟨Nat.le_refl _, Nat.le_refl _⟩ (Nat.le_of_ble_eq_true rfl) dL_others_204 (fun v mem H locs hp hR hS => ?_)
          obtain ⟨e9, hc9⟩ := hp
          rw [aShow_2 (by decide)] at e9 hc9
          subst e9
          have hJ := hJ.ob hc9
          refine g_iconstM (-1) C dL_others_207 (by decide) ?_
          refine lv_icmp_ne (tgt := 215) C.1 C.2.1 dL_others_208 (by decide) (fun z9 => absurd rfl z9) (fun _ => ?_)
          refine g_iconst 1 C dL_others_211 (by decide) ?_
          refine g_goto (tgt := 216) C dL_others_212 (by decide) ?_
          refine g_zret C hR hS dL_others_216 rfl ?_
          exact ⟨rfl, T, hJ, hT⟩
        · -- 177 F
          refine g_bipushM (-5) C dL_others_180 (by decide) ?_
          refine g_goto (tgt := 187) C dL_others_182 (by decide) ?_
          refine lv_icmp_ne (tgt := 215) C.1 C.2.1 dL_others_187 (by decide) (fun z9 => absurd (by rw [hP.1, if_pos c177]) z9) (fun _ => ?_)
          refine g_aload_n C hl dL_others_190 rfl ?_
          refine g_iconst 4 C dL_others_191 (by decide) ?_
          refine g_iconst 0 C dL_others_192 (by decide) ?_
          refine g_callV C hl.1 hR hS rc_X8 md_X8_show ml_L_76 (c_X8_show l hI hJ.1 hJ.2.1) rfl rfl ⟨Nat.le_of_ble_eq_true rfl, Nat.le_of_ble_eq_true rfl⟩ ⟨Nat.le_refl _, Nat.le_refl _⟩ (Nat.le_of_ble_eq_true rfl) dL_others_193 (fun v mem H locs hp hR hS => ?_)
          obtain ⟨e9, hc9⟩ := hp
          rw [aShow_1 (by decide)] at e9 hc9
          subst e9
          have hJ := hJ.ob hc9
          refine g_iconstM (-1) C dL_others_196 (by decide) ?_
          refine lv_icmp_ne (tgt := 215) C.1 C.2.1 dL_others_197 (by decide) (fun z9 => absurd rfl z9) (fun _ => ?_)
          refine g_aload_n C hl dL_others_200 rfl ?_
          refine g_iconst 0 C dL_others_201 (by decide) ?_
          refine g_bipush 8 C dL_others_202 (by decide) ?_
          refine g_callV C hl.1 hR hS rc_X8 md_X8_show ml_L_76 (c_X8_show l hI hJ.1 hJ.2.1) rfl rfl ⟨Nat.le_of_ble_eq_true rfl, Nat.le_of_ble_eq_true rfl⟩ ⟨Nat.le_refl _, Nat.le_refl _⟩ (Nat.le_of_ble_eq_true rfl) dL_others_204 (fun v mem H locs hp hR hS => ?_)
          obtain ⟨e9, hc9⟩ := hp
          rw [aShow_2 (by decide)] at e9 hc9
          subst e9
          have hJ := hJ.ob hc9
          refine g_iconstM (-1) C dL_others_207 (by decide) ?_
          refine lv_icmp_ne (tgt := 215) C.1 C.2.1 dL_others_208 (by decide) (fun z9 => absurd rfl z9) (fun _ => ?_)
          refine g_iconst 1 C dL_others_211 (by decide) ?_
          refine g_goto (tgt := 216) C dL_others_212 (by decide) ?_
          refine g_zret C hR hS dL_others_216 rfl ?_
          exact ⟨rfl, T, hJ, hT⟩
    · -- 18 F
      refine g_iload_n C hl dL_others_21 rfl ?_
      refine g_bipush 8 C dL_others_22 (by decide) ?_
      refine lv_iand C.1 C.2.1 dL_others_24 ?_
      refine lv_if_ne (tgt := 32) C.1 C.2.1 dL_others_25 (by decide) (fun _ => ?_) (fun _ => ?_)
      · -- 25 T
        refine g_iconst 0 C dL_others_32 (by decide) ?_
        refine g_istore C hl dL_others_33 (Nat.le_of_ble_eq_true rfl) (fun ls hl => ?_)
        obtain rfl : hw9 = 0 := by omega
        exact lk _ _ hb (by decide) _ _ _ hl hR hS
      · -- 25 F
        refine g_iconst 1 C dL_others_28 (by decide) ?_
        refine g_goto (tgt := 33) C dL_others_29 (by decide) ?_
        refine g_istore C hl dL_others_33 (Nat.le_of_ble_eq_true rfl) (fun ls hl => ?_)
        obtain rfl : hw9 = 0 := by omega
        exact lk _ _ hb (by decide) _ _ _ hl hR hS
  refine g_iload_n C hl dL_others_0 rfl ?_
  refine g_bipush 9 C dL_others_1 (by decide) ?_
  refine g_callS C hl.1 hR hS md_L_low ml_L_66 (c_L_low l hI (by decide) (by decide)) rfl rfl ⟨Nat.le_of_ble_eq_true rfl, Nat.le_of_ble_eq_true rfl⟩ ⟨Nat.le_refl _, Nat.le_refl _⟩ (Nat.le_of_ble_eq_true rfl) dL_others_3 (fun v mem2 H locs hp hR hS => ?_)
  obtain ⟨r1, hr1, e9, e8⟩ := hp
  subst e9
  rw [e8] at hR
  clear e8
  refine g_istore C hl dL_others_6 (Nat.le_of_ble_eq_true rfl) (fun ls hl => ?_)
  refine g_iload_n C hl dL_others_8 rfl ?_
  refine g_bipush 8 C dL_others_9 (by decide) ?_
  refine g_callS C hl.1 hR hS md_L_low ml_L_66 (c_L_low l hI (by decide) (by decide)) rfl rfl ⟨Nat.le_of_ble_eq_true rfl, Nat.le_of_ble_eq_true rfl⟩ ⟨Nat.le_refl _, Nat.le_refl _⟩ (Nat.le_of_ble_eq_true rfl) dL_others_11 (fun v mem2 H locs hp hR hS => ?_)
  obtain ⟨r2, hr2, e9, e8⟩ := hp
  subst e9
  rw [e8] at hR
  clear e8
  refine g_istore C hl dL_others_14 (Nat.le_of_ble_eq_true rfl) (fun ls hl => ?_)
  exact go16 _ _ hr1 hr2 _ _ _ hl hR hS
