/-! ===== Code: a number ===== -/
theorem vDg_y {n i : Nat} {t : Nat → Nat} (h : 48 ≤ pSg n t i ∧ pSg n t i ≤ 57) : vDg n t i = nI (pSg n t i - 48) := if_pos h
theorem vDg_n {n i : Nat} {t : Nat → Nat} (h : ¬ (48 ≤ pSg n t i ∧ pSg n t i ≤ 57)) : vDg n t i = -1 := if_neg h
theorem c_dig_y (l : Launch) {X : gX} (hI : gInj X) {mem : gM} {n : Nat} {t : Nat → Nat} (hx : hTx mem n t) {i : Nat} (hi : i < 2 ^ 31) (h : 48 ≤ pSg n t i ∧ pSg n t i ≤ 57) : gF l yX1_digitAt cX1_digitAt 3 (some .int) 1 21 X [.ref (gAd X 7 3), .int (nI i)] mem (some (.int (nI (pSg n t i - 48)))) mem := by
  rw [← vDg_y h]
  exact c_X1_digitAt l hI hx hi
theorem c_dig_n (l : Launch) {X : gX} (hI : gInj X) {mem : gM} {n : Nat} {t : Nat → Nat} (hx : hTx mem n t) {i : Nat} (hi : i < 2 ^ 31) (h : ¬ (48 ≤ pSg n t i ∧ pSg n t i ≤ 57)) : gF l yX1_digitAt cX1_digitAt 3 (some .int) 1 21 X [.ref (gAd X 7 3), .int (nI i)] mem (some (.int (-1))) mem := by
  rw [← vDg_n h]
  exact c_X1_digitAt l hI hx hi
theorem pN1_0 (n : Nat) (t : Nat → Nat) (p9 : Nat) : pN1 n t (p9, 0) = if pSg n t p9 = 32 then (p9 + 1, 0) else (p9, 1) := by
  unfold pN1 pTc pTk
  by_cases h : pSg n t p9 = 32
  · rw [if_pos h, if_pos (show pSg n t (p9, 0).1 = 32 from h)]; rfl
  · rw [if_neg h, if_neg (show ¬ pSg n t (p9, 0).1 = 32 from h)]; rfl
theorem pN_1 {n : Nat} {t : Nat → Nat} {p9 m9 : Nat} (h : ¬ pSg n t p9 = 32) : pNq n t (p9, 0) m9 = (p9, 1) := by
  have e1 : pN1 n t (p9, 0) = (p9, 1) := by rw [pN1_0, if_neg h]
  have e2 : pN2 n t (p9, 0) m9 = (p9, 1) := by
    unfold pN2
    rw [e1]
    rfl
  unfold pNq
  rw [e2]
  exact if_neg (fun z => absurd (show 1 = 0 from z.1) (by decide))
theorem pN_2 {n : Nat} {t : Nat → Nat} {p9 m9 : Nat} (h : pSg n t p9 = 32) (h2 : ¬ ((48 ≤ pSg n t (p9 + 1) ∧ pSg n t (p9 + 1) ≤ 57) ∧ pSg n t (p9 + 1) - 48 ≤ m9)) : pNq n t (p9, 0) m9 = (p9 + 1, 1) := by
  have e1 : pN1 n t (p9, 0) = (p9 + 1, 0) := by rw [pN1_0, if_pos h]
  have e2 : pN2 n t (p9, 0) m9 = (p9 + 1, 1) := by
    unfold pN2
    rw [e1, if_neg h2]
    rfl
  unfold pNq
  rw [e2]
  exact if_neg (fun z => absurd (show 1 = 0 from z.1) (by decide))
theorem pN_ok {n : Nat} {t : Nat → Nat} {p9 m9 : Nat} (h : pSg n t p9 = 32) (h2 : (48 ≤ pSg n t (p9 + 1) ∧ pSg n t (p9 + 1) ≤ 57) ∧ pSg n t (p9 + 1) - 48 ≤ m9) : pN2 n t (p9, 0) m9 = (p9 + 1 + 1, 0) ∧ pNa n t (p9, 0) = pSg n t (p9 + 1) - 48 ∧ pNb n t (p9, 0) m9 = 10 * (pSg n t (p9 + 1) - 48) + pSg n t (p9 + 1 + 1) - 48 := by
  have e1 : pN1 n t (p9, 0) = (p9 + 1, 0) := by rw [pN1_0, if_pos h]
  have e2 : pN2 n t (p9, 0) m9 = (p9 + 1 + 1, 0) := by
    unfold pN2
    rw [e1, if_pos h2]
    rfl
  have e3 : pNa n t (p9, 0) = pSg n t (p9 + 1) - 48 := by
    unfold pNa
    rw [e1]
  refine ⟨e2, e3, ?_⟩
  unfold pNb
  rw [e2, e3]
theorem pN_3 {n : Nat} {t : Nat → Nat} {p9 m9 : Nat} (h : pSg n t p9 = 32) (h2 : (48 ≤ pSg n t (p9 + 1) ∧ pSg n t (p9 + 1) ≤ 57) ∧ pSg n t (p9 + 1) - 48 ≤ m9) (h3 : 0 < pSg n t (p9 + 1) - 48) (h4 : 48 ≤ pSg n t (p9 + 1 + 1) ∧ pSg n t (p9 + 1 + 1) ≤ 57) (h5 : (pSg n t (p9 + 1) - 48) * 10 + (pSg n t (p9 + 1 + 1) - 48) ≤ m9) : pNq n t (p9, 0) m9 = (p9 + 1 + 1 + 1, 0) ∧ pNv n t (p9, 0) m9 = (pSg n t (p9 + 1) - 48) * 10 + (pSg n t (p9 + 1 + 1) - 48) := by
  obtain ⟨e2, e3, e4⟩ := pN_ok h h2
  unfold pNq pNv
  rw [e2, e3, e4]
  constructor
  · exact if_pos ⟨rfl, h3, h4, by omega⟩
  · rw [if_pos ⟨h3, h4, by omega⟩]
    omega
theorem pN_4 {n : Nat} {t : Nat → Nat} {p9 m9 : Nat} (h : pSg n t p9 = 32) (h2 : (48 ≤ pSg n t (p9 + 1) ∧ pSg n t (p9 + 1) ≤ 57) ∧ pSg n t (p9 + 1) - 48 ≤ m9) (h3 : ¬ (0 < pSg n t (p9 + 1) - 48 ∧ (48 ≤ pSg n t (p9 + 1 + 1) ∧ pSg n t (p9 + 1 + 1) ≤ 57) ∧ (pSg n t (p9 + 1) - 48) * 10 + (pSg n t (p9 + 1 + 1) - 48) ≤ m9)) : pNq n t (p9, 0) m9 = (p9 + 1 + 1, 0) ∧ pNv n t (p9, 0) m9 = pSg n t (p9 + 1) - 48 := by
  obtain ⟨e2, e3, e4⟩ := pN_ok h h2
  unfold pNq pNv
  rw [e2, e3, e4]
  constructor
  · exact if_neg (fun z => h3 ⟨z.2.1, z.2.2.1, by have z4 : 48 ≤ pSg n t (p9 + 1 + 1) := z.2.2.1.1; have z5 : 10 * (pSg n t (p9 + 1) - 48) + pSg n t (p9 + 1 + 1) - 48 ≤ m9 := z.2.2.2; omega⟩)
  · exact if_neg (fun z => h3 ⟨z.1, z.2.1, by have z4 : 48 ≤ pSg n t (p9 + 1 + 1) := z.2.1.1; have z5 : 10 * (pSg n t (p9 + 1) - 48) + pSg n t (p9 + 1 + 1) - 48 ≤ m9 := z.2.2; omega⟩)
def vNum (n : Nat) (t : Nat → Nat) (p9 m9 : Nat) : Nat := if (pNq n t (p9, 0) m9).2 = 0 then pNv n t (p9, 0) m9 else 0
theorem vNum_0 {n : Nat} {t : Nat → Nat} {p9 m9 a : Nat} (h : pNq n t (p9, 0) m9 = (a, 1)) : vNum n t p9 m9 = 0 := by
  unfold vNum
  rw [h]
  exact if_neg (by show ¬ 1 = 0; decide)
theorem vNum_1 {n : Nat} {t : Nat → Nat} {p9 m9 a : Nat} (h : pNq n t (p9, 0) m9 = (a, 0)) : vNum n t p9 m9 = pNv n t (p9, 0) m9 := by
  unfold vNum
  rw [h]
  exact if_pos rfl
set_option maxRecDepth 100000 in
set_option maxHeartbeats 4000000 in
/-- X1_readNumber -/
theorem c_X1_readNumber (l : Launch) {X : gX} (hI : gInj X) {mem : gM} {n : Nat} {t : Nat → Nat} (hx : hTx mem n t) {f : Nat → Nat} {p9 s9 m9 : Nat} (hp : p9 ≤ 80) (hm : m9 ≤ 99) : gF l yX1_readNumber cX1_readNumber 5 (some .int) 2 43 X [.ref (gAd X 7 5), .ref (gAd X 7 3), .int (nI m9)] (gP mem 7 5 (cT f p9 s9)) (some (.int (nI (vNum n t p9 m9)))) (gP mem 7 5 (cT f (pNq n t (p9, 0) m9).1 (1 - (pNq n t (p9, 0) m9).2))) := by
  refine gMt.of (own := RX1) (by decide) rfl hI (by simp [Value.category]) (Nat.le_of_ble_eq_true rfl) ?_
  intro p e s m args below meth c ls H locs C hnm hl hR hS
  refine g_aload_n C hl dX1_readNumber_0 rfl ?_
  refine g_aload_n C hl dX1_readNumber_1 rfl ?_
  refine g_aload_n C hl dX1_readNumber_2 rfl ?_
  refine xg_2 C hR fl_X1_24 dX1_readNumber_3 ?_
  refine g_callVi C hl.1 hR hS rc_X6 md_X6_at ml_X1_39 (c_X6_at l hI (hx.p _) (by omega)) rfl rfl ⟨Nat.le_of_ble_eq_true rfl, Nat.le_of_ble_eq_true rfl⟩ ⟨Nat.le_refl _, Nat.le_refl _⟩ (Nat.le_of_ble_eq_true rfl) dX1_readNumber_6 (fun H locs hR hS => ?_)
  refine g_bipush 32 C dX1_readNumber_9 (by decide) ?_
  refine g_at_ne (tgt := 18) C dX1_readNumber_11 (by decide) hx.2.2.2 (by decide) (by decide) (fun c11 => ?_) (fun c11 => ?_)
  · -- 11 T
    refine g_iconst 0 C dX1_readNumber_18 (by decide) ?_
    refine xp_3 C hR hS (by decide) fl_X1_35 dX1_readNumber_19 (fun H locs hR hS => ?_)
    refine g_aload_n C hl dX1_readNumber_22 rfl ?_
    refine xg_3 C hR fl_X1_35 dX1_readNumber_23 ?_
    refine g_if_ne (tgt := 31) C dX1_readNumber_26 (by decide) (by decide) (fun z9 => absurd z9 (by decide)) (fun c26 => ?_)
    refine g_iconst 0 C dX1_readNumber_29 (by decide) ?_
    refine g_iret C hR hS dX1_readNumber_30 ?_
    have eq9 : pNq n t (p9, 0) m9 = (p9, 1) := pN_1 c11
    have ev9 : vNum n t p9 m9 = 0 := vNum_0 eq9
    rw [eq9, ev9]
    exact ⟨rfl, rfl⟩
  · -- 11 F
    refine g_iconst 1 C dX1_readNumber_14 (by decide) ?_
    refine g_goto (tgt := 19) C dX1_readNumber_15 (by decide) ?_
    refine xp_3 C hR hS (by decide) fl_X1_35 dX1_readNumber_19 (fun H locs hR hS => ?_)
    refine g_aload_n C hl dX1_readNumber_22 rfl ?_
    refine xg_3 C hR fl_X1_35 dX1_readNumber_23 ?_
    refine g_if_ne (tgt := 31) C dX1_readNumber_26 (by decide) (by decide) (fun c26 => ?_) (fun z9 => absurd z9 (by decide))
    refine g_aload_n C hl dX1_readNumber_31 rfl ?_
    refine g_dup C dX1_readNumber_32 rfl ?_
    refine xg_2 C hR fl_X1_24 dX1_readNumber_33 ?_
    refine g_iconst 1 C dX1_readNumber_36 (by decide) ?_
    refine g_iadd C dX1_readNumber_37 ?_
    refine xp_2 C hR hS fl_X1_24 dX1_readNumber_38 (fun H locs hR hS => ?_)
    refine g_aload_n C hl dX1_readNumber_41 rfl ?_
    refine g_aload_n C hl dX1_readNumber_42 rfl ?_
    refine xg_2 C hR fl_X1_24 dX1_readNumber_43 ?_
    by_cases hd : 48 ≤ pSg n t (p9 + 1) ∧ pSg n t (p9 + 1) ≤ 57
    · -- 46 p
      refine g_callSi C hl.1 hR hS md_X1_digitAt ml_X1_76 (c_dig_y l hI (hx.p _) (by omega) hd) rfl rfl ⟨Nat.le_of_ble_eq_true rfl, Nat.le_of_ble_eq_true rfl⟩ ⟨Nat.le_refl _, Nat.le_refl _⟩ (Nat.le_of_ble_eq_true rfl) dX1_readNumber_46 (fun H locs hR hS => ?_)
      refine g_istore_n C hl dX1_readNumber_49 (Nat.le_of_ble_eq_true rfl) (fun ls hl => ?_)
      refine g_aload_n C hl dX1_readNumber_50 rfl ?_
      refine g_iload_n C hl dX1_readNumber_51 rfl ?_
      refine g_if_lt (tgt := 64) C dX1_readNumber_52 (by decide) (by omega) ?_
      refine g_iload_n C hl dX1_readNumber_55 rfl ?_
      refine g_iload_n C hl dX1_readNumber_56 rfl ?_
      refine g_icmp_gt (tgt := 64) C dX1_readNumber_57 (by decide) (by omega) (by omega) (fun c57 => ?_) (fun c57 => ?_)
      · -- 57 T
        refine g_iconst 0 C dX1_readNumber_64 (by decide) ?_
        refine xp_3 C hR hS (by decide) fl_X1_35 dX1_readNumber_65 (fun H locs hR hS => ?_)
        refine g_aload_n C hl dX1_readNumber_68 rfl ?_
        refine xg_3 C hR fl_X1_35 dX1_readNumber_69 ?_
        refine g_if_ne (tgt := 77) C dX1_readNumber_72 (by decide) (by decide) (fun z9 => absurd z9 (by decide)) (fun c72 => ?_)
        refine g_iconst 0 C dX1_readNumber_75 (by decide) ?_
        refine g_iret C hR hS dX1_readNumber_76 ?_
        have eq9 : pNq n t (p9, 0) m9 = (p9 + 1, 1) := pN_2 c11 (by omega)
        have ev9 : vNum n t p9 m9 = 0 := vNum_0 eq9
        rw [eq9, ev9]
        exact ⟨rfl, rfl⟩
      · -- 57 F
        refine g_iconst 1 C dX1_readNumber_60 (by decide) ?_
        refine g_goto (tgt := 65) C dX1_readNumber_61 (by decide) ?_
        refine xp_3 C hR hS (by decide) fl_X1_35 dX1_readNumber_65 (fun H locs hR hS => ?_)
        refine g_aload_n C hl dX1_readNumber_68 rfl ?_
        refine xg_3 C hR fl_X1_35 dX1_readNumber_69 ?_
        refine g_if_ne (tgt := 77) C dX1_readNumber_72 (by decide) (by decide) (fun c72 => ?_) (fun z9 => absurd z9 (by decide))
        refine g_aload_n C hl dX1_readNumber_77 rfl ?_
        refine g_dup C dX1_readNumber_78 rfl ?_
        refine xg_2 C hR fl_X1_24 dX1_readNumber_79 ?_
        refine g_iconst 1 C dX1_readNumber_82 (by decide) ?_
        refine g_iadd C dX1_readNumber_83 ?_
        refine xp_2 C hR hS fl_X1_24 dX1_readNumber_84 (fun H locs hR hS => ?_)
        refine g_aload_n C hl dX1_readNumber_87 rfl ?_
        refine g_aload_n C hl dX1_readNumber_88 rfl ?_
        refine xg_2 C hR fl_X1_24 dX1_readNumber_89 ?_
        by_cases hd2 : 48 ≤ pSg n t (p9 + 1 + 1) ∧ pSg n t (p9 + 1 + 1) ≤ 57
        · -- 92 p
          refine g_callSi C hl.1 hR hS md_X1_digitAt ml_X1_76 (c_dig_y l hI (hx.p _) (by omega) hd2) rfl rfl ⟨Nat.le_of_ble_eq_true rfl, Nat.le_of_ble_eq_true rfl⟩ ⟨Nat.le_refl _, Nat.le_refl _⟩ (Nat.le_of_ble_eq_true rfl) dX1_readNumber_92 (fun H locs hR hS => ?_)
          refine g_istore C hl dX1_readNumber_95 (Nat.le_of_ble_eq_true rfl) (fun ls hl => ?_)
          refine g_iload_n C hl dX1_readNumber_97 rfl ?_
          refine g_if_le (tgt := 135) C dX1_readNumber_98 (by decide) (by omega) (fun c98 => ?_) (fun c98 => ?_)
          · -- 98 T
            refine g_iload_n C hl dX1_readNumber_135 rfl ?_
            refine g_iret C hR hS dX1_readNumber_136 ?_
            have eq9 : pNq n t (p9, 0) m9 = (p9 + 1 + 1, 0) := (pN_4 c11 ⟨hd, by omega⟩ (by omega)).1
            have ev9 : vNum n t p9 m9 = pSg n t (p9 + 1) - 48 := (vNum_1 eq9).trans (pN_4 c11 ⟨hd, by omega⟩ (by omega)).2
            rw [eq9, ev9]
            exact ⟨rfl, rfl⟩
          · -- 98 F
            refine g_iload C hl dX1_readNumber_101 rfl ?_
            refine g_if_lt (tgt := 135) C dX1_readNumber_103 (by decide) (by omega) ?_
            refine g_iload_n C hl dX1_readNumber_106 rfl ?_
            refine g_bipush 10 C dX1_readNumber_107 (by decide) ?_
            refine g_imul C dX1_readNumber_109 ?_
            refine g_iload C hl dX1_readNumber_110 rfl ?_
            refine g_iadd C dX1_readNumber_112 ?_
            refine g_iload_n C hl dX1_readNumber_113 rfl ?_
            refine g_icmp_gt (tgt := 135) C dX1_readNumber_114 (by decide) (by omega) (by omega) (fun c114 => ?_) (fun c114 => ?_)
            · -- 114 T
              refine g_iload_n C hl dX1_readNumber_135 rfl ?_
              refine g_iret C hR hS dX1_readNumber_136 ?_
              have eq9 : pNq n t (p9, 0) m9 = (p9 + 1 + 1, 0) := (pN_4 c11 ⟨hd, by omega⟩ (by omega)).1
              have ev9 : vNum n t p9 m9 = pSg n t (p9 + 1) - 48 := (vNum_1 eq9).trans (pN_4 c11 ⟨hd, by omega⟩ (by omega)).2
              rw [eq9, ev9]
              exact ⟨rfl, rfl⟩
            · -- 114 F
              refine g_iload_n C hl dX1_readNumber_117 rfl ?_
              refine g_bipush 10 C dX1_readNumber_118 (by decide) ?_
              refine g_imul C dX1_readNumber_120 ?_
              refine g_iload C hl dX1_readNumber_121 rfl ?_
              refine g_iadd C dX1_readNumber_123 ?_
              refine g_istore_n C hl dX1_readNumber_124 (Nat.le_of_ble_eq_true rfl) (fun ls hl => ?_)
              refine g_aload_n C hl dX1_readNumber_125 rfl ?_
              refine g_dup C dX1_readNumber_126 rfl ?_
              refine xg_2 C hR fl_X1_24 dX1_readNumber_127 ?_
              refine g_iconst 1 C dX1_readNumber_130 (by decide) ?_
              refine g_iadd C dX1_readNumber_131 ?_
              refine xp_2 C hR hS fl_X1_24 dX1_readNumber_132 (fun H locs hR hS => ?_)
              refine g_iload_n C hl dX1_readNumber_135 rfl ?_
              refine g_iret C hR hS dX1_readNumber_136 ?_
              have eq9 : pNq n t (p9, 0) m9 = (p9 + 1 + 1 + 1, 0) := (pN_3 c11 ⟨hd, by omega⟩ (by omega) hd2 (by omega)).1
              have ev9 : vNum n t p9 m9 = (pSg n t (p9 + 1) - 48) * 10 + (pSg n t (p9 + 1 + 1) - 48) := (vNum_1 eq9).trans (pN_3 c11 ⟨hd, by omega⟩ (by omega) hd2 (by omega)).2
              rw [eq9, ev9]
              exact ⟨rfl, rfl⟩
        · -- 92 q
          refine g_callSi C hl.1 hR hS md_X1_digitAt ml_X1_76 (c_dig_n l hI (hx.p _) (by omega) hd2) rfl rfl ⟨Nat.le_of_ble_eq_true rfl, Nat.le_of_ble_eq_true rfl⟩ ⟨Nat.le_refl _, Nat.le_refl _⟩ (Nat.le_of_ble_eq_true rfl) dX1_readNumber_92 (fun H locs hR hS => ?_)
          refine g_istore C hl dX1_readNumber_95 (Nat.le_of_ble_eq_true rfl) (fun ls hl => ?_)
          refine g_iload_n C hl dX1_readNumber_97 rfl ?_
          refine g_if_le (tgt := 135) C dX1_readNumber_98 (by decide) (by omega) (fun c98 => ?_) (fun c98 => ?_)
          · -- 98 T
            refine g_iload_n C hl dX1_readNumber_135 rfl ?_
            refine g_iret C hR hS dX1_readNumber_136 ?_
            have eq9 : pNq n t (p9, 0) m9 = (p9 + 1 + 1, 0) := (pN_4 c11 ⟨hd, by omega⟩ (by omega)).1
            have ev9 : vNum n t p9 m9 = pSg n t (p9 + 1) - 48 := (vNum_1 eq9).trans (pN_4 c11 ⟨hd, by omega⟩ (by omega)).2
            rw [eq9, ev9]
            exact ⟨rfl, rfl⟩
          · -- 98 F
            refine g_iload C hl dX1_readNumber_101 rfl ?_
            refine lv_if_lt (tgt := 135) C.1 C.2.1 dX1_readNumber_103 (by decide) (fun _ => ?_) (fun z9 => absurd (by decide) z9)
            refine g_iload_n C hl dX1_readNumber_135 rfl ?_
            refine g_iret C hR hS dX1_readNumber_136 ?_
            have eq9 : pNq n t (p9, 0) m9 = (p9 + 1 + 1, 0) := (pN_4 c11 ⟨hd, by omega⟩ (by omega)).1
            have ev9 : vNum n t p9 m9 = pSg n t (p9 + 1) - 48 := (vNum_1 eq9).trans (pN_4 c11 ⟨hd, by omega⟩ (by omega)).2
            rw [eq9, ev9]
            exact ⟨rfl, rfl⟩
    · -- 46 q
      refine g_callSi C hl.1 hR hS md_X1_digitAt ml_X1_76 (c_dig_n l hI (hx.p _) (by omega) hd) rfl rfl ⟨Nat.le_of_ble_eq_true rfl, Nat.le_of_ble_eq_true rfl⟩ ⟨Nat.le_refl _, Nat.le_refl _⟩ (Nat.le_of_ble_eq_true rfl) dX1_readNumber_46 (fun H locs hR hS => ?_)
      refine g_istore_n C hl dX1_readNumber_49 (Nat.le_of_ble_eq_true rfl) (fun ls hl => ?_)
      refine g_aload_n C hl dX1_readNumber_50 rfl ?_
      refine g_iload_n C hl dX1_readNumber_51 rfl ?_
      refine lv_if_lt (tgt := 64) C.1 C.2.1 dX1_readNumber_52 (by decide) (fun _ => ?_) (fun z9 => absurd (by decide) z9)
      refine g_iconst 0 C dX1_readNumber_64 (by decide) ?_
      refine xp_3 C hR hS (by decide) fl_X1_35 dX1_readNumber_65 (fun H locs hR hS => ?_)
      refine g_aload_n C hl dX1_readNumber_68 rfl ?_
      refine xg_3 C hR fl_X1_35 dX1_readNumber_69 ?_
      refine g_if_ne (tgt := 77) C dX1_readNumber_72 (by decide) (by decide) (fun z9 => absurd z9 (by decide)) (fun c72 => ?_)
      refine g_iconst 0 C dX1_readNumber_75 (by decide) ?_
      refine g_iret C hR hS dX1_readNumber_76 ?_
      have eq9 : pNq n t (p9, 0) m9 = (p9 + 1, 1) := pN_2 c11 (fun z => hd z.1)
      have ev9 : vNum n t p9 m9 = 0 := vNum_0 eq9
      rw [eq9, ev9]
      exact ⟨rfl, rfl⟩
