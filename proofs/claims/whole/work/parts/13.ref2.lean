/-! ===== the reference: a step ===== -/
set_option maxRecDepth 100000 in
set_option maxHeartbeats 4000000 in
/-- whyNot -/
theorem c_X9_whyNot (l : Launch) {X : gX} (hI : gInj X) {mem : gM} {f z a o k t r : Nat → Nat} {kind n : Nat} (hz : zI z) (hk : kind < 10) (hn : n < 100) : gF l yX9_whyNot cX9_whyNot 4 (some .int) 2 42 X [.ref (gAd X 8 0), .int (nI kind), .int (nI n)] (gM8 mem f z a o k t r) (some (.int (nI (zWhy z kind n)))) (gM8 mem f z a o k t r) := by
  refine gMt.of (own := RX9) (by decide) rfl hI (by simp [Value.category]) (Nat.le_of_ble_eq_true rfl) ?_
  intro p e s m args below meth c ls H locs C hnm hl hR hS
  have h116 := hz.2.2.2.2.2.2.2.1
  refine g_iload_n C hl dX9_whyNot_0 rfl ?_
  refine g_iconst 2 C dX9_whyNot_1 (by decide) ?_
  refine g_iconst 5 C dX9_whyNot_2 (by decide) ?_
  refine g_callSi C hl.1 hR hS md_X9_in ml_X9_28 (c_X9_in l hI (by decide) (by decide)) rfl rfl ⟨Nat.le_of_ble_eq_true rfl, Nat.le_of_ble_eq_true rfl⟩ ⟨Nat.le_refl _, Nat.le_refl _⟩ (Nat.le_of_ble_eq_true rfl) dX9_whyNot_3 (fun H locs hR hS => ?_)
  refine g_ifw_eq (tgt := 20) C dX9_whyNot_6 (by decide) (by omega) (fun c6 => ?_) (fun c6 => ?_)
  · -- 6 T
    refine g_iconst 0 C dX9_whyNot_20 (by decide) ?_
    refine g_istore_n C hl dX9_whyNot_21 (Nat.le_of_ble_eq_true rfl) (fun ls hl => ?_)
    refine g_iload_n C hl dX9_whyNot_22 rfl ?_
    refine g_if_ne (tgt := 68) C dX9_whyNot_23 (by decide) (by omega) (fun z9 => absurd z9 (by omega)) (fun c23 => ?_)
    refine g_iload_n C hl dX9_whyNot_26 rfl ?_
    refine g_bipush 6 C dX9_whyNot_27 (by decide) ?_
    refine g_icmp_ne (tgt := 52) C dX9_whyNot_29 (by decide) (by omega) (by omega) (fun c29 => ?_) (fun c29 => ?_)
    · -- 29 T
      refine g_iload_n C hl dX9_whyNot_52 rfl ?_
      refine g_bipush 7 C dX9_whyNot_53 (by decide) ?_
      refine g_icmp_ne (tgt := 72) C dX9_whyNot_55 (by decide) (by omega) (by omega) (fun c55 => ?_) (fun c55 => ?_)
      · -- 55 T
        refine g_iconst 0 C dX9_whyNot_72 (by decide) ?_
        refine g_istore_n C hl dX9_whyNot_73 (Nat.le_of_ble_eq_true rfl) (fun ls hl => ?_)
        refine g_iload_n C hl dX9_whyNot_74 rfl ?_
        refine g_if_eq (tgt := 80) C dX9_whyNot_75 (by decide) (by omega) (fun c75 => ?_) (fun z9 => absurd z9 (by omega))
        refine g_iload_n C hl dX9_whyNot_80 rfl ?_
        refine g_bipush 7 C dX9_whyNot_81 (by decide) ?_
        refine g_icmp_ne (tgt := 102) C dX9_whyNot_83 (by decide) (by omega) (by omega) (fun c83 => ?_) (fun c83 => ?_)
        · -- 83 T
          refine g_iload_n C hl dX9_whyNot_102 rfl ?_
          refine g_bipush 8 C dX9_whyNot_103 (by decide) ?_
          refine g_icmp_ne (tgt := 122) C dX9_whyNot_105 (by decide) (by omega) (by omega) (fun c105 => ?_) (fun c105 => ?_)
          · -- 105 T
            refine g_iconst 0 C dX9_whyNot_122 (by decide) ?_
            refine g_iret C hR hS dX9_whyNot_123 ?_
            refine ⟨?_, rfl⟩
            unfold zWhy
            first | (exfalso; omega) | rw [if_pos (by omega)] | rw [if_neg (by omega), if_pos (by omega)] | rw [if_neg (by omega), if_neg (by omega), if_pos (by omega)] | rw [if_neg (by omega), if_neg (by omega), if_neg (by omega)]
          · -- 105 F
            refine g_aload_n C hl dX9_whyNot_108 rfl ?_
            refine gt_X9_0 C hR fl_X9_7 dX9_whyNot_109 ?_
            refine g_bipush 116 C dX9_whyNot_112 (by decide) ?_
            refine r_ald1 C hR (by omega) dX9_whyNot_114 ?_
            refine g_if_ne (tgt := 122) C dX9_whyNot_115 (by decide) (by omega) (fun c115 => ?_) (fun c115 => ?_)
            · -- 115 T
              refine g_iconst 0 C dX9_whyNot_122 (by decide) ?_
              refine g_iret C hR hS dX9_whyNot_123 ?_
              refine ⟨?_, rfl⟩
              unfold zWhy
              first | (exfalso; omega) | rw [if_pos (by omega)] | rw [if_neg (by omega), if_pos (by omega)] | rw [if_neg (by omega), if_neg (by omega), if_pos (by omega)] | rw [if_neg (by omega), if_neg (by omega), if_neg (by omega)]
            · -- 115 F
              refine g_iconst 5 C dX9_whyNot_118 (by decide) ?_
              refine g_goto (tgt := 123) C dX9_whyNot_119 (by decide) ?_
              refine g_iret C hR hS dX9_whyNot_123 ?_
              refine ⟨?_, rfl⟩
              unfold zWhy
              first | (exfalso; omega) | rw [if_pos (by omega)] | rw [if_neg (by omega), if_pos (by omega)] | rw [if_neg (by omega), if_neg (by omega), if_pos (by omega)] | rw [if_neg (by omega), if_neg (by omega), if_neg (by omega)]
        · -- 83 F
          refine g_aload_n C hl dX9_whyNot_86 rfl ?_
          refine gt_X9_0 C hR fl_X9_7 dX9_whyNot_87 ?_
          refine g_bipush 116 C dX9_whyNot_90 (by decide) ?_
          refine r_ald1 C hR (by omega) dX9_whyNot_92 ?_
          refine g_bipush 8 C dX9_whyNot_93 (by decide) ?_
          refine g_icmp_ne (tgt := 102) C dX9_whyNot_95 (by decide) (by omega) (by omega) (fun c95 => ?_) (fun c95 => ?_)
          · -- 95 T
            refine g_iload_n C hl dX9_whyNot_102 rfl ?_
            refine g_bipush 8 C dX9_whyNot_103 (by decide) ?_
            refine g_icmp_ne (tgt := 122) C dX9_whyNot_105 (by decide) (by omega) (by omega) (fun c105 => ?_) (fun c105 => ?_)
            · -- 105 T
              refine g_iconst 0 C dX9_whyNot_122 (by decide) ?_
              refine g_iret C hR hS dX9_whyNot_123 ?_
              refine ⟨?_, rfl⟩
              unfold zWhy
              first | (exfalso; omega) | rw [if_pos (by omega)] | rw [if_neg (by omega), if_pos (by omega)] | rw [if_neg (by omega), if_neg (by omega), if_pos (by omega)] | rw [if_neg (by omega), if_neg (by omega), if_neg (by omega)]
            · -- 105 F
              refine g_aload_n C hl dX9_whyNot_108 rfl ?_
              refine gt_X9_0 C hR fl_X9_7 dX9_whyNot_109 ?_
              refine g_bipush 116 C dX9_whyNot_112 (by decide) ?_
              refine r_ald1 C hR (by omega) dX9_whyNot_114 ?_
              refine g_if_ne (tgt := 122) C dX9_whyNot_115 (by decide) (by omega) (fun c115 => ?_) (fun c115 => ?_)
              · -- 115 T
                refine g_iconst 0 C dX9_whyNot_122 (by decide) ?_
                refine g_iret C hR hS dX9_whyNot_123 ?_
                refine ⟨?_, rfl⟩
                unfold zWhy
                first | (exfalso; omega) | rw [if_pos (by omega)] | rw [if_neg (by omega), if_pos (by omega)] | rw [if_neg (by omega), if_neg (by omega), if_pos (by omega)] | rw [if_neg (by omega), if_neg (by omega), if_neg (by omega)]
              · -- 115 F
                refine g_iconst 5 C dX9_whyNot_118 (by decide) ?_
                refine g_goto (tgt := 123) C dX9_whyNot_119 (by decide) ?_
                refine g_iret C hR hS dX9_whyNot_123 ?_
                refine ⟨?_, rfl⟩
                unfold zWhy
                first | (exfalso; omega) | rw [if_pos (by omega)] | rw [if_neg (by omega), if_pos (by omega)] | rw [if_neg (by omega), if_neg (by omega), if_pos (by omega)] | rw [if_neg (by omega), if_neg (by omega), if_neg (by omega)]
          · -- 95 F
            refine g_iconst 4 C dX9_whyNot_98 (by decide) ?_
            refine g_goto (tgt := 123) C dX9_whyNot_99 (by decide) ?_
            refine g_iret C hR hS dX9_whyNot_123 ?_
            refine ⟨?_, rfl⟩
            unfold zWhy
            first | (exfalso; omega) | rw [if_pos (by omega)] | rw [if_neg (by omega), if_pos (by omega)] | rw [if_neg (by omega), if_neg (by omega), if_pos (by omega)] | rw [if_neg (by omega), if_neg (by omega), if_neg (by omega)]
      · -- 55 F
        refine g_iload_n C hl dX9_whyNot_58 rfl ?_
        refine g_bipush 10 C dX9_whyNot_59 (by decide) ?_
        refine g_idiv C dX9_whyNot_61 (by omega) (by decide) (by decide) ?_
        refine g_callSi C hl.1 hR hS md_X9_isBank ml_X9_51 (c_X9_isBank l hI) rfl rfl ⟨Nat.le_of_ble_eq_true rfl, Nat.le_of_ble_eq_true rfl⟩ ⟨Nat.le_refl _, Nat.le_refl _⟩ (Nat.le_of_ble_eq_true rfl) dX9_whyNot_62 (fun H locs hR hS => ?_)
        refine g_ifw_ne (tgt := 72) C dX9_whyNot_65 (by decide) (by omega) (fun c65 => ?_) (fun c65 => ?_)
        · -- 65 T
          refine g_iconst 0 C dX9_whyNot_72 (by decide) ?_
          refine g_istore_n C hl dX9_whyNot_73 (Nat.le_of_ble_eq_true rfl) (fun ls hl => ?_)
          refine g_iload_n C hl dX9_whyNot_74 rfl ?_
          refine g_if_eq (tgt := 80) C dX9_whyNot_75 (by decide) (by omega) (fun c75 => ?_) (fun z9 => absurd z9 (by omega))
          refine g_iload_n C hl dX9_whyNot_80 rfl ?_
          refine g_bipush 7 C dX9_whyNot_81 (by decide) ?_
          refine g_icmp_ne (tgt := 102) C dX9_whyNot_83 (by decide) (by omega) (by omega) (fun c83 => ?_) (fun c83 => ?_)
          · -- 83 T
            refine g_iload_n C hl dX9_whyNot_102 rfl ?_
            refine g_bipush 8 C dX9_whyNot_103 (by decide) ?_
            refine g_icmp_ne (tgt := 122) C dX9_whyNot_105 (by decide) (by omega) (by omega) (fun c105 => ?_) (fun c105 => ?_)
            · -- 105 T
              refine g_iconst 0 C dX9_whyNot_122 (by decide) ?_
              refine g_iret C hR hS dX9_whyNot_123 ?_
              refine ⟨?_, rfl⟩
              unfold zWhy
              first | (exfalso; omega) | rw [if_pos (by omega)] | rw [if_neg (by omega), if_pos (by omega)] | rw [if_neg (by omega), if_neg (by omega), if_pos (by omega)] | rw [if_neg (by omega), if_neg (by omega), if_neg (by omega)]
            · -- 105 F
              refine g_aload_n C hl dX9_whyNot_108 rfl ?_
              refine gt_X9_0 C hR fl_X9_7 dX9_whyNot_109 ?_
              refine g_bipush 116 C dX9_whyNot_112 (by decide) ?_
              refine r_ald1 C hR (by omega) dX9_whyNot_114 ?_
              refine g_if_ne (tgt := 122) C dX9_whyNot_115 (by decide) (by omega) (fun c115 => ?_) (fun c115 => ?_)
              · -- 115 T
                refine g_iconst 0 C dX9_whyNot_122 (by decide) ?_
                refine g_iret C hR hS dX9_whyNot_123 ?_
                refine ⟨?_, rfl⟩
                unfold zWhy
                first | (exfalso; omega) | rw [if_pos (by omega)] | rw [if_neg (by omega), if_pos (by omega)] | rw [if_neg (by omega), if_neg (by omega), if_pos (by omega)] | rw [if_neg (by omega), if_neg (by omega), if_neg (by omega)]
              · -- 115 F
                refine g_iconst 5 C dX9_whyNot_118 (by decide) ?_
                refine g_goto (tgt := 123) C dX9_whyNot_119 (by decide) ?_
                refine g_iret C hR hS dX9_whyNot_123 ?_
                refine ⟨?_, rfl⟩
                unfold zWhy
                first | (exfalso; omega) | rw [if_pos (by omega)] | rw [if_neg (by omega), if_pos (by omega)] | rw [if_neg (by omega), if_neg (by omega), if_pos (by omega)] | rw [if_neg (by omega), if_neg (by omega), if_neg (by omega)]
          · -- 83 F
            refine g_aload_n C hl dX9_whyNot_86 rfl ?_
            refine gt_X9_0 C hR fl_X9_7 dX9_whyNot_87 ?_
            refine g_bipush 116 C dX9_whyNot_90 (by decide) ?_
            refine r_ald1 C hR (by omega) dX9_whyNot_92 ?_
            refine g_bipush 8 C dX9_whyNot_93 (by decide) ?_
            refine g_icmp_ne (tgt := 102) C dX9_whyNot_95 (by decide) (by omega) (by omega) (fun c95 => ?_) (fun c95 => ?_)
            · -- 95 T
              refine g_iload_n C hl dX9_whyNot_102 rfl ?_
              refine g_bipush 8 C dX9_whyNot_103 (by decide) ?_
              refine g_icmp_ne (tgt := 122) C dX9_whyNot_105 (by decide) (by omega) (by omega) (fun c105 => ?_) (fun c105 => ?_)
              · -- 105 T
                refine g_iconst 0 C dX9_whyNot_122 (by decide) ?_
                refine g_iret C hR hS dX9_whyNot_123 ?_
                refine ⟨?_, rfl⟩
                unfold zWhy
                first | (exfalso; omega) | rw [if_pos (by omega)] | rw [if_neg (by omega), if_pos (by omega)] | rw [if_neg (by omega), if_neg (by omega), if_pos (by omega)] | rw [if_neg (by omega), if_neg (by omega), if_neg (by omega)]
              · -- 105 F
                refine g_aload_n C hl dX9_whyNot_108 rfl ?_
                refine gt_X9_0 C hR fl_X9_7 dX9_whyNot_109 ?_
                refine g_bipush 116 C dX9_whyNot_112 (by decide) ?_
                refine r_ald1 C hR (by omega) dX9_whyNot_114 ?_
                refine g_if_ne (tgt := 122) C dX9_whyNot_115 (by decide) (by omega) (fun c115 => ?_) (fun c115 => ?_)
                · -- 115 T
                  refine g_iconst 0 C dX9_whyNot_122 (by decide) ?_
                  refine g_iret C hR hS dX9_whyNot_123 ?_
                  refine ⟨?_, rfl⟩
                  unfold zWhy
                  first | (exfalso; omega) | rw [if_pos (by omega)] | rw [if_neg (by omega), if_pos (by omega)] | rw [if_neg (by omega), if_neg (by omega), if_pos (by omega)] | rw [if_neg (by omega), if_neg (by omega), if_neg (by omega)]
                · -- 115 F
                  refine g_iconst 5 C dX9_whyNot_118 (by decide) ?_
                  refine g_goto (tgt := 123) C dX9_whyNot_119 (by decide) ?_
                  refine g_iret C hR hS dX9_whyNot_123 ?_
                  refine ⟨?_, rfl⟩
                  unfold zWhy
                  first | (exfalso; omega) | rw [if_pos (by omega)] | rw [if_neg (by omega), if_pos (by omega)] | rw [if_neg (by omega), if_neg (by omega), if_pos (by omega)] | rw [if_neg (by omega), if_neg (by omega), if_neg (by omega)]
            · -- 95 F
              refine g_iconst 4 C dX9_whyNot_98 (by decide) ?_
              refine g_goto (tgt := 123) C dX9_whyNot_99 (by decide) ?_
              refine g_iret C hR hS dX9_whyNot_123 ?_
              refine ⟨?_, rfl⟩
              unfold zWhy
              first | (exfalso; omega) | rw [if_pos (by omega)] | rw [if_neg (by omega), if_pos (by omega)] | rw [if_neg (by omega), if_neg (by omega), if_pos (by omega)] | rw [if_neg (by omega), if_neg (by omega), if_neg (by omega)]
        · -- 65 F
          refine g_iconst 1 C dX9_whyNot_68 (by decide) ?_
          refine g_goto (tgt := 73) C dX9_whyNot_69 (by decide) ?_
          refine g_istore_n C hl dX9_whyNot_73 (Nat.le_of_ble_eq_true rfl) (fun ls hl => ?_)
          refine g_iload_n C hl dX9_whyNot_74 rfl ?_
          refine g_if_eq (tgt := 80) C dX9_whyNot_75 (by decide) (by omega) (fun z9 => absurd z9 (by omega)) (fun c75 => ?_)
          refine g_iconst 3 C dX9_whyNot_78 (by decide) ?_
          refine g_iret C hR hS dX9_whyNot_79 ?_
          refine ⟨?_, rfl⟩
          unfold zWhy
          first | (exfalso; omega) | rw [if_pos (by omega)] | rw [if_neg (by omega), if_pos (by omega)] | rw [if_neg (by omega), if_neg (by omega), if_pos (by omega)] | rw [if_neg (by omega), if_neg (by omega), if_neg (by omega)]
    · -- 29 F
      refine g_iload_n C hl dX9_whyNot_32 rfl ?_
      refine g_bipush 10 C dX9_whyNot_33 (by decide) ?_
      refine g_idiv C dX9_whyNot_35 (by omega) (by decide) (by decide) ?_
      refine g_callSi C hl.1 hR hS md_X9_isWindow ml_X9_65 (c_X9_isWindow l hI) rfl rfl ⟨Nat.le_of_ble_eq_true rfl, Nat.le_of_ble_eq_true rfl⟩ ⟨Nat.le_refl _, Nat.le_refl _⟩ (Nat.le_of_ble_eq_true rfl) dX9_whyNot_36 (fun H locs hR hS => ?_)
      refine g_ifw_eq (tgt := 68) C dX9_whyNot_39 (by decide) (by omega) (fun c39 => ?_) (fun c39 => ?_)
      · -- 39 T
        refine g_iconst 1 C dX9_whyNot_68 (by decide) ?_
        refine g_goto (tgt := 73) C dX9_whyNot_69 (by decide) ?_
        refine g_istore_n C hl dX9_whyNot_73 (Nat.le_of_ble_eq_true rfl) (fun ls hl => ?_)
        refine g_iload_n C hl dX9_whyNot_74 rfl ?_
        refine g_if_eq (tgt := 80) C dX9_whyNot_75 (by decide) (by omega) (fun z9 => absurd z9 (by omega)) (fun c75 => ?_)
        refine g_iconst 3 C dX9_whyNot_78 (by decide) ?_
        refine g_iret C hR hS dX9_whyNot_79 ?_
        refine ⟨?_, rfl⟩
        unfold zWhy
        first | (exfalso; omega) | rw [if_pos (by omega)] | rw [if_neg (by omega), if_pos (by omega)] | rw [if_neg (by omega), if_neg (by omega), if_pos (by omega)] | rw [if_neg (by omega), if_neg (by omega), if_neg (by omega)]
      · -- 39 F
        refine g_iload_n C hl dX9_whyNot_42 rfl ?_
        refine g_bipush 10 C dX9_whyNot_43 (by decide) ?_
        refine g_irem C dX9_whyNot_45 (by omega) (by decide) (by decide) ?_
        refine g_callSi C hl.1 hR hS md_X9_isBank ml_X9_51 (c_X9_isBank l hI) rfl rfl ⟨Nat.le_of_ble_eq_true rfl, Nat.le_of_ble_eq_true rfl⟩ ⟨Nat.le_refl _, Nat.le_refl _⟩ (Nat.le_of_ble_eq_true rfl) dX9_whyNot_46 (fun H locs hR hS => ?_)
        refine g_ifw_eq (tgt := 68) C dX9_whyNot_49 (by decide) (by omega) (fun c49 => ?_) (fun c49 => ?_)
        · -- 49 T
          refine g_iconst 1 C dX9_whyNot_68 (by decide) ?_
          refine g_goto (tgt := 73) C dX9_whyNot_69 (by decide) ?_
          refine g_istore_n C hl dX9_whyNot_73 (Nat.le_of_ble_eq_true rfl) (fun ls hl => ?_)
          refine g_iload_n C hl dX9_whyNot_74 rfl ?_
          refine g_if_eq (tgt := 80) C dX9_whyNot_75 (by decide) (by omega) (fun z9 => absurd z9 (by omega)) (fun c75 => ?_)
          refine g_iconst 3 C dX9_whyNot_78 (by decide) ?_
          refine g_iret C hR hS dX9_whyNot_79 ?_
          refine ⟨?_, rfl⟩
          unfold zWhy
          first | (exfalso; omega) | rw [if_pos (by omega)] | rw [if_neg (by omega), if_pos (by omega)] | rw [if_neg (by omega), if_neg (by omega), if_pos (by omega)] | rw [if_neg (by omega), if_neg (by omega), if_neg (by omega)]
        · -- 49 F
          refine g_iload_n C hl dX9_whyNot_52 rfl ?_
          refine g_bipush 7 C dX9_whyNot_53 (by decide) ?_
          refine g_icmp_ne (tgt := 72) C dX9_whyNot_55 (by decide) (by omega) (by omega) (fun c55 => ?_) (fun c55 => ?_)
          · -- 55 T
            refine g_iconst 0 C dX9_whyNot_72 (by decide) ?_
            refine g_istore_n C hl dX9_whyNot_73 (Nat.le_of_ble_eq_true rfl) (fun ls hl => ?_)
            refine g_iload_n C hl dX9_whyNot_74 rfl ?_
            refine g_if_eq (tgt := 80) C dX9_whyNot_75 (by decide) (by omega) (fun c75 => ?_) (fun z9 => absurd z9 (by omega))
            refine g_iload_n C hl dX9_whyNot_80 rfl ?_
            refine g_bipush 7 C dX9_whyNot_81 (by decide) ?_
            refine g_icmp_ne (tgt := 102) C dX9_whyNot_83 (by decide) (by omega) (by omega) (fun c83 => ?_) (fun c83 => ?_)
            · -- 83 T
              refine g_iload_n C hl dX9_whyNot_102 rfl ?_
              refine g_bipush 8 C dX9_whyNot_103 (by decide) ?_
              refine g_icmp_ne (tgt := 122) C dX9_whyNot_105 (by decide) (by omega) (by omega) (fun c105 => ?_) (fun c105 => ?_)
              · -- 105 T
                refine g_iconst 0 C dX9_whyNot_122 (by decide) ?_
                refine g_iret C hR hS dX9_whyNot_123 ?_
                refine ⟨?_, rfl⟩
                unfold zWhy
                first | (exfalso; omega) | rw [if_pos (by omega)] | rw [if_neg (by omega), if_pos (by omega)] | rw [if_neg (by omega), if_neg (by omega), if_pos (by omega)] | rw [if_neg (by omega), if_neg (by omega), if_neg (by omega)]
              · -- 105 F
                refine g_aload_n C hl dX9_whyNot_108 rfl ?_
                refine gt_X9_0 C hR fl_X9_7 dX9_whyNot_109 ?_
                refine g_bipush 116 C dX9_whyNot_112 (by decide) ?_
                refine r_ald1 C hR (by omega) dX9_whyNot_114 ?_
                refine g_if_ne (tgt := 122) C dX9_whyNot_115 (by decide) (by omega) (fun c115 => ?_) (fun c115 => ?_)
                · -- 115 T
                  refine g_iconst 0 C dX9_whyNot_122 (by decide) ?_
                  refine g_iret C hR hS dX9_whyNot_123 ?_
                  refine ⟨?_, rfl⟩
                  unfold zWhy
                  first | (exfalso; omega) | rw [if_pos (by omega)] | rw [if_neg (by omega), if_pos (by omega)] | rw [if_neg (by omega), if_neg (by omega), if_pos (by omega)] | rw [if_neg (by omega), if_neg (by omega), if_neg (by omega)]
                · -- 115 F
                  refine g_iconst 5 C dX9_whyNot_118 (by decide) ?_
                  refine g_goto (tgt := 123) C dX9_whyNot_119 (by decide) ?_
                  refine g_iret C hR hS dX9_whyNot_123 ?_
                  refine ⟨?_, rfl⟩
                  unfold zWhy
                  first | (exfalso; omega) | rw [if_pos (by omega)] | rw [if_neg (by omega), if_pos (by omega)] | rw [if_neg (by omega), if_neg (by omega), if_pos (by omega)] | rw [if_neg (by omega), if_neg (by omega), if_neg (by omega)]
            · -- 83 F
              refine g_aload_n C hl dX9_whyNot_86 rfl ?_
              refine gt_X9_0 C hR fl_X9_7 dX9_whyNot_87 ?_
              refine g_bipush 116 C dX9_whyNot_90 (by decide) ?_
              refine r_ald1 C hR (by omega) dX9_whyNot_92 ?_
              refine g_bipush 8 C dX9_whyNot_93 (by decide) ?_
              refine g_icmp_ne (tgt := 102) C dX9_whyNot_95 (by decide) (by omega) (by omega) (fun c95 => ?_) (fun c95 => ?_)
              · -- 95 T
                refine g_iload_n C hl dX9_whyNot_102 rfl ?_
                refine g_bipush 8 C dX9_whyNot_103 (by decide) ?_
                refine g_icmp_ne (tgt := 122) C dX9_whyNot_105 (by decide) (by omega) (by omega) (fun c105 => ?_) (fun c105 => ?_)
                · -- 105 T
                  refine g_iconst 0 C dX9_whyNot_122 (by decide) ?_
                  refine g_iret C hR hS dX9_whyNot_123 ?_
                  refine ⟨?_, rfl⟩
                  unfold zWhy
                  first | (exfalso; omega) | rw [if_pos (by omega)] | rw [if_neg (by omega), if_pos (by omega)] | rw [if_neg (by omega), if_neg (by omega), if_pos (by omega)] | rw [if_neg (by omega), if_neg (by omega), if_neg (by omega)]
                · -- 105 F
                  refine g_aload_n C hl dX9_whyNot_108 rfl ?_
                  refine gt_X9_0 C hR fl_X9_7 dX9_whyNot_109 ?_
                  refine g_bipush 116 C dX9_whyNot_112 (by decide) ?_
                  refine r_ald1 C hR (by omega) dX9_whyNot_114 ?_
                  refine g_if_ne (tgt := 122) C dX9_whyNot_115 (by decide) (by omega) (fun c115 => ?_) (fun c115 => ?_)
                  · -- 115 T
                    refine g_iconst 0 C dX9_whyNot_122 (by decide) ?_
                    refine g_iret C hR hS dX9_whyNot_123 ?_
                    refine ⟨?_, rfl⟩
                    unfold zWhy
                    first | (exfalso; omega) | rw [if_pos (by omega)] | rw [if_neg (by omega), if_pos (by omega)] | rw [if_neg (by omega), if_neg (by omega), if_pos (by omega)] | rw [if_neg (by omega), if_neg (by omega), if_neg (by omega)]
                  · -- 115 F
                    refine g_iconst 5 C dX9_whyNot_118 (by decide) ?_
                    refine g_goto (tgt := 123) C dX9_whyNot_119 (by decide) ?_
                    refine g_iret C hR hS dX9_whyNot_123 ?_
                    refine ⟨?_, rfl⟩
                    unfold zWhy
                    first | (exfalso; omega) | rw [if_pos (by omega)] | rw [if_neg (by omega), if_pos (by omega)] | rw [if_neg (by omega), if_neg (by omega), if_pos (by omega)] | rw [if_neg (by omega), if_neg (by omega), if_neg (by omega)]
              · -- 95 F
                refine g_iconst 4 C dX9_whyNot_98 (by decide) ?_
                refine g_goto (tgt := 123) C dX9_whyNot_99 (by decide) ?_
                refine g_iret C hR hS dX9_whyNot_123 ?_
                refine ⟨?_, rfl⟩
                unfold zWhy
                first | (exfalso; omega) | rw [if_pos (by omega)] | rw [if_neg (by omega), if_pos (by omega)] | rw [if_neg (by omega), if_neg (by omega), if_pos (by omega)] | rw [if_neg (by omega), if_neg (by omega), if_neg (by omega)]
          · -- 55 F
            refine g_iload_n C hl dX9_whyNot_58 rfl ?_
            refine g_bipush 10 C dX9_whyNot_59 (by decide) ?_
            refine g_idiv C dX9_whyNot_61 (by omega) (by decide) (by decide) ?_
            refine g_callSi C hl.1 hR hS md_X9_isBank ml_X9_51 (c_X9_isBank l hI) rfl rfl ⟨Nat.le_of_ble_eq_true rfl, Nat.le_of_ble_eq_true rfl⟩ ⟨Nat.le_refl _, Nat.le_refl _⟩ (Nat.le_of_ble_eq_true rfl) dX9_whyNot_62 (fun H locs hR hS => ?_)
            refine g_ifw_ne (tgt := 72) C dX9_whyNot_65 (by decide) (by omega) (fun c65 => ?_) (fun c65 => ?_)
            · -- 65 T
              refine g_iconst 0 C dX9_whyNot_72 (by decide) ?_
              refine g_istore_n C hl dX9_whyNot_73 (Nat.le_of_ble_eq_true rfl) (fun ls hl => ?_)
              refine g_iload_n C hl dX9_whyNot_74 rfl ?_
              refine g_if_eq (tgt := 80) C dX9_whyNot_75 (by decide) (by omega) (fun c75 => ?_) (fun z9 => absurd z9 (by omega))
              refine g_iload_n C hl dX9_whyNot_80 rfl ?_
              refine g_bipush 7 C dX9_whyNot_81 (by decide) ?_
              refine g_icmp_ne (tgt := 102) C dX9_whyNot_83 (by decide) (by omega) (by omega) (fun c83 => ?_) (fun c83 => ?_)
              · -- 83 T
                refine g_iload_n C hl dX9_whyNot_102 rfl ?_
                refine g_bipush 8 C dX9_whyNot_103 (by decide) ?_
                refine g_icmp_ne (tgt := 122) C dX9_whyNot_105 (by decide) (by omega) (by omega) (fun c105 => ?_) (fun c105 => ?_)
                · -- 105 T
                  refine g_iconst 0 C dX9_whyNot_122 (by decide) ?_
                  refine g_iret C hR hS dX9_whyNot_123 ?_
                  refine ⟨?_, rfl⟩
                  unfold zWhy
                  first | (exfalso; omega) | rw [if_pos (by omega)] | rw [if_neg (by omega), if_pos (by omega)] | rw [if_neg (by omega), if_neg (by omega), if_pos (by omega)] | rw [if_neg (by omega), if_neg (by omega), if_neg (by omega)]
                · -- 105 F
                  refine g_aload_n C hl dX9_whyNot_108 rfl ?_
                  refine gt_X9_0 C hR fl_X9_7 dX9_whyNot_109 ?_
                  refine g_bipush 116 C dX9_whyNot_112 (by decide) ?_
                  refine r_ald1 C hR (by omega) dX9_whyNot_114 ?_
                  refine g_if_ne (tgt := 122) C dX9_whyNot_115 (by decide) (by omega) (fun c115 => ?_) (fun c115 => ?_)
                  · -- 115 T
                    refine g_iconst 0 C dX9_whyNot_122 (by decide) ?_
                    refine g_iret C hR hS dX9_whyNot_123 ?_
                    refine ⟨?_, rfl⟩
                    unfold zWhy
                    first | (exfalso; omega) | rw [if_pos (by omega)] | rw [if_neg (by omega), if_pos (by omega)] | rw [if_neg (by omega), if_neg (by omega), if_pos (by omega)] | rw [if_neg (by omega), if_neg (by omega), if_neg (by omega)]
                  · -- 115 F
                    refine g_iconst 5 C dX9_whyNot_118 (by decide) ?_
                    refine g_goto (tgt := 123) C dX9_whyNot_119 (by decide) ?_
                    refine g_iret C hR hS dX9_whyNot_123 ?_
                    refine ⟨?_, rfl⟩
                    unfold zWhy
                    first | (exfalso; omega) | rw [if_pos (by omega)] | rw [if_neg (by omega), if_pos (by omega)] | rw [if_neg (by omega), if_neg (by omega), if_pos (by omega)] | rw [if_neg (by omega), if_neg (by omega), if_neg (by omega)]
              · -- 83 F
                refine g_aload_n C hl dX9_whyNot_86 rfl ?_
                refine gt_X9_0 C hR fl_X9_7 dX9_whyNot_87 ?_
                refine g_bipush 116 C dX9_whyNot_90 (by decide) ?_
                refine r_ald1 C hR (by omega) dX9_whyNot_92 ?_
                refine g_bipush 8 C dX9_whyNot_93 (by decide) ?_
                refine g_icmp_ne (tgt := 102) C dX9_whyNot_95 (by decide) (by omega) (by omega) (fun c95 => ?_) (fun c95 => ?_)
                · -- 95 T
                  refine g_iload_n C hl dX9_whyNot_102 rfl ?_
                  refine g_bipush 8 C dX9_whyNot_103 (by decide) ?_
                  refine g_icmp_ne (tgt := 122) C dX9_whyNot_105 (by decide) (by omega) (by omega) (fun c105 => ?_) (fun c105 => ?_)
                  · -- 105 T
                    refine g_iconst 0 C dX9_whyNot_122 (by decide) ?_
                    refine g_iret C hR hS dX9_whyNot_123 ?_
                    refine ⟨?_, rfl⟩
                    unfold zWhy
                    first | (exfalso; omega) | rw [if_pos (by omega)] | rw [if_neg (by omega), if_pos (by omega)] | rw [if_neg (by omega), if_neg (by omega), if_pos (by omega)] | rw [if_neg (by omega), if_neg (by omega), if_neg (by omega)]
                  · -- 105 F
                    refine g_aload_n C hl dX9_whyNot_108 rfl ?_
                    refine gt_X9_0 C hR fl_X9_7 dX9_whyNot_109 ?_
                    refine g_bipush 116 C dX9_whyNot_112 (by decide) ?_
                    refine r_ald1 C hR (by omega) dX9_whyNot_114 ?_
                    refine g_if_ne (tgt := 122) C dX9_whyNot_115 (by decide) (by omega) (fun c115 => ?_) (fun c115 => ?_)
                    · -- 115 T
                      refine g_iconst 0 C dX9_whyNot_122 (by decide) ?_
                      refine g_iret C hR hS dX9_whyNot_123 ?_
                      refine ⟨?_, rfl⟩
                      unfold zWhy
                      first | (exfalso; omega) | rw [if_pos (by omega)] | rw [if_neg (by omega), if_pos (by omega)] | rw [if_neg (by omega), if_neg (by omega), if_pos (by omega)] | rw [if_neg (by omega), if_neg (by omega), if_neg (by omega)]
                    · -- 115 F
                      refine g_iconst 5 C dX9_whyNot_118 (by decide) ?_
                      refine g_goto (tgt := 123) C dX9_whyNot_119 (by decide) ?_
                      refine g_iret C hR hS dX9_whyNot_123 ?_
                      refine ⟨?_, rfl⟩
                      unfold zWhy
                      first | (exfalso; omega) | rw [if_pos (by omega)] | rw [if_neg (by omega), if_pos (by omega)] | rw [if_neg (by omega), if_neg (by omega), if_pos (by omega)] | rw [if_neg (by omega), if_neg (by omega), if_neg (by omega)]
                · -- 95 F
                  refine g_iconst 4 C dX9_whyNot_98 (by decide) ?_
                  refine g_goto (tgt := 123) C dX9_whyNot_99 (by decide) ?_
                  refine g_iret C hR hS dX9_whyNot_123 ?_
                  refine ⟨?_, rfl⟩
                  unfold zWhy
                  first | (exfalso; omega) | rw [if_pos (by omega)] | rw [if_neg (by omega), if_pos (by omega)] | rw [if_neg (by omega), if_neg (by omega), if_pos (by omega)] | rw [if_neg (by omega), if_neg (by omega), if_neg (by omega)]
            · -- 65 F
              refine g_iconst 1 C dX9_whyNot_68 (by decide) ?_
              refine g_goto (tgt := 73) C dX9_whyNot_69 (by decide) ?_
              refine g_istore_n C hl dX9_whyNot_73 (Nat.le_of_ble_eq_true rfl) (fun ls hl => ?_)
              refine g_iload_n C hl dX9_whyNot_74 rfl ?_
              refine g_if_eq (tgt := 80) C dX9_whyNot_75 (by decide) (by omega) (fun z9 => absurd z9 (by omega)) (fun c75 => ?_)
              refine g_iconst 3 C dX9_whyNot_78 (by decide) ?_
              refine g_iret C hR hS dX9_whyNot_79 ?_
              refine ⟨?_, rfl⟩
              unfold zWhy
              first | (exfalso; omega) | rw [if_pos (by omega)] | rw [if_neg (by omega), if_pos (by omega)] | rw [if_neg (by omega), if_neg (by omega), if_pos (by omega)] | rw [if_neg (by omega), if_neg (by omega), if_neg (by omega)]
  · -- 6 F
    refine g_iload_n C hl dX9_whyNot_9 rfl ?_
    refine g_callSi C hl.1 hR hS md_X9_isAddress ml_X9_68 (c_X9_isAddress l hI) rfl rfl ⟨Nat.le_of_ble_eq_true rfl, Nat.le_of_ble_eq_true rfl⟩ ⟨Nat.le_refl _, Nat.le_refl _⟩ (Nat.le_of_ble_eq_true rfl) dX9_whyNot_10 (fun H locs hR hS => ?_)
    refine g_ifw_ne (tgt := 20) C dX9_whyNot_13 (by decide) (by omega) (fun c13 => ?_) (fun c13 => ?_)
    · -- 13 T
      refine g_iconst 0 C dX9_whyNot_20 (by decide) ?_
      refine g_istore_n C hl dX9_whyNot_21 (Nat.le_of_ble_eq_true rfl) (fun ls hl => ?_)
      refine g_iload_n C hl dX9_whyNot_22 rfl ?_
      refine g_if_ne (tgt := 68) C dX9_whyNot_23 (by decide) (by omega) (fun z9 => absurd z9 (by omega)) (fun c23 => ?_)
      refine g_iload_n C hl dX9_whyNot_26 rfl ?_
      refine g_bipush 6 C dX9_whyNot_27 (by decide) ?_
      refine g_icmp_ne (tgt := 52) C dX9_whyNot_29 (by decide) (by omega) (by omega) (fun c29 => ?_) (fun c29 => ?_)
      · -- 29 T
        refine g_iload_n C hl dX9_whyNot_52 rfl ?_
        refine g_bipush 7 C dX9_whyNot_53 (by decide) ?_
        refine g_icmp_ne (tgt := 72) C dX9_whyNot_55 (by decide) (by omega) (by omega) (fun c55 => ?_) (fun c55 => ?_)
        · -- 55 T
          refine g_iconst 0 C dX9_whyNot_72 (by decide) ?_
          refine g_istore_n C hl dX9_whyNot_73 (Nat.le_of_ble_eq_true rfl) (fun ls hl => ?_)
          refine g_iload_n C hl dX9_whyNot_74 rfl ?_
          refine g_if_eq (tgt := 80) C dX9_whyNot_75 (by decide) (by omega) (fun c75 => ?_) (fun z9 => absurd z9 (by omega))
          refine g_iload_n C hl dX9_whyNot_80 rfl ?_
          refine g_bipush 7 C dX9_whyNot_81 (by decide) ?_
          refine g_icmp_ne (tgt := 102) C dX9_whyNot_83 (by decide) (by omega) (by omega) (fun c83 => ?_) (fun c83 => ?_)
          · -- 83 T
            refine g_iload_n C hl dX9_whyNot_102 rfl ?_
            refine g_bipush 8 C dX9_whyNot_103 (by decide) ?_
            refine g_icmp_ne (tgt := 122) C dX9_whyNot_105 (by decide) (by omega) (by omega) (fun c105 => ?_) (fun c105 => ?_)
            · -- 105 T
              refine g_iconst 0 C dX9_whyNot_122 (by decide) ?_
              refine g_iret C hR hS dX9_whyNot_123 ?_
              refine ⟨?_, rfl⟩
              unfold zWhy
              first | (exfalso; omega) | rw [if_pos (by omega)] | rw [if_neg (by omega), if_pos (by omega)] | rw [if_neg (by omega), if_neg (by omega), if_pos (by omega)] | rw [if_neg (by omega), if_neg (by omega), if_neg (by omega)]
            · -- 105 F
              refine g_aload_n C hl dX9_whyNot_108 rfl ?_
              refine gt_X9_0 C hR fl_X9_7 dX9_whyNot_109 ?_
              refine g_bipush 116 C dX9_whyNot_112 (by decide) ?_
              refine r_ald1 C hR (by omega) dX9_whyNot_114 ?_
              refine g_if_ne (tgt := 122) C dX9_whyNot_115 (by decide) (by omega) (fun c115 => ?_) (fun c115 => ?_)
              · -- 115 T
                refine g_iconst 0 C dX9_whyNot_122 (by decide) ?_
                refine g_iret C hR hS dX9_whyNot_123 ?_
                refine ⟨?_, rfl⟩
                unfold zWhy
                first | (exfalso; omega) | rw [if_pos (by omega)] | rw [if_neg (by omega), if_pos (by omega)] | rw [if_neg (by omega), if_neg (by omega), if_pos (by omega)] | rw [if_neg (by omega), if_neg (by omega), if_neg (by omega)]
              · -- 115 F
                refine g_iconst 5 C dX9_whyNot_118 (by decide) ?_
                refine g_goto (tgt := 123) C dX9_whyNot_119 (by decide) ?_
                refine g_iret C hR hS dX9_whyNot_123 ?_
                refine ⟨?_, rfl⟩
                unfold zWhy
                first | (exfalso; omega) | rw [if_pos (by omega)] | rw [if_neg (by omega), if_pos (by omega)] | rw [if_neg (by omega), if_neg (by omega), if_pos (by omega)] | rw [if_neg (by omega), if_neg (by omega), if_neg (by omega)]
          · -- 83 F
            refine g_aload_n C hl dX9_whyNot_86 rfl ?_
            refine gt_X9_0 C hR fl_X9_7 dX9_whyNot_87 ?_
            refine g_bipush 116 C dX9_whyNot_90 (by decide) ?_
            refine r_ald1 C hR (by omega) dX9_whyNot_92 ?_
            refine g_bipush 8 C dX9_whyNot_93 (by decide) ?_
            refine g_icmp_ne (tgt := 102) C dX9_whyNot_95 (by decide) (by omega) (by omega) (fun c95 => ?_) (fun c95 => ?_)
            · -- 95 T
              refine g_iload_n C hl dX9_whyNot_102 rfl ?_
              refine g_bipush 8 C dX9_whyNot_103 (by decide) ?_
              refine g_icmp_ne (tgt := 122) C dX9_whyNot_105 (by decide) (by omega) (by omega) (fun c105 => ?_) (fun c105 => ?_)
              · -- 105 T
                refine g_iconst 0 C dX9_whyNot_122 (by decide) ?_
                refine g_iret C hR hS dX9_whyNot_123 ?_
                refine ⟨?_, rfl⟩
                unfold zWhy
                first | (exfalso; omega) | rw [if_pos (by omega)] | rw [if_neg (by omega), if_pos (by omega)] | rw [if_neg (by omega), if_neg (by omega), if_pos (by omega)] | rw [if_neg (by omega), if_neg (by omega), if_neg (by omega)]
              · -- 105 F
                refine g_aload_n C hl dX9_whyNot_108 rfl ?_
                refine gt_X9_0 C hR fl_X9_7 dX9_whyNot_109 ?_
                refine g_bipush 116 C dX9_whyNot_112 (by decide) ?_
                refine r_ald1 C hR (by omega) dX9_whyNot_114 ?_
                refine g_if_ne (tgt := 122) C dX9_whyNot_115 (by decide) (by omega) (fun c115 => ?_) (fun c115 => ?_)
                · -- 115 T
                  refine g_iconst 0 C dX9_whyNot_122 (by decide) ?_
                  refine g_iret C hR hS dX9_whyNot_123 ?_
                  refine ⟨?_, rfl⟩
                  unfold zWhy
                  first | (exfalso; omega) | rw [if_pos (by omega)] | rw [if_neg (by omega), if_pos (by omega)] | rw [if_neg (by omega), if_neg (by omega), if_pos (by omega)] | rw [if_neg (by omega), if_neg (by omega), if_neg (by omega)]
                · -- 115 F
                  refine g_iconst 5 C dX9_whyNot_118 (by decide) ?_
                  refine g_goto (tgt := 123) C dX9_whyNot_119 (by decide) ?_
                  refine g_iret C hR hS dX9_whyNot_123 ?_
                  refine ⟨?_, rfl⟩
                  unfold zWhy
                  first | (exfalso; omega) | rw [if_pos (by omega)] | rw [if_neg (by omega), if_pos (by omega)] | rw [if_neg (by omega), if_neg (by omega), if_pos (by omega)] | rw [if_neg (by omega), if_neg (by omega), if_neg (by omega)]
            · -- 95 F
              refine g_iconst 4 C dX9_whyNot_98 (by decide) ?_
              refine g_goto (tgt := 123) C dX9_whyNot_99 (by decide) ?_
              refine g_iret C hR hS dX9_whyNot_123 ?_
              refine ⟨?_, rfl⟩
              unfold zWhy
              first | (exfalso; omega) | rw [if_pos (by omega)] | rw [if_neg (by omega), if_pos (by omega)] | rw [if_neg (by omega), if_neg (by omega), if_pos (by omega)] | rw [if_neg (by omega), if_neg (by omega), if_neg (by omega)]
        · -- 55 F
          refine g_iload_n C hl dX9_whyNot_58 rfl ?_
          refine g_bipush 10 C dX9_whyNot_59 (by decide) ?_
          refine g_idiv C dX9_whyNot_61 (by omega) (by decide) (by decide) ?_
          refine g_callSi C hl.1 hR hS md_X9_isBank ml_X9_51 (c_X9_isBank l hI) rfl rfl ⟨Nat.le_of_ble_eq_true rfl, Nat.le_of_ble_eq_true rfl⟩ ⟨Nat.le_refl _, Nat.le_refl _⟩ (Nat.le_of_ble_eq_true rfl) dX9_whyNot_62 (fun H locs hR hS => ?_)
          refine g_ifw_ne (tgt := 72) C dX9_whyNot_65 (by decide) (by omega) (fun c65 => ?_) (fun c65 => ?_)
          · -- 65 T
            refine g_iconst 0 C dX9_whyNot_72 (by decide) ?_
            refine g_istore_n C hl dX9_whyNot_73 (Nat.le_of_ble_eq_true rfl) (fun ls hl => ?_)
            refine g_iload_n C hl dX9_whyNot_74 rfl ?_
            refine g_if_eq (tgt := 80) C dX9_whyNot_75 (by decide) (by omega) (fun c75 => ?_) (fun z9 => absurd z9 (by omega))
            refine g_iload_n C hl dX9_whyNot_80 rfl ?_
            refine g_bipush 7 C dX9_whyNot_81 (by decide) ?_
            refine g_icmp_ne (tgt := 102) C dX9_whyNot_83 (by decide) (by omega) (by omega) (fun c83 => ?_) (fun c83 => ?_)
            · -- 83 T
              refine g_iload_n C hl dX9_whyNot_102 rfl ?_
              refine g_bipush 8 C dX9_whyNot_103 (by decide) ?_
              refine g_icmp_ne (tgt := 122) C dX9_whyNot_105 (by decide) (by omega) (by omega) (fun c105 => ?_) (fun c105 => ?_)
              · -- 105 T
                refine g_iconst 0 C dX9_whyNot_122 (by decide) ?_
                refine g_iret C hR hS dX9_whyNot_123 ?_
                refine ⟨?_, rfl⟩
                unfold zWhy
                first | (exfalso; omega) | rw [if_pos (by omega)] | rw [if_neg (by omega), if_pos (by omega)] | rw [if_neg (by omega), if_neg (by omega), if_pos (by omega)] | rw [if_neg (by omega), if_neg (by omega), if_neg (by omega)]
              · -- 105 F
                refine g_aload_n C hl dX9_whyNot_108 rfl ?_
                refine gt_X9_0 C hR fl_X9_7 dX9_whyNot_109 ?_
                refine g_bipush 116 C dX9_whyNot_112 (by decide) ?_
                refine r_ald1 C hR (by omega) dX9_whyNot_114 ?_
                refine g_if_ne (tgt := 122) C dX9_whyNot_115 (by decide) (by omega) (fun c115 => ?_) (fun c115 => ?_)
                · -- 115 T
                  refine g_iconst 0 C dX9_whyNot_122 (by decide) ?_
                  refine g_iret C hR hS dX9_whyNot_123 ?_
                  refine ⟨?_, rfl⟩
                  unfold zWhy
                  first | (exfalso; omega) | rw [if_pos (by omega)] | rw [if_neg (by omega), if_pos (by omega)] | rw [if_neg (by omega), if_neg (by omega), if_pos (by omega)] | rw [if_neg (by omega), if_neg (by omega), if_neg (by omega)]
                · -- 115 F
                  refine g_iconst 5 C dX9_whyNot_118 (by decide) ?_
                  refine g_goto (tgt := 123) C dX9_whyNot_119 (by decide) ?_
                  refine g_iret C hR hS dX9_whyNot_123 ?_
                  refine ⟨?_, rfl⟩
                  unfold zWhy
                  first | (exfalso; omega) | rw [if_pos (by omega)] | rw [if_neg (by omega), if_pos (by omega)] | rw [if_neg (by omega), if_neg (by omega), if_pos (by omega)] | rw [if_neg (by omega), if_neg (by omega), if_neg (by omega)]
            · -- 83 F
              refine g_aload_n C hl dX9_whyNot_86 rfl ?_
              refine gt_X9_0 C hR fl_X9_7 dX9_whyNot_87 ?_
              refine g_bipush 116 C dX9_whyNot_90 (by decide) ?_
              refine r_ald1 C hR (by omega) dX9_whyNot_92 ?_
              refine g_bipush 8 C dX9_whyNot_93 (by decide) ?_
              refine g_icmp_ne (tgt := 102) C dX9_whyNot_95 (by decide) (by omega) (by omega) (fun c95 => ?_) (fun c95 => ?_)
              · -- 95 T
                refine g_iload_n C hl dX9_whyNot_102 rfl ?_
                refine g_bipush 8 C dX9_whyNot_103 (by decide) ?_
                refine g_icmp_ne (tgt := 122) C dX9_whyNot_105 (by decide) (by omega) (by omega) (fun c105 => ?_) (fun c105 => ?_)
                · -- 105 T
                  refine g_iconst 0 C dX9_whyNot_122 (by decide) ?_
                  refine g_iret C hR hS dX9_whyNot_123 ?_
                  refine ⟨?_, rfl⟩
                  unfold zWhy
                  first | (exfalso; omega) | rw [if_pos (by omega)] | rw [if_neg (by omega), if_pos (by omega)] | rw [if_neg (by omega), if_neg (by omega), if_pos (by omega)] | rw [if_neg (by omega), if_neg (by omega), if_neg (by omega)]
                · -- 105 F
                  refine g_aload_n C hl dX9_whyNot_108 rfl ?_
                  refine gt_X9_0 C hR fl_X9_7 dX9_whyNot_109 ?_
                  refine g_bipush 116 C dX9_whyNot_112 (by decide) ?_
                  refine r_ald1 C hR (by omega) dX9_whyNot_114 ?_
                  refine g_if_ne (tgt := 122) C dX9_whyNot_115 (by decide) (by omega) (fun c115 => ?_) (fun c115 => ?_)
                  · -- 115 T
                    refine g_iconst 0 C dX9_whyNot_122 (by decide) ?_
                    refine g_iret C hR hS dX9_whyNot_123 ?_
                    refine ⟨?_, rfl⟩
                    unfold zWhy
                    first | (exfalso; omega) | rw [if_pos (by omega)] | rw [if_neg (by omega), if_pos (by omega)] | rw [if_neg (by omega), if_neg (by omega), if_pos (by omega)] | rw [if_neg (by omega), if_neg (by omega), if_neg (by omega)]
                  · -- 115 F
                    refine g_iconst 5 C dX9_whyNot_118 (by decide) ?_
                    refine g_goto (tgt := 123) C dX9_whyNot_119 (by decide) ?_
                    refine g_iret C hR hS dX9_whyNot_123 ?_
                    refine ⟨?_, rfl⟩
                    unfold zWhy
                    first | (exfalso; omega) | rw [if_pos (by omega)] | rw [if_neg (by omega), if_pos (by omega)] | rw [if_neg (by omega), if_neg (by omega), if_pos (by omega)] | rw [if_neg (by omega), if_neg (by omega), if_neg (by omega)]
              · -- 95 F
                refine g_iconst 4 C dX9_whyNot_98 (by decide) ?_
                refine g_goto (tgt := 123) C dX9_whyNot_99 (by decide) ?_
                refine g_iret C hR hS dX9_whyNot_123 ?_
                refine ⟨?_, rfl⟩
                unfold zWhy
                first | (exfalso; omega) | rw [if_pos (by omega)] | rw [if_neg (by omega), if_pos (by omega)] | rw [if_neg (by omega), if_neg (by omega), if_pos (by omega)] | rw [if_neg (by omega), if_neg (by omega), if_neg (by omega)]
          · -- 65 F
            refine g_iconst 1 C dX9_whyNot_68 (by decide) ?_
            refine g_goto (tgt := 73) C dX9_whyNot_69 (by decide) ?_
            refine g_istore_n C hl dX9_whyNot_73 (Nat.le_of_ble_eq_true rfl) (fun ls hl => ?_)
            refine g_iload_n C hl dX9_whyNot_74 rfl ?_
            refine g_if_eq (tgt := 80) C dX9_whyNot_75 (by decide) (by omega) (fun z9 => absurd z9 (by omega)) (fun c75 => ?_)
            refine g_iconst 3 C dX9_whyNot_78 (by decide) ?_
            refine g_iret C hR hS dX9_whyNot_79 ?_
            refine ⟨?_, rfl⟩
            unfold zWhy
            first | (exfalso; omega) | rw [if_pos (by omega)] | rw [if_neg (by omega), if_pos (by omega)] | rw [if_neg (by omega), if_neg (by omega), if_pos (by omega)] | rw [if_neg (by omega), if_neg (by omega), if_neg (by omega)]
      · -- 29 F
        refine g_iload_n C hl dX9_whyNot_32 rfl ?_
        refine g_bipush 10 C dX9_whyNot_33 (by decide) ?_
        refine g_idiv C dX9_whyNot_35 (by omega) (by decide) (by decide) ?_
        refine g_callSi C hl.1 hR hS md_X9_isWindow ml_X9_65 (c_X9_isWindow l hI) rfl rfl ⟨Nat.le_of_ble_eq_true rfl, Nat.le_of_ble_eq_true rfl⟩ ⟨Nat.le_refl _, Nat.le_refl _⟩ (Nat.le_of_ble_eq_true rfl) dX9_whyNot_36 (fun H locs hR hS => ?_)
        refine g_ifw_eq (tgt := 68) C dX9_whyNot_39 (by decide) (by omega) (fun c39 => ?_) (fun c39 => ?_)
        · -- 39 T
          refine g_iconst 1 C dX9_whyNot_68 (by decide) ?_
          refine g_goto (tgt := 73) C dX9_whyNot_69 (by decide) ?_
          refine g_istore_n C hl dX9_whyNot_73 (Nat.le_of_ble_eq_true rfl) (fun ls hl => ?_)
          refine g_iload_n C hl dX9_whyNot_74 rfl ?_
          refine g_if_eq (tgt := 80) C dX9_whyNot_75 (by decide) (by omega) (fun z9 => absurd z9 (by omega)) (fun c75 => ?_)
          refine g_iconst 3 C dX9_whyNot_78 (by decide) ?_
          refine g_iret C hR hS dX9_whyNot_79 ?_
          refine ⟨?_, rfl⟩
          unfold zWhy
          first | (exfalso; omega) | rw [if_pos (by omega)] | rw [if_neg (by omega), if_pos (by omega)] | rw [if_neg (by omega), if_neg (by omega), if_pos (by omega)] | rw [if_neg (by omega), if_neg (by omega), if_neg (by omega)]
        · -- 39 F
          refine g_iload_n C hl dX9_whyNot_42 rfl ?_
          refine g_bipush 10 C dX9_whyNot_43 (by decide) ?_
          refine g_irem C dX9_whyNot_45 (by omega) (by decide) (by decide) ?_
          refine g_callSi C hl.1 hR hS md_X9_isBank ml_X9_51 (c_X9_isBank l hI) rfl rfl ⟨Nat.le_of_ble_eq_true rfl, Nat.le_of_ble_eq_true rfl⟩ ⟨Nat.le_refl _, Nat.le_refl _⟩ (Nat.le_of_ble_eq_true rfl) dX9_whyNot_46 (fun H locs hR hS => ?_)
          refine g_ifw_eq (tgt := 68) C dX9_whyNot_49 (by decide) (by omega) (fun c49 => ?_) (fun c49 => ?_)
          · -- 49 T
            refine g_iconst 1 C dX9_whyNot_68 (by decide) ?_
            refine g_goto (tgt := 73) C dX9_whyNot_69 (by decide) ?_
            refine g_istore_n C hl dX9_whyNot_73 (Nat.le_of_ble_eq_true rfl) (fun ls hl => ?_)
            refine g_iload_n C hl dX9_whyNot_74 rfl ?_
            refine g_if_eq (tgt := 80) C dX9_whyNot_75 (by decide) (by omega) (fun z9 => absurd z9 (by omega)) (fun c75 => ?_)
            refine g_iconst 3 C dX9_whyNot_78 (by decide) ?_
            refine g_iret C hR hS dX9_whyNot_79 ?_
            refine ⟨?_, rfl⟩
            unfold zWhy
            first | (exfalso; omega) | rw [if_pos (by omega)] | rw [if_neg (by omega), if_pos (by omega)] | rw [if_neg (by omega), if_neg (by omega), if_pos (by omega)] | rw [if_neg (by omega), if_neg (by omega), if_neg (by omega)]
          · -- 49 F
            refine g_iload_n C hl dX9_whyNot_52 rfl ?_
            refine g_bipush 7 C dX9_whyNot_53 (by decide) ?_
            refine g_icmp_ne (tgt := 72) C dX9_whyNot_55 (by decide) (by omega) (by omega) (fun c55 => ?_) (fun c55 => ?_)
            · -- 55 T
              refine g_iconst 0 C dX9_whyNot_72 (by decide) ?_
              refine g_istore_n C hl dX9_whyNot_73 (Nat.le_of_ble_eq_true rfl) (fun ls hl => ?_)
              refine g_iload_n C hl dX9_whyNot_74 rfl ?_
              refine g_if_eq (tgt := 80) C dX9_whyNot_75 (by decide) (by omega) (fun c75 => ?_) (fun z9 => absurd z9 (by omega))
              refine g_iload_n C hl dX9_whyNot_80 rfl ?_
              refine g_bipush 7 C dX9_whyNot_81 (by decide) ?_
              refine g_icmp_ne (tgt := 102) C dX9_whyNot_83 (by decide) (by omega) (by omega) (fun c83 => ?_) (fun c83 => ?_)
              · -- 83 T
                refine g_iload_n C hl dX9_whyNot_102 rfl ?_
                refine g_bipush 8 C dX9_whyNot_103 (by decide) ?_
                refine g_icmp_ne (tgt := 122) C dX9_whyNot_105 (by decide) (by omega) (by omega) (fun c105 => ?_) (fun c105 => ?_)
                · -- 105 T
                  refine g_iconst 0 C dX9_whyNot_122 (by decide) ?_
                  refine g_iret C hR hS dX9_whyNot_123 ?_
                  refine ⟨?_, rfl⟩
                  unfold zWhy
                  first | (exfalso; omega) | rw [if_pos (by omega)] | rw [if_neg (by omega), if_pos (by omega)] | rw [if_neg (by omega), if_neg (by omega), if_pos (by omega)] | rw [if_neg (by omega), if_neg (by omega), if_neg (by omega)]
                · -- 105 F
                  refine g_aload_n C hl dX9_whyNot_108 rfl ?_
                  refine gt_X9_0 C hR fl_X9_7 dX9_whyNot_109 ?_
                  refine g_bipush 116 C dX9_whyNot_112 (by decide) ?_
                  refine r_ald1 C hR (by omega) dX9_whyNot_114 ?_
                  refine g_if_ne (tgt := 122) C dX9_whyNot_115 (by decide) (by omega) (fun c115 => ?_) (fun c115 => ?_)
                  · -- 115 T
                    refine g_iconst 0 C dX9_whyNot_122 (by decide) ?_
                    refine g_iret C hR hS dX9_whyNot_123 ?_
                    refine ⟨?_, rfl⟩
                    unfold zWhy
                    first | (exfalso; omega) | rw [if_pos (by omega)] | rw [if_neg (by omega), if_pos (by omega)] | rw [if_neg (by omega), if_neg (by omega), if_pos (by omega)] | rw [if_neg (by omega), if_neg (by omega), if_neg (by omega)]
                  · -- 115 F
                    refine g_iconst 5 C dX9_whyNot_118 (by decide) ?_
                    refine g_goto (tgt := 123) C dX9_whyNot_119 (by decide) ?_
                    refine g_iret C hR hS dX9_whyNot_123 ?_
                    refine ⟨?_, rfl⟩
                    unfold zWhy
                    first | (exfalso; omega) | rw [if_pos (by omega)] | rw [if_neg (by omega), if_pos (by omega)] | rw [if_neg (by omega), if_neg (by omega), if_pos (by omega)] | rw [if_neg (by omega), if_neg (by omega), if_neg (by omega)]
              · -- 83 F
                refine g_aload_n C hl dX9_whyNot_86 rfl ?_
                refine gt_X9_0 C hR fl_X9_7 dX9_whyNot_87 ?_
                refine g_bipush 116 C dX9_whyNot_90 (by decide) ?_
                refine r_ald1 C hR (by omega) dX9_whyNot_92 ?_
                refine g_bipush 8 C dX9_whyNot_93 (by decide) ?_
                refine g_icmp_ne (tgt := 102) C dX9_whyNot_95 (by decide) (by omega) (by omega) (fun c95 => ?_) (fun c95 => ?_)
                · -- 95 T
                  refine g_iload_n C hl dX9_whyNot_102 rfl ?_
                  refine g_bipush 8 C dX9_whyNot_103 (by decide) ?_
                  refine g_icmp_ne (tgt := 122) C dX9_whyNot_105 (by decide) (by omega) (by omega) (fun c105 => ?_) (fun c105 => ?_)
                  · -- 105 T
                    refine g_iconst 0 C dX9_whyNot_122 (by decide) ?_
                    refine g_iret C hR hS dX9_whyNot_123 ?_
                    refine ⟨?_, rfl⟩
                    unfold zWhy
                    first | (exfalso; omega) | rw [if_pos (by omega)] | rw [if_neg (by omega), if_pos (by omega)] | rw [if_neg (by omega), if_neg (by omega), if_pos (by omega)] | rw [if_neg (by omega), if_neg (by omega), if_neg (by omega)]
                  · -- 105 F
                    refine g_aload_n C hl dX9_whyNot_108 rfl ?_
                    refine gt_X9_0 C hR fl_X9_7 dX9_whyNot_109 ?_
                    refine g_bipush 116 C dX9_whyNot_112 (by decide) ?_
                    refine r_ald1 C hR (by omega) dX9_whyNot_114 ?_
                    refine g_if_ne (tgt := 122) C dX9_whyNot_115 (by decide) (by omega) (fun c115 => ?_) (fun c115 => ?_)
                    · -- 115 T
                      refine g_iconst 0 C dX9_whyNot_122 (by decide) ?_
                      refine g_iret C hR hS dX9_whyNot_123 ?_
                      refine ⟨?_, rfl⟩
                      unfold zWhy
                      first | (exfalso; omega) | rw [if_pos (by omega)] | rw [if_neg (by omega), if_pos (by omega)] | rw [if_neg (by omega), if_neg (by omega), if_pos (by omega)] | rw [if_neg (by omega), if_neg (by omega), if_neg (by omega)]
                    · -- 115 F
                      refine g_iconst 5 C dX9_whyNot_118 (by decide) ?_
                      refine g_goto (tgt := 123) C dX9_whyNot_119 (by decide) ?_
                      refine g_iret C hR hS dX9_whyNot_123 ?_
                      refine ⟨?_, rfl⟩
                      unfold zWhy
                      first | (exfalso; omega) | rw [if_pos (by omega)] | rw [if_neg (by omega), if_pos (by omega)] | rw [if_neg (by omega), if_neg (by omega), if_pos (by omega)] | rw [if_neg (by omega), if_neg (by omega), if_neg (by omega)]
                · -- 95 F
                  refine g_iconst 4 C dX9_whyNot_98 (by decide) ?_
                  refine g_goto (tgt := 123) C dX9_whyNot_99 (by decide) ?_
                  refine g_iret C hR hS dX9_whyNot_123 ?_
                  refine ⟨?_, rfl⟩
                  unfold zWhy
                  first | (exfalso; omega) | rw [if_pos (by omega)] | rw [if_neg (by omega), if_pos (by omega)] | rw [if_neg (by omega), if_neg (by omega), if_pos (by omega)] | rw [if_neg (by omega), if_neg (by omega), if_neg (by omega)]
            · -- 55 F
              refine g_iload_n C hl dX9_whyNot_58 rfl ?_
              refine g_bipush 10 C dX9_whyNot_59 (by decide) ?_
              refine g_idiv C dX9_whyNot_61 (by omega) (by decide) (by decide) ?_
              refine g_callSi C hl.1 hR hS md_X9_isBank ml_X9_51 (c_X9_isBank l hI) rfl rfl ⟨Nat.le_of_ble_eq_true rfl, Nat.le_of_ble_eq_true rfl⟩ ⟨Nat.le_refl _, Nat.le_refl _⟩ (Nat.le_of_ble_eq_true rfl) dX9_whyNot_62 (fun H locs hR hS => ?_)
              refine g_ifw_ne (tgt := 72) C dX9_whyNot_65 (by decide) (by omega) (fun c65 => ?_) (fun c65 => ?_)
              · -- 65 T
                refine g_iconst 0 C dX9_whyNot_72 (by decide) ?_
                refine g_istore_n C hl dX9_whyNot_73 (Nat.le_of_ble_eq_true rfl) (fun ls hl => ?_)
                refine g_iload_n C hl dX9_whyNot_74 rfl ?_
                refine g_if_eq (tgt := 80) C dX9_whyNot_75 (by decide) (by omega) (fun c75 => ?_) (fun z9 => absurd z9 (by omega))
                refine g_iload_n C hl dX9_whyNot_80 rfl ?_
                refine g_bipush 7 C dX9_whyNot_81 (by decide) ?_
                refine g_icmp_ne (tgt := 102) C dX9_whyNot_83 (by decide) (by omega) (by omega) (fun c83 => ?_) (fun c83 => ?_)
                · -- 83 T
                  refine g_iload_n C hl dX9_whyNot_102 rfl ?_
                  refine g_bipush 8 C dX9_whyNot_103 (by decide) ?_
                  refine g_icmp_ne (tgt := 122) C dX9_whyNot_105 (by decide) (by omega) (by omega) (fun c105 => ?_) (fun c105 => ?_)
                  · -- 105 T
                    refine g_iconst 0 C dX9_whyNot_122 (by decide) ?_
                    refine g_iret C hR hS dX9_whyNot_123 ?_
                    refine ⟨?_, rfl⟩
                    unfold zWhy
                    first | (exfalso; omega) | rw [if_pos (by omega)] | rw [if_neg (by omega), if_pos (by omega)] | rw [if_neg (by omega), if_neg (by omega), if_pos (by omega)] | rw [if_neg (by omega), if_neg (by omega), if_neg (by omega)]
                  · -- 105 F
                    refine g_aload_n C hl dX9_whyNot_108 rfl ?_
                    refine gt_X9_0 C hR fl_X9_7 dX9_whyNot_109 ?_
                    refine g_bipush 116 C dX9_whyNot_112 (by decide) ?_
                    refine r_ald1 C hR (by omega) dX9_whyNot_114 ?_
                    refine g_if_ne (tgt := 122) C dX9_whyNot_115 (by decide) (by omega) (fun c115 => ?_) (fun c115 => ?_)
                    · -- 115 T
                      refine g_iconst 0 C dX9_whyNot_122 (by decide) ?_
                      refine g_iret C hR hS dX9_whyNot_123 ?_
                      refine ⟨?_, rfl⟩
                      unfold zWhy
                      first | (exfalso; omega) | rw [if_pos (by omega)] | rw [if_neg (by omega), if_pos (by omega)] | rw [if_neg (by omega), if_neg (by omega), if_pos (by omega)] | rw [if_neg (by omega), if_neg (by omega), if_neg (by omega)]
                    · -- 115 F
                      refine g_iconst 5 C dX9_whyNot_118 (by decide) ?_
                      refine g_goto (tgt := 123) C dX9_whyNot_119 (by decide) ?_
                      refine g_iret C hR hS dX9_whyNot_123 ?_
                      refine ⟨?_, rfl⟩
                      unfold zWhy
                      first | (exfalso; omega) | rw [if_pos (by omega)] | rw [if_neg (by omega), if_pos (by omega)] | rw [if_neg (by omega), if_neg (by omega), if_pos (by omega)] | rw [if_neg (by omega), if_neg (by omega), if_neg (by omega)]
                · -- 83 F
                  refine g_aload_n C hl dX9_whyNot_86 rfl ?_
                  refine gt_X9_0 C hR fl_X9_7 dX9_whyNot_87 ?_
                  refine g_bipush 116 C dX9_whyNot_90 (by decide) ?_
                  refine r_ald1 C hR (by omega) dX9_whyNot_92 ?_
                  refine g_bipush 8 C dX9_whyNot_93 (by decide) ?_
                  refine g_icmp_ne (tgt := 102) C dX9_whyNot_95 (by decide) (by omega) (by omega) (fun c95 => ?_) (fun c95 => ?_)
                  · -- 95 T
                    refine g_iload_n C hl dX9_whyNot_102 rfl ?_
                    refine g_bipush 8 C dX9_whyNot_103 (by decide) ?_
                    refine g_icmp_ne (tgt := 122) C dX9_whyNot_105 (by decide) (by omega) (by omega) (fun c105 => ?_) (fun c105 => ?_)
                    · -- 105 T
                      refine g_iconst 0 C dX9_whyNot_122 (by decide) ?_
                      refine g_iret C hR hS dX9_whyNot_123 ?_
                      refine ⟨?_, rfl⟩
                      unfold zWhy
                      first | (exfalso; omega) | rw [if_pos (by omega)] | rw [if_neg (by omega), if_pos (by omega)] | rw [if_neg (by omega), if_neg (by omega), if_pos (by omega)] | rw [if_neg (by omega), if_neg (by omega), if_neg (by omega)]
                    · -- 105 F
                      refine g_aload_n C hl dX9_whyNot_108 rfl ?_
                      refine gt_X9_0 C hR fl_X9_7 dX9_whyNot_109 ?_
                      refine g_bipush 116 C dX9_whyNot_112 (by decide) ?_
                      refine r_ald1 C hR (by omega) dX9_whyNot_114 ?_
                      refine g_if_ne (tgt := 122) C dX9_whyNot_115 (by decide) (by omega) (fun c115 => ?_) (fun c115 => ?_)
                      · -- 115 T
                        refine g_iconst 0 C dX9_whyNot_122 (by decide) ?_
                        refine g_iret C hR hS dX9_whyNot_123 ?_
                        refine ⟨?_, rfl⟩
                        unfold zWhy
                        first | (exfalso; omega) | rw [if_pos (by omega)] | rw [if_neg (by omega), if_pos (by omega)] | rw [if_neg (by omega), if_neg (by omega), if_pos (by omega)] | rw [if_neg (by omega), if_neg (by omega), if_neg (by omega)]
                      · -- 115 F
                        refine g_iconst 5 C dX9_whyNot_118 (by decide) ?_
                        refine g_goto (tgt := 123) C dX9_whyNot_119 (by decide) ?_
                        refine g_iret C hR hS dX9_whyNot_123 ?_
                        refine ⟨?_, rfl⟩
                        unfold zWhy
                        first | (exfalso; omega) | rw [if_pos (by omega)] | rw [if_neg (by omega), if_pos (by omega)] | rw [if_neg (by omega), if_neg (by omega), if_pos (by omega)] | rw [if_neg (by omega), if_neg (by omega), if_neg (by omega)]
                  · -- 95 F
                    refine g_iconst 4 C dX9_whyNot_98 (by decide) ?_
                    refine g_goto (tgt := 123) C dX9_whyNot_99 (by decide) ?_
                    refine g_iret C hR hS dX9_whyNot_123 ?_
                    refine ⟨?_, rfl⟩
                    unfold zWhy
                    first | (exfalso; omega) | rw [if_pos (by omega)] | rw [if_neg (by omega), if_pos (by omega)] | rw [if_neg (by omega), if_neg (by omega), if_pos (by omega)] | rw [if_neg (by omega), if_neg (by omega), if_neg (by omega)]
              · -- 65 F
                refine g_iconst 1 C dX9_whyNot_68 (by decide) ?_
                refine g_goto (tgt := 73) C dX9_whyNot_69 (by decide) ?_
                refine g_istore_n C hl dX9_whyNot_73 (Nat.le_of_ble_eq_true rfl) (fun ls hl => ?_)
                refine g_iload_n C hl dX9_whyNot_74 rfl ?_
                refine g_if_eq (tgt := 80) C dX9_whyNot_75 (by decide) (by omega) (fun z9 => absurd z9 (by omega)) (fun c75 => ?_)
                refine g_iconst 3 C dX9_whyNot_78 (by decide) ?_
                refine g_iret C hR hS dX9_whyNot_79 ?_
                refine ⟨?_, rfl⟩
                unfold zWhy
                first | (exfalso; omega) | rw [if_pos (by omega)] | rw [if_neg (by omega), if_pos (by omega)] | rw [if_neg (by omega), if_neg (by omega), if_pos (by omega)] | rw [if_neg (by omega), if_neg (by omega), if_neg (by omega)]
    · -- 13 F
      refine g_iconst 1 C dX9_whyNot_16 (by decide) ?_
      refine g_goto (tgt := 21) C dX9_whyNot_17 (by decide) ?_
      refine g_istore_n C hl dX9_whyNot_21 (Nat.le_of_ble_eq_true rfl) (fun ls hl => ?_)
      refine g_iload_n C hl dX9_whyNot_22 rfl ?_
      refine g_if_ne (tgt := 68) C dX9_whyNot_23 (by decide) (by omega) (fun c23 => ?_) (fun z9 => absurd z9 (by omega))
      refine g_iconst 1 C dX9_whyNot_68 (by decide) ?_
      refine g_goto (tgt := 73) C dX9_whyNot_69 (by decide) ?_
      refine g_istore_n C hl dX9_whyNot_73 (Nat.le_of_ble_eq_true rfl) (fun ls hl => ?_)
      refine g_iload_n C hl dX9_whyNot_74 rfl ?_
      refine g_if_eq (tgt := 80) C dX9_whyNot_75 (by decide) (by omega) (fun z9 => absurd z9 (by omega)) (fun c75 => ?_)
      refine g_iconst 3 C dX9_whyNot_78 (by decide) ?_
      refine g_iret C hR hS dX9_whyNot_79 ?_
      refine ⟨?_, rfl⟩
      unfold zWhy
      first | (exfalso; omega) | rw [if_pos (by omega)] | rw [if_neg (by omega), if_pos (by omega)] | rw [if_neg (by omega), if_neg (by omega), if_pos (by omega)] | rw [if_neg (by omega), if_neg (by omega), if_neg (by omega)]
set_option maxRecDepth 100000 in
set_option maxHeartbeats 4000000 in
/-- write -/
theorem c_X9_write (l : Launch) {X : gX} (hI : gInj X) {mem : gM} {f z a o k t r : Nat → Nat} {i : Nat} (hz : zI z) (hi : i < 64) : gF l yX9_write cX9_write 3 none 2 42 X [.ref (gAd X 8 0), .int (nI i)] (gM8 mem f z a o k t r) none (gM8 mem f (zWr z i) a o k t r) := by
  refine gMt.of (own := RX9) (by decide) rfl hI (by simp [Value.category]) (Nat.le_of_ble_eq_true rfl) ?_
  intro p e s m args below meth c ls H locs C hnm hl hR hS
  have hb := hz.bk hi
  have h104 := hz.2.2.1 _ hb
  have h112 := hz.2.2.2.1
  have hat := hz.at hi
  refine g_aload_n C hl dX9_write_0 rfl ?_
  refine g_iload_n C hl dX9_write_1 rfl ?_
  refine g_callVi C hl.1 hR hS rc_X9 md_X9_bankAt ml_X9_32 (c_X9_bankAt l hI hi) rfl rfl ⟨Nat.le_of_ble_eq_true rfl, Nat.le_of_ble_eq_true rfl⟩ ⟨Nat.le_refl _, Nat.le_refl _⟩ (Nat.le_of_ble_eq_true rfl) dX9_write_2 (fun H locs hR hS => ?_)
  refine g_istore_n C hl dX9_write_5 (Nat.le_of_ble_eq_true rfl) (fun ls hl => ?_)
  refine g_aload_n C hl dX9_write_6 rfl ?_
  refine gt_X9_0 C hR fl_X9_7 dX9_write_7 ?_
  refine g_bipush 104 C dX9_write_10 (by decide) ?_
  refine g_iload_n C hl dX9_write_12 rfl ?_
  refine g_iadd C dX9_write_13 ?_
  refine r_ald1 C hR (by omega) dX9_write_14 ?_
  refine g_iconst 1 C dX9_write_15 (by decide) ?_
  refine g_icmp_ne (tgt := 71) C dX9_write_16 (by decide) (by omega) (by omega) (fun c16 => ?_) (fun c16 => ?_)
  · -- 16 T
    refine g_aload_n C hl dX9_write_71 rfl ?_
    refine gt_X9_0 C hR fl_X9_7 dX9_write_72 ?_
    refine g_aload_n C hl dX9_write_75 rfl ?_
    refine g_iload_n C hl dX9_write_76 rfl ?_
    refine g_callVi C hl.1 hR hS rc_X9 md_X9_indexAt ml_X9_71 (c_X9_indexAt l hI hz hi) rfl rfl ⟨Nat.le_of_ble_eq_true rfl, Nat.le_of_ble_eq_true rfl⟩ ⟨Nat.le_refl _, Nat.le_refl _⟩ (Nat.le_of_ble_eq_true rfl) dX9_write_77 (fun H locs hR hS => ?_)
    refine g_aload_n C hl dX9_write_80 rfl ?_
    refine gt_X9_0 C hR fl_X9_7 dX9_write_81 ?_
    refine g_bipush 113 C dX9_write_84 (by decide) ?_
    refine r_ald1 C hR (by omega) dX9_write_86 ?_
    refine r_ast1 C hR hS (by omega) dX9_write_87 (fun H locs hR hS => ?_)
    refine g_aload_n C hl dX9_write_88 rfl ?_
    refine gt_X9_0 C hR fl_X9_7 dX9_write_89 ?_
    refine g_sipush 180 C dX9_write_92 (by decide) ?_
    refine g_dup2 C dX9_write_95 rfl rfl ?_
    refine r_ald1 C hR (by omega) dX9_write_96 ?_
    refine g_iconst 1 C dX9_write_97 (by decide) ?_
    refine g_iadd C dX9_write_98 ?_
    refine r_ast1 C hR hS (by omega) dX9_write_99 (fun H locs hR hS => ?_)
    refine g_aload_n C hl dX9_write_100 rfl ?_
    refine gt_X9_0 C hR fl_X9_7 dX9_write_101 ?_
    refine g_sipush 182 C dX9_write_104 (by decide) ?_
    refine g_iload_n C hl dX9_write_107 rfl ?_
    refine g_iadd C dX9_write_108 ?_
    refine g_dup2 C dX9_write_109 rfl rfl ?_
    refine r_ald1 C hR (by omega) dX9_write_110 ?_
    refine g_iconst 1 C dX9_write_111 (by decide) ?_
    refine g_iadd C dX9_write_112 ?_
    refine r_ast1 C hR hS (by omega) dX9_write_113 (fun H locs hR hS => ?_)
    refine g_vret C hR hS dX9_write_114 ?_
    refine ⟨rfl, ?_⟩
    unfold zWr
    rw [if_neg c16]
    rfl
  · -- 16 F
    refine g_aload_n C hl dX9_write_19 rfl ?_
    refine gt_X9_0 C hR fl_X9_7 dX9_write_20 ?_
    refine g_sipush 181 C dX9_write_23 (by decide) ?_
    refine g_dup2 C dX9_write_26 rfl rfl ?_
    refine r_ald1 C hR (by omega) dX9_write_27 ?_
    refine g_iconst 1 C dX9_write_28 (by decide) ?_
    refine g_iadd C dX9_write_29 ?_
    refine r_ast1 C hR hS (by omega) dX9_write_30 (fun H locs hR hS => ?_)
    refine g_aload_n C hl dX9_write_31 rfl ?_
    refine gt_X9_0 C hR fl_X9_7 dX9_write_32 ?_
    refine g_sipush 190 C dX9_write_35 (by decide) ?_
    refine g_iload_n C hl dX9_write_38 rfl ?_
    refine g_iadd C dX9_write_39 ?_
    refine g_dup2 C dX9_write_40 rfl rfl ?_
    refine r_ald1 C hR (by omega) dX9_write_41 ?_
    refine g_iconst 1 C dX9_write_42 (by decide) ?_
    refine g_iadd C dX9_write_43 ?_
    refine r_ast1 C hR hS (by omega) dX9_write_44 (fun H locs hR hS => ?_)
    refine g_aload_n C hl dX9_write_45 rfl ?_
    refine gt_X9_0 C hR fl_X9_7 dX9_write_46 ?_
    refine g_bipush 115 C dX9_write_49 (by decide) ?_
    refine g_aload_n C hl dX9_write_51 rfl ?_
    refine gt_X9_0 C hR fl_X9_7 dX9_write_52 ?_
    refine g_bipush 112 C dX9_write_55 (by decide) ?_
    refine r_ald1 C hR (by omega) dX9_write_57 ?_
    refine g_iconst 1 C dX9_write_58 (by decide) ?_
    refine g_icmp_ne (tgt := 66) C dX9_write_59 (by decide) (by rw [fU_n _ _ (by omega), fU_n _ _ (by omega)]; omega) (by decide) (fun c59 => ?_) (fun c59 => ?_)
    · -- 59 T
      refine g_iconst 0 C dX9_write_66 (by decide) ?_
      refine r_ast1 C hR hS (by omega) dX9_write_67 (fun H locs hR hS => ?_)
      refine g_goto (tgt := 114) C dX9_write_68 (by decide) ?_
      refine g_vret C hR hS dX9_write_114 ?_
      refine ⟨rfl, ?_⟩
      unfold zWr
      rw [if_pos c16]
      unfold zWr3
      rw [if_neg (show ¬ zWr2 z (zBk z i) 112 = 1 from c59)]
      rfl
    · -- 59 F
      refine g_iconst 2 C dX9_write_62 (by decide) ?_
      refine g_goto (tgt := 67) C dX9_write_63 (by decide) ?_
      refine r_ast1 C hR hS (by omega) dX9_write_67 (fun H locs hR hS => ?_)
      refine g_goto (tgt := 114) C dX9_write_68 (by decide) ?_
      refine g_vret C hR hS dX9_write_114 ?_
      refine ⟨rfl, ?_⟩
      unfold zWr
      rw [if_pos c16]
      unfold zWr3
      rw [if_pos (show zWr2 z (zBk z i) 112 = 1 from c59)]
      rfl
set_option maxRecDepth 100000 in
set_option maxHeartbeats 4000000 in
/-- call -/
theorem c_X9_call (l : Launch) {X : gX} (hI : gInj X) {mem : gM} {f z a o k t r : Nat → Nat} {w n : Nat} (hz : zI z) (hw9 : w < 4) (hn : n < 100) (h8 : z 116 < 8) : gF l yX9_call cX9_call 4 none 0 0 X [.ref (gAd X 8 0), .int (nI w), .int (nI n)] (gM8 mem f z a o k t r) none (gM8 mem f (zCl z w n) a o k t r) := by
  refine gMt.of (own := RX9) (by decide) rfl hI (by simp [Value.category]) (Nat.le_of_ble_eq_true rfl) ?_
  intro p e s m args below meth c ls H locs C hnm hl hR hS
  refine g_bipush 117 C dX9_call_0 (by decide) ?_
  refine g_iconst 3 C dX9_call_2 (by decide) ?_
  refine g_aload_n C hl dX9_call_3 rfl ?_
  refine gt_X9_0 C hR fl_X9_7 dX9_call_4 ?_
  refine g_bipush 116 C dX9_call_7 (by decide) ?_
  refine r_ald1 C hR (by omega) dX9_call_9 ?_
  refine g_imul C dX9_call_10 ?_
  refine g_iadd C dX9_call_11 ?_
  refine g_istore_n C hl dX9_call_12 (Nat.le_of_ble_eq_true rfl) (fun ls hl => ?_)
  refine g_aload_n C hl dX9_call_13 rfl ?_
  refine gt_X9_0 C hR fl_X9_7 dX9_call_14 ?_
  refine g_iload_n C hl dX9_call_17 rfl ?_
  refine g_iload_n C hl dX9_call_18 rfl ?_
  refine r_ast1 C hR hS (by omega) dX9_call_19 (fun H locs hR hS => ?_)
  refine g_aload_n C hl dX9_call_20 rfl ?_
  refine gt_X9_0 C hR fl_X9_7 dX9_call_21 ?_
  refine g_iload_n C hl dX9_call_24 rfl ?_
  refine g_iconst 1 C dX9_call_25 (by decide) ?_
  refine g_iadd C dX9_call_26 ?_
  refine g_aload_n C hl dX9_call_27 rfl ?_
  refine gt_X9_0 C hR fl_X9_7 dX9_call_28 ?_
  refine g_bipush 100 C dX9_call_31 (by decide) ?_
  refine g_iload_n C hl dX9_call_33 rfl ?_
  refine g_iadd C dX9_call_34 ?_
  refine r_ald1 C hR (by omega) dX9_call_35 ?_
  refine r_ast1 C hR hS (by omega) dX9_call_36 (fun H locs hR hS => ?_)
  refine g_aload_n C hl dX9_call_37 rfl ?_
  refine gt_X9_0 C hR fl_X9_7 dX9_call_38 ?_
  refine g_iload_n C hl dX9_call_41 rfl ?_
  refine g_iconst 2 C dX9_call_42 (by decide) ?_
  refine g_iadd C dX9_call_43 ?_
  refine g_aload_n C hl dX9_call_44 rfl ?_
  refine gt_X9_0 C hR fl_X9_7 dX9_call_45 ?_
  refine g_bipush 114 C dX9_call_48 (by decide) ?_
  refine r_ald1 C hR (by omega) dX9_call_50 ?_
  refine r_ast1 C hR hS (by omega) dX9_call_51 (fun H locs hR hS => ?_)
  refine g_aload_n C hl dX9_call_52 rfl ?_
  refine gt_X9_0 C hR fl_X9_7 dX9_call_53 ?_
  refine g_bipush 116 C dX9_call_56 (by decide) ?_
  refine g_dup2 C dX9_call_58 rfl rfl ?_
  refine r_ald1 C hR (by omega) dX9_call_59 ?_
  refine g_iconst 1 C dX9_call_60 (by decide) ?_
  refine g_iadd C dX9_call_61 ?_
  refine r_ast1 C hR hS (by omega) dX9_call_62 (fun H locs hR hS => ?_)
  refine g_aload_n C hl dX9_call_63 rfl ?_
  refine gt_X9_0 C hR fl_X9_7 dX9_call_64 ?_
  refine g_sipush 179 C dX9_call_67 (by decide) ?_
  refine g_dup2 C dX9_call_70 rfl rfl ?_
  refine r_ald1 C hR (by omega) dX9_call_71 ?_
  refine g_iconst 1 C dX9_call_72 (by decide) ?_
  refine g_iadd C dX9_call_73 ?_
  refine r_ast1 C hR hS (by omega) dX9_call_74 (fun H locs hR hS => ?_)
  refine g_aload_n C hl dX9_call_75 rfl ?_
  refine gt_X9_0 C hR fl_X9_7 dX9_call_76 ?_
  refine g_bipush 100 C dX9_call_79 (by decide) ?_
  refine g_iload_n C hl dX9_call_81 rfl ?_
  refine g_iadd C dX9_call_82 ?_
  refine g_iload_n C hl dX9_call_83 rfl ?_
  refine g_bipush 10 C dX9_call_84 (by decide) ?_
  refine g_idiv C dX9_call_86 (by omega) (by decide) (by decide) ?_
  refine r_ast1 C hR hS (by omega) dX9_call_87 (fun H locs hR hS => ?_)
  refine g_aload_n C hl dX9_call_88 rfl ?_
  refine gt_X9_0 C hR fl_X9_7 dX9_call_89 ?_
  refine g_bipush 114 C dX9_call_92 (by decide) ?_
  refine g_bipush 16 C dX9_call_94 (by decide) ?_
  refine g_iload_n C hl dX9_call_96 rfl ?_
  refine g_imul C dX9_call_97 ?_
  refine g_iload_n C hl dX9_call_98 rfl ?_
  refine g_bipush 10 C dX9_call_99 (by decide) ?_
  refine g_irem C dX9_call_101 (by omega) (by decide) (by decide) ?_
  refine g_iadd C dX9_call_102 ?_
  refine r_ast1 C hR hS (by omega) dX9_call_103 (fun H locs hR hS => ?_)
  refine g_vret C hR hS dX9_call_104 ?_
  exact ⟨rfl, rfl⟩
set_option maxRecDepth 100000 in
set_option maxHeartbeats 4000000 in
/-- back -/
theorem c_X9_back (l : Launch) {X : gX} (hI : gInj X) {mem : gM} {f z a o k t r : Nat → Nat} (hz : zI z) (h8 : 0 < z 116) : gF l yX9_back cX9_back 2 none 0 0 X [.ref (gAd X 8 0)] (gM8 mem f z a o k t r) none (gM8 mem f (zBc z) a o k t r) := by
  refine gMt.of (own := RX9) (by decide) rfl hI (by simp [Value.category]) (Nat.le_of_ble_eq_true rfl) ?_
  intro p e s m args below meth c ls H locs C hnm hl hR hS
  have h116 := hz.2.2.2.2.2.2.2.1
  have hw9 := (hz.2.2.2.2.2.2.2.2.1 (z 116 - 1) (by omega)).1
  refine g_aload_n C hl dX9_back_0 rfl ?_
  refine gt_X9_0 C hR fl_X9_7 dX9_back_1 ?_
  refine g_bipush 116 C dX9_back_4 (by decide) ?_
  refine g_dup2 C dX9_back_6 rfl rfl ?_
  refine r_ald1 C hR (by omega) dX9_back_7 ?_
  refine g_iconst 1 C dX9_back_8 (by decide) ?_
  refine g_isub C dX9_back_9 (by omega) ?_
  refine r_ast1 C hR hS (by omega) dX9_back_10 (fun H locs hR hS => ?_)
  refine g_bipush 117 C dX9_back_11 (by decide) ?_
  refine g_iconst 3 C dX9_back_13 (by decide) ?_
  refine g_aload_n C hl dX9_back_14 rfl ?_
  refine gt_X9_0 C hR fl_X9_7 dX9_back_15 ?_
  refine g_bipush 116 C dX9_back_18 (by decide) ?_
  refine r_ald1 C hR (by omega) dX9_back_20 ?_
  rw [fU_s]
  refine g_imul C dX9_back_21 ?_
  refine g_iadd C dX9_back_22 ?_
  refine g_istore_n C hl dX9_back_23 (Nat.le_of_ble_eq_true rfl) (fun ls hl => ?_)
  refine g_aload_n C hl dX9_back_24 rfl ?_
  refine gt_X9_0 C hR fl_X9_7 dX9_back_25 ?_
  refine g_bipush 100 C dX9_back_28 (by decide) ?_
  refine g_aload_n C hl dX9_back_30 rfl ?_
  refine gt_X9_0 C hR fl_X9_7 dX9_back_31 ?_
  refine g_iload_n C hl dX9_back_34 rfl ?_
  refine r_ald1 C hR (by omega) dX9_back_35 ?_
  rw [fU_n _ _ (by omega)]
  refine g_iadd C dX9_back_36 ?_
  refine g_aload_n C hl dX9_back_37 rfl ?_
  refine gt_X9_0 C hR fl_X9_7 dX9_back_38 ?_
  refine g_iload_n C hl dX9_back_41 rfl ?_
  refine g_iconst 1 C dX9_back_42 (by decide) ?_
  refine g_iadd C dX9_back_43 ?_
  refine r_ald1 C hR (by omega) dX9_back_44 ?_
  refine r_ast1 C hR hS (by omega) dX9_back_45 (fun H locs hR hS => ?_)
  refine g_aload_n C hl dX9_back_46 rfl ?_
  refine gt_X9_0 C hR fl_X9_7 dX9_back_47 ?_
  refine g_bipush 114 C dX9_back_50 (by decide) ?_
  refine g_aload_n C hl dX9_back_52 rfl ?_
  refine gt_X9_0 C hR fl_X9_7 dX9_back_53 ?_
  refine g_iload_n C hl dX9_back_56 rfl ?_
  refine g_iconst 2 C dX9_back_57 (by decide) ?_
  refine g_iadd C dX9_back_58 ?_
  refine r_ald1 C hR (by omega) dX9_back_59 ?_
  refine r_ast1 C hR hS (by omega) dX9_back_60 (fun H locs hR hS => ?_)
  refine g_vret C hR hS dX9_back_61 ?_
  exact ⟨rfl, rfl⟩
theorem zWhy_0 {z : Nat → Nat} {kind n : Nat} (h : zWhy z kind n = 0) : ¬ ((2 ≤ kind ∧ kind ≤ 5 ∧ 64 ≤ n) ∨ (kind = 6 ∧ (4 ≤ n / 10 ∨ 8 ≤ n % 10)) ∨ (kind = 7 ∧ 8 ≤ n / 10)) ∧ ¬ (kind = 7 ∧ z 116 = 8) ∧ ¬ (kind = 8 ∧ z 116 = 0) := by
  unfold zWhy at h
  by_cases h1 : (2 ≤ kind ∧ kind ≤ 5 ∧ 64 ≤ n) ∨ (kind = 6 ∧ (4 ≤ n / 10 ∨ 8 ≤ n % 10)) ∨ (kind = 7 ∧ 8 ≤ n / 10)
  · rw [if_pos h1] at h; omega
  · rw [if_neg h1] at h
    by_cases h2 : kind = 7 ∧ z 116 = 8
    · rw [if_pos h2] at h; omega
    · rw [if_neg h2] at h
      by_cases h3 : kind = 8 ∧ z 116 = 0
      · rw [if_pos h3] at h; omega
      · exact ⟨h1, h2, h3⟩
set_option maxRecDepth 100000 in
set_option maxHeartbeats 4000000 in
theorem c_X9_order_0 (l : Launch) {X : gX} (hI : gInj X) {mem : gM} {f z a o k t r : Nat → Nat} {n w : Nat} (hz : zI z) (hn : n < 100) (hw9 : w < 4) (hy : zWhy z 0 n = 0) : gF l yX9_order cX9_order 4 none 3 64 X [.ref (gAd X 8 0), .int (nI 0), .int (nI n), .int (nI w)] (gM8 mem f z a o k t r) none (gM8 mem f (zOrd z 0 n w) a o k t r) := by
  refine gMt.of (own := RX9) (by decide) rfl hI (by simp [Value.category]) (Nat.le_of_ble_eq_true rfl) ?_
  intro p e s m args below meth c ls H locs C hnm hl hR hS
  obtain ⟨y1, y2, y3⟩ := zWhy_0 hy
  have h113 := hz.2.2.2.2.1
  have h116 := hz.2.2.2.2.2.2.2.1
  refine g_iload_n C hl dX9_order_0 rfl ?_
  refine lv_tableIn (tgt := 52) C.1 C.2.1 dX9_order_1 (by decide) (by decide) rfl (by decide) ?_
  refine g_aload_n C hl dX9_order_52 rfl ?_
  refine gt_X9_0 C hR fl_X9_7 dX9_order_53 ?_
  refine g_bipush 115 C dX9_order_56 (by decide) ?_
  refine g_iconst 1 C dX9_order_58 (by decide) ?_
  refine r_ast1 C hR hS (by omega) dX9_order_59 (fun H locs hR hS => ?_)
  refine g_goto (tgt := 207) C dX9_order_60 (by decide) ?_
  refine g_vret C hR hS dX9_order_207 ?_
  exact ⟨rfl, rfl⟩
set_option maxRecDepth 100000 in
set_option maxHeartbeats 4000000 in
theorem c_X9_order_1 (l : Launch) {X : gX} (hI : gInj X) {mem : gM} {f z a o k t r : Nat → Nat} {n w : Nat} (hz : zI z) (hn : n < 100) (hw9 : w < 4) (hy : zWhy z 1 n = 0) : gF l yX9_order cX9_order 4 none 3 64 X [.ref (gAd X 8 0), .int (nI 1), .int (nI n), .int (nI w)] (gM8 mem f z a o k t r) none (gM8 mem f (zOrd z 1 n w) a o k t r) := by
  refine gMt.of (own := RX9) (by decide) rfl hI (by simp [Value.category]) (Nat.le_of_ble_eq_true rfl) ?_
  intro p e s m args below meth c ls H locs C hnm hl hR hS
  obtain ⟨y1, y2, y3⟩ := zWhy_0 hy
  have h113 := hz.2.2.2.2.1
  have h116 := hz.2.2.2.2.2.2.2.1
  refine g_iload_n C hl dX9_order_0 rfl ?_
  refine lv_tableIn (tgt := 63) C.1 C.2.1 dX9_order_1 (by decide) (by decide) rfl (by decide) ?_
  refine g_aload_n C hl dX9_order_63 rfl ?_
  refine gt_X9_0 C hR fl_X9_7 dX9_order_64 ?_
  refine g_bipush 113 C dX9_order_67 (by decide) ?_
  refine g_iload_n C hl dX9_order_69 rfl ?_
  refine r_ast1 C hR hS (by omega) dX9_order_70 (fun H locs hR hS => ?_)
  refine g_goto (tgt := 207) C dX9_order_71 (by decide) ?_
  refine g_vret C hR hS dX9_order_207 ?_
  exact ⟨rfl, rfl⟩
set_option maxRecDepth 100000 in
set_option maxHeartbeats 4000000 in
theorem c_X9_order_2 (l : Launch) {X : gX} (hI : gInj X) {mem : gM} {f z a o k t r : Nat → Nat} {n w : Nat} (hz : zI z) (hn : n < 100) (hw9 : w < 4) (hy : zWhy z 2 n = 0) : gF l yX9_order cX9_order 4 none 3 64 X [.ref (gAd X 8 0), .int (nI 2), .int (nI n), .int (nI w)] (gM8 mem f z a o k t r) none (gM8 mem f (zOrd z 2 n w) a o k t r) := by
  refine gMt.of (own := RX9) (by decide) rfl hI (by simp [Value.category]) (Nat.le_of_ble_eq_true rfl) ?_
  intro p e s m args below meth c ls H locs C hnm hl hR hS
  obtain ⟨y1, y2, y3⟩ := zWhy_0 hy
  have h113 := hz.2.2.2.2.1
  have h116 := hz.2.2.2.2.2.2.2.1
  have hat := hz.1 _ (hz.at (show n < 64 by omega))
  have hat2 := hz.at (show n < 64 by omega)
  refine g_iload_n C hl dX9_order_0 rfl ?_
  refine lv_tableIn (tgt := 74) C.1 C.2.1 dX9_order_1 (by decide) (by decide) rfl (by decide) ?_
  refine g_aload_n C hl dX9_order_74 rfl ?_
  refine gt_X9_0 C hR fl_X9_7 dX9_order_75 ?_
  refine g_bipush 113 C dX9_order_78 (by decide) ?_
  refine g_aload_n C hl dX9_order_80 rfl ?_
  refine gt_X9_0 C hR fl_X9_7 dX9_order_81 ?_
  refine g_bipush 113 C dX9_order_84 (by decide) ?_
  refine r_ald1 C hR (by omega) dX9_order_86 ?_
  refine g_aload_n C hl dX9_order_87 rfl ?_
  refine gt_X9_0 C hR fl_X9_7 dX9_order_88 ?_
  refine g_aload_n C hl dX9_order_91 rfl ?_
  refine g_iload_n C hl dX9_order_92 rfl ?_
  refine g_callVi C hl.1 hR hS rc_X9 md_X9_indexAt ml_X9_71 (c_X9_indexAt l hI hz (by omega)) rfl rfl ⟨Nat.le_of_ble_eq_true rfl, Nat.le_of_ble_eq_true rfl⟩ ⟨Nat.le_refl _, Nat.le_refl _⟩ (Nat.le_of_ble_eq_true rfl) dX9_order_93 (fun H locs hR hS => ?_)
  refine r_ald1 C hR (by omega) dX9_order_96 ?_
  refine g_callSi C hl.1 hR hS md_X9_sum ml_X9_74 (c_X9_sum l hI (by omega) (by omega)) rfl rfl ⟨Nat.le_of_ble_eq_true rfl, Nat.le_of_ble_eq_true rfl⟩ ⟨Nat.le_refl _, Nat.le_refl _⟩ (Nat.le_of_ble_eq_true rfl) dX9_order_97 (fun H locs hR hS => ?_)
  refine r_ast1 C hR hS (by omega) dX9_order_100 (fun H locs hR hS => ?_)
  refine g_goto (tgt := 207) C dX9_order_101 (by decide) ?_
  refine g_vret C hR hS dX9_order_207 ?_
  exact ⟨rfl, rfl⟩
set_option maxRecDepth 100000 in
set_option maxHeartbeats 4000000 in
theorem c_X9_order_3 (l : Launch) {X : gX} (hI : gInj X) {mem : gM} {f z a o k t r : Nat → Nat} {n w : Nat} (hz : zI z) (hn : n < 100) (hw9 : w < 4) (hy : zWhy z 3 n = 0) : gF l yX9_order cX9_order 4 none 3 64 X [.ref (gAd X 8 0), .int (nI 3), .int (nI n), .int (nI w)] (gM8 mem f z a o k t r) none (gM8 mem f (zOrd z 3 n w) a o k t r) := by
  refine gMt.of (own := RX9) (by decide) rfl hI (by simp [Value.category]) (Nat.le_of_ble_eq_true rfl) ?_
  intro p e s m args below meth c ls H locs C hnm hl hR hS
  obtain ⟨y1, y2, y3⟩ := zWhy_0 hy
  have h113 := hz.2.2.2.2.1
  have h116 := hz.2.2.2.2.2.2.2.1
  refine g_iload_n C hl dX9_order_0 rfl ?_
  refine lv_tableIn (tgt := 104) C.1 C.2.1 dX9_order_1 (by decide) (by decide) rfl (by decide) ?_
  refine g_aload_n C hl dX9_order_104 rfl ?_
  refine g_iload_n C hl dX9_order_105 rfl ?_
  refine g_callVv C hl.1 hR hS rc_X9 md_X9_write ml_X9_77 (c_X9_write l hI hz (by omega)) rfl rfl ⟨Nat.le_of_ble_eq_true rfl, Nat.le_of_ble_eq_true rfl⟩ ⟨Nat.le_refl _, Nat.le_refl _⟩ (Nat.le_of_ble_eq_true rfl) dX9_order_106 (fun H locs hR hS => ?_)
  refine g_goto (tgt := 207) C dX9_order_109 (by decide) ?_
  refine g_vret C hR hS dX9_order_207 ?_
  exact ⟨rfl, rfl⟩
set_option maxRecDepth 100000 in
set_option maxHeartbeats 4000000 in
theorem c_X9_order_4 (l : Launch) {X : gX} (hI : gInj X) {mem : gM} {f z a o k t r : Nat → Nat} {n w : Nat} (hz : zI z) (hn : n < 100) (hw9 : w < 4) (hy : zWhy z 4 n = 0) : gF l yX9_order cX9_order 4 none 3 64 X [.ref (gAd X 8 0), .int (nI 4), .int (nI n), .int (nI w)] (gM8 mem f z a o k t r) none (gM8 mem f (zOrd z 4 n w) a o k t r) := by
  refine gMt.of (own := RX9) (by decide) rfl hI (by simp [Value.category]) (Nat.le_of_ble_eq_true rfl) ?_
  intro p e s m args below meth c ls H locs C hnm hl hR hS
  obtain ⟨y1, y2, y3⟩ := zWhy_0 hy
  have h113 := hz.2.2.2.2.1
  have h116 := hz.2.2.2.2.2.2.2.1
  refine g_iload_n C hl dX9_order_0 rfl ?_
  refine lv_tableIn (tgt := 112) C.1 C.2.1 dX9_order_1 (by decide) (by decide) rfl (by decide) ?_
  refine g_aload_n C hl dX9_order_112 rfl ?_
  refine gt_X9_0 C hR fl_X9_7 dX9_order_113 ?_
  refine g_bipush 114 C dX9_order_116 (by decide) ?_
  refine g_iload_n C hl dX9_order_118 rfl ?_
  refine r_ast1 C hR hS (by omega) dX9_order_119 (fun H locs hR hS => ?_)
  refine g_goto (tgt := 207) C dX9_order_120 (by decide) ?_
  refine g_vret C hR hS dX9_order_207 ?_
  exact ⟨rfl, rfl⟩
set_option maxRecDepth 100000 in
set_option maxHeartbeats 4000000 in
theorem c_X9_order_5 (l : Launch) {X : gX} (hI : gInj X) {mem : gM} {f z a o k t r : Nat → Nat} {n w : Nat} (hz : zI z) (hn : n < 100) (hw9 : w < 4) (hy : zWhy z 5 n = 0) : gF l yX9_order cX9_order 4 none 3 64 X [.ref (gAd X 8 0), .int (nI 5), .int (nI n), .int (nI w)] (gM8 mem f z a o k t r) none (gM8 mem f (zOrd z 5 n w) a o k t r) := by
  refine gMt.of (own := RX9) (by decide) rfl hI (by simp [Value.category]) (Nat.le_of_ble_eq_true rfl) ?_
  intro p e s m args below meth c ls H locs C hnm hl hR hS
  obtain ⟨y1, y2, y3⟩ := zWhy_0 hy
  have h113 := hz.2.2.2.2.1
  have h116 := hz.2.2.2.2.2.2.2.1
  refine g_iload_n C hl dX9_order_0 rfl ?_
  refine lv_tableIn (tgt := 123) C.1 C.2.1 dX9_order_1 (by decide) (by decide) rfl (by decide) ?_
  refine g_aload_n C hl dX9_order_123 rfl ?_
  refine gt_X9_0 C hR fl_X9_7 dX9_order_124 ?_
  refine g_bipush 114 C dX9_order_127 (by decide) ?_
  refine g_aload_n C hl dX9_order_129 rfl ?_
  refine gt_X9_0 C hR fl_X9_7 dX9_order_130 ?_
  refine g_bipush 113 C dX9_order_133 (by decide) ?_
  refine r_ald1 C hR (by omega) dX9_order_135 ?_
  refine g_if_ne (tgt := 143) C dX9_order_136 (by decide) (by omega) (fun c136 => ?_) (fun c136 => ?_)
  · -- 136 T
    refine g_aload_n C hl dX9_order_143 rfl ?_
    refine gt_X9_0 C hR fl_X9_7 dX9_order_144 ?_
    refine g_bipush 114 C dX9_order_147 (by decide) ?_
    refine r_ald1 C hR (by omega) dX9_order_149 ?_
    refine r_ast1 C hR hS (by omega) dX9_order_150 (fun H locs hR hS => ?_)
    refine g_goto (tgt := 207) C dX9_order_151 (by decide) ?_
    refine g_vret C hR hS dX9_order_207 ?_
    refine ⟨rfl, ?_⟩
    show _ = gM8 mem f (fU z 114 (if z 113 = 0 then n else z 114)) a o k t r
    first | rw [if_pos c136] | rw [if_neg c136]
  · -- 136 F
    refine g_iload_n C hl dX9_order_139 rfl ?_
    refine g_goto (tgt := 150) C dX9_order_140 (by decide) ?_
    refine r_ast1 C hR hS (by omega) dX9_order_150 (fun H locs hR hS => ?_)
    refine g_goto (tgt := 207) C dX9_order_151 (by decide) ?_
    refine g_vret C hR hS dX9_order_207 ?_
    refine ⟨rfl, ?_⟩
    show _ = gM8 mem f (fU z 114 (if z 113 = 0 then n else z 114)) a o k t r
    first | rw [if_pos c136] | rw [if_neg c136]
set_option maxRecDepth 100000 in
set_option maxHeartbeats 4000000 in
theorem c_X9_order_6 (l : Launch) {X : gX} (hI : gInj X) {mem : gM} {f z a o k t r : Nat → Nat} {n w : Nat} (hz : zI z) (hn : n < 100) (hw9 : w < 4) (hy : zWhy z 6 n = 0) : gF l yX9_order cX9_order 4 none 3 64 X [.ref (gAd X 8 0), .int (nI 6), .int (nI n), .int (nI w)] (gM8 mem f z a o k t r) none (gM8 mem f (zOrd z 6 n w) a o k t r) := by
  refine gMt.of (own := RX9) (by decide) rfl hI (by simp [Value.category]) (Nat.le_of_ble_eq_true rfl) ?_
  intro p e s m args below meth c ls H locs C hnm hl hR hS
  obtain ⟨y1, y2, y3⟩ := zWhy_0 hy
  have h113 := hz.2.2.2.2.1
  have h116 := hz.2.2.2.2.2.2.2.1
  refine g_iload_n C hl dX9_order_0 rfl ?_
  refine lv_tableIn (tgt := 154) C.1 C.2.1 dX9_order_1 (by decide) (by decide) rfl (by decide) ?_
  refine g_aload_n C hl dX9_order_154 rfl ?_
  refine gt_X9_0 C hR fl_X9_7 dX9_order_155 ?_
  refine g_bipush 100 C dX9_order_158 (by decide) ?_
  refine g_iload_n C hl dX9_order_160 rfl ?_
  refine g_bipush 10 C dX9_order_161 (by decide) ?_
  refine g_idiv C dX9_order_163 (by omega) (by decide) (by decide) ?_
  refine g_iadd C dX9_order_164 ?_
  refine g_iload_n C hl dX9_order_165 rfl ?_
  refine g_bipush 10 C dX9_order_166 (by decide) ?_
  refine g_irem C dX9_order_168 (by omega) (by decide) (by decide) ?_
  refine r_ast1 C hR hS (by omega) dX9_order_169 (fun H locs hR hS => ?_)
  refine g_goto (tgt := 207) C dX9_order_170 (by decide) ?_
  refine g_vret C hR hS dX9_order_207 ?_
  exact ⟨rfl, rfl⟩
set_option maxRecDepth 100000 in
set_option maxHeartbeats 4000000 in
theorem c_X9_order_7 (l : Launch) {X : gX} (hI : gInj X) {mem : gM} {f z a o k t r : Nat → Nat} {n w : Nat} (hz : zI z) (hn : n < 100) (hw9 : w < 4) (hy : zWhy z 7 n = 0) : gF l yX9_order cX9_order 4 none 3 64 X [.ref (gAd X 8 0), .int (nI 7), .int (nI n), .int (nI w)] (gM8 mem f z a o k t r) none (gM8 mem f (zOrd z 7 n w) a o k t r) := by
  refine gMt.of (own := RX9) (by decide) rfl hI (by simp [Value.category]) (Nat.le_of_ble_eq_true rfl) ?_
  intro p e s m args below meth c ls H locs C hnm hl hR hS
  obtain ⟨y1, y2, y3⟩ := zWhy_0 hy
  have h113 := hz.2.2.2.2.1
  have h116 := hz.2.2.2.2.2.2.2.1
  refine g_iload_n C hl dX9_order_0 rfl ?_
  refine lv_tableIn (tgt := 173) C.1 C.2.1 dX9_order_1 (by decide) (by decide) rfl (by decide) ?_
  refine g_aload_n C hl dX9_order_173 rfl ?_
  refine g_iload_n C hl dX9_order_174 rfl ?_
  refine g_iload_n C hl dX9_order_175 rfl ?_
  refine g_callVv C hl.1 hR hS rc_X9 md_X9_call ml_X9_81 (c_X9_call l hI hz hw9 hn (by omega)) rfl rfl ⟨Nat.le_of_ble_eq_true rfl, Nat.le_of_ble_eq_true rfl⟩ ⟨Nat.le_refl _, Nat.le_refl _⟩ (Nat.le_of_ble_eq_true rfl) dX9_order_176 (fun H locs hR hS => ?_)
  refine g_goto (tgt := 207) C dX9_order_179 (by decide) ?_
  refine g_vret C hR hS dX9_order_207 ?_
  exact ⟨rfl, rfl⟩
set_option maxRecDepth 100000 in
set_option maxHeartbeats 4000000 in
theorem c_X9_order_8 (l : Launch) {X : gX} (hI : gInj X) {mem : gM} {f z a o k t r : Nat → Nat} {n w : Nat} (hz : zI z) (hn : n < 100) (hw9 : w < 4) (hy : zWhy z 8 n = 0) : gF l yX9_order cX9_order 4 none 3 64 X [.ref (gAd X 8 0), .int (nI 8), .int (nI n), .int (nI w)] (gM8 mem f z a o k t r) none (gM8 mem f (zOrd z 8 n w) a o k t r) := by
  refine gMt.of (own := RX9) (by decide) rfl hI (by simp [Value.category]) (Nat.le_of_ble_eq_true rfl) ?_
  intro p e s m args below meth c ls H locs C hnm hl hR hS
  obtain ⟨y1, y2, y3⟩ := zWhy_0 hy
  have h113 := hz.2.2.2.2.1
  have h116 := hz.2.2.2.2.2.2.2.1
  refine g_iload_n C hl dX9_order_0 rfl ?_
  refine lv_tableIn (tgt := 182) C.1 C.2.1 dX9_order_1 (by decide) (by decide) rfl (by decide) ?_
  refine g_aload_n C hl dX9_order_182 rfl ?_
  refine g_callVv C hl.1 hR hS rc_X9 md_X9_back ml_X9_85 (c_X9_back l hI hz (by omega)) rfl rfl ⟨Nat.le_of_ble_eq_true rfl, Nat.le_of_ble_eq_true rfl⟩ ⟨Nat.le_refl _, Nat.le_refl _⟩ (Nat.le_of_ble_eq_true rfl) dX9_order_183 (fun H locs hR hS => ?_)
  refine g_goto (tgt := 207) C dX9_order_186 (by decide) ?_
  refine g_vret C hR hS dX9_order_207 ?_
  exact ⟨rfl, rfl⟩
set_option maxRecDepth 100000 in
set_option maxHeartbeats 4000000 in
theorem c_X9_order_9 (l : Launch) {X : gX} (hI : gInj X) {mem : gM} {f z a o k t r : Nat → Nat} {n w : Nat} (hz : zI z) (hn : n < 100) (hw9 : w < 4) (hy : zWhy z 9 n = 0) : gF l yX9_order cX9_order 4 none 3 64 X [.ref (gAd X 8 0), .int (nI 9), .int (nI n), .int (nI w)] (gM8 mem f z a o k t r) none (gM8 mem f (zOrd z 9 n w) a o k t r) := by
  refine gMt.of (own := RX9) (by decide) rfl hI (by simp [Value.category]) (Nat.le_of_ble_eq_true rfl) ?_
  intro p e s m args below meth c ls H locs C hnm hl hR hS
  obtain ⟨y1, y2, y3⟩ := zWhy_0 hy
  have h113 := hz.2.2.2.2.1
  have h116 := hz.2.2.2.2.2.2.2.1
  refine g_iload_n C hl dX9_order_0 rfl ?_
  refine lv_tableOut (tgt := 189) C.1 C.2.1 dX9_order_1 (Or.inr (by decide)) (by decide) ?_
  refine g_aload_n C hl dX9_order_189 rfl ?_
  refine gt_X9_0 C hR fl_X9_7 dX9_order_190 ?_
  refine g_bipush 113 C dX9_order_193 (by decide) ?_
  refine g_aload_n C hl dX9_order_195 rfl ?_
  refine gt_X9_0 C hR fl_X9_7 dX9_order_196 ?_
  refine g_bipush 113 C dX9_order_199 (by decide) ?_
  refine r_ald1 C hR (by omega) dX9_order_201 ?_
  refine g_iload_n C hl dX9_order_202 rfl ?_
  refine g_callSi C hl.1 hR hS md_X9_sum ml_X9_74 (c_X9_sum l hI (by omega) (by omega)) rfl rfl ⟨Nat.le_of_ble_eq_true rfl, Nat.le_of_ble_eq_true rfl⟩ ⟨Nat.le_refl _, Nat.le_refl _⟩ (Nat.le_of_ble_eq_true rfl) dX9_order_203 (fun H locs hR hS => ?_)
  refine r_ast1 C hR hS (by omega) dX9_order_206 (fun H locs hR hS => ?_)
  refine g_vret C hR hS dX9_order_207 ?_
  exact ⟨rfl, rfl⟩
theorem c_X9_order (l : Launch) {X : gX} (hI : gInj X) {mem : gM} {f z a o k t r : Nat → Nat} {kind n w : Nat} (hz : zI z) (hk : kind < 10) (hn : n < 100) (hw9 : w < 4) (hy : zWhy z kind n = 0) : gF l yX9_order cX9_order 4 none 3 64 X [.ref (gAd X 8 0), .int (nI kind), .int (nI n), .int (nI w)] (gM8 mem f z a o k t r) none (gM8 mem f (zOrd z kind n w) a o k t r) := match kind, hk, hy with
  | 0, _, hy => c_X9_order_0 l hI hz hn hw9 hy
  | 1, _, hy => c_X9_order_1 l hI hz hn hw9 hy
  | 2, _, hy => c_X9_order_2 l hI hz hn hw9 hy
  | 3, _, hy => c_X9_order_3 l hI hz hn hw9 hy
  | 4, _, hy => c_X9_order_4 l hI hz hn hw9 hy
  | 5, _, hy => c_X9_order_5 l hI hz hn hw9 hy
  | 6, _, hy => c_X9_order_6 l hI hz hn hw9 hy
  | 7, _, hy => c_X9_order_7 l hI hz hn hw9 hy
  | 8, _, hy => c_X9_order_8 l hI hz hn hw9 hy
  | 9, _, hy => c_X9_order_9 l hI hz hn hw9 hy
  | q + 10, h, _ => absurd h (by omega)
theorem zSh_step {z : Nat → Nat} {i : Nat} (h : 2 ≤ i) (hi : i + 1 < 3 * z 141) : zSh z (i + 1) = fU (zSh z (i + 1 + 1)) (142 + (i + 1)) (zSh z (i + 1 + 1) (142 + (i + 1) - 3)) := by
  funext j
  unfold zSh fU
  by_cases e : j = 142 + (i + 1)
  · subst e
    rw [if_pos rfl, if_pos (by omega), if_neg (by omega)]
  · rw [if_neg e]
    dsimp only
    by_cases g : 142 + (i + 1) ≤ j ∧ j < 142 + 3 * z 141
    · rw [if_pos g, if_pos (by omega)]
    · rw [if_neg g, if_neg (by omega)]
theorem zSh_0 (z : Nat → Nat) : zSh z (3 * z 141) = z := by
  funext j
  unfold zSh
  rw [if_neg (by omega)]
theorem zKp0_141 {z : Nat → Nat} (h : z 141 ≤ 12) : 1 ≤ zKp0 z 141 ∧ zKp0 z 141 ≤ 12 := by
  unfold zKp0
  by_cases e : z 141 < 12
  · rw [if_pos e, fU_s]; omega
  · rw [if_neg e]; omega
set_option maxRecDepth 100000 in
set_option maxHeartbeats 4000000 in
/-- keepStep -/
theorem c_X9_keepStep (l : Launch) {X : gX} (hI : gInj X) {mem : gM} {f z a o k t r : Nat → Nat} {ad num : Nat} (hz : zI z) (had : ad < 64) : gF l yX9_keepStep cX9_keepStep 4 none 1 21 X [.ref (gAd X 8 0), .int (nI ad), .int (nI num)] (gM8 mem f z a o k t r) none (gM8 mem f (zKp z ad num) a o k t r) := by
  refine gMt.of (own := RX9) (by decide) rfl hI (by simp [Value.category]) (Nat.le_of_ble_eq_true rfl) ?_
  intro p e s m args below meth c ls H locs C hnm hl hR hS
  have h141 := hz.2.2.2.2.2.2.2.2.2
  obtain ⟨k1, k2⟩ := zKp0_141 h141
  have loop : ∀ (d i : Nat), i = d + 2 → i < 3 * zKp0 z 141 → ∀ (ls : Array Slot) (H : Heap) (locs : List Loc), gL ls [some (.ref (gAd X 8 0)), some (.int (nI ad)), some (.int (nI num)), some (.int (nI i))] → gRep X (gM8 mem f (zSh (zKp0 z) (i + 1)) a o k t r) H → va_S (gA X) s.heap H locs → W p l e { frames := 1, cells := 0, slots := 0, locals := 21 } s m args below meth c H locs 0 0 (MQ below (gQ X (fun v m => v = none ∧ m = gM8 mem f (zKp z ad num) a o k t r)) args s 0 0 (gA X)) (F0 m 38 ls []) := by
    intro d
    induction d with
    | zero =>
      intro i hi hi2 ls H locs hl hR hS
      subst hi
      refine g_iload_n C hl dX9_keepStep_38 rfl ?_
      refine g_iconst 3 C dX9_keepStep_39 (by decide) ?_
      refine g_icmp_lt (tgt := 71) C dX9_keepStep_40 (by decide) (by omega) (by omega) (fun c40 => ?_) (fun z9 => absurd z9 (by omega))
      refine g_aload_n C hl dX9_keepStep_71 rfl ?_
      refine gt_X9_0 C hR fl_X9_7 dX9_keepStep_72 ?_
      refine g_sipush 142 C dX9_keepStep_75 (by decide) ?_
      refine g_iload_n C hl dX9_keepStep_78 rfl ?_
      refine r_ast1 C hR hS (by omega) dX9_keepStep_79 (fun H locs hR hS => ?_)
      refine g_aload_n C hl dX9_keepStep_80 rfl ?_
      refine gt_X9_0 C hR fl_X9_7 dX9_keepStep_81 ?_
      refine g_sipush 143 C dX9_keepStep_84 (by decide) ?_
      refine g_aload_n C hl dX9_keepStep_87 rfl ?_
      refine g_iload_n C hl dX9_keepStep_88 rfl ?_
      refine g_callVi C hl.1 hR hS rc_X9 md_X9_bankAt ml_X9_32 (c_X9_bankAt l hI had) rfl rfl ⟨Nat.le_of_ble_eq_true rfl, Nat.le_of_ble_eq_true rfl⟩ ⟨Nat.le_refl _, Nat.le_refl _⟩ (Nat.le_of_ble_eq_true rfl) dX9_keepStep_89 (fun H locs hR hS => ?_)
      refine r_ast1 C hR hS (by omega) dX9_keepStep_92 (fun H locs hR hS => ?_)
      refine g_aload_n C hl dX9_keepStep_93 rfl ?_
      refine gt_X9_0 C hR fl_X9_7 dX9_keepStep_94 ?_
      refine g_sipush 144 C dX9_keepStep_97 (by decide) ?_
      refine g_iload_n C hl dX9_keepStep_100 rfl ?_
      refine r_ast1 C hR hS (by omega) dX9_keepStep_101 (fun H locs hR hS => ?_)
      refine g_vret C hR hS dX9_keepStep_102 ?_
      exact ⟨rfl, rfl⟩
    | succ d ih =>
      intro i hi hi2 ls H locs hl hR hS
      refine g_iload_n C hl dX9_keepStep_38 rfl ?_
      refine g_iconst 3 C dX9_keepStep_39 (by decide) ?_
      refine g_icmp_lt (tgt := 71) C dX9_keepStep_40 (by decide) (by omega) (by omega) (fun z9 => absurd z9 (by omega)) (fun c40 => ?_)
      refine g_aload_n C hl dX9_keepStep_43 rfl ?_
      refine gt_X9_0 C hR fl_X9_7 dX9_keepStep_44 ?_
      refine g_sipush 142 C dX9_keepStep_47 (by decide) ?_
      refine g_iload_n C hl dX9_keepStep_50 rfl ?_
      refine g_iadd C dX9_keepStep_51 ?_
      refine g_aload_n C hl dX9_keepStep_52 rfl ?_
      refine gt_X9_0 C hR fl_X9_7 dX9_keepStep_53 ?_
      refine g_sipush 142 C dX9_keepStep_56 (by decide) ?_
      refine g_iload_n C hl dX9_keepStep_59 rfl ?_
      refine g_iadd C dX9_keepStep_60 ?_
      refine g_iconst 3 C dX9_keepStep_61 (by decide) ?_
      refine g_isub C dX9_keepStep_62 (by omega) ?_
      refine r_ald1 C hR (by omega) dX9_keepStep_63 ?_
      refine r_ast1 C hR hS (by omega) dX9_keepStep_64 (fun H locs hR hS => ?_)
      obtain ⟨i9, e9⟩ : ∃ i9, i = i9 + 1 := ⟨i - 1, by omega⟩
      subst e9
      refine g_idec C hl dX9_keepStep_65 rfl (by decide) (fun ls hl => ?_)
      refine g_goto (tgt := 38) C dX9_keepStep_68 (by decide) ?_
      refine ih i9 (by omega) (by omega) ls H locs hl ?_ hS
      rw [zSh_step (by omega) (by omega)]
      exact hR
  refine g_aload_n C hl dX9_keepStep_0 rfl ?_
  refine gt_X9_0 C hR fl_X9_7 dX9_keepStep_1 ?_
  refine g_sipush 141 C dX9_keepStep_4 (by decide) ?_
  refine r_ald1 C hR (by omega) dX9_keepStep_7 ?_
  refine g_bipush 12 C dX9_keepStep_8 (by decide) ?_
  refine g_icmp_ge (tgt := 25) C dX9_keepStep_10 (by decide) (by omega) (by omega) (fun c10 => ?_) (fun c10 => ?_)
  · -- 10 T
    have e9 : z = zKp0 z := by unfold zKp0; rw [if_neg (by omega)]
    rw [e9] at hR
    refine g_iconst 3 C dX9_keepStep_25 (by decide) ?_
    refine g_aload_n C hl dX9_keepStep_26 rfl ?_
    refine gt_X9_0 C hR fl_X9_7 dX9_keepStep_27 ?_
    refine g_sipush 141 C dX9_keepStep_30 (by decide) ?_
    refine r_ald1 C hR (by omega) dX9_keepStep_33 ?_
    refine g_imul C dX9_keepStep_34 ?_
    refine g_iconst 1 C dX9_keepStep_35 (by decide) ?_
    refine g_isub C dX9_keepStep_36 (by omega) ?_
    refine g_istore_n C hl dX9_keepStep_37 (Nat.le_of_ble_eq_true rfl) (fun ls hl => ?_)
    have e8 : 3 * zKp0 z 141 - 1 = 3 * zKp0 z 141 - 1 - 2 + 2 := by omega
    exact loop (3 * zKp0 z 141 - 1 - 2) (3 * zKp0 z 141 - 1) e8 (by omega) _ _ _ hl (by rw [show 3 * zKp0 z 141 - 1 + 1 = 3 * zKp0 z 141 by omega, zSh_0]; exact hR) hS
  · -- 10 F
    refine g_aload_n C hl dX9_keepStep_13 rfl ?_
    refine gt_X9_0 C hR fl_X9_7 dX9_keepStep_14 ?_
    refine g_sipush 141 C dX9_keepStep_17 (by decide) ?_
    refine g_dup2 C dX9_keepStep_20 rfl rfl ?_
    refine r_ald1 C hR (by omega) dX9_keepStep_21 ?_
    refine g_iconst 1 C dX9_keepStep_22 (by decide) ?_
    refine g_iadd C dX9_keepStep_23 ?_
    refine r_ast1 C hR hS (by omega) dX9_keepStep_24 (fun H locs hR hS => ?_)
    have e9 : fU z 141 (z 141 + 1) = zKp0 z := by unfold zKp0; rw [if_pos c10]
    rw [e9] at hR
    refine g_iconst 3 C dX9_keepStep_25 (by decide) ?_
    refine g_aload_n C hl dX9_keepStep_26 rfl ?_
    refine gt_X9_0 C hR fl_X9_7 dX9_keepStep_27 ?_
    refine g_sipush 141 C dX9_keepStep_30 (by decide) ?_
    refine r_ald1 C hR (by omega) dX9_keepStep_33 ?_
    refine g_imul C dX9_keepStep_34 ?_
    refine g_iconst 1 C dX9_keepStep_35 (by decide) ?_
    refine g_isub C dX9_keepStep_36 (by omega) ?_
    refine g_istore_n C hl dX9_keepStep_37 (Nat.le_of_ble_eq_true rfl) (fun ls hl => ?_)
    have e8 : 3 * zKp0 z 141 - 1 = 3 * zKp0 z 141 - 1 - 2 + 2 := by omega
    exact loop (3 * zKp0 z 141 - 1 - 2) (3 * zKp0 z 141 - 1) e8 (by omega) _ _ _ hl (by rw [show 3 * zKp0 z 141 - 1 + 1 = 3 * zKp0 z 141 by omega, zSh_0]; exact hR) hS
