/-! ===== Code: all orders ===== -/
theorem gP_sw (mem : gM) {k a b : Nat} (f g : Nat → Nat) (h : ¬ a = b) : gP (gP mem k a f) k b g = gP (gP mem k b g) k a f := by
  funext k'
  by_cases e : k' = k
  · subst e
    funext o
    by_cases e1 : o = a
    · subst e1
      rw [gP_n _ _ (by omega), gP_s, gP_s]
    · by_cases e2 : o = b
      · subst e2
        rw [gP_s, gP_n _ _ (by omega), gP_s]
      · rw [gP_n _ _ (by omega), gP_n _ _ (by omega), gP_n _ _ (by omega), gP_n _ _ (by omega)]
  · rw [gP_nk _ _ e, gP_nk _ _ e, gP_nk _ _ e, gP_nk _ _ e]
theorem pF_1 {n : Nat} {t : Nat → Nat} {d p9 m9 : Nat} {r : Nat → Nat} (h : ¬ (pOq n t p9).2 = 0) : pFd n t (d + 1) p9 m9 r = (1, (pOq n t p9).1, m9, r) := if_neg h
theorem pF_2 {n : Nat} {t : Nat → Nat} {d p9 m9 : Nat} {r : Nat → Nat} (h : (pOq n t p9).2 = 0) (h2 : (pOq n t p9).1 = n) : pFd n t (d + 1) p9 m9 r = (0, n, m9 + 1, if m9 < 16 then fU r m9 (pOv n t p9) else r) := by
  unfold pFd
  rw [if_pos h, if_pos h2]
theorem pF_3 {n : Nat} {t : Nat → Nat} {d p9 m9 : Nat} {r : Nat → Nat} (h : (pOq n t p9).2 = 0) (h2 : ¬ (pOq n t p9).1 = n) (h3 : pSg n t (pOq n t p9).1 = 59) : pFd n t (d + 1) p9 m9 r = pFd n t d ((pOq n t p9).1 + 1) (m9 + 1) (if m9 < 16 then fU r m9 (pOv n t p9) else r) := by
  show (if (pOq n t p9).2 = 0 then _ else _) = _
  rw [if_pos h, if_neg h2, if_pos h3]
theorem pF_4 {n : Nat} {t : Nat → Nat} {d p9 m9 : Nat} {r : Nat → Nat} (h : (pOq n t p9).2 = 0) (h2 : ¬ (pOq n t p9).1 = n) (h3 : ¬ pSg n t (pOq n t p9).1 = 59) : pFd n t (d + 1) p9 m9 r = (1, (pOq n t p9).1, m9 + 1, if m9 < 16 then fU r m9 (pOv n t p9) else r) := by
  unfold pFd
  rw [if_pos h, if_neg h2, if_neg h3]
set_option maxRecDepth 100000 in
set_option maxHeartbeats 4000000 in
/-- X1_readFrom -/
theorem c_X1_readFrom (l : Launch) {X : gX} (hI : gInj X) {mem : gM} {n : Nat} {t : Nat → Nat} (hx : hTx mem n t) : gMt l yX1_readFrom cX1_readFrom 3 none 8 177 X [.ref (gAd X 7 5), .ref (gAd X 7 3)] mem (fun v9 m9x => v9 = none ∧ ∃ f1 r1, m9x = gP (gP mem 7 7 r1) 7 5 (cT f1 (pFd n t 81 0 0 (mem 7 7)).2.1 (1 - (pFd n t 81 0 0 (mem 7 7)).1)) ∧ (pFd n t 81 0 0 (mem 7 7)).1 < 2 ∧ ((pFd n t 81 0 0 (mem 7 7)).1 = 0 → f1 1 = (pFd n t 81 0 0 (mem 7 7)).2.2.1 ∧ ∀ i, i < (pFd n t 81 0 0 (mem 7 7)).2.2.1 → i < 16 → r1 i = (pFd n t 81 0 0 (mem 7 7)).2.2.2 i)) := by
  refine gMt.of (own := RX1) (by decide) rfl hI (by simp [Value.category]) (Nat.le_of_ble_eq_true rfl) ?_
  intro p e s m args below meth c ls H locs C hnm hl hR hS
  have h80 := hx.2.2.1
  have loop : ∀ (d p9 m9 : Nat) (r f : Nat → Nat) (s9 : Nat), 81 ≤ p9 + d → 4 * m9 ≤ p9 → p9 ≤ n → f 1 = m9 → ∀ (ls : Array Slot) (H : Heap) (locs : List Loc), gL ls [some (.ref (gAd X 7 5)), some (.ref (gAd X 7 3)), some (.int (nI 1))] → gRep X (gP (gP mem 7 7 r) 7 5 (cT f p9 s9)) H → va_S (gA X) s.heap H locs → W p l e { frames := 8, cells := 0, slots := 0, locals := 177 } s m args below meth c H locs 0 0 (MQ below (gQ X (fun v9 m9x => v9 = none ∧ ∃ f1 r1, m9x = gP (gP mem 7 7 r1) 7 5 (cT f1 (pFd n t d p9 m9 r).2.1 (1 - (pFd n t d p9 m9 r).1)) ∧ (pFd n t d p9 m9 r).1 < 2 ∧ ((pFd n t d p9 m9 r).1 = 0 → f1 1 = (pFd n t d p9 m9 r).2.2.1 ∧ ∀ i, i < (pFd n t d p9 m9 r).2.2.1 → i < 16 → r1 i = (pFd n t d p9 m9 r).2.2.2 i))) args s 0 0 (gA X)) (F0 m 12 ls []) := by
    intro d
    induction d with
    | zero => intro p9 m9 r f s9 h1 h4 hp; omega
    | succ d ih =>
      intro p9 m9 r f s9 h1 h4 hp hf ls H locs hl hR hS
      refine g_iload_n C hl dX1_readFrom_12 rfl ?_
      refine g_if_eq (tgt := 98) C dX1_readFrom_13 (by decide) (by decide) (fun z9 => absurd z9 (by decide)) (fun c13 => ?_)
      refine g_aload_n C hl dX1_readFrom_16 rfl ?_
      refine xg_1 C hR fl_X1_20 dX1_readFrom_17 ?_
      rw [hf]
      refine g_bipush 80 C dX1_readFrom_20 (by decide) ?_
      refine g_icmp_ge (tgt := 98) C dX1_readFrom_22 (by decide) (by omega) (by omega) (fun z9 => absurd z9 (by omega)) (fun c22 => ?_)
      refine g_aload_n C hl dX1_readFrom_25 rfl ?_
      refine gt_X1_0 C hR fl_X1_14 dX1_readFrom_26 ?_
      refine g_aload_n C hl dX1_readFrom_29 rfl ?_
      refine xg_1 C hR fl_X1_20 dX1_readFrom_30 ?_
      rw [hf]
      refine g_aload_n C hl dX1_readFrom_33 rfl ?_
      refine g_aload_n C hl dX1_readFrom_34 rfl ?_
      refine g_callV C hl.1 hR hS rc_X1 md_X1_readOrder ml_X1_27 (c_X1_readOrder l hI (hx.q r) hp) rfl rfl ⟨Nat.le_of_ble_eq_true rfl, Nat.le_of_ble_eq_true rfl⟩ ⟨Nat.le_refl _, Nat.le_refl _⟩ (Nat.le_of_ble_eq_true rfl) dX1_readFrom_35 (fun v memx H locs hp hR hS => ?_)
      obtain ⟨x9, e1, hx9, e2⟩ := hp
      subst e1
      subst e2
      by_cases h16 : m9 < 16
      · -- 38 p
        refine g_callVv C hl.1 hR hS (rc_X5 gRow_c) md_X5_write ml_X1_31 (c_X5_write l hI gRow_c h16) rfl rfl ⟨Nat.le_of_ble_eq_true rfl, Nat.le_of_ble_eq_true rfl⟩ ⟨Nat.le_refl _, Nat.le_refl _⟩ (Nat.le_of_ble_eq_true rfl) dX1_readFrom_38 (fun H locs hR hS => ?_)
        have h2p := (pOq_le (t := t) hp).1
        have h2w := (pOq_le (t := t) hp).2
        rw [gP_n _ _ (show ¬ (7 = 7 ∧ 7 = 5) by decide), gP_s, gP_sw _ _ _ (show ¬ 5 = 7 by decide), gP_u] at hR
        refine g_aload_n C hl dX1_readFrom_41 rfl ?_
        refine g_dup C dX1_readFrom_42 rfl ?_
        refine xg_1 C hR fl_X1_20 dX1_readFrom_43 ?_
        rw [hf]
        refine g_iconst 1 C dX1_readFrom_46 (by decide) ?_
        refine g_iadd C dX1_readFrom_47 ?_
        refine xp_1 C hR hS fl_X1_20 dX1_readFrom_48 (fun H locs hR hS => ?_)
        refine g_aload_n C hl dX1_readFrom_51 rfl ?_
        refine xg_3 C hR fl_X1_35 dX1_readFrom_52 ?_
        refine g_if_eq (tgt := 75) C dX1_readFrom_55 (by decide) (by omega) (fun c55 => ?_) (fun c55 => ?_)
        · -- 55 T
          refine g_iconst 0 C dX1_readFrom_75 (by decide) ?_
          refine g_istore_n C hl dX1_readFrom_76 (Nat.le_of_ble_eq_true rfl) (fun ls hl => ?_)
          refine g_aload_n C hl dX1_readFrom_77 rfl ?_
          refine g_dup C dX1_readFrom_78 rfl ?_
          refine xg_2 C hR fl_X1_24 dX1_readFrom_79 ?_
          refine g_iload_n C hl dX1_readFrom_82 rfl ?_
          refine g_if_eq (tgt := 90) C dX1_readFrom_83 (by decide) (by decide) (fun c83 => ?_) (fun z9 => absurd z9 (by decide))
          refine g_iconst 0 C dX1_readFrom_90 (by decide) ?_
          refine g_iadd C dX1_readFrom_91 ?_
          refine xp_2 C hR hS fl_X1_24 dX1_readFrom_92 (fun H locs hR hS => ?_)
          refine g_goto (tgt := 12) C dX1_readFrom_95 (by decide) ?_
          refine g_iload_n C hl dX1_readFrom_12 rfl ?_
          refine g_if_eq (tgt := 98) C dX1_readFrom_13 (by decide) (by decide) (fun c13 => ?_) (fun z9 => absurd z9 (by decide))
          refine g_aload_n C hl dX1_readFrom_98 rfl ?_
          refine g_aload_n C hl dX1_readFrom_99 rfl ?_
          refine xg_3 C hR fl_X1_35 dX1_readFrom_100 ?_
          refine g_if_eq (tgt := 122) C dX1_readFrom_103 (by decide) (by omega) (fun c103 => ?_) (fun z9 => absurd z9 (by omega))
          refine g_iconst 0 C dX1_readFrom_122 (by decide) ?_
          refine xp_3 C hR hS (by decide) fl_X1_35 dX1_readFrom_123 (fun H locs hR hS => ?_)
          refine g_vret C hR hS dX1_readFrom_126 ?_
          rw [pF_1 (by omega)]
          exact ⟨rfl, _, _, rfl, by show 1 < 2; decide, fun z => absurd z (by show ¬ 1 = 0; decide)⟩
        · -- 55 F
          have h2 : (pOq n t p9).2 = 0 := by omega
          refine g_aload_n C hl dX1_readFrom_58 rfl ?_
          refine g_aload_n C hl dX1_readFrom_59 rfl ?_
          refine xg_2 C hR fl_X1_24 dX1_readFrom_60 ?_
          refine g_callVi C hl.1 hR hS rc_X6 md_X6_at ml_X1_39 (c_X6_at l hI ((hx.q _).p _) (by omega)) rfl rfl ⟨Nat.le_of_ble_eq_true rfl, Nat.le_of_ble_eq_true rfl⟩ ⟨Nat.le_refl _, Nat.le_refl _⟩ (Nat.le_of_ble_eq_true rfl) dX1_readFrom_63 (fun H locs hR hS => ?_)
          refine g_bipush 59 C dX1_readFrom_66 (by decide) ?_
          refine g_at_ne (tgt := 75) C dX1_readFrom_68 (by decide) hx.2.2.2 (by decide) (by decide) (fun c68 => ?_) (fun c68 => ?_)
          · -- 68 T
            refine g_iconst 0 C dX1_readFrom_75 (by decide) ?_
            refine g_istore_n C hl dX1_readFrom_76 (Nat.le_of_ble_eq_true rfl) (fun ls hl => ?_)
            refine g_aload_n C hl dX1_readFrom_77 rfl ?_
            refine g_dup C dX1_readFrom_78 rfl ?_
            refine xg_2 C hR fl_X1_24 dX1_readFrom_79 ?_
            refine g_iload_n C hl dX1_readFrom_82 rfl ?_
            refine g_if_eq (tgt := 90) C dX1_readFrom_83 (by decide) (by decide) (fun c83 => ?_) (fun z9 => absurd z9 (by decide))
            refine g_iconst 0 C dX1_readFrom_90 (by decide) ?_
            refine g_iadd C dX1_readFrom_91 ?_
            refine xp_2 C hR hS fl_X1_24 dX1_readFrom_92 (fun H locs hR hS => ?_)
            refine g_goto (tgt := 12) C dX1_readFrom_95 (by decide) ?_
            refine g_iload_n C hl dX1_readFrom_12 rfl ?_
            refine g_if_eq (tgt := 98) C dX1_readFrom_13 (by decide) (by decide) (fun c13 => ?_) (fun z9 => absurd z9 (by decide))
            refine g_aload_n C hl dX1_readFrom_98 rfl ?_
            refine g_aload_n C hl dX1_readFrom_99 rfl ?_
            refine xg_3 C hR fl_X1_35 dX1_readFrom_100 ?_
            refine g_if_eq (tgt := 122) C dX1_readFrom_103 (by decide) (by omega) (fun z9 => absurd z9 (by omega)) (fun c103 => ?_)
            refine g_aload_n C hl dX1_readFrom_106 rfl ?_
            refine g_aload_n C hl dX1_readFrom_107 rfl ?_
            refine xg_2 C hR fl_X1_24 dX1_readFrom_108 ?_
            refine g_callVi C hl.1 hR hS rc_X6 md_X6_at ml_X1_39 (c_X6_at l hI ((hx.q _).p _) (by omega)) rfl rfl ⟨Nat.le_of_ble_eq_true rfl, Nat.le_of_ble_eq_true rfl⟩ ⟨Nat.le_refl _, Nat.le_refl _⟩ (Nat.le_of_ble_eq_true rfl) dX1_readFrom_111 (fun H locs hR hS => ?_)
            refine g_iconstM (-1) C dX1_readFrom_114 (by decide) ?_
            refine g_atE_ne (tgt := 122) C dX1_readFrom_115 (by decide) hx.2.2.2 (fun c115 => ?_) (fun c115 => ?_)
            · -- 115 T
              refine g_iconst 0 C dX1_readFrom_122 (by decide) ?_
              refine xp_3 C hR hS (by decide) fl_X1_35 dX1_readFrom_123 (fun H locs hR hS => ?_)
              refine g_vret C hR hS dX1_readFrom_126 ?_
              rw [pF_4 h2 (by omega) c68]
              exact ⟨rfl, _, _, rfl, by show 1 < 2; decide, fun z => absurd z (by show ¬ 1 = 0; decide)⟩
            · -- 115 F
              refine g_iconst 1 C dX1_readFrom_118 (by decide) ?_
              refine g_goto (tgt := 123) C dX1_readFrom_119 (by decide) ?_
              refine xp_3 C hR hS (by decide) fl_X1_35 dX1_readFrom_123 (fun H locs hR hS => ?_)
              refine g_vret C hR hS dX1_readFrom_126 ?_
              have en : (pOq n t p9).1 = n := by omega
              rw [pF_2 h2 en, if_pos h16, ← hx9 h2]
              rw [en]
              exact ⟨rfl, _, _, rfl, by show 0 < 2; decide, fun _ => ⟨fU_s _ _ _, fun _ _ _ => rfl⟩⟩
          · -- 68 F
            refine g_iconst 1 C dX1_readFrom_71 (by decide) ?_
            refine g_goto (tgt := 76) C dX1_readFrom_72 (by decide) ?_
            refine g_istore_n C hl dX1_readFrom_76 (Nat.le_of_ble_eq_true rfl) (fun ls hl => ?_)
            refine g_aload_n C hl dX1_readFrom_77 rfl ?_
            refine g_dup C dX1_readFrom_78 rfl ?_
            refine xg_2 C hR fl_X1_24 dX1_readFrom_79 ?_
            refine g_iload_n C hl dX1_readFrom_82 rfl ?_
            refine g_if_eq (tgt := 90) C dX1_readFrom_83 (by decide) (by decide) (fun z9 => absurd z9 (by decide)) (fun c83 => ?_)
            refine g_iconst 1 C dX1_readFrom_86 (by decide) ?_
            refine g_goto (tgt := 91) C dX1_readFrom_87 (by decide) ?_
            refine g_iadd C dX1_readFrom_91 ?_
            refine xp_2 C hR hS fl_X1_24 dX1_readFrom_92 (fun H locs hR hS => ?_)
            refine g_goto (tgt := 12) C dX1_readFrom_95 (by decide) ?_
            have h2 : (pOq n t p9).2 = 0 := by omega
            have h3 := pOq_3 h2
            have h4 : (pOq n t p9).1 < n := pSg_in (n := n) (t := t) (by omega)
            rw [pF_3 h2 (by omega) c68, if_pos h16, ← hx9 h2]
            exact ih ((pOq n t p9).1 + 1) (m9 + 1) (fU r m9 x9) (fU f 1 (m9 + 1)) 1 (by omega) (by omega) (by omega) (fU_s _ _ _) ls H locs hl (by first | exact hR | (rw [show 1 - (pOq n t p9).2 = 1 by omega] at hR; exact hR)) hS
      · -- 38 q
        refine g_callVv C hl.1 hR hS (rc_X5 gRow_c) md_X5_write ml_X1_31 (c_X5_write_out l hI gRow_c (by omega) (by omega)) rfl rfl ⟨Nat.le_of_ble_eq_true rfl, Nat.le_of_ble_eq_true rfl⟩ ⟨Nat.le_refl _, Nat.le_refl _⟩ (Nat.le_of_ble_eq_true rfl) dX1_readFrom_38 (fun H locs hR hS => ?_)
        have h2p := (pOq_le (t := t) hp).1
        have h2w := (pOq_le (t := t) hp).2
        refine g_aload_n C hl dX1_readFrom_41 rfl ?_
        refine g_dup C dX1_readFrom_42 rfl ?_
        refine xg_1 C hR fl_X1_20 dX1_readFrom_43 ?_
        rw [hf]
        refine g_iconst 1 C dX1_readFrom_46 (by decide) ?_
        refine g_iadd C dX1_readFrom_47 ?_
        refine xp_1 C hR hS fl_X1_20 dX1_readFrom_48 (fun H locs hR hS => ?_)
        refine g_aload_n C hl dX1_readFrom_51 rfl ?_
        refine xg_3 C hR fl_X1_35 dX1_readFrom_52 ?_
        refine g_if_eq (tgt := 75) C dX1_readFrom_55 (by decide) (by omega) (fun c55 => ?_) (fun c55 => ?_)
        · -- 55 T
          refine g_iconst 0 C dX1_readFrom_75 (by decide) ?_
          refine g_istore_n C hl dX1_readFrom_76 (Nat.le_of_ble_eq_true rfl) (fun ls hl => ?_)
          refine g_aload_n C hl dX1_readFrom_77 rfl ?_
          refine g_dup C dX1_readFrom_78 rfl ?_
          refine xg_2 C hR fl_X1_24 dX1_readFrom_79 ?_
          refine g_iload_n C hl dX1_readFrom_82 rfl ?_
          refine g_if_eq (tgt := 90) C dX1_readFrom_83 (by decide) (by decide) (fun c83 => ?_) (fun z9 => absurd z9 (by decide))
          refine g_iconst 0 C dX1_readFrom_90 (by decide) ?_
          refine g_iadd C dX1_readFrom_91 ?_
          refine xp_2 C hR hS fl_X1_24 dX1_readFrom_92 (fun H locs hR hS => ?_)
          refine g_goto (tgt := 12) C dX1_readFrom_95 (by decide) ?_
          refine g_iload_n C hl dX1_readFrom_12 rfl ?_
          refine g_if_eq (tgt := 98) C dX1_readFrom_13 (by decide) (by decide) (fun c13 => ?_) (fun z9 => absurd z9 (by decide))
          refine g_aload_n C hl dX1_readFrom_98 rfl ?_
          refine g_aload_n C hl dX1_readFrom_99 rfl ?_
          refine xg_3 C hR fl_X1_35 dX1_readFrom_100 ?_
          refine g_if_eq (tgt := 122) C dX1_readFrom_103 (by decide) (by omega) (fun c103 => ?_) (fun z9 => absurd z9 (by omega))
          refine g_iconst 0 C dX1_readFrom_122 (by decide) ?_
          refine xp_3 C hR hS (by decide) fl_X1_35 dX1_readFrom_123 (fun H locs hR hS => ?_)
          refine g_vret C hR hS dX1_readFrom_126 ?_
          rw [pF_1 (by omega)]
          exact ⟨rfl, _, _, rfl, by show 1 < 2; decide, fun z => absurd z (by show ¬ 1 = 0; decide)⟩
        · -- 55 F
          have h2 : (pOq n t p9).2 = 0 := by omega
          refine g_aload_n C hl dX1_readFrom_58 rfl ?_
          refine g_aload_n C hl dX1_readFrom_59 rfl ?_
          refine xg_2 C hR fl_X1_24 dX1_readFrom_60 ?_
          refine g_callVi C hl.1 hR hS rc_X6 md_X6_at ml_X1_39 (c_X6_at l hI ((hx.q _).p _) (by omega)) rfl rfl ⟨Nat.le_of_ble_eq_true rfl, Nat.le_of_ble_eq_true rfl⟩ ⟨Nat.le_refl _, Nat.le_refl _⟩ (Nat.le_of_ble_eq_true rfl) dX1_readFrom_63 (fun H locs hR hS => ?_)
          refine g_bipush 59 C dX1_readFrom_66 (by decide) ?_
          refine g_at_ne (tgt := 75) C dX1_readFrom_68 (by decide) hx.2.2.2 (by decide) (by decide) (fun c68 => ?_) (fun c68 => ?_)
          · -- 68 T
            refine g_iconst 0 C dX1_readFrom_75 (by decide) ?_
            refine g_istore_n C hl dX1_readFrom_76 (Nat.le_of_ble_eq_true rfl) (fun ls hl => ?_)
            refine g_aload_n C hl dX1_readFrom_77 rfl ?_
            refine g_dup C dX1_readFrom_78 rfl ?_
            refine xg_2 C hR fl_X1_24 dX1_readFrom_79 ?_
            refine g_iload_n C hl dX1_readFrom_82 rfl ?_
            refine g_if_eq (tgt := 90) C dX1_readFrom_83 (by decide) (by decide) (fun c83 => ?_) (fun z9 => absurd z9 (by decide))
            refine g_iconst 0 C dX1_readFrom_90 (by decide) ?_
            refine g_iadd C dX1_readFrom_91 ?_
            refine xp_2 C hR hS fl_X1_24 dX1_readFrom_92 (fun H locs hR hS => ?_)
            refine g_goto (tgt := 12) C dX1_readFrom_95 (by decide) ?_
            refine g_iload_n C hl dX1_readFrom_12 rfl ?_
            refine g_if_eq (tgt := 98) C dX1_readFrom_13 (by decide) (by decide) (fun c13 => ?_) (fun z9 => absurd z9 (by decide))
            refine g_aload_n C hl dX1_readFrom_98 rfl ?_
            refine g_aload_n C hl dX1_readFrom_99 rfl ?_
            refine xg_3 C hR fl_X1_35 dX1_readFrom_100 ?_
            refine g_if_eq (tgt := 122) C dX1_readFrom_103 (by decide) (by omega) (fun z9 => absurd z9 (by omega)) (fun c103 => ?_)
            refine g_aload_n C hl dX1_readFrom_106 rfl ?_
            refine g_aload_n C hl dX1_readFrom_107 rfl ?_
            refine xg_2 C hR fl_X1_24 dX1_readFrom_108 ?_
            refine g_callVi C hl.1 hR hS rc_X6 md_X6_at ml_X1_39 (c_X6_at l hI ((hx.q _).p _) (by omega)) rfl rfl ⟨Nat.le_of_ble_eq_true rfl, Nat.le_of_ble_eq_true rfl⟩ ⟨Nat.le_refl _, Nat.le_refl _⟩ (Nat.le_of_ble_eq_true rfl) dX1_readFrom_111 (fun H locs hR hS => ?_)
            refine g_iconstM (-1) C dX1_readFrom_114 (by decide) ?_
            refine g_atE_ne (tgt := 122) C dX1_readFrom_115 (by decide) hx.2.2.2 (fun c115 => ?_) (fun c115 => ?_)
            · -- 115 T
              refine g_iconst 0 C dX1_readFrom_122 (by decide) ?_
              refine xp_3 C hR hS (by decide) fl_X1_35 dX1_readFrom_123 (fun H locs hR hS => ?_)
              refine g_vret C hR hS dX1_readFrom_126 ?_
              rw [pF_4 h2 (by omega) c68]
              exact ⟨rfl, _, _, rfl, by show 1 < 2; decide, fun z => absurd z (by show ¬ 1 = 0; decide)⟩
            · -- 115 F
              refine g_iconst 1 C dX1_readFrom_118 (by decide) ?_
              refine g_goto (tgt := 123) C dX1_readFrom_119 (by decide) ?_
              refine xp_3 C hR hS (by decide) fl_X1_35 dX1_readFrom_123 (fun H locs hR hS => ?_)
              refine g_vret C hR hS dX1_readFrom_126 ?_
              have en : (pOq n t p9).1 = n := by omega
              rw [pF_2 h2 en, if_neg h16]
              rw [en]
              exact ⟨rfl, _, _, rfl, by show 0 < 2; decide, fun _ => ⟨fU_s _ _ _, fun _ _ _ => rfl⟩⟩
          · -- 68 F
            refine g_iconst 1 C dX1_readFrom_71 (by decide) ?_
            refine g_goto (tgt := 76) C dX1_readFrom_72 (by decide) ?_
            refine g_istore_n C hl dX1_readFrom_76 (Nat.le_of_ble_eq_true rfl) (fun ls hl => ?_)
            refine g_aload_n C hl dX1_readFrom_77 rfl ?_
            refine g_dup C dX1_readFrom_78 rfl ?_
            refine xg_2 C hR fl_X1_24 dX1_readFrom_79 ?_
            refine g_iload_n C hl dX1_readFrom_82 rfl ?_
            refine g_if_eq (tgt := 90) C dX1_readFrom_83 (by decide) (by decide) (fun z9 => absurd z9 (by decide)) (fun c83 => ?_)
            refine g_iconst 1 C dX1_readFrom_86 (by decide) ?_
            refine g_goto (tgt := 91) C dX1_readFrom_87 (by decide) ?_
            refine g_iadd C dX1_readFrom_91 ?_
            refine xp_2 C hR hS fl_X1_24 dX1_readFrom_92 (fun H locs hR hS => ?_)
            refine g_goto (tgt := 12) C dX1_readFrom_95 (by decide) ?_
            have h2 : (pOq n t p9).2 = 0 := by omega
            have h3 := pOq_3 h2
            have h4 : (pOq n t p9).1 < n := pSg_in (n := n) (t := t) (by omega)
            rw [pF_3 h2 (by omega) c68, if_neg h16]
            exact ih ((pOq n t p9).1 + 1) (m9 + 1) r (fU f 1 (m9 + 1)) 1 (by omega) (by omega) (by omega) (fU_s _ _ _) ls H locs hl (by first | exact hR | (rw [show 1 - (pOq n t p9).2 = 1 by omega] at hR; exact hR)) hS
  refine g_aload_n C hl dX1_readFrom_0 rfl ?_
  refine g_iconst 0 C dX1_readFrom_1 (by decide) ?_
  refine pt_X1_1 C hR hS fl_X1_20 dX1_readFrom_2 (fun H locs hR hS => ?_)
  refine g_aload_n C hl dX1_readFrom_5 rfl ?_
  refine g_iconst 0 C dX1_readFrom_6 (by decide) ?_
  refine pt_X1_2 C hR hS fl_X1_24 dX1_readFrom_7 (fun H locs hR hS => ?_)
  rw [gP_s, gP_u] at hR
  refine g_iconst 1 C dX1_readFrom_10 (by decide) ?_
  refine g_istore_n C hl dX1_readFrom_11 (Nat.le_of_ble_eq_true rfl) (fun ls hl => ?_)
  exact loop 81 0 0 (mem 7 7) (fU (fU (mem 7 5) 1 0) 2 0) ((fU (fU (mem 7 5) 1 0) 2 0) 3) (by omega) (by omega) (by omega) (by rw [fU_n _ _ (by decide), fU_s]) _ _ _ hl (by rw [gP_self]; rw [← cT_self (fU (fU (mem 7 5) 1 0) 2 0)] at hR; exact hR) hS
