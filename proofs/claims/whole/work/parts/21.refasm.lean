/-! ===== the reference puts code into cells ===== -/
/-- a text's orders from place p on: fault (0, 1), its place, how many, they -/
def pFd (n : Nat) (t : Nat → Nat) : Nat → Nat → Nat → (Nat → Nat) → Nat × Nat × Nat × (Nat → Nat)
  | 0, p9, m9, r => (1, p9, m9, r)
  | d + 1, p9, m9, r => if (pOq n t p9).2 = 0 then (if (pOq n t p9).1 = n then (0, n, m9 + 1, if m9 < 16 then fU r m9 (pOv n t p9) else r) else if pSg n t (pOq n t p9).1 = 59 then pFd n t d ((pOq n t p9).1 + 1) (m9 + 1) (if m9 < 16 then fU r m9 (pOv n t p9) else r) else (1, (pOq n t p9).1, m9 + 1, if m9 < 16 then fU r m9 (pOv n t p9) else r)) else (1, (pOq n t p9).1, m9, r)
theorem pOq_le {n : Nat} {t : Nat → Nat} {p9 : Nat} (hp : p9 ≤ n) : (pOq n t p9).1 ≤ n ∧ (pOq n t p9).2 < 2 := by
  have key : ¬ pSg n t p9 = 0 → ∀ c1 c2 c3 c4, ¬ c1 = 0 → ¬ c2 = 0 → (pRs n t (p9 + 1, 0) c1 c2 c3 c4).1 ≤ n ∧ (pRs n t (p9 + 1, 0) c1 c2 c3 c4).2 < 2 := fun h c1 c2 c3 c4 h1 h2 => pRs_le (q := (p9 + 1, 0)) (pSg_in h) h1 h2
  unfold pOq
  split
  · exact key (by omega) _ _ _ _ (by decide) (by decide)
  · split
    · exact pNq_le (key (by omega) _ _ _ _ (by decide) (by decide)).1
    · split
      · exact pNq_le (key (by omega) _ _ _ _ (by decide) (by decide)).1
      · split
        · split
          · exact pNq_le (key (by omega) _ _ _ _ (by decide) (by decide)).1
          · exact pNq_le (pNq_le (key (by omega) _ _ _ _ (by decide) (by decide)).1).1
        · split
          · exact pNq_le (key (by omega) _ _ _ _ (by decide) (by decide)).1
          · split
            · exact pNq_le (key (by omega) _ _ _ _ (by decide) (by decide)).1
            · split
              · exact pNq_le (pNq_le (key (by omega) _ _ _ _ (by decide) (by decide)).1).1
              · split
                · exact key (by omega) _ _ _ _ (by decide) (by decide)
                · split
                  · exact pNq_le (key (by omega) _ _ _ _ (by decide) (by decide)).1
                  · exact ⟨hp, by show 1 < 2; decide⟩
theorem pTk_ge (q : Nat × Nat) (can : Nat) : q.1 ≤ (pTk q can).1 := by
  unfold pTk
  split
  · exact Nat.le_succ _
  · exact Nat.le_refl _
theorem pTc_ge (n : Nat) (t : Nat → Nat) (q : Nat × Nat) (ch : Nat) : q.1 ≤ (pTc n t q ch).1 := pTk_ge _ _
theorem pRs_ge (n : Nat) (t : Nat → Nat) (q : Nat × Nat) (c1 c2 c3 c4 : Nat) : q.1 ≤ (pRs n t q c1 c2 c3 c4).1 := by
  have h1 := Nat.le_trans (pTc_ge n t q c1) (pTc_ge n t (pTc n t q c1) c2)
  have h2 : q.1 ≤ (pR3 n t q c1 c2 c3).1 := by
    unfold pR3 pR2
    split
    · exact Nat.le_trans h1 (pTc_ge _ _ _ _)
    · exact h1
  unfold pRs
  split
  · exact Nat.le_trans h2 (pTc_ge _ _ _ _)
  · exact h2
theorem pNq_ge (n : Nat) (t : Nat → Nat) (q : Nat × Nat) (most : Nat) : q.1 ≤ (pNq n t q most).1 := by
  have h1 : q.1 ≤ (pN2 n t q most).1 := Nat.le_trans (pTc_ge n t q 32) (pTk_ge _ _)
  unfold pNq
  split
  · exact Nat.le_succ_of_le h1
  · exact h1
theorem pOq_ge (n : Nat) (t : Nat → Nat) (p9 : Nat) : p9 ≤ (pOq n t p9).1 := by
  have key : ∀ c1 c2 c3 c4, p9 ≤ (pRs n t (p9 + 1, 0) c1 c2 c3 c4).1 := fun c1 c2 c3 c4 => Nat.le_trans (Nat.le_succ p9) (pRs_ge n t (p9 + 1, 0) c1 c2 c3 c4)
  unfold pOq
  split
  · exact key _ _ _ _
  · split
    · exact Nat.le_trans (key _ _ _ _) (pNq_ge _ _ _ _)
    · split
      · exact Nat.le_trans (key _ _ _ _) (pNq_ge _ _ _ _)
      · split
        · split
          · exact Nat.le_trans (key _ _ _ _) (pNq_ge _ _ _ _)
          · exact Nat.le_trans (Nat.le_trans (key _ _ _ _) (pNq_ge _ _ _ _)) (pNq_ge _ _ _ _)
        · split
          · exact Nat.le_trans (key _ _ _ _) (pNq_ge _ _ _ _)
          · split
            · exact Nat.le_trans (key _ _ _ _) (pNq_ge _ _ _ _)
            · split
              · exact Nat.le_trans (Nat.le_trans (key _ _ _ _) (pNq_ge _ _ _ _)) (pNq_ge _ _ _ _)
              · split
                · exact key _ _ _ _
                · split
                  · exact Nat.le_trans (key _ _ _ _) (pNq_ge _ _ _ _)
                  · exact Nat.le_refl _
set_option maxRecDepth 100000 in
set_option maxHeartbeats 4000000 in
/-- findFault -/
theorem c_X9_findFault (l : Launch) {X : gX} (hI : gInj X) {mem : gM} {f z a o k t r : Nat → Nat} (h7 : f 7 ≤ 80) (ht : ∀ j, j < f 7 → t j < 65536) : gMt l yX9_findFault cX9_findFault 2 (some .int) 3 66 X [.ref (gAd X 8 0)] (gM8 mem f z a o k t r) (fun v9 mx => v9 = some (.int (if (pFd (f 7) t 81 0 0 r).1 = 0 then -5 else nI (pFd (f 7) t 81 0 0 r).2.1)) ∧ ∃ g1, mx = gM8 mem g1 z a o k t (pFd (f 7) t 81 0 0 r).2.2.2 ∧ g1 3 = f 3 ∧ g1 5 = f 5 ∧ g1 7 = f 7 ∧ g1 11 = (pFd (f 7) t 81 0 0 r).2.2.1) := by
  refine gMt.of (own := RX9) (by decide) rfl hI (by simp [Value.category]) (Nat.le_of_ble_eq_true rfl) ?_
  intro p e s m args below meth c ls H locs C hnm hl hR hS
  have loop : ∀ (d p9 m9 : Nat) (r g : Nat → Nat), 81 ≤ p9 + d → m9 + d ≤ 81 → p9 ≤ f 7 → g 3 = f 3 → g 5 = f 5 → g 7 = f 7 → g 11 = m9 → ∀ (ls : Array Slot) (w0 : Option Value) (H : Heap) (locs : List Loc), gL ls [some (.ref (gAd X 8 0)), w0] → gRep X (gM8 mem (pT g (p9, 0)) z a o k t r) H → va_S (gA X) s.heap H locs → W p l e { frames := 3, cells := 0, slots := 0, locals := 66 } s m args below meth c H locs 0 0 (MQ below (gQ X (fun v9 mx => v9 = some (.int (if (pFd (f 7) t d p9 m9 r).1 = 0 then -5 else nI (pFd (f 7) t d p9 m9 r).2.1)) ∧ ∃ g1, mx = gM8 mem g1 z a o k t (pFd (f 7) t d p9 m9 r).2.2.2 ∧ g1 3 = f 3 ∧ g1 5 = f 5 ∧ g1 7 = f 7 ∧ g1 11 = (pFd (f 7) t d p9 m9 r).2.2.1)) args s 0 0 (gA X)) (F0 m 15 ls []) := by
    intro d
    induction d with
    | zero =>
      intro p9 m9 r g h1 h2 h3
      omega
    | succ d ih =>
      intro p9 m9 r g h1 h2 h3 g3 g5 g7 g11 ls w0 H locs hl hR hS
      have b0 := pOq_le (t := t) h3
      have b1 := pOq_ge (f 7) t p9
      have s0 := pSg_lt ht (pOq (f 7) t p9).1
      refine g_aload_n C hl dX9_findFault_15 rfl ?_
      refine g_callV C hl.1 hR hS rc_X9 md_X9_takeOrder ml_X9_131 (c_X9_takeOrder (f := g) l hI (by omega) (by rw [g7]; exact ht) (by omega)) rfl rfl ⟨Nat.le_of_ble_eq_true rfl, Nat.le_of_ble_eq_true rfl⟩ ⟨Nat.le_refl _, Nat.le_refl _⟩ (Nat.le_of_ble_eq_true rfl) dX9_findFault_16 (fun v9 mx H locs hp9 hR hS => ?_)
      obtain ⟨x1, e1, e2, hx1⟩ := hp9
      rw [g7] at e2 hx1
      subst e1
      subst e2
      refine g_istore_n C hl dX9_findFault_19 (Nat.le_of_ble_eq_true rfl) (fun ls hl => ?_)
      refine g_aload_n C hl dX9_findFault_20 rfl ?_
      refine rt_9 C hR fl_X9_111 dX9_findFault_21 ?_
      rw [show pT g (pOq (f 7) t p9) 9 = (pOq (f 7) t p9).2 from rfl]
      refine g_if_eq (tgt := 32) C dX9_findFault_24 (by decide) (by omega) (fun c24 => ?_) (fun c24 => ?_)
      · -- 24 T
        have ex := hx1 c24
        subst ex
        refine g_aload_n C hl dX9_findFault_32 rfl ?_
        refine rt_11 C hR fl_X9_128 dX9_findFault_33 ?_
        rw [show pT g (pOq (f 7) t p9) 11 = g 11 from rfl, g11]
        refine g_bipush 16 C dX9_findFault_36 (by decide) ?_
        refine g_icmp_ge (tgt := 51) C dX9_findFault_38 (by decide) (by omega) (by omega) (fun c38 => ?_) (fun c38 => ?_)
        · -- 38 T
          refine g_aload_n C hl dX9_findFault_51 rfl ?_
          refine g_dup C dX9_findFault_52 rfl ?_
          refine rt_11 C hR fl_X9_128 dX9_findFault_53 ?_
          rw [show pT g (pOq (f 7) t p9) 11 = g 11 from rfl, g11]
          refine g_iconst 1 C dX9_findFault_56 (by decide) ?_
          refine g_iadd C dX9_findFault_57 ?_
          refine rp_11 C hR hS fl_X9_128 dX9_findFault_58 (fun H locs hR hS => ?_)
          rw [pT_o (by decide) (by decide)] at hR
          refine g_aload_n C hl dX9_findFault_61 rfl ?_
          refine rt_8 C hR fl_X9_108 dX9_findFault_62 ?_
          rw [show pT (fU g 11 (m9 + 1)) (pOq (f 7) t p9) 8 = (pOq (f 7) t p9).1 from rfl]
          refine g_aload_n C hl dX9_findFault_65 rfl ?_
          refine rt_7 C hR fl_X9_105 dX9_findFault_66 ?_
          rw [show pT (fU g 11 (m9 + 1)) (pOq (f 7) t p9) 7 = g 7 from rfl, g7]
          refine g_icmp_ne (tgt := 75) C dX9_findFault_69 (by decide) (by omega) (by omega) (fun c69 => ?_) (fun c69 => ?_)
          · -- 69 T
            refine g_aload_n C hl dX9_findFault_75 rfl ?_
            refine g_aload_n C hl dX9_findFault_76 rfl ?_
            refine g_callVi C hl.1 hR hS rc_X9 md_X9_sign ml_X9_114 (c_X9_sign (f := fU g 11 (m9 + 1)) (q := pOq (f 7) t p9) l hI (by rw [fU_n _ _ (by decide)]; omega) (by rw [fU_n _ _ (by decide), g7]; exact ht) (by rw [fU_n _ _ (by decide)]; omega)) rfl rfl ⟨Nat.le_of_ble_eq_true rfl, Nat.le_of_ble_eq_true rfl⟩ ⟨Nat.le_refl _, Nat.le_refl _⟩ (Nat.le_of_ble_eq_true rfl) dX9_findFault_77 (fun H locs hR hS => ?_)
            rw [show fU g 11 (m9 + 1) 7 = f 7 by rw [fU_n _ _ (by decide)]; exact g7]
            refine g_bipush 59 C dX9_findFault_80 (by decide) ?_
            refine g_icmp_ne (tgt := 89) C dX9_findFault_82 (by decide) (by omega) (by omega) (fun c82 => ?_) (fun c82 => ?_)
            · -- 82 T
              refine g_iconst 0 C dX9_findFault_89 (by decide) ?_
              refine g_callVv C hl.1 hR hS rc_X9 md_X9_take ml_X9_117 (c_X9_take (q := pOq (f 7) t p9) l hI (by omega) b0.2 (by decide)) rfl rfl ⟨Nat.le_of_ble_eq_true rfl, Nat.le_of_ble_eq_true rfl⟩ ⟨Nat.le_refl _, Nat.le_refl _⟩ (Nat.le_of_ble_eq_true rfl) dX9_findFault_90 (fun H locs hR hS => ?_)
              have hR : gRep X (gM8 mem (pT (fU g 11 (m9 + 1)) ((pOq (f 7) t p9).1, 1)) z a o k t r) H := by rw [show ((pOq (f 7) t p9).1, 1) = pTk (pOq (f 7) t p9) 0 by unfold pTk; rw [if_neg (fun z9 => z9.2 rfl)]]; exact hR
              refine g_aload_n C hl dX9_findFault_93 rfl ?_
              refine rt_9 C hR fl_X9_111 dX9_findFault_94 ?_
              rw [show pT (fU g 11 (m9 + 1)) ((pOq (f 7) t p9).1, 1) 9 = 1 from rfl]
              refine g_if_eq (tgt := 105) C dX9_findFault_97 (by decide) (by omega) (fun z9 => absurd z9 (by omega)) (fun c97 => ?_)
              refine g_aload_n C hl dX9_findFault_100 rfl ?_
              refine rt_8 C hR fl_X9_108 dX9_findFault_101 ?_
              rw [show pT (fU g 11 (m9 + 1)) ((pOq (f 7) t p9).1, 1) 8 = (pOq (f 7) t p9).1 from rfl]
              refine g_iret C hR hS dX9_findFault_104 ?_
              have eF : pFd (f 7) t (d + 1) p9 m9 r = (1, (pOq (f 7) t p9).1, m9 + 1, r) := by
                show (if (pOq (f 7) t p9).2 = 0 then (if (pOq (f 7) t p9).1 = f 7 then _ else if pSg (f 7) t (pOq (f 7) t p9).1 = 59 then _ else (1, (pOq (f 7) t p9).1, m9 + 1, if m9 < 16 then fU r m9 (pOv (f 7) t p9) else r)) else _) = _
                rw [if_pos c24, if_neg c69, if_neg c82, if_neg (by omega)]
              rw [eF]
              exact ⟨rfl, _, rfl, by rw [pT_n (by decide) (by decide), fU_n _ _ (by decide)]; exact g3, by rw [pT_n (by decide) (by decide), fU_n _ _ (by decide)]; exact g5, by rw [pT_n (by decide) (by decide), fU_n _ _ (by decide)]; exact g7, by rw [pT_n (by decide) (by decide)]; exact fU_s _ _ _⟩
            · -- 82 F
              refine g_iconst 1 C dX9_findFault_85 (by decide) ?_
              refine g_goto (tgt := 90) C dX9_findFault_86 (by decide) ?_
              refine g_callVv C hl.1 hR hS rc_X9 md_X9_take ml_X9_117 (c_X9_take (q := pOq (f 7) t p9) l hI (by omega) b0.2 (by decide)) rfl rfl ⟨Nat.le_of_ble_eq_true rfl, Nat.le_of_ble_eq_true rfl⟩ ⟨Nat.le_refl _, Nat.le_refl _⟩ (Nat.le_of_ble_eq_true rfl) dX9_findFault_90 (fun H locs hR hS => ?_)
              have hR : gRep X (gM8 mem (pT (fU g 11 (m9 + 1)) ((pOq (f 7) t p9).1 + 1, 0)) z a o k t r) H := by rw [show ((pOq (f 7) t p9).1 + 1, 0) = pTk (pOq (f 7) t p9) 1 by unfold pTk; rw [if_pos ⟨c24, by decide⟩]]; exact hR
              refine g_aload_n C hl dX9_findFault_93 rfl ?_
              refine rt_9 C hR fl_X9_111 dX9_findFault_94 ?_
              rw [show pT (fU g 11 (m9 + 1)) ((pOq (f 7) t p9).1 + 1, 0) 9 = 0 from rfl]
              refine g_if_eq (tgt := 105) C dX9_findFault_97 (by decide) (by omega) (fun c97 => ?_) (fun z9 => absurd z9 (by omega))
              refine g_goto (tgt := 15) C dX9_findFault_105 (by decide) ?_
              have eF : pFd (f 7) t (d + 1) p9 m9 r = pFd (f 7) t d ((pOq (f 7) t p9).1 + 1) (m9 + 1) (r) := by
                show (if (pOq (f 7) t p9).2 = 0 then (if (pOq (f 7) t p9).1 = f 7 then _ else if pSg (f 7) t (pOq (f 7) t p9).1 = 59 then pFd (f 7) t d ((pOq (f 7) t p9).1 + 1) (m9 + 1) (if m9 < 16 then fU r m9 (pOv (f 7) t p9) else r) else _) else _) = _
                rw [if_pos c24, if_neg c69, if_pos c82, if_neg (by omega)]
              rw [eF]
              exact ih ((pOq (f 7) t p9).1 + 1) (m9 + 1) _ (fU g 11 (m9 + 1)) (by omega) (by omega) (pSg_in (t := t) (by omega)) (by rw [fU_n _ _ (by decide)]; exact g3) (by rw [fU_n _ _ (by decide)]; exact g5) (by rw [fU_n _ _ (by decide)]; exact g7) (fU_s _ _ _) ls _ H locs hl hR hS
          · -- 69 F
            refine g_bipushM (-5) C dX9_findFault_72 (by decide) ?_
            refine g_iret C hR hS dX9_findFault_74 ?_
            have eF : pFd (f 7) t (d + 1) p9 m9 r = (0, f 7, m9 + 1, r) := by
              show (if (pOq (f 7) t p9).2 = 0 then (if (pOq (f 7) t p9).1 = f 7 then (0, f 7, m9 + 1, if m9 < 16 then fU r m9 (pOv (f 7) t p9) else r) else _) else _) = _
              rw [if_pos c24, if_pos c69, if_neg (by omega)]
            rw [eF]
            exact ⟨rfl, _, rfl, by rw [pT_n (by decide) (by decide), fU_n _ _ (by decide)]; exact g3, by rw [pT_n (by decide) (by decide), fU_n _ _ (by decide)]; exact g5, by rw [pT_n (by decide) (by decide), fU_n _ _ (by decide)]; exact g7, by rw [pT_n (by decide) (by decide)]; exact fU_s _ _ _⟩
        · -- 38 F
          refine g_aload_n C hl dX9_findFault_41 rfl ?_
          refine gt_X9_10 C hR fl_X9_25 dX9_findFault_42 ?_
          refine g_aload_n C hl dX9_findFault_45 rfl ?_
          refine rt_11 C hR fl_X9_128 dX9_findFault_46 ?_
          rw [show pT g (pOq (f 7) t p9) 11 = g 11 from rfl, g11]
          refine g_iload_n C hl dX9_findFault_49 rfl ?_
          refine r_ast6 C hR hS (by omega) dX9_findFault_50 (fun H locs hR hS => ?_)
          refine g_aload_n C hl dX9_findFault_51 rfl ?_
          refine g_dup C dX9_findFault_52 rfl ?_
          refine rt_11 C hR fl_X9_128 dX9_findFault_53 ?_
          rw [show pT g (pOq (f 7) t p9) 11 = g 11 from rfl, g11]
          refine g_iconst 1 C dX9_findFault_56 (by decide) ?_
          refine g_iadd C dX9_findFault_57 ?_
          refine rp_11 C hR hS fl_X9_128 dX9_findFault_58 (fun H locs hR hS => ?_)
          rw [pT_o (by decide) (by decide)] at hR
          refine g_aload_n C hl dX9_findFault_61 rfl ?_
          refine rt_8 C hR fl_X9_108 dX9_findFault_62 ?_
          rw [show pT (fU g 11 (m9 + 1)) (pOq (f 7) t p9) 8 = (pOq (f 7) t p9).1 from rfl]
          refine g_aload_n C hl dX9_findFault_65 rfl ?_
          refine rt_7 C hR fl_X9_105 dX9_findFault_66 ?_
          rw [show pT (fU g 11 (m9 + 1)) (pOq (f 7) t p9) 7 = g 7 from rfl, g7]
          refine g_icmp_ne (tgt := 75) C dX9_findFault_69 (by decide) (by omega) (by omega) (fun c69 => ?_) (fun c69 => ?_)
          · -- 69 T
            refine g_aload_n C hl dX9_findFault_75 rfl ?_
            refine g_aload_n C hl dX9_findFault_76 rfl ?_
            refine g_callVi C hl.1 hR hS rc_X9 md_X9_sign ml_X9_114 (c_X9_sign (f := fU g 11 (m9 + 1)) (q := pOq (f 7) t p9) l hI (by rw [fU_n _ _ (by decide)]; omega) (by rw [fU_n _ _ (by decide), g7]; exact ht) (by rw [fU_n _ _ (by decide)]; omega)) rfl rfl ⟨Nat.le_of_ble_eq_true rfl, Nat.le_of_ble_eq_true rfl⟩ ⟨Nat.le_refl _, Nat.le_refl _⟩ (Nat.le_of_ble_eq_true rfl) dX9_findFault_77 (fun H locs hR hS => ?_)
            rw [show fU g 11 (m9 + 1) 7 = f 7 by rw [fU_n _ _ (by decide)]; exact g7]
            refine g_bipush 59 C dX9_findFault_80 (by decide) ?_
            refine g_icmp_ne (tgt := 89) C dX9_findFault_82 (by decide) (by omega) (by omega) (fun c82 => ?_) (fun c82 => ?_)
            · -- 82 T
              refine g_iconst 0 C dX9_findFault_89 (by decide) ?_
              refine g_callVv C hl.1 hR hS rc_X9 md_X9_take ml_X9_117 (c_X9_take (q := pOq (f 7) t p9) l hI (by omega) b0.2 (by decide)) rfl rfl ⟨Nat.le_of_ble_eq_true rfl, Nat.le_of_ble_eq_true rfl⟩ ⟨Nat.le_refl _, Nat.le_refl _⟩ (Nat.le_of_ble_eq_true rfl) dX9_findFault_90 (fun H locs hR hS => ?_)
              have hR : gRep X (gM8 mem (pT (fU g 11 (m9 + 1)) ((pOq (f 7) t p9).1, 1)) z a o k t (fU r m9 (pOv (f 7) t p9))) H := by rw [show ((pOq (f 7) t p9).1, 1) = pTk (pOq (f 7) t p9) 0 by unfold pTk; rw [if_neg (fun z9 => z9.2 rfl)]]; exact hR
              refine g_aload_n C hl dX9_findFault_93 rfl ?_
              refine rt_9 C hR fl_X9_111 dX9_findFault_94 ?_
              rw [show pT (fU g 11 (m9 + 1)) ((pOq (f 7) t p9).1, 1) 9 = 1 from rfl]
              refine g_if_eq (tgt := 105) C dX9_findFault_97 (by decide) (by omega) (fun z9 => absurd z9 (by omega)) (fun c97 => ?_)
              refine g_aload_n C hl dX9_findFault_100 rfl ?_
              refine rt_8 C hR fl_X9_108 dX9_findFault_101 ?_
              rw [show pT (fU g 11 (m9 + 1)) ((pOq (f 7) t p9).1, 1) 8 = (pOq (f 7) t p9).1 from rfl]
              refine g_iret C hR hS dX9_findFault_104 ?_
              have eF : pFd (f 7) t (d + 1) p9 m9 r = (1, (pOq (f 7) t p9).1, m9 + 1, fU r m9 (pOv (f 7) t p9)) := by
                show (if (pOq (f 7) t p9).2 = 0 then (if (pOq (f 7) t p9).1 = f 7 then _ else if pSg (f 7) t (pOq (f 7) t p9).1 = 59 then _ else (1, (pOq (f 7) t p9).1, m9 + 1, if m9 < 16 then fU r m9 (pOv (f 7) t p9) else r)) else _) = _
                rw [if_pos c24, if_neg c69, if_neg c82, if_pos c38]
              rw [eF]
              exact ⟨rfl, _, rfl, by rw [pT_n (by decide) (by decide), fU_n _ _ (by decide)]; exact g3, by rw [pT_n (by decide) (by decide), fU_n _ _ (by decide)]; exact g5, by rw [pT_n (by decide) (by decide), fU_n _ _ (by decide)]; exact g7, by rw [pT_n (by decide) (by decide)]; exact fU_s _ _ _⟩
            · -- 82 F
              refine g_iconst 1 C dX9_findFault_85 (by decide) ?_
              refine g_goto (tgt := 90) C dX9_findFault_86 (by decide) ?_
              refine g_callVv C hl.1 hR hS rc_X9 md_X9_take ml_X9_117 (c_X9_take (q := pOq (f 7) t p9) l hI (by omega) b0.2 (by decide)) rfl rfl ⟨Nat.le_of_ble_eq_true rfl, Nat.le_of_ble_eq_true rfl⟩ ⟨Nat.le_refl _, Nat.le_refl _⟩ (Nat.le_of_ble_eq_true rfl) dX9_findFault_90 (fun H locs hR hS => ?_)
              have hR : gRep X (gM8 mem (pT (fU g 11 (m9 + 1)) ((pOq (f 7) t p9).1 + 1, 0)) z a o k t (fU r m9 (pOv (f 7) t p9))) H := by rw [show ((pOq (f 7) t p9).1 + 1, 0) = pTk (pOq (f 7) t p9) 1 by unfold pTk; rw [if_pos ⟨c24, by decide⟩]]; exact hR
              refine g_aload_n C hl dX9_findFault_93 rfl ?_
              refine rt_9 C hR fl_X9_111 dX9_findFault_94 ?_
              rw [show pT (fU g 11 (m9 + 1)) ((pOq (f 7) t p9).1 + 1, 0) 9 = 0 from rfl]
              refine g_if_eq (tgt := 105) C dX9_findFault_97 (by decide) (by omega) (fun c97 => ?_) (fun z9 => absurd z9 (by omega))
              refine g_goto (tgt := 15) C dX9_findFault_105 (by decide) ?_
              have eF : pFd (f 7) t (d + 1) p9 m9 r = pFd (f 7) t d ((pOq (f 7) t p9).1 + 1) (m9 + 1) (fU r m9 (pOv (f 7) t p9)) := by
                show (if (pOq (f 7) t p9).2 = 0 then (if (pOq (f 7) t p9).1 = f 7 then _ else if pSg (f 7) t (pOq (f 7) t p9).1 = 59 then pFd (f 7) t d ((pOq (f 7) t p9).1 + 1) (m9 + 1) (if m9 < 16 then fU r m9 (pOv (f 7) t p9) else r) else _) else _) = _
                rw [if_pos c24, if_neg c69, if_pos c82, if_pos c38]
              rw [eF]
              exact ih ((pOq (f 7) t p9).1 + 1) (m9 + 1) _ (fU g 11 (m9 + 1)) (by omega) (by omega) (pSg_in (t := t) (by omega)) (by rw [fU_n _ _ (by decide)]; exact g3) (by rw [fU_n _ _ (by decide)]; exact g5) (by rw [fU_n _ _ (by decide)]; exact g7) (fU_s _ _ _) ls _ H locs hl hR hS
          · -- 69 F
            refine g_bipushM (-5) C dX9_findFault_72 (by decide) ?_
            refine g_iret C hR hS dX9_findFault_74 ?_
            have eF : pFd (f 7) t (d + 1) p9 m9 r = (0, f 7, m9 + 1, fU r m9 (pOv (f 7) t p9)) := by
              show (if (pOq (f 7) t p9).2 = 0 then (if (pOq (f 7) t p9).1 = f 7 then (0, f 7, m9 + 1, if m9 < 16 then fU r m9 (pOv (f 7) t p9) else r) else _) else _) = _
              rw [if_pos c24, if_pos c69, if_pos c38]
            rw [eF]
            exact ⟨rfl, _, rfl, by rw [pT_n (by decide) (by decide), fU_n _ _ (by decide)]; exact g3, by rw [pT_n (by decide) (by decide), fU_n _ _ (by decide)]; exact g5, by rw [pT_n (by decide) (by decide), fU_n _ _ (by decide)]; exact g7, by rw [pT_n (by decide) (by decide)]; exact fU_s _ _ _⟩
      · -- 24 F
        refine g_aload_n C hl dX9_findFault_27 rfl ?_
        refine rt_8 C hR fl_X9_108 dX9_findFault_28 ?_
        rw [show pT g (pOq (f 7) t p9) 8 = (pOq (f 7) t p9).1 from rfl]
        refine g_iret C hR hS dX9_findFault_31 ?_
        have eF : pFd (f 7) t (d + 1) p9 m9 r = (1, (pOq (f 7) t p9).1, m9, r) := by
          show (if (pOq (f 7) t p9).2 = 0 then _ else _) = _
          rw [if_neg c24]
        rw [eF]
        exact ⟨rfl, _, rfl, by rw [pT_n (by decide) (by decide)]; exact g3, by rw [pT_n (by decide) (by decide)]; exact g5, by rw [pT_n (by decide) (by decide)]; exact g7, by rw [pT_n (by decide) (by decide)]; exact g11⟩
  refine g_aload_n C hl dX9_findFault_0 rfl ?_
  refine g_iconst 0 C dX9_findFault_1 (by decide) ?_
  refine rp_8 C hR hS fl_X9_108 dX9_findFault_2 (fun H locs hR hS => ?_)
  refine g_aload_n C hl dX9_findFault_5 rfl ?_
  refine g_iconst 0 C dX9_findFault_6 (by decide) ?_
  refine rp_9 C hR hS (by decide) fl_X9_111 dX9_findFault_7 (fun H locs hR hS => ?_)
  refine g_aload_n C hl dX9_findFault_10 rfl ?_
  refine g_iconst 0 C dX9_findFault_11 (by decide) ?_
  refine rp_11 C hR hS fl_X9_128 dX9_findFault_12 (fun H locs hR hS => ?_)
  exact loop 81 0 0 r (fU (fU (fU f 8 0) 9 0) 11 0) (by omega) (by omega) (by omega) (by rw [fU_n _ _ (by decide), fU_n _ _ (by decide), fU_n _ _ (by decide)]) (by rw [fU_n _ _ (by decide), fU_n _ _ (by decide), fU_n _ _ (by decide)]) (by rw [fU_n _ _ (by decide), fU_n _ _ (by decide), fU_n _ _ (by decide)]) (fU_s _ _ _) _ _ _ _ hl (by rw [← pT_self (fU (fU (fU f 8 0) 9 0) 11 0)] at hR; exact hR) hS
