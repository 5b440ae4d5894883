/-! ===== the reference puts code into cells ===== -/
/-- a text's orders from place p on: fault (0, 1), its place, how many, they -/
def pFd (n : Nat) (t : Nat → Nat) : Nat → Nat → Nat → (Nat → Nat) → Nat × Nat × Nat × (Nat → Nat)
  | 0, p9, m9, r => (1, p9, m9, r)
  | d + 1, p9, m9, r => if (pOq n t p9).2 = 0 then (if (pOq n t p9).1 = n then (0, n, m9 + 1, if m9 < 16 then fU r m9 (pOv n t p9) else r) else if pSg n t (pOq n t p9).1 = 59 then pFd n t d ((pOq n t p9).1 + 1) (m9 + 1) (if m9 < 16 then fU r m9 (pOv n t p9) else r) else (1, (pOq n t p9).1, m9 + 1, if m9 < 16 then fU r m9 (pOv n t p9) else r)) else (1, (pOq n t p9).1, m9, r)
theorem pOq_le {n : Nat} {t : Nat → Nat} {p9 : Nat} (hp : p9 ≤ n) : (pOq n t p9).1 ≤ n ∧ (pOq n t p9).2 < 2 := by
  have key : ¬ pSg n t p9 = 0 → ∀ c1 c2 c3 c4, ¬ c1 = 0 → ¬ c2 = 0 → (pRs n t (p9 + 1, 0) c1 c2 c3 c4).1 ≤ n ∧ (pRs n t (p9 + 1, 0) c1 c2 c3 c4).2 < 2 := fun h c1 c2 c3 c4 h1 h2 => pRs_le (q := (p9 + 1, 0)) (pSg_in h) h1 h2
  unfold pOq
  split
  · exact key (by omega) _ _ _ _ (by decide) (by decide)
  · split
    · exact pNq_le (key (by omega) _ _ _ _ (by decide) (by decide)).1
    · split
      · exact pNq_le (key (by omega) _ _ _ _ (by decide) (by decide)).1
      · split
        · split
          · exact pNq_le (key (by omega) _ _ _ _ (by decide) (by decide)).1
          · exact pNq_le (pNq_le (key (by omega) _ _ _ _ (by decide) (by decide)).1).1
        · split
          · exact pNq_le (key (by omega) _ _ _ _ (by decide) (by decide)).1
          · split
            · exact pNq_le (key (by omega) _ _ _ _ (by decide) (by decide)).1
            · split
              · exact pNq_le (pNq_le (key (by omega) _ _ _ _ (by decide) (by decide)).1).1
              · split
                · exact key (by omega) _ _ _ _ (by decide) (by decide)
                · split
                  · exact pNq_le (key (by omega) _ _ _ _ (by decide) (by decide)).1
                  · exact ⟨hp, by show 1 < 2; decide⟩
theorem pTk_ge (q : Nat × Nat) (can : Nat) : q.1 ≤ (pTk q can).1 := by
  unfold pTk
  split
  · exact Nat.le_succ _
  · exact Nat.le_refl _
theorem pTc_ge (n : Nat) (t : Nat → Nat) (q : Nat × Nat) (ch : Nat) : q.1 ≤ (pTc n t q ch).1 := pTk_ge _ _
theorem pRs_ge (n : Nat) (t : Nat → Nat) (q : Nat × Nat) (c1 c2 c3 c4 : Nat) : q.1 ≤ (pRs n t q c1 c2 c3 c4).1 := by
  have h1 := Nat.le_trans (pTc_ge n t q c1) (pTc_ge n t (pTc n t q c1) c2)
  have h2 : q.1 ≤ (pR3 n t q c1 c2 c3).1 := by
    unfold pR3 pR2
    split
    · exact Nat.le_trans h1 (pTc_ge _ _ _ _)
    · exact h1
  unfold pRs
  split
  · exact Nat.le_trans h2 (pTc_ge _ _ _ _)
  · exact h2
theorem pNq_ge (n : Nat) (t : Nat → Nat) (q : Nat × Nat) (most : Nat) : q.1 ≤ (pNq n t q most).1 := by
  have h1 : q.1 ≤ (pN2 n t q most).1 := Nat.le_trans (pTc_ge n t q 32) (pTk_ge _ _)
  unfold pNq
  split
  · exact Nat.le_succ_of_le h1
  · exact h1
theorem pOq_ge (n : Nat) (t : Nat → Nat) (p9 : Nat) : p9 ≤ (pOq n t p9).1 := by
  have key : ∀ c1 c2 c3 c4, p9 ≤ (pRs n t (p9 + 1, 0) c1 c2 c3 c4).1 := fun c1 c2 c3 c4 => Nat.le_trans (Nat.le_succ p9) (pRs_ge n t (p9 + 1, 0) c1 c2 c3 c4)
  unfold pOq
  split
  · exact key _ _ _ _
  · split
    · exact Nat.le_trans (key _ _ _ _) (pNq_ge _ _ _ _)
    · split
      · exact Nat.le_trans (key _ _ _ _) (pNq_ge _ _ _ _)
      · split
        · split
          · exact Nat.le_trans (key _ _ _ _) (pNq_ge _ _ _ _)
          · exact Nat.le_trans (Nat.le_trans (key _ _ _ _) (pNq_ge _ _ _ _)) (pNq_ge _ _ _ _)
        · split
          · exact Nat.le_trans (key _ _ _ _) (pNq_ge _ _ _ _)
          · split
            · exact Nat.le_trans (key _ _ _ _) (pNq_ge _ _ _ _)
            · split
              · exact Nat.le_trans (Nat.le_trans (key _ _ _ _) (pNq_ge _ _ _ _)) (pNq_ge _ _ _ _)
              · split
                · exact key _ _ _ _
                · split
                  · exact Nat.le_trans (key _ _ _ _) (pNq_ge _ _ _ _)
                  · exact Nat.le_refl _
set_option maxRecDepth 100000 in
set_option maxHeartbeats 4000000 in
/-- findFault -/
theorem c_X9_findFault (l : Launch) {X : gX} (hI : gInj X) {mem : gM} {f z a o k t r : Nat → Nat} (h7 : f 7 ≤ 80) (ht : ∀ j, j < f 7 → t j < 65536) : gMt l yX9_findFault cX9_findFault 2 (some .int) 3 66 X [.ref (gAd X 8 0)] (gM8 mem f z a o k t r) (fun v9 mx => v9 = some (.int (if (pFd (f 7) t 81 0 0 r).1 = 0 then -5 else nI (pFd (f 7) t 81 0 0 r).2.1)) ∧ ∃ g1, mx = gM8 mem g1 z a o k t (pFd (f 7) t 81 0 0 r).2.2.2 ∧ g1 3 = f 3 ∧ g1 5 = f 5 ∧ g1 7 = f 7 ∧ g1 11 = (pFd (f 7) t 81 0 0 r).2.2.1) := by
  refine gMt.of (own := RX9) (by decide) rfl hI (by simp [Value.category]) (Nat.le_of_ble_eq_true rfl) ?_
  intro p e s m args below meth c ls H locs C hnm hl hR hS
  have loop : ∀ (d p9 m9 : Nat) (r g : Nat → Nat), 81 ≤ p9 + d → m9 + d ≤ 81 → p9 ≤ f 7 → g 3 = f 3 → g 5 = f 5 → g 7 = f 7 → g 11 = m9 → ∀ (ls : Array Slot) (w0 : Option Value) (H : Heap) (locs : List Loc), gL ls [some (.ref (gAd X 8 0)), w0] → gRep X (gM8 mem (pT g (p9, 0)) z a o k t r) H → va_S (gA X) s.heap H locs → W p l e { frames := 3, cells := 0, slots := 0, locals := 66 } s m args below meth c H locs 0 0 (MQ below (gQ X (fun v9 mx => v9 = some (.int (if (pFd (f 7) t d p9 m9 r).1 = 0 then -5 else nI (pFd (f 7) t d p9 m9 r).2.1)) ∧ ∃ g1, mx = gM8 mem g1 z a o k t (pFd (f 7) t d p9 m9 r).2.2.2 ∧ g1 3 = f 3 ∧ g1 5 = f 5 ∧ g1 7 = f 7 ∧ g1 11 = (pFd (f 7) t d p9 m9 r).2.2.1)) args s 0 0 (gA X)) (F0 m 15 ls []) := by
    intro d
    induction d with
    | zero =>
      intro p9 m9 r g h1 h2 h3
      omega
    | succ d ih =>
      intro p9 m9 r g h1 h2 h3 g3 g5 g7 g11 ls w0 H locs hl hR hS
      have b0 := pOq_le (t := t) h3
      have b1 := pOq_ge (f 7) t p9
      have s0 := pSg_lt ht (pOq (f 7) t p9).1
      refine g_aload_n C hl dX9_findFault_15 rfl ?_
      refine g_callV C hl.1 hR hS rc_X9 md_X9_takeOrder ml_X9_131 (c_X9_takeOrder (f := g) l hI (by omega) (by rw [g7]; exact ht) (by omega)) rfl rfl ⟨Nat.le_of_ble_eq_true rfl, Nat.le_of_ble_eq_true rfl⟩ ⟨Nat.le_refl _, Nat.le_refl _⟩ (Nat.le_of_ble_eq_true rfl) dX9_findFault_16 (fun v9 mx H locs hp9 hR hS => ?_)
      obtain ⟨x1, e1, e2, hx1⟩ := hp9
      rw [g7] at e2 hx1
      subst e1
      subst e2
      refine g_istore_n C hl dX9_findFault_19 (Nat.le_of_ble_eq_true rfl) (fun ls hl => ?_)
      refine g_aload_n C hl dX9_findFault_20 rfl ?_
      refine rt_9 C hR fl_X9_111 dX9_findFault_21 ?_
      rw [show pT g (pOq (f 7) t p9) 9 = (pOq (f 7) t p9).2 from rfl]
      refine g_if_eq (tgt := 32) C dX9_findFault_24 (by decide) (by omega) (fun c24 => ?_) (fun c24 => ?_)
      · -- 24 T
        have ex := hx1 c24
        subst ex
        refine g_aload_n C hl dX9_findFault_32 rfl ?_
        refine rt_11 C hR fl_X9_128 dX9_findFault_33 ?_
        rw [show pT g (pOq (f 7) t p9) 11 = g 11 from rfl, g11]
        refine g_bipush 16 C dX9_findFault_36 (by decide) ?_
        refine g_icmp_ge (tgt := 51) C dX9_findFault_38 (by decide) (by omega) (by omega) (fun c38 => ?_) (fun c38 => ?_)
        · -- 38 T
          refine g_aload_n C hl dX9_findFault_51 rfl ?_
          refine g_dup C dX9_findFault_52 rfl ?_
          refine rt_11 C hR fl_X9_128 dX9_findFault_53 ?_
          rw [show pT g (pOq (f 7) t p9) 11 = g 11 from rfl, g11]
          refine g_iconst 1 C dX9_findFault_56 (by decide) ?_
          refine g_iadd C dX9_findFault_57 ?_
          refine rp_11 C hR hS fl_X9_128 dX9_findFault_58 (fun H locs hR hS => ?_)
          rw [pT_o (by decide) (by decide)] at hR
          refine g_aload_n C hl dX9_findFault_61 rfl ?_
          refine rt_8 C hR fl_X9_108 dX9_findFault_62 ?_
          rw [show pT (fU g 11 (m9 + 1)) (pOq (f 7) t p9) 8 = (pOq (f 7) t p9).1 from rfl]
          refine g_aload_n C hl dX9_findFault_65 rfl ?_
          refine rt_7 C hR fl_X9_105 dX9_findFault_66 ?_
          rw [show pT (fU g 11 (m9 + 1)) (pOq (f 7) t p9) 7 = g 7 from rfl, g7]
          refine g_icmp_ne (tgt := 75) C dX9_findFault_69 (by decide) (by omega) (by omega) (fun c69 => ?_) (fun c69 => ?_)
          · -- 69 T
            refine g_aload_n C hl dX9_findFault_75 rfl ?_
            refine g_aload_n C hl dX9_findFault_76 rfl ?_
            refine g_callVi C hl.1 hR hS rc_X9 md_X9_sign ml_X9_114 (c_X9_sign (f := fU g 11 (m9 + 1)) (q := pOq (f 7) t p9) l hI (by rw [fU_n _ _ (by decide)]; omega) (by rw [fU_n _ _ (by decide), g7]; exact ht) (by rw [fU_n _ _ (by decide)]; omega)) rfl rfl ⟨Nat.le_of_ble_eq_true rfl, Nat.le_of_ble_eq_true rfl⟩ ⟨Nat.le_refl _, Nat.le_refl _⟩ (Nat.le_of_ble_eq_true rfl) dX9_findFault_77 (fun H locs hR hS => ?_)
            rw [show fU g 11 (m9 + 1) 7 = f 7 by rw [fU_n _ _ (by decide)]; exact g7]
            refine g_bipush 59 C dX9_findFault_80 (by decide) ?_
            refine g_icmp_ne (tgt := 89) C dX9_findFault_82 (by decide) (by omega) (by omega) (fun c82 => ?_) (fun c82 => ?_)
            · -- 82 T
              refine g_iconst 0 C dX9_findFault_89 (by decide) ?_
              refine g_callVv C hl.1 hR hS rc_X9 md_X9_take ml_X9_117 (c_X9_take (q := pOq (f 7) t p9) l hI (by omega) b0.2 (by decide)) rfl rfl ⟨Nat.le_of_ble_eq_true rfl, Nat.le_of_ble_eq_true rfl⟩ ⟨Nat.le_refl _, Nat.le_refl _⟩ (Nat.le_of_ble_eq_true rfl) dX9_findFault_90 (fun H locs hR hS => ?_)
              have hR : gRep X (gM8 mem (pT (fU g 11 (m9 + 1)) ((pOq (f 7) t p9).1, 1)) z a o k t r) H := by rw [show ((pOq (f 7) t p9).1, 1) = pTk (pOq (f 7) t p9) 0 by unfold pTk; rw [if_neg (fun z9 => z9.2 rfl)]]; exact hR
              refine g_aload_n C hl dX9_findFault_93 rfl ?_
              refine rt_9 C hR fl_X9_111 dX9_findFault_94 ?_
              rw [show pT (fU g 11 (m9 + 1)) ((pOq (f 7) t p9).1, 1) 9 = 1 from rfl]
              refine g_if_eq (tgt := 105) C dX9_findFault_97 (by decide) (by omega) (fun z9 => absurd z9 (by omega)) (fun c97 => ?_)
              refine g_aload_n C hl dX9_findFault_100 rfl ?_
              refine rt_8 C hR fl_X9_108 dX9_findFault_101 ?_
              rw [show pT (fU g 11 (m9 + 1)) ((pOq (f 7) t p9).1, 1) 8 = (pOq (f 7) t p9).1 from rfl]
              refine g_iret C hR hS dX9_findFault_104 ?_
              have eF : pFd (f 7) t (d + 1) p9 m9 r = (1, (pOq (f 7) t p9).1, m9 + 1, r) := by
                show (if (pOq (f 7) t p9).2 = 0 then (if (pOq (f 7) t p9).1 = f 7 then _ else if pSg (f 7) t (pOq (f 7) t p9).1 = 59 then _ else (1, (pOq (f 7) t p9).1, m9 + 1, if m9 < 16 then fU r m9 (pOv (f 7) t p9) else r)) else _) = _
                rw [if_pos c24, if_neg c69, if_neg c82, if_neg (by omega)]
              rw [eF]
              exact ⟨rfl, _, rfl, by rw [pT_n (by decide) (by decide), fU_n _ _ (by decide)]; exact g3, by rw [pT_n (by decide) (by decide), fU_n _ _ (by decide)]; exact g5, by rw [pT_n (by decide) (by decide), fU_n _ _ (by decide)]; exact g7, by rw [pT_n (by decide) (by decide)]; exact fU_s _ _ _⟩
            · -- 82 F
              refine g_iconst 1 C dX9_findFault_85 (by decide) ?_
              refine g_goto (tgt := 90) C dX9_findFault_86 (by decide) ?_
              refine g_callVv C hl.1 hR hS rc_X9 md_X9_take ml_X9_117 (c_X9_take (q := pOq (f 7) t p9) l hI (by omega) b0.2 (by decide)) rfl rfl ⟨Nat.le_of_ble_eq_true rfl, Nat.le_of_ble_eq_true rfl⟩ ⟨Nat.le_refl _, Nat.le_refl _⟩ (Nat.le_of_ble_eq_true rfl) dX9_findFault_90 (fun H locs hR hS => ?_)
              have hR : gRep X (gM8 mem (pT (fU g 11 (m9 + 1)) ((pOq (f 7) t p9).1 + 1, 0)) z a o k t r) H := by rw [show ((pOq (f 7) t p9).1 + 1, 0) = pTk (pOq (f 7) t p9) 1 by unfold pTk; rw [if_pos ⟨c24, by decide⟩]]; exact hR
              refine g_aload_n C hl dX9_findFault_93 rfl ?_
              refine rt_9 C hR fl_X9_111 dX9_findFault_94 ?_
              rw [show pT (fU g 11 (m9 + 1)) ((pOq (f 7) t p9).1 + 1, 0) 9 = 0 from rfl]
              refine g_if_eq (tgt := 105) C dX9_findFault_97 (by decide) (by omega) (fun c97 => ?_) (fun z9 => absurd z9 (by omega))
              refine g_goto (tgt := 15) C dX9_findFault_105 (by decide) ?_
              have eF : pFd (f 7) t (d + 1) p9 m9 r = pFd (f 7) t d ((pOq (f 7) t p9).1 + 1) (m9 + 1) (r) := by
                show (if (pOq (f 7) t p9).2 = 0 then (if (pOq (f 7) t p9).1 = f 7 then _ else if pSg (f 7) t (pOq (f 7) t p9).1 = 59 then pFd (f 7) t d ((pOq (f 7) t p9).1 + 1) (m9 + 1) (if m9 < 16 then fU r m9 (pOv (f 7) t p9) else r) else _) else _) = _
                rw [if_pos c24, if_neg c69, if_pos c82, if_neg (by omega)]
              rw [eF]
              exact ih ((pOq (f 7) t p9).1 + 1) (m9 + 1) _ (fU g 11 (m9 + 1)) (by omega) (by omega) (pSg_in (t := t) (by omega)) (by rw [fU_n _ _ (by decide)]; exact g3) (by rw [fU_n _ _ (by decide)]; exact g5) (by rw [fU_n _ _ (by decide)]; exact g7) (fU_s _ _ _) ls _ H locs hl hR hS
          · -- 69 F
            refine g_bipushM (-5) C dX9_findFault_72 (by decide) ?_
            refine g_iret C hR hS dX9_findFault_74 ?_
            have eF : pFd (f 7) t (d + 1) p9 m9 r = (0, f 7, m9 + 1, r) := by
              show (if (pOq (f 7) t p9).2 = 0 then (if (pOq (f 7) t p9).1 = f 7 then (0, f 7, m9 + 1, if m9 < 16 then fU r m9 (pOv (f 7) t p9) else r) else _) else _) = _
              rw [if_pos c24, if_pos c69, if_neg (by omega)]
            rw [eF]
            exact ⟨rfl, _, rfl, by rw [pT_n (by decide) (by decide), fU_n _ _ (by decide)]; exact g3, by rw [pT_n (by decide) (by decide), fU_n _ _ (by decide)]; exact g5, by rw [pT_n (by decide) (by decide), fU_n _ _ (by decide)]; exact g7, by rw [pT_n (by decide) (by decide)]; exact fU_s _ _ _⟩
        · -- 38 F
          refine g_aload_n C hl dX9_findFault_41 rfl ?_
          refine gt_X9_10 C hR fl_X9_25 dX9_findFault_42 ?_
          refine g_aload_n C hl dX9_findFault_45 rfl ?_
          refine rt_11 C hR fl_X9_128 dX9_findFault_46 ?_
          rw [show pT g (pOq (f 7) t p9) 11 = g 11 from rfl, g11]
          refine g_iload_n C hl dX9_findFault_49 rfl ?_
          refine r_ast6 C hR hS (by omega) dX9_findFault_50 (fun H locs hR hS => ?_)
          refine g_aload_n C hl dX9_findFault_51 rfl ?_
          refine g_dup C dX9_findFault_52 rfl ?_
          refine rt_11 C hR fl_X9_128 dX9_findFault_53 ?_
          rw [show pT g (pOq (f 7) t p9) 11 = g 11 from rfl, g11]
          refine g_iconst 1 C dX9_findFault_56 (by decide) ?_
          refine g_iadd C dX9_findFault_57 ?_
          refine rp_11 C hR hS fl_X9_128 dX9_findFault_58 (fun H locs hR hS => ?_)
          rw [pT_o (by decide) (by decide)] at hR
          refine g_aload_n C hl dX9_findFault_61 rfl ?_
          refine rt_8 C hR fl_X9_108 dX9_findFault_62 ?_
          rw [show pT (fU g 11 (m9 + 1)) (pOq (f 7) t p9) 8 = (pOq (f 7) t p9).1 from rfl]
          refine g_aload_n C hl dX9_findFault_65 rfl ?_
          refine rt_7 C hR fl_X9_105 dX9_findFault_66 ?_
          rw [show pT (fU g 11 (m9 + 1)) (pOq (f 7) t p9) 7 = g 7 from rfl, g7]
          refine g_icmp_ne (tgt := 75) C dX9_findFault_69 (by decide) (by omega) (by omega) (fun c69 => ?_) (fun c69 => ?_)
          · -- 69 T
            refine g_aload_n C hl dX9_findFault_75 rfl ?_
            refine g_aload_n C hl dX9_findFault_76 rfl ?_
            refine g_callVi C hl.1 hR hS rc_X9 md_X9_sign ml_X9_114 (c_X9_sign (f := fU g 11 (m9 + 1)) (q := pOq (f 7) t p9) l hI (by rw [fU_n _ _ (by decide)]; omega) (by rw [fU_n _ _ (by decide), g7]; exact ht) (by rw [fU_n _ _ (by decide)]; omega)) rfl rfl ⟨Nat.le_of_ble_eq_true rfl, Nat.le_of_ble_eq_true rfl⟩ ⟨Nat.le_refl _, Nat.le_refl _⟩ (Nat.le_of_ble_eq_true rfl) dX9_findFault_77 (fun H locs hR hS => ?_)
            rw [show fU g 11 (m9 + 1) 7 = f 7 by rw [fU_n _ _ (by decide)]; exact g7]
            refine g_bipush 59 C dX9_findFault_80 (by decide) ?_
            refine g_icmp_ne (tgt := 89) C dX9_findFault_82 (by decide) (by omega) (by omega) (fun c82 => ?_) (fun c82 => ?_)
            · -- 82 T
              refine g_iconst 0 C dX9_findFault_89 (by decide) ?_
              refine g_callVv C hl.1 hR hS rc_X9 md_X9_take ml_X9_117 (c_X9_take (q := pOq (f 7) t p9) l hI (by omega) b0.2 (by decide)) rfl rfl ⟨Nat.le_of_ble_eq_true rfl, Nat.le_of_ble_eq_true rfl⟩ ⟨Nat.le_refl _, Nat.le_refl _⟩ (Nat.le_of_ble_eq_true rfl) dX9_findFault_90 (fun H locs hR hS => ?_)
              have hR : gRep X (gM8 mem (pT (fU g 11 (m9 + 1)) ((pOq (f 7) t p9).1, 1)) z a o k t (fU r m9 (pOv (f 7) t p9))) H := by rw [show ((pOq (f 7) t p9).1, 1) = pTk (pOq (f 7) t p9) 0 by unfold pTk; rw [if_neg (fun z9 => z9.2 rfl)]]; exact hR
              refine g_aload_n C hl dX9_findFault_93 rfl ?_
              refine rt_9 C hR fl_X9_111 dX9_findFault_94 ?_
              rw [show pT (fU g 11 (m9 + 1)) ((pOq (f 7) t p9).1, 1) 9 = 1 from rfl]
              refine g_if_eq (tgt := 105) C dX9_findFault_97 (by decide) (by omega) (fun z9 => absurd z9 (by omega)) (fun c97 => ?_)
              refine g_aload_n C hl dX9_findFault_100 rfl ?_
              refine rt_8 C hR fl_X9_108 dX9_findFault_101 ?_
              rw [show pT (fU g 11 (m9 + 1)) ((pOq (f 7) t p9).1, 1) 8 = (pOq (f 7) t p9).1 from rfl]
              refine g_iret C hR hS dX9_findFault_104 ?_
              have eF : pFd (f 7) t (d + 1) p9 m9 r = (1, (pOq (f 7) t p9).1, m9 + 1, fU r m9 (pOv (f 7) t p9)) := by
                show (if (pOq (f 7) t p9).2 = 0 then (if (pOq (f 7) t p9).1 = f 7 then _ else if pSg (f 7) t (pOq (f 7) t p9).1 = 59 then _ else (1, (pOq (f 7) t p9).1, m9 + 1, if m9 < 16 then fU r m9 (pOv (f 7) t p9) else r)) else _) = _
                rw [if_pos c24, if_neg c69, if_neg c82, if_pos c38]
              rw [eF]
              exact ⟨rfl, _, rfl, by rw [pT_n (by decide) (by decide), fU_n _ _ (by decide)]; exact g3, by rw [pT_n (by decide) (by decide), fU_n _ _ (by decide)]; exact g5, by rw [pT_n (by decide) (by decide), fU_n _ _ (by decide)]; exact g7, by rw [pT_n (by decide) (by decide)]; exact fU_s _ _ _⟩
            · -- 82 F
              refine g_iconst 1 C dX9_findFault_85 (by decide) ?_
              refine g_goto (tgt := 90) C dX9_findFault_86 (by decide) ?_
              refine g_callVv C hl.1 hR hS rc_X9 md_X9_take ml_X9_117 (c_X9_take (q := pOq (f 7) t p9) l hI (by omega) b0.2 (by decide)) rfl rfl ⟨Nat.le_of_ble_eq_true rfl, Nat.le_of_ble_eq_true rfl⟩ ⟨Nat.le_refl _, Nat.le_refl _⟩ (Nat.le_of_ble_eq_true rfl) dX9_findFault_90 (fun H locs hR hS => ?_)
              have hR : gRep X (gM8 mem (pT (fU g 11 (m9 + 1)) ((pOq (f 7) t p9).1 + 1, 0)) z a o k t (fU r m9 (pOv (f 7) t p9))) H := by rw [show ((pOq (f 7) t p9).1 + 1, 0) = pTk (pOq (f 7) t p9) 1 by unfold pTk; rw [if_pos ⟨c24, by decide⟩]]; exact hR
              refine g_aload_n C hl dX9_findFault_93 rfl ?_
              refine rt_9 C hR fl_X9_111 dX9_findFault_94 ?_
              rw [show pT (fU g 11 (m9 + 1)) ((pOq (f 7) t p9).1 + 1, 0) 9 = 0 from rfl]
              refine g_if_eq (tgt := 105) C dX9_findFault_97 (by decide) (by omega) (fun c97 => ?_) (fun z9 => absurd z9 (by omega))
              refine g_goto (tgt := 15) C dX9_findFault_105 (by decide) ?_
              have eF : pFd (f 7) t (d + 1) p9 m9 r = pFd (f 7) t d ((pOq (f 7) t p9).1 + 1) (m9 + 1) (fU r m9 (pOv (f 7) t p9)) := by
                show (if (pOq (f 7) t p9).2 = 0 then (if (pOq (f 7) t p9).1 = f 7 then _ else if pSg (f 7) t (pOq (f 7) t p9).1 = 59 then pFd (f 7) t d ((pOq (f 7) t p9).1 + 1) (m9 + 1) (if m9 < 16 then fU r m9 (pOv (f 7) t p9) else r) else _) else _) = _
                rw [if_pos c24, if_neg c69, if_pos c82, if_pos c38]
              rw [eF]
              exact ih ((pOq (f 7) t p9).1 + 1) (m9 + 1) _ (fU g 11 (m9 + 1)) (by omega) (by omega) (pSg_in (t := t) (by omega)) (by rw [fU_n _ _ (by decide)]; exact g3) (by rw [fU_n _ _ (by decide)]; exact g5) (by rw [fU_n _ _ (by decide)]; exact g7) (fU_s _ _ _) ls _ H locs hl hR hS
          · -- 69 F
            refine g_bipushM (-5) C dX9_findFault_72 (by decide) ?_
            refine g_iret C hR hS dX9_findFault_74 ?_
            have eF : pFd (f 7) t (d + 1) p9 m9 r = (0, f 7, m9 + 1, fU r m9 (pOv (f 7) t p9)) := by
              show (if (pOq (f 7) t p9).2 = 0 then (if (pOq (f 7) t p9).1 = f 7 then (0, f 7, m9 + 1, if m9 < 16 then fU r m9 (pOv (f 7) t p9) else r) else _) else _) = _
              rw [if_pos c24, if_pos c69, if_pos c38]
            rw [eF]
            exact ⟨rfl, _, rfl, by rw [pT_n (by decide) (by decide), fU_n _ _ (by decide)]; exact g3, by rw [pT_n (by decide) (by decide), fU_n _ _ (by decide)]; exact g5, by rw [pT_n (by decide) (by decide), fU_n _ _ (by decide)]; exact g7, by rw [pT_n (by decide) (by decide)]; exact fU_s _ _ _⟩
      · -- 24 F
        refine g_aload_n C hl dX9_findFault_27 rfl ?_
        refine rt_8 C hR fl_X9_108 dX9_findFault_28 ?_
        rw [show pT g (pOq (f 7) t p9) 8 = (pOq (f 7) t p9).1 from rfl]
        refine g_iret C hR hS dX9_findFault_31 ?_
        have eF : pFd (f 7) t (d + 1) p9 m9 r = (1, (pOq (f 7) t p9).1, m9, r) := by
          show (if (pOq (f 7) t p9).2 = 0 then _ else _) = _
          rw [if_neg c24]
        rw [eF]
        exact ⟨rfl, _, rfl, by rw [pT_n (by decide) (by decide)]; exact g3, by rw [pT_n (by decide) (by decide)]; exact g5, by rw [pT_n (by decide) (by decide)]; exact g7, by rw [pT_n (by decide) (by decide)]; exact g11⟩
  refine g_aload_n C hl dX9_findFault_0 rfl ?_
  refine g_iconst 0 C dX9_findFault_1 (by decide) ?_
  refine rp_8 C hR hS fl_X9_108 dX9_findFault_2 (fun H locs hR hS => ?_)
  refine g_aload_n C hl dX9_findFault_5 rfl ?_
  refine g_iconst 0 C dX9_findFault_6 (by decide) ?_
  refine rp_9 C hR hS (by decide) fl_X9_111 dX9_findFault_7 (fun H locs hR hS => ?_)
  refine g_aload_n C hl dX9_findFault_10 rfl ?_
  refine g_iconst 0 C dX9_findFault_11 (by decide) ?_
  refine rp_11 C hR hS fl_X9_128 dX9_findFault_12 (fun H locs hR hS => ?_)
  exact loop 81 0 0 r (fU (fU (fU f 8 0) 9 0) 11 0) (by omega) (by omega) (by omega) (by rw [fU_n _ _ (by decide), fU_n _ _ (by decide), fU_n _ _ (by decide)]) (by rw [fU_n _ _ (by decide), fU_n _ _ (by decide), fU_n _ _ (by decide)]) (by rw [fU_n _ _ (by decide), fU_n _ _ (by decide), fU_n _ _ (by decide)]) (fU_s _ _ _) _ _ _ _ hl (by rw [← pT_self (fU (fU (fU f 8 0) 9 0) 11 0)] at hR; exact hR) hS
theorem pFd_r {n : Nat} {t : Nat → Nat} : ∀ (d p9 m9 : Nat) (r r0 : Nat → Nat), (∀ i, i < m9 → i < 16 → r i = r0 i) → (pFd n t d p9 m9 r).1 = (pFd n t d p9 m9 r0).1 ∧ (pFd n t d p9 m9 r).2.1 = (pFd n t d p9 m9 r0).2.1 ∧ (pFd n t d p9 m9 r).2.2.1 = (pFd n t d p9 m9 r0).2.2.1 ∧ ∀ i, i < (pFd n t d p9 m9 r0).2.2.1 → i < 16 → (pFd n t d p9 m9 r).2.2.2 i = (pFd n t d p9 m9 r0).2.2.2 i
  | 0, p9, m9, r, r0, h => ⟨rfl, rfl, rfl, h⟩
  | d + 1, p9, m9, r, r0, h => by
    have h2 : ∀ i, i < m9 + 1 → i < 16 → (if m9 < 16 then fU r m9 (pOv n t p9) else r) i = (if m9 < 16 then fU r0 m9 (pOv n t p9) else r0) i := by
      intro i hi hi2
      by_cases c : m9 < 16
      · rw [if_pos c, if_pos c]
        by_cases e : i = m9
        · rw [e, fU_s, fU_s]
        · rw [fU_n _ _ e, fU_n _ _ e]
          exact h i (by omega) hi2
      · rw [if_neg c, if_neg c]
        exact h i (by omega) hi2
    have ih := pFd_r (n := n) (t := t) d ((pOq n t p9).1 + 1) (m9 + 1) _ _ h2
    unfold pFd
    by_cases c1 : (pOq n t p9).2 = 0
    · rw [if_pos c1, if_pos c1]
      by_cases c2 : (pOq n t p9).1 = n
      · rw [if_pos c2, if_pos c2]
        exact ⟨rfl, rfl, rfl, h2⟩
      · rw [if_neg c2, if_neg c2]
        by_cases c3 : pSg n t (pOq n t p9).1 = 59
        · rw [if_pos c3, if_pos c3]
          exact ih
        · rw [if_neg c3, if_neg c3]
          exact ⟨rfl, rfl, rfl, h2⟩
    · rw [if_neg c1, if_neg c1]
      exact ⟨rfl, rfl, rfl, h⟩
theorem pFd_m {n : Nat} {t : Nat → Nat} : ∀ (d p9 m9 : Nat) (r : Nat → Nat), p9 ≤ n → m9 ≤ (pFd n t d p9 m9 r).2.2.1 ∧ (pFd n t d p9 m9 r).2.2.1 ≤ m9 + d ∧ (pFd n t d p9 m9 r).2.1 ≤ n
  | 0, p9, m9, r, h => ⟨Nat.le_refl _, Nat.le_refl _, h⟩
  | d + 1, p9, m9, r, h => by
    have b := (pOq_le (t := t) h).1
    unfold pFd
    by_cases c1 : (pOq n t p9).2 = 0
    · rw [if_pos c1]
      by_cases c2 : (pOq n t p9).1 = n
      · rw [if_pos c2]
        exact ⟨Nat.le_succ _, by show m9 + 1 ≤ m9 + (d + 1); omega, Nat.le_refl _⟩
      · rw [if_neg c2]
        by_cases c3 : pSg n t (pOq n t p9).1 = 59
        · rw [if_pos c3]
          have ih := pFd_m (n := n) (t := t) d ((pOq n t p9).1 + 1) (m9 + 1) (if m9 < 16 then fU r m9 (pOv n t p9) else r) (pSg_in (t := t) (by omega))
          omega
        · rw [if_neg c3]
          exact ⟨Nat.le_succ _, by show m9 + 1 ≤ m9 + (d + 1); omega, b⟩
    · rw [if_neg c1]
      exact ⟨Nat.le_refl _, by show m9 ≤ m9 + (d + 1); omega, b⟩
def aFd (S : aS) : Nat × Nat × Nat × (Nat → Nat) := pFd (aL S) (aT S) 81 0 0 (fun _ => 0)
def zAs (z : Nat → Nat) (b c9 : Nat) (w : Nat → Nat) : Nat → (Nat → Nat)
  | 0 => z
  | n + 1 => fU (zAs z b c9 w n) (zIx b (c9 + n)) (w n)
theorem zAs_congr {z : Nat → Nat} {b c9 : Nat} {w w2 : Nat → Nat} : ∀ n, (∀ i, i < n → w i = w2 i) → zAs z b c9 w n = zAs z b c9 w2 n
  | 0, _ => rfl
  | n + 1, h => by
    show fU (zAs z b c9 w n) (zIx b (c9 + n)) (w n) = fU (zAs z b c9 w2 n) (zIx b (c9 + n)) (w2 n)
    rw [zAs_congr n (fun i hi => h i (by omega)), h n (by omega)]
def aAsm (S : aS) (b c9 : Int32) : Int32 × aS := if gIw b 0 7 = true then if gIw c9 0 15 = true then
  (if ¬ (aFd S).1 = 0 then (-100 - nI (aFd S).2.1, S) else if 16 < c9.toNatClampNeg + (aFd S).2.2.1 then (-3, S) else (nI (aFd S).2.2.1, aPz (aRec S) (zAs (aZ S) b.toNatClampNeg c9.toNatClampNeg (aFd S).2.2.2 (aFd S).2.2.1)))
  else (-1, S) else (-1, S)
theorem aAsm_1 {S : aS} {b c9 : Int32} (h : gIw b 0 7 = false) : aAsm S b c9 = (-1, S) := by
  unfold aAsm
  rw [if_neg (by rw [h]; decide)]
theorem aAsm_2 {S : aS} {b c9 : Int32} (h : gIw c9 0 15 = false) : aAsm S b c9 = (-1, S) := by
  unfold aAsm
  rw [if_neg (show ¬ gIw c9 0 15 = true by rw [h]; decide), ite_self]
theorem aAsm_3 {S : aS} {b c9 : Nat} (hb : b ≤ 7) (hc : c9 ≤ 15) (h : ¬ (aFd S).1 = 0) : aAsm S (nI b) (nI c9) = (-100 - nI (aFd S).2.1, S) := by
  unfold aAsm
  rw [if_pos (gIw_ok (by omega) hb (by decide)), if_pos (gIw_ok (by omega) hc (by decide)), if_pos h]
theorem aAsm_4 {S : aS} {b c9 : Nat} (hb : b ≤ 7) (hc : c9 ≤ 15) (h : (aFd S).1 = 0) (h2 : 16 < c9 + (aFd S).2.2.1) : aAsm S (nI b) (nI c9) = (-3, S) := by
  unfold aAsm
  rw [if_pos (gIw_ok (by omega) hb (by decide)), if_pos (gIw_ok (by omega) hc (by decide)), if_neg (fun z => z h), nI_clamp (by omega), nI_clamp (by omega), if_pos h2]
theorem aAsm_5 {S : aS} {b c9 : Nat} (hb : b ≤ 7) (hc : c9 ≤ 15) (h : (aFd S).1 = 0) (h2 : c9 + (aFd S).2.2.1 ≤ 16) : aAsm S (nI b) (nI c9) = (nI (aFd S).2.2.1, aPz (aRec S) (zAs (aZ S) b c9 (aFd S).2.2.2 (aFd S).2.2.1)) := by
  unfold aAsm
  rw [if_pos (gIw_ok (by omega) hb (by decide)), if_pos (gIw_ok (by omega) hc (by decide)), if_neg (fun z => z h), nI_clamp (by omega), nI_clamp (by omega), if_neg (by omega)]
theorem aRf_f {S : aS} {f g z o k t : Nat → Nat} (h : aRf S f z o k t) (h3 : g 3 = f 3) (h5 : g 5 = f 5) (h7 : g 7 = f 7) : aRf S g z o k t := by
  obtain ⟨r1, r2, r3, r4, r5, r6, r7, r8, r9, r10⟩ := h
  exact ⟨h3.trans r1, r2, r3, r4, h5.trans r5, r6, r7, h7.trans r8, r9, r10⟩
set_option maxRecDepth 100000 in
set_option maxHeartbeats 4000000 in
/-- assemble -/
theorem c_X9_assemble (l : Launch) {X : gX} (hI : gInj X) {mem : gM} {f z a o k t r : Nat → Nat} {S : aS} {w9 w8 : Int32} (hJ : aI S) (hr : aRf S f z o k t) : gMt l yX9_assemble cX9_assemble 5 (some .int) 4 87 X [.ref (gAd X 8 0), .int w9, .int w8] (gM8 mem f z a o k t r) (fun v9 mx => v9 = some (.int (aAsm S w9 w8).1) ∧ aRm (aAsm S w9 w8).2 mem mx) := by
  refine gMt.of (own := RX9) (by decide) rfl hI (by simp [Value.category]) (Nat.le_of_ble_eq_true rfl) ?_
  intro p e s m args below meth c ls H locs C hnm hl hR hS
  have hr0 := hr
  obtain ⟨r1, r2, r3, r4, r5, r6, r7, r8, r9, r10⟩ := hr
  subst r4
  have hz : zI (aZ S) := hJ.1.1
  have hg : zG (aZ S) := hJ.1.2.1
  have hB : aZ S 178 ≤ 999999 := hJ.1.2.2.1
  have h4 : f 3 ≤ 4 := by omega
  have h115 := hz.2.2.2.2.2.2.1
  have h116 := hz.2.2.2.2.2.2.2.1
  refine g_iload_n C hl dX9_assemble_0 rfl ?_
  refine g_callSi C hl.1 hR hS md_X9_isBank ml_X9_51 (c_X9_isBank l hI) rfl rfl ⟨Nat.le_of_ble_eq_true rfl, Nat.le_of_ble_eq_true rfl⟩ ⟨Nat.le_refl _, Nat.le_refl _⟩ (Nat.le_of_ble_eq_true rfl) dX9_assemble_1 (fun H locs hR hS => ?_)
  refine g_ifv_eq (tgt := 14) C dX9_assemble_4 (by decide) (by decide) (fun c4 => ?_) (fun b eb hb1 hb2 => ?_)
  · -- 4 T
    refine g_iconstM (-1) C dX9_assemble_14 (by decide) ?_
    refine g_iret C hR hS dX9_assemble_15 ?_
    rw [aAsm_1 c4]
    exact ⟨rfl, _, _, _, _, _, _, _, rfl, hr0⟩
  · -- 4 F
    subst eb
    refine g_iload_n C hl dX9_assemble_7 rfl ?_
    refine g_callSi C hl.1 hR hS md_X9_isCell ml_X9_55 (c_X9_isCell l hI) rfl rfl ⟨Nat.le_of_ble_eq_true rfl, Nat.le_of_ble_eq_true rfl⟩ ⟨Nat.le_refl _, Nat.le_refl _⟩ (Nat.le_of_ble_eq_true rfl) dX9_assemble_8 (fun H locs hR hS => ?_)
    refine g_ifv_ne (tgt := 16) C dX9_assemble_11 (by decide) (by decide) (fun c9 ec9 hc91 hc92 => ?_) (fun c11 => ?_)
    · -- 11 T
      subst ec9
      refine g_aload_n C hl dX9_assemble_16 rfl ?_
      subst r10
      refine g_callV C hl.1 hR hS rc_X9 md_X9_findFault ml_X9_134 (c_X9_findFault l hI (by omega) (by rw [r8]; exact hJ.2.2.2)) rfl rfl ⟨Nat.le_of_ble_eq_true rfl, Nat.le_of_ble_eq_true rfl⟩ ⟨Nat.le_refl _, Nat.le_refl _⟩ (Nat.le_of_ble_eq_true rfl) dX9_assemble_17 (fun v9 mx H locs hp9 hR hS => ?_)
      obtain ⟨e1, g1, e2, g3, g5, g7, g11⟩ := hp9
      obtain ⟨f1, f2, f3, f4⟩ := pFd_r (n := aL S) (t := aT S) 81 0 0 r (fun _ => 0) (fun i hi => absurd hi (Nat.not_lt_zero i))
      have hm := pFd_m (n := aL S) (t := aT S) 81 0 0 (fun _ => 0) (Nat.zero_le _)
      rw [r8] at e1 e2 g11
      rw [f1, f2] at e1
      rw [f3] at g11
      subst e1
      subst e2
      have hr1 := aRf_f hr0 g3 g5 g7
      have e9 : (if (pFd (aL S) (aT S) 81 0 0 (fun _ => 0)).1 = 0 then (-5 : Int32) else nI (pFd (aL S) (aT S) 81 0 0 (fun _ => 0)).2.1) = (if (aFd S).1 = 0 then (-5 : Int32) else nI (aFd S).2.1) := rfl
      have f4 : ∀ i, i < (aFd S).2.2.1 → i < 16 → (pFd (aL S) (aT S) 81 0 0 r).2.2.2 i = (aFd S).2.2.2 i := f4
      have g11 : g1 11 = (aFd S).2.2.1 := g11
      have hm : 0 ≤ (aFd S).2.2.1 ∧ (aFd S).2.2.1 ≤ 0 + 81 ∧ (aFd S).2.1 ≤ aL S := hm
      generalize (pFd (aL S) (aT S) 81 0 0 r).2.2.2 = rr9 at hR f4
      have loop : ∀ (b c9 m9 : Nat) (g1 r9 : Nat → Nat), b ≤ 7 → c9 ≤ 15 → g1 11 = m9 → aRf S g1 (aZ S) o k (aT S) → (aFd S).1 = 0 → c9 + m9 ≤ 16 → m9 = (aFd S).2.2.1 → (∀ i, i < m9 → r9 i = (aFd S).2.2.2 i) → ∀ (d i : Nat), i + d = m9 → ∀ (ls : Array Slot) (H : Heap) (locs : List Loc) (x3 : Option Value), gL ls [some (.ref (gAd X 8 0)), some (.int (nI b)), some (.int (nI c9)), x3, some (.int (nI i))] → gRep X (gM8 mem (fU g1 3 (rN (g1 3))) (zAs (aZ S) b c9 r9 i) a (oRec (g1 3) o (aZ S)) k (aT S) r9) H → va_S (gA X) s.heap H locs → W p l e { frames := 4, cells := 0, slots := 0, locals := 87 } s m args below meth c H locs 0 0 (MQ below (gQ X (fun v9 mx => v9 = some (.int (aAsm S (nI b) (nI c9)).1) ∧ aRm (aAsm S (nI b) (nI c9)).2 mem mx)) args s 0 0 (gA X)) (F0 m 51 ls []) := by
        intro b c9 m9 g1 r9 hb hc g11 hr1 hF hle hm hr9 d
        have e11 : fU g1 3 (rN (g1 3)) 11 = m9 := by rw [fU_n _ _ (by decide)]; exact g11
        induction d with
        | zero =>
          intro i hi ls H locs x3 hl hR hS
          obtain rfl : i = m9 := by omega
          refine g_iload C hl dX9_assemble_51 rfl ?_
          refine g_aload_n C hl dX9_assemble_53 rfl ?_
          refine rt_11 C hR fl_X9_128 dX9_assemble_54 ?_
          rw [e11]
          refine g_icmp_ge (tgt := 86) C dX9_assemble_57 (by decide) (by omega) (by omega) (fun c57 => ?_) (fun z9 => absurd z9 (by omega))
          refine g_aload_n C hl dX9_assemble_86 rfl ?_
          refine rt_11 C hR fl_X9_128 dX9_assemble_87 ?_
          rw [e11]
          refine g_iret C hR hS dX9_assemble_90 ?_
          rw [aAsm_5 hb hc hF (by omega), ← hm]
          rw [zAs_congr _ hr9] at hR
          have hr2 := aRf_z (y := zAs (aZ S) b c9 (aFd S).2.2.2 i) (aRf_rec hr1)
          rw [zAs_congr _ hr9]
          exact ⟨rfl, _, _, _, _, _, _, _, rfl, hr2⟩
        | succ d ih =>
          intro i hi ls H locs x3 hl hR hS
          refine g_iload C hl dX9_assemble_51 rfl ?_
          refine g_aload_n C hl dX9_assemble_53 rfl ?_
          refine rt_11 C hR fl_X9_128 dX9_assemble_54 ?_
          rw [e11]
          refine g_icmp_ge (tgt := 86) C dX9_assemble_57 (by decide) (by omega) (by omega) (fun z9 => absurd z9 (by omega)) (fun c57 => ?_)
          refine g_aload_n C hl dX9_assemble_60 rfl ?_
          refine gt_X9_0 C hR fl_X9_7 dX9_assemble_61 ?_
          refine g_iload_n C hl dX9_assemble_64 rfl ?_
          refine g_iload_n C hl dX9_assemble_65 rfl ?_
          refine g_iload C hl dX9_assemble_66 rfl ?_
          refine g_iadd C dX9_assemble_68 ?_
          refine g_callSi C hl.1 hR hS md_X9_index ml_X9_36 (c_X9_index l hI (by omega) (by omega)) rfl rfl ⟨Nat.le_of_ble_eq_true rfl, Nat.le_of_ble_eq_true rfl⟩ ⟨Nat.le_refl _, Nat.le_refl _⟩ (Nat.le_of_ble_eq_true rfl) dX9_assemble_69 (fun H locs hR hS => ?_)
          refine g_aload_n C hl dX9_assemble_72 rfl ?_
          refine gt_X9_10 C hR fl_X9_25 dX9_assemble_73 ?_
          refine g_iload C hl dX9_assemble_76 rfl ?_
          refine r_ald6 C hR (by omega) dX9_assemble_78 ?_
          refine r_ast1 C hR hS (by have := zIx_lt (b := b) (c := c9 + i) (by omega) (by omega); omega) dX9_assemble_79 (fun H locs hR hS => ?_)
          refine g_iinc (k := 1) C hl dX9_assemble_80 rfl (by decide) (fun ls hl => ?_)
          refine g_goto (tgt := 51) C dX9_assemble_83 (by decide) ?_
          exact ih (i + 1) (by omega) ls H locs x3 hl hR hS
      show W p l e { frames := 4, cells := 0, slots := 0, locals := 87 } s m args below meth c H locs 0 0 _ (F0 m 20 ls [Value.int (if (aFd S).1 = 0 then (-5 : Int32) else nI (aFd S).2.1)])
      by_cases hF : (aFd S).1 = 0
      · rw [if_pos hF]
        refine g_istore_n C hl dX9_assemble_20 (Nat.le_of_ble_eq_true rfl) (fun ls hl => ?_)
        refine g_iload_n C hl dX9_assemble_21 rfl ?_
        refine lv_if_lt (tgt := 30) C.1 C.2.1 dX9_assemble_22 (by decide) (fun _ => ?_) (fun z9 => absurd (by decide) z9)
        refine g_iload_n C hl dX9_assemble_30 rfl ?_
        refine g_aload_n C hl dX9_assemble_31 rfl ?_
        refine rt_11 C hR fl_X9_128 dX9_assemble_32 ?_
        rw [g11]
        refine g_iadd C dX9_assemble_35 ?_
        refine g_bipush 16 C dX9_assemble_36 (by decide) ?_
        refine g_icmp_le (tgt := 44) C dX9_assemble_38 (by decide) (by omega) (by omega) (fun c38 => ?_) (fun c38 => ?_)
        · -- 38 T
          refine g_aload_n C hl dX9_assemble_44 rfl ?_
          refine g_callVv C hl.1 hR hS rc_X9 md_X9_record ml_X9_48 (c_X9_record (f := g1) l hI (by omega)) rfl rfl ⟨Nat.le_of_ble_eq_true rfl, Nat.le_of_ble_eq_true rfl⟩ ⟨Nat.le_refl _, Nat.le_refl _⟩ (Nat.le_of_ble_eq_true rfl) dX9_assemble_45 (fun H locs hR hS => ?_)
          refine g_iconst 0 C dX9_assemble_48 (by decide) ?_
          refine g_istore C hl dX9_assemble_49 (Nat.le_of_ble_eq_true rfl) (fun ls hl => ?_)
          exact loop b c9 _ g1 rr9 hb2 hc92 g11 hr1 hF (by omega) rfl (fun i hi => f4 i hi (by omega)) _ 0 (Nat.zero_add _) _ _ _ _ hl hR hS
        · -- 38 F
          refine g_bipushM (-3) C dX9_assemble_41 (by decide) ?_
          refine g_iret C hR hS dX9_assemble_43 ?_
          rw [aAsm_4 hb2 hc92 hF (by omega)]
          exact ⟨rfl, _, _, _, _, _, _, _, rfl, hr1⟩
      · rw [if_neg hF]
        refine g_istore_n C hl dX9_assemble_20 (Nat.le_of_ble_eq_true rfl) (fun ls hl => ?_)
        refine g_iload_n C hl dX9_assemble_21 rfl ?_
        refine g_if_lt (tgt := 30) C dX9_assemble_22 (by decide) (by omega) ?_
        refine g_bipushM (-100) C dX9_assemble_25 (by decide) ?_
        refine g_iload_n C hl dX9_assemble_27 rfl ?_
        refine lv_isub C.1 C.2.1 dX9_assemble_28 ?_
        refine g_iret C hR hS dX9_assemble_29 ?_
        rw [aAsm_3 hb2 hc92 hF]
        exact ⟨rfl, _, _, _, _, _, _, _, rfl, hr1⟩
    · -- 11 F
      refine g_iconstM (-1) C dX9_assemble_14 (by decide) ?_
      refine g_iret C hR hS dX9_assemble_15 ?_
      rw [aAsm_2 c11]
      exact ⟨rfl, _, _, _, _, _, _, _, rfl, hr0⟩
