/-! ===== FarBanks: assemble ===== -/
theorem aCl_code {S : aS} {mem : gM} (hc : aCl S mem) (r f : Nat → Nat) : aCl S (gP (gP mem 7 7 r) 7 5 f) := by
  obtain ⟨h1, h2, h3, h4, h5, h6⟩ := hc
  refine ⟨?_, ?_, ?_, h4, ?_, (h6.q r).p f⟩
  · rw [gP_nk _ _ (by decide), gP_nk _ _ (by decide)]; exact h1
  · obtain ⟨a1, a2, a3, a4, a5⟩ := h2
    refine ⟨?_, a2, ?_, ?_, ?_⟩
    · rw [gP_n _ _ (by decide), gP_n _ _ (by decide)]; exact a1
    · rw [gP_n _ _ (by decide), gP_n _ _ (by decide)]; exact a3
    · rw [gP_n _ _ (by decide), gP_n _ _ (by decide)]; exact a4
    · rw [gP_n _ _ (show ¬ (7 = 7 ∧ 2 = 5) by decide), gP_n _ _ (show ¬ (7 = 7 ∧ 2 = 7) by decide)]
      intro i hi
      have := a3 i (by omega)
      rw [gP_nk _ _ (by omega), gP_nk _ _ (by omega)]
      exact a5 i hi
  · rw [gP_n _ _ (by decide), gP_n _ _ (by decide)]; exact h3
  · rw [gP_nk _ _ (by decide), gP_nk _ _ (by decide)]; exact h5
theorem asm_f {S : aS} {mem mem2 : gM} (hc : aCl S mem) (hp : ∃ f1 r1, mem2 = gP (gP mem 7 7 r1) 7 5 (cT f1 (pFd (aL S) (aT S) 81 0 0 (mem 7 7)).2.1 (1 - (pFd (aL S) (aT S) 81 0 0 (mem 7 7)).1)) ∧ (pFd (aL S) (aT S) 81 0 0 (mem 7 7)).1 < 2 ∧ ((pFd (aL S) (aT S) 81 0 0 (mem 7 7)).1 = 0 → f1 1 = (pFd (aL S) (aT S) 81 0 0 (mem 7 7)).2.2.1 ∧ ∀ i, i < (pFd (aL S) (aT S) 81 0 0 (mem 7 7)).2.2.1 → i < 16 → r1 i = (pFd (aL S) (aT S) 81 0 0 (mem 7 7)).2.2.2 i)) : aCl S mem2 ∧ mem2 8 = mem 8 ∧ mem2 7 5 3 = 1 - (aFd S).1 ∧ mem2 7 5 2 = (aFd S).2.1 ∧ (aFd S).1 < 2 ∧ (aFd S).2.1 ≤ 80 ∧ (aFd S).2.2.1 ≤ 81 ∧ ((aFd S).1 = 0 → mem2 7 5 1 = (aFd S).2.2.1 ∧ ∀ i, i < (aFd S).2.2.1 → i < 16 → mem2 7 7 i = (aFd S).2.2.2 i) := by
  obtain ⟨f1, r1, em, hw, hs⟩ := hp
  obtain ⟨q1, q2, q3, q4⟩ := pFd_r (n := aL S) (t := aT S) 81 0 0 (mem 7 7) (fun _ => 0) (fun i hi => absurd hi (Nat.not_lt_zero i))
  have hm := pFd_m (n := aL S) (t := aT S) 81 0 0 (fun _ => 0) (Nat.zero_le _)
  have h80 : aL S ≤ 80 := hc.2.2.2.2.2.2.2.1
  have d1 : (aFd S).1 = (pFd (aL S) (aT S) 81 0 0 (fun _ => 0)).1 := rfl
  have d2 : (aFd S).2.1 = (pFd (aL S) (aT S) 81 0 0 (fun _ => 0)).2.1 := rfl
  have d3 : (aFd S).2.2.1 = (pFd (aL S) (aT S) 81 0 0 (fun _ => 0)).2.2.1 := rfl
  have d4 : (aFd S).2.2.2 = (pFd (aL S) (aT S) 81 0 0 (fun _ => 0)).2.2.2 := rfl
  rw [q1, q2] at em
  rw [q1] at hw hs
  rw [q3] at hs
  rw [← d1] at em hw hs
  rw [← d2] at em
  rw [← d3] at hs hm q4
  rw [← d4] at q4
  rw [← d2] at hm
  subst em
  refine ⟨aCl_code hc _ _, ?_, ?_, ?_, hw, by omega, by omega, fun h0 => ⟨?_, fun i hi h16 => ?_⟩⟩
  · rw [gP_nk _ _ (by decide), gP_nk _ _ (by decide)]
  · rw [gP_s]; rfl
  · rw [gP_s]; rfl
  · rw [gP_s]
    exact (hs h0).1
  · rw [gP_n _ _ (by decide), gP_s, (hs h0).2 i hi h16]
    exact q4 i hi h16
set_option maxRecDepth 100000 in
set_option maxHeartbeats 4000000 in
/-- assemble -/
theorem c_X8_assemble (l : Launch) {X : gX} (hI : gInj X) {mem : gM} {S : aS} {w9 w8 : Int32} (hJ : aI S) (hc : aCl S mem) : gMt l yX8_assemble cX8_assemble 4 (some .int) 9 199 X [.ref (gAd X 7 0), .int w9, .int w8] mem (fun v9 m9 => v9 = some (.int (aAsm S w9 w8).1) ∧ aCm (aAsm S w9 w8).2 mem m9) := by
  refine gMt.of (own := RX8) (by decide) rfl hI (by simp [Value.category]) (Nat.le_of_ble_eq_true rfl) ?_
  intro p e s m args below meth c ls H locs C hnm hl hR hS
  have hz : zI (aZ S) := hJ.1.1
  have hg : zG (aZ S) := hJ.1.2.1
  have hB : aZ S 178 ≤ 999999 := hJ.1.2.2.1
  have hM : mR (mem 0) (aZ S) := hc.1
  have h115 := hz.2.2.2.2.2.2.1
  have h116 := hz.2.2.2.2.2.2.2.1
  refine g_iload_n C hl dX8_assemble_0 rfl ?_
  refine g_bipush 8 C dX8_assemble_1 (by decide) ?_
  refine g_callSi C hl.1 hR hS md_X8_isBelow ml_X8_43 (c_X8_isBelow l hI (hi := 7) (by decide)) rfl rfl ⟨Nat.le_of_ble_eq_true rfl, Nat.le_of_ble_eq_true rfl⟩ ⟨Nat.le_refl _, Nat.le_refl _⟩ (Nat.le_of_ble_eq_true rfl) dX8_assemble_3 (fun H locs hR hS => ?_)
  refine g_ifv_eq (tgt := 18) C dX8_assemble_6 (by decide) (by decide) (fun c6 => ?_) (fun b eb hb1 hb2 => ?_)
  · -- 6 T
    refine g_iconstM (-1) C dX8_assemble_18 (by decide) ?_
    refine g_iret C hR hS dX8_assemble_19 ?_
    rw [aAsm_1 c6]
    exact ⟨rfl, hc, rfl⟩
  · -- 6 F
    subst eb
    refine g_iload_n C hl dX8_assemble_9 rfl ?_
    refine g_bipush 16 C dX8_assemble_10 (by decide) ?_
    refine g_callSi C hl.1 hR hS md_X8_isBelow ml_X8_43 (c_X8_isBelow l hI (hi := 15) (by decide)) rfl rfl ⟨Nat.le_of_ble_eq_true rfl, Nat.le_of_ble_eq_true rfl⟩ ⟨Nat.le_refl _, Nat.le_refl _⟩ (Nat.le_of_ble_eq_true rfl) dX8_assemble_12 (fun H locs hR hS => ?_)
    refine g_ifv_ne (tgt := 20) C dX8_assemble_15 (by decide) (by decide) (fun c9 ec9 hc91 hc92 => ?_) (fun c15 => ?_)
    · -- 15 T
      subst ec9
      have loop : ∀ (mem2 mem3 : gM) (b c9 : Nat), b ≤ 7 → c9 ≤ 15 → aCl S mem2 → mem2 8 = mem 8 → (aFd S).1 = 0 → c9 + (aFd S).2.2.1 ≤ 16 → mem2 7 5 1 = (aFd S).2.2.1 → (∀ i, i < (aFd S).2.2.1 → i < 16 → mem2 7 7 i = (aFd S).2.2.2 i) → (hHi mem3 (rN (aN S)) (aHr (aN S) (aH S) (aZ S)) ∧ hFr mem2 mem3) → ∀ (d i : Nat), i + d = (aFd S).2.2.1 → ∀ (ls : Array Slot) (H : Heap) (locs : List Loc) (g : Nat → Nat → Nat), mR g (zAs (aZ S) b c9 (aFd S).2.2.2 i) → gL ls [some (.ref (gAd X 7 0)), some (.int (nI b)), some (.int (nI c9)), some (.int (nI i))] → gRep X (fU mem3 0 g) H → va_S (gA X) s.heap H locs → W p l e { frames := 9, cells := 0, slots := 0, locals := 199 } s m args below meth c H locs 0 0 (MQ below (gQ X (fun v9 m9 => v9 = some (.int (aAsm S (nI b) (nI c9)).1) ∧ aCm (aAsm S (nI b) (nI c9)).2 mem m9)) args s 0 0 (gA X)) (F0 m 82 ls []) := by
        intro mem2 mem3 b c9 hb hc9 hc2 h8 hF hle hs1 hrow hp2 d
        have e5 : ∀ g : Nat → Nat → Nat, (fU mem3 0 g) 7 5 1 = (aFd S).2.2.1 := fun g => by rw [fU_n _ _ (show ¬ 7 = 0 by decide), hp2.2.2 5 (by decide) (by decide)]; exact hs1
        have e7 : ∀ (g : Nat → Nat → Nat) (i : Nat), i < (aFd S).2.2.1 → i < 16 → (fU mem3 0 g) 7 7 i = (aFd S).2.2.2 i := fun g i h1 h2 => by rw [fU_n _ _ (show ¬ 7 = 0 by decide), hp2.2.2 7 (by decide) (by decide)]; exact hrow i h1 h2
        induction d with
        | zero =>
          intro i hi ls H locs g hM hl hR hS
          obtain rfl : i = (aFd S).2.2.1 := by omega
          refine g_iload_n C hl dX8_assemble_82 rfl ?_
          refine g_aload_n C hl dX8_assemble_83 rfl ?_
          refine gt_X8_5 C hR fl_X8_39 dX8_assemble_84 ?_
          refine gn_X1_1 C hR fn_X8_148 dX8_assemble_87 ?_
          rw [e5]
          refine g_icmp_ge (tgt := 124) C dX8_assemble_90 (by decide) (by omega) (by omega) (fun c90 => ?_) (fun z9 => absurd z9 (by omega))
          refine g_aload_n C hl dX8_assemble_124 rfl ?_
          refine gt_X8_5 C hR fl_X8_39 dX8_assemble_125 ?_
          refine gn_X1_1 C hR fn_X8_148 dX8_assemble_128 ?_
          rw [e5]
          refine g_iret C hR hS dX8_assemble_131 ?_
          rw [aAsm_5 hb hc9 hF hle]
          have r9 := aCm_rec hc2 hp2 hM
          exact ⟨rfl, r9.1, r9.2.trans h8⟩
        | succ d ih =>
          intro i hi ls H locs g hM hl hR hS
          refine g_iload_n C hl dX8_assemble_82 rfl ?_
          refine g_aload_n C hl dX8_assemble_83 rfl ?_
          refine gt_X8_5 C hR fl_X8_39 dX8_assemble_84 ?_
          refine gn_X1_1 C hR fn_X8_148 dX8_assemble_87 ?_
          rw [e5]
          refine g_icmp_ge (tgt := 124) C dX8_assemble_90 (by decide) (by omega) (by omega) (fun z9 => absurd z9 (by omega)) (fun c90 => ?_)
          refine g_aload_n C hl dX8_assemble_93 rfl ?_
          refine gt_X8_0 C hR fl_X8_10 dX8_assemble_94 ?_
          refine gn_X4_0 C (by decide) hR fn_X8_47 dX8_assemble_97 ?_
          refine g_iload_n C hl dX8_assemble_100 rfl ?_
          refine g_iload_n C hl dX8_assemble_101 rfl ?_
          refine g_iload_n C hl dX8_assemble_102 rfl ?_
          refine g_iadd C dX8_assemble_103 ?_
          refine g_aload_n C hl dX8_assemble_104 rfl ?_
          refine gt_X8_5 C hR fl_X8_39 dX8_assemble_105 ?_
          refine gn_X1_0 C hR fn_X8_151 dX8_assemble_108 ?_
          refine g_iload_n C hl dX8_assemble_111 rfl ?_
          refine g_callVi C hl.1 hR hS (rc_X5 gRow_c) md_X5_read ml_X8_86 (c_X5_read l hI gRow_c (show i < 16 by omega)) rfl rfl ⟨Nat.le_of_ble_eq_true rfl, Nat.le_of_ble_eq_true rfl⟩ ⟨Nat.le_refl _, Nat.le_refl _⟩ (Nat.le_of_ble_eq_true rfl) dX8_assemble_112 (fun H locs hR hS => ?_)
          rw [e7 g i (by omega) (by omega)]
          refine g_callKv C hl.1 hR hS (rc_X0 (by decide)) md_X0_fill ml_X8_61 (c_X0_fill l hI (by decide) hM (show b < 8 by omega) (show c9 + i < 16 by omega)) rfl rfl ⟨Nat.le_of_ble_eq_true rfl, Nat.le_of_ble_eq_true rfl⟩ ⟨Nat.le_refl _, Nat.le_refl _⟩ (Nat.le_of_ble_eq_true rfl) dX8_assemble_115 (fun g hM H locs hR hS => ?_)
          refine g_iinc (k := 1) C hl dX8_assemble_118 rfl (by decide) (fun ls hl => ?_)
          refine g_goto (tgt := 82) C dX8_assemble_121 (by decide) ?_
          exact ih (i + 1) (by omega) ls H locs g hM hl hR hS
      refine g_aload_n C hl dX8_assemble_20 rfl ?_
      refine gt_X8_5 C hR fl_X8_39 dX8_assemble_21 ?_
      refine g_aload_n C hl dX8_assemble_24 rfl ?_
      refine gt_X8_4 C hR fl_X8_32 dX8_assemble_25 ?_
      refine g_callV C hl.1 hR hS rc_X1 md_X1_readFrom ml_X8_137 (c_X1_readFrom l hI hc.2.2.2.2.2) rfl rfl ⟨Nat.le_of_ble_eq_true rfl, Nat.le_of_ble_eq_true rfl⟩ ⟨Nat.le_refl _, Nat.le_refl _⟩ (Nat.le_of_ble_eq_true rfl) dX8_assemble_28 (fun v9 mem2 H locs hp hR hS => ?_)
      obtain ⟨e9, hp⟩ := hp
      subst e9
      obtain ⟨hc2, h8, a3, a2, hw, hb80, hb81, a1⟩ := asm_f hc hp
      refine g_aload_n C hl dX8_assemble_31 rfl ?_
      refine gt_X8_5 C hR fl_X8_39 dX8_assemble_32 ?_
      refine gn_X1_3 C hR fn_X8_141 dX8_assemble_35 ?_
      rw [a3]
      refine g_if_ne (tgt := 52) C dX8_assemble_38 (by decide) (by omega) (fun c38 => ?_) (fun c38 => ?_)
      · -- 38 T
        refine g_aload_n C hl dX8_assemble_52 rfl ?_
        refine gt_X8_5 C hR fl_X8_39 dX8_assemble_53 ?_
        refine gn_X1_1 C hR fn_X8_148 dX8_assemble_56 ?_
        obtain ⟨s1, srow⟩ := a1 (by omega)
        rw [s1]
        refine g_bipush 16 C dX8_assemble_59 (by decide) ?_
        refine g_iload_n C hl dX8_assemble_61 rfl ?_
        refine g_isub C dX8_assemble_62 (by omega) ?_
        refine g_icmp_le (tgt := 69) C dX8_assemble_63 (by decide) (by omega) (by omega) (fun c63 => ?_) (fun c63 => ?_)
        · -- 63 T
          refine g_aload_n C hl dX8_assemble_69 rfl ?_
          refine gt_X8_3 C hR fl_X8_25 dX8_assemble_70 ?_
          refine g_aload_n C hl dX8_assemble_73 rfl ?_
          refine gt_X8_0 C hR fl_X8_10 dX8_assemble_74 ?_
          refine g_callV C hl.1 hR hS rc_X3 md_X3_remember ml_X8_57 (c_X3_remember l hI hc2.2.1 hc2.1) rfl rfl ⟨Nat.le_of_ble_eq_true rfl, Nat.le_of_ble_eq_true rfl⟩ ⟨Nat.le_refl _, Nat.le_refl _⟩ (Nat.le_of_ble_eq_true rfl) dX8_assemble_77 (fun v9 mem3 H locs hp hR hS => ?_)
          obtain ⟨e9, hp2⟩ := hp
          subst e9
          have hM2 : mR (mem3 0) (aZ S) := by
            rw [hp2.2.m (Or.inl (by decide))]
            exact hc2.1
          have hM := hM2
          rw [← fU_self mem3 0] at hR
          refine g_iconst 0 C dX8_assemble_80 (by decide) ?_
          refine g_istore_n C hl dX8_assemble_81 (Nat.le_of_ble_eq_true rfl) (fun ls hl => ?_)
          exact loop mem2 mem3 b c9 (by omega) (by omega) hc2 h8 (by omega) (by omega) s1 srow hp2 _ 0 (Nat.zero_add _) _ _ _ _ hM hl hR hS
        · -- 63 F
          refine g_bipushM (-3) C dX8_assemble_66 (by decide) ?_
          refine g_iret C hR hS dX8_assemble_68 ?_
          rw [aAsm_4 hb2 hc92 (by omega) (by omega)]
          exact ⟨rfl, hc2, h8⟩
      · -- 38 F
        refine g_bipushM (-100) C dX8_assemble_41 (by decide) ?_
        refine g_aload_n C hl dX8_assemble_43 rfl ?_
        refine gt_X8_5 C hR fl_X8_39 dX8_assemble_44 ?_
        refine gn_X1_2 C hR fn_X8_145 dX8_assemble_47 ?_
        rw [a2]
        refine lv_isub C.1 C.2.1 dX8_assemble_50 ?_
        refine g_iret C hR hS dX8_assemble_51 ?_
        rw [aAsm_3 hb2 hc92 (by omega)]
        exact ⟨rfl, hc2, h8⟩
    · -- 15 F
      refine g_iconstM (-1) C dX8_assemble_18 (by decide) ?_
      refine g_iret C hR hS dX8_assemble_19 ?_
      rw [aAsm_2 c15]
      exact ⟨rfl, hc, rfl⟩
