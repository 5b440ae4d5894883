/-! ===== the constructors' walks ===== -/
def kW : Nat → Nat := fU (fU (fU (fU (fun _ => 0) 0 0) 1 1) 2 2) 3 3
def kZ : Nat → Nat := fU (fU (fU (fU (fun _ => 0) 100 0) 101 1) 102 2) 103 3
def kBk (X : gX) (a : Nat) : List va_E := [.inr (0, [.ref (a + 1), .ref (a + 3), .ref (a + 5), .ref (a + 7), .ref (a + 9)]), .inr (5, [.ref (a + 2)]), gAr X 100 (fun _ => 0), .inr (5, [.ref (a + 4)]), gAr X 8 (fun _ => 0), .inr (5, [.ref (a + 6)]), gAr X 4 kW, .inr (5, [.ref (a + 8)]), gAr X 8 (fun _ => 0), .inr (5, [.ref (a + 10)]), gAr X 8 (fun _ => 0)]
def kFt (X : gX) (a ci n : Nat) : List va_E := [.inr (ci, [.ref (a + 1), .int (nI 0)]), .inr (5, [.ref (a + 2)]), gAr X n (fun _ => 0)]
def kMc (X : gX) (a : Nat) : List va_E := .inr (4, [.ref (a + 1), .ref (a + 12), .ref (a + 15), .int (nI 0), .int (nI 0), .int (nI 0), .int (nI 0), .int (nI 0)]) :: ((kBk X (a + 1) ++ kFt X (a + 12) 2 24) ++ kFt X (a + 15) 7 36)
def kTc (X : gX) (a : Nat) : List va_E := [.inr (6, [.ref (a + 1), .int (nI 0)]), .inl (gCl X 1, 80, .inl (fun _ => nI 0))]
def kCd (X : gX) (a : Nat) : List va_E := [.inr (1, [.ref (a + 1), .int (nI 0), .int (nI 0), .int (nI 0)]), .inr (5, [.ref (a + 2)]), gAr X 16 (fun _ => 0)]
def kHf (a : Nat) : Nat → Option Nat := va_up (va_up (va_up (va_up (fun _ => none) 0 (some (a + 2))) 1 (some (a + 20))) 2 (some (a + 38))) 3 (some (a + 56))
def kHc (X : gX) (a : Nat) : List va_E := .inr (3, [.ref (a + 1), .int (nI 0)]) :: .inl (gCl X 2, 4, .inr (.inr (.inr (.inr (kHf a))))) :: (((kMc X (a + 2) ++ kMc X (a + 20)) ++ kMc X (a + 38)) ++ kMc X (a + 56))
def kFb (X : gX) (a : Nat) : List va_E := .inr (8, [.ref (a + 1), .ref (a + 19), .ref (a + 37), .ref (a + 55), .ref (a + 129), .ref (a + 131), .int (nI 0)]) :: (((((kMc X (a + 1) ++ kMc X (a + 19)) ++ kMc X (a + 37)) ++ kHc X (a + 55)) ++ kTc X (a + 129)) ++ kCd X (a + 131))
set_option maxRecDepth 100000 in
set_option maxHeartbeats 4000000 in
theorem kc_X2 (l : Launch) {X : gX} (hI : gInj X) {a : Nat} : kC l yX2_init cX2_init 1 2 45 2 25 X [] a (.inr (2, [.null, .int (nI 0)])) (kFt X (a) 2 24) := by
  refine kC.of (own := RX2) (by decide) rfl hI (by simp [Value.category]) (Nat.le_of_ble_eq_true rfl) ?_
  intro p e s m args below meth c ls C hnm hl hO hz hB
  refine g_aload_n C hl dX2_init_0 rfl ?_
  refine k_obj C hl.1 ml_X2_3 (Nat.le_of_ble_eq_true rfl) (Nat.le_of_ble_eq_true rfl) dX2_init_1 ?_
  refine g_aload_n C hl dX2_init_4 rfl ?_
  refine kk_new (ci := 5) (n := 1) (fs := [.null]) tyX5 C hB rfl tyX5_ok ilX5 cl_X2_9 ib_X5 in_X5 rfl (fun j hj => by obtain rfl : j = 0 := (by omega); rfl) (Nat.le_of_ble_eq_true rfl) (Nat.le_of_ble_eq_true rfl) dX2_init_5 (fun H hB => ?_)
  refine g_dup C dX2_init_8 rfl ?_
  refine g_bipush 24 C dX2_init_9 (by decide) ?_
  refine kk_call (n := 1) C hl.1 hO hB rfl im_X5_init co_X5_init in_X5 (by decide +kernel) rfl ml_X2_13 (kc_X5 l hI (n := 24) (by decide)) rfl rfl rfl ⟨Nat.le_of_ble_eq_true rfl, Nat.le_of_ble_eq_true rfl⟩ ⟨Nat.le_of_ble_eq_true rfl, Nat.le_of_ble_eq_true rfl⟩ (Nat.le_of_ble_eq_true rfl) dX2_init_11 (fun H locs hB => ?_)
  refine kk_put (i := 0) (ty := .object "FarBanks$Row") 0 C hnm hB rfl rfl ilX2 tyX2_ok nmX2 (by decide) fl_X2_16 rfl rfl rfl (by decide +kernel) rfl rfl (Nat.le_of_ble_eq_true rfl) rfl dX2_init_14 (fun H locs hB => ?_)
  have hB : kSt X (kFr a (a + 1)) s a ([(.inr (2, [.ref (a + 1), .int (nI 0)]) : va_E), .inr (5, [.ref (a + 2)]), gAr X 24 (fun _ => 0)]) H locs _ := hB
  exact kk_ret C hz hB dX2_init_17
set_option maxRecDepth 100000 in
set_option maxHeartbeats 4000000 in
theorem kc_X7 (l : Launch) {X : gX} (hI : gInj X) {a : Nat} : kC l yX7_init cX7_init 1 2 45 2 37 X [] a (.inr (7, [.null, .int (nI 0)])) (kFt X (a) 7 36) := by
  refine kC.of (own := RX7) (by decide) rfl hI (by simp [Value.category]) (Nat.le_of_ble_eq_true rfl) ?_
  intro p e s m args below meth c ls C hnm hl hO hz hB
  refine g_aload_n C hl dX7_init_0 rfl ?_
  refine k_obj C hl.1 ml_X7_3 (Nat.le_of_ble_eq_true rfl) (Nat.le_of_ble_eq_true rfl) dX7_init_1 ?_
  refine g_aload_n C hl dX7_init_4 rfl ?_
  refine kk_new (ci := 5) (n := 1) (fs := [.null]) tyX5 C hB rfl tyX5_ok ilX5 cl_X7_9 ib_X5 in_X5 rfl (fun j hj => by obtain rfl : j = 0 := (by omega); rfl) (Nat.le_of_ble_eq_true rfl) (Nat.le_of_ble_eq_true rfl) dX7_init_5 (fun H hB => ?_)
  refine g_dup C dX7_init_8 rfl ?_
  refine g_bipush 36 C dX7_init_9 (by decide) ?_
  refine kk_call (n := 1) C hl.1 hO hB rfl im_X5_init co_X5_init in_X5 (by decide +kernel) rfl ml_X7_13 (kc_X5 l hI (n := 36) (by decide)) rfl rfl rfl ⟨Nat.le_of_ble_eq_true rfl, Nat.le_of_ble_eq_true rfl⟩ ⟨Nat.le_of_ble_eq_true rfl, Nat.le_of_ble_eq_true rfl⟩ (Nat.le_of_ble_eq_true rfl) dX7_init_11 (fun H locs hB => ?_)
  refine kk_put (i := 0) (ty := .object "FarBanks$Row") 0 C hnm hB rfl rfl ilX7 tyX7_ok nmX7 (by decide) fl_X7_16 rfl rfl rfl (by decide +kernel) rfl rfl (Nat.le_of_ble_eq_true rfl) rfl dX7_init_14 (fun H locs hB => ?_)
  have hB : kSt X (kFr a (a + 1)) s a ([(.inr (7, [.ref (a + 1), .int (nI 0)]) : va_E), .inr (5, [.ref (a + 2)]), gAr X 36 (fun _ => 0)]) H locs _ := hB
  exact kk_ret C hz hB dX7_init_17
set_option maxRecDepth 100000 in
set_option maxHeartbeats 4000000 in
theorem kc_X1 (l : Launch) {X : gX} (hI : gInj X) {a : Nat} : kC l yX1_init cX1_init 1 2 45 2 17 X [] a (.inr (1, [.null, .int (nI 0), .int (nI 0), .int (nI 0)])) (kCd X (a)) := by
  refine kC.of (own := RX1) (by decide) rfl hI (by simp [Value.category]) (Nat.le_of_ble_eq_true rfl) ?_
  intro p e s m args below meth c ls C hnm hl hO hz hB
  refine g_aload_n C hl dX1_init_0 rfl ?_
  refine k_obj C hl.1 ml_X1_3 (Nat.le_of_ble_eq_true rfl) (Nat.le_of_ble_eq_true rfl) dX1_init_1 ?_
  refine g_aload_n C hl dX1_init_4 rfl ?_
  refine kk_new (ci := 5) (n := 1) (fs := [.null]) tyX5 C hB rfl tyX5_ok ilX5 cl_X1_9 ib_X5 in_X5 rfl (fun j hj => by obtain rfl : j = 0 := (by omega); rfl) (Nat.le_of_ble_eq_true rfl) (Nat.le_of_ble_eq_true rfl) dX1_init_5 (fun H hB => ?_)
  refine g_dup C dX1_init_8 rfl ?_
  refine g_bipush 16 C dX1_init_9 (by decide) ?_
  refine kk_call (n := 1) C hl.1 hO hB rfl im_X5_init co_X5_init in_X5 (by decide +kernel) rfl ml_X1_11 (kc_X5 l hI (n := 16) (by decide)) rfl rfl rfl ⟨Nat.le_of_ble_eq_true rfl, Nat.le_of_ble_eq_true rfl⟩ ⟨Nat.le_of_ble_eq_true rfl, Nat.le_of_ble_eq_true rfl⟩ (Nat.le_of_ble_eq_true rfl) dX1_init_11 (fun H locs hB => ?_)
  refine kk_put (i := 0) (ty := .object "FarBanks$Row") 0 C hnm hB rfl rfl ilX1 tyX1_ok nmX1 (by decide) fl_X1_14 rfl rfl rfl (by decide +kernel) rfl rfl (Nat.le_of_ble_eq_true rfl) rfl dX1_init_14 (fun H locs hB => ?_)
  have hB : kSt X (kFr a (a + 1)) s a ([(.inr (1, [.ref (a + 1), .int (nI 0), .int (nI 0), .int (nI 0)]) : va_E), .inr (5, [.ref (a + 2)]), gAr X 16 (fun _ => 0)]) H locs _ := hB
  exact kk_ret C hz hB dX1_init_17
set_option maxRecDepth 100000 in
set_option maxHeartbeats 4000000 in
theorem kc_X0 (l : Launch) {X : gX} (hI : gInj X) {a : Nat} : kC l yX0_init cX0_init 2 2 45 10 133 X [] a (.inr (0, [.null, .null, .null, .null, .null])) (kBk X (a)) := by
  refine kC.of (own := RX0) (by decide) rfl hI (by simp [Value.category]) (Nat.le_of_ble_eq_true rfl) ?_
  intro p e s m args below meth c ls C hnm hl hO hz hB
  refine g_aload_n C hl dX0_init_0 rfl ?_
  refine k_obj C hl.1 ml_X0_3 (Nat.le_of_ble_eq_true rfl) (Nat.le_of_ble_eq_true rfl) dX0_init_1 ?_
  refine g_aload_n C hl dX0_init_4 rfl ?_
  refine kk_new (ci := 5) (n := 1) (fs := [.null]) tyX5 C hB rfl tyX5_ok ilX5 cl_X0_9 ib_X5 in_X5 rfl (fun j hj => by obtain rfl : j = 0 := (by omega); rfl) (Nat.le_of_ble_eq_true rfl) (Nat.le_of_ble_eq_true rfl) dX0_init_5 (fun H hB => ?_)
  refine g_dup C dX0_init_8 rfl ?_
  refine g_bipush 100 C dX0_init_9 (by decide) ?_
  refine kk_call (n := 1) C hl.1 hO hB rfl im_X5_init co_X5_init in_X5 (by decide +kernel) rfl ml_X0_11 (kc_X5 l hI (n := 100) (by decide)) rfl rfl rfl ⟨Nat.le_of_ble_eq_true rfl, Nat.le_of_ble_eq_true rfl⟩ ⟨Nat.le_of_ble_eq_true rfl, Nat.le_of_ble_eq_true rfl⟩ (Nat.le_of_ble_eq_true rfl) dX0_init_11 (fun H locs hB => ?_)
  refine kk_put (i := 0) (ty := .object "FarBanks$Row") 0 C hnm hB rfl rfl ilX0 tyX0_ok nmX0 (by decide) fl_X0_14 rfl rfl rfl (by decide +kernel) rfl rfl (Nat.le_of_ble_eq_true rfl) rfl dX0_init_14 (fun H locs hB => ?_)
  have hB : kSt X (kFr a (a + 1)) s a ([(.inr (0, [.ref (a + 1), .null, .null, .null, .null]) : va_E), .inr (5, [.ref (a + 2)]), gAr X 100 (fun _ => 0)]) H locs _ := hB
  refine g_aload_n C hl dX0_init_17 rfl ?_
  refine kk_new (ci := 5) (n := 3) (fs := [.null]) tyX5 C hB rfl tyX5_ok ilX5 cl_X0_9 ib_X5 in_X5 rfl (fun j hj => by obtain rfl : j = 0 := (by omega); rfl) (Nat.le_of_ble_eq_true rfl) (Nat.le_of_ble_eq_true rfl) dX0_init_18 (fun H hB => ?_)
  refine g_dup C dX0_init_21 rfl ?_
  refine g_bipush 8 C dX0_init_22 (by decide) ?_
  refine kk_call (n := 3) C hl.1 hO hB rfl im_X5_init co_X5_init in_X5 (by decide +kernel) rfl ml_X0_11 (kc_X5 l hI (n := 8) (by decide)) rfl rfl rfl ⟨Nat.le_of_ble_eq_true rfl, Nat.le_of_ble_eq_true rfl⟩ ⟨Nat.le_of_ble_eq_true rfl, Nat.le_of_ble_eq_true rfl⟩ (Nat.le_of_ble_eq_true rfl) dX0_init_24 (fun H locs hB => ?_)
  refine kk_put (i := 0) (ty := .object "FarBanks$Row") 1 C hnm hB rfl rfl ilX0 tyX0_ok nmX0 (by decide) fl_X0_20 rfl rfl rfl (by decide +kernel) rfl rfl (Nat.le_of_ble_eq_true rfl) rfl dX0_init_27 (fun H locs hB => ?_)
  have hB : kSt X (kFr a (a + 1)) s a ([(.inr (0, [.ref (a + 1), .ref (a + 3), .null, .null, .null]) : va_E), .inr (5, [.ref (a + 2)]), gAr X 100 (fun _ => 0), .inr (5, [.ref (a + 4)]), gAr X 8 (fun _ => 0)]) H locs _ := hB
  refine g_aload_n C hl dX0_init_30 rfl ?_
  refine kk_new (ci := 5) (n := 5) (fs := [.null]) tyX5 C hB rfl tyX5_ok ilX5 cl_X0_9 ib_X5 in_X5 rfl (fun j hj => by obtain rfl : j = 0 := (by omega); rfl) (Nat.le_of_ble_eq_true rfl) (Nat.le_of_ble_eq_true rfl) dX0_init_31 (fun H hB => ?_)
  refine g_dup C dX0_init_34 rfl ?_
  refine g_iconst 4 C dX0_init_35 (by decide) ?_
  refine kk_call (n := 5) C hl.1 hO hB rfl im_X5_init co_X5_init in_X5 (by decide +kernel) rfl ml_X0_11 (kc_X5 l hI (n := 4) (by decide)) rfl rfl rfl ⟨Nat.le_of_ble_eq_true rfl, Nat.le_of_ble_eq_true rfl⟩ ⟨Nat.le_of_ble_eq_true rfl, Nat.le_of_ble_eq_true rfl⟩ (Nat.le_of_ble_eq_true rfl) dX0_init_36 (fun H locs hB => ?_)
  refine kk_put (i := 0) (ty := .object "FarBanks$Row") 2 C hnm hB rfl rfl ilX0 tyX0_ok nmX0 (by decide) fl_X0_23 rfl rfl rfl (by decide +kernel) rfl rfl (Nat.le_of_ble_eq_true rfl) rfl dX0_init_39 (fun H locs hB => ?_)
  have hB : kSt X (kFr a (a + 1)) s a ([(.inr (0, [.ref (a + 1), .ref (a + 3), .ref (a + 5), .null, .null]) : va_E), .inr (5, [.ref (a + 2)]), gAr X 100 (fun _ => 0), .inr (5, [.ref (a + 4)]), gAr X 8 (fun _ => 0), .inr (5, [.ref (a + 6)]), gAr X 4 (fun _ => 0)]) H locs _ := hB
  refine g_aload_n C hl dX0_init_42 rfl ?_
  refine kk_new (ci := 5) (n := 7) (fs := [.null]) tyX5 C hB rfl tyX5_ok ilX5 cl_X0_9 ib_X5 in_X5 rfl (fun j hj => by obtain rfl : j = 0 := (by omega); rfl) (Nat.le_of_ble_eq_true rfl) (Nat.le_of_ble_eq_true rfl) dX0_init_43 (fun H hB => ?_)
  refine g_dup C dX0_init_46 rfl ?_
  refine g_bipush 8 C dX0_init_47 (by decide) ?_
  refine kk_call (n := 7) C hl.1 hO hB rfl im_X5_init co_X5_init in_X5 (by decide +kernel) rfl ml_X0_11 (kc_X5 l hI (n := 8) (by decide)) rfl rfl rfl ⟨Nat.le_of_ble_eq_true rfl, Nat.le_of_ble_eq_true rfl⟩ ⟨Nat.le_of_ble_eq_true rfl, Nat.le_of_ble_eq_true rfl⟩ (Nat.le_of_ble_eq_true rfl) dX0_init_49 (fun H locs hB => ?_)
  refine kk_put (i := 0) (ty := .object "FarBanks$Row") 3 C hnm hB rfl rfl ilX0 tyX0_ok nmX0 (by decide) fl_X0_26 rfl rfl rfl (by decide +kernel) rfl rfl (Nat.le_of_ble_eq_true rfl) rfl dX0_init_52 (fun H locs hB => ?_)
  have hB : kSt X (kFr a (a + 1)) s a ([(.inr (0, [.ref (a + 1), .ref (a + 3), .ref (a + 5), .ref (a + 7), .null]) : va_E), .inr (5, [.ref (a + 2)]), gAr X 100 (fun _ => 0), .inr (5, [.ref (a + 4)]), gAr X 8 (fun _ => 0), .inr (5, [.ref (a + 6)]), gAr X 4 (fun _ => 0), .inr (5, [.ref (a + 8)]), gAr X 8 (fun _ => 0)]) H locs _ := hB
  refine g_aload_n C hl dX0_init_55 rfl ?_
  refine kk_new (ci := 5) (n := 9) (fs := [.null]) tyX5 C hB rfl tyX5_ok ilX5 cl_X0_9 ib_X5 in_X5 rfl (fun j hj => by obtain rfl : j = 0 := (by omega); rfl) (Nat.le_of_ble_eq_true rfl) (Nat.le_of_ble_eq_true rfl) dX0_init_56 (fun H hB => ?_)
  refine g_dup C dX0_init_59 rfl ?_
  refine g_bipush 8 C dX0_init_60 (by decide) ?_
  refine kk_call (n := 9) C hl.1 hO hB rfl im_X5_init co_X5_init in_X5 (by decide +kernel) rfl ml_X0_11 (kc_X5 l hI (n := 8) (by decide)) rfl rfl rfl ⟨Nat.le_of_ble_eq_true rfl, Nat.le_of_ble_eq_true rfl⟩ ⟨Nat.le_of_ble_eq_true rfl, Nat.le_of_ble_eq_true rfl⟩ (Nat.le_of_ble_eq_true rfl) dX0_init_62 (fun H locs hB => ?_)
  refine kk_put (i := 0) (ty := .object "FarBanks$Row") 4 C hnm hB rfl rfl ilX0 tyX0_ok nmX0 (by decide) fl_X0_29 rfl rfl rfl (by decide +kernel) rfl rfl (Nat.le_of_ble_eq_true rfl) rfl dX0_init_65 (fun H locs hB => ?_)
  have hB : kSt X (kFr a (a + 1)) s a ([(.inr (0, [.ref (a + 1), .ref (a + 3), .ref (a + 5), .ref (a + 7), .ref (a + 9)]) : va_E), .inr (5, [.ref (a + 2)]), gAr X 100 (fun _ => 0), .inr (5, [.ref (a + 4)]), gAr X 8 (fun _ => 0), .inr (5, [.ref (a + 6)]), gAr X 4 (fun _ => 0), .inr (5, [.ref (a + 8)]), gAr X 8 (fun _ => 0), .inr (5, [.ref (a + 10)]), gAr X 8 (fun _ => 0)]) H locs _ := hB
  refine g_iconst 0 C dX0_init_68 (by decide) ?_
  refine g_istore_n C hl dX0_init_69 (Nat.le_of_ble_eq_true rfl) (fun ls hl => ?_)
  refine g_iload_n C hl dX0_init_70 rfl ?_
  refine g_iconst 4 C dX0_init_71 (by decide) ?_
  refine g_icmp_ge (tgt := 90) C dX0_init_72 (by decide) (by decide) (by decide) (fun z9 => absurd z9 (by decide)) (fun _ => ?_)
  refine g_aload_n C hl dX0_init_75 rfl ?_
  refine kk_get (i := 0) 2 C hB rfl rfl ilX0 (by decide) fl_X0_23 rfl rfl rfl dX0_init_76 ?_
  refine g_iload_n C hl dX0_init_79 rfl ?_
  refine g_iload_n C hl dX0_init_80 rfl ?_
  refine kk_write (i := 5) C hI hl.1 hB rfl rfl (by decide) (by decide) rfl ml_X0_32 ⟨Nat.le_of_ble_eq_true rfl, Nat.le_of_ble_eq_true rfl⟩ ⟨Nat.le_of_ble_eq_true rfl, Nat.le_of_ble_eq_true rfl⟩ (Nat.le_of_ble_eq_true rfl) dX0_init_81 (fun H locs hB => ?_)
  have hB : kSt X (kFr a (a + 1)) s a ([(.inr (0, [.ref (a + 1), .ref (a + 3), .ref (a + 5), .ref (a + 7), .ref (a + 9)]) : va_E), .inr (5, [.ref (a + 2)]), gAr X 100 (fun _ => 0), .inr (5, [.ref (a + 4)]), gAr X 8 (fun _ => 0), .inr (5, [.ref (a + 6)]), gAr X 4 (fU (fun _ => 0) 0 0), .inr (5, [.ref (a + 8)]), gAr X 8 (fun _ => 0), .inr (5, [.ref (a + 10)]), gAr X 8 (fun _ => 0)]) H locs _ := hB
  refine g_iinc (k := 1) C hl dX0_init_84 rfl (by decide) (fun ls hl => ?_)
  refine g_goto (tgt := 70) C dX0_init_87 (by decide) ?_
  refine g_iload_n C hl dX0_init_70 rfl ?_
  refine g_iconst 4 C dX0_init_71 (by decide) ?_
  refine g_icmp_ge (tgt := 90) C dX0_init_72 (by decide) (by decide) (by decide) (fun z9 => absurd z9 (by decide)) (fun _ => ?_)
  refine g_aload_n C hl dX0_init_75 rfl ?_
  refine kk_get (i := 0) 2 C hB rfl rfl ilX0 (by decide) fl_X0_23 rfl rfl rfl dX0_init_76 ?_
  refine g_iload_n C hl dX0_init_79 rfl ?_
  refine g_iload_n C hl dX0_init_80 rfl ?_
  refine kk_write (i := 5) C hI hl.1 hB rfl rfl (by decide) (by decide) rfl ml_X0_32 ⟨Nat.le_of_ble_eq_true rfl, Nat.le_of_ble_eq_true rfl⟩ ⟨Nat.le_of_ble_eq_true rfl, Nat.le_of_ble_eq_true rfl⟩ (Nat.le_of_ble_eq_true rfl) dX0_init_81 (fun H locs hB => ?_)
  have hB : kSt X (kFr a (a + 1)) s a ([(.inr (0, [.ref (a + 1), .ref (a + 3), .ref (a + 5), .ref (a + 7), .ref (a + 9)]) : va_E), .inr (5, [.ref (a + 2)]), gAr X 100 (fun _ => 0), .inr (5, [.ref (a + 4)]), gAr X 8 (fun _ => 0), .inr (5, [.ref (a + 6)]), gAr X 4 (fU (fU (fun _ => 0) 0 0) 1 1), .inr (5, [.ref (a + 8)]), gAr X 8 (fun _ => 0), .inr (5, [.ref (a + 10)]), gAr X 8 (fun _ => 0)]) H locs _ := hB
  refine g_iinc (k := 1) C hl dX0_init_84 rfl (by decide) (fun ls hl => ?_)
  refine g_goto (tgt := 70) C dX0_init_87 (by decide) ?_
  refine g_iload_n C hl dX0_init_70 rfl ?_
  refine g_iconst 4 C dX0_init_71 (by decide) ?_
  refine g_icmp_ge (tgt := 90) C dX0_init_72 (by decide) (by decide) (by decide) (fun z9 => absurd z9 (by decide)) (fun _ => ?_)
  refine g_aload_n C hl dX0_init_75 rfl ?_
  refine kk_get (i := 0) 2 C hB rfl rfl ilX0 (by decide) fl_X0_23 rfl rfl rfl dX0_init_76 ?_
  refine g_iload_n C hl dX0_init_79 rfl ?_
  refine g_iload_n C hl dX0_init_80 rfl ?_
  refine kk_write (i := 5) C hI hl.1 hB rfl rfl (by decide) (by decide) rfl ml_X0_32 ⟨Nat.le_of_ble_eq_true rfl, Nat.le_of_ble_eq_true rfl⟩ ⟨Nat.le_of_ble_eq_true rfl, Nat.le_of_ble_eq_true rfl⟩ (Nat.le_of_ble_eq_true rfl) dX0_init_81 (fun H locs hB => ?_)
  have hB : kSt X (kFr a (a + 1)) s a ([(.inr (0, [.ref (a + 1), .ref (a + 3), .ref (a + 5), .ref (a + 7), .ref (a + 9)]) : va_E), .inr (5, [.ref (a + 2)]), gAr X 100 (fun _ => 0), .inr (5, [.ref (a + 4)]), gAr X 8 (fun _ => 0), .inr (5, [.ref (a + 6)]), gAr X 4 (fU (fU (fU (fun _ => 0) 0 0) 1 1) 2 2), .inr (5, [.ref (a + 8)]), gAr X 8 (fun _ => 0), .inr (5, [.ref (a + 10)]), gAr X 8 (fun _ => 0)]) H locs _ := hB
  refine g_iinc (k := 1) C hl dX0_init_84 rfl (by decide) (fun ls hl => ?_)
  refine g_goto (tgt := 70) C dX0_init_87 (by decide) ?_
  refine g_iload_n C hl dX0_init_70 rfl ?_
  refine g_iconst 4 C dX0_init_71 (by decide) ?_
  refine g_icmp_ge (tgt := 90) C dX0_init_72 (by decide) (by decide) (by decide) (fun z9 => absurd z9 (by decide)) (fun _ => ?_)
  refine g_aload_n C hl dX0_init_75 rfl ?_
  refine kk_get (i := 0) 2 C hB rfl rfl ilX0 (by decide) fl_X0_23 rfl rfl rfl dX0_init_76 ?_
  refine g_iload_n C hl dX0_init_79 rfl ?_
  refine g_iload_n C hl dX0_init_80 rfl ?_
  refine kk_write (i := 5) C hI hl.1 hB rfl rfl (by decide) (by decide) rfl ml_X0_32 ⟨Nat.le_of_ble_eq_true rfl, Nat.le_of_ble_eq_true rfl⟩ ⟨Nat.le_of_ble_eq_true rfl, Nat.le_of_ble_eq_true rfl⟩ (Nat.le_of_ble_eq_true rfl) dX0_init_81 (fun H locs hB => ?_)
  have hB : kSt X (kFr a (a + 1)) s a ([(.inr (0, [.ref (a + 1), .ref (a + 3), .ref (a + 5), .ref (a + 7), .ref (a + 9)]) : va_E), .inr (5, [.ref (a + 2)]), gAr X 100 (fun _ => 0), .inr (5, [.ref (a + 4)]), gAr X 8 (fun _ => 0), .inr (5, [.ref (a + 6)]), gAr X 4 (fU (fU (fU (fU (fun _ => 0) 0 0) 1 1) 2 2) 3 3), .inr (5, [.ref (a + 8)]), gAr X 8 (fun _ => 0), .inr (5, [.ref (a + 10)]), gAr X 8 (fun _ => 0)]) H locs _ := hB
  refine g_iinc (k := 1) C hl dX0_init_84 rfl (by decide) (fun ls hl => ?_)
  refine g_goto (tgt := 70) C dX0_init_87 (by decide) ?_
  refine g_iload_n C hl dX0_init_70 rfl ?_
  refine g_iconst 4 C dX0_init_71 (by decide) ?_
  refine g_icmp_ge (tgt := 90) C dX0_init_72 (by decide) (by decide) (by decide) (fun _ => ?_) (fun z9 => absurd z9 (by decide))
  exact kk_ret C hz hB dX0_init_90
set_option maxRecDepth 100000 in
set_option maxHeartbeats 4000000 in
theorem kc_X4 (l : Launch) {X : gX} (hI : gInj X) {a : Nat} : kC l yX4_init cX4_init 1 3 66 17 204 X [] a (.inr (4, [.null, .null, .null, .int (nI 0), .int (nI 0), .int (nI 0), .int (nI 0), .int (nI 0)])) (kMc X (a)) := by
  refine kC.of (own := RX4) (by decide) rfl hI (by simp [Value.category]) (Nat.le_of_ble_eq_true rfl) ?_
  intro p e s m args below meth c ls C hnm hl hO hz hB
  refine g_aload_n C hl dX4_init_0 rfl ?_
  refine k_obj C hl.1 ml_X4_3 (Nat.le_of_ble_eq_true rfl) (Nat.le_of_ble_eq_true rfl) dX4_init_1 ?_
  refine g_aload_n C hl dX4_init_4 rfl ?_
  refine kk_new (ci := 0) (n := 1) (fs := [.null, .null, .null, .null, .null]) tyX0 C hB rfl tyX0_ok ilX0 cl_X4_9 ib_X0 in_X0 rfl (fun j hj => by rcases (show j = 0 ∨ j = 1 ∨ j = 2 ∨ j = 3 ∨ j = 4 by omega) with rfl | rfl | rfl | rfl | rfl <;> rfl) (Nat.le_of_ble_eq_true rfl) (Nat.le_of_ble_eq_true rfl) dX4_init_5 (fun H hB => ?_)
  refine g_dup C dX4_init_8 rfl ?_
  refine kk_call (n := 1) C hl.1 hO hB rfl im_X0_init co_X0_init in_X0 (by decide +kernel) rfl ml_X4_11 (kc_X0 l hI) rfl rfl rfl ⟨Nat.le_of_ble_eq_true rfl, Nat.le_of_ble_eq_true rfl⟩ ⟨Nat.le_of_ble_eq_true rfl, Nat.le_of_ble_eq_true rfl⟩ (Nat.le_of_ble_eq_true rfl) dX4_init_9 (fun H locs hB => ?_)
  refine kk_put (i := 0) (ty := .object "FarBanks$Banks") 0 C hnm hB rfl rfl ilX4 tyX4_ok nmX4 (by decide) fl_X4_12 rfl rfl rfl (by decide +kernel) rfl rfl (Nat.le_of_ble_eq_true rfl) rfl dX4_init_12 (fun H locs hB => ?_)
  have hB : kSt X (kFr a (a + 1)) s a ((.inr (4, [.ref (a + 1), .null, .null, .int (nI 0), .int (nI 0), .int (nI 0), .int (nI 0), .int (nI 0)]) : va_E) :: (kBk X (a + 1))) H locs _ := hB
  refine g_aload_n C hl dX4_init_15 rfl ?_
  refine kk_new (ci := 2) (n := 12) (fs := [.null, .int (nI 0)]) tyX2 C hB rfl tyX2_ok ilX2 cl_X4_18 ib_X2 in_X2 rfl (fun j hj => by rcases (show j = 0 ∨ j = 1 by omega) with rfl | rfl <;> rfl) (Nat.le_of_ble_eq_true rfl) (Nat.le_of_ble_eq_true rfl) dX4_init_16 (fun H hB => ?_)
  refine g_dup C dX4_init_19 rfl ?_
  refine kk_callN (n := 12) C hl.1 hO hB rfl im_X2_init co_X2_init in_X2 (by decide +kernel) rfl mn_X4_20 (kc_X2 l hI) rfl rfl rfl ⟨Nat.le_of_ble_eq_true rfl, Nat.le_of_ble_eq_true rfl⟩ ⟨Nat.le_of_ble_eq_true rfl, Nat.le_of_ble_eq_true rfl⟩ (Nat.le_of_ble_eq_true rfl) dX4_init_20 (fun H locs hB => ?_)
  refine kk_put (i := 0) (ty := .object "FarBanks$Frames") 1 C hnm hB rfl rfl ilX4 tyX4_ok nmX4 (by decide) fl_X4_21 rfl rfl rfl (by decide +kernel) rfl rfl (Nat.le_of_ble_eq_true rfl) rfl dX4_init_23 (fun H locs hB => ?_)
  have hB : kSt X (kFr a (a + 1)) s a ((.inr (4, [.ref (a + 1), .ref (a + 12), .null, .int (nI 0), .int (nI 0), .int (nI 0), .int (nI 0), .int (nI 0)]) : va_E) :: (kBk X (a + 1) ++ kFt X (a + 12) 2 24)) H locs _ := hB
  refine g_aload_n C hl dX4_init_26 rfl ?_
  refine kk_new (ci := 7) (n := 15) (fs := [.null, .int (nI 0)]) tyX7 C hB rfl tyX7_ok ilX7 cl_X4_25 ib_X7 in_X7 rfl (fun j hj => by rcases (show j = 0 ∨ j = 1 by omega) with rfl | rfl <;> rfl) (Nat.le_of_ble_eq_true rfl) (Nat.le_of_ble_eq_true rfl) dX4_init_27 (fun H hB => ?_)
  refine g_dup C dX4_init_30 rfl ?_
  refine kk_callN (n := 15) C hl.1 hO hB rfl im_X7_init co_X7_init in_X7 (by decide +kernel) rfl mn_X4_27 (kc_X7 l hI) rfl rfl rfl ⟨Nat.le_of_ble_eq_true rfl, Nat.le_of_ble_eq_true rfl⟩ ⟨Nat.le_of_ble_eq_true rfl, Nat.le_of_ble_eq_true rfl⟩ (Nat.le_of_ble_eq_true rfl) dX4_init_31 (fun H locs hB => ?_)
  refine kk_put (i := 0) (ty := .object "FarBanks$Trail") 2 C hnm hB rfl rfl ilX4 tyX4_ok nmX4 (by decide) fl_X4_28 rfl rfl rfl (by decide +kernel) rfl rfl (Nat.le_of_ble_eq_true rfl) rfl dX4_init_34 (fun H locs hB => ?_)
  have hB : kSt X (kFr a (a + 1)) s a ((.inr (4, [.ref (a + 1), .ref (a + 12), .ref (a + 15), .int (nI 0), .int (nI 0), .int (nI 0), .int (nI 0), .int (nI 0)]) : va_E) :: ((kBk X (a + 1) ++ kFt X (a + 12) 2 24) ++ kFt X (a + 15) 7 36)) H locs _ := hB
  exact kk_ret C hz hB dX4_init_37
set_option maxRecDepth 100000 in
set_option maxHeartbeats 4000000 in
theorem kc_X6 (l : Launch) {X : gX} (hI : gInj X) {a : Nat} : kC l yX6_init cX6_init 1 1 24 1 80 X [] a (.inr (6, [.null, .int (nI 0)])) (kTc X (a)) := by
  refine kC.of (own := RX6) (by decide) rfl hI (by simp [Value.category]) (Nat.le_of_ble_eq_true rfl) ?_
  intro p e s m args below meth c ls C hnm hl hO hz hB
  refine g_aload_n C hl dX6_init_0 rfl ?_
  refine k_obj C hl.1 ml_X6_3 (Nat.le_of_ble_eq_true rfl) (Nat.le_of_ble_eq_true rfl) dX6_init_1 ?_
  refine g_aload_n C hl dX6_init_4 rfl ?_
  refine g_bipush 80 C dX6_init_5 (by decide) ?_
  refine kk_newc (n := 1) (k := 80) C hB rfl (by decide) (Nat.le_of_ble_eq_true rfl) (Nat.le_of_ble_eq_true rfl) dX6_init_7 (fun H hB => ?_)
  refine kk_put (i := 0) (ty := .array .char) 0 C hnm hB rfl rfl ilX6 tyX6_ok nmX6 (by decide) fl_X6_9 rfl rfl rfl (by decide +kernel) rfl rfl (Nat.le_of_ble_eq_true rfl) rfl dX6_init_9 (fun H locs hB => ?_)
  have hB : kSt X (kFr a (a + 1)) s a ([(.inr (6, [.ref (a + 1), .int (nI 0)]) : va_E), .inl (gCl X 1, 80, .inl (fun _ => nI 0))]) H locs _ := hB
  exact kk_ret C hz hB dX6_init_12
set_option maxRecDepth 100000 in
set_option maxHeartbeats 4000000 in
theorem kc_X3 (l : Launch) {X : gX} (hI : gInj X) {a : Nat} : kC l yX3_init cX3_init 2 4 86 73 852 X [] a (.inr (3, [.null, .int (nI 0)])) (kHc X (a)) := by
  refine kC.of (own := RX3) (by decide) rfl hI (by simp [Value.category]) (Nat.le_of_ble_eq_true rfl) ?_
  intro p e s m args below meth c ls C hnm hl hO hz hB
  refine g_aload_n C hl dX3_init_0 rfl ?_
  refine k_obj C hl.1 ml_X3_3 (Nat.le_of_ble_eq_true rfl) (Nat.le_of_ble_eq_true rfl) dX3_init_1 ?_
  refine g_aload_n C hl dX3_init_4 rfl ?_
  refine g_iconst 4 C dX3_init_5 (by decide) ?_
  refine kk_newq (n := 1) (k := 4) C hO hB rfl cl_X3_9 (by decide) (Nat.le_of_ble_eq_true rfl) (Nat.le_of_ble_eq_true rfl) dX3_init_6 (fun H hB => ?_)
  refine kk_put (i := 0) (ty := .array (.object "FarBanks$Machine")) 0 C hnm hB rfl rfl ilX3 tyX3_ok nmX3 (by decide) fl_X3_11 rfl rfl rfl (by decide +kernel) rfl rfl (Nat.le_of_ble_eq_true rfl) rfl dX3_init_9 (fun H locs hB => ?_)
  have hB : kSt X (kFr a (a + 1)) s a ([(.inr (3, [.ref (a + 1), .int (nI 0)]) : va_E), .inl (gCl X 2, 4, .inr (.inr (.inr (.inr (fun _ => none)))))]) H locs _ := hB
  refine g_iconst 0 C dX3_init_12 (by decide) ?_
  refine g_istore_n C hl dX3_init_13 (Nat.le_of_ble_eq_true rfl) (fun ls hl => ?_)
  refine g_iload_n C hl dX3_init_14 rfl ?_
  refine g_aload_n C hl dX3_init_15 rfl ?_
  refine kk_get (i := 0) 0 C hB rfl rfl ilX3 (by decide) fl_X3_11 rfl rfl rfl dX3_init_16 ?_
  refine kk_alenq (i := 1) C hB rfl rfl dX3_init_19 ?_
  refine g_icmp_ge (tgt := 42) C dX3_init_20 (by decide) (by decide) (by decide) (fun z9 => absurd z9 (by decide)) (fun _ => ?_)
  refine g_aload_n C hl dX3_init_23 rfl ?_
  refine kk_get (i := 0) 0 C hB rfl rfl ilX3 (by decide) fl_X3_11 rfl rfl rfl dX3_init_24 ?_
  refine g_iload_n C hl dX3_init_27 rfl ?_
  refine kk_new (ci := 4) (n := 2) (fs := [.null, .null, .null, .int (nI 0), .int (nI 0), .int (nI 0), .int (nI 0), .int (nI 0)]) tyX4 C hB rfl tyX4_ok ilX4 cl_X3_9 ib_X4 in_X4 rfl (fun j hj => by rcases (show j = 0 ∨ j = 1 ∨ j = 2 ∨ j = 3 ∨ j = 4 ∨ j = 5 ∨ j = 6 ∨ j = 7 by omega) with rfl | rfl | rfl | rfl | rfl | rfl | rfl | rfl <;> rfl) (Nat.le_of_ble_eq_true rfl) (Nat.le_of_ble_eq_true rfl) dX3_init_28 (fun H hB => ?_)
  refine g_dup C dX3_init_31 rfl ?_
  refine kk_callN (n := 2) C hl.1 hO hB rfl im_X4_init co_X4_init in_X4 (by decide +kernel) rfl mn_X3_17 (kc_X4 l hI) rfl rfl rfl ⟨Nat.le_of_ble_eq_true rfl, Nat.le_of_ble_eq_true rfl⟩ ⟨Nat.le_of_ble_eq_true rfl, Nat.le_of_ble_eq_true rfl⟩ (Nat.le_of_ble_eq_true rfl) dX3_init_32 (fun H locs hB => ?_)
  refine kk_astq (i := 1) (j := 2) C hB rfl rfl (by decide) (by decide) rfl rfl dX3_init_35 (fun H locs hB => ?_)
  have hB : kSt X (kFr a (a + 1)) s a ((.inr (3, [.ref (a + 1), .int (nI 0)]) : va_E) :: .inl (gCl X 2, 4, .inr (.inr (.inr (.inr (va_up (fun _ => none) 0 (some (a + 2))))))) :: (kMc X (a + 2))) H locs _ := hB
  refine g_iinc (k := 1) C hl dX3_init_36 rfl (by decide) (fun ls hl => ?_)
  refine g_goto (tgt := 14) C dX3_init_39 (by decide) ?_
  refine g_iload_n C hl dX3_init_14 rfl ?_
  refine g_aload_n C hl dX3_init_15 rfl ?_
  refine kk_get (i := 0) 0 C hB rfl rfl ilX3 (by decide) fl_X3_11 rfl rfl rfl dX3_init_16 ?_
  refine kk_alenq (i := 1) C hB rfl rfl dX3_init_19 ?_
  refine g_icmp_ge (tgt := 42) C dX3_init_20 (by decide) (by decide) (by decide) (fun z9 => absurd z9 (by decide)) (fun _ => ?_)
  refine g_aload_n C hl dX3_init_23 rfl ?_
  refine kk_get (i := 0) 0 C hB rfl rfl ilX3 (by decide) fl_X3_11 rfl rfl rfl dX3_init_24 ?_
  refine g_iload_n C hl dX3_init_27 rfl ?_
  refine kk_new (ci := 4) (n := 20) (fs := [.null, .null, .null, .int (nI 0), .int (nI 0), .int (nI 0), .int (nI 0), .int (nI 0)]) tyX4 C hB rfl tyX4_ok ilX4 cl_X3_9 ib_X4 in_X4 rfl (fun j hj => by rcases (show j = 0 ∨ j = 1 ∨ j = 2 ∨ j = 3 ∨ j = 4 ∨ j = 5 ∨ j = 6 ∨ j = 7 by omega) with rfl | rfl | rfl | rfl | rfl | rfl | rfl | rfl <;> rfl) (Nat.le_of_ble_eq_true rfl) (Nat.le_of_ble_eq_true rfl) dX3_init_28 (fun H hB => ?_)
  refine g_dup C dX3_init_31 rfl ?_
  refine kk_callN (n := 20) C hl.1 hO hB rfl im_X4_init co_X4_init in_X4 (by decide +kernel) rfl mn_X3_17 (kc_X4 l hI) rfl rfl rfl ⟨Nat.le_of_ble_eq_true rfl, Nat.le_of_ble_eq_true rfl⟩ ⟨Nat.le_of_ble_eq_true rfl, Nat.le_of_ble_eq_true rfl⟩ (Nat.le_of_ble_eq_true rfl) dX3_init_32 (fun H locs hB => ?_)
  refine kk_astq (i := 1) (j := 20) C hB rfl rfl (by decide) (by decide) rfl rfl dX3_init_35 (fun H locs hB => ?_)
  have hB : kSt X (kFr a (a + 1)) s a ((.inr (3, [.ref (a + 1), .int (nI 0)]) : va_E) :: .inl (gCl X 2, 4, .inr (.inr (.inr (.inr (va_up (va_up (fun _ => none) 0 (some (a + 2))) 1 (some (a + 20))))))) :: (kMc X (a + 2) ++ kMc X (a + 20))) H locs _ := hB
  refine g_iinc (k := 1) C hl dX3_init_36 rfl (by decide) (fun ls hl => ?_)
  refine g_goto (tgt := 14) C dX3_init_39 (by decide) ?_
  refine g_iload_n C hl dX3_init_14 rfl ?_
  refine g_aload_n C hl dX3_init_15 rfl ?_
  refine kk_get (i := 0) 0 C hB rfl rfl ilX3 (by decide) fl_X3_11 rfl rfl rfl dX3_init_16 ?_
  refine kk_alenq (i := 1) C hB rfl rfl dX3_init_19 ?_
  refine g_icmp_ge (tgt := 42) C dX3_init_20 (by decide) (by decide) (by decide) (fun z9 => absurd z9 (by decide)) (fun _ => ?_)
  refine g_aload_n C hl dX3_init_23 rfl ?_
  refine kk_get (i := 0) 0 C hB rfl rfl ilX3 (by decide) fl_X3_11 rfl rfl rfl dX3_init_24 ?_
  refine g_iload_n C hl dX3_init_27 rfl ?_
  refine kk_new (ci := 4) (n := 38) (fs := [.null, .null, .null, .int (nI 0), .int (nI 0), .int (nI 0), .int (nI 0), .int (nI 0)]) tyX4 C hB rfl tyX4_ok ilX4 cl_X3_9 ib_X4 in_X4 rfl (fun j hj => by rcases (show j = 0 ∨ j = 1 ∨ j = 2 ∨ j = 3 ∨ j = 4 ∨ j = 5 ∨ j = 6 ∨ j = 7 by omega) with rfl | rfl | rfl | rfl | rfl | rfl | rfl | rfl <;> rfl) (Nat.le_of_ble_eq_true rfl) (Nat.le_of_ble_eq_true rfl) dX3_init_28 (fun H hB => ?_)
  refine g_dup C dX3_init_31 rfl ?_
  refine kk_callN (n := 38) C hl.1 hO hB rfl im_X4_init co_X4_init in_X4 (by decide +kernel) rfl mn_X3_17 (kc_X4 l hI) rfl rfl rfl ⟨Nat.le_of_ble_eq_true rfl, Nat.le_of_ble_eq_true rfl⟩ ⟨Nat.le_of_ble_eq_true rfl, Nat.le_of_ble_eq_true rfl⟩ (Nat.le_of_ble_eq_true rfl) dX3_init_32 (fun H locs hB => ?_)
  refine kk_astq (i := 1) (j := 38) C hB rfl rfl (by decide) (by decide) rfl rfl dX3_init_35 (fun H locs hB => ?_)
  have hB : kSt X (kFr a (a + 1)) s a ((.inr (3, [.ref (a + 1), .int (nI 0)]) : va_E) :: .inl (gCl X 2, 4, .inr (.inr (.inr (.inr (va_up (va_up (va_up (fun _ => none) 0 (some (a + 2))) 1 (some (a + 20))) 2 (some (a + 38))))))) :: ((kMc X (a + 2) ++ kMc X (a + 20)) ++ kMc X (a + 38))) H locs _ := hB
  refine g_iinc (k := 1) C hl dX3_init_36 rfl (by decide) (fun ls hl => ?_)
  refine g_goto (tgt := 14) C dX3_init_39 (by decide) ?_
  refine g_iload_n C hl dX3_init_14 rfl ?_
  refine g_aload_n C hl dX3_init_15 rfl ?_
  refine kk_get (i := 0) 0 C hB rfl rfl ilX3 (by decide) fl_X3_11 rfl rfl rfl dX3_init_16 ?_
  refine kk_alenq (i := 1) C hB rfl rfl dX3_init_19 ?_
  refine g_icmp_ge (tgt := 42) C dX3_init_20 (by decide) (by decide) (by decide) (fun z9 => absurd z9 (by decide)) (fun _ => ?_)
  refine g_aload_n C hl dX3_init_23 rfl ?_
  refine kk_get (i := 0) 0 C hB rfl rfl ilX3 (by decide) fl_X3_11 rfl rfl rfl dX3_init_24 ?_
  refine g_iload_n C hl dX3_init_27 rfl ?_
  refine kk_new (ci := 4) (n := 56) (fs := [.null, .null, .null, .int (nI 0), .int (nI 0), .int (nI 0), .int (nI 0), .int (nI 0)]) tyX4 C hB rfl tyX4_ok ilX4 cl_X3_9 ib_X4 in_X4 rfl (fun j hj => by rcases (show j = 0 ∨ j = 1 ∨ j = 2 ∨ j = 3 ∨ j = 4 ∨ j = 5 ∨ j = 6 ∨ j = 7 by omega) with rfl | rfl | rfl | rfl | rfl | rfl | rfl | rfl <;> rfl) (Nat.le_of_ble_eq_true rfl) (Nat.le_of_ble_eq_true rfl) dX3_init_28 (fun H hB => ?_)
  refine g_dup C dX3_init_31 rfl ?_
  refine kk_callN (n := 56) C hl.1 hO hB rfl im_X4_init co_X4_init in_X4 (by decide +kernel) rfl mn_X3_17 (kc_X4 l hI) rfl rfl rfl ⟨Nat.le_of_ble_eq_true rfl, Nat.le_of_ble_eq_true rfl⟩ ⟨Nat.le_of_ble_eq_true rfl, Nat.le_of_ble_eq_true rfl⟩ (Nat.le_of_ble_eq_true rfl) dX3_init_32 (fun H locs hB => ?_)
  refine kk_astq (i := 1) (j := 56) C hB rfl rfl (by decide) (by decide) rfl rfl dX3_init_35 (fun H locs hB => ?_)
  have hB : kSt X (kFr a (a + 1)) s a ((.inr (3, [.ref (a + 1), .int (nI 0)]) : va_E) :: .inl (gCl X 2, 4, .inr (.inr (.inr (.inr (va_up (va_up (va_up (va_up (fun _ => none) 0 (some (a + 2))) 1 (some (a + 20))) 2 (some (a + 38))) 3 (some (a + 56))))))) :: (((kMc X (a + 2) ++ kMc X (a + 20)) ++ kMc X (a + 38)) ++ kMc X (a + 56))) H locs _ := hB
  refine g_iinc (k := 1) C hl dX3_init_36 rfl (by decide) (fun ls hl => ?_)
  refine g_goto (tgt := 14) C dX3_init_39 (by decide) ?_
  refine g_iload_n C hl dX3_init_14 rfl ?_
  refine g_aload_n C hl dX3_init_15 rfl ?_
  refine kk_get (i := 0) 0 C hB rfl rfl ilX3 (by decide) fl_X3_11 rfl rfl rfl dX3_init_16 ?_
  refine kk_alenq (i := 1) C hB rfl rfl dX3_init_19 ?_
  refine g_icmp_ge (tgt := 42) C dX3_init_20 (by decide) (by decide) (by decide) (fun _ => ?_) (fun z9 => absurd z9 (by decide))
  exact kk_ret C hz hB dX3_init_42
set_option maxRecDepth 100000 in
set_option maxHeartbeats 4000000 in
theorem kc_X8 (l : Launch) {X : gX} (hI : gInj X) {a : Nat} : kC l yX8_init cX8_init 1 5 107 133 1593 X [] a (.inr (8, [.null, .null, .null, .null, .null, .null, .int (nI 0)])) (kFb X (a)) := by
  refine kC.of (own := RX8) (by decide) rfl hI (by simp [Value.category]) (Nat.le_of_ble_eq_true rfl) ?_
  intro p e s m args below meth c ls C hnm hl hO hz hB
  refine g_aload_n C hl dX8_init_0 rfl ?_
  refine k_obj C hl.1 ml_X8_1 (Nat.le_of_ble_eq_true rfl) (Nat.le_of_ble_eq_true rfl) dX8_init_1 ?_
  refine g_aload_n C hl dX8_init_4 rfl ?_
  refine kk_new (ci := 4) (n := 1) (fs := [.null, .null, .null, .int (nI 0), .int (nI 0), .int (nI 0), .int (nI 0), .int (nI 0)]) tyX4 C hB rfl tyX4_ok ilX4 cl_X8_7 ib_X4 in_X4 rfl (fun j hj => by rcases (show j = 0 ∨ j = 1 ∨ j = 2 ∨ j = 3 ∨ j = 4 ∨ j = 5 ∨ j = 6 ∨ j = 7 by omega) with rfl | rfl | rfl | rfl | rfl | rfl | rfl | rfl <;> rfl) (Nat.le_of_ble_eq_true rfl) (Nat.le_of_ble_eq_true rfl) dX8_init_5 (fun H hB => ?_)
  refine g_dup C dX8_init_8 rfl ?_
  refine kk_callN (n := 1) C hl.1 hO hB rfl im_X4_init co_X4_init in_X4 (by decide +kernel) rfl mn_X8_9 (kc_X4 l hI) rfl rfl rfl ⟨Nat.le_of_ble_eq_true rfl, Nat.le_of_ble_eq_true rfl⟩ ⟨Nat.le_of_ble_eq_true rfl, Nat.le_of_ble_eq_true rfl⟩ (Nat.le_of_ble_eq_true rfl) dX8_init_9 (fun H locs hB => ?_)
  refine kk_put (i := 0) (ty := .object "FarBanks$Machine") 0 C hnm hB rfl rfl ilX8 tyX8_ok nmX8 (by decide) fl_X8_10 rfl rfl rfl (by decide +kernel) rfl rfl (Nat.le_of_ble_eq_true rfl) rfl dX8_init_12 (fun H locs hB => ?_)
  have hB : kSt X (kFr a (a + 1)) s a ((.inr (8, [.ref (a + 1), .null, .null, .null, .null, .null, .int (nI 0)]) : va_E) :: (kMc X (a + 1))) H locs _ := hB
  refine g_aload_n C hl dX8_init_15 rfl ?_
  refine kk_new (ci := 4) (n := 19) (fs := [.null, .null, .null, .int (nI 0), .int (nI 0), .int (nI 0), .int (nI 0), .int (nI 0)]) tyX4 C hB rfl tyX4_ok ilX4 cl_X8_7 ib_X4 in_X4 rfl (fun j hj => by rcases (show j = 0 ∨ j = 1 ∨ j = 2 ∨ j = 3 ∨ j = 4 ∨ j = 5 ∨ j = 6 ∨ j = 7 by omega) with rfl | rfl | rfl | rfl | rfl | rfl | rfl | rfl <;> rfl) (Nat.le_of_ble_eq_true rfl) (Nat.le_of_ble_eq_true rfl) dX8_init_16 (fun H hB => ?_)
  refine g_dup C dX8_init_19 rfl ?_
  refine kk_callN (n := 19) C hl.1 hO hB rfl im_X4_init co_X4_init in_X4 (by decide +kernel) rfl mn_X8_9 (kc_X4 l hI) rfl rfl rfl ⟨Nat.le_of_ble_eq_true rfl, Nat.le_of_ble_eq_true rfl⟩ ⟨Nat.le_of_ble_eq_true rfl, Nat.le_of_ble_eq_true rfl⟩ (Nat.le_of_ble_eq_true rfl) dX8_init_20 (fun H locs hB => ?_)
  refine kk_put (i := 0) (ty := .object "FarBanks$Machine") 1 C hnm hB rfl rfl ilX8 tyX8_ok nmX8 (by decide) fl_X8_16 rfl rfl rfl (by decide +kernel) rfl rfl (Nat.le_of_ble_eq_true rfl) rfl dX8_init_23 (fun H locs hB => ?_)
  have hB : kSt X (kFr a (a + 1)) s a ((.inr (8, [.ref (a + 1), .ref (a + 19), .null, .null, .null, .null, .int (nI 0)]) : va_E) :: (kMc X (a + 1) ++ kMc X (a + 19))) H locs _ := hB
  refine g_aload_n C hl dX8_init_26 rfl ?_
  refine kk_new (ci := 4) (n := 37) (fs := [.null, .null, .null, .int (nI 0), .int (nI 0), .int (nI 0), .int (nI 0), .int (nI 0)]) tyX4 C hB rfl tyX4_ok ilX4 cl_X8_7 ib_X4 in_X4 rfl (fun j hj => by rcases (show j = 0 ∨ j = 1 ∨ j = 2 ∨ j = 3 ∨ j = 4 ∨ j = 5 ∨ j = 6 ∨ j = 7 by omega) with rfl | rfl | rfl | rfl | rfl | rfl | rfl | rfl <;> rfl) (Nat.le_of_ble_eq_true rfl) (Nat.le_of_ble_eq_true rfl) dX8_init_27 (fun H hB => ?_)
  refine g_dup C dX8_init_30 rfl ?_
  refine kk_callN (n := 37) C hl.1 hO hB rfl im_X4_init co_X4_init in_X4 (by decide +kernel) rfl mn_X8_9 (kc_X4 l hI) rfl rfl rfl ⟨Nat.le_of_ble_eq_true rfl, Nat.le_of_ble_eq_true rfl⟩ ⟨Nat.le_of_ble_eq_true rfl, Nat.le_of_ble_eq_true rfl⟩ (Nat.le_of_ble_eq_true rfl) dX8_init_31 (fun H locs hB => ?_)
  refine kk_put (i := 0) (ty := .object "FarBanks$Machine") 2 C hnm hB rfl rfl ilX8 tyX8_ok nmX8 (by decide) fl_X8_19 rfl rfl rfl (by decide +kernel) rfl rfl (Nat.le_of_ble_eq_true rfl) rfl dX8_init_34 (fun H locs hB => ?_)
  have hB : kSt X (kFr a (a + 1)) s a ((.inr (8, [.ref (a + 1), .ref (a + 19), .ref (a + 37), .null, .null, .null, .int (nI 0)]) : va_E) :: ((kMc X (a + 1) ++ kMc X (a + 19)) ++ kMc X (a + 37))) H locs _ := hB
  refine g_aload_n C hl dX8_init_37 rfl ?_
  refine kk_new (ci := 3) (n := 55) (fs := [.null, .int (nI 0)]) tyX3 C hB rfl tyX3_ok ilX3 cl_X8_22 ib_X3 in_X3 rfl (fun j hj => by rcases (show j = 0 ∨ j = 1 by omega) with rfl | rfl <;> rfl) (Nat.le_of_ble_eq_true rfl) (Nat.le_of_ble_eq_true rfl) dX8_init_38 (fun H hB => ?_)
  refine g_dup C dX8_init_41 rfl ?_
  refine kk_call (n := 55) C hl.1 hO hB rfl im_X3_init co_X3_init in_X3 (by decide +kernel) rfl ml_X8_24 (kc_X3 l hI) rfl rfl rfl ⟨Nat.le_of_ble_eq_true rfl, Nat.le_of_ble_eq_true rfl⟩ ⟨Nat.le_of_ble_eq_true rfl, Nat.le_of_ble_eq_true rfl⟩ (Nat.le_of_ble_eq_true rfl) dX8_init_42 (fun H locs hB => ?_)
  refine kk_put (i := 0) (ty := .object "FarBanks$History") 3 C hnm hB rfl rfl ilX8 tyX8_ok nmX8 (by decide) fl_X8_25 rfl rfl rfl (by decide +kernel) rfl rfl (Nat.le_of_ble_eq_true rfl) rfl dX8_init_45 (fun H locs hB => ?_)
  have hB : kSt X (kFr a (a + 1)) s a ((.inr (8, [.ref (a + 1), .ref (a + 19), .ref (a + 37), .ref (a + 55), .null, .null, .int (nI 0)]) : va_E) :: (((kMc X (a + 1) ++ kMc X (a + 19)) ++ kMc X (a + 37)) ++ kHc X (a + 55))) H locs _ := hB
  refine g_aload_n C hl dX8_init_48 rfl ?_
  refine kk_new (ci := 6) (n := 129) (fs := [.null, .int (nI 0)]) tyX6 C hB rfl tyX6_ok ilX6 cl_X8_29 ib_X6 in_X6 rfl (fun j hj => by rcases (show j = 0 ∨ j = 1 by omega) with rfl | rfl <;> rfl) (Nat.le_of_ble_eq_true rfl) (Nat.le_of_ble_eq_true rfl) dX8_init_49 (fun H hB => ?_)
  refine g_dup C dX8_init_52 rfl ?_
  refine kk_callN (n := 129) C hl.1 hO hB rfl im_X6_init co_X6_init in_X6 (by decide +kernel) rfl mn_X8_31 (kc_X6 l hI) rfl rfl rfl ⟨Nat.le_of_ble_eq_true rfl, Nat.le_of_ble_eq_true rfl⟩ ⟨Nat.le_of_ble_eq_true rfl, Nat.le_of_ble_eq_true rfl⟩ (Nat.le_of_ble_eq_true rfl) dX8_init_53 (fun H locs hB => ?_)
  refine kk_put (i := 0) (ty := .object "FarBanks$Text") 4 C hnm hB rfl rfl ilX8 tyX8_ok nmX8 (by decide) fl_X8_32 rfl rfl rfl (by decide +kernel) rfl rfl (Nat.le_of_ble_eq_true rfl) rfl dX8_init_56 (fun H locs hB => ?_)
  have hB : kSt X (kFr a (a + 1)) s a ((.inr (8, [.ref (a + 1), .ref (a + 19), .ref (a + 37), .ref (a + 55), .ref (a + 129), .null, .int (nI 0)]) : va_E) :: ((((kMc X (a + 1) ++ kMc X (a + 19)) ++ kMc X (a + 37)) ++ kHc X (a + 55)) ++ kTc X (a + 129))) H locs _ := hB
  refine g_aload_n C hl dX8_init_59 rfl ?_
  refine kk_new (ci := 1) (n := 131) (fs := [.null, .int (nI 0), .int (nI 0), .int (nI 0)]) tyX1 C hB rfl tyX1_ok ilX1 cl_X8_36 ib_X1 in_X1 rfl (fun j hj => by rcases (show j = 0 ∨ j = 1 ∨ j = 2 ∨ j = 3 by omega) with rfl | rfl | rfl | rfl <;> rfl) (Nat.le_of_ble_eq_true rfl) (Nat.le_of_ble_eq_true rfl) dX8_init_60 (fun H hB => ?_)
  refine g_dup C dX8_init_63 rfl ?_
  refine kk_callN (n := 131) C hl.1 hO hB rfl im_X1_init co_X1_init in_X1 (by decide +kernel) rfl mn_X8_38 (kc_X1 l hI) rfl rfl rfl ⟨Nat.le_of_ble_eq_true rfl, Nat.le_of_ble_eq_true rfl⟩ ⟨Nat.le_of_ble_eq_true rfl, Nat.le_of_ble_eq_true rfl⟩ (Nat.le_of_ble_eq_true rfl) dX8_init_64 (fun H locs hB => ?_)
  refine kk_put (i := 0) (ty := .object "FarBanks$Code") 5 C hnm hB rfl rfl ilX8 tyX8_ok nmX8 (by decide) fl_X8_39 rfl rfl rfl (by decide +kernel) rfl rfl (Nat.le_of_ble_eq_true rfl) rfl dX8_init_67 (fun H locs hB => ?_)
  have hB : kSt X (kFr a (a + 1)) s a ((.inr (8, [.ref (a + 1), .ref (a + 19), .ref (a + 37), .ref (a + 55), .ref (a + 129), .ref (a + 131), .int (nI 0)]) : va_E) :: (((((kMc X (a + 1) ++ kMc X (a + 19)) ++ kMc X (a + 37)) ++ kHc X (a + 55)) ++ kTc X (a + 129)) ++ kCd X (a + 131))) H locs _ := hB
  exact kk_ret C hz hB dX8_init_70
