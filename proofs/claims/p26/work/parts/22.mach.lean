/-! ===== a Machine of the class beside the reference's row ===== -/
def mO (j : Nat) : Nat := if j < 100 then 3 else if j < 104 then 7 else if j < 112 then 5 else if j < 116 then 0 else if j < 117 then 12 else if j < 141 then 14 else if j < 179 then 15 else if j < 180 then 0 else if j < 190 then 9 else 11
def mI (j : Nat) : Nat := if j < 100 then j else if j < 104 then j - 100 else if j < 112 then j - 104 else if j < 113 then 6 else if j < 114 then 3 else if j < 115 then 4 else if j < 116 then 5 else if j < 117 then 1 else if j < 141 then j - 117 else if j < 179 then 1 else if j < 180 then 7 else if j < 190 then j - 182 else j - 190
def mK (j : Nat) : Bool := Nat.ble j 140 || j == 178 || j == 179 || (Nat.ble 182 j && Nat.ble j 197)
theorem mK_cases {j : Nat} (h : mK j = true) : j ≤ 140 ∨ j = 178 ∨ j = 179 ∨ (182 ≤ j ∧ j ≤ 197) := by
  unfold mK at h
  simp only [Bool.or_eq_true, Bool.and_eq_true, Nat.ble_eq, beq_iff_eq] at h
  omega
theorem mK_of {j : Nat} (h : j ≤ 140 ∨ j = 178 ∨ j = 179 ∨ (182 ≤ j ∧ j ≤ 197)) : mK j = true := by
  unfold mK
  simp only [Bool.or_eq_true, Bool.and_eq_true, Nat.ble_eq, beq_iff_eq]
  omega
theorem mOI0 : ∀ i, i < 198 → ∀ j, j < 198 → (mK i && mK j && mO i == mO j && mI i == mI j) = true → i = j := by decide +kernel
theorem mOI {i j : Nat} (hi : mK i = true) (hj : mK j = true) (h1 : mO i = mO j) (h2 : mI i = mI j) : i = j := mOI0 i (by have := mK_cases hi; omega) j (by have := mK_cases hj; omega) (by simp [hi, hj, h1, h2])
theorem mO_17a : ∀ i, i < 198 → ¬ 17 = mO i := by decide +kernel
theorem mO_17 {i : Nat} (hi : mK i = true) : ¬ 17 = mO i := mO_17a i (by have := mK_cases hi; omega)
def mR (g : Nat → Nat → Nat) (z : Nat → Nat) : Prop := (∀ j, mK j = true → g (mO j) (mI j) = z j) ∧ z 141 = min (z 178) 12 ∧ ∀ r q, r < z 141 → q < 3 → g 17 ((z 178 - 1 - r) % 12 * 3 + q) = z (142 + 3 * r + q)
theorem mR_set {g : Nat → Nat → Nat} {z : Nat → Nat} {j x : Nat} (h : mR g z) (hj : mK j = true) (h8 : ¬ j = 178) : mR (fU g (mO j) (fU (g (mO j)) (mI j) x)) (fU z j x) := by
  have hc := mK_cases hj
  obtain ⟨h1, h2, h3⟩ := h
  refine ⟨fun i hi => ?_, ?_, fun r q hr hq => ?_⟩
  · by_cases e : i = j
    · subst e
      rw [fU_s, fU_s, fU_s]
    · rw [fU_n z _ e]
      by_cases e1 : mO i = mO j
      · rw [e1, fU_s, fU_n _ _ (fun e2 => e (mOI hi hj e1 e2)), ← e1]
        exact h1 i hi
      · rw [fU_n _ _ e1]
        exact h1 i hi
  · rw [fU_n z _ (by omega), fU_n z _ (by omega)]
    exact h2
  · rw [fU_n z _ (by omega)] at hr
    rw [fU_n z _ (by omega), fU_n z _ (by omega), fU_n _ _ (mO_17 hj)]
    exact h3 r q hr hq
theorem mR_congr {g : Nat → Nat → Nat} {z y : Nat → Nat} (h : mR g z) (e : ∀ j, j < 180 ∨ 182 ≤ j → y j = z j) : mR g y := by
  obtain ⟨h1, h2, h3⟩ := h
  refine ⟨fun j hj => ?_, ?_, fun r q hr hq => ?_⟩
  · rw [e j (by have := mK_cases hj; omega)]
    exact h1 j hj
  · rw [e _ (by omega), e _ (by omega)]
    exact h2
  · rw [e _ (by omega)] at hr
    rw [e _ (by omega), e _ (by omega)]
    exact h3 r q hr hq
theorem mR_180 {g : Nat → Nat → Nat} {z : Nat → Nat} {x i : Nat} (h : mR g z) (hi : i = 180 ∨ i = 181) : mR g (fU z i x) := mR_congr h (fun j hj => fU_n z _ (by omega))
theorem fU_c (z : Nat → Nat) {i j : Nat} (x y : Nat) (h : ¬ i = j) : fU (fU z i x) j y = fU (fU z j y) i x := by
  funext q
  unfold fU
  by_cases e : q = j
  · rw [if_pos e, if_neg (by omega), if_pos e]
  · rw [if_neg e]
    by_cases e2 : q = i
    · rw [if_pos e2, if_pos e2]
    · rw [if_neg e2, if_neg e2, if_neg e]
/-- a row of ints of a Machine is a piece of the reference's row -/
def mB (a n b : Nat) : Prop := ∀ i, i < n → mK (b + i) = true ∧ mO (b + i) = a ∧ mI (b + i) = i ∧ ¬ b + i = 178
theorem mB_3 : mB 3 100 0 := by
  have h : ∀ i, i < 100 → mK (0 + i) = true ∧ mO (0 + i) = 3 ∧ mI (0 + i) = i ∧ ¬ 0 + i = 178 := by decide +kernel
  exact h
theorem mB_5 : mB 5 8 104 := by
  have h : ∀ i, i < 8 → mK (104 + i) = true ∧ mO (104 + i) = 5 ∧ mI (104 + i) = i ∧ ¬ 104 + i = 178 := by decide +kernel
  exact h
theorem mB_7 : mB 7 4 100 := by
  have h : ∀ i, i < 4 → mK (100 + i) = true ∧ mO (100 + i) = 7 ∧ mI (100 + i) = i ∧ ¬ 100 + i = 178 := by decide +kernel
  exact h
theorem mB_9 : mB 9 8 182 := by
  have h : ∀ i, i < 8 → mK (182 + i) = true ∧ mO (182 + i) = 9 ∧ mI (182 + i) = i ∧ ¬ 182 + i = 178 := by decide +kernel
  exact h
theorem mB_11 : mB 11 8 190 := by
  have h : ∀ i, i < 8 → mK (190 + i) = true ∧ mO (190 + i) = 11 ∧ mI (190 + i) = i ∧ ¬ 190 + i = 178 := by decide +kernel
  exact h
theorem mB_14 : mB 14 24 117 := by
  have h : ∀ i, i < 24 → mK (117 + i) = true ∧ mO (117 + i) = 14 ∧ mI (117 + i) = i ∧ ¬ 117 + i = 178 := by decide +kernel
  exact h
theorem mR_arr {g : Nat → Nat → Nat} {z : Nat → Nat} {a n b i : Nat} (h : mR g z) (hb : mB a n b) (hi : i < n) : g a i = z (b + i) := by
  obtain ⟨h1, h2, h3, -⟩ := hb i hi
  have := h.1 (b + i) h1
  rw [h2, h3] at this
  exact this
theorem mR_put {g : Nat → Nat → Nat} {z : Nat → Nat} {a n b i x : Nat} (h : mR g z) (hb : mB a n b) (hi : i < n) : mR (fU g a (fU (g a) i x)) (fU z (b + i) x) := by
  obtain ⟨h1, h2, h3, h4⟩ := hb i hi
  have := mR_set (x := x) h h1 h4
  rw [h2, h3] at this
  exact this
theorem gP_fU (mem : gM) (k : Nat) (g : Nat → Nat → Nat) (o i x : Nat) : gP (fU mem k g) k o (fU ((fU mem k g) k o) i x) = fU mem k (fU g o (fU (g o) i x)) := by
  unfold gP
  rw [fU_s, fU_u]
/-- the end of what changes one Machine -/
def mP (mem : gM) (k : Nat) (z : Nat → Nat) (r : Option Value) : Option Value → gM → Prop := fun v m => v = r ∧ ∃ g, m = fU mem k g ∧ mR g z
section GM
variable {p : Program} {l : Launch} {e : Env} {R : Room} {s : State} {m : MethodId} {args : Array Value} {below : List Frame} {meth : Method} {c : Code} {H : Heap} {locs : List Loc} {cells slots : Nat} {Q : State → Prop}
variable {cc : ByteArray} {pc : Nat} {ls : Array Slot} {rest : List Value} {X : gX} {own : String} {ret : Option FieldType} {nL : Nat} {mem : gM} {g : Nat → Nat → Nat} {z : Nat → Nat}

theorem zgt_X4_3 {k index : Nat} (C : gC X own cc ret nL p s m args meth c) (hk : k < 7) (hM : mR g z) (hR : gRep X (fU mem k g) H) (hlink : Cond.fieldLink own index "FarBanks$Machine" "number" "I" ∈ wA) (hdg : decode cc pc = .ok (.getfield index, 3)) (kk : W p l e R s m args below meth c H locs cells slots Q (F0 m (pc + 3) ls (.int (nI (z 113)) :: rest))) : W p l e R s m args below meth c H locs cells slots Q (F0 m pc ls (.ref (gAd X k 0) :: rest)) := gt_X4_3 C hk hR hlink hdg (by rw [fU_s, show g 0 3 = z 113 from hM.1 113 rfl]; exact kk)
theorem zpt_X4_3 {k index x : Nat} (C : gC X own cc ret nL p s m args meth c) (hk : k < 7) (hM : mR g z) (hR : gRep X (fU mem k g) H) (hS : va_S (gA X) s.heap H locs) (hlink : Cond.fieldLink own index "FarBanks$Machine" "number" "I" ∈ wA) (hdg : decode cc pc = .ok (.putfield index, 3)) (kk : ∀ (g1 : Nat → Nat → Nat), mR g1 (fU z 113 x) → ∀ (H1 : Heap) (locs1 : List Loc), gRep X (fU mem k g1) H1 → va_S (gA X) s.heap H1 locs1 → W p l e R s m args below meth c H1 locs1 cells slots Q (F0 m (pc + 3) ls rest)) : W p l e R s m args below meth c H locs cells slots Q (F0 m pc ls (.int (nI x) :: .ref (gAd X k 0) :: rest)) := pt_X4_3 C hk hR hS hlink hdg (fun H1 locs1 hR1 hS1 => kk _ (show mR (fU g 0 (fU (g 0) 3 x)) (fU z 113 x) from mR_set (j := 113) hM rfl (by decide)) H1 locs1 (by rw [gP_fU] at hR1; exact hR1) hS1)
theorem zgn_X4_3 {k index : Nat} {host : String} (C : gC X own cc ret nL p s m args meth c) (hk : k < 7) (hM : mR g z) (hR : gRep X (fU mem k g) H) (hlink : (own, index, "FarBanks$Machine", "number", "I", host) ∈ gNf) (hdg : decode cc pc = .ok (.getfield index, 3)) (kk : W p l e R s m args below meth c H locs cells slots Q (F0 m (pc + 3) ls (.int (nI (z 113)) :: rest))) : W p l e R s m args below meth c H locs cells slots Q (F0 m pc ls (.ref (gAd X k 0) :: rest)) := gn_X4_3 C hk hR hlink hdg (by rw [fU_s, show g 0 3 = z 113 from hM.1 113 rfl]; exact kk)
theorem zpn_X4_3 {k index x : Nat} {host : String} (C : gC X own cc ret nL p s m args meth c) (hk : k < 7) (hM : mR g z) (hR : gRep X (fU mem k g) H) (hS : va_S (gA X) s.heap H locs) (hlink : (own, index, "FarBanks$Machine", "number", "I", host) ∈ gNf) (hdg : decode cc pc = .ok (.putfield index, 3)) (kk : ∀ (g1 : Nat → Nat → Nat), mR g1 (fU z 113 x) → ∀ (H1 : Heap) (locs1 : List Loc), gRep X (fU mem k g1) H1 → va_S (gA X) s.heap H1 locs1 → W p l e R s m args below meth c H1 locs1 cells slots Q (F0 m (pc + 3) ls rest)) : W p l e R s m args below meth c H locs cells slots Q (F0 m pc ls (.int (nI x) :: .ref (gAd X k 0) :: rest)) := pn_X4_3 C hk hR hS hlink hdg (fun H1 locs1 hR1 hS1 => kk _ (show mR (fU g 0 (fU (g 0) 3 x)) (fU z 113 x) from mR_set (j := 113) hM rfl (by decide)) H1 locs1 (by rw [gP_fU] at hR1; exact hR1) hS1)
theorem zgt_X4_4 {k index : Nat} (C : gC X own cc ret nL p s m args meth c) (hk : k < 7) (hM : mR g z) (hR : gRep X (fU mem k g) H) (hlink : Cond.fieldLink own index "FarBanks$Machine" "place" "I" ∈ wA) (hdg : decode cc pc = .ok (.getfield index, 3)) (kk : W p l e R s m args below meth c H locs cells slots Q (F0 m (pc + 3) ls (.int (nI (z 114)) :: rest))) : W p l e R s m args below meth c H locs cells slots Q (F0 m pc ls (.ref (gAd X k 0) :: rest)) := gt_X4_4 C hk hR hlink hdg (by rw [fU_s, show g 0 4 = z 114 from hM.1 114 rfl]; exact kk)
theorem zpt_X4_4 {k index x : Nat} (C : gC X own cc ret nL p s m args meth c) (hk : k < 7) (hM : mR g z) (hR : gRep X (fU mem k g) H) (hS : va_S (gA X) s.heap H locs) (hlink : Cond.fieldLink own index "FarBanks$Machine" "place" "I" ∈ wA) (hdg : decode cc pc = .ok (.putfield index, 3)) (kk : ∀ (g1 : Nat → Nat → Nat), mR g1 (fU z 114 x) → ∀ (H1 : Heap) (locs1 : List Loc), gRep X (fU mem k g1) H1 → va_S (gA X) s.heap H1 locs1 → W p l e R s m args below meth c H1 locs1 cells slots Q (F0 m (pc + 3) ls rest)) : W p l e R s m args below meth c H locs cells slots Q (F0 m pc ls (.int (nI x) :: .ref (gAd X k 0) :: rest)) := pt_X4_4 C hk hR hS hlink hdg (fun H1 locs1 hR1 hS1 => kk _ (show mR (fU g 0 (fU (g 0) 4 x)) (fU z 114 x) from mR_set (j := 114) hM rfl (by decide)) H1 locs1 (by rw [gP_fU] at hR1; exact hR1) hS1)
theorem zgn_X4_4 {k index : Nat} {host : String} (C : gC X own cc ret nL p s m args meth c) (hk : k < 7) (hM : mR g z) (hR : gRep X (fU mem k g) H) (hlink : (own, index, "FarBanks$Machine", "place", "I", host) ∈ gNf) (hdg : decode cc pc = .ok (.getfield index, 3)) (kk : W p l e R s m args below meth c H locs cells slots Q (F0 m (pc + 3) ls (.int (nI (z 114)) :: rest))) : W p l e R s m args below meth c H locs cells slots Q (F0 m pc ls (.ref (gAd X k 0) :: rest)) := gn_X4_4 C hk hR hlink hdg (by rw [fU_s, show g 0 4 = z 114 from hM.1 114 rfl]; exact kk)
theorem zpn_X4_4 {k index x : Nat} {host : String} (C : gC X own cc ret nL p s m args meth c) (hk : k < 7) (hM : mR g z) (hR : gRep X (fU mem k g) H) (hS : va_S (gA X) s.heap H locs) (hlink : (own, index, "FarBanks$Machine", "place", "I", host) ∈ gNf) (hdg : decode cc pc = .ok (.putfield index, 3)) (kk : ∀ (g1 : Nat → Nat → Nat), mR g1 (fU z 114 x) → ∀ (H1 : Heap) (locs1 : List Loc), gRep X (fU mem k g1) H1 → va_S (gA X) s.heap H1 locs1 → W p l e R s m args below meth c H1 locs1 cells slots Q (F0 m (pc + 3) ls rest)) : W p l e R s m args below meth c H locs cells slots Q (F0 m pc ls (.int (nI x) :: .ref (gAd X k 0) :: rest)) := pn_X4_4 C hk hR hS hlink hdg (fun H1 locs1 hR1 hS1 => kk _ (show mR (fU g 0 (fU (g 0) 4 x)) (fU z 114 x) from mR_set (j := 114) hM rfl (by decide)) H1 locs1 (by rw [gP_fU] at hR1; exact hR1) hS1)
theorem zgt_X4_5 {k index : Nat} (C : gC X own cc ret nL p s m args meth c) (hk : k < 7) (hM : mR g z) (hR : gRep X (fU mem k g) H) (hlink : Cond.fieldLink own index "FarBanks$Machine" "reason" "I" ∈ wA) (hdg : decode cc pc = .ok (.getfield index, 3)) (kk : W p l e R s m args below meth c H locs cells slots Q (F0 m (pc + 3) ls (.int (nI (z 115)) :: rest))) : W p l e R s m args below meth c H locs cells slots Q (F0 m pc ls (.ref (gAd X k 0) :: rest)) := gt_X4_5 C hk hR hlink hdg (by rw [fU_s, show g 0 5 = z 115 from hM.1 115 rfl]; exact kk)
theorem zpt_X4_5 {k index x : Nat} (C : gC X own cc ret nL p s m args meth c) (hk : k < 7) (hM : mR g z) (hR : gRep X (fU mem k g) H) (hS : va_S (gA X) s.heap H locs) (hlink : Cond.fieldLink own index "FarBanks$Machine" "reason" "I" ∈ wA) (hdg : decode cc pc = .ok (.putfield index, 3)) (kk : ∀ (g1 : Nat → Nat → Nat), mR g1 (fU z 115 x) → ∀ (H1 : Heap) (locs1 : List Loc), gRep X (fU mem k g1) H1 → va_S (gA X) s.heap H1 locs1 → W p l e R s m args below meth c H1 locs1 cells slots Q (F0 m (pc + 3) ls rest)) : W p l e R s m args below meth c H locs cells slots Q (F0 m pc ls (.int (nI x) :: .ref (gAd X k 0) :: rest)) := pt_X4_5 C hk hR hS hlink hdg (fun H1 locs1 hR1 hS1 => kk _ (show mR (fU g 0 (fU (g 0) 5 x)) (fU z 115 x) from mR_set (j := 115) hM rfl (by decide)) H1 locs1 (by rw [gP_fU] at hR1; exact hR1) hS1)
theorem zgn_X4_5 {k index : Nat} {host : String} (C : gC X own cc ret nL p s m args meth c) (hk : k < 7) (hM : mR g z) (hR : gRep X (fU mem k g) H) (hlink : (own, index, "FarBanks$Machine", "reason", "I", host) ∈ gNf) (hdg : decode cc pc = .ok (.getfield index, 3)) (kk : W p l e R s m args below meth c H locs cells slots Q (F0 m (pc + 3) ls (.int (nI (z 115)) :: rest))) : W p l e R s m args below meth c H locs cells slots Q (F0 m pc ls (.ref (gAd X k 0) :: rest)) := gn_X4_5 C hk hR hlink hdg (by rw [fU_s, show g 0 5 = z 115 from hM.1 115 rfl]; exact kk)
theorem zpn_X4_5 {k index x : Nat} {host : String} (C : gC X own cc ret nL p s m args meth c) (hk : k < 7) (hM : mR g z) (hR : gRep X (fU mem k g) H) (hS : va_S (gA X) s.heap H locs) (hlink : (own, index, "FarBanks$Machine", "reason", "I", host) ∈ gNf) (hdg : decode cc pc = .ok (.putfield index, 3)) (kk : ∀ (g1 : Nat → Nat → Nat), mR g1 (fU z 115 x) → ∀ (H1 : Heap) (locs1 : List Loc), gRep X (fU mem k g1) H1 → va_S (gA X) s.heap H1 locs1 → W p l e R s m args below meth c H1 locs1 cells slots Q (F0 m (pc + 3) ls rest)) : W p l e R s m args below meth c H locs cells slots Q (F0 m pc ls (.int (nI x) :: .ref (gAd X k 0) :: rest)) := pn_X4_5 C hk hR hS hlink hdg (fun H1 locs1 hR1 hS1 => kk _ (show mR (fU g 0 (fU (g 0) 5 x)) (fU z 115 x) from mR_set (j := 115) hM rfl (by decide)) H1 locs1 (by rw [gP_fU] at hR1; exact hR1) hS1)
theorem zgt_X4_6 {k index : Nat} (C : gC X own cc ret nL p s m args meth c) (hk : k < 7) (hM : mR g z) (hR : gRep X (fU mem k g) H) (hlink : Cond.fieldLink own index "FarBanks$Machine" "strict" "I" ∈ wA) (hdg : decode cc pc = .ok (.getfield index, 3)) (kk : W p l e R s m args below meth c H locs cells slots Q (F0 m (pc + 3) ls (.int (nI (z 112)) :: rest))) : W p l e R s m args below meth c H locs cells slots Q (F0 m pc ls (.ref (gAd X k 0) :: rest)) := gt_X4_6 C hk hR hlink hdg (by rw [fU_s, show g 0 6 = z 112 from hM.1 112 rfl]; exact kk)
theorem zpt_X4_6 {k index x : Nat} (C : gC X own cc ret nL p s m args meth c) (hk : k < 7) (hM : mR g z) (hR : gRep X (fU mem k g) H) (hS : va_S (gA X) s.heap H locs) (hlink : Cond.fieldLink own index "FarBanks$Machine" "strict" "I" ∈ wA) (hdg : decode cc pc = .ok (.putfield index, 3)) (kk : ∀ (g1 : Nat → Nat → Nat), mR g1 (fU z 112 x) → ∀ (H1 : Heap) (locs1 : List Loc), gRep X (fU mem k g1) H1 → va_S (gA X) s.heap H1 locs1 → W p l e R s m args below meth c H1 locs1 cells slots Q (F0 m (pc + 3) ls rest)) : W p l e R s m args below meth c H locs cells slots Q (F0 m pc ls (.int (nI x) :: .ref (gAd X k 0) :: rest)) := pt_X4_6 C hk hR hS hlink hdg (fun H1 locs1 hR1 hS1 => kk _ (show mR (fU g 0 (fU (g 0) 6 x)) (fU z 112 x) from mR_set (j := 112) hM rfl (by decide)) H1 locs1 (by rw [gP_fU] at hR1; exact hR1) hS1)
theorem zgn_X4_6 {k index : Nat} {host : String} (C : gC X own cc ret nL p s m args meth c) (hk : k < 7) (hM : mR g z) (hR : gRep X (fU mem k g) H) (hlink : (own, index, "FarBanks$Machine", "strict", "I", host) ∈ gNf) (hdg : decode cc pc = .ok (.getfield index, 3)) (kk : W p l e R s m args below meth c H locs cells slots Q (F0 m (pc + 3) ls (.int (nI (z 112)) :: rest))) : W p l e R s m args below meth c H locs cells slots Q (F0 m pc ls (.ref (gAd X k 0) :: rest)) := gn_X4_6 C hk hR hlink hdg (by rw [fU_s, show g 0 6 = z 112 from hM.1 112 rfl]; exact kk)
theorem zpn_X4_6 {k index x : Nat} {host : String} (C : gC X own cc ret nL p s m args meth c) (hk : k < 7) (hM : mR g z) (hR : gRep X (fU mem k g) H) (hS : va_S (gA X) s.heap H locs) (hlink : (own, index, "FarBanks$Machine", "strict", "I", host) ∈ gNf) (hdg : decode cc pc = .ok (.putfield index, 3)) (kk : ∀ (g1 : Nat → Nat → Nat), mR g1 (fU z 112 x) → ∀ (H1 : Heap) (locs1 : List Loc), gRep X (fU mem k g1) H1 → va_S (gA X) s.heap H1 locs1 → W p l e R s m args below meth c H1 locs1 cells slots Q (F0 m (pc + 3) ls rest)) : W p l e R s m args below meth c H locs cells slots Q (F0 m pc ls (.int (nI x) :: .ref (gAd X k 0) :: rest)) := pn_X4_6 C hk hR hS hlink hdg (fun H1 locs1 hR1 hS1 => kk _ (show mR (fU g 0 (fU (g 0) 6 x)) (fU z 112 x) from mR_set (j := 112) hM rfl (by decide)) H1 locs1 (by rw [gP_fU] at hR1; exact hR1) hS1)
theorem zgt_X4_7 {k index : Nat} (C : gC X own cc ret nL p s m args meth c) (hk : k < 7) (hM : mR g z) (hR : gRep X (fU mem k g) H) (hlink : Cond.fieldLink own index "FarBanks$Machine" "calls" "I" ∈ wA) (hdg : decode cc pc = .ok (.getfield index, 3)) (kk : W p l e R s m args below meth c H locs cells slots Q (F0 m (pc + 3) ls (.int (nI (z 179)) :: rest))) : W p l e R s m args below meth c H locs cells slots Q (F0 m pc ls (.ref (gAd X k 0) :: rest)) := gt_X4_7 C hk hR hlink hdg (by rw [fU_s, show g 0 7 = z 179 from hM.1 179 rfl]; exact kk)
theorem zpt_X4_7 {k index x : Nat} (C : gC X own cc ret nL p s m args meth c) (hk : k < 7) (hM : mR g z) (hR : gRep X (fU mem k g) H) (hS : va_S (gA X) s.heap H locs) (hlink : Cond.fieldLink own index "FarBanks$Machine" "calls" "I" ∈ wA) (hdg : decode cc pc = .ok (.putfield index, 3)) (kk : ∀ (g1 : Nat → Nat → Nat), mR g1 (fU z 179 x) → ∀ (H1 : Heap) (locs1 : List Loc), gRep X (fU mem k g1) H1 → va_S (gA X) s.heap H1 locs1 → W p l e R s m args below meth c H1 locs1 cells slots Q (F0 m (pc + 3) ls rest)) : W p l e R s m args below meth c H locs cells slots Q (F0 m pc ls (.int (nI x) :: .ref (gAd X k 0) :: rest)) := pt_X4_7 C hk hR hS hlink hdg (fun H1 locs1 hR1 hS1 => kk _ (show mR (fU g 0 (fU (g 0) 7 x)) (fU z 179 x) from mR_set (j := 179) hM rfl (by decide)) H1 locs1 (by rw [gP_fU] at hR1; exact hR1) hS1)
theorem zgn_X4_7 {k index : Nat} {host : String} (C : gC X own cc ret nL p s m args meth c) (hk : k < 7) (hM : mR g z) (hR : gRep X (fU mem k g) H) (hlink : (own, index, "FarBanks$Machine", "calls", "I", host) ∈ gNf) (hdg : decode cc pc = .ok (.getfield index, 3)) (kk : W p l e R s m args below meth c H locs cells slots Q (F0 m (pc + 3) ls (.int (nI (z 179)) :: rest))) : W p l e R s m args below meth c H locs cells slots Q (F0 m pc ls (.ref (gAd X k 0) :: rest)) := gn_X4_7 C hk hR hlink hdg (by rw [fU_s, show g 0 7 = z 179 from hM.1 179 rfl]; exact kk)
theorem zpn_X4_7 {k index x : Nat} {host : String} (C : gC X own cc ret nL p s m args meth c) (hk : k < 7) (hM : mR g z) (hR : gRep X (fU mem k g) H) (hS : va_S (gA X) s.heap H locs) (hlink : (own, index, "FarBanks$Machine", "calls", "I", host) ∈ gNf) (hdg : decode cc pc = .ok (.putfield index, 3)) (kk : ∀ (g1 : Nat → Nat → Nat), mR g1 (fU z 179 x) → ∀ (H1 : Heap) (locs1 : List Loc), gRep X (fU mem k g1) H1 → va_S (gA X) s.heap H1 locs1 → W p l e R s m args below meth c H1 locs1 cells slots Q (F0 m (pc + 3) ls rest)) : W p l e R s m args below meth c H locs cells slots Q (F0 m pc ls (.int (nI x) :: .ref (gAd X k 0) :: rest)) := pn_X4_7 C hk hR hS hlink hdg (fun H1 locs1 hR1 hS1 => kk _ (show mR (fU g 0 (fU (g 0) 7 x)) (fU z 179 x) from mR_set (j := 179) hM rfl (by decide)) H1 locs1 (by rw [gP_fU] at hR1; exact hR1) hS1)
theorem zgt_X2_1 {k index : Nat} (C : gC X own cc ret nL p s m args meth c) (hk : k < 7) (hM : mR g z) (hR : gRep X (fU mem k g) H) (hlink : Cond.fieldLink own index "FarBanks$Frames" "size" "I" ∈ wA) (hdg : decode cc pc = .ok (.getfield index, 3)) (kk : W p l e R s m args below meth c H locs cells slots Q (F0 m (pc + 3) ls (.int (nI (z 116)) :: rest))) : W p l e R s m args below meth c H locs cells slots Q (F0 m pc ls (.ref (gAd X k 12) :: rest)) := gt_X2_1 C hk hR hlink hdg (by rw [fU_s, show g 12 1 = z 116 from hM.1 116 rfl]; exact kk)
theorem zpt_X2_1 {k index x : Nat} (C : gC X own cc ret nL p s m args meth c) (hk : k < 7) (hM : mR g z) (hR : gRep X (fU mem k g) H) (hS : va_S (gA X) s.heap H locs) (hlink : Cond.fieldLink own index "FarBanks$Frames" "size" "I" ∈ wA) (hdg : decode cc pc = .ok (.putfield index, 3)) (kk : ∀ (g1 : Nat → Nat → Nat), mR g1 (fU z 116 x) → ∀ (H1 : Heap) (locs1 : List Loc), gRep X (fU mem k g1) H1 → va_S (gA X) s.heap H1 locs1 → W p l e R s m args below meth c H1 locs1 cells slots Q (F0 m (pc + 3) ls rest)) : W p l e R s m args below meth c H locs cells slots Q (F0 m pc ls (.int (nI x) :: .ref (gAd X k 12) :: rest)) := pt_X2_1 C hk hR hS hlink hdg (fun H1 locs1 hR1 hS1 => kk _ (show mR (fU g 12 (fU (g 12) 1 x)) (fU z 116 x) from mR_set (j := 116) hM rfl (by decide)) H1 locs1 (by rw [gP_fU] at hR1; exact hR1) hS1)
theorem zgn_X2_1 {k index : Nat} {host : String} (C : gC X own cc ret nL p s m args meth c) (hk : k < 7) (hM : mR g z) (hR : gRep X (fU mem k g) H) (hlink : (own, index, "FarBanks$Frames", "size", "I", host) ∈ gNf) (hdg : decode cc pc = .ok (.getfield index, 3)) (kk : W p l e R s m args below meth c H locs cells slots Q (F0 m (pc + 3) ls (.int (nI (z 116)) :: rest))) : W p l e R s m args below meth c H locs cells slots Q (F0 m pc ls (.ref (gAd X k 12) :: rest)) := gn_X2_1 C hk hR hlink hdg (by rw [fU_s, show g 12 1 = z 116 from hM.1 116 rfl]; exact kk)
theorem zpn_X2_1 {k index x : Nat} {host : String} (C : gC X own cc ret nL p s m args meth c) (hk : k < 7) (hM : mR g z) (hR : gRep X (fU mem k g) H) (hS : va_S (gA X) s.heap H locs) (hlink : (own, index, "FarBanks$Frames", "size", "I", host) ∈ gNf) (hdg : decode cc pc = .ok (.putfield index, 3)) (kk : ∀ (g1 : Nat → Nat → Nat), mR g1 (fU z 116 x) → ∀ (H1 : Heap) (locs1 : List Loc), gRep X (fU mem k g1) H1 → va_S (gA X) s.heap H1 locs1 → W p l e R s m args below meth c H1 locs1 cells slots Q (F0 m (pc + 3) ls rest)) : W p l e R s m args below meth c H locs cells slots Q (F0 m pc ls (.int (nI x) :: .ref (gAd X k 12) :: rest)) := pn_X2_1 C hk hR hS hlink hdg (fun H1 locs1 hR1 hS1 => kk _ (show mR (fU g 12 (fU (g 12) 1 x)) (fU z 116 x) from mR_set (j := 116) hM rfl (by decide)) H1 locs1 (by rw [gP_fU] at hR1; exact hR1) hS1)
theorem zgt_X7_1 {k index : Nat} (C : gC X own cc ret nL p s m args meth c) (hk : k < 7) (hM : mR g z) (hR : gRep X (fU mem k g) H) (hlink : Cond.fieldLink own index "FarBanks$Trail" "total" "I" ∈ wA) (hdg : decode cc pc = .ok (.getfield index, 3)) (kk : W p l e R s m args below meth c H locs cells slots Q (F0 m (pc + 3) ls (.int (nI (z 178)) :: rest))) : W p l e R s m args below meth c H locs cells slots Q (F0 m pc ls (.ref (gAd X k 15) :: rest)) := gt_X7_1 C hk hR hlink hdg (by rw [fU_s, show g 15 1 = z 178 from hM.1 178 rfl]; exact kk)
theorem zgn_X7_1 {k index : Nat} {host : String} (C : gC X own cc ret nL p s m args meth c) (hk : k < 7) (hM : mR g z) (hR : gRep X (fU mem k g) H) (hlink : (own, index, "FarBanks$Trail", "total", "I", host) ∈ gNf) (hdg : decode cc pc = .ok (.getfield index, 3)) (kk : W p l e R s m args below meth c H locs cells slots Q (F0 m (pc + 3) ls (.int (nI (z 178)) :: rest))) : W p l e R s m args below meth c H locs cells slots Q (F0 m pc ls (.ref (gAd X k 15) :: rest)) := gn_X7_1 C hk hR hlink hdg (by rw [fU_s, show g 15 1 = z 178 from hM.1 178 rfl]; exact kk)
theorem g_callKi {k3 k o index fr2 lo2 nL2 n : Nat} {x : Int32} {mem2 : gM} {z2 : Nat → Nat} {y : MethodName} {cc2 : ByteArray} {ret2 : Option FieldType} {As st0 : List Value} (C : gC X own cc ret nL p s m args meth c) (hz : ls.size = nL) (hR : gRep X mem H) (hS : va_S (gA X) s.heap H locs) (hrc : gRc k o y.cls) (md : gMd y cc2 nL2 ret2 n) (hlink : Cond.methodLink own index y ∈ wA) (hM : gMt l y cc2 nL2 ret2 fr2 lo2 X (.ref (gAd X k o) :: As) mem (mP mem2 k3 z2 (some (.int x)))) (hn : As.length = n) (hst : st0 = As.reverse ++ .ref (gAd X k o) :: rest) (hroom : fr2 + 1 ≤ R.frames ∧ 8 + (nL2 + 11) + lo2 ≤ R.locals) (hf : cells ≤ R.cells ∧ slots ≤ R.slots) (hw : (rest.map fun v => v.category).sum ≤ 8) (hdg : decode cc pc = .ok (.invokevirtual index, 3)) (kk : ∀ (g1 : Nat → Nat → Nat), mR g1 z2 → ∀ (H1 : Heap) (locs1 : List Loc), gRep X (fU mem2 k3 g1) H1 → va_S (gA X) s.heap H1 locs1 → W p l e R s m args below meth c H1 locs1 cells slots Q (F0 m (pc + 3) ls (.int x :: rest))) : W p l e R s m args below meth c H locs cells slots Q (F0 m pc ls st0) := g_callV C hz hR hS hrc md hlink hM hn hst hroom hf hw hdg (fun v mem9 H1 locs1 hp hR1 hS1 => by
  obtain ⟨rfl, g1, rfl, h1⟩ := hp
  exact kk g1 h1 H1 locs1 hR1 hS1)
theorem g_callKv {k3 k o index fr2 lo2 nL2 n : Nat} {mem2 : gM} {z2 : Nat → Nat} {y : MethodName} {cc2 : ByteArray} {ret2 : Option FieldType} {As st0 : List Value} (C : gC X own cc ret nL p s m args meth c) (hz : ls.size = nL) (hR : gRep X mem H) (hS : va_S (gA X) s.heap H locs) (hrc : gRc k o y.cls) (md : gMd y cc2 nL2 ret2 n) (hlink : Cond.methodLink own index y ∈ wA) (hM : gMt l y cc2 nL2 ret2 fr2 lo2 X (.ref (gAd X k o) :: As) mem (mP mem2 k3 z2 none)) (hn : As.length = n) (hst : st0 = As.reverse ++ .ref (gAd X k o) :: rest) (hroom : fr2 + 1 ≤ R.frames ∧ 8 + (nL2 + 11) + lo2 ≤ R.locals) (hf : cells ≤ R.cells ∧ slots ≤ R.slots) (hw : (rest.map fun v => v.category).sum ≤ 8) (hdg : decode cc pc = .ok (.invokevirtual index, 3)) (kk : ∀ (g1 : Nat → Nat → Nat), mR g1 z2 → ∀ (H1 : Heap) (locs1 : List Loc), gRep X (fU mem2 k3 g1) H1 → va_S (gA X) s.heap H1 locs1 → W p l e R s m args below meth c H1 locs1 cells slots Q (F0 m (pc + 3) ls (rest))) : W p l e R s m args below meth c H locs cells slots Q (F0 m pc ls st0) := g_callV C hz hR hS hrc md hlink hM hn hst hroom hf hw hdg (fun v mem9 H1 locs1 hp hR1 hS1 => by
  obtain ⟨rfl, g1, rfl, h1⟩ := hp
  exact kk g1 h1 H1 locs1 hR1 hS1)
end GM
/-- Row.read at a Machine's row -/
theorem c_zr (l : Launch) {X : gX} (hI : gInj X) {mem : gM} {k o a n b i : Nat} {g : Nat → Nat → Nat} {z : Nat → Nat} (hM : mR g z) (hw : gRow k o a n) (hb : mB a n b) (hi : i < n) : gF l yX5_read cX5_read 2 (some .int) 0 0 X [.ref (gAd X k o), .int (nI i)] (fU mem k g) (some (.int (nI (z (b + i))))) (fU mem k g) := by
  have h := c_X5_read l hI (mem := fU mem k g) hw hi
  rw [fU_s, mR_arr hM hb hi] at h
  exact h
theorem c_zw (l : Launch) {X : gX} (hI : gInj X) {mem : gM} {k o a n b i x : Nat} {g : Nat → Nat → Nat} {z : Nat → Nat} (hM : mR g z) (hw : gRow k o a n) (hb : mB a n b) (hi : i < n) : gMt l yX5_write cX5_write 3 none 0 0 X [.ref (gAd X k o), .int (nI i), .int (nI x)] (fU mem k g) (mP mem k (fU z (b + i) x) none) := by
  refine gMt.mono (c_X5_write l hI (mem := fU mem k g) hw hi) ?_
  rintro v m9 ⟨rfl, rfl⟩
  exact ⟨rfl, _, gP_fU _ _ _ _ _ _, mR_put hM hb hi⟩
