/-! ===== the law's arrays beside the machine's row: which array, which place, whether they hold it ===== -/
def uO (j : Nat) : Nat := if j < 48 then 1 else if j < 96 then 2 else if j < 100 then 1 else if j < 116 then 0 else if j < 141 then 3 else 0
def uX (j : Nat) : Nat := if j < 48 then j else if j < 100 then j - 48 else if j < 116 then j - 100 else if j < 141 then j - 116 else j - 162
def uK (j : Nat) : Bool := Nat.blt j 141 || (Nat.ble 178 j && Nat.blt j 198)
def uJb (j o i : Nat) : Bool := Nat.blt j 198 && (uK j && (Nat.beq (uO j) o && (Nat.beq (uX j) i && (Nat.blt i (gLn o) && Nat.blt o 4))))
theorem uJ_get {j o i : Nat} (h : uJb j o i = true) : j < 198 ∧ uK j = true ∧ uO j = o ∧ uX j = i ∧ i < gLn o ∧ o < 4 := by
  simp only [uJb, Bool.and_eq_true, Nat.blt_eq, Nat.beq_eq] at h
  exact h
theorem uK_lt {j : Nat} (h : uK j = true) : j < 198 := by
  simp only [uK, Bool.or_eq_true, Bool.and_eq_true, Nat.blt_eq, Nat.ble_eq] at h
  omega
theorem uInj : ∀ j, j < 198 → ∀ j', j' < 198 → (uK j && (uK j' && (Nat.beq (uO j) (uO j') && Nat.beq (uX j) (uX j')))) = true → j = j' := by decide +kernel
theorem gLn_lt (o : Nat) : gLn o < 2 ^ 31 := by
  unfold gLn
  split <;> decide
def uR (g : Nat → Nat → Nat) (z : Nat → Nat) : Prop := ∀ j, uK j = true → g (uO j) (uX j) = z j
theorem uR_set {g : Nat → Nat → Nat} {z : Nat → Nat} {j o i : Nat} (x : Nat) (hM : uR g z) (h : uJb j o i = true) : uR (fU g o (fU (g o) i x)) (fU z j x) := by
  obtain ⟨h1, h2, h3, h4, h5, h6⟩ := uJ_get h
  intro j' hk
  by_cases e : j' = j
  · subst e
    rw [fU_s, h3, h4, fU_s, fU_s]
  · rw [fU_n _ _ e]
    by_cases eo : uO j' = o
    · rw [eo, fU_s, fU_n _ _ (show ¬ uX j' = i from fun e2 => e (uInj _ (uK_lt hk) _ h1 (by
        simp only [Bool.and_eq_true, Nat.beq_eq]
        exact ⟨hk, h2, eo.trans h3.symm, e2.trans h4.symm⟩))), ← eo]
      exact hM j' hk
    · rw [fU_n _ _ eo]
      exact hM j' hk
theorem uR_eq {g : Nat → Nat → Nat} {z y : Nat → Nat} (hM : uR g z) (h : ∀ j, uK j = true → z j = y j) : uR g y := fun j hk => (hM j hk).trans (h j hk)
theorem uK_ne {j : Nat} (h : uK j = true) : j < 141 ∨ (178 ≤ j ∧ j < 198) := by
  simp only [uK, Bool.or_eq_true, Bool.and_eq_true, Nat.blt_eq, Nat.ble_eq] at h
  exact h
theorem uJ_w0 : ∀ i, i < 16 → uJb (100 + i) 0 i = true := by decide +kernel
theorem uJ_w {j i : Nat} (e : j = 100 + i) (h : i < 16) : uJb j 0 i = true := by
  rw [e]
  exact uJ_w0 i h
theorem uJ_s0 : ∀ i, i < 36 → Nat.ble 16 i = true → uJb (162 + i) 0 i = true := by decide +kernel
theorem uJ_s {j i : Nat} (e : j = 162 + i) (h0 : 16 ≤ i) (h : i < 36) : uJb j 0 i = true := by
  rw [e]
  exact uJ_s0 i h (Nat.ble_eq.mpr h0)
theorem uJ_c0 : ∀ i, i < 48 → uJb i 1 i = true := by decide +kernel
theorem uJ_c {j i : Nat} (e : j = i) (h : i < 48) : uJb j 1 i = true := by
  rw [e]
  exact uJ_c0 i h
theorem uJ_m0 : ∀ i, i < 52 → Nat.ble 48 i = true → uJb (48 + i) 1 i = true := by decide +kernel
theorem uJ_m {j i : Nat} (e : j = 48 + i) (h0 : 48 ≤ i) (h : i < 52) : uJb j 1 i = true := by
  rw [e]
  exact uJ_m0 i h (Nat.ble_eq.mpr h0)
theorem uJ_d0 : ∀ i, i < 48 → uJb (48 + i) 2 i = true := by decide +kernel
theorem uJ_d {j i : Nat} (e : j = 48 + i) (h : i < 48) : uJb j 2 i = true := by
  rw [e]
  exact uJ_d0 i h
theorem uJ_f0 : ∀ i, i < 25 → uJb (116 + i) 3 i = true := by decide +kernel
theorem uJ_f {j i : Nat} (e : j = 116 + i) (h : i < 25) : uJb j 3 i = true := by
  rw [e]
  exact uJ_f0 i h
/-- only group k is written -/
def uF (k : Nat) (mem m9 : gM) : Prop := ∀ k', ¬ k' = k → m9 k' = mem k'
theorem uF.rf {k : Nat} {mem : gM} : uF k mem mem := fun _ _ => rfl
theorem uF.tr {k : Nat} {a b d : gM} (h1 : uF k a b) (h2 : uF k b d) : uF k a d := fun k' h => (h2 k' h).trans (h1 k' h)
theorem uF.gP {k o : Nat} {mem0 mem : gM} {f : Nat → Nat} (h : uF k mem0 mem) : uF k mem0 (gP mem k o f) := fun k' hk => (gP_nk _ _ hk).trans (h k' hk)
/-- the law's group k stands -/
def uG (X : gX) (k : Nat) : Prop := 8 ≤ k ∧ 4 * (k - 8) + 4 ≤ gXt X
theorem uG.mem {X : gX} {k o : Nat} (h : uG X k) (ho : o < 4) : (k, o) ∈ gId X := List.mem_append_right _ (gLx_mem h.1 ho (by have := h.2; omega))
theorem uG.sh {X : gX} {k o : Nat} (h : uG X k) (g : Nat → Nat) : gE X k o g = gAr X (gLn o) g := gE_l (by have := h.1; omega) o g
/-- what a static method of the law leaves -/
def uP (k : Nat) (mem : gM) (z : Nat → Nat) (r : Option Value) : Option Value → gM → Prop := fun v m => v = r ∧ uF k mem m ∧ uR (m k) z
section GU
variable {p : Program} {l : Launch} {e : Env} {R : Room} {s : State} {m : MethodId} {args : Array Value} {below : List Frame} {meth : Method} {c : Code} {H : Heap} {locs : List Loc} {cells slots : Nat} {Q : State → Prop}
variable {cc : ByteArray} {pc : Nat} {ls : Array Slot} {rest : List Value} {X : gX} {own : String} {ret : Option FieldType} {nL : Nat} {mem mem0 : gM} {k : Nat} {z : Nat → Nat}
theorem u_ald (j : Nat) {o i : Nat} (C : gC X own cc ret nL p s m args meth c) (hk : uG X k) (hM : uR (mem k) z) (hR : gRep X mem H) (h : uJb j o i = true) (hdg : decode cc pc = .ok (.iaload, 1)) (kk : W p l e R s m args below meth c H locs cells slots Q (F0 m (pc + 1) ls (.int (nI (z j)) :: rest))) : W p l e R s m args below meth c H locs cells slots Q (F0 m pc ls (.int (nI i) :: .ref (gAd X k o) :: rest)) := by
  obtain ⟨h1, h2, h3, h4, h5, h6⟩ := uJ_get h
  have e : mem k o i = z j := by
    rw [← h3, ← h4]
    exact hM j h2
  refine g_iald C hR (hk.mem h6) (fun g => hk.sh g) h5 (gLn_lt o) hdg ?_
  rw [e]
  exact kk
theorem u_ast (j : Nat) {o i x : Nat} (C : gC X own cc ret nL p s m args meth c) (hk : uG X k) (hM : uR (mem k) z) (hF : uF k mem0 mem) (hR : gRep X mem H) (hS : va_S (gA X) s.heap H locs) (h : uJb j o i = true) (hdg : decode cc pc = .ok (.iastore, 1)) (kk : ∀ (mem1 : gM), uR (mem1 k) (fU z j x) → uF k mem0 mem1 → ∀ (H1 : Heap) (locs1 : List Loc), gRep X mem1 H1 → va_S (gA X) s.heap H1 locs1 → W p l e R s m args below meth c H1 locs1 cells slots Q (F0 m (pc + 1) ls rest)) : W p l e R s m args below meth c H locs cells slots Q (F0 m pc ls (.int (nI x) :: .int (nI i) :: .ref (gAd X k o) :: rest)) := by
  obtain ⟨h1, h2, h3, h4, h5, h6⟩ := uJ_get h
  refine g_iast C hR hS (hk.mem h6) (fun g => hk.sh g) h5 (gLn_lt o) hdg (fun H1 locs1 hR1 hS1 => kk _ ?_ hF.gP H1 locs1 hR1 hS1)
  rw [gP_k]
  exact uR_set x hM h
theorem g_callU {index fr2 lo2 nL2 n : Nat} {z2 : Nat → Nat} {r : Option Value} {y : MethodName} {cc2 : ByteArray} {ret2 : Option FieldType} {As st0 : List Value} (C : gC X own cc ret nL p s m args meth c) (hz : ls.size = nL) (hF : uF k mem0 mem) (hR : gRep X mem H) (hS : va_S (gA X) s.heap H locs) (md : gMs y cc2 nL2 ret2 n) (hlink : Cond.methodLink own index y ∈ wA) (hM : gMt l y cc2 nL2 ret2 fr2 lo2 X As mem (uP k mem z2 r)) (hn : As.length = n) (hst : st0 = As.reverse ++ rest) (hroom : fr2 + 1 ≤ R.frames ∧ 8 + (nL2 + 11) + lo2 ≤ R.locals) (hf : cells ≤ R.cells ∧ slots ≤ R.slots) (hw : (rest.map fun v => v.category).sum ≤ 8) (hdg : decode cc pc = .ok (.invokestatic index, 3)) (kk : ∀ (mem1 : gM), uR (mem1 k) z2 → uF k mem0 mem1 → ∀ (H1 : Heap) (locs1 : List Loc), gRep X mem1 H1 → va_S (gA X) s.heap H1 locs1 → W p l e R s m args below meth c H1 locs1 cells slots Q (F0 m (pc + 3) ls (r.toList ++ rest))) : W p l e R s m args below meth c H locs cells slots Q (F0 m pc ls st0) := g_callS C hz hR hS md hlink hM hn hst hroom hf hw hdg (fun v mem9 H1 locs1 hp hR1 hS1 => by
  obtain ⟨rfl, h1, h2⟩ := hp
  exact kk mem9 h2 (hF.tr h1) H1 locs1 hR1 hS1)
end GU
/-! the state that the class and the law's arrays hold -/
def lR (S : aS) (mem : gM) : Prop := aI S ∧ aCl S mem ∧ uR (mem 8) (aZ S)
theorem lR.ob {S : aS} {mem m9 : gM} (h : lR S mem) (hc : aCm S mem m9) : lR S m9 := ⟨h.1, hc.1, by
  rw [hc.2 8 (by decide)]
  exact h.2.2⟩
theorem aCl_hi {S : aS} {mem m9 : gM} (h : aCl S mem) (he : ∀ k, k < 8 → m9 k = mem k) : aCl S m9 := by
  obtain ⟨h1, h2, h3, h4, h5, h6⟩ := h
  refine ⟨?_, ?_, ?_, h4, ?_, ?_⟩
  · rw [he 0 (by decide)]; exact h1
  · obtain ⟨a1, a2, a3, a4, a5⟩ := h2
    unfold hHi
    rw [he 7 (by decide)]
    refine ⟨a1, a2, a3, a4, fun i hi => ?_⟩
    have := a3 i (by omega)
    rw [he _ (by omega)]
    exact a5 i hi
  · rw [he 7 (by decide)]; exact h3
  · rw [he 2 (by decide)]; exact h5
  · unfold hTx
    rw [he 7 (by decide)]
    exact h6
theorem aCl_u {S : aS} {k : Nat} {mem m9 : gM} (h : aCl S mem) (hk : 8 ≤ k) (hF : uF k mem m9) : aCl S m9 := aCl_hi h (fun k' h' => hF k' (by omega))
theorem lR.n4 {S : aS} {mem : gM} (h : lR S mem) : aN S ≤ 4 ∧ aK S < 2 := ⟨h.2.1.2.1.2.1, h.2.1.2.2.2.1⟩
