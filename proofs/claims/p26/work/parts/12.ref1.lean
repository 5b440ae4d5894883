/-! ===== truth values; the reference's tests ===== -/
def gb (P : Prop) [Decidable P] : Nat := if P then 1 else 0
theorem gb_t {P : Prop} [Decidable P] (h : P) : gb P = 1 := if_pos h
theorem gb_f {P : Prop} [Decidable P] (h : ¬ P) : gb P = 0 := if_neg h
theorem gb_lt (P : Prop) [Decidable P] : gb P < 2 := by
  unfold gb
  by_cases h : P
  · rw [if_pos h]; decide
  · rw [if_neg h]; decide
theorem gb_0 {P : Prop} [Decidable P] : gb P = 0 ↔ ¬ P := by
  unfold gb
  by_cases h : P
  · rw [if_pos h]; simp [h]
  · rw [if_neg h]; simp [h]
/-- an int that lies between two bounds -/
def gIw (v : Int32) (lo hi : Nat) : Bool := decide ((lo : Int) ≤ v.toInt) && decide (v.toInt ≤ (hi : Int))
theorem gIw_iff {v : Int32} {lo hi : Nat} : gIw v lo hi = true ↔ (lo : Int) ≤ v.toInt ∧ v.toInt ≤ (hi : Int) := by
  unfold gIw
  rw [Bool.and_eq_true, decide_eq_true_eq, decide_eq_true_eq]
theorem gIw_n {a lo hi : Nat} (ha : a < 2 ^ 31) : gIw (nI a) lo hi = true ↔ lo ≤ a ∧ a ≤ hi := by
  rw [gIw_iff, nI_toInt ha]
  omega
theorem gIw_t {v : Int32} {lo hi : Nat} (h : gIw v lo hi = true) (hh : hi < 2 ^ 31) : ∃ a : Nat, v = nI a ∧ lo ≤ a ∧ a ≤ hi := by
  rw [gIw_iff] at h
  have h0 : ¬ v < 0 := by
    rw [Int32.lt_iff_toInt_lt]
    have : (0 : Int32).toInt = 0 := rfl
    omega
  obtain ⟨j, hj, rfl⟩ := nI_of h0
  rw [nI_toInt hj] at h
  exact ⟨j, rfl, by omega, by omega⟩
theorem gIw_lt {v : Int32} {a : Nat} (ha : a < 2 ^ 31) : v < nI a ↔ v.toInt < (a : Int) := by
  rw [Int32.lt_iff_toInt_lt, nI_toInt ha]
theorem gIw_gt {v : Int32} {a : Nat} (ha : a < 2 ^ 31) : nI a < v ↔ (a : Int) < v.toInt := by
  rw [Int32.lt_iff_toInt_lt, nI_toInt ha]
section GT
variable {p : Program} {l : Launch} {e : Env} {R : Room} {s : State} {m : MethodId} {args : Array Value} {below : List Frame} {meth : Method} {c : Code} {H : Heap} {locs : List Loc} {cells slots : Nat} {Q : State → Prop}
variable {cc : ByteArray} {pc : Nat} {ls : Array Slot} {rest : List Value} {X : gX} {own : String} {ret : Option FieldType} {nL : Nat} {mem : gM}
theorem g_ifb_eq {P : Prop} [Decidable P] {tgt : Nat} {off : Int} (C : gC X own cc ret nL p s m args meth c) (hdg : decode cc pc = .ok (.ifCond .eq off, 3)) (ht : (pc : Int) + off = (tgt : Int)) (kt : ¬ P → W p l e R s m args below meth c H locs cells slots Q (F0 m tgt ls rest)) (kf : P → W p l e R s m args below meth c H locs cells slots Q (F0 m (pc + 3) ls rest)) : W p l e R s m args below meth c H locs cells slots Q (F0 m pc ls (.int (nI (gb P)) :: rest)) := g_if_eq C hdg ht (Nat.lt_trans (gb_lt P) (by decide)) (fun h => kt (gb_0.mp h)) (fun h => kf (Decidable.byContradiction (fun z => h (gb_0.mpr z))))
theorem g_ifw_eq {a lo hi tgt : Nat} {off : Int} (C : gC X own cc ret nL p s m args meth c) (hdg : decode cc pc = .ok (.ifCond .eq off, 3)) (ht : (pc : Int) + off = (tgt : Int)) (ha : a < 2 ^ 31) (kt : ¬ (lo ≤ a ∧ a ≤ hi) → W p l e R s m args below meth c H locs cells slots Q (F0 m tgt ls rest)) (kf : lo ≤ a ∧ a ≤ hi → W p l e R s m args below meth c H locs cells slots Q (F0 m (pc + 3) ls rest)) : W p l e R s m args below meth c H locs cells slots Q (F0 m pc ls (.int (nI (gb (gIw (nI a) lo hi = true))) :: rest)) := g_ifb_eq C hdg ht (fun h => kt (fun z => h ((gIw_n ha).mpr z))) (fun h => kf ((gIw_n ha).mp h))
theorem g_ifv_eq {v : Int32} {lo hi tgt : Nat} {off : Int} (C : gC X own cc ret nL p s m args meth c) (hdg : decode cc pc = .ok (.ifCond .eq off, 3)) (ht : (pc : Int) + off = (tgt : Int)) (hh : hi < 2 ^ 31) (kt : gIw v lo hi = false → W p l e R s m args below meth c H locs cells slots Q (F0 m tgt ls rest)) (kf : ∀ a : Nat, v = nI a → lo ≤ a → a ≤ hi → W p l e R s m args below meth c H locs cells slots Q (F0 m (pc + 3) ls rest)) : W p l e R s m args below meth c H locs cells slots Q (F0 m pc ls (.int (nI (gb (gIw v lo hi = true))) :: rest)) := g_ifb_eq C hdg ht (fun h => kt (by simpa using h)) (fun h => by obtain ⟨a, h1, h2, h3⟩ := gIw_t h hh; exact kf a h1 h2 h3)
theorem g_ifb_ne {P : Prop} [Decidable P] {tgt : Nat} {off : Int} (C : gC X own cc ret nL p s m args meth c) (hdg : decode cc pc = .ok (.ifCond .ne off, 3)) (ht : (pc : Int) + off = (tgt : Int)) (kt : P → W p l e R s m args below meth c H locs cells slots Q (F0 m tgt ls rest)) (kf : ¬ P → W p l e R s m args below meth c H locs cells slots Q (F0 m (pc + 3) ls rest)) : W p l e R s m args below meth c H locs cells slots Q (F0 m pc ls (.int (nI (gb P)) :: rest)) := g_if_ne C hdg ht (Nat.lt_trans (gb_lt P) (by decide)) (fun h => kt (Decidable.byContradiction (fun z => h (gb_0.mpr z)))) (fun h => kf (gb_0.mp h))
theorem g_ifw_ne {a lo hi tgt : Nat} {off : Int} (C : gC X own cc ret nL p s m args meth c) (hdg : decode cc pc = .ok (.ifCond .ne off, 3)) (ht : (pc : Int) + off = (tgt : Int)) (ha : a < 2 ^ 31) (kt : lo ≤ a ∧ a ≤ hi → W p l e R s m args below meth c H locs cells slots Q (F0 m tgt ls rest)) (kf : ¬ (lo ≤ a ∧ a ≤ hi) → W p l e R s m args below meth c H locs cells slots Q (F0 m (pc + 3) ls rest)) : W p l e R s m args below meth c H locs cells slots Q (F0 m pc ls (.int (nI (gb (gIw (nI a) lo hi = true))) :: rest)) := g_ifb_ne C hdg ht (fun h => kt ((gIw_n ha).mp h)) (fun h => kf (fun z => h ((gIw_n ha).mpr z)))
theorem g_ifv_ne {v : Int32} {lo hi tgt : Nat} {off : Int} (C : gC X own cc ret nL p s m args meth c) (hdg : decode cc pc = .ok (.ifCond .ne off, 3)) (ht : (pc : Int) + off = (tgt : Int)) (hh : hi < 2 ^ 31) (kt : ∀ a : Nat, v = nI a → lo ≤ a → a ≤ hi → W p l e R s m args below meth c H locs cells slots Q (F0 m tgt ls rest)) (kf : gIw v lo hi = false → W p l e R s m args below meth c H locs cells slots Q (F0 m (pc + 3) ls rest)) : W p l e R s m args below meth c H locs cells slots Q (F0 m pc ls (.int (nI (gb (gIw v lo hi = true))) :: rest)) := g_ifb_ne C hdg ht (fun h => by obtain ⟨a, h1, h2, h3⟩ := gIw_t h hh; exact kt a h1 h2 h3) (fun h => kf (by simpa using h))
end GT
