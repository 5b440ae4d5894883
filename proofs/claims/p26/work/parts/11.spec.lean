/-! ===== the machine as the reference has it: a row of 198 numbers, and what a step does to it ===== -/
def zIx (b c : Nat) : Nat := if c < 12 then 12 * b + c else 84 + c
def zBk (z : Nat → Nat) (a : Nat) : Nat := z (100 + a / 16)
def zAt (z : Nat → Nat) (a : Nat) : Nat := zIx (zBk z a) (a % 16)
def zSm (a b : Nat) : Nat := if a + b ≤ 999 then a + b else a + b - 1000
def zWhy (z : Nat → Nat) (kind n : Nat) : Nat := if (2 ≤ kind ∧ kind ≤ 5 ∧ 64 ≤ n) ∨ (kind = 6 ∧ (4 ≤ n / 10 ∨ 8 ≤ n % 10)) ∨ (kind = 7 ∧ 8 ≤ n / 10) then 3 else if kind = 7 ∧ z 116 = 8 then 4 else if kind = 8 ∧ z 116 = 0 then 5 else 0
def zWr1 (z : Nat → Nat) (b : Nat) : Nat → Nat := fU z 181 (z 181 + 1)
def zWr2 (z : Nat → Nat) (b : Nat) : Nat → Nat := fU (zWr1 z b) (190 + b) (zWr1 z b (190 + b) + 1)
def zWr3 (z : Nat → Nat) (b : Nat) : Nat → Nat := fU (zWr2 z b) 115 (if zWr2 z b 112 = 1 then 2 else 0)
def zWs1 (z : Nat → Nat) (b a : Nat) : Nat → Nat := fU z (zAt z a) (z 113)
def zWs2 (z : Nat → Nat) (b a : Nat) : Nat → Nat := fU (zWs1 z b a) 180 (zWs1 z b a 180 + 1)
def zWs3 (z : Nat → Nat) (b a : Nat) : Nat → Nat := fU (zWs2 z b a) (182 + b) (zWs2 z b a (182 + b) + 1)
def zWr (z : Nat → Nat) (a : Nat) : Nat → Nat := if z (104 + zBk z a) = 1 then zWr3 z (zBk z a) else zWs3 z (zBk z a) a
def zCl1 (z : Nat → Nat) (w : Nat) : Nat → Nat := fU z (117 + 3 * z 116) w
def zCl2 (z : Nat → Nat) (w : Nat) : Nat → Nat := fU (zCl1 z w) (117 + 3 * z 116 + 1) (zCl1 z w (100 + w))
def zCl3 (z : Nat → Nat) (w : Nat) : Nat → Nat := fU (zCl2 z w) (117 + 3 * z 116 + 2) (zCl2 z w 114)
def zCl4 (z : Nat → Nat) (w : Nat) : Nat → Nat := fU (zCl3 z w) 116 (zCl3 z w 116 + 1)
def zCl5 (z : Nat → Nat) (w : Nat) : Nat → Nat := fU (zCl4 z w) 179 (zCl4 z w 179 + 1)
def zCl (z : Nat → Nat) (w n : Nat) : Nat → Nat := fU (fU (zCl5 z w) (100 + w) (n / 10)) 114 (16 * w + n % 10)
def zBc1 (z : Nat → Nat) : Nat → Nat := fU z 116 (z 116 - 1)
def zBc2 (z : Nat → Nat) : Nat → Nat := fU (zBc1 z) (100 + z (117 + 3 * (z 116 - 1))) (zBc1 z (117 + 3 * (z 116 - 1) + 1))
def zBc (z : Nat → Nat) : Nat → Nat := fU (zBc2 z) 114 (zBc2 z (117 + 3 * (z 116 - 1) + 2))
def zOrd (z : Nat → Nat) (kind n w : Nat) : Nat → Nat := match kind with
  | 0 => fU z 115 1
  | 1 => fU z 113 n
  | 2 => fU z 113 (zSm (z 113) (z (zAt z n)))
  | 3 => zWr z n
  | 4 => fU z 114 n
  | 5 => fU z 114 (if z 113 = 0 then n else z 114)
  | 6 => fU z (100 + n / 10) (n % 10)
  | 7 => zCl z w n
  | 8 => zBc z
  | _ => fU z 113 (zSm (z 113) n)
def zKp0 (z : Nat → Nat) : Nat → Nat := if z 141 < 12 then fU z 141 (z 141 + 1) else z
/-- the rows of the latest steps, those beyond place k moved on -/
def zSh (z : Nat → Nat) (k : Nat) : Nat → Nat := fun j => if 142 + k ≤ j ∧ j < 142 + 3 * z 141 then z (j - 3) else z j
def zKp1 (z : Nat → Nat) (a : Nat) : Nat → Nat := fU (zSh (zKp0 z) 3) 142 a
def zKp2 (z : Nat → Nat) (a : Nat) : Nat → Nat := fU (zKp1 z a) 143 (zBk (zKp1 z a) a)
def zKp (z : Nat → Nat) (a num : Nat) : Nat → Nat := fU (zKp2 z a) 144 num
def zSt1 (z : Nat → Nat) : Nat → Nat := zKp z (z 114) (z (zAt z (z 114)))
def zSt2 (z : Nat → Nat) : Nat → Nat := fU (zSt1 z) 178 (zSt1 z 178 + 1)
def zSt3 (z : Nat → Nat) : Nat → Nat := fU (zSt2 z) 114 (zSt2 z 114 + 1)
def zSt4 (z : Nat → Nat) : Nat → Nat := fU (zSt3 z) 115 (zWhy (zSt3 z) (z (zAt z (z 114)) / 100) (z (zAt z (z 114)) % 100))
def zSt5 (z : Nat → Nat) : Nat → Nat := if zSt4 z 115 = 0 then zOrd (zSt4 z) (z (zAt z (z 114)) / 100) (z (zAt z (z 114)) % 100) (z 114 / 16) else zSt4 z
def zStep (z : Nat → Nat) : Nat → Nat := if zSt5 z 115 = 0 ∧ zSt5 z 114 = 64 then fU (zSt5 z) 115 6 else zSt5 z
/-- what always holds of the row -/
def zI (z : Nat → Nat) : Prop := (∀ i, i < 100 → z i ≤ 999) ∧ (∀ w, w < 4 → z (100 + w) < 8) ∧ (∀ b, b < 8 → z (104 + b) < 2) ∧ z 112 < 2 ∧ z 113 ≤ 999 ∧ z 114 ≤ 64 ∧ z 115 ≤ 6 ∧ z 116 ≤ 8 ∧ (∀ q, q < 8 → z (117 + 3 * q) < 4 ∧ z (118 + 3 * q) < 8 ∧ z (119 + 3 * q) ≤ 64) ∧ z 141 ≤ 12
theorem zI.bk {z : Nat → Nat} (h : zI z) {a : Nat} (ha : a < 64) : zBk z a < 8 := h.2.1 (a / 16) (by omega)
theorem zIx_lt {b c : Nat} (hb : b < 8) (hc : c < 16) : zIx b c < 100 := by
  unfold zIx
  by_cases h : c < 12
  · rw [if_pos h]; omega
  · rw [if_neg h]; omega
theorem zI.upd9 {z : Nat → Nat} {i x : Nat} (h : zI z) (h1 : i < 100 → x ≤ 999) (h2 : 100 ≤ i → i < 104 → x < 8) (h3 : 104 ≤ i → i < 112 → x < 2) (h4 : i = 112 → x < 2) (h5 : i = 113 → x ≤ 999) (h6 : i = 114 → x ≤ 64) (h7 : i = 115 → x ≤ 6) (h8 : i = 116 → x ≤ 8) (h9 : ∀ q, q < 8 → (i = 117 + 3 * q → x < 4) ∧ (i = 118 + 3 * q → x < 8) ∧ (i = 119 + 3 * q → x ≤ 64)) (h10 : i = 141 → x ≤ 12) : zI (fU z i x) := by
  obtain ⟨g1, g2, g3, g4, g5, g6, g7, g8, g9, g10⟩ := h
  have key : ∀ j : Nat, (j = i → fU z i x j = x) ∧ (¬ j = i → fU z i x j = z j) := fun j => ⟨fun e => by rw [e]; exact fU_s z i x, fun e => fU_n z x e⟩
  have one : ∀ (j b : Nat), (j = i → x < b) → z j < b → fU z i x j < b := by
    intro j b ha hb
    by_cases e : j = i
    · rw [(key j).1 e]; exact ha e
    · rw [(key j).2 e]; exact hb
  have two : ∀ (j b : Nat), (j = i → x ≤ b) → z j ≤ b → fU z i x j ≤ b := by
    intro j b ha hb
    by_cases e : j = i
    · rw [(key j).1 e]; exact ha e
    · rw [(key j).2 e]; exact hb
  refine ⟨fun j hj => two j _ (fun e => h1 (by omega)) (g1 j hj), fun w hw => one _ _ (fun e => h2 (by omega) (by omega)) (g2 w hw), fun b hb => one _ _ (fun e => h3 (by omega) (by omega)) (g3 b hb), one _ _ (fun e => h4 e.symm) g4, two _ _ (fun e => h5 e.symm) g5, two _ _ (fun e => h6 e.symm) g6, two _ _ (fun e => h7 e.symm) g7, two _ _ (fun e => h8 e.symm) g8, fun q hq => ⟨one _ _ (fun e => (h9 q hq).1 e.symm) (g9 q hq).1, one _ _ (fun e => (h9 q hq).2.1 e.symm) (g9 q hq).2.1, two _ _ (fun e => (h9 q hq).2.2 e.symm) (g9 q hq).2.2⟩, two _ _ (fun e => h10 e.symm) g10⟩
theorem zI.at {z : Nat → Nat} (h : zI z) {a : Nat} (ha : a < 64) : zAt z a < 100 := zIx_lt (h.bk ha) (by omega)
