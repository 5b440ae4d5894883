/-! ===== every call keeps what always holds ===== -/
theorem aI_s {S : aS} {y : Nat → Nat} (h : aI S) (h4 : aN S ≤ 4) (hy : zV y) : aI (aPz (aRec S) y) := aI_z (aI_rec h h4) hy
theorem aI_put {S : aS} (h : aI S) (h4 : aN S ≤ 4) (b c9 n : Int32) : aI (aPut S b c9 n).2 := by
  by_cases hb : gIw b 0 7 = true
  · obtain ⟨b, rfl, -, hb⟩ := gIw_t hb (by decide)
    by_cases hc : gIw c9 0 15 = true
    · obtain ⟨c9, rfl, -, hc⟩ := gIw_t hc (by decide)
      by_cases hn : gIw n 0 999 = true
      · obtain ⟨n, rfl, -, hn⟩ := gIw_t hn (by decide)
        by_cases e : aZ S (zIx b c9) = n
        · rw [aPut_4 hb hc hn e]; exact h
        · rw [aPut_5 hb hc hn e]; exact aI_s h h4 (zV_cell h.1 (zIx_lt (by omega) (by omega)) hn)
      · rw [aPut_3 hb hc (by simpa using hn)]; exact h
    · rw [aPut_2 (by simpa using hc)]; exact h
  · rw [aPut_1 (by simpa using hb)]; exact h
theorem aI_lock {S : aS} (h : aI S) (h4 : aN S ≤ 4) (b : Int32) {v : Nat} (hv : v < 2) : aI (aLock S b v).2 := by
  by_cases hb : gIw b 0 7 = true
  · obtain ⟨b, rfl, -, hb⟩ := gIw_t hb (by decide)
    by_cases e : aZ S (104 + b) = v
    · rw [aLock_2 hb e]; exact h
    · rw [aLock_3 hb e]
      exact aI_s h h4 (zV_lo h.1 (by omega) (h.1.1.upd9 (by omega) (by omega) (by omega) (by omega) (by omega) (by omega) (by omega) (by omega) (fun q hq => by omega) (by omega)))
  · rw [aLock_1 (by simpa using hb)]; exact h
theorem aI_show {S : aS} (h : aI S) (h4 : aN S ≤ 4) (w b : Int32) : aI (aShow S w b).2 := by
  by_cases hw : gIw w 0 3 = true
  · obtain ⟨w, rfl, -, hw⟩ := gIw_t hw (by decide)
    by_cases hb : gIw b 0 7 = true
    · obtain ⟨b, rfl, -, hb⟩ := gIw_t hb (by decide)
      by_cases e : aZ S (100 + w) = b
      · rw [aShow_3 hw hb e]; exact h
      · rw [aShow_4 hw hb e]
        exact aI_s h h4 (zV_lo h.1 (by omega) (h.1.1.upd9 (by omega) (by omega) (by omega) (by omega) (by omega) (by omega) (by omega) (by omega) (fun q hq => by omega) (by omega)))
    · rw [aShow_2 (by simpa using hb)]; exact h
  · rw [aShow_1 (by simpa using hw)]; exact h
theorem aI_copy {S : aS} (h : aI S) (h4 : aN S ≤ 4) (w b : Int32) : aI (aCopy S w b).2 := by
  by_cases hw : gIw w 0 7 = true
  · obtain ⟨w, rfl, -, hw⟩ := gIw_t hw (by decide)
    by_cases hb : gIw b 0 7 = true
    · obtain ⟨b, rfl, -, hb⟩ := gIw_t hb (by decide)
      by_cases e : zUn (aZ S) w b 12 = 0
      · rw [aCopy_3 hw hb e]; exact h
      · rw [aCopy_4 hw hb e]
        exact aI_s h h4 (zV_cp h.1 (by omega) (by omega) 12 (Nat.le_refl _))
    · rw [aCopy_2 (by simpa using hb)]; exact h
  · rw [aCopy_1 (by simpa using hw)]; exact h
theorem aI_set {S : aS} (h : aI S) (h4 : aN S ≤ 4) (v : Int32) : aI (aSet S v).2 := by
  by_cases hv : gIw v 0 1 = true
  · obtain ⟨v, rfl, -, hv⟩ := gIw_t hv (by decide)
    by_cases e : aZ S 112 = v
    · rw [aSet_2 hv e]; exact h
    · rw [aSet_3 hv e]
      exact aI_s h h4 (zV_lo h.1 (by omega) (h.1.1.upd9 (by omega) (by omega) (by omega) (by omega) (by omega) (by omega) (by omega) (by omega) (fun q hq => by omega) (by omega)))
  · rw [aSet_1 (by simpa using hv)]; exact h
theorem aI_begin {S : aS} (h : aI S) (h4 : aN S ≤ 4) (v : Int32) : aI (aBegin S v).2 := by
  by_cases hv : gIw v 0 63 = true
  · obtain ⟨v, rfl, -, hv⟩ := gIw_t hv (by decide)
    rw [aBegin_2 hv]
    exact aI_s h h4 (zV_bg h.1 (by omega))
  · rw [aBegin_1 (by simpa using hv)]; exact h
theorem aI_run {S : aS} (h : aI S) (h4 : aN S ≤ 4) (v : Int32) : aI (aRun S v).2 := by
  by_cases hv : gIw v 1 999 = true
  · obtain ⟨v, rfl, hv1, hv⟩ := gIw_t hv (by decide)
    by_cases e : 0 < aZ S 115
    · rw [aRun_2 hv1 hv e]; exact h
    · by_cases e2 : 999999 < aZ S 178 + v
      · rw [aRun_3 hv1 hv (by omega) e2]; exact h
      · rw [aRun_4 hv1 hv (by omega) (by omega)]
        exact aI_s h h4 (zV_run h.1 (by omega))
  · rw [aRun_1 (by simpa using hv)]; exact h
theorem aI_undo {S : aS} (h : aI S) : aI (aUndo S).2 := by
  unfold aUndo
  by_cases e : aN S = 0
  · rw [if_pos e]; exact h
  · rw [if_neg e]
    exact ⟨h.2.1 _ (by omega), fun i hi => h.2.1 i (by have : i < aN S - 1 := hi; omega), h.2.2.1, h.2.2.2⟩
theorem aI_rest {S : aS} (h : aI S) (h4 : aN S ≤ 4) (h2 : aK S < 2) : aI (aRest S).2 := by
  unfold aRest
  by_cases e : aK S = 0
  · rw [if_pos e]; exact h
  · rw [if_neg e]
    exact aI_s h h4 (h.2.2.1 (by omega))
/-! the state at the start -/
def z0 : Nat → Nat := fun j => if j = 101 then 1 else if j = 102 then 2 else if j = 103 then 3 else 0
def S0 : aS := (0, fun _ _ => 0, z0, 0, fun _ => 0, 0, fun _ => 0)
theorem z0_V : zV z0 := by
  refine ⟨⟨?_, ?_, ?_, by decide, by decide, by decide, by decide, by decide, ?_, by decide⟩, fun _ => by decide, by unfold zB; decide, by decide, by decide, by decide⟩
  · intro i hi
    unfold z0
    rw [if_neg (by omega), if_neg (by omega), if_neg (by omega)]
    decide
  · intro w hw
    rcases (show w = 0 ∨ w = 1 ∨ w = 2 ∨ w = 3 by omega) with rfl | rfl | rfl | rfl <;> decide
  · intro b hb
    unfold z0
    rw [if_neg (by omega), if_neg (by omega), if_neg (by omega)]
    decide
  · intro q hq
    unfold z0
    rw [if_neg (by omega), if_neg (by omega), if_neg (by omega), if_neg (by omega), if_neg (by omega), if_neg (by omega), if_neg (by omega), if_neg (by omega), if_neg (by omega)]
    decide
theorem S0_I : aI S0 := ⟨z0_V, fun i hi => absurd (show i < 0 from hi) (Nat.not_lt_zero i), fun h => absurd (show 0 = 1 from h) (by decide), fun j hj => absurd (show j < 0 from hj) (Nat.not_lt_zero j)⟩
