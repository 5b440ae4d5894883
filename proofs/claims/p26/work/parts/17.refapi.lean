/-! ===== the reference's calls ===== -/
theorem nI_nm5 {x : Nat} (h : x < 2 ^ 31) : ¬ nI x = -5 := by
  intro z
  have h1 := congrArg Int32.toInt z
  rw [nI_toInt h] at h1
  have h2 : (-5 : Int32).toInt = -5 := rfl
  omega
theorem gIw_out {v : Int32} {lo hi : Nat} (h : gIw v lo hi = false) : v.toInt < (lo : Int) ∨ (hi : Int) < v.toInt := by
  have h1 : ¬ ((lo : Int) ≤ v.toInt ∧ v.toInt ≤ (hi : Int)) := fun z => by rw [gIw_iff.mpr z] at h; cases h
  omega
