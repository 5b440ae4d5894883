/-! ===== both sides together ===== -/
theorem g8 {l : Launch} {y : MethodName} {cc : ByteArray} {nL fr lo : Nat} {ret : Option FieldType} {X : gX} {av : List Value} {mem : gM} {post : Option Value → gM → Prop} (h : gMt l y cc nL ret fr lo X av (gM8 mem (mem 8 0) (mem 8 1) (mem 8 2) (mem 8 3) (mem 8 4) (mem 8 5) (mem 8 6)) post) : gMt l y cc nL ret fr lo X av mem post := by
  rw [← gM8_of] at h
  exact h
def aRg (S : aS) (mem : gM) : Prop := aRf S (mem 8 0) (mem 8 1) (mem 8 3) (mem 8 4) (mem 8 5)
theorem aRg_of {S : aS} {mem m9 : gM} (h : aRm S mem m9) : aRg S m9 := by
  obtain ⟨f, z, a, o, k, t, r, e, h⟩ := h
  subst e
  unfold aRg
  rw [gM8_s]
  exact h
theorem aRg_8 {S : aS} {mem m9 : gM} (h : aRg S mem) (e : m9 8 = mem 8) : aRg S m9 := by
  unfold aRg
  rw [e]
  exact h
theorem aCl_8 {S T : aS} {mem m9 : gM} (h : aCl S mem) (hr : aRm T mem m9) : aCl S m9 := by
  obtain ⟨f, z, a, o, k, t, r, e, -⟩ := hr
  subst e
  obtain ⟨h1, h2, h3, h4, h5, h6⟩ := h
  have e7 : gM8 mem f z a o k t r 7 = mem 7 := gM8_n _ _ _ _ _ _ _ _ (by decide)
  refine ⟨?_, ?_, ?_, h4, ?_, ?_⟩
  · rw [gM8_n _ _ _ _ _ _ _ _ (by decide)]; exact h1
  · obtain ⟨a1, a2, a3, a4, a5⟩ := h2
    unfold hHi
    rw [e7]
    refine ⟨a1, a2, a3, a4, fun i hi => ?_⟩
    have := a3 i (by omega)
    rw [gM8_n _ _ _ _ _ _ _ _ (by omega)]
    exact a5 i hi
  · rw [e7]; exact h3
  · rw [gM8_n _ _ _ _ _ _ _ _ (by decide)]; exact h5
  · unfold hTx
    rw [e7]
    exact h6
/-- the state that both hold -/
def lR (S : aS) (mem : gM) : Prop := aI S ∧ aCl S mem ∧ aRg S mem
/-- behind the class's call, before the reference's -/
def lR2 (S T : aS) (mem : gM) : Prop := aI S ∧ aI T ∧ aCl T mem ∧ aRg S mem
theorem lR.c {S T : aS} {mem m9 : gM} (h : lR S mem) (hT : aI T) (hc : aCm T mem m9) : lR2 S T m9 := ⟨h.1, hT, hc.1, aRg_8 h.2.2 hc.2⟩
theorem lR2.r {S T : aS} {mem m9 : gM} (h : lR2 S T mem) (hr : aRm T mem m9) : lR T m9 := ⟨h.2.1, aCl_8 h.2.2.1 hr, aRg_of hr⟩
theorem lR.n4 {S : aS} {mem : gM} (h : lR S mem) : aN S ≤ 4 ∧ aK S < 2 := ⟨h.2.1.2.1.2.1, h.2.1.2.2.2.1⟩
