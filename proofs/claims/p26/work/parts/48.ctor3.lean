/-! ===== constructors: worlds out of cells ===== -/
theorem kP_nil {D : va_G} {H : Heap} : va_P D vwCl [] H := fun k q hq => by cases hq
theorem kP_cons {D : va_G} {H : Heap} {x : Nat × va_E} {ws : va_W} (hx : va_at D vwCl x H) (h : va_P D vwCl ws H) : va_P D vwCl (x :: ws) H := fun k q hq => by
  cases k with
  | zero => cases hq; exact hx
  | succ k => exact h k q hq
theorem kP_hd {D : va_G} {H : Heap} {x : Nat × va_E} {ws : va_W} (h : va_P D vwCl (x :: ws) H) : va_at D vwCl x H := h 0 x rfl
theorem kP_tl {D : va_G} {H : Heap} {x : Nat × va_E} {ws : va_W} (h : va_P D vwCl (x :: ws) H) : va_P D vwCl ws H := fun k q hq => h (k + 1) q hq
theorem kP_app {D : va_G} {H : Heap} {w1 w2 : va_W} (h1 : va_P D vwCl w1 H) (h2 : va_P D vwCl w2 H) : va_P D vwCl (w1 ++ w2) H := fun k q hq => by
  by_cases e : k < w1.length
  · rw [List.getElem?_append_left e] at hq; exact h1 k q hq
  · rw [List.getElem?_append_right (by omega)] at hq; exact h2 _ q hq
theorem kP_keep {D : va_G} {H H1 : Heap} {ws : va_W} (h : va_P D vwCl ws H) (hk : ∀ x ∈ ws, H1[x.1]? = H[x.1]?) : va_P D vwCl ws H1 := h.kept (fun _ x hx => hk x (List.mem_of_getElem? hx))
theorem kD_nil {A : Nat → Prop} : va_D A [] := ⟨fun i j p q hi => (by cases hi), fun k q hq => (by cases hq)⟩
theorem kD_cons {A : Nat → Prop} {x : Nat × va_E} {ws : va_W} (h : va_D A ws) (ha : A x.1) (hd : ∀ z ∈ ws, ¬ z.1 = x.1) : va_D A (x :: ws) := by
  refine ⟨fun i j p q hi hj e => ?_, fun k q hq => ?_⟩
  · cases i with
    | zero =>
      cases j with
      | zero => rfl
      | succ j =>
        cases hi
        exact absurd e.symm (hd q (List.mem_of_getElem? (i := j) hj))
    | succ i =>
      cases j with
      | zero =>
        cases hj
        exact absurd e (hd p (List.mem_of_getElem? (i := i) hi))
      | succ j => rw [h.1 i j p q hi hj e]
  · cases k with
    | zero => cases hq; exact ha
    | succ k => exact h.2 k q hq
