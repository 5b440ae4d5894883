/-! ===== the memory at the start ===== -/
theorem kP_split {D : va_G} {H : Heap} {a n : Nat} {x y : List va_E} (h : va_P D vwCl (kCs a (x ++ y)) H) (hn : x.length = n) : va_P D vwCl (kCs a x) H ∧ va_P D vwCl (kCs (a + n) y) H := by
  rw [kCs_app, hn] at h
  refine ⟨fun k q hq => h k q ?_, fun k q hq => h (n + k) q ?_⟩
  · rw [List.getElem?_append_left (List.getElem?_eq_some_iff.mp hq).1]
    exact hq
  · have hl : (kCs a x).length = n := by
      have key : ∀ (es : List va_E) (a : Nat), (kCs a es).length = es.length := by
        intro es
        induction es with
        | nil => intro a; rfl
        | cons e es ih => intro a; show (kCs (a + 1) es).length + 1 = es.length + 1; rw [ih]
      rw [key, hn]
    rw [List.getElem?_append_right (by omega), hl, Nat.add_sub_cancel_left]
    exact hq
def mM : Nat → Nat → Nat := fun o => match o with
  | 7 => kW
  | _ => fun _ => 0
def mF : Nat → Nat → Nat := fun o => match o with
  | 2 => fun j => 3 + j
  | _ => fun _ => 0
def mem0 : gM := fun k => if k < 7 then mM else if k = 7 then mF else fun _ _ => 0
theorem mem0_m {k : Nat} (h : k < 7) : mem0 k = mM := if_pos h
set_option maxRecDepth 100000 in
set_option maxHeartbeats 4000000 in
/-- a fresh Machine's cells are the group's -/
theorem st_m {X : gX} {k a : Nat} {H : Heap} (hk : k < 7) (hAd : ∀ o, o < 18 → gAd X k o = a + o) (hP : va_P (gD X) vwCl (kCs a (kMc X a)) H) : ∀ o, o < 18 → va_at (gD X) vwCl (gAd X k o, gE X k o (mem0 k o)) H := by
  intro o ho
  rw [mem0_m hk, gE_m hk]
  have h0 := hAd 0 (by decide)
  have h1 := hAd 1 (by decide)
  have h2 := hAd 2 (by decide)
  have h3 := hAd 3 (by decide)
  have h4 := hAd 4 (by decide)
  have h5 := hAd 5 (by decide)
  have h6 := hAd 6 (by decide)
  have h7 := hAd 7 (by decide)
  have h8 := hAd 8 (by decide)
  have h9 := hAd 9 (by decide)
  have h10 := hAd 10 (by decide)
  have h11 := hAd 11 (by decide)
  have h12 := hAd 12 (by decide)
  have h13 := hAd 13 (by decide)
  have h14 := hAd 14 (by decide)
  have h15 := hAd 15 (by decide)
  have h16 := hAd 16 (by decide)
  have h17 := hAd 17 (by decide)
  rcases (show o = 0 ∨ o = 1 ∨ o = 2 ∨ o = 3 ∨ o = 4 ∨ o = 5 ∨ o = 6 ∨ o = 7 ∨ o = 8 ∨ o = 9 ∨ o = 10 ∨ o = 11 ∨ o = 12 ∨ o = 13 ∨ o = 14 ∨ o = 15 ∨ o = 16 ∨ o = 17 by omega) with rfl | rfl | rfl | rfl | rfl | rfl | rfl | rfl | rfl | rfl | rfl | rfl | rfl | rfl | rfl | rfl | rfl | rfl
  · show va_at (gD X) vwCl (gAd X k 0, .inr (4, [.ref (gAd X k 1), .ref (gAd X k 12), .ref (gAd X k 15), .int (nI 0), .int (nI 0), .int (nI 0), .int (nI 0), .int (nI 0)])) H
    rw [h0, h1, h12, h15]
    exact hP 0 _ rfl
  · show va_at (gD X) vwCl (gAd X k 1, .inr (0, [.ref (gAd X k 2), .ref (gAd X k 4), .ref (gAd X k 6), .ref (gAd X k 8), .ref (gAd X k 10)])) H
    rw [h1, h2, h4, h6, h8, h10]
    exact hP 1 _ rfl
  · show va_at (gD X) vwCl (gAd X k 2, .inr (5, [.ref (gAd X k 3)])) H
    rw [h2, h3]
    exact hP 2 _ rfl
  · show va_at (gD X) vwCl (gAd X k 3, gAr X 100 (fun _ => 0)) H
    rw [h3]
    exact hP 3 _ rfl
  · show va_at (gD X) vwCl (gAd X k 4, .inr (5, [.ref (gAd X k 5)])) H
    rw [h4, h5]
    exact hP 4 _ rfl
  · show va_at (gD X) vwCl (gAd X k 5, gAr X 8 (fun _ => 0)) H
    rw [h5]
    exact hP 5 _ rfl
  · show va_at (gD X) vwCl (gAd X k 6, .inr (5, [.ref (gAd X k 7)])) H
    rw [h6, h7]
    exact hP 6 _ rfl
  · show va_at (gD X) vwCl (gAd X k 7, gAr X 4 kW) H
    rw [h7]
    exact hP 7 _ rfl
  · show va_at (gD X) vwCl (gAd X k 8, .inr (5, [.ref (gAd X k 9)])) H
    rw [h8, h9]
    exact hP 8 _ rfl
  · show va_at (gD X) vwCl (gAd X k 9, gAr X 8 (fun _ => 0)) H
    rw [h9]
    exact hP 9 _ rfl
  · show va_at (gD X) vwCl (gAd X k 10, .inr (5, [.ref (gAd X k 11)])) H
    rw [h10, h11]
    exact hP 10 _ rfl
  · show va_at (gD X) vwCl (gAd X k 11, gAr X 8 (fun _ => 0)) H
    rw [h11]
    exact hP 11 _ rfl
  · show va_at (gD X) vwCl (gAd X k 12, .inr (2, [.ref (gAd X k 13), .int (nI 0)])) H
    rw [h12, h13]
    exact hP 12 _ rfl
  · show va_at (gD X) vwCl (gAd X k 13, .inr (5, [.ref (gAd X k 14)])) H
    rw [h13, h14]
    exact hP 13 _ rfl
  · show va_at (gD X) vwCl (gAd X k 14, gAr X 24 (fun _ => 0)) H
    rw [h14]
    exact hP 14 _ rfl
  · show va_at (gD X) vwCl (gAd X k 15, .inr (7, [.ref (gAd X k 16), .int (nI 0)])) H
    rw [h15, h16]
    exact hP 15 _ rfl
  · show va_at (gD X) vwCl (gAd X k 16, .inr (5, [.ref (gAd X k 17)])) H
    rw [h16, h17]
    exact hP 16 _ rfl
  · show va_at (gD X) vwCl (gAd X k 17, gAr X 36 (fun _ => 0)) H
    rw [h17]
    exact hP 17 _ rfl
theorem kHf_at {X : gX} {a : Nat} {H : Heap} {g : Nat → Option Nat} {c n : Nat} {f : Nat → Option Nat} (he : ∀ j, j < n → f j = g j) (h : va_at (gD X) vwCl (a, .inl (gCl X c, n, .inr (.inr (.inr (.inr f))))) H) : va_at (gD X) vwCl (a, .inl (gCl X c, n, .inr (.inr (.inr (.inr g))))) H := by
  have e : vp_cell (gCl X c) (n, .inr (.inr (.inr (.inr f)))) = vp_cell (gCl X c) (n, .inr (.inr (.inr (.inr g)))) := by
    rw [vp_cell_q, vp_cell_q]
    unfold arrV
    congr 1
    apply Array.ext
    · simp
    · intro i h1 h2
      simp only [Array.getElem_ofFn]
      rw [he i (by simpa using h1)]
  show H[a]? = some (vp_cell (gCl X c) (n, .inr (.inr (.inr (.inr g)))))
  rw [← e]
  exact h
set_option maxRecDepth 100000 in
set_option maxHeartbeats 4000000 in
theorem st_rep {X : gX} {H : Heap} {a : Nat} (ha : gSz X = a) (hAd : ∀ k o, gAd X k o = gSz X + kIx k o) (hx : gXt X = 0) (hF : va_P (gD X) vwCl (kCs a (kFb X a)) H) : gRep X mem0 H := by
  rw [ha] at hAd
  have hF0 := kP_hd hF
  have hF1 : va_P (gD X) vwCl (kCs (a + 1) (((((kMc X (a + 1) ++ kMc X (a + 19)) ++ kMc X (a + 37)) ++ kHc X (a + 55)) ++ kTc X (a + 129)) ++ kCd X (a + 131))) H := kP_tl hF
  obtain ⟨hF2, hCd⟩ := kP_split (n := 130) hF1 rfl
  obtain ⟨hF3, hTc⟩ := kP_split (n := 128) hF2 rfl
  obtain ⟨hF4, hHc⟩ := kP_split (n := 54) hF3 rfl
  obtain ⟨hF5, h2⟩ := kP_split (n := 36) hF4 rfl
  obtain ⟨h0, h1⟩ := kP_split (n := 18) hF5 rfl
  have hH0 := kP_hd hHc
  have hH1 := kP_hd (kP_tl hHc)
  have hH2 : va_P (gD X) vwCl (kCs (a + 57) (((kMc X (a + 55 + 2) ++ kMc X (a + 55 + 20)) ++ kMc X (a + 55 + 38)) ++ kMc X (a + 55 + 56))) H := kP_tl (kP_tl hHc)
  obtain ⟨hH3, h6⟩ := kP_split (n := 54) hH2 rfl
  obtain ⟨hH4, h5⟩ := kP_split (n := 36) hH3 rfl
  obtain ⟨h3, h4⟩ := kP_split (n := 18) hH4 rfl
  have hm : ∀ k, k < 7 → ∀ o, o < 18 → va_at (gD X) vwCl (gAd X k o, gE X k o (mem0 k o)) H := by
    intro k hk
    rcases (show k = 0 ∨ k = 1 ∨ k = 2 ∨ k = 3 ∨ k = 4 ∨ k = 5 ∨ k = 6 by omega) with rfl | rfl | rfl | rfl | rfl | rfl | rfl
    · exact st_m (a := a + 1) (by decide) (fun o ho => by rw [hAd]; show a + (1 + 18 * 0 + o) = _; omega) h0
    · exact st_m (a := a + 19) (by decide) (fun o ho => by rw [hAd]; show a + (1 + 18 * 1 + o) = _; omega) h1
    · exact st_m (a := a + 37) (by decide) (fun o ho => by rw [hAd]; show a + (1 + 18 * 2 + o) = _; omega) h2
    · exact st_m (a := a + 57) (by decide) (fun o ho => by rw [hAd]; show a + (3 + 18 * 3 + o) = _; omega) h3
    · exact st_m (a := a + 75) (by decide) (fun o ho => by rw [hAd]; show a + (3 + 18 * 4 + o) = _; omega) h4
    · exact st_m (a := a + 93) (by decide) (fun o ho => by rw [hAd]; show a + (3 + 18 * 5 + o) = _; omega) h5
    · exact st_m (a := a + 111) (by decide) (fun o ho => by rw [hAd]; show a + (3 + 18 * 6 + o) = _; omega) h6
  intro k q hq
  unfold gWs at hq
  rw [gId_0 hx, List.getElem?_map] at hq
  obtain ⟨z, hz, e⟩ := Option.map_eq_some_iff.mp hq
  subst e
  obtain ⟨k', o'⟩ := z
  rcases List.mem_append.mp (List.mem_of_getElem? hz) with h | h
  · obtain ⟨k2, hk2, h⟩ := List.mem_flatMap.mp h
    obtain ⟨o2, ho2, e⟩ := List.mem_map.mp h
    cases e
    exact hm _ (List.mem_range.mp hk2) _ (List.mem_range.mp ho2)
  · obtain ⟨o2, ho2, e⟩ := List.mem_map.mp h
    cases e
    have ho := List.mem_range.mp ho2
    rcases (show o' = 0 ∨ o' = 1 ∨ o' = 2 ∨ o' = 3 ∨ o' = 4 ∨ o' = 5 ∨ o' = 6 ∨ o' = 7 by omega) with rfl | rfl | rfl | rfl | rfl | rfl | rfl | rfl
    · show va_at (gD X) vwCl (gAd X 7 0, .inr (8, [.ref (gAd X 0 0), .ref (gAd X 1 0), .ref (gAd X 2 0), .ref (gAd X 7 1), .ref (gAd X 7 3), .ref (gAd X 7 5), .int (nI 0)])) H
      rw [hAd, hAd, hAd, hAd, hAd, hAd, hAd]
      exact hF0
    · show va_at (gD X) vwCl (gAd X 7 1, .inr (3, [.ref (gAd X 7 2), .int (nI 0)])) H
      rw [hAd, hAd]
      exact hH0
    · show va_at (gD X) vwCl (gAd X 7 2, .inl (gCl X 2, 4, .inr (.inr (.inr (.inr (fun j => some (gAd X (3 + j) 0))))))) H
      refine kHf_at (f := kHf (a + 55)) (fun j hj => ?_) (by rw [hAd]; exact hH1)
      rcases (show j = 0 ∨ j = 1 ∨ j = 2 ∨ j = 3 by omega) with rfl | rfl | rfl | rfl <;> rw [hAd] <;> rfl
    · show va_at (gD X) vwCl (gAd X 7 3, .inr (6, [.ref (gAd X 7 4), .int (nI 0)])) H
      rw [hAd, hAd]
      exact hTc 0 _ rfl
    · show va_at (gD X) vwCl (gAd X 7 4, .inl (gCl X 1, 80, .inl (fun _ => nI 0))) H
      rw [hAd]
      exact hTc 1 _ rfl
    · show va_at (gD X) vwCl (gAd X 7 5, .inr (1, [.ref (gAd X 7 6), .int (nI 0), .int (nI 0), .int (nI 0)])) H
      rw [hAd, hAd]
      exact hCd 0 _ rfl
    · show va_at (gD X) vwCl (gAd X 7 6, .inr (5, [.ref (gAd X 7 7)])) H
      rw [hAd, hAd]
      exact hCd 1 _ rfl
    · show va_at (gD X) vwCl (gAd X 7 7, gAr X 16 (fun _ => 0)) H
      rw [hAd]
      exact hCd 2 _ rfl
theorem st_mR : mR mM z0 := by
  refine ⟨?_, by decide, fun r q hr hq => ?_⟩
  · have key : ∀ j, j < 198 → mK j = true → mM (mO j) (mI j) = z0 j := by decide +kernel
    intro j hj
    refine key j ?_ hj
    unfold mK at hj
    simp only [Bool.or_eq_true, Bool.and_eq_true, Nat.ble_eq, beq_iff_eq] at hj
    omega
  · exact absurd (show r < 0 from hr) (Nat.not_lt_zero r)
/-- the class at the start; the law's arrays hold zeros -/
theorem st_cl {mem : gM} (h : ∀ k, k < 8 → mem k = mem0 k) : aCl S0 mem := by
  refine aCl_hi (mem := mem0) ⟨st_mR, ⟨rfl, by decide, ?_, ?_, fun i hi => absurd hi (Nat.not_lt_zero i)⟩, rfl, by decide, fun h => absurd (show 0 = 1 from h) (by decide), ⟨rfl, rfl, by decide, fun j hj => absurd hj (Nat.not_lt_zero j)⟩⟩ h
  · intro j hj
    show 3 ≤ 3 + j ∧ 3 + j < 7
    omega
  · intro i j hi hj e
    have e9 : 3 + i = 3 + j := e
    omega
theorem st_st : uSt mem0 := by
  intro j hj
  show 3 + j < 8
  omega
def zW (i : Nat) : Nat → Nat := fun j => if 100 ≤ j ∧ j < 100 + i then j - 100 else 0
theorem zW_s (i : Nat) : fU (zW i) (100 + i) i = zW (i + 1) := by
  funext j
  unfold zW fU
  by_cases e : j = 100 + i
  · rw [if_pos e, if_pos (by omega)]
    omega
  · rw [if_neg e]
    dsimp only
    by_cases g : 100 ≤ j ∧ j < 100 + i
    · rw [if_pos g, if_pos (by omega)]
    · rw [if_neg g, if_neg (by omega)]
theorem zW_4 : zW 4 = z0 := by
  funext j
  unfold zW z0
  by_cases h1 : j = 101
  · subst h1; decide
  by_cases h2 : j = 102
  · subst h2; decide
  by_cases h3 : j = 103
  · subst h3; decide
  rw [if_neg h1, if_neg h2, if_neg h3]
  by_cases h0 : j = 100
  · subst h0; decide
  · rw [if_neg (by omega)]
theorem uR_z {g : Nat → Nat → Nat} (h : ∀ o, o < 4 → ∀ i, g o i = 0) : uR g (zW 0) := by
  intro j hk
  obtain ⟨h1, h2⟩ := uK_at j (uK_lt hk) hk
  rw [h _ h1]
  unfold zW
  rw [if_neg (by omega)]
