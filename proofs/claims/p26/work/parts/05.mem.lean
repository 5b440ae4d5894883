/-! ===== the logical memory: group, object, slot; every int of a field or an array is nI of a Nat ===== -/
def fU {α : Type} (f : Nat → α) (i : Nat) (x : α) : Nat → α := fun j => if j = i then x else f j
theorem fU_s {α : Type} (f : Nat → α) (i : Nat) (x : α) : fU f i x i = x := if_pos rfl
theorem fU_n {α : Type} (f : Nat → α) {i j : Nat} (x : α) (h : ¬ j = i) : fU f i x j = f j := if_neg h
theorem fU_u {α : Type} (f : Nat → α) (i : Nat) (x y : α) : fU (fU f i x) i y = fU f i y := by
  funext j
  unfold fU
  by_cases h : j = i
  · rw [if_pos h, if_pos h]
  · rw [if_neg h, if_neg h, if_neg h]
theorem fU_self {α : Type} (f : Nat → α) (i : Nat) : fU f i (f i) = f := by
  funext j
  unfold fU
  by_cases h : j = i
  · rw [if_pos h, h]
  · rw [if_neg h]
theorem fU_map {α β : Type} (h : α → β) (f : Nat → α) (i : Nat) (x : α) (j : Nat) : h (fU f i x j) = fU (fun k => h (f k)) i (h x) j := by
  unfold fU
  by_cases e : j = i
  · rw [if_pos e, if_pos e]
  · rw [if_neg e, if_neg e]
abbrev gM : Type := Nat → Nat → Nat → Nat
/-- an object's slots anew -/
def gP (mem : gM) (k o : Nat) (f : Nat → Nat) : gM := fU mem k (fU (mem k) o f)
theorem gP_s (mem : gM) (k o : Nat) (f : Nat → Nat) : gP mem k o f k o = f := by unfold gP; rw [fU_s, fU_s]
theorem gP_k (mem : gM) (k o : Nat) (f : Nat → Nat) : gP mem k o f k = fU (mem k) o f := by unfold gP; rw [fU_s]
theorem gP_n (mem : gM) {k o k' o' : Nat} (f : Nat → Nat) (h : ¬ (k' = k ∧ o' = o)) : gP mem k o f k' o' = mem k' o' := by
  unfold gP
  by_cases e : k' = k
  · subst e
    rw [fU_s, fU_n _ _ (fun z => h ⟨rfl, z⟩)]
  · rw [fU_n _ _ e]
theorem gP_nk (mem : gM) {k o k' : Nat} (f : Nat → Nat) (h : ¬ k' = k) : gP mem k o f k' = mem k' := by
  unfold gP
  rw [fU_n _ _ h]
theorem gP_u (mem : gM) (k o : Nat) (f g : Nat → Nat) : gP (gP mem k o f) k o g = gP mem k o g := by
  unfold gP
  rw [fU_s, fU_u, fU_u]
theorem gP_self (mem : gM) (k o : Nat) : gP mem k o (mem k o) = mem := by
  unfold gP
  rw [fU_self, fU_self]
/-! what the addresses are, the array classes (0 int, 1 char, 2 Machine), where our own cells begin, how many arrays of the law stand -/
abbrev gX : Type := va_G × (Nat → Nat → Nat) × (Nat → ClassId) × Nat × Nat
def gD (X : gX) : va_G := X.1
def gAd (X : gX) : Nat → Nat → Nat := X.2.1
def gCl (X : gX) : Nat → ClassId := X.2.2.1
def gSz (X : gX) : Nat := X.2.2.2.1
def gXt (X : gX) : Nat := X.2.2.2.2
def gA (X : gX) : Nat → Prop := fun q => gSz X ≤ q
def gAr (X : gX) (n : Nat) (g : Nat → Nat) : va_E := .inl (gCl X 0, n, .inl (fun j => nI (g j)))
def gRw (X : gX) (k a : Nat) : va_E := .inr (5, [.ref (gAd X k a)])
def gEm (X : gX) (k : Nat) (g : Nat → Nat) (o : Nat) : va_E := match o with
  | 0 => .inr (4, [.ref (gAd X k 1), .ref (gAd X k 12), .ref (gAd X k 15), .int (nI (g 3)), .int (nI (g 4)), .int (nI (g 5)), .int (nI (g 6)), .int (nI (g 7))])
  | 1 => .inr (0, [.ref (gAd X k 2), .ref (gAd X k 4), .ref (gAd X k 6), .ref (gAd X k 8), .ref (gAd X k 10)])
  | 2 => gRw X k 3
  | 3 => gAr X 100 g
  | 4 => gRw X k 5
  | 5 => gAr X 8 g
  | 6 => gRw X k 7
  | 7 => gAr X 4 g
  | 8 => gRw X k 9
  | 9 => gAr X 8 g
  | 10 => gRw X k 11
  | 11 => gAr X 8 g
  | 12 => .inr (2, [.ref (gAd X k 13), .int (nI (g 1))])
  | 13 => gRw X k 14
  | 14 => gAr X 24 g
  | 15 => .inr (7, [.ref (gAd X k 16), .int (nI (g 1))])
  | 16 => gRw X k 17
  | _ => gAr X 36 g
def gEf (X : gX) (g : Nat → Nat) (o : Nat) : va_E := match o with
  | 0 => .inr (8, [.ref (gAd X 0 0), .ref (gAd X 1 0), .ref (gAd X 2 0), .ref (gAd X 7 1), .ref (gAd X 7 3), .ref (gAd X 7 5), .int (nI (g 6))])
  | 1 => .inr (3, [.ref (gAd X 7 2), .int (nI (g 1))])
  | 2 => .inl (gCl X 2, 4, .inr (.inr (.inr (.inr (fun j => some (gAd X (g j) 0))))))
  | 3 => .inr (6, [.ref (gAd X 7 4), .int (nI (g 1))])
  | 4 => .inl (gCl X 1, 80, .inl (fun j => nI (g j)))
  | 5 => .inr (1, [.ref (gAd X 7 6), .int (nI (g 1)), .int (nI (g 2)), .int (nI (g 3))])
  | 6 => gRw X 7 7
  | _ => gAr X 16 g
def gLn (o : Nat) : Nat := match o with
  | 0 => 36
  | 1 => 52
  | 2 => 48
  | _ => 28
/-- what an object's cell holds, by its slots -/
def gE (X : gX) (k o : Nat) (g : Nat → Nat) : va_E := if k < 7 then gEm X k g o else if k = 7 then gEf X g o else gAr X (gLn o) g
theorem gE_m {X : gX} {k : Nat} (h : k < 7) (o : Nat) (g : Nat → Nat) : gE X k o g = gEm X k g o := if_pos h
theorem gE_f (X : gX) (o : Nat) (g : Nat → Nat) : gE X 7 o g = gEf X g o := rfl
theorem gE_l {X : gX} {k : Nat} (h : 7 < k) (o : Nat) (g : Nat → Nat) : gE X k o g = gAr X (gLn o) g := by
  unfold gE
  rw [if_neg (by omega), if_neg (by omega)]
def gIds : List (Nat × Nat) := (List.range 7).flatMap (fun k => (List.range 18).map (fun o => (k, o))) ++ (List.range 8).map (fun o => (7, o))
theorem gI_m {k o : Nat} (hk : k < 7) (ho : o < 18) : (k, o) ∈ gIds := List.mem_append_left _ (List.mem_flatMap.mpr ⟨k, List.mem_range.mpr hk, List.mem_map.mpr ⟨o, List.mem_range.mpr ho, rfl⟩⟩)
theorem gI_f {o : Nat} (ho : o < 8) : (7, o) ∈ gIds := List.mem_append_right _ (List.mem_map.mpr ⟨o, List.mem_range.mpr ho, rfl⟩)
theorem gIds_len : gIds.length = 134 := by decide +kernel
theorem gIds_inj0 : ∀ i, i < 134 → ∀ j, j < 134 → gIds[i]? = gIds[j]? → i = j := by decide +kernel
theorem gIds_lt : ∀ q ∈ gIds, q.1 < 8 ∧ (q.1 < 7 → q.2 < 18) ∧ (q.1 = 7 → q.2 < 8) := by decide +kernel
/-- the law's arrays -/
def gLx (n : Nat) : List (Nat × Nat) := (List.range n).map (fun i => (8 + i / 4, i % 4))
def gId (X : gX) : List (Nat × Nat) := gIds ++ gLx (gXt X)
theorem gIx {X : gX} {q : Nat × Nat} (h : q ∈ gIds) : q ∈ gId X := List.mem_append_left _ h
theorem gLx_mem {n k o : Nat} (hk : 8 ≤ k) (ho : o < 4) (h : 4 * (k - 8) + o < n) : (k, o) ∈ gLx n := List.mem_map.mpr ⟨4 * (k - 8) + o, List.mem_range.mpr h, by rw [show 8 + (4 * (k - 8) + o) / 4 = k by omega, show (4 * (k - 8) + o) % 4 = o by omega]⟩
theorem gLx_at {n i : Nat} {q : Nat × Nat} (h : (gLx n)[i]? = some q) : i < n ∧ q.1 = 8 + i / 4 ∧ q.2 = i % 4 := by
  unfold gLx at h
  rw [List.getElem?_map] at h
  obtain ⟨z, hz, e⟩ := Option.map_eq_some_iff.mp h
  have h1 := List.getElem?_eq_some_iff.mp hz
  obtain ⟨h2, h3⟩ := h1
  rw [List.getElem_range] at h3
  rw [List.length_range] at h2
  subst h3
  rw [← e]
  exact ⟨h2, rfl, rfl⟩
theorem gId_at {X : gX} {i : Nat} {q : Nat × Nat} (h : (gId X)[i]? = some q) : (i < 134 ∧ gIds[i]? = some q) ∨ (134 ≤ i ∧ (gLx (gXt X))[i - 134]? = some q) := by
  unfold gId at h
  by_cases c : i < 134
  · rw [List.getElem?_append_left (by rw [gIds_len]; exact c)] at h
    exact Or.inl ⟨c, h⟩
  · rw [List.getElem?_append_right (by rw [gIds_len]; omega), gIds_len] at h
    exact Or.inr ⟨by omega, h⟩
theorem gIds_inj {X : gX} {i j : Nat} {q : Nat × Nat} (hi : (gId X)[i]? = some q) (hj : (gId X)[j]? = some q) : i = j := by
  rcases gId_at hi with ⟨a1, a2⟩ | ⟨a1, a2⟩
  · rcases gId_at hj with ⟨b1, b2⟩ | ⟨b1, b2⟩
    · exact gIds_inj0 i a1 j b1 (a2.trans b2.symm)
    · have h1 := (gIds_lt _ (List.mem_of_getElem? a2)).1
      have h2 := (gLx_at b2).2.1
      omega
  · rcases gId_at hj with ⟨b1, b2⟩ | ⟨b1, b2⟩
    · have h1 := (gIds_lt _ (List.mem_of_getElem? b2)).1
      have h2 := (gLx_at a2).2.1
      omega
    · obtain ⟨-, h1, h2⟩ := gLx_at a2
      obtain ⟨-, h3, h4⟩ := gLx_at b2
      omega
def gWs (X : gX) (mem : gM) : va_W := (gId X).map (fun q => (gAd X q.1 q.2, gE X q.1 q.2 (mem q.1 q.2)))
theorem gWs_at {X : gX} {mem : gM} {q0 k o : Nat} (h : (gId X)[q0]? = some (k, o)) : (gWs X mem)[q0]? = some (gAd X k o, gE X k o (mem k o)) := by
  unfold gWs
  rw [List.getElem?_map, h]
  rfl
theorem gWs_set {X : gX} {mem : gM} {q0 k o : Nat} (h : (gId X)[q0]? = some (k, o)) (f : Nat → Nat) : (gWs X mem).set q0 (gAd X k o, gE X k o f) = gWs X (gP mem k o f) := by
  have hl : q0 < (gWs X mem).length := (List.getElem?_eq_some_iff.mp (gWs_at (X := X) (mem := mem) h)).1
  apply List.ext_getElem?
  intro j
  by_cases hj : j = q0
  · subst hj
    rw [List.getElem?_set_self hl, gWs_at h, gP_s]
  · rw [List.getElem?_set_ne (Ne.symm hj)]
    cases hq : (gId X)[j]? with
    | none =>
      unfold gWs
      rw [List.getElem?_map, List.getElem?_map, hq]
      rfl
    | some q =>
      obtain ⟨k', o'⟩ := q
      rw [gWs_at hq, gWs_at hq, gP_n]
      rintro ⟨e1, e2⟩
      subst e1
      subst e2
      exact hj (gIds_inj hq h)
def gRep (X : gX) (mem : gM) (H : Heap) : Prop := va_P (gD X) vwCl (gWs X mem) H
def gInj (X : gX) : Prop := ∀ mem : gM, va_D (gA X) (gWs X mem)
def gTy (X : gX) : List (ClassId × FieldType) := [(gCl X 0, .int), (gCl X 1, .char), (gCl X 2, .object RX4)]
/-- two memories that agree where a cell can show it -/
theorem gRep_congr {X : gX} {mem mem' : gM} {H : Heap} (h : gRep X mem H) (he : ∀ k o, (k, o) ∈ gId X → ∀ D cl, va_at D cl (gAd X k o, gE X k o (mem k o)) H → va_at D cl (gAd X k o, gE X k o (mem' k o)) H) : gRep X mem' H := by
  intro k q hq
  unfold gWs at hq
  rw [List.getElem?_map] at hq
  cases hi : (gId X)[k]? with
  | none => rw [hi] at hq; cases hq
  | some z =>
    obtain ⟨k', o'⟩ := z
    rw [hi] at hq
    cases hq
    exact he k' o' (List.mem_of_getElem? hi) _ _ (h k _ (gWs_at hi))
/-- an int array's cell is what stands below its length -/
theorem gAr_congr {X : gX} {D : va_G} {cl : List vw_C} {a n : Nat} {f g : Nat → Nat} {H : Heap} (he : ∀ j, j < n → f j = g j) (h : va_at D cl (a, gAr X n f) H) : va_at D cl (a, gAr X n g) H := by
  have e : vp_cell (gCl X 0) (n, .inl (fun j => nI (f j))) = vp_cell (gCl X 0) (n, .inl (fun j => nI (g j))) := by
    rw [vp_cell_i, vp_cell_i]
    unfold arrV
    congr 1
    apply Array.ext
    · simp
    · intro i h1 h2
      simp only [Array.getElem_ofFn]
      rw [he i (by simpa using h1)]
  show H[a]? = some (vp_cell (gCl X 0) (n, .inl (fun j => nI (g j))))
  rw [← e]
  exact h
