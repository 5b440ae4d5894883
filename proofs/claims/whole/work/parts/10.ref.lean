/-! ===== the reference's seven cells side by side, and rows over them ===== -/
def gM8 (mem : gM) (f z a o k t r : Nat → Nat) : gM := fU mem 8 (fun j => match j with
  | 0 => f
  | 1 => z
  | 2 => a
  | 3 => o
  | 4 => k
  | 5 => t
  | 6 => r
  | j => mem 8 j)
theorem gM8_of (mem : gM) : mem = gM8 mem (mem 8 0) (mem 8 1) (mem 8 2) (mem 8 3) (mem 8 4) (mem 8 5) (mem 8 6) := by
  funext k
  unfold gM8 fU
  by_cases h : k = 8
  · rw [if_pos h, h]
    funext j
    match j with
    | 0 => rfl
    | 1 => rfl
    | 2 => rfl
    | 3 => rfl
    | 4 => rfl
    | 5 => rfl
    | 6 => rfl
    | j + 7 => rfl
  · rw [if_neg h]
theorem gM8_n (mem : gM) (f z a o k t r : Nat → Nat) {q : Nat} (h : ¬ q = 8) : gM8 mem f z a o k t r q = mem q := by
  unfold gM8
  rw [fU_n _ _ h]
theorem gM8_s (mem : gM) (f z a o k t r : Nat → Nat) : gM8 mem f z a o k t r 8 = (fun j => match j with
  | 0 => f
  | 1 => z
  | 2 => a
  | 3 => o
  | 4 => k
  | 5 => t
  | 6 => r
  | j => mem 8 j) := by
  unfold gM8
  rw [fU_s]
theorem gM8_u (mem : gM) (f z a o k t r f' z' a' o' k' t' r' : Nat → Nat) : gM8 (gM8 mem f z a o k t r) f' z' a' o' k' t' r' = gM8 mem f' z' a' o' k' t' r' := by
  unfold gM8
  rw [fU_u, fU_s]
  congr 1
  funext j
  match j with
  | 0 => rfl
  | 1 => rfl
  | 2 => rfl
  | 3 => rfl
  | 4 => rfl
  | 5 => rfl
  | 6 => rfl
  | j + 7 => rfl
theorem gM8_p0 (mem : gM) (f z a o k t r x : Nat → Nat) : gP (gM8 mem f z a o k t r) 8 0 x = gM8 mem x z a o k t r := by
  unfold gP gM8
  rw [fU_u, fU_s]
  congr 1
  funext j
  unfold fU
  match j with
  | 0 => rfl
  | 1 => rfl
  | 2 => rfl
  | 3 => rfl
  | 4 => rfl
  | 5 => rfl
  | 6 => rfl
  | j + 7 => rfl
theorem gM8_p1 (mem : gM) (f z a o k t r x : Nat → Nat) : gP (gM8 mem f z a o k t r) 8 1 x = gM8 mem f x a o k t r := by
  unfold gP gM8
  rw [fU_u, fU_s]
  congr 1
  funext j
  unfold fU
  match j with
  | 0 => rfl
  | 1 => rfl
  | 2 => rfl
  | 3 => rfl
  | 4 => rfl
  | 5 => rfl
  | 6 => rfl
  | j + 7 => rfl
theorem gM8_p2 (mem : gM) (f z a o k t r x : Nat → Nat) : gP (gM8 mem f z a o k t r) 8 2 x = gM8 mem f z x o k t r := by
  unfold gP gM8
  rw [fU_u, fU_s]
  congr 1
  funext j
  unfold fU
  match j with
  | 0 => rfl
  | 1 => rfl
  | 2 => rfl
  | 3 => rfl
  | 4 => rfl
  | 5 => rfl
  | 6 => rfl
  | j + 7 => rfl
theorem gM8_p3 (mem : gM) (f z a o k t r x : Nat → Nat) : gP (gM8 mem f z a o k t r) 8 3 x = gM8 mem f z a x k t r := by
  unfold gP gM8
  rw [fU_u, fU_s]
  congr 1
  funext j
  unfold fU
  match j with
  | 0 => rfl
  | 1 => rfl
  | 2 => rfl
  | 3 => rfl
  | 4 => rfl
  | 5 => rfl
  | 6 => rfl
  | j + 7 => rfl
theorem gM8_p4 (mem : gM) (f z a o k t r x : Nat → Nat) : gP (gM8 mem f z a o k t r) 8 4 x = gM8 mem f z a o x t r := by
  unfold gP gM8
  rw [fU_u, fU_s]
  congr 1
  funext j
  unfold fU
  match j with
  | 0 => rfl
  | 1 => rfl
  | 2 => rfl
  | 3 => rfl
  | 4 => rfl
  | 5 => rfl
  | 6 => rfl
  | j + 7 => rfl
theorem gM8_p5 (mem : gM) (f z a o k t r x : Nat → Nat) : gP (gM8 mem f z a o k t r) 8 5 x = gM8 mem f z a o k x r := by
  unfold gP gM8
  rw [fU_u, fU_s]
  congr 1
  funext j
  unfold fU
  match j with
  | 0 => rfl
  | 1 => rfl
  | 2 => rfl
  | 3 => rfl
  | 4 => rfl
  | 5 => rfl
  | 6 => rfl
  | j + 7 => rfl
theorem gM8_p6 (mem : gM) (f z a o k t r x : Nat → Nat) : gP (gM8 mem f z a o k t r) 8 6 x = gM8 mem f z a o k t x := by
  unfold gP gM8
  rw [fU_u, fU_s]
  congr 1
  funext j
  unfold fU
  match j with
  | 0 => rfl
  | 1 => rfl
  | 2 => rfl
  | 3 => rfl
  | 4 => rfl
  | 5 => rfl
  | 6 => rfl
  | j + 7 => rfl
section GR8
variable {p : Program} {l : Launch} {e : Env} {R : Room} {s : State} {m : MethodId} {args : Array Value} {below : List Frame} {meth : Method} {c : Code} {H : Heap} {locs : List Loc} {cells slots : Nat} {Q : State → Prop}
variable {cc : ByteArray} {pc : Nat} {ls : Array Slot} {rest : List Value} {X : gX} {own : String} {ret : Option FieldType} {nL : Nat} {mem : gM} {f z a o k t r : Nat → Nat}
theorem rt_3 {index : Nat} (C : gC X own cc ret nL p s m args meth c) (hR : gRep X (gM8 mem f z a o k t r) H) (hlink : Cond.fieldLink own index "FarBanksModel" "states" "I" ∈ wA) (hdg : decode cc pc = .ok (.getfield index, 3)) (kk : W p l e R s m args below meth c H locs cells slots Q (F0 m (pc + 3) ls (.int (nI (f 3)) :: rest))) : W p l e R s m args below meth c H locs cells slots Q (F0 m pc ls (.ref (gAd X 8 0) :: rest)) := gt_X9_3 C hR hlink hdg kk
theorem rp_3 {index x : Nat} (C : gC X own cc ret nL p s m args meth c) (hR : gRep X (gM8 mem f z a o k t r) H) (hS : va_S (gA X) s.heap H locs) (hlink : Cond.fieldLink own index "FarBanksModel" "states" "I" ∈ wA) (hdg : decode cc pc = .ok (.putfield index, 3)) (kk : ∀ (H1 : Heap) (locs1 : List Loc), gRep X (gM8 mem (fU f 3 x) z a o k t r) H1 → va_S (gA X) s.heap H1 locs1 → W p l e R s m args below meth c H1 locs1 cells slots Q (F0 m (pc + 3) ls rest)) : W p l e R s m args below meth c H locs cells slots Q (F0 m pc ls (.int (nI x) :: .ref (gAd X 8 0) :: rest)) := pt_X9_3 C hR hS hlink hdg (fun H1 l1 h => by
  rw [gM8_p0] at h
  exact kk H1 l1 h)
theorem rt_5 {index : Nat} (C : gC X own cc ret nL p s m args meth c) (hR : gRep X (gM8 mem f z a o k t r) H) (hlink : Cond.fieldLink own index "FarBanksModel" "isKept" "Z" ∈ wA) (hdg : decode cc pc = .ok (.getfield index, 3)) (kk : W p l e R s m args below meth c H locs cells slots Q (F0 m (pc + 3) ls (.int (nI (f 5)) :: rest))) : W p l e R s m args below meth c H locs cells slots Q (F0 m pc ls (.ref (gAd X 8 0) :: rest)) := gt_X9_5 C hR hlink hdg kk
theorem rp_5 {index x : Nat} (C : gC X own cc ret nL p s m args meth c) (hR : gRep X (gM8 mem f z a o k t r) H) (hS : va_S (gA X) s.heap H locs) (hx9 : x < 2) (hlink : Cond.fieldLink own index "FarBanksModel" "isKept" "Z" ∈ wA) (hdg : decode cc pc = .ok (.putfield index, 3)) (kk : ∀ (H1 : Heap) (locs1 : List Loc), gRep X (gM8 mem (fU f 5 x) z a o k t r) H1 → va_S (gA X) s.heap H1 locs1 → W p l e R s m args below meth c H1 locs1 cells slots Q (F0 m (pc + 3) ls rest)) : W p l e R s m args below meth c H locs cells slots Q (F0 m pc ls (.int (nI x) :: .ref (gAd X 8 0) :: rest)) := pt_X9_5 C hR hS hx9 hlink hdg (fun H1 l1 h => by
  rw [gM8_p0] at h
  exact kk H1 l1 h)
theorem rt_7 {index : Nat} (C : gC X own cc ret nL p s m args meth c) (hR : gRep X (gM8 mem f z a o k t r) H) (hlink : Cond.fieldLink own index "FarBanksModel" "length" "I" ∈ wA) (hdg : decode cc pc = .ok (.getfield index, 3)) (kk : W p l e R s m args below meth c H locs cells slots Q (F0 m (pc + 3) ls (.int (nI (f 7)) :: rest))) : W p l e R s m args below meth c H locs cells slots Q (F0 m pc ls (.ref (gAd X 8 0) :: rest)) := gt_X9_7 C hR hlink hdg kk
theorem rp_7 {index x : Nat} (C : gC X own cc ret nL p s m args meth c) (hR : gRep X (gM8 mem f z a o k t r) H) (hS : va_S (gA X) s.heap H locs) (hlink : Cond.fieldLink own index "FarBanksModel" "length" "I" ∈ wA) (hdg : decode cc pc = .ok (.putfield index, 3)) (kk : ∀ (H1 : Heap) (locs1 : List Loc), gRep X (gM8 mem (fU f 7 x) z a o k t r) H1 → va_S (gA X) s.heap H1 locs1 → W p l e R s m args below meth c H1 locs1 cells slots Q (F0 m (pc + 3) ls rest)) : W p l e R s m args below meth c H locs cells slots Q (F0 m pc ls (.int (nI x) :: .ref (gAd X 8 0) :: rest)) := pt_X9_7 C hR hS hlink hdg (fun H1 l1 h => by
  rw [gM8_p0] at h
  exact kk H1 l1 h)
theorem rt_8 {index : Nat} (C : gC X own cc ret nL p s m args meth c) (hR : gRep X (gM8 mem f z a o k t r) H) (hlink : Cond.fieldLink own index "FarBanksModel" "place" "I" ∈ wA) (hdg : decode cc pc = .ok (.getfield index, 3)) (kk : W p l e R s m args below meth c H locs cells slots Q (F0 m (pc + 3) ls (.int (nI (f 8)) :: rest))) : W p l e R s m args below meth c H locs cells slots Q (F0 m pc ls (.ref (gAd X 8 0) :: rest)) := gt_X9_8 C hR hlink hdg kk
theorem rp_8 {index x : Nat} (C : gC X own cc ret nL p s m args meth c) (hR : gRep X (gM8 mem f z a o k t r) H) (hS : va_S (gA X) s.heap H locs) (hlink : Cond.fieldLink own index "FarBanksModel" "place" "I" ∈ wA) (hdg : decode cc pc = .ok (.putfield index, 3)) (kk : ∀ (H1 : Heap) (locs1 : List Loc), gRep X (gM8 mem (fU f 8 x) z a o k t r) H1 → va_S (gA X) s.heap H1 locs1 → W p l e R s m args below meth c H1 locs1 cells slots Q (F0 m (pc + 3) ls rest)) : W p l e R s m args below meth c H locs cells slots Q (F0 m pc ls (.int (nI x) :: .ref (gAd X 8 0) :: rest)) := pt_X9_8 C hR hS hlink hdg (fun H1 l1 h => by
  rw [gM8_p0] at h
  exact kk H1 l1 h)
theorem rt_9 {index : Nat} (C : gC X own cc ret nL p s m args meth c) (hR : gRep X (gM8 mem f z a o k t r) H) (hlink : Cond.fieldLink own index "FarBanksModel" "isWrong" "Z" ∈ wA) (hdg : decode cc pc = .ok (.getfield index, 3)) (kk : W p l e R s m args below meth c H locs cells slots Q (F0 m (pc + 3) ls (.int (nI (f 9)) :: rest))) : W p l e R s m args below meth c H locs cells slots Q (F0 m pc ls (.ref (gAd X 8 0) :: rest)) := gt_X9_9 C hR hlink hdg kk
theorem rp_9 {index x : Nat} (C : gC X own cc ret nL p s m args meth c) (hR : gRep X (gM8 mem f z a o k t r) H) (hS : va_S (gA X) s.heap H locs) (hx9 : x < 2) (hlink : Cond.fieldLink own index "FarBanksModel" "isWrong" "Z" ∈ wA) (hdg : decode cc pc = .ok (.putfield index, 3)) (kk : ∀ (H1 : Heap) (locs1 : List Loc), gRep X (gM8 mem (fU f 9 x) z a o k t r) H1 → va_S (gA X) s.heap H1 locs1 → W p l e R s m args below meth c H1 locs1 cells slots Q (F0 m (pc + 3) ls rest)) : W p l e R s m args below meth c H locs cells slots Q (F0 m pc ls (.int (nI x) :: .ref (gAd X 8 0) :: rest)) := pt_X9_9 C hR hS hx9 hlink hdg (fun H1 l1 h => by
  rw [gM8_p0] at h
  exact kk H1 l1 h)
theorem rt_11 {index : Nat} (C : gC X own cc ret nL p s m args meth c) (hR : gRep X (gM8 mem f z a o k t r) H) (hlink : Cond.fieldLink own index "FarBanksModel" "many" "I" ∈ wA) (hdg : decode cc pc = .ok (.getfield index, 3)) (kk : W p l e R s m args below meth c H locs cells slots Q (F0 m (pc + 3) ls (.int (nI (f 11)) :: rest))) : W p l e R s m args below meth c H locs cells slots Q (F0 m pc ls (.ref (gAd X 8 0) :: rest)) := gt_X9_11 C hR hlink hdg kk
theorem rp_11 {index x : Nat} (C : gC X own cc ret nL p s m args meth c) (hR : gRep X (gM8 mem f z a o k t r) H) (hS : va_S (gA X) s.heap H locs) (hlink : Cond.fieldLink own index "FarBanksModel" "many" "I" ∈ wA) (hdg : decode cc pc = .ok (.putfield index, 3)) (kk : ∀ (H1 : Heap) (locs1 : List Loc), gRep X (gM8 mem (fU f 11 x) z a o k t r) H1 → va_S (gA X) s.heap H1 locs1 → W p l e R s m args below meth c H1 locs1 cells slots Q (F0 m (pc + 3) ls rest)) : W p l e R s m args below meth c H locs cells slots Q (F0 m pc ls (.int (nI x) :: .ref (gAd X 8 0) :: rest)) := pt_X9_11 C hR hS hlink hdg (fun H1 l1 h => by
  rw [gM8_p0] at h
  exact kk H1 l1 h)
theorem r_ald1 {i : Nat} (C : gC X own cc ret nL p s m args meth c) (hR : gRep X (gM8 mem f z a o k t r) H) (hi : i < 198) (hdg : decode cc pc = .ok (.iaload, 1)) (kk : W p l e R s m args below meth c H locs cells slots Q (F0 m (pc + 1) ls (.int (nI (z i)) :: rest))) : W p l e R s m args below meth c H locs cells slots Q (F0 m pc ls (.int (nI i) :: .ref (gAd X 8 1) :: rest)) := g_iald C hR (gI_r (by decide)) (fun _ => rfl) hi (by decide) hdg kk
theorem r_ast1 {i x : Nat} (C : gC X own cc ret nL p s m args meth c) (hR : gRep X (gM8 mem f z a o k t r) H) (hS : va_S (gA X) s.heap H locs) (hi : i < 198) (hdg : decode cc pc = .ok (.iastore, 1)) (kk : ∀ (H1 : Heap) (locs1 : List Loc), gRep X (gM8 mem f (fU z i x) a o k t r) H1 → va_S (gA X) s.heap H1 locs1 → W p l e R s m args below meth c H1 locs1 cells slots Q (F0 m (pc + 1) ls rest)) : W p l e R s m args below meth c H locs cells slots Q (F0 m pc ls (.int (nI x) :: .int (nI i) :: .ref (gAd X 8 1) :: rest)) := g_iast C hR hS (gI_r (by decide)) (fun _ => rfl) hi (by decide) hdg (fun H1 l1 h => by
  rw [gM8_p1] at h
  exact kk H1 l1 h)
theorem r_arr1 {g : Nat → Nat} (h : gRep X (gM8 mem f z a o k t r) H) (he : ∀ i, i < 198 → z i = g i) : gRep X (gM8 mem f g a o k t r) H := by
  rw [← gM8_p1 mem f z a o k t r g]
  refine gRep_arr (f := z) (n := 198) ?_ (fun _ => rfl) he
  rw [gM8_p1]
  exact h
theorem r_ald2 {i : Nat} (C : gC X own cc ret nL p s m args meth c) (hR : gRep X (gM8 mem f z a o k t r) H) (hi : i < 198) (hdg : decode cc pc = .ok (.iaload, 1)) (kk : W p l e R s m args below meth c H locs cells slots Q (F0 m (pc + 1) ls (.int (nI (a i)) :: rest))) : W p l e R s m args below meth c H locs cells slots Q (F0 m pc ls (.int (nI i) :: .ref (gAd X 8 2) :: rest)) := g_iald C hR (gI_r (by decide)) (fun _ => rfl) hi (by decide) hdg kk
theorem r_ast2 {i x : Nat} (C : gC X own cc ret nL p s m args meth c) (hR : gRep X (gM8 mem f z a o k t r) H) (hS : va_S (gA X) s.heap H locs) (hi : i < 198) (hdg : decode cc pc = .ok (.iastore, 1)) (kk : ∀ (H1 : Heap) (locs1 : List Loc), gRep X (gM8 mem f z (fU a i x) o k t r) H1 → va_S (gA X) s.heap H1 locs1 → W p l e R s m args below meth c H1 locs1 cells slots Q (F0 m (pc + 1) ls rest)) : W p l e R s m args below meth c H locs cells slots Q (F0 m pc ls (.int (nI x) :: .int (nI i) :: .ref (gAd X 8 2) :: rest)) := g_iast C hR hS (gI_r (by decide)) (fun _ => rfl) hi (by decide) hdg (fun H1 l1 h => by
  rw [gM8_p2] at h
  exact kk H1 l1 h)
theorem r_arr2 {g : Nat → Nat} (h : gRep X (gM8 mem f z a o k t r) H) (he : ∀ i, i < 198 → a i = g i) : gRep X (gM8 mem f z g o k t r) H := by
  rw [← gM8_p2 mem f z a o k t r g]
  refine gRep_arr (f := a) (n := 198) ?_ (fun _ => rfl) he
  rw [gM8_p2]
  exact h
theorem r_ald3 {i : Nat} (C : gC X own cc ret nL p s m args meth c) (hR : gRep X (gM8 mem f z a o k t r) H) (hi : i < 792) (hdg : decode cc pc = .ok (.iaload, 1)) (kk : W p l e R s m args below meth c H locs cells slots Q (F0 m (pc + 1) ls (.int (nI (o i)) :: rest))) : W p l e R s m args below meth c H locs cells slots Q (F0 m pc ls (.int (nI i) :: .ref (gAd X 8 3) :: rest)) := g_iald C hR (gI_r (by decide)) (fun _ => rfl) hi (by decide) hdg kk
theorem r_ast3 {i x : Nat} (C : gC X own cc ret nL p s m args meth c) (hR : gRep X (gM8 mem f z a o k t r) H) (hS : va_S (gA X) s.heap H locs) (hi : i < 792) (hdg : decode cc pc = .ok (.iastore, 1)) (kk : ∀ (H1 : Heap) (locs1 : List Loc), gRep X (gM8 mem f z a (fU o i x) k t r) H1 → va_S (gA X) s.heap H1 locs1 → W p l e R s m args below meth c H1 locs1 cells slots Q (F0 m (pc + 1) ls rest)) : W p l e R s m args below meth c H locs cells slots Q (F0 m pc ls (.int (nI x) :: .int (nI i) :: .ref (gAd X 8 3) :: rest)) := g_iast C hR hS (gI_r (by decide)) (fun _ => rfl) hi (by decide) hdg (fun H1 l1 h => by
  rw [gM8_p3] at h
  exact kk H1 l1 h)
theorem r_arr3 {g : Nat → Nat} (h : gRep X (gM8 mem f z a o k t r) H) (he : ∀ i, i < 792 → o i = g i) : gRep X (gM8 mem f z a g k t r) H := by
  rw [← gM8_p3 mem f z a o k t r g]
  refine gRep_arr (f := o) (n := 792) ?_ (fun _ => rfl) he
  rw [gM8_p3]
  exact h
theorem r_ald4 {i : Nat} (C : gC X own cc ret nL p s m args meth c) (hR : gRep X (gM8 mem f z a o k t r) H) (hi : i < 198) (hdg : decode cc pc = .ok (.iaload, 1)) (kk : W p l e R s m args below meth c H locs cells slots Q (F0 m (pc + 1) ls (.int (nI (k i)) :: rest))) : W p l e R s m args below meth c H locs cells slots Q (F0 m pc ls (.int (nI i) :: .ref (gAd X 8 4) :: rest)) := g_iald C hR (gI_r (by decide)) (fun _ => rfl) hi (by decide) hdg kk
theorem r_ast4 {i x : Nat} (C : gC X own cc ret nL p s m args meth c) (hR : gRep X (gM8 mem f z a o k t r) H) (hS : va_S (gA X) s.heap H locs) (hi : i < 198) (hdg : decode cc pc = .ok (.iastore, 1)) (kk : ∀ (H1 : Heap) (locs1 : List Loc), gRep X (gM8 mem f z a o (fU k i x) t r) H1 → va_S (gA X) s.heap H1 locs1 → W p l e R s m args below meth c H1 locs1 cells slots Q (F0 m (pc + 1) ls rest)) : W p l e R s m args below meth c H locs cells slots Q (F0 m pc ls (.int (nI x) :: .int (nI i) :: .ref (gAd X 8 4) :: rest)) := g_iast C hR hS (gI_r (by decide)) (fun _ => rfl) hi (by decide) hdg (fun H1 l1 h => by
  rw [gM8_p4] at h
  exact kk H1 l1 h)
theorem r_arr4 {g : Nat → Nat} (h : gRep X (gM8 mem f z a o k t r) H) (he : ∀ i, i < 198 → k i = g i) : gRep X (gM8 mem f z a o g t r) H := by
  rw [← gM8_p4 mem f z a o k t r g]
  refine gRep_arr (f := k) (n := 198) ?_ (fun _ => rfl) he
  rw [gM8_p4]
  exact h
theorem r_ald5 {i : Nat} (C : gC X own cc ret nL p s m args meth c) (hR : gRep X (gM8 mem f z a o k t r) H) (hi : i < 80) (hdg : decode cc pc = .ok (.iaload, 1)) (kk : W p l e R s m args below meth c H locs cells slots Q (F0 m (pc + 1) ls (.int (nI (t i)) :: rest))) : W p l e R s m args below meth c H locs cells slots Q (F0 m pc ls (.int (nI i) :: .ref (gAd X 8 5) :: rest)) := g_iald C hR (gI_r (by decide)) (fun _ => rfl) hi (by decide) hdg kk
theorem r_ast5 {i x : Nat} (C : gC X own cc ret nL p s m args meth c) (hR : gRep X (gM8 mem f z a o k t r) H) (hS : va_S (gA X) s.heap H locs) (hi : i < 80) (hdg : decode cc pc = .ok (.iastore, 1)) (kk : ∀ (H1 : Heap) (locs1 : List Loc), gRep X (gM8 mem f z a o k (fU t i x) r) H1 → va_S (gA X) s.heap H1 locs1 → W p l e R s m args below meth c H1 locs1 cells slots Q (F0 m (pc + 1) ls rest)) : W p l e R s m args below meth c H locs cells slots Q (F0 m pc ls (.int (nI x) :: .int (nI i) :: .ref (gAd X 8 5) :: rest)) := g_iast C hR hS (gI_r (by decide)) (fun _ => rfl) hi (by decide) hdg (fun H1 l1 h => by
  rw [gM8_p5] at h
  exact kk H1 l1 h)
theorem r_arr5 {g : Nat → Nat} (h : gRep X (gM8 mem f z a o k t r) H) (he : ∀ i, i < 80 → t i = g i) : gRep X (gM8 mem f z a o k g r) H := by
  rw [← gM8_p5 mem f z a o k t r g]
  refine gRep_arr (f := t) (n := 80) ?_ (fun _ => rfl) he
  rw [gM8_p5]
  exact h
theorem r_ald6 {i : Nat} (C : gC X own cc ret nL p s m args meth c) (hR : gRep X (gM8 mem f z a o k t r) H) (hi : i < 16) (hdg : decode cc pc = .ok (.iaload, 1)) (kk : W p l e R s m args below meth c H locs cells slots Q (F0 m (pc + 1) ls (.int (nI (r i)) :: rest))) : W p l e R s m args below meth c H locs cells slots Q (F0 m pc ls (.int (nI i) :: .ref (gAd X 8 6) :: rest)) := g_iald C hR (gI_r (by decide)) (fun _ => rfl) hi (by decide) hdg kk
theorem r_ast6 {i x : Nat} (C : gC X own cc ret nL p s m args meth c) (hR : gRep X (gM8 mem f z a o k t r) H) (hS : va_S (gA X) s.heap H locs) (hi : i < 16) (hdg : decode cc pc = .ok (.iastore, 1)) (kk : ∀ (H1 : Heap) (locs1 : List Loc), gRep X (gM8 mem f z a o k t (fU r i x)) H1 → va_S (gA X) s.heap H1 locs1 → W p l e R s m args below meth c H1 locs1 cells slots Q (F0 m (pc + 1) ls rest)) : W p l e R s m args below meth c H locs cells slots Q (F0 m pc ls (.int (nI x) :: .int (nI i) :: .ref (gAd X 8 6) :: rest)) := g_iast C hR hS (gI_r (by decide)) (fun _ => rfl) hi (by decide) hdg (fun H1 l1 h => by
  rw [gM8_p6] at h
  exact kk H1 l1 h)
theorem r_arr6 {g : Nat → Nat} (h : gRep X (gM8 mem f z a o k t r) H) (he : ∀ i, i < 16 → r i = g i) : gRep X (gM8 mem f z a o k t g) H := by
  rw [← gM8_p6 mem f z a o k t r g]
  refine gRep_arr (f := r) (n := 16) ?_ (fun _ => rfl) he
  rw [gM8_p6]
  exact h
end GR8
