/-! ===== rows over the logical memory: branches, fields, arrays, calls ===== -/
section GC
variable {p : Program} {l : Launch} {e : Env} {R : Room} {s : State} {m : MethodId} {args : Array Value} {below : List Frame} {meth : Method} {c : Code} {H : Heap} {locs : List Loc} {cells slots : Nat} {Q : State → Prop}
variable {cc : ByteArray} {pc : Nat} {ls : Array Slot} {rest : List Value} {X : gX} {own : String} {ret : Option FieldType} {nL : Nat} {mem : gM}
theorem g_icmp_eq {a b tgt : Nat} {off : Int} (C : gC X own cc ret nL p s m args meth c) (hdg : decode cc pc = .ok (.if_icmp .eq off, 3)) (ht : (pc : Int) + off = (tgt : Int)) (ha : a < 2 ^ 31) (hb : b < 2 ^ 31) (kt : a = b → W p l e R s m args below meth c H locs cells slots Q (F0 m tgt ls rest)) (kf : ¬ a = b → W p l e R s m args below meth c H locs cells slots Q (F0 m (pc + 3) ls rest)) : W p l e R s m args below meth c H locs cells slots Q (F0 m pc ls (.int (nI b) :: .int (nI a) :: rest)) := lv_icmp_eq C.1 C.2.1 hdg ht (fun h => kt ((nI_eq ha hb).mp h)) (fun h => kf (fun z => h ((nI_eq ha hb).mpr z)))
theorem g_icmp_ne {a b tgt : Nat} {off : Int} (C : gC X own cc ret nL p s m args meth c) (hdg : decode cc pc = .ok (.if_icmp .ne off, 3)) (ht : (pc : Int) + off = (tgt : Int)) (ha : a < 2 ^ 31) (hb : b < 2 ^ 31) (kt : ¬ a = b → W p l e R s m args below meth c H locs cells slots Q (F0 m tgt ls rest)) (kf : a = b → W p l e R s m args below meth c H locs cells slots Q (F0 m (pc + 3) ls rest)) : W p l e R s m args below meth c H locs cells slots Q (F0 m pc ls (.int (nI b) :: .int (nI a) :: rest)) := lv_icmp_ne C.1 C.2.1 hdg ht (fun h => kt (fun z => h ((nI_eq ha hb).mpr z))) (fun h => kf ((nI_eq ha hb).mp h))
theorem g_icmp_lt {a b tgt : Nat} {off : Int} (C : gC X own cc ret nL p s m args meth c) (hdg : decode cc pc = .ok (.if_icmp .lt off, 3)) (ht : (pc : Int) + off = (tgt : Int)) (ha : a < 2 ^ 31) (hb : b < 2 ^ 31) (kt : a < b → W p l e R s m args below meth c H locs cells slots Q (F0 m tgt ls rest)) (kf : b ≤ a → W p l e R s m args below meth c H locs cells slots Q (F0 m (pc + 3) ls rest)) : W p l e R s m args below meth c H locs cells slots Q (F0 m pc ls (.int (nI b) :: .int (nI a) :: rest)) := lv_icmp_lt C.1 C.2.1 hdg ht (fun h => kt ((nI_ltI ha hb).mp h)) (fun h => kf (Nat.not_lt.mp (fun z => h ((nI_ltI ha hb).mpr z))))
theorem g_icmp_ge {a b tgt : Nat} {off : Int} (C : gC X own cc ret nL p s m args meth c) (hdg : decode cc pc = .ok (.if_icmp .ge off, 3)) (ht : (pc : Int) + off = (tgt : Int)) (ha : a < 2 ^ 31) (hb : b < 2 ^ 31) (kt : b ≤ a → W p l e R s m args below meth c H locs cells slots Q (F0 m tgt ls rest)) (kf : a < b → W p l e R s m args below meth c H locs cells slots Q (F0 m (pc + 3) ls rest)) : W p l e R s m args below meth c H locs cells slots Q (F0 m pc ls (.int (nI b) :: .int (nI a) :: rest)) := lv_icmp_ge C.1 C.2.1 hdg ht (fun h => kt ((nI_leI hb ha).mp h)) (fun h => kf (Nat.not_le.mp (fun z => h ((nI_leI hb ha).mpr z))))
theorem g_icmp_gt {a b tgt : Nat} {off : Int} (C : gC X own cc ret nL p s m args meth c) (hdg : decode cc pc = .ok (.if_icmp .gt off, 3)) (ht : (pc : Int) + off = (tgt : Int)) (ha : a < 2 ^ 31) (hb : b < 2 ^ 31) (kt : b < a → W p l e R s m args below meth c H locs cells slots Q (F0 m tgt ls rest)) (kf : a ≤ b → W p l e R s m args below meth c H locs cells slots Q (F0 m (pc + 3) ls rest)) : W p l e R s m args below meth c H locs cells slots Q (F0 m pc ls (.int (nI b) :: .int (nI a) :: rest)) := lv_icmp_gt C.1 C.2.1 hdg ht (fun h => kt ((nI_ltI hb ha).mp h)) (fun h => kf (Nat.not_lt.mp (fun z => h ((nI_ltI hb ha).mpr z))))
theorem g_icmp_le {a b tgt : Nat} {off : Int} (C : gC X own cc ret nL p s m args meth c) (hdg : decode cc pc = .ok (.if_icmp .le off, 3)) (ht : (pc : Int) + off = (tgt : Int)) (ha : a < 2 ^ 31) (hb : b < 2 ^ 31) (kt : a ≤ b → W p l e R s m args below meth c H locs cells slots Q (F0 m tgt ls rest)) (kf : b < a → W p l e R s m args below meth c H locs cells slots Q (F0 m (pc + 3) ls rest)) : W p l e R s m args below meth c H locs cells slots Q (F0 m pc ls (.int (nI b) :: .int (nI a) :: rest)) := lv_icmp_le C.1 C.2.1 hdg ht (fun h => kt ((nI_leI ha hb).mp h)) (fun h => kf (Nat.not_le.mp (fun z => h ((nI_leI ha hb).mpr z))))
theorem g_if_eq {a tgt : Nat} {off : Int} (C : gC X own cc ret nL p s m args meth c) (hdg : decode cc pc = .ok (.ifCond .eq off, 3)) (ht : (pc : Int) + off = (tgt : Int)) (ha : a < 2 ^ 31) (kt : a = 0 → W p l e R s m args below meth c H locs cells slots Q (F0 m tgt ls rest)) (kf : ¬ a = 0 → W p l e R s m args below meth c H locs cells slots Q (F0 m (pc + 3) ls rest)) : W p l e R s m args below meth c H locs cells slots Q (F0 m pc ls (.int (nI a) :: rest)) := lv_if_eq C.1 C.2.1 hdg ht (fun h => kt ((nI_eq ha (by decide)).mp h)) (fun h => kf (fun z => h ((nI_eq ha (by decide)).mpr z)))
theorem g_if_ne {a tgt : Nat} {off : Int} (C : gC X own cc ret nL p s m args meth c) (hdg : decode cc pc = .ok (.ifCond .ne off, 3)) (ht : (pc : Int) + off = (tgt : Int)) (ha : a < 2 ^ 31) (kt : ¬ a = 0 → W p l e R s m args below meth c H locs cells slots Q (F0 m tgt ls rest)) (kf : a = 0 → W p l e R s m args below meth c H locs cells slots Q (F0 m (pc + 3) ls rest)) : W p l e R s m args below meth c H locs cells slots Q (F0 m pc ls (.int (nI a) :: rest)) := lv_if_ne C.1 C.2.1 hdg ht (fun h => kt (fun z => h ((nI_eq ha (by decide)).mpr z))) (fun h => kf ((nI_eq ha (by decide)).mp h))
theorem g_if_gt {a tgt : Nat} {off : Int} (C : gC X own cc ret nL p s m args meth c) (hdg : decode cc pc = .ok (.ifCond .gt off, 3)) (ht : (pc : Int) + off = (tgt : Int)) (ha : a < 2 ^ 31) (kt : 0 < a → W p l e R s m args below meth c H locs cells slots Q (F0 m tgt ls rest)) (kf : a = 0 → W p l e R s m args below meth c H locs cells slots Q (F0 m (pc + 3) ls rest)) : W p l e R s m args below meth c H locs cells slots Q (F0 m pc ls (.int (nI a) :: rest)) := lv_if_gt C.1 C.2.1 hdg ht (fun h => kt ((nI_ltI (by decide) ha).mp h)) (fun h => kf (Nat.le_zero.mp (Nat.not_lt.mp (fun z => h ((nI_ltI (by decide) ha).mpr z)))))
theorem g_if_le {a tgt : Nat} {off : Int} (C : gC X own cc ret nL p s m args meth c) (hdg : decode cc pc = .ok (.ifCond .le off, 3)) (ht : (pc : Int) + off = (tgt : Int)) (ha : a < 2 ^ 31) (kt : a = 0 → W p l e R s m args below meth c H locs cells slots Q (F0 m tgt ls rest)) (kf : 0 < a → W p l e R s m args below meth c H locs cells slots Q (F0 m (pc + 3) ls rest)) : W p l e R s m args below meth c H locs cells slots Q (F0 m pc ls (.int (nI a) :: rest)) := lv_if_le C.1 C.2.1 hdg ht (fun h => kt (Nat.le_zero.mp ((nI_leI ha (by decide)).mp h))) (fun h => kf (Nat.not_le.mp (fun z => h ((nI_leI ha (by decide)).mpr z))))
theorem g_if_lt {a tgt : Nat} {off : Int} (C : gC X own cc ret nL p s m args meth c) (hdg : decode cc pc = .ok (.ifCond .lt off, 3)) (ht : (pc : Int) + off = (tgt : Int)) (ha : a < 2 ^ 31) (kf : W p l e R s m args below meth c H locs cells slots Q (F0 m (pc + 3) ls rest)) : W p l e R s m args below meth c H locs cells slots Q (F0 m pc ls (.int (nI a) :: rest)) := lv_if_lt C.1 C.2.1 hdg ht (fun h => absurd h (nI_pos ha)) (fun _ => kf)
theorem g_if_ge {a tgt : Nat} {off : Int} (C : gC X own cc ret nL p s m args meth c) (hdg : decode cc pc = .ok (.ifCond .ge off, 3)) (ht : (pc : Int) + off = (tgt : Int)) (ha : a < 2 ^ 31) (kt : W p l e R s m args below meth c H locs cells slots Q (F0 m tgt ls rest)) : W p l e R s m args below meth c H locs cells slots Q (F0 m pc ls (.int (nI a) :: rest)) := lv_if_ge C.1 C.2.1 hdg ht (fun _ => kt) (fun h => absurd (nI_pos' ha) h)
theorem g_get {k o ci N index : Nat} {ref Cn : String} {T : u_T} {fs : List Value} {v : Value} (C : gC X own cc ret nL p s m args meth c) (hR : gRep X mem H) (hv : (k, o) ∈ gIds) (hsh : gE X k o (mem k o) = .inr (ci, fs)) (hc : vwCl[ci]? = some (Cn, T, N)) (hin : ∀ w ∈ u_ws Cn T N, w ∈ wA) (i : Nat) (hi : i < N) (hlink : Cond.fieldLink own index ref (T i).2.1 (T i).2.2.1 ∈ wA) (hsame : (T i).1 = ref) (hval : fs[i]? = some v) (hdg : decode cc pc = .ok (.getfield index, 3)) (kk : W p l e R s m args below meth c H locs cells slots Q (F0 m (pc + 3) ls (v :: rest))) : W p l e R s m args below meth c H locs cells slots Q (F0 m pc ls (.ref (gAd X k o) :: rest)) := by
  obtain ⟨hx, hb, -, -, hown, hA, -, -, hE⟩ := C
  obtain ⟨q0, hq⟩ := List.getElem?_of_mem (gIx (X := X) hv)
  have he : (gWs X mem)[q0]? = some (gAd X k o, .inr (ci, fs)) := by rw [gWs_at hq, hsh]
  exact va_get hx hb hA hin hown hE.1 hR q0 he hc i hi (hA _ hlink) (fun x h => by rw [← hsame]; exact h) hval hdg kk
theorem g_getN {k o ci N index : Nat} {ref Cn host : String} {T : u_T} {fs : List Value} {v : Value} (C : gC X own cc ret nL p s m args meth c) (hR : gRep X mem H) (hv : (k, o) ∈ gIds) (hsh : gE X k o (mem k o) = .inr (ci, fs)) (hc : vwCl[ci]? = some (Cn, T, N)) (hin : ∀ w ∈ u_ws Cn T N, w ∈ wA) (i : Nat) (hi : i < N) (hlink : (own, index, ref, (T i).2.1, (T i).2.2.1, host) ∈ gNf) (hsame : (T i).1 = ref) (hval : fs[i]? = some v) (hdg : decode cc pc = .ok (.getfield index, 3)) (kk : W p l e R s m args below meth c H locs cells slots Q (F0 m (pc + 3) ls (v :: rest))) : W p l e R s m args below meth c H locs cells slots Q (F0 m pc ls (.ref (gAd X k o) :: rest)) := by
  obtain ⟨hx, hb, -, -, hown, hA, -, -, hE⟩ := C
  obtain ⟨q0, hq⟩ := List.getElem?_of_mem (gIx (X := X) hv)
  have he : (gWs X mem)[q0]? = some (gAd X k o, .inr (ci, fs)) := by rw [gWs_at hq, hsh]
  have hl := hE.2.1.1 _ hlink
  exact va_getN hx hb hA hin hown hE.1 hR q0 he hc i hi (va_Nw.use rfl hl) (fun x h => by rw [← hsame]; exact h) hval hdg kk
theorem g_put {k o ci N index : Nat} {ref Cn : String} {T : u_T} {fs : List Value} {v : Value} {ty0 : Nat → FieldType} {ty : FieldType} (C : gC X own cc ret nL p s m args meth c) (hR : gRep X mem H) (hS : va_S (gA X) s.heap H locs) (hv : (k, o) ∈ gIds) (hsh : gE X k o (mem k o) = .inr (ci, fs)) (hc : vwCl[ci]? = some (Cn, T, N)) (hin : ∀ w ∈ u_ws Cn T N, w ∈ wA) (hty : ∀ k, k < N → parseFieldDescriptor (T k).2.2.1 = some (ty0 k)) (hnm : ∀ a, a < N → ∀ b, b < N → a ≠ b → (T a).2.1 ≠ (T b).2.1) (i : Nat) (hi : i < N) (hlink : Cond.fieldLink own index ref (T i).2.1 (T i).2.2.1 ∈ wA) (hsame : (T i).1 = ref) (hfin : (T i).2.2.2 = false) (hd : parseFieldDescriptor (T i).2.2.1 = some ty) (hn : narrow ty v = v) (hfit : fits ty v = true) (hl : i < fs.length) (f : Nat → Nat) (hnew : gE X k o f = .inr (ci, fs.set i v)) (hdg : decode cc pc = .ok (.putfield index, 3)) (kk : ∀ (H1 : Heap) (locs1 : List Loc), gRep X (gP mem k o f) H1 → va_S (gA X) s.heap H1 locs1 → W p l e R s m args below meth c H1 locs1 cells slots Q (F0 m (pc + 3) ls rest)) : W p l e R s m args below meth c H locs cells slots Q (F0 m pc ls (v :: .ref (gAd X k o) :: rest)) := by
  obtain ⟨hx, hb, -, -, hown, hA, -, hI, hE⟩ := C
  obtain ⟨q0, hq⟩ := List.getElem?_of_mem (gIx (X := X) hv)
  have he : (gWs X mem)[q0]? = some (gAd X k o, .inr (ci, fs)) := by rw [gWs_at hq, hsh]
  refine va_put hx hb hA hin ty0 hty hnm hown hE.1 hR (hI mem) hS q0 he hc i hi (hA _ hlink) (fun x h => by rw [← hsame]; exact h) hfin hd hn hfit hl hdg (fun H1 locs1 hP hD hS1 => kk H1 locs1 ?_ hS1)
  rw [← hnew, gWs_set hq] at hP
  exact hP
theorem g_putN {k o ci N index : Nat} {ref Cn host : String} {T : u_T} {fs : List Value} {v : Value} {ty0 : Nat → FieldType} {ty : FieldType} (C : gC X own cc ret nL p s m args meth c) (hR : gRep X mem H) (hS : va_S (gA X) s.heap H locs) (hv : (k, o) ∈ gIds) (hsh : gE X k o (mem k o) = .inr (ci, fs)) (hc : vwCl[ci]? = some (Cn, T, N)) (hin : ∀ w ∈ u_ws Cn T N, w ∈ wA) (hty : ∀ k, k < N → parseFieldDescriptor (T k).2.2.1 = some (ty0 k)) (hnm : ∀ a, a < N → ∀ b, b < N → a ≠ b → (T a).2.1 ≠ (T b).2.1) (i : Nat) (hi : i < N) (hlink : (own, index, ref, (T i).2.1, (T i).2.2.1, host) ∈ gNf) (hsame : (T i).1 = ref) (hfin : (T i).2.2.2 = false) (hd : parseFieldDescriptor (T i).2.2.1 = some ty) (hn : narrow ty v = v) (hfit : fits ty v = true) (hl : i < fs.length) (f : Nat → Nat) (hnew : gE X k o f = .inr (ci, fs.set i v)) (hdg : decode cc pc = .ok (.putfield index, 3)) (kk : ∀ (H1 : Heap) (locs1 : List Loc), gRep X (gP mem k o f) H1 → va_S (gA X) s.heap H1 locs1 → W p l e R s m args below meth c H1 locs1 cells slots Q (F0 m (pc + 3) ls rest)) : W p l e R s m args below meth c H locs cells slots Q (F0 m pc ls (v :: .ref (gAd X k o) :: rest)) := by
  obtain ⟨hx, hb, -, -, hown, hA, -, hI, hE⟩ := C
  obtain ⟨q0, hq⟩ := List.getElem?_of_mem (gIx (X := X) hv)
  have he : (gWs X mem)[q0]? = some (gAd X k o, .inr (ci, fs)) := by rw [gWs_at hq, hsh]
  have hl9 := hE.2.1.1 _ hlink
  refine va_putN hx hb hA hin ty0 hty hnm hown hE.1 hR (hI mem) hS q0 he hc i hi (va_Nw.use rfl hl9) (fun x h => by rw [← hsame]; exact h) hfin hd hn hfit hl hdg (fun H1 locs1 hP hD hS1 => kk H1 locs1 ?_ hS1)
  rw [← hnew, gWs_set hq] at hP
  exact hP
/-! arrays of ints -/
theorem g_iald {k o n i : Nat} (C : gC X own cc ret nL p s m args meth c) (hR : gRep X mem H) (hv : (k, o) ∈ gId X) (hsh : ∀ g, gE X k o g = gAr X n g) (hi : i < n) (hn : n < 2 ^ 31) (hdg : decode cc pc = .ok (.iaload, 1)) (kk : W p l e R s m args below meth c H locs cells slots Q (F0 m (pc + 1) ls (.int (nI (mem k o i)) :: rest))) : W p l e R s m args below meth c H locs cells slots Q (F0 m pc ls (.int (nI i) :: .ref (gAd X k o) :: rest)) := by
  obtain ⟨hx, hb, -, -, hown, hA, -, -, hE⟩ := C
  obtain ⟨q0, hq⟩ := List.getElem?_of_mem hv
  have he : (gWs X mem)[q0]? = some (gAd X k o, .inl (gCl X 0, n, .inl (fun j => nI (mem k o j)))) := by rw [gWs_at hq, hsh]; rfl
  refine va_iald hx hb hE.1 hR q0 0 he rfl (vp_in_nI hi hn) hdg ?_
  rw [nI_clamp (by omega)]
  exact kk
theorem g_iast {k o n i x : Nat} (C : gC X own cc ret nL p s m args meth c) (hR : gRep X mem H) (hS : va_S (gA X) s.heap H locs) (hv : (k, o) ∈ gId X) (hsh : ∀ g, gE X k o g = gAr X n g) (hi : i < n) (hn : n < 2 ^ 31) (hdg : decode cc pc = .ok (.iastore, 1)) (kk : ∀ (H1 : Heap) (locs1 : List Loc), gRep X (gP mem k o (fU (mem k o) i x)) H1 → va_S (gA X) s.heap H1 locs1 → W p l e R s m args below meth c H1 locs1 cells slots Q (F0 m (pc + 1) ls rest)) : W p l e R s m args below meth c H locs cells slots Q (F0 m pc ls (.int (nI x) :: .int (nI i) :: .ref (gAd X k o) :: rest)) := by
  obtain ⟨hx, hb, -, -, hown, hA, -, hI, hE⟩ := C
  obtain ⟨q0, hq⟩ := List.getElem?_of_mem hv
  have he : (gWs X mem)[q0]? = some (gAd X k o, .inl (gCl X 0, n, .inl (fun j => nI (mem k o j)))) := by rw [gWs_at hq, hsh]; rfl
  refine va_iast hx hb hE.1 hR (hI mem) hS q0 0 he rfl (vp_in_nI hi hn) hdg (fun H1 locs1 hP hD hS1 => kk H1 locs1 ?_ hS1)
  rw [nI_clamp (by omega)] at hP
  have e9 : (.inl (gCl X 0, n, .inl (upd (fun j => nI (mem k o j)) i (nI x))) : va_E) = gE X k o (fU (mem k o) i x) := by
    rw [hsh]
    show _ = (.inl (gCl X 0, n, .inl (fun j => nI (fU (mem k o) i x j))) : va_E)
    have e8 : upd (fun j => nI (mem k o j)) i (nI x) = fun j => nI (fU (mem k o) i x j) := by
      funext j
      unfold upd fU
      by_cases h : j = i
      · rw [if_pos h, if_pos h]
      · rw [if_neg h, if_neg h]
    rw [e8]
  rw [e9, gWs_set hq] at hP
  exact hP
theorem g_alen {k o n : Nat} (C : gC X own cc ret nL p s m args meth c) (hR : gRep X mem H) (hv : (k, o) ∈ gId X) (hsh : ∀ g, gE X k o g = gAr X n g) (hdg : decode cc pc = .ok (.arraylength, 1)) (kk : W p l e R s m args below meth c H locs cells slots Q (F0 m (pc + 1) ls (.int (nI n) :: rest))) : W p l e R s m args below meth c H locs cells slots Q (F0 m pc ls (.ref (gAd X k o) :: rest)) := by
  obtain ⟨hx, hb, -, -, hown, hA, -, -, hE⟩ := C
  obtain ⟨q0, hq⟩ := List.getElem?_of_mem hv
  have he : (gWs X mem)[q0]? = some (gAd X k o, .inl (gCl X 0, n, .inl (fun j => nI (mem k o j)))) := by rw [gWs_at hq, hsh]; rfl
  exact va_alen hx hb hE.1 hR q0 0 he (ty := .int) rfl rfl hdg kk
/-! the text's characters, the history's states -/
theorem g_cald {i : Nat} (C : gC X own cc ret nL p s m args meth c) (hR : gRep X mem H) (hi : i < 80) (hdg : decode cc pc = .ok (.caload, 1)) (kk : W p l e R s m args below meth c H locs cells slots Q (F0 m (pc + 1) ls (.int (nI (mem 7 4 i)) :: rest))) : W p l e R s m args below meth c H locs cells slots Q (F0 m pc ls (.int (nI i) :: .ref (gAd X 7 4) :: rest)) := by
  obtain ⟨hx, hb, -, -, hown, hA, -, -, hE⟩ := C
  obtain ⟨q0, hq⟩ := List.getElem?_of_mem (gIx (X := X) <| gI_f (o := 4) (by decide))
  have he : (gWs X mem)[q0]? = some (gAd X 7 4, .inl (gCl X 1, 80, .inl (fun j => nI (mem 7 4 j)))) := by rw [gWs_at hq]; rfl
  refine va_cald hx hb hE.1 hR q0 1 he rfl (vp_in_nI hi (by decide)) hdg ?_
  rw [nI_clamp (by omega)]
  exact kk
theorem g_cast {i x : Nat} (C : gC X own cc ret nL p s m args meth c) (hR : gRep X mem H) (hS : va_S (gA X) s.heap H locs) (hi : i < 80) (hx9 : x < 65536) (hdg : decode cc pc = .ok (.castore, 1)) (kk : ∀ (H1 : Heap) (locs1 : List Loc), gRep X (gP mem 7 4 (fU (mem 7 4) i x)) H1 → va_S (gA X) s.heap H1 locs1 → W p l e R s m args below meth c H1 locs1 cells slots Q (F0 m (pc + 1) ls rest)) : W p l e R s m args below meth c H locs cells slots Q (F0 m pc ls (.int (nI x) :: .int (nI i) :: .ref (gAd X 7 4) :: rest)) := by
  obtain ⟨hx, hb, -, -, hown, hA, -, hI, hE⟩ := C
  obtain ⟨q0, hq⟩ := List.getElem?_of_mem (gIx (X := X) <| gI_f (o := 4) (by decide))
  have he : (gWs X mem)[q0]? = some (gAd X 7 4, .inl (gCl X 1, 80, .inl (fun j => nI (mem 7 4 j)))) := by rw [gWs_at hq]; rfl
  refine va_cast hx hb hE.1 hR (hI mem) hS q0 1 he rfl (vp_in_nI hi (by decide)) hdg (fun H1 locs1 hP hD hS1 => kk H1 locs1 ?_ hS1)
  have e7 : vp_nar .char (nI x) = nI x := by
    unfold vp_nar
    rw [(pk_charN hx9).1]
  rw [nI_clamp (by omega), e7] at hP
  have e9 : (.inl (gCl X 1, 80, .inl (upd (fun j => nI (mem 7 4 j)) i (nI x))) : va_E) = gE X 7 4 (fU (mem 7 4) i x) := by
    show _ = (.inl (gCl X 1, 80, .inl (fun j => nI (fU (mem 7 4) i x j))) : va_E)
    have e8 : upd (fun j => nI (mem 7 4 j)) i (nI x) = fun j => nI (fU (mem 7 4) i x j) := by
      funext j
      unfold upd fU
      by_cases h : j = i
      · rw [if_pos h, if_pos h]
      · rw [if_neg h, if_neg h]
    rw [e8]
  rw [e9, gWs_set hq] at hP
  exact hP
theorem g_clen (C : gC X own cc ret nL p s m args meth c) (hR : gRep X mem H) (hdg : decode cc pc = .ok (.arraylength, 1)) (kk : W p l e R s m args below meth c H locs cells slots Q (F0 m (pc + 1) ls (.int (nI 80) :: rest))) : W p l e R s m args below meth c H locs cells slots Q (F0 m pc ls (.ref (gAd X 7 4) :: rest)) := by
  obtain ⟨hx, hb, -, -, hown, hA, -, -, hE⟩ := C
  obtain ⟨q0, hq⟩ := List.getElem?_of_mem (gIx (X := X) <| gI_f (o := 4) (by decide))
  have he : (gWs X mem)[q0]? = some (gAd X 7 4, .inl (gCl X 1, 80, .inl (fun j => nI (mem 7 4 j)))) := by rw [gWs_at hq]; rfl
  exact va_alen hx hb hE.1 hR q0 1 he (ty := .char) rfl rfl hdg kk
theorem g_slen (C : gC X own cc ret nL p s m args meth c) (hR : gRep X mem H) (hdg : decode cc pc = .ok (.arraylength, 1)) (kk : W p l e R s m args below meth c H locs cells slots Q (F0 m (pc + 1) ls (.int (nI 4) :: rest))) : W p l e R s m args below meth c H locs cells slots Q (F0 m pc ls (.ref (gAd X 7 2) :: rest)) := by
  obtain ⟨hx, hb, -, -, hown, hA, -, -, hE⟩ := C
  obtain ⟨q0, hq⟩ := List.getElem?_of_mem (gIx (X := X) <| gI_f (o := 2) (by decide))
  have he : (gWs X mem)[q0]? = some (gAd X 7 2, .inl (gCl X 2, 4, .inr (.inr (.inr (.inr (fun j => some (gAd X (mem 7 2 j) 0))))))) := by rw [gWs_at hq]; rfl
  exact va_alen hx hb hE.1 hR q0 2 he (ty := .object RX4) rfl rfl hdg kk
theorem g_aald {i : Nat} (C : gC X own cc ret nL p s m args meth c) (hR : gRep X mem H) (hi : i < 4) (hdg : decode cc pc = .ok (.aaload, 1)) (kk : W p l e R s m args below meth c H locs cells slots Q (F0 m (pc + 1) ls (.ref (gAd X (mem 7 2 i) 0) :: rest))) : W p l e R s m args below meth c H locs cells slots Q (F0 m pc ls (.int (nI i) :: .ref (gAd X 7 2) :: rest)) := by
  obtain ⟨hx, hb, -, -, hown, hA, -, -, hE⟩ := C
  obtain ⟨q0, hq⟩ := List.getElem?_of_mem (gIx (X := X) <| gI_f (o := 2) (by decide))
  have he : (gWs X mem)[q0]? = some (gAd X 7 2, .inl (gCl X 2, 4, .inr (.inr (.inr (.inr (fun j => some (gAd X (mem 7 2 j) 0))))))) := by rw [gWs_at hq]; rfl
  refine va_aldq hx hb hE.1 hR q0 2 he rfl (vp_in_nI hi (by decide)) hdg ?_
  rw [nI_clamp (by omega)]
  exact kk
theorem g_aast {i q : Nat} (C : gC X own cc ret nL p s m args meth c) (hR : gRep X mem H) (hS : va_S (gA X) s.heap H locs) (hi : i < 4) (hq7 : q < 7) (hdg : decode cc pc = .ok (.aastore, 1)) (kk : ∀ (H1 : Heap) (locs1 : List Loc), gRep X (gP mem 7 2 (fU (mem 7 2) i q)) H1 → va_S (gA X) s.heap H1 locs1 → W p l e R s m args below meth c H1 locs1 cells slots Q (F0 m (pc + 1) ls rest)) : W p l e R s m args below meth c H locs cells slots Q (F0 m pc ls (.ref (gAd X q 0) :: .int (nI i) :: .ref (gAd X 7 2) :: rest)) := by
  obtain ⟨hx, hb, -, -, hown, hA, -, hI, hE⟩ := C
  obtain ⟨q0, hq⟩ := List.getElem?_of_mem (gIx (X := X) <| gI_f (o := 2) (by decide))
  obtain ⟨q1, hq1⟩ := List.getElem?_of_mem (gIx (X := X) <| gI_m (o := 0) hq7 (by decide))
  have he : (gWs X mem)[q0]? = some (gAd X 7 2, .inl (gCl X 2, 4, .inr (.inr (.inr (.inr (fun j => some (gAd X (mem 7 2 j) 0))))))) := by rw [gWs_at hq]; rfl
  have he1 : (gWs X mem)[q1]? = some (gAd X q 0, gEm X q (mem q 0) 0) := by rw [gWs_at hq1, gE_m hq7]
  refine va_astq hx hb hE.1 hR (hI mem) hS q0 2 q1 4 he rfl he1 rfl (vp_in_nI hi (by decide)) hdg (fun H1 locs1 hP hD hS1 => kk H1 locs1 ?_ hS1)
  rw [nI_clamp (by omega)] at hP
  have e9 : (.inl (gCl X 2, 4, .inr (.inr (.inr (.inr (va_up (fun j => some (gAd X (mem 7 2 j) 0)) i (some (gAd X q 0))))))) : va_E) = gE X 7 2 (fU (mem 7 2) i q) := by
    show _ = (.inl (gCl X 2, 4, .inr (.inr (.inr (.inr (fun j => some (gAd X (fU (mem 7 2) i q j) 0)))))) : va_E)
    have e8 : va_up (fun j => some (gAd X (mem 7 2 j) 0)) i (some (gAd X q 0)) = fun j => some (gAd X (fU (mem 7 2) i q j) 0) := by
      funext j
      unfold va_up fU
      by_cases h : j = i
      · rw [if_pos h, if_pos h]
      · rw [if_neg h, if_neg h]
    rw [e8]
  rw [e9, gWs_set hq] at hP
  exact hP
/-! calls -/
def gRc (k o : Nat) (cn : String) : Prop := (k, o) ∈ gIds ∧ ∀ (X : gX) (g : Nat → Nat), ∃ (ci : Nat) (T : u_T) (N : Nat) (fs : List Value), gE X k o g = .inr (ci, fs) ∧ vwCl[ci]? = some (cn, T, N)
def gMd (y : MethodName) (cc : ByteArray) (nL : Nat) (ret : Option FieldType) (n : Nat) : Prop := Cond.instanceMethod y ∈ wA ∧ Cond.selects y.cls y y ∈ wA ∧ Cond.code y cc nL ret ∈ wA ∧ Cond.initialized y.cls ∈ wA ∧ (y.cls ≠ "java/lang/invoke/MethodHandle" ∧ y.cls ≠ "java/lang/invoke/VarHandle" ∧ (parseMethodDescriptor y.desc).map (fun d => d.parameters.length) = some n)
def gMs (y : MethodName) (cc : ByteArray) (nL : Nat) (ret : Option FieldType) (n : Nat) : Prop := Cond.static y ∈ wA ∧ Cond.code y cc nL ret ∈ wA ∧ Cond.initialized y.cls ∈ wA ∧ (y.cls ≠ "java/lang/invoke/MethodHandle" ∧ y.cls ≠ "java/lang/invoke/VarHandle" ∧ (parseMethodDescriptor y.desc).map (fun d => d.parameters.length) = some n)
theorem g_good {y : MethodName} {cc2 : ByteArray} {nL2 : Nat} {ret2 : Option FieldType} (h : Cond.code y cc2 nL2 ret2 ∈ wA) : GoodIn wA (Cond.code y cc2 nL2 ret2 :: wA) := fun w hw => by
  rcases List.mem_cons.mp hw with e | h'
  · subst e
    exact wA_good _ h
  · exact wA_good w h'
theorem gB_blind {av : List Value} : FrameBlind (va_Pc av (gB X mem)) := fun a U g mk q => ⟨q.1, q.2.1, q.2.2.to (State.WarmedH.refl U) (Nat.le_refl _) (fun _ _ _ => rfl)⟩
theorem g_go {a : Array Value} {post : Option Value → gM → Prop} {st0 : List Value} (hr : va_Run p l e R s m args below meth c H locs cells slots 0 0 (F0 m pc ls st0) rest (gQ X post a) (gA X)) (hS : va_S (gA X) s.heap H locs) (kk : ∀ (v : Option Value) (mem' : gM) (H1 : Heap) (locs1 : List Loc), post v mem' → gRep X mem' H1 → va_S (gA X) s.heap H1 locs1 → W p l e R s m args below meth c H1 locs1 cells slots Q (F0 m (pc + 3) ls (v.toList ++ rest))) : W p l e R s m args below meth c H locs cells slots Q (F0 m pc ls st0) := by
  intro T hT X9
  obtain ⟨v, st₀, t, T', L, h0, X', hL, e1, e2, ⟨⟨v2, mem', hv, hp, hb⟩, hz, hk⟩, st⟩ := hr T hT X9
  cases hv
  rw [h0] at hz hk
  obtain ⟨t2, a1, b1⟩ := kk v mem' T'.heap (locs ++ L) hp (by rw [e1]; exact hb.1)
    ⟨Nat.le_trans hS.1 (by rw [e1]; exact hz), fun q h1 h2 => by rw [e1, hk q (Nat.lt_of_lt_of_le h1 hS.1) h2]; exact hS.2.1 q h1 h2, fun q hq => by
      rcases List.mem_append.mp hq with h | h
      · exact hS.2.2 q h
      · exact hL q h⟩ T' rfl X'
  exact ⟨t2, st t2 a1, b1⟩
theorem g_callV {k o index fr2 lo2 nL2 n : Nat} {y : MethodName} {cc2 : ByteArray} {ret2 : Option FieldType} {As st0 : List Value} {post : Option Value → gM → Prop} (C : gC X own cc ret nL p s m args meth c) (hz : ls.size = nL) (hR : gRep X mem H) (hS : va_S (gA X) s.heap H locs) (hrc : gRc k o y.cls) (md : gMd y cc2 nL2 ret2 n) (hlink : Cond.methodLink own index y ∈ wA) (hM : gMt l y cc2 nL2 ret2 fr2 lo2 X (.ref (gAd X k o) :: As) mem post) (hn : As.length = n) (hst : st0 = As.reverse ++ .ref (gAd X k o) :: rest) (hroom : fr2 + 1 ≤ R.frames ∧ 8 + (nL2 + 11) + lo2 ≤ R.locals) (hf : cells ≤ R.cells ∧ slots ≤ R.slots) (hw : (rest.map fun v => v.category).sum ≤ 8) (hdg : decode cc pc = .ok (.invokevirtual index, 3)) (kk : ∀ (v : Option Value) (mem' : gM) (H1 : Heap) (locs1 : List Loc), post v mem' → gRep X mem' H1 → va_S (gA X) s.heap H1 locs1 → W p l e R s m args below meth c H1 locs1 cells slots Q (F0 m (pc + 3) ls (v.toList ++ rest))) : W p l e R s m args below meth c H locs cells slots Q (F0 m pc ls st0) := by
  obtain ⟨hx, hb, -, hml, hown, hA, -, -, hE⟩ := C
  obtain ⟨i1, i2, i3, i4, i5⟩ := md
  obtain ⟨hv, hsh⟩ := hrc
  obtain ⟨ci, T, N, fs, g1, g2⟩ := hsh X (mem k o)
  obtain ⟨q0, hq⟩ := List.getElem?_of_mem (gIx (X := X) hv)
  have he : (gWs X mem)[q0]? = some (gAd X k o, .inr (ci, fs)) := by rw [gWs_at hq, g1]
  have cb := callB_of (R := R) (rm := { frames := fr2, cells := 0, slots := 0, locals := lo2 }) (mc := 0) (ms := 0) n hA (g_good i3) rfl rfl rfl (hA _ i4) (hA _ hlink) i5 hroom
  refine g_go (rest := rest) (va_runV (C := y.cls) (rest := rest) ⟨hx, hb, hml, hown, hA⟩ hM ⟨cb, hA _ i1, hA _ i2⟩ ⟨gB_blind, va_recv hE.1 hR g2 he, fun U hU hW => ⟨rfl, by rw [hU]; exact hR, by rw [hU]; exact hE.to hW hS.1 hS.2.1⟩⟩ rfl hn hz hst (lv_room hw) hdg hf) hS kk
theorem g_callS {index fr2 lo2 nL2 n : Nat} {y : MethodName} {cc2 : ByteArray} {ret2 : Option FieldType} {As st0 : List Value} {post : Option Value → gM → Prop} (C : gC X own cc ret nL p s m args meth c) (hz : ls.size = nL) (hR : gRep X mem H) (hS : va_S (gA X) s.heap H locs) (md : gMs y cc2 nL2 ret2 n) (hlink : Cond.methodLink own index y ∈ wA) (hM : gMt l y cc2 nL2 ret2 fr2 lo2 X As mem post) (hn : As.length = n) (hst : st0 = As.reverse ++ rest) (hroom : fr2 + 1 ≤ R.frames ∧ 8 + (nL2 + 11) + lo2 ≤ R.locals) (hf : cells ≤ R.cells ∧ slots ≤ R.slots) (hw : (rest.map fun v => v.category).sum ≤ 8) (hdg : decode cc pc = .ok (.invokestatic index, 3)) (kk : ∀ (v : Option Value) (mem' : gM) (H1 : Heap) (locs1 : List Loc), post v mem' → gRep X mem' H1 → va_S (gA X) s.heap H1 locs1 → W p l e R s m args below meth c H1 locs1 cells slots Q (F0 m (pc + 3) ls (v.toList ++ rest))) : W p l e R s m args below meth c H locs cells slots Q (F0 m pc ls st0) := by
  obtain ⟨hx, hb, -, hml, hown, hA, -, -, hE⟩ := C
  obtain ⟨i1, i3, i4, i5⟩ := md
  have cb := callB_of (R := R) (rm := { frames := fr2, cells := 0, slots := 0, locals := lo2 }) (mc := 0) (ms := 0) n hA (g_good i3) rfl rfl rfl (hA _ i4) (hA _ hlink) i5 hroom
  refine g_go (rest := rest) (va_runS (rest := rest) ⟨hx, hb, hml, hown, hA⟩ hM ⟨cb, hA _ i1⟩ ⟨gB_blind, fun U hU hW => ⟨rfl, by rw [hU]; exact hR, by rw [hU]; exact hE.to hW hS.1 hS.2.1⟩⟩ rfl hn hz hst (lv_room hw) hdg hf) hS kk
theorem g_callVi {k o index fr2 lo2 nL2 n : Nat} {x : Int32} {mem2 : gM} {y : MethodName} {cc2 : ByteArray} {ret2 : Option FieldType} {As st0 : List Value} (C : gC X own cc ret nL p s m args meth c) (hz : ls.size = nL) (hR : gRep X mem H) (hS : va_S (gA X) s.heap H locs) (hrc : gRc k o y.cls) (md : gMd y cc2 nL2 ret2 n) (hlink : Cond.methodLink own index y ∈ wA) (hM : gF l y cc2 nL2 ret2 fr2 lo2 X (.ref (gAd X k o) :: As) mem (some (.int x)) mem2) (hn : As.length = n) (hst : st0 = As.reverse ++ .ref (gAd X k o) :: rest) (hroom : fr2 + 1 ≤ R.frames ∧ 8 + (nL2 + 11) + lo2 ≤ R.locals) (hf : cells ≤ R.cells ∧ slots ≤ R.slots) (hw : (rest.map fun v => v.category).sum ≤ 8) (hdg : decode cc pc = .ok (.invokevirtual index, 3)) (kk : ∀ (H1 : Heap) (locs1 : List Loc), gRep X mem2 H1 → va_S (gA X) s.heap H1 locs1 → W p l e R s m args below meth c H1 locs1 cells slots Q (F0 m (pc + 3) ls (.int x :: rest))) : W p l e R s m args below meth c H locs cells slots Q (F0 m pc ls st0) := g_callV C hz hR hS hrc md hlink hM hn hst hroom hf hw hdg (fun v mem' H1 locs1 hp => by
  obtain ⟨rfl, rfl⟩ := hp
  exact kk H1 locs1)
theorem g_callVv {k o index fr2 lo2 nL2 n : Nat} {mem2 : gM} {y : MethodName} {cc2 : ByteArray} {ret2 : Option FieldType} {As st0 : List Value} (C : gC X own cc ret nL p s m args meth c) (hz : ls.size = nL) (hR : gRep X mem H) (hS : va_S (gA X) s.heap H locs) (hrc : gRc k o y.cls) (md : gMd y cc2 nL2 ret2 n) (hlink : Cond.methodLink own index y ∈ wA) (hM : gF l y cc2 nL2 ret2 fr2 lo2 X (.ref (gAd X k o) :: As) mem none mem2) (hn : As.length = n) (hst : st0 = As.reverse ++ .ref (gAd X k o) :: rest) (hroom : fr2 + 1 ≤ R.frames ∧ 8 + (nL2 + 11) + lo2 ≤ R.locals) (hf : cells ≤ R.cells ∧ slots ≤ R.slots) (hw : (rest.map fun v => v.category).sum ≤ 8) (hdg : decode cc pc = .ok (.invokevirtual index, 3)) (kk : ∀ (H1 : Heap) (locs1 : List Loc), gRep X mem2 H1 → va_S (gA X) s.heap H1 locs1 → W p l e R s m args below meth c H1 locs1 cells slots Q (F0 m (pc + 3) ls rest)) : W p l e R s m args below meth c H locs cells slots Q (F0 m pc ls st0) := g_callV C hz hR hS hrc md hlink hM hn hst hroom hf hw hdg (fun v mem' H1 locs1 hp => by
  obtain ⟨rfl, rfl⟩ := hp
  exact kk H1 locs1)
theorem g_callSi {index fr2 lo2 nL2 n : Nat} {x : Int32} {mem2 : gM} {y : MethodName} {cc2 : ByteArray} {ret2 : Option FieldType} {As st0 : List Value} (C : gC X own cc ret nL p s m args meth c) (hz : ls.size = nL) (hR : gRep X mem H) (hS : va_S (gA X) s.heap H locs) (md : gMs y cc2 nL2 ret2 n) (hlink : Cond.methodLink own index y ∈ wA) (hM : gF l y cc2 nL2 ret2 fr2 lo2 X As mem (some (.int x)) mem2) (hn : As.length = n) (hst : st0 = As.reverse ++ rest) (hroom : fr2 + 1 ≤ R.frames ∧ 8 + (nL2 + 11) + lo2 ≤ R.locals) (hf : cells ≤ R.cells ∧ slots ≤ R.slots) (hw : (rest.map fun v => v.category).sum ≤ 8) (hdg : decode cc pc = .ok (.invokestatic index, 3)) (kk : ∀ (H1 : Heap) (locs1 : List Loc), gRep X mem2 H1 → va_S (gA X) s.heap H1 locs1 → W p l e R s m args below meth c H1 locs1 cells slots Q (F0 m (pc + 3) ls (.int x :: rest))) : W p l e R s m args below meth c H locs cells slots Q (F0 m pc ls st0) := g_callS C hz hR hS md hlink hM hn hst hroom hf hw hdg (fun v mem' H1 locs1 hp => by
  obtain ⟨rfl, rfl⟩ := hp
  exact kk H1 locs1)
theorem g_callSr {index fr2 lo2 nL2 n a : Nat} {mem2 : gM} {y : MethodName} {cc2 : ByteArray} {ret2 : Option FieldType} {As st0 : List Value} (C : gC X own cc ret nL p s m args meth c) (hz : ls.size = nL) (hR : gRep X mem H) (hS : va_S (gA X) s.heap H locs) (md : gMs y cc2 nL2 ret2 n) (hlink : Cond.methodLink own index y ∈ wA) (hM : gF l y cc2 nL2 ret2 fr2 lo2 X As mem (some (.ref a)) mem2) (hn : As.length = n) (hst : st0 = As.reverse ++ rest) (hroom : fr2 + 1 ≤ R.frames ∧ 8 + (nL2 + 11) + lo2 ≤ R.locals) (hf : cells ≤ R.cells ∧ slots ≤ R.slots) (hw : (rest.map fun v => v.category).sum ≤ 8) (hdg : decode cc pc = .ok (.invokestatic index, 3)) (kk : ∀ (H1 : Heap) (locs1 : List Loc), gRep X mem2 H1 → va_S (gA X) s.heap H1 locs1 → W p l e R s m args below meth c H1 locs1 cells slots Q (F0 m (pc + 3) ls (.ref a :: rest))) : W p l e R s m args below meth c H locs cells slots Q (F0 m pc ls st0) := g_callS C hz hR hS md hlink hM hn hst hroom hf hw hdg (fun v mem' H1 locs1 hp => by
  obtain ⟨rfl, rfl⟩ := hp
  exact kk H1 locs1)
theorem g_callSv {index fr2 lo2 nL2 n : Nat} {mem2 : gM} {y : MethodName} {cc2 : ByteArray} {ret2 : Option FieldType} {As st0 : List Value} (C : gC X own cc ret nL p s m args meth c) (hz : ls.size = nL) (hR : gRep X mem H) (hS : va_S (gA X) s.heap H locs) (md : gMs y cc2 nL2 ret2 n) (hlink : Cond.methodLink own index y ∈ wA) (hM : gF l y cc2 nL2 ret2 fr2 lo2 X As mem none mem2) (hn : As.length = n) (hst : st0 = As.reverse ++ rest) (hroom : fr2 + 1 ≤ R.frames ∧ 8 + (nL2 + 11) + lo2 ≤ R.locals) (hf : cells ≤ R.cells ∧ slots ≤ R.slots) (hw : (rest.map fun v => v.category).sum ≤ 8) (hdg : decode cc pc = .ok (.invokestatic index, 3)) (kk : ∀ (H1 : Heap) (locs1 : List Loc), gRep X mem2 H1 → va_S (gA X) s.heap H1 locs1 → W p l e R s m args below meth c H1 locs1 cells slots Q (F0 m (pc + 3) ls rest)) : W p l e R s m args below meth c H locs cells slots Q (F0 m pc ls st0) := g_callS C hz hR hS md hlink hM hn hst hroom hf hw hdg (fun v mem' H1 locs1 hp => by
  obtain ⟨rfl, rfl⟩ := hp
  exact kk H1 locs1)
end GC
