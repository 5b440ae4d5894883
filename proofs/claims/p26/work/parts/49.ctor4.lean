/-! ===== constructors: cells in a row ===== -/
def kCs : Nat → List va_E → va_W
  | _, [] => []
  | a, e :: es => (a, e) :: kCs (a + 1) es
theorem kCs_get (es : List va_E) : ∀ (a i : Nat), (kCs a es)[i]? = (es[i]?).map (fun e => (a + i, e)) := by
  induction es with
  | nil => intro a i; rfl
  | cons e es ih =>
    intro a i
    cases i with
    | zero => rfl
    | succ i =>
      show (kCs (a + 1) es)[i]? = (es[i]?).map (fun e => (a + (i + 1), e))
      rw [ih (a + 1) i, show a + 1 + i = a + (i + 1) by omega]
theorem kCs_at {es : List va_E} {a i : Nat} {q : Nat × va_E} (h : (kCs a es)[i]? = some q) : i < es.length ∧ q.1 = a + i ∧ es[i]? = some q.2 := by
  rw [kCs_get] at h
  obtain ⟨e, he, hq⟩ := Option.map_eq_some_iff.mp h
  subst hq
  exact ⟨(List.getElem?_eq_some_iff.mp he).1, rfl, he⟩
theorem kCs_app (es fs : List va_E) : ∀ a : Nat, kCs a (es ++ fs) = kCs a es ++ kCs (a + es.length) fs := by
  induction es with
  | nil => intro a; rfl
  | cons e es ih =>
    intro a
    show (a, e) :: kCs (a + 1) (es ++ fs) = (a, e) :: (kCs (a + 1) es ++ kCs (a + (es.length + 1)) fs)
    rw [ih (a + 1), show a + 1 + es.length = a + (es.length + 1) by omega]
theorem kCs_set (es : List va_E) : ∀ (a i : Nat) (e : va_E), (kCs a es).set i (a + i, e) = kCs a (es.set i e) := by
  induction es with
  | nil => intro a i e; rfl
  | cons x es ih =>
    intro a i e
    cases i with
    | zero => rfl
    | succ i =>
      show (a, x) :: (kCs (a + 1) es).set i (a + (i + 1), e) = (a, x) :: kCs (a + 1) (es.set i e)
      rw [show a + (i + 1) = a + 1 + i by omega, ih]
theorem kCs_D {A : Nat → Prop} {a : Nat} {es : List va_E} (h : ∀ q, a ≤ q → A q) : va_D A (kCs a es) := by
  refine ⟨fun i j p q hi hj e => ?_, fun k q hq => ?_⟩
  · have h1 := (kCs_at hi).2.1
    have h2 := (kCs_at hj).2.1
    omega
  · exact h _ (by have := (kCs_at hq).2.1; omega)
theorem kCs_last {D : va_G} {H : Heap} {a : Nat} {es : List va_E} (hP : va_P D vwCl (kCs a es) H) (hne : 0 < es.length) : a + es.length ≤ H.size := by
  have hlt : es.length - 1 < es.length := by omega
  have h1 : (kCs a es)[es.length - 1]? = some (a + (es.length - 1), es[es.length - 1]) := by
    rw [kCs_get, List.getElem?_eq_getElem hlt]
    rfl
  have h2 : a + (es.length - 1) < H.size := (hP _ _ h1).lt
  omega
theorem kP_lt {D : va_G} {H : Heap} {ws : va_W} (hP : va_P D vwCl ws H) {x : Nat × va_E} (hx : x ∈ ws) : x.1 < H.size := by
  obtain ⟨k, hk⟩ := List.getElem?_of_mem hx
  exact (hP k x hk).lt
/-- where a constructor stands: the cells made so far lie in a row from a on, the heap ends behind them -/
def kSt (X : gX) (A : Nat → Prop) (s : State) (a : Nat) (es : List va_E) (H : Heap) (locs : List Loc) (cells : Nat) : Prop := va_P (gD X) vwCl (kCs a es) H ∧ H.size = a + es.length ∧ va_S A s.heap H locs ∧ s.heap.size + cells = a + es.length ∧ (∀ q, a ≤ q → A q) ∧ gSz X ≤ a ∧ ∀ q, A q → gSz X ≤ q
def kC (l : Launch) (y : MethodName) (cc : ByteArray) (nL fr lo ce sl : Nat) (X : gX) (av : List Value) (a : Nat) (e0 : va_E) (res : List va_E) : Prop := kMt l y cc nL fr lo ce sl X av a (a + 1) e0 ce (kCs a res)
theorem kC.of {l : Launch} {own : String} {y : MethodName} {cc : ByteArray} {nL fr lo ce sl : Nat} {X : gX} {av : List Value} {a : Nat} {e0 : va_E} {res : List va_E} (hy : plainName y.cls = true) (ho : y.cls = own) (hI : gInj X) (hc : ∀ v ∈ Value.ref a :: av, v.category = 1) (hn : (Value.ref a :: av).length ≤ nL)
    (body : ∀ (p : Program) (e : Env) (s : State) (m : MethodId) (args : Array Value) (below : List Frame) (meth : Method) (c : Code) (ls : Array Slot), gC X own cc none nL p s m args meth c → meth.name = y.name → gL ls ((Value.ref a :: av).map some ++ List.replicate (nL - (Value.ref a :: av).length) none) → va_AO RX4 s → s.heap.size = a + 1 → kSt X (kFr a (a + 1)) s a [e0] s.heap [] 0 →
      W p l e { frames := fr, cells := ce, slots := sl, locals := lo } s m args below meth c s.heap [] 0 0 (MQ below (kQ X a (a + 1) ce (kCs a res)) args s ce sl (kFr a (a + 1))) (F0 m 0 ls [])) : kC l y cc nL fr lo ce sl X av a e0 res := by
  refine kMt.of hy ho hI hc hn ?_
  intro p e s m args below meth c ls C hnm hl hz hah ha hat hO
  refine body p e s m args below meth c ls C hnm hl hO hz ⟨kP_cons hat kP_nil, hz, va_S.rf, hz, fun q hq => ?_, ha, fun q hq => ?_⟩
  · unfold kFr
    omega
  · unfold kFr at hq
    omega
section GK2
variable {p : Program} {l : Launch} {e : Env} {R : Room} {s : State} {m : MethodId} {args : Array Value} {below : List Frame} {meth : Method} {c : Code} {H : Heap} {locs : List Loc} {cells slots : Nat} {Q : State → Prop}
variable {cc : ByteArray} {pc : Nat} {ls : Array Slot} {rest : List Value} {X : gX} {own : String} {ret : Option FieldType} {nL : Nat} {A : Nat → Prop} {a : Nat} {es : List va_E}
theorem kk_ret {R0 : Room} {ce sl : Nat} (C : gC X own cc none nL p s m args meth c) (hz : s.heap.size = a + 1) (hB : kSt X (kFr a (a + 1)) s a es H locs ce) (hdg : decode cc pc = .ok (.return_, 1)) : W p l e R0 s m args below meth c H locs ce sl (MQ below (kQ X a (a + 1) ce (kCs a es)) args s ce sl (kFr a (a + 1))) (F0 m pc ls []) := by
  obtain ⟨hP, hsz, hS, hce, -, hg, -⟩ := hB
  exact k_vret C hz (by omega) hg hP hS (by omega) hdg
theorem kk_new {Cn : String} {T : u_T} {N ci index n : Nat} {fs : List Value} (ty : Nat → FieldType) (C : gC X own cc ret nL p s m args meth c) (hB : kSt X A s a es H locs cells) (hn : es.length = n) (hty : ∀ k, k < N → parseFieldDescriptor (T k).2.2.1 = some (ty k)) (hin : ∀ w ∈ u_ws Cn T N, w ∈ wA) (hcl : Cond.classLink own index Cn ∈ wA) (hinst : Cond.instantiable Cn N ∈ wA) (hini : Cond.initialized Cn ∈ wA) (hc : vwCl[ci]? = some (Cn, T, N)) (hfs : ∀ j, j < N → defaultValue (ty j) = vp_V fs j) (hcells : cells + 1 ≤ R.cells) (hslots : slots + N ≤ R.slots) (hdg : decode cc pc = .ok (.new index, 3))
    (kk : ∀ H1 : Heap, kSt X A s a (es ++ [.inr (ci, fs)]) H1 locs (cells + 1) → W p l e R s m args below meth c H1 locs (cells + 1) (slots + N) Q (F0 m (pc + 3) ls (.ref (a + n) :: rest))) : W p l e R s m args below meth c H locs cells slots Q (F0 m pc ls rest) := by
  obtain ⟨hP, hz, hS, hce, hA1, hg, hA2⟩ := hB
  have e1 : H.size = a + n := by rw [hz, hn]
  refine k_new ty C hty hin hcl hinst hini hS hc hfs hcells hslots hdg (fun H1 hat hsz ho hS1 => ?_)
  rw [e1] at hat
  rw [e1]
  refine kk H1 ⟨?_, ?_, hS1, ?_, hA1, hg, hA2⟩
  · rw [kCs_app, hn]
    exact kP_app (kP_keep hP (fun x hx => ho x.1 (kP_lt hP hx))) (kP_cons hat kP_nil)
  · simp only [List.length_append, List.length_cons, List.length_nil]
    omega
  · simp only [List.length_append, List.length_cons, List.length_nil]
    omega
theorem kk_put {Cn ref : String} {T : u_T} {N ci index i ax : Nat} {fs : List Value} {v : Value} {ty0 : Nat → FieldType} {ty : FieldType} (k : Nat) (C : gC X own cc ret nL p s m args meth c) (hnm : meth.name = "<init>") (hB : kSt X A s a es H locs cells) (hi : es[i]? = some (.inr (ci, fs))) (hc : vwCl[ci]? = some (Cn, T, N)) (hin : ∀ w ∈ u_ws Cn T N, w ∈ wA) (hty : ∀ k, k < N → parseFieldDescriptor (T k).2.2.1 = some (ty0 k)) (hnmT : ∀ a, a < N → ∀ b, b < N → a ≠ b → (T a).2.1 ≠ (T b).2.1) (hk : k < N) (hlink : Cond.fieldLink own index ref (T k).2.1 (T k).2.2.1 ∈ wA) (hsame : (T k).1 = ref) (hfin : (T k).2.2.2 = true) (hdecl : (T k).1 = own) (hd : parseFieldDescriptor (T k).2.2.1 = some ty) (hn : narrow ty v = v) (hfit : fits ty v = true) (hl : k < fs.length) (hax : ax = a + i) (hdg : decode cc pc = .ok (.putfield index, 3))
    (kk : ∀ (H1 : Heap) (locs1 : List Loc), kSt X A s a (es.set i (.inr (ci, fs.set k v))) H1 locs1 cells → W p l e R s m args below meth c H1 locs1 cells slots Q (F0 m (pc + 3) ls rest)) : W p l e R s m args below meth c H locs cells slots Q (F0 m pc ls (v :: .ref ax :: rest)) := by
  obtain ⟨hP, hz, hS, hce, hA1, hg, hA2⟩ := hB
  subst hax
  have hE := C.2.2.2.2.2.2.2.2
  have hlt := (List.getElem?_eq_some_iff.mp hi).1
  have he : (kCs a es)[i]? = some (a + i, .inr (ci, fs)) := by
    rw [kCs_get, hi]
    rfl
  refine va_putF (D := gD X) (ci := ci) (v := v) C.1 C.2.1 C.2.2.2.2.2.1 hin ty0 hty hnmT C.2.2.2.2.1 hE.1 hP (kCs_D hA1) hS i he hc k hk (C.2.2.2.2.2.1 _ hlink) (fun x h9 => by rw [← hsame]; exact h9) hfin hnm hdecl hd hn hfit hl hdg (fun H1 locs1 hP1 hD1 hS1 => ?_)
  rw [kCs_set] at hP1
  refine k_size (fun hsz => ?_)
  have hl2 := kCs_last hP1 (by rw [List.length_set]; omega)
  rw [List.length_set] at hl2
  exact kk H1 locs1 ⟨hP1, by rw [List.length_set]; omega, hS1, by rw [List.length_set]; exact hce, hA1, hg, hA2⟩
theorem kk_get {Cn ref : String} {T : u_T} {N ci index i ax : Nat} {fs : List Value} {v : Value} (k : Nat) (C : gC X own cc ret nL p s m args meth c) (hB : kSt X A s a es H locs cells) (hi : es[i]? = some (.inr (ci, fs))) (hc : vwCl[ci]? = some (Cn, T, N)) (hin : ∀ w ∈ u_ws Cn T N, w ∈ wA) (hk : k < N) (hlink : Cond.fieldLink own index ref (T k).2.1 (T k).2.2.1 ∈ wA) (hsame : (T k).1 = ref) (hv : fs[k]? = some v) (hax : ax = a + i) (hdg : decode cc pc = .ok (.getfield index, 3))
    (kk : W p l e R s m args below meth c H locs cells slots Q (F0 m (pc + 3) ls (v :: rest))) : W p l e R s m args below meth c H locs cells slots Q (F0 m pc ls (.ref ax :: rest)) := by
  subst hax
  have he : (kCs a es)[i]? = some (a + i, .inr (ci, fs)) := by
    rw [kCs_get, hi]
    rfl
  exact va_get C.1 C.2.1 C.2.2.2.2.2.1 hin C.2.2.2.2.1 C.2.2.2.2.2.2.2.2.1 hB.1 i he hc k hk (C.2.2.2.2.2.1 _ hlink) (fun x h9 => by rw [← hsame]; exact h9) hv hdg kk
theorem kk_newi {n k : Nat} (C : gC X own cc ret nL p s m args meth c) (hB : kSt X A s a es H locs cells) (hn : es.length = n) (hk : k < 100000) (hcells : cells + 1 ≤ R.cells) (hslots : slots + k ≤ R.slots) (hdg : decode cc pc = .ok (.newarray .int, 2))
    (kk : ∀ H1 : Heap, kSt X A s a (es ++ [gAr X k (fun _ => 0)]) H1 locs (cells + 1) → W p l e R s m args below meth c H1 locs (cells + 1) (slots + k) Q (F0 m (pc + 2) ls (.ref (a + n) :: rest))) : W p l e R s m args below meth c H locs cells slots Q (F0 m pc ls (.int (nI k) :: rest)) := by
  obtain ⟨hP, hz, hS, hce, hA1, hg, hA2⟩ := hB
  have e1 : H.size = a + n := by rw [hz, hn]
  have hty := C.2.2.2.2.2.2.2.2.1.2 0 _ rfl
  refine va_newaK (atype := .int) C.1 C.2.1 (C.2.2.2.2.2.1 _ ac_int) rfl hdg rfl (nI_pos (by omega)) (nI_clamp (by omega)) (by show k * 4 ≤ 536870912; omega) hcells hslots e1 (fun H1 cA e2 z1 o1 hAr hNm => ?_)
  have ecA : cA = gCl X 0 := Option.some.inj (hNm.symm.trans hty.2)
  subst ecA
  show W p l e R s m args below meth c H1 locs (cells + 1) (slots + k) Q (F0 m (pc + 2) ls (.ref (a + n) :: rest))
  refine kk H1 ⟨?_, ?_, ⟨Nat.le_trans hS.1 (by omega), fun x h1 h2 => (o1 x (Nat.lt_of_lt_of_le h1 (by rw [← e1]; exact hS.1))).trans (hS.2.1 x h1 h2), hS.2.2⟩, ?_, hA1, hg, hA2⟩
  · rw [kCs_app, hn]
    refine kP_app (kP_keep hP (fun x hx => o1 x.1 (by rw [← e1]; exact kP_lt hP hx))) (kP_cons ?_ kP_nil)
    show H1[a + n]? = some (vp_cell (gCl X 0) (k, .inl (fun _ => nI 0)))
    rw [e2, vp_cell_i]
    rfl
  · simp only [List.length_append, List.length_cons, List.length_nil]
    omega
  · simp only [List.length_append, List.length_cons, List.length_nil]
    omega
theorem kk_newc {n k : Nat} (C : gC X own cc ret nL p s m args meth c) (hB : kSt X A s a es H locs cells) (hn : es.length = n) (hk : k < 100000) (hcells : cells + 1 ≤ R.cells) (hslots : slots + k ≤ R.slots) (hdg : decode cc pc = .ok (.newarray .char, 2))
    (kk : ∀ H1 : Heap, kSt X A s a (es ++ [.inl (gCl X 1, k, .inl (fun _ => nI 0))]) H1 locs (cells + 1) → W p l e R s m args below meth c H1 locs (cells + 1) (slots + k) Q (F0 m (pc + 2) ls (.ref (a + n) :: rest))) : W p l e R s m args below meth c H locs cells slots Q (F0 m pc ls (.int (nI k) :: rest)) := by
  obtain ⟨hP, hz, hS, hce, hA1, hg, hA2⟩ := hB
  have e1 : H.size = a + n := by rw [hz, hn]
  have hty := C.2.2.2.2.2.2.2.2.1.2 1 _ rfl
  refine va_newaK (atype := .char) C.1 C.2.1 (C.2.2.2.2.2.1 _ ac_char) rfl hdg rfl (nI_pos (by omega)) (nI_clamp (by omega)) (by show k * 2 ≤ 536870912; omega) hcells hslots e1 (fun H1 cA e2 z1 o1 hAr hNm => ?_)
  have ecA : cA = gCl X 1 := Option.some.inj (hNm.symm.trans hty.2)
  subst ecA
  show W p l e R s m args below meth c H1 locs (cells + 1) (slots + k) Q (F0 m (pc + 2) ls (.ref (a + n) :: rest))
  refine kk H1 ⟨?_, ?_, ⟨Nat.le_trans hS.1 (by omega), fun x h1 h2 => (o1 x (Nat.lt_of_lt_of_le h1 (by rw [← e1]; exact hS.1))).trans (hS.2.1 x h1 h2), hS.2.2⟩, ?_, hA1, hg, hA2⟩
  · rw [kCs_app, hn]
    refine kP_app (kP_keep hP (fun x hx => o1 x.1 (by rw [← e1]; exact kP_lt hP hx))) (kP_cons ?_ kP_nil)
    show H1[a + n]? = some (vp_cell (gCl X 1) (k, .inl (fun _ => nI 0)))
    rw [e2, vp_cell_i]
    rfl
  · simp only [List.length_append, List.length_cons, List.length_nil]
    omega
  · simp only [List.length_append, List.length_cons, List.length_nil]
    omega
theorem kk_newq {n k index : Nat} (C : gC X own cc ret nL p s m args meth c) (hO : va_AO RX4 s) (hB : kSt X A s a es H locs cells) (hn : es.length = n) (hcl : Cond.classLink own index RX4 ∈ wA) (hk : k < 100000) (hcells : cells + 1 ≤ R.cells) (hslots : slots + k ≤ R.slots) (hdg : decode cc pc = .ok (.anewarray index, 3))
    (kk : ∀ H1 : Heap, kSt X A s a (es ++ [.inl (gCl X 2, k, .inr (.inr (.inr (.inr (fun _ => none)))))]) H1 locs (cells + 1) → W p l e R s m args below meth c H1 locs (cells + 1) (slots + k) Q (F0 m (pc + 3) ls (.ref (a + n) :: rest))) : W p l e R s m args below meth c H locs cells slots Q (F0 m pc ls (.int (nI k) :: rest)) := by
  obtain ⟨hP, hz, hS, hce, hA1, hg, hA2⟩ := hB
  have e1 : H.size = a + n := by rw [hz, hn]
  have hty := C.2.2.2.2.2.2.2.2.1.2 2 _ rfl
  have hcp : (nI k).toNatClampNeg = k := nI_clamp (by omega)
  refine W.anew C.1 C.2.1 C.2.2.2.2.1 (C.2.2.2.2.2.1 _ hcl) (va_AO.use hO) rfl hdg rfl (nI_pos (by omega)) (by rw [hcp]; omega) hcells (by rw [hcp]; exact hslots) (fun cA kA comp f1 f2 f3 f4 => ?_)
  rw [hcp]
  obtain ⟨kA2, comp2, g1, g2, g3, g4⟩ := hty.2
  have ecA : cA = gCl X 2 := Option.some.inj (f1.symm.trans g4)
  subst ecA
  generalize hH1 : H.push ({ cls := gCl X 2, slots := Array.replicate k .null, vm := .none } : Cell) = H1
  have z1 : H1.size = H.size + 1 := by rw [← hH1, Array.size_push]
  have e2 : H1[H.size]? = some (arrV (gCl X 2) k (fun _ => .null)) := by rw [← hH1, Array.getElem?_push_size, ← arrV_new]
  have o1 : ∀ q : Nat, q < H.size → H1[q]? = H[q]? := fun q hq => by rw [← hH1, Array.getElem?_push, if_neg (Nat.ne_of_lt hq)]
  rw [e1] at e2 ⊢
  show W p l e R s m args below meth c H1 locs (cells + 1) (slots + k) Q (F0 m (pc + 3) ls (.ref (a + n) :: rest))
  refine kk H1 ⟨?_, ?_, ⟨Nat.le_trans hS.1 (by omega), fun x h1 h2 => (o1 x (Nat.lt_of_lt_of_le h1 hS.1)).trans (hS.2.1 x h1 h2), hS.2.2⟩, ?_, hA1, hg, hA2⟩
  · rw [kCs_app, hn]
    refine kP_app (kP_keep hP (fun x hx => o1 x.1 (kP_lt hP hx))) (kP_cons ?_ kP_nil)
    show H1[a + n]? = some (vp_cell (gCl X 2) (k, .inr (.inr (.inr (.inr (fun _ => none))))))
    rw [e2, vp_cell_q]
    rfl
  · simp only [List.length_append, List.length_cons, List.length_nil]
    omega
  · simp only [List.length_append, List.length_cons, List.length_nil]
    omega
theorem kk_iast {n i w x ax : Nat} {g : Nat → Nat} (C : gC X own cc ret nL p s m args meth c) (hB : kSt X A s a es H locs cells) (hi : es[i]? = some (gAr X n g)) (hw : w < n) (hn : n < 2 ^ 31) (hax : ax = a + i) (hdg : decode cc pc = .ok (.iastore, 1))
    (kk : ∀ (H1 : Heap) (locs1 : List Loc), kSt X A s a (es.set i (gAr X n (fU g w x))) H1 locs1 cells → W p l e R s m args below meth c H1 locs1 cells slots Q (F0 m (pc + 1) ls rest)) : W p l e R s m args below meth c H locs cells slots Q (F0 m pc ls (.int (nI x) :: .int (nI w) :: .ref ax :: rest)) := by
  obtain ⟨hP, hz, hS, hce, hA1, hg, hA2⟩ := hB
  subst hax
  have hlt := (List.getElem?_eq_some_iff.mp hi).1
  have he : (kCs a es)[i]? = some (a + i, .inl (gCl X 0, n, .inl (fun j => nI (g j)))) := by
    rw [kCs_get, hi]
    rfl
  refine va_iast C.1 C.2.1 C.2.2.2.2.2.2.2.2.1 hP (kCs_D hA1) hS i 0 he rfl (vp_in_nI hw hn) hdg (fun H1 locs1 hP1 hD1 hS1 => ?_)
  rw [nI_clamp (by omega)] at hP1
  have e8 : upd (fun j => nI (g j)) w (nI x) = fun j => nI (fU g w x j) := by
    funext j
    unfold upd fU
    by_cases h : j = w
    · rw [if_pos h, if_pos h]
    · rw [if_neg h, if_neg h]
  rw [e8, kCs_set] at hP1
  refine k_size (fun hsz => ?_)
  have hl2 := kCs_last hP1 (by rw [List.length_set]; omega)
  rw [List.length_set] at hl2
  exact kk H1 locs1 ⟨hP1, by rw [List.length_set]; omega, hS1, by rw [List.length_set]; exact hce, hA1, hg, hA2⟩
theorem kk_astq {n i j w ax av : Nat} {f : Nat → Option Nat} {vs : List Value} (C : gC X own cc ret nL p s m args meth c) (hB : kSt X A s a es H locs cells) (hi : es[i]? = some (.inl (gCl X 2, n, .inr (.inr (.inr (.inr f)))))) (hj : es[j]? = some (.inr (4, vs))) (hw : w < n) (hn : n < 2 ^ 31) (hax : ax = a + i) (hav : av = a + j) (hdg : decode cc pc = .ok (.aastore, 1))
    (kk : ∀ (H1 : Heap) (locs1 : List Loc), kSt X A s a (es.set i (.inl (gCl X 2, n, .inr (.inr (.inr (.inr (va_up f w (some av)))))))) H1 locs1 cells → W p l e R s m args below meth c H1 locs1 cells slots Q (F0 m (pc + 1) ls rest)) : W p l e R s m args below meth c H locs cells slots Q (F0 m pc ls (.ref av :: .int (nI w) :: .ref ax :: rest)) := by
  obtain ⟨hP, hz, hS, hce, hA1, hg, hA2⟩ := hB
  subst hax
  subst hav
  have hlt := (List.getElem?_eq_some_iff.mp hi).1
  have he : (kCs a es)[i]? = some (a + i, .inl (gCl X 2, n, .inr (.inr (.inr (.inr f))))) := by
    rw [kCs_get, hi]
    rfl
  have he2 : (kCs a es)[j]? = some (a + j, .inr (4, vs)) := by
    rw [kCs_get, hj]
    rfl
  refine va_astq C.1 C.2.1 C.2.2.2.2.2.2.2.2.1 hP (kCs_D hA1) hS i 2 j 4 (r := (RX4, TX4, 8)) he rfl he2 rfl (vp_in_nI hw hn) hdg (fun H1 locs1 hP1 hD1 hS1 => ?_)
  rw [nI_clamp (by omega), kCs_set] at hP1
  refine k_size (fun hsz => ?_)
  have hl2 := kCs_last hP1 (by rw [List.length_set]; omega)
  rw [List.length_set] at hl2
  exact kk H1 locs1 ⟨hP1, by rw [List.length_set]; omega, hS1, by rw [List.length_set]; exact hce, hA1, hg, hA2⟩
theorem kk_alenq {n i ax : Nat} {f : Nat → Option Nat} (C : gC X own cc ret nL p s m args meth c) (hB : kSt X A s a es H locs cells) (hi : es[i]? = some (.inl (gCl X 2, n, .inr (.inr (.inr (.inr f)))))) (hax : ax = a + i) (hdg : decode cc pc = .ok (.arraylength, 1))
    (kk : W p l e R s m args below meth c H locs cells slots Q (F0 m (pc + 1) ls (.int (nI n) :: rest))) : W p l e R s m args below meth c H locs cells slots Q (F0 m pc ls (.ref ax :: rest)) := by
  subst hax
  have he : (kCs a es)[i]? = some (a + i, .inl (gCl X 2, n, .inr (.inr (.inr (.inr f))))) := by
    rw [kCs_get, hi]
    rfl
  exact va_alen C.1 C.2.1 C.2.2.2.2.2.2.2.2.1 hB.1 i 2 he rfl rfl hdg kk
theorem kk_fr {n h : Nat} (hB : kSt X A s a es H locs cells) : ∀ q, kFr (a + n) (a + n + 1) q → A q := fun q hq => hB.2.2.2.2.1 q (by unfold kFr at hq; omega)
theorem kk_aft {H1 : Heap} {locs1 : List Loc} {e0 : va_E} {n ce : Nat} {res : List va_E} (hB : kSt X A s a (es ++ [e0]) H locs cells) (hn : es.length = n) (hres : res.length = ce + 1) (z1 : H1.size = H.size + ce) (P1 : va_P (gD X) vwCl (kCs (a + n) res) H1) (o1 : ∀ q, q < H.size → ¬ q = a + n → H1[q]? = H[q]?) (S1 : va_S A s.heap H1 locs1) : kSt X A s a (es ++ res) H1 locs1 (cells + ce) := by
  obtain ⟨hP, hz, hS, hce, hA1, hg, hA2⟩ := hB
  simp only [List.length_append, List.length_cons, List.length_nil] at hz hce
  have hP0 : va_P (gD X) vwCl (kCs a es) H := by
    intro k q hq
    have h1 : k < (kCs a es).length := (List.getElem?_eq_some_iff.mp hq).1
    refine hP k q ?_
    rw [kCs_app, List.getElem?_append_left h1]
    exact hq
  refine ⟨?_, ?_, S1, ?_, hA1, hg, hA2⟩
  · rw [kCs_app, hn]
    refine kP_app (kP_keep hP0 (fun x hx => o1 x.1 (kP_lt hP0 hx) ?_)) P1
    obtain ⟨k, hk⟩ := List.getElem?_of_mem hx
    obtain ⟨h1, h2, -⟩ := kCs_at hk
    omega
  · simp only [List.length_append]
    omega
  · simp only [List.length_append]
    omega
theorem kk_bef {e0 : va_E} {n : Nat} (hB : kSt X A s a (es ++ [e0]) H locs cells) (hn : es.length = n) : va_at (gD X) vwCl (a + n, e0) H ∧ H.size = a + n + 1 := by
  obtain ⟨hP, hz, -⟩ := hB
  simp only [List.length_append, List.length_cons, List.length_nil] at hz
  refine ⟨hP n _ ?_, by omega⟩
  rw [kCs_get, List.getElem?_append_right (by omega), hn, Nat.sub_self]
  rfl
theorem kk_call {index fr2 lo2 ce2 sl2 nL2 n na : Nat} {y : MethodName} {cc2 : ByteArray} {As st0 : List Value} {e0 : va_E} {res : List va_E} (C : gC X own cc ret nL p s m args meth c) (hz : ls.size = nL) (hO : va_AO RX4 s) (hB : kSt X A s a (es ++ [e0]) H locs cells) (hn : es.length = n) (i1 : Cond.instanceMethod y ∈ wA) (i3 : Cond.code y cc2 nL2 none ∈ wA) (i4 : Cond.initialized y.cls ∈ wA) (i5 : y.cls ≠ "java/lang/invoke/MethodHandle" ∧ y.cls ≠ "java/lang/invoke/VarHandle" ∧ (parseMethodDescriptor y.desc).map (fun d => d.parameters.length) = some na) (hin : y.name = "<init>") (hlink : Cond.methodLink own index y ∈ wA) (hM : kC l y cc2 nL2 fr2 lo2 ce2 sl2 X As (a + n) e0 res) (hres : res.length = ce2 + 1) (hna : As.length = na) (hst : st0 = As.reverse ++ .ref (a + n) :: rest) (hroom : fr2 + 1 ≤ R.frames ∧ 8 + (nL2 + 11) + lo2 ≤ R.locals) (hf : cells + ce2 ≤ R.cells ∧ slots + sl2 ≤ R.slots) (hw : (rest.map fun v => v.category).sum ≤ 8) (hdg : decode cc pc = .ok (.invokespecial index, 3))
    (kk : ∀ (H1 : Heap) (locs1 : List Loc), kSt X A s a (es ++ res) H1 locs1 (cells + ce2) → W p l e R s m args below meth c H1 locs1 (cells + ce2) (slots + sl2) Q (F0 m (pc + 3) ls rest)) : W p l e R s m args below meth c H locs cells slots Q (F0 m pc ls st0) := by
  obtain ⟨hat, hsz⟩ := kk_bef hB hn
  have hM2 : kMt l y cc2 nL2 fr2 lo2 ce2 sl2 X As (a + n) H.size e0 ce2 (kCs (a + n) res) := by rw [hsz]; exact hM
  exact k_callI C hz hO hB.2.2.1 hB.2.2.2.2.2.2 (by rw [hsz]; exact kk_fr (n := n) (h := 0) hB) (by have := hB.2.2.2.2.2.1; omega) hat (by omega) i1 i3 i4 i5 hin hlink hM2 hna hst hroom hf hw hdg (fun H1 locs1 z1 P1 o1 S1 => kk H1 locs1 (kk_aft hB hn hres z1 P1 o1 S1))
theorem kk_callN {index fr2 lo2 ce2 sl2 nL2 n na : Nat} {y : MethodName} {cc2 : ByteArray} {As st0 : List Value} {host : String} {e0 : va_E} {res : List va_E} (C : gC X own cc ret nL p s m args meth c) (hz : ls.size = nL) (hO : va_AO RX4 s) (hB : kSt X A s a (es ++ [e0]) H locs cells) (hn : es.length = n) (i1 : Cond.instanceMethod y ∈ wA) (i3 : Cond.code y cc2 nL2 none ∈ wA) (i4 : Cond.initialized y.cls ∈ wA) (i5 : y.cls ≠ "java/lang/invoke/MethodHandle" ∧ y.cls ≠ "java/lang/invoke/VarHandle" ∧ (parseMethodDescriptor y.desc).map (fun d => d.parameters.length) = some na) (hin : y.name = "<init>") (hlink : (own, index, y, host) ∈ gNm) (hM : kC l y cc2 nL2 fr2 lo2 ce2 sl2 X As (a + n) e0 res) (hres : res.length = ce2 + 1) (hna : As.length = na) (hst : st0 = As.reverse ++ .ref (a + n) :: rest) (hroom : fr2 + 1 ≤ R.frames ∧ 8 + (nL2 + 11) + lo2 ≤ R.locals) (hf : cells + ce2 ≤ R.cells ∧ slots + sl2 ≤ R.slots) (hw : (rest.map fun v => v.category).sum ≤ 8) (hdg : decode cc pc = .ok (.invokespecial index, 3))
    (kk : ∀ (H1 : Heap) (locs1 : List Loc), kSt X A s a (es ++ res) H1 locs1 (cells + ce2) → W p l e R s m args below meth c H1 locs1 (cells + ce2) (slots + sl2) Q (F0 m (pc + 3) ls rest)) : W p l e R s m args below meth c H locs cells slots Q (F0 m pc ls st0) := by
  obtain ⟨hat, hsz⟩ := kk_bef hB hn
  have hM2 : kMt l y cc2 nL2 fr2 lo2 ce2 sl2 X As (a + n) H.size e0 ce2 (kCs (a + n) res) := by rw [hsz]; exact hM
  exact k_callIN C hz hO hB.2.2.1 hB.2.2.2.2.2.2 (by rw [hsz]; exact kk_fr (n := n) (h := 0) hB) (by have := hB.2.2.2.2.2.1; omega) hat (by omega) i1 i3 i4 i5 hin hlink hM2 hna hst hroom hf hw hdg (fun H1 locs1 z1 P1 o1 S1 => kk H1 locs1 (kk_aft hB hn hres z1 P1 o1 S1))
end GK2
