/-! ===== the law makes its arrays: a world that grows ===== -/
def uNx (X : gX) (h : Nat) : gX := (gD X, fun k o => if k = 8 + gXt X / 4 ∧ o = gXt X % 4 then h else gAd X k o, gCl X, gSz X, gXt X + 1)
/-- Y has what X has, at the same places -/
def uLe (X Y : gX) : Prop := gD Y = gD X ∧ gCl Y = gCl X ∧ gSz Y = gSz X ∧ gXt X ≤ gXt Y ∧ ∀ k o, (k < 8 ∨ (k, o) ∈ gLx (gXt X)) → gAd Y k o = gAd X k o
theorem gLx_le {m n : Nat} {q : Nat × Nat} (h : m ≤ n) (hq : q ∈ gLx m) : q ∈ gLx n := by
  obtain ⟨i, hi, e⟩ := List.mem_map.mp hq
  exact List.mem_map.mpr ⟨i, List.mem_range.mpr (Nat.lt_of_lt_of_le (List.mem_range.mp hi) h), e⟩
theorem gLx_in {n k o : Nat} (h : (k, o) ∈ gLx n) : ∃ i, i < n ∧ k = 8 + i / 4 ∧ o = i % 4 := by
  obtain ⟨i, hi, e⟩ := List.mem_map.mp h
  cases e
  exact ⟨i, List.mem_range.mp hi, rfl, rfl⟩
theorem uLe.rf {X : gX} : uLe X X := ⟨rfl, rfl, rfl, Nat.le_refl _, fun _ _ _ => rfl⟩
theorem uLe.tr {X Y Z : gX} (h : uLe X Y) (g : uLe Y Z) : uLe X Z := ⟨g.1.trans h.1, g.2.1.trans h.2.1, g.2.2.1.trans h.2.2.1, Nat.le_trans h.2.2.2.1 g.2.2.2.1, fun k o hq => (g.2.2.2.2 k o (hq.imp id (gLx_le h.2.2.2.1))).trans (h.2.2.2.2 k o hq)⟩
theorem uNx_le {X : gX} {h : Nat} : uLe X (uNx X h) := by
  refine ⟨rfl, rfl, rfl, Nat.le_succ _, fun k o hq => ?_⟩
  show (if k = 8 + gXt X / 4 ∧ o = gXt X % 4 then h else gAd X k o) = gAd X k o
  rw [if_neg]
  rintro ⟨e1, e2⟩
  rcases hq with hq | hq
  · omega
  · obtain ⟨i, h1, h2, h3⟩ := gLx_in hq
    omega
theorem uNx_at {X : gX} {h k o : Nat} (e1 : 8 + gXt X / 4 = k) (e2 : gXt X % 4 = o) : gAd (uNx X h) k o = h := by
  show (if k = 8 + gXt X / 4 ∧ o = gXt X % 4 then h else gAd X k o) = h
  rw [if_pos ⟨e1.symm, e2.symm⟩]
theorem uLe.A {X Y : gX} (h : uLe X Y) : gA Y = gA X := by
  unfold gA
  rw [h.2.2.1]
theorem uLe.env {X Y : gX} (h : uLe X Y) {U : State} {H : Heap} (hE : gEnv Y U H) : gEnv X U H := by
  unfold gEnv gTy at hE
  rw [h.1, h.2.1, h.2.2.1] at hE
  exact hE
theorem uLe.env' {X Y : gX} (h : uLe X Y) {U : State} {H : Heap} (hE : gEnv X U H) : gEnv Y U H := by
  unfold gEnv gTy
  rw [h.1, h.2.1, h.2.2.1]
  exact hE
theorem uLe.ad {X Y : gX} (h : uLe X Y) {k o : Nat} (hq : (k, o) ∈ gId X) : gAd Y k o = gAd X k o := by
  refine h.2.2.2.2 k o ?_
  rcases List.mem_append.mp hq with hq | hq
  · exact Or.inl (gIds_lt _ hq).1
  · exact Or.inr hq
theorem uLe.em {X Y : gX} (h : uLe X Y) {k : Nat} (hk : k < 7) (g : Nat → Nat) (o : Nat) : gEm Y k g o = gEm X k g o := by
  have hA : ∀ o, gAd Y k o = gAd X k o := fun o => h.2.2.2.2 k o (Or.inl (by omega))
  unfold gEm gRw gAr
  simp only [hA, h.2.1]
theorem uQ_at {D : va_G} {C0 : Nat → ClassId} {a : Nat} {H : Heap} {g f : Nat → Option Nat} {c n : Nat} (he : ∀ j, j < n → f j = g j) (h : va_at D vwCl (a, .inl (C0 c, n, .inr (.inr (.inr (.inr f))))) H) : va_at D vwCl (a, .inl (C0 c, n, .inr (.inr (.inr (.inr g))))) H := by
  have e : vp_cell (C0 c) (n, .inr (.inr (.inr (.inr f)))) = vp_cell (C0 c) (n, .inr (.inr (.inr (.inr g)))) := by
    rw [vp_cell_q, vp_cell_q]
    unfold arrV
    congr 1
    apply Array.ext
    · simp
    · intro i h1 h2
      simp only [Array.getElem_ofFn]
      rw [he i (by simpa using h1)]
  show H[a]? = some (vp_cell (C0 c) (n, .inr (.inr (.inr (.inr g)))))
  rw [← e]
  exact h
theorem uLe.at {X Y : gX} (h : uLe X Y) {k o : Nat} {g : Nat → Nat} (hq : (k, o) ∈ gId X) (hst : k = 7 → o = 2 → ∀ j, j < 4 → g j < 8) {H : Heap} : va_at (gD Y) vwCl (gAd Y k o, gE Y k o g) H ↔ va_at (gD X) vwCl (gAd X k o, gE X k o g) H := by
  rw [h.ad hq, h.1]
  rcases (show k < 7 ∨ k = 7 ∨ 7 < k by omega) with hk | hk | hk
  · rw [gE_m hk, gE_m hk, h.em hk]
  · subst hk
    rw [gE_f, gE_f]
    have h7 : ∀ k o, k < 8 → gAd Y k o = gAd X k o := fun k o hk => h.2.2.2.2 k o (Or.inl hk)
    by_cases e : o = 2
    · subst e
      have e9 : ∀ j, j < 4 → gAd Y (g j) 0 = gAd X (g j) 0 := fun j hj => h7 _ 0 (hst rfl rfl j hj)
      show va_at (gD X) vwCl (gAd X 7 2, .inl (gCl Y 2, 4, .inr (.inr (.inr (.inr (fun j => some (gAd Y (g j) 0))))))) H ↔ va_at (gD X) vwCl (gAd X 7 2, .inl (gCl X 2, 4, .inr (.inr (.inr (.inr (fun j => some (gAd X (g j) 0))))))) H
      rw [h.2.1]
      exact ⟨uQ_at (fun j hj => by rw [e9 j hj]), uQ_at (fun j hj => by rw [e9 j hj])⟩
    · have e8 : gEf Y g o = gEf X g o := by
        have e0 : gEf Y g 0 = gEf X g 0 := by
          unfold gEf
          simp only [h7 0 0 (by decide), h7 1 0 (by decide), h7 2 0 (by decide), h7 7 1 (by decide), h7 7 3 (by decide), h7 7 5 (by decide)]
        have e1 : gEf Y g 1 = gEf X g 1 := by
          show (.inr (3, [.ref (gAd Y 7 2), .int (nI (g 1))]) : va_E) = .inr (3, [.ref (gAd X 7 2), .int (nI (g 1))])
          rw [h7 7 2 (by decide)]
        have e3 : gEf Y g 3 = gEf X g 3 := by
          show (.inr (6, [.ref (gAd Y 7 4), .int (nI (g 1))]) : va_E) = .inr (6, [.ref (gAd X 7 4), .int (nI (g 1))])
          rw [h7 7 4 (by decide)]
        have e4 : gEf Y g 4 = gEf X g 4 := by
          show (.inl (gCl Y 1, 80, .inl (fun j => nI (g j))) : va_E) = .inl (gCl X 1, 80, .inl (fun j => nI (g j)))
          rw [h.2.1]
        have e5 : gEf Y g 5 = gEf X g 5 := by
          show (.inr (1, [.ref (gAd Y 7 6), .int (nI (g 1)), .int (nI (g 2)), .int (nI (g 3))]) : va_E) = .inr (1, [.ref (gAd X 7 6), .int (nI (g 1)), .int (nI (g 2)), .int (nI (g 3))])
          rw [h7 7 6 (by decide)]
        have e6 : gEf Y g 6 = gEf X g 6 := by
          show (.inr (5, [.ref (gAd Y 7 7)]) : va_E) = .inr (5, [.ref (gAd X 7 7)])
          rw [h7 7 7 (by decide)]
        have e7 : ∀ q, gEf Y g (q + 7) = gEf X g (q + 7) := by
          intro q
          show (.inl (gCl Y 0, 16, .inl (fun j => nI (g j))) : va_E) = .inl (gCl X 0, 16, .inl (fun j => nI (g j)))
          rw [h.2.1]
        rcases (show o = 0 ∨ o = 1 ∨ o = 3 ∨ o = 4 ∨ o = 5 ∨ o = 6 ∨ 7 ≤ o by omega) with rfl | rfl | rfl | rfl | rfl | rfl | h9
        · exact e0
        · exact e1
        · exact e3
        · exact e4
        · exact e5
        · exact e6
        · have := e7 (o - 7)
          rw [show o - 7 + 7 = o by omega] at this
          exact this
      rw [e8]
  · rw [gE_l hk, gE_l hk]
    unfold gAr
    rw [h.2.1]
def uSt (mem : gM) : Prop := ∀ j, j < 4 → mem 7 2 j < 8
theorem uSt.of {S : aS} {mem : gM} (h : aCl S mem) : uSt mem := fun j hj => Nat.lt_succ_of_lt (h.2.1.2.2.1 j hj).2
theorem uLe.id {X Y : gX} (h : uLe X Y) {q : Nat × Nat} (hq : q ∈ gId X) : q ∈ gId Y := by
  rcases List.mem_append.mp hq with hq | hq
  · exact List.mem_append_left _ hq
  · exact List.mem_append_right _ (gLx_le h.2.2.2.1 hq)
theorem uLe.down {X Y : gX} (h : uLe X Y) {mem : gM} {H : Heap} (hst : uSt mem) (hR : gRep Y mem H) : gRep X mem H := by
  intro i q hq
  unfold gWs at hq
  rw [List.getElem?_map] at hq
  obtain ⟨z, hz, e⟩ := Option.map_eq_some_iff.mp hq
  subst e
  obtain ⟨k, o⟩ := z
  have hm := List.mem_of_getElem? hz
  obtain ⟨j, hj⟩ := List.getElem?_of_mem (h.id hm)
  have h9 := hR j _ (gWs_at hj)
  exact (h.at hm (fun e1 e2 => by subst e1; subst e2; exact hst)).mp h9
theorem uLe.G {X Y : gX} (h : uLe X Y) {k : Nat} (hk : uG X k) : uG Y k := ⟨hk.1, Nat.le_trans hk.2 h.2.2.2.1⟩
theorem gLx_succ {n : Nat} {q : Nat × Nat} (h : q ∈ gLx (n + 1)) : q ∈ gLx n ∨ q = (8 + n / 4, n % 4) := by
  obtain ⟨i, hi, e⟩ := List.mem_map.mp h
  have h2 := List.mem_range.mp hi
  by_cases c : i < n
  · exact Or.inl (List.mem_map.mpr ⟨i, List.mem_range.mpr c, e⟩)
  · right
    rw [← e, show i = n by omega]
theorem uNx_id {X : gX} {h : Nat} {q : Nat × Nat} (hq : q ∈ gId (uNx X h)) : q ∈ gId X ∨ q = (8 + gXt X / 4, gXt X % 4) := by
  rcases List.mem_append.mp hq with hq | hq
  · exact Or.inl (List.mem_append_left _ hq)
  · rcases gLx_succ hq with hq | hq
    · exact Or.inl (List.mem_append_right _ hq)
    · exact Or.inr hq
theorem gId_new {X : gX} : ¬ (8 + gXt X / 4, gXt X % 4) ∈ gId X := by
  intro hq
  rcases List.mem_append.mp hq with hq | hq
  · have := (gIds_lt _ hq).1
    omega
  · obtain ⟨i, h1, h2, h3⟩ := gLx_in hq
    omega
theorem gRep_lt {X : gX} {mem : gM} {H : Heap} (hR : gRep X mem H) {k o : Nat} (hq : (k, o) ∈ gId X) : gAd X k o < H.size := by
  obtain ⟨j, hj⟩ := List.getElem?_of_mem hq
  exact (hR j _ (gWs_at hj)).lt
theorem gInj_ad {X : gX} (hI : gInj X) {q r : Nat × Nat} (hq : q ∈ gId X) (hr : r ∈ gId X) (e : gAd X q.1 q.2 = gAd X r.1 r.2) : q = r := by
  obtain ⟨i, hi⟩ := List.getElem?_of_mem hq
  obtain ⟨j, hj⟩ := List.getElem?_of_mem hr
  have h1 := (hI (fun _ _ _ => 0)).1 i j _ _ (gWs_at hi) (gWs_at hj) e
  subst h1
  exact Option.some.inj (hi.symm.trans hj)
theorem gInj_A {X : gX} (hI : gInj X) {q : Nat × Nat} (hq : q ∈ gId X) : gSz X ≤ gAd X q.1 q.2 := by
  obtain ⟨i, hi⟩ := List.getElem?_of_mem hq
  exact (hI (fun _ _ _ => 0)).2 i _ (gWs_at hi)
theorem uNx_inj {X : gX} {mem : gM} {H : Heap} (hI : gInj X) (hR : gRep X mem H) (hz : gSz X ≤ H.size) : gInj (uNx X H.size) := by
  intro m
  have key : ∀ (i : Nat) (q : Nat × va_E), (gWs (uNx X H.size) m)[i]? = some q → ∃ z, (gId (uNx X H.size))[i]? = some z ∧ q.1 = gAd (uNx X H.size) z.1 z.2 := by
    intro i q hq
    unfold gWs at hq
    rw [List.getElem?_map] at hq
    obtain ⟨z, h1, e⟩ := Option.map_eq_some_iff.mp hq
    exact ⟨z, h1, by rw [← e]⟩
  have hnew : gAd (uNx X H.size) (8 + gXt X / 4) (gXt X % 4) = H.size := uNx_at rfl rfl
  refine ⟨fun i j p q hi hj e => ?_, fun i q hq => ?_⟩
  · obtain ⟨z1, h1, e1⟩ := key i p hi
    obtain ⟨z2, h2, e2⟩ := key j q hj
    have e3 : gAd (uNx X H.size) z1.1 z1.2 = gAd (uNx X H.size) z2.1 z2.2 := by rw [← e1, ← e2, e]
    have ez : z1 = z2 := by
      rcases uNx_id (List.mem_of_getElem? h1) with a1 | a1
      · rcases uNx_id (List.mem_of_getElem? h2) with a2 | a2
        · rw [uNx_le.ad a1, uNx_le.ad a2] at e3
          exact gInj_ad hI a1 a2 e3
        · subst a2
          rw [uNx_le.ad a1, hnew] at e3
          have := gRep_lt hR a1
          omega
      · subst a1
        rcases uNx_id (List.mem_of_getElem? h2) with a2 | a2
        · rw [uNx_le.ad a2, hnew] at e3
          have := gRep_lt hR a2
          omega
        · exact a2.symm
    subst ez
    exact gIds_inj h1 h2
  · obtain ⟨z, h1, e1⟩ := key i q hq
    show gSz X ≤ q.1
    rw [e1]
    rcases uNx_id (List.mem_of_getElem? h1) with a1 | a1
    · rw [uNx_le.ad a1]
      exact gInj_A hI a1
    · subst a1
      rw [hnew]
      exact hz
theorem uNx_rep {X : gX} {mem : gM} {H H1 : Heap} {k o : Nat} (e1 : 8 + gXt X / 4 = k) (e2 : gXt X % 4 = o) (hst : uSt mem) (hR : gRep X mem H) (hk : ∀ q, q < H.size → H1[q]? = H[q]?) (hn : H1[H.size]? = some (vp_cell (gCl X 0) (gLn o, .inl (fun _ => nI 0)))) : gRep (uNx X H.size) (gP mem k o (fun _ => 0)) H1 := by
  intro i q hq
  unfold gWs at hq
  rw [List.getElem?_map] at hq
  obtain ⟨z, hz, e⟩ := Option.map_eq_some_iff.mp hq
  subst e
  rcases uNx_id (List.mem_of_getElem? hz) with a1 | a1
  · obtain ⟨k', o'⟩ := z
    have hne : ¬ (k' = k ∧ o' = o) := by
      rintro ⟨rfl, rfl⟩
      rw [← e1, ← e2] at a1
      exact gId_new a1
    show va_at (gD (uNx X H.size)) vwCl (gAd (uNx X H.size) k' o', gE (uNx X H.size) k' o' (gP mem k o (fun _ => 0) k' o')) H1
    rw [gP_n _ _ hne]
    refine (uNx_le.at a1 (fun h1 h2 => by subst h1; subst h2; exact hst)).mpr ?_
    obtain ⟨j, hj⟩ := List.getElem?_of_mem a1
    exact (hR j _ (gWs_at hj)).kept (hk _ (gRep_lt hR a1))
  · subst a1
    show va_at (gD (uNx X H.size)) vwCl (gAd (uNx X H.size) (8 + gXt X / 4) (gXt X % 4), gE (uNx X H.size) (8 + gXt X / 4) (gXt X % 4) (gP mem k o (fun _ => 0) (8 + gXt X / 4) (gXt X % 4))) H1
    rw [uNx_at rfl rfl, gE_l (by omega), e1, e2, gP_s]
    exact hn
section GG
variable {p : Program} {l : Launch} {e : Env} {R : Room} {s : State} {m : MethodId} {args : Array Value} {below : List Frame} {meth : Method} {c : Code} {H : Heap} {locs : List Loc} {cells slots : Nat} {Q : State → Prop}
variable {cc : ByteArray} {pc : Nat} {ls : Array Slot} {rest : List Value} {X Y : gX} {own : String} {ret : Option FieldType} {nL : Nat} {mem : gM}
/-- an array of the law's, made -/
theorem g_newL {k o n : Nat} (C : gC X own cc ret nL p s m args meth c) (e1 : 8 + gXt X / 4 = k) (e2 : gXt X % 4 = o) (en : gLn o = n) (hst : uSt mem) (hR : gRep X mem H) (hS : va_S (gA X) s.heap H locs) (hcells : cells + 1 ≤ R.cells) (hslots : slots + n ≤ R.slots) (hdg : decode cc pc = .ok (.newarray .int, 2))
    (kk : ∀ (Y : gX) (H1 : Heap), uLe X Y → gXt Y = gXt X + 1 → gC Y own cc ret nL p s m args meth c → gRep Y (gP mem k o (fun _ => 0)) H1 → va_S (gA Y) s.heap H1 locs → W p l e R s m args below meth c H1 locs (cells + 1) (slots + n) Q (F0 m (pc + 2) ls (.ref (gAd Y k o) :: rest))) : W p l e R s m args below meth c H locs cells slots Q (F0 m pc ls (.int (nI n) :: rest)) := by
  have C9 := C
  obtain ⟨c1, c2, c3, c4, c5, c6, c7, c8, c9⟩ := C
  have hz : gSz X ≤ H.size := Nat.le_trans c9.2.2 hS.1
  have hty := c9.1.2 0 _ rfl
  have hn9 : n < 100000 := by
    rw [← en]
    unfold gLn
    split <;> decide
  refine va_newaK (atype := .int) c1 c2 (c6 _ ac_int) rfl hdg rfl (nI_pos (by omega)) (nI_clamp (by omega)) (by show n * 4 ≤ 536870912; omega) hcells hslots rfl (fun H1 cA f2 z1 o1 hAr hNm => ?_)
  have ecA : cA = gCl X 0 := Option.some.inj (hNm.symm.trans hty.2)
  subst ecA
  have h9 := kk (uNx X H.size) H1 uNx_le rfl ⟨c1, c2, c3, c4, c5, c6, c7, uNx_inj c8 hR hz, uNx_le.env' c9⟩ (uNx_rep e1 e2 hst hR o1 (by
    rw [f2, vp_cell_i, en]
    rfl)) ⟨Nat.le_trans hS.1 (by omega), fun x h1 h2 => (o1 x (Nat.lt_of_lt_of_le h1 hS.1)).trans (hS.2.1 x h1 h2), hS.2.2⟩
  rw [uNx_at e1 e2] at h9
  exact h9
theorem ga_zret {R0 : Room} {post : Option Value → gM → Prop} {v : Int32} {ty : FieldType} {ce sl : Nat} (hXY : uLe X Y) (C : gC Y own cc (some ty) nL p s m args meth c) (hst : uSt mem) (hR : gRep Y mem H) (hS : va_S (gA Y) s.heap H locs) (hdg : decode cc pc = .ok (.ireturn, 1)) (hn : narrow ty (.int v) = .int v) (hp : post (some (.int v)) mem) : W p l e R0 s m args below meth c H locs ce sl (MQ below (gQ X post) args s ce sl (gA X)) (F0 m pc ls [.int v]) := by
  have C' := C
  obtain ⟨hx, hb, hr, -, -, -, hlocks, -, -⟩ := C
  have hS' := hS
  rw [hXY.A] at hS'
  exact W.zret hx hb hr hn (fun t ht hW => ⟨⟨_, mem, rfl, hp, by rw [ht]; exact hXY.down hst hR, hXY.env (C'.env hS ht hW)⟩, hS'.F ht⟩) hS'.2.2 hdg hlocks
/-- a method's contract that makes cells -/
def gMa (l : Launch) (y : MethodName) (cc : ByteArray) (nL : Nat) (ret : Option FieldType) (fr lo ce sl : Nat) (X : gX) (av : List Value) (mem : gM) (post : Option Value → gM → Prop) : Prop :=
  Met l y (.code y cc nL ret :: wA) { frames := fr, cells := ce, slots := sl, locals := lo } (va_Pc av (gB X mem)) (gQ X post) ce sl (gA X)
theorem gMa.of {l : Launch} {own : String} {y : MethodName} {cc : ByteArray} {nL : Nat} {ret : Option FieldType} {fr lo ce sl : Nat} {X : gX} {av : List Value} {mem : gM} {post : Option Value → gM → Prop} (hy : plainName y.cls = true) (ho : y.cls = own) (hI : gInj X) (hc : ∀ v ∈ av, v.category = 1) (hn : av.length ≤ nL)
    (body : ∀ (p : Program) (e : Env) (s : State) (m : MethodId) (args : Array Value) (below : List Frame) (meth : Method) (c : Code) (ls : Array Slot) (H : Heap) (locs : List Loc), gC X own cc ret nL p s m args meth c → meth.name = y.name → gL ls (av.map some ++ List.replicate (nL - av.length) none) → gRep X mem H → va_S (gA X) s.heap H locs →
      W p l e { frames := fr, cells := ce, slots := sl, locals := lo } s m args below meth c H locs 0 0 (MQ below (gQ X post) args s ce sl (gA X)) (F0 m 0 ls [])) : gMa l y cc nL ret fr lo ce sl X av mem post := by
  refine Met.ofW (cc := cc) (maxL := nL) (ret := ret) hy rfl ?_
  intro p e s m args below meth c s₁ B hml hv
  obtain ⟨rfl, hR, hE⟩ := hv
  have hts := atoms_spec (ws := Cond.code y cc nL ret :: wA) B.pre
  rw [lg_entry_eq]
  exact body p e s m _ below meth c _ s.heap [] ⟨B.exec, B.bytes, B.returns, hml, by rw [← ho]; exact findClass_of_methodNamed B.named, fun w hw => hts w (List.mem_cons_of_mem _ hw), B.notSynchronized, hI, hE⟩ (name_of_methodNamed B.named B.method).1 (gL.entry av nL hc hn) hR va_S.rf
theorem g_goA {ce sl : Nat} {a : Array Value} {post : Option Value → gM → Prop} {st0 : List Value} (hr : va_Run p l e R s m args below meth c H locs cells slots ce sl (F0 m pc ls st0) rest (gQ X post a) (gA X)) (hS : va_S (gA X) s.heap H locs) (kk : ∀ (v : Option Value) (mem' : gM) (H1 : Heap) (locs1 : List Loc), post v mem' → gRep X mem' H1 → va_S (gA X) s.heap H1 locs1 → W p l e R s m args below meth c H1 locs1 (cells + ce) (slots + sl) Q (F0 m (pc + 3) ls (v.toList ++ rest))) : W p l e R s m args below meth c H locs cells slots Q (F0 m pc ls st0) := by
  intro T hT X9
  obtain ⟨v, st₀, t, T', L, h0, X', hL, e1, e2, ⟨⟨v2, mem', hv, hp, hb⟩, hz, hk⟩, st⟩ := hr T hT X9
  cases hv
  rw [h0] at hz hk
  obtain ⟨t2, a1, b1⟩ := kk v mem' T'.heap (locs ++ L) hp (by rw [e1]; exact hb.1)
    ⟨Nat.le_trans hS.1 (by rw [e1]; exact hz), fun q h1 h2 => by rw [e1, hk q (Nat.lt_of_lt_of_le h1 hS.1) h2]; exact hS.2.1 q h1 h2, fun q hq => by
      rcases List.mem_append.mp hq with h | h
      · exact hS.2.2 q h
      · exact hL q h⟩ T' rfl X'
  exact ⟨t2, st t2 a1, b1⟩
theorem g_callSA {index fr2 lo2 nL2 n ce sl : Nat} {y : MethodName} {cc2 : ByteArray} {ret2 : Option FieldType} {As st0 : List Value} {post : Option Value → gM → Prop} (C : gC X own cc ret nL p s m args meth c) (hz : ls.size = nL) (hR : gRep X mem H) (hS : va_S (gA X) s.heap H locs) (md : gMs y cc2 nL2 ret2 n) (hlink : Cond.methodLink own index y ∈ wA) (hM : gMa l y cc2 nL2 ret2 fr2 lo2 ce sl X As mem post) (hn : As.length = n) (hst : st0 = As.reverse ++ rest) (hroom : fr2 + 1 ≤ R.frames ∧ 8 + (nL2 + 11) + lo2 ≤ R.locals) (hf : cells + ce ≤ R.cells ∧ slots + sl ≤ R.slots) (hw : (rest.map fun v => v.category).sum ≤ 8) (hdg : decode cc pc = .ok (.invokestatic index, 3)) (kk : ∀ (v : Option Value) (mem' : gM) (H1 : Heap) (locs1 : List Loc), post v mem' → gRep X mem' H1 → va_S (gA X) s.heap H1 locs1 → W p l e R s m args below meth c H1 locs1 (cells + ce) (slots + sl) Q (F0 m (pc + 3) ls (v.toList ++ rest))) : W p l e R s m args below meth c H locs cells slots Q (F0 m pc ls st0) := by
  obtain ⟨hx, hb, -, hml, hown, hA, -, -, hE⟩ := C
  obtain ⟨i1, i3, i4, i5⟩ := md
  have cb := callB_of (R := R) (rm := { frames := fr2, cells := ce, slots := sl, locals := lo2 }) (mc := ce) (ms := sl) n hA (g_good i3) rfl rfl rfl (hA _ i4) (hA _ hlink) i5 hroom
  refine g_goA (rest := rest) (va_runS (rest := rest) ⟨hx, hb, hml, hown, hA⟩ hM ⟨cb, hA _ i1⟩ ⟨gB_blind, fun U hU hW => ⟨rfl, by rw [hU]; exact hR, by rw [hU]; exact hE.to hW hS.1 hS.2.1⟩⟩ rfl hn hz hst (lv_room hw) hdg hf) hS kk
/-! the script's cell -/
def gBx (X : gX) (mem : gM) (b L : Nat) (xs : Nat → Int32) (U : State) : Prop := gB X mem U ∧ va_X b L xs U U.heap ∧ b < U.heap.size
theorem gBx_blind {av : List Value} {b L : Nat} {xs : Nat → Int32} : FrameBlind (va_Pc av (gBx X mem b L xs)) := fun a U g mk q => ⟨q.1, ⟨q.2.1.1, q.2.1.2.to (State.WarmedH.refl U) (Nat.le_refl _) (fun _ _ _ => rfl)⟩, va_X.moved (State.WarmedH.refl U).alike q.2.2.1, q.2.2.2⟩
theorem g_callX {index b L i : Nat} {xs : Nat → Int32} (C : gC X own cc ret nL p s m args meth c) (hz : ls.size = nL) (hR : gRep X mem H) (hS : va_S (gA X) s.heap H locs) (hX : va_X b L xs s s.heap) (hbl : b < s.heap.size) (hbA : ¬ gA X b) (hlink : Cond.methodLink own index yL_cell1 ∈ wA) (hM : Met l yL_cell1 (.code yL_cell1 cL_cell1 2 (some .int) :: wA) { frames := 0, cells := 0, slots := 0, locals := 0 } (va_Pc [.ref b, .int (nI i)] (gBx X mem b L xs)) (gQ X (fun v m => (∃ w, v = some (.int w)) ∧ m = mem)) 0 0 (gA X)) (hroom : 1 ≤ R.frames ∧ 21 ≤ R.locals) (hf : cells ≤ R.cells ∧ slots ≤ R.slots) (hw : (rest.map fun v => v.category).sum ≤ 8) (hdg : decode cc pc = .ok (.invokestatic index, 3)) (kk : ∀ (w : Int32) (H1 : Heap) (locs1 : List Loc), gRep X mem H1 → va_S (gA X) s.heap H1 locs1 → W p l e R s m args below meth c H1 locs1 cells slots Q (F0 m (pc + 3) ls (.int w :: rest))) : W p l e R s m args below meth c H locs cells slots Q (F0 m pc ls (.int (nI i) :: .ref b :: rest)) := by
  obtain ⟨hx, hb, -, hml, hown, hA, -, -, hE⟩ := C
  obtain ⟨i1, i3, i4, i5⟩ := md_L_cell1
  have cb := callB_of (R := R) (rm := { frames := 0, cells := 0, slots := 0, locals := 0 }) (mc := 0) (ms := 0) 2 hA (g_good i3) rfl rfl rfl (hA _ i4) (hA _ hlink) i5 hroom
  refine g_go (rest := rest) (va_runS (As := [.ref b, .int (nI i)]) (rest := rest) ⟨hx, hb, hml, hown, hA⟩ hM ⟨cb, hA _ i1⟩ ⟨gBx_blind, fun U hU hW => ⟨rfl, ⟨by rw [hU]; exact hR, by rw [hU]; exact hE.to hW hS.1 hS.2.1⟩, by
    rw [hU]
    exact va_X.moved hW.alike (hX.kept (hS.2.1 b hbl hbA)), by
    rw [hU]
    exact Nat.lt_of_lt_of_le hbl hS.1⟩⟩ rfl rfl hz rfl (lv_room hw) hdg hf) hS (fun v mem' H1 locs1 hp hR1 hS1 => ?_)
  obtain ⟨⟨w, rfl⟩, rfl⟩ := hp
  exact kk w H1 locs1 hR1 hS1
end GG
set_option maxRecDepth 100000 in
set_option maxHeartbeats 4000000 in
theorem c_L_cell1 (l : Launch) {X : gX} (hI : gInj X) {mem : gM} {b L i : Nat} {xs : Nat → Int32} (hbA : ¬ gA X b) (hL : L < 2 ^ 31) (hi : i < 2 ^ 31) : Met l yL_cell1 (.code yL_cell1 cL_cell1 2 (some .int) :: wA) { frames := 0, cells := 0, slots := 0, locals := 0 } (va_Pc [.ref b, .int (nI i)] (gBx X mem b L xs)) (gQ X (fun v m => (∃ w, v = some (.int w)) ∧ m = mem)) 0 0 (gA X) := by
  refine Met.ofW (cc := cL_cell1) (maxL := 2) (ret := some .int) (by decide) rfl ?_
  intro p e s m args below meth c s₁ B hml hv
  obtain ⟨rfl, ⟨hR, hE⟩, hX, hbl⟩ := hv
  have hts := atoms_spec (ws := Cond.code yL_cell1 cL_cell1 2 (some .int) :: wA) B.pre
  rw [lg_entry_eq]
  have C : gC X RL cL_cell1 (some .int) 2 p s m _ meth c := ⟨B.exec, B.bytes, B.returns, hml, findClass_of_methodNamed (x := yL_cell1) B.named, fun w hw => hts w (List.mem_cons_of_mem _ hw), B.notSynchronized, hI, hE⟩
  have hl := gL.entry [.ref b, .int (nI i)] 2 (by simp [Value.category]) (Nat.le_of_ble_eq_true rfl)
  have hS : va_S (gA X) s.heap s.heap [] := va_S.rf
  refine g_iload_n C hl dL_cell1_0 rfl ?_
  refine g_aload_n C hl dL_cell1_1 rfl ?_
  refine va_slen C.1 C.2.1 hX hbl hbA hS dL_cell1_2 ?_
  refine g_icmp_ge (tgt := 12) C dL_cell1_3 (by decide) hi hL (fun c3 => ?_) (fun c3 => ?_)
  · refine lv_ldc C.1 C.2.1 C.2.2.2.2.1 (C.2.2.2.2.2.1 _ cn_L_7) dL_cell1_12 ?_
    refine g_iload_n C hl dL_cell1_14 rfl ?_
    refine g_iconst 1 C dL_cell1_15 (by decide) ?_
    refine g_iadd C dL_cell1_16 ?_
    refine lv_imul C.1 C.2.1 dL_cell1_17 ?_
    exact g_iret C hR hS dL_cell1_18 ⟨⟨_, rfl⟩, rfl⟩
  · refine g_aload_n C hl dL_cell1_6 rfl ?_
    refine g_iload_n C hl dL_cell1_7 rfl ?_
    refine va_sld C.1 C.2.1 hX hbl hbA hS (vp_in_nI c3 hL) dL_cell1_8 ?_
    refine g_goto (tgt := 18) C dL_cell1_9 (by decide) ?_
    exact g_iret C hR hS dL_cell1_18 ⟨⟨_, rfl⟩, rfl⟩
