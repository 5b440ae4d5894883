def gNf : List (String × Nat × String × String × String × String) := [(RX8, 210, "FarBanks$Banks", "cells", "LFarBanks$Row;", "FarBanks"), (RX8, 69, "FarBanks$Banks", "alone", "LFarBanks$Row;", "FarBanks"), (RX8, 83, "FarBanks$Banks", "shown", "LFarBanks$Row;", "FarBanks"), (RX4, 93, "FarBanks$Banks", "shown", "LFarBanks$Row;", "FarBanks"), (RX8, 188, "FarBanks$Banks", "written", "LFarBanks$Row;", "FarBanks"), (RX8, 191, "FarBanks$Banks", "refused", "LFarBanks$Row;", "FarBanks"), (RX4, 58, "FarBanks$Frames", "size", "I", "FarBanks"), (RX8, 194, "FarBanks$Frames", "size", "I", "FarBanks"), (RX8, 117, "FarBanks$Trail", "total", "I", "FarBanks"), (RX8, 47, "FarBanks$Machine", "banks", "LFarBanks$Banks;", "FarBanks"), (RX8, 179, "FarBanks$Machine", "frames", "LFarBanks$Frames;", "FarBanks"), (RX8, 113, "FarBanks$Machine", "trail", "LFarBanks$Trail;", "FarBanks"), (RX8, 207, "FarBanks$Machine", "number", "I", "FarBanks"), (RX8, 100, "FarBanks$Machine", "place", "I", "FarBanks"), (RX8, 110, "FarBanks$Machine", "reason", "I", "FarBanks"), (RX8, 96, "FarBanks$Machine", "strict", "I", "FarBanks"), (RX8, 217, "FarBanks$Machine", "calls", "I", "FarBanks"), (RX8, 154, "FarBanks$History", "size", "I", "FarBanks"), (RX8, 134, "FarBanks$Text", "length", "I", "FarBanks")]
def gNm : List (String × Nat × MethodName × String) := [(RX8, 9, yX4_init, "FarBanks"), (RX4, 20, yX2_init, "FarBanks"), (RX4, 27, yX7_init, "FarBanks"), (RX3, 17, yX4_init, "FarBanks"), (RX8, 31, yX6_init, "FarBanks"), (RX8, 38, yX1_init, "FarBanks")]
theorem fn_X8_210 : (RX8, 210, "FarBanks$Banks", "cells", "LFarBanks$Row;", "FarBanks") ∈ gNf := List.mem_of_getElem? (i := 0) rfl
theorem fn_X8_69 : (RX8, 69, "FarBanks$Banks", "alone", "LFarBanks$Row;", "FarBanks") ∈ gNf := List.mem_of_getElem? (i := 1) rfl
theorem fn_X8_83 : (RX8, 83, "FarBanks$Banks", "shown", "LFarBanks$Row;", "FarBanks") ∈ gNf := List.mem_of_getElem? (i := 2) rfl
theorem fn_X4_93 : (RX4, 93, "FarBanks$Banks", "shown", "LFarBanks$Row;", "FarBanks") ∈ gNf := List.mem_of_getElem? (i := 3) rfl
theorem fn_X8_188 : (RX8, 188, "FarBanks$Banks", "written", "LFarBanks$Row;", "FarBanks") ∈ gNf := List.mem_of_getElem? (i := 4) rfl
theorem fn_X8_191 : (RX8, 191, "FarBanks$Banks", "refused", "LFarBanks$Row;", "FarBanks") ∈ gNf := List.mem_of_getElem? (i := 5) rfl
theorem fn_X4_58 : (RX4, 58, "FarBanks$Frames", "size", "I", "FarBanks") ∈ gNf := List.mem_of_getElem? (i := 6) rfl
theorem fn_X8_194 : (RX8, 194, "FarBanks$Frames", "size", "I", "FarBanks") ∈ gNf := List.mem_of_getElem? (i := 7) rfl
theorem fn_X8_117 : (RX8, 117, "FarBanks$Trail", "total", "I", "FarBanks") ∈ gNf := List.mem_of_getElem? (i := 8) rfl
theorem fn_X8_47 : (RX8, 47, "FarBanks$Machine", "banks", "LFarBanks$Banks;", "FarBanks") ∈ gNf := List.mem_of_getElem? (i := 9) rfl
theorem fn_X8_179 : (RX8, 179, "FarBanks$Machine", "frames", "LFarBanks$Frames;", "FarBanks") ∈ gNf := List.mem_of_getElem? (i := 10) rfl
theorem fn_X8_113 : (RX8, 113, "FarBanks$Machine", "trail", "LFarBanks$Trail;", "FarBanks") ∈ gNf := List.mem_of_getElem? (i := 11) rfl
theorem fn_X8_207 : (RX8, 207, "FarBanks$Machine", "number", "I", "FarBanks") ∈ gNf := List.mem_of_getElem? (i := 12) rfl
theorem fn_X8_100 : (RX8, 100, "FarBanks$Machine", "place", "I", "FarBanks") ∈ gNf := List.mem_of_getElem? (i := 13) rfl
theorem fn_X8_110 : (RX8, 110, "FarBanks$Machine", "reason", "I", "FarBanks") ∈ gNf := List.mem_of_getElem? (i := 14) rfl
theorem fn_X8_96 : (RX8, 96, "FarBanks$Machine", "strict", "I", "FarBanks") ∈ gNf := List.mem_of_getElem? (i := 15) rfl
theorem fn_X8_217 : (RX8, 217, "FarBanks$Machine", "calls", "I", "FarBanks") ∈ gNf := List.mem_of_getElem? (i := 16) rfl
theorem fn_X8_154 : (RX8, 154, "FarBanks$History", "size", "I", "FarBanks") ∈ gNf := List.mem_of_getElem? (i := 17) rfl
theorem fn_X8_134 : (RX8, 134, "FarBanks$Text", "length", "I", "FarBanks") ∈ gNf := List.mem_of_getElem? (i := 18) rfl
theorem mn_X8_9 : (RX8, 9, yX4_init, "FarBanks") ∈ gNm := List.mem_of_getElem? (i := 0) rfl
theorem mn_X4_20 : (RX4, 20, yX2_init, "FarBanks") ∈ gNm := List.mem_of_getElem? (i := 1) rfl
theorem mn_X4_27 : (RX4, 27, yX7_init, "FarBanks") ∈ gNm := List.mem_of_getElem? (i := 2) rfl
theorem mn_X3_17 : (RX3, 17, yX4_init, "FarBanks") ∈ gNm := List.mem_of_getElem? (i := 3) rfl
theorem mn_X8_31 : (RX8, 31, yX6_init, "FarBanks") ∈ gNm := List.mem_of_getElem? (i := 4) rfl
theorem mn_X8_38 : (RX8, 38, yX1_init, "FarBanks") ∈ gNm := List.mem_of_getElem? (i := 5) rfl
theorem gNf_tbl : ∀ q ∈ gNf, Cond.fieldLinkNest q.1 q.2.1 q.2.2.1 q.2.2.2.1 q.2.2.2.2.1 q.2.2.2.2.2 ∈ lw_tbl := List.forall_mem_cons.mpr ⟨tb1 51 rfl, List.forall_mem_cons.mpr ⟨tb1 53 rfl, List.forall_mem_cons.mpr ⟨tb1 55 rfl, List.forall_mem_cons.mpr ⟨tb1 56 rfl, List.forall_mem_cons.mpr ⟨tb1 58 rfl, List.forall_mem_cons.mpr ⟨tb1 60 rfl, List.forall_mem_cons.mpr ⟨tb1 82 rfl, List.forall_mem_cons.mpr ⟨tb1 83 rfl, List.forall_mem_cons.mpr ⟨tb1 99 rfl, List.forall_mem_cons.mpr ⟨tb1 106 rfl, List.forall_mem_cons.mpr ⟨tb1 108 rfl, List.forall_mem_cons.mpr ⟨tb1 110 rfl, List.forall_mem_cons.mpr ⟨tb1 112 rfl, List.forall_mem_cons.mpr ⟨tb1 114 rfl, List.forall_mem_cons.mpr ⟨tb1 116 rfl, List.forall_mem_cons.mpr ⟨tb1 118 rfl, List.forall_mem_cons.mpr ⟨tb1 120 rfl, List.forall_mem_cons.mpr ⟨tb1 149 rfl, List.forall_mem_cons.mpr ⟨tb1 162 rfl, fun _ h => absurd h List.not_mem_nil⟩⟩⟩⟩⟩⟩⟩⟩⟩⟩⟩⟩⟩⟩⟩⟩⟩⟩⟩
theorem gNm_tbl : ∀ q ∈ gNm, Cond.methodLinkNest q.1 q.2.1 q.2.2.1 q.2.2.2 ∈ lw_tbl := List.forall_mem_cons.mpr ⟨tb1 22 rfl, List.forall_mem_cons.mpr ⟨tb1 74 rfl, List.forall_mem_cons.mpr ⟨tb1 91 rfl, List.forall_mem_cons.mpr ⟨tb1 146 rfl, List.forall_mem_cons.mpr ⟨tb1 157 rfl, List.forall_mem_cons.mpr ⟨tb1 171 rfl, fun _ h => absurd h List.not_mem_nil⟩⟩⟩⟩⟩⟩
/-! ===== what stands still: tables, nest words ===== -/
def gNst (U : State) : Prop := (∀ q ∈ gNf, va_Nw (.fieldLinkNest q.1 q.2.1 q.2.2.1 q.2.2.2.1 q.2.2.2.2.1 q.2.2.2.2.2) U) ∧ ∀ q ∈ gNm, va_Nw (.methodLinkNest q.1 q.2.1 q.2.2.1 q.2.2.2) U
def gEnv (X : gX) (U : State) (H : Heap) : Prop := va_K (gD X) vwCl (gTy X) U ∧ gNst U ∧ gSz X ≤ H.size
theorem gEnv.to {X : gX} {s t : State} {H0 H1 : Heap} (h : gEnv X s H0) (hW : s.WarmedH t.vm) (hz : H0.size ≤ H1.size) (_hq : ∀ q : Nat, q < H0.size → ¬ gA X q → H1[q]? = H0[q]?) : gEnv X t H1 := by
  obtain ⟨h1, h2, h3⟩ := h
  exact ⟨va_K.moved hW.alike h1, ⟨fun q hq => va_Nw.warmF hW (h2.1 q hq), fun q hq => va_Nw.warmM hW (h2.2 q hq)⟩, Nat.le_trans h3 hz⟩
def gB (X : gX) (mem : gM) (U : State) : Prop := gRep X mem U.heap ∧ gEnv X U U.heap
def gQ (X : gX) (post : Option Value → gM → Prop) : Array Value → State → Outcome → State → Prop := fun _ st oc t => (∃ (v : Option Value) (mem' : gM), oc = .returned v ∧ post v mem' ∧ gB X mem' t) ∧ va_F (gA X) st t
/-- a method's contract: from any heap that holds mem it ends, with an answer and a memory of which 'post' holds -/
def gMt (l : Launch) (y : MethodName) (cc : ByteArray) (nL : Nat) (ret : Option FieldType) (fr lo : Nat) (X : gX) (av : List Value) (mem : gM) (post : Option Value → gM → Prop) : Prop :=
  Met l y (.code y cc nL ret :: wA) { frames := fr, cells := 0, slots := 0, locals := lo } (va_Pc av (gB X mem)) (gQ X post) 0 0 (gA X)
/-- the same, with the answer and the memory told -/
def gF (l : Launch) (y : MethodName) (cc : ByteArray) (nL : Nat) (ret : Option FieldType) (fr lo : Nat) (X : gX) (av : List Value) (mem : gM) (r : Option Value) (mem2 : gM) : Prop :=
  gMt l y cc nL ret fr lo X av mem (fun v m => v = r ∧ m = mem2)
/-- where a body stands: the machine, its code, the words, what stands still -/
def gC (X : gX) (own : String) (cc : ByteArray) (ret : Option FieldType) (nL : Nat) (p : Program) (s : State) (m : MethodId) (args : Array Value) (meth : Method) (c : Code) : Prop :=
  p.tables.exec = Jvm.exec ∧ c.code = cc ∧ meth.sig.returnType = ret ∧ c.maxLocals = nL ∧ s.vm.findClass own = some m.cls ∧ (∀ w ∈ wA, w.before args s = true) ∧ meth.locks = false ∧ gInj X ∧ gEnv X s s.heap
/-! locals -/
def gL (ls : Array Slot) (vs : List (Option Value)) : Prop := ls.size = vs.length ∧ lv_wf ls ∧ ∀ (i : Nat) (v : Value), vs[i]? = some (some v) → v.category = 1 ∧ ls[i]? = some (.val v)
theorem gL.at {ls : Array Slot} {vs : List (Option Value)} (h : gL ls vs) (i : Nat) {v : Value} (hi : vs[i]? = some (some v)) : ls[i]? = some (.val v) := (h.2.2 i v hi).2
def gLs (vs : List (Option Value)) : List (Nat × Value) := (List.range vs.length).filterMap (fun i => (vs[i]?.join).map (fun v => (i, v)))
theorem gLs_mem {vs : List (Option Value)} {q : Nat × Value} : q ∈ gLs vs ↔ vs[q.1]? = some (some q.2) := by
  unfold gLs
  rw [List.mem_filterMap]
  constructor
  · rintro ⟨i, -, hi⟩
    cases h : vs[i]? with
    | none => rw [h] at hi; cases hi
    | some o =>
      cases o with
      | none => rw [h] at hi; cases hi
      | some v => rw [h] at hi; cases hi; exact h
  · intro h
    exact ⟨q.1, List.mem_range.mpr (List.getElem?_eq_some_iff.mp h).1, by rw [h]; rfl⟩
theorem gL.has {ls : Array Slot} {vs : List (Option Value)} (h : gL ls vs) : lv_has ls vs.length (gLs vs) := ⟨h.1, h.2.1, fun q hq => (h.2.2 q.1 q.2 (gLs_mem.mp hq)).2⟩
theorem gL.set {ls ls' : Array Slot} {vs : List (Option Value)} {i : Nat} {v : Value} (h : gL ls vs) (hi : i < vs.length) (hc : v.category = 1) (h' : lv_has ls' vs.length ((i, v) :: (gLs vs).filter (fun q => !(q.1 == i) && !(q.1 + 1 == i && q.2.category == 2)))) : gL ls' (vs.set i (some v)) := by
  refine ⟨by rw [List.length_set]; exact h'.1, h'.2.1, fun j w hj => ?_⟩
  by_cases e : j = i
  · subst e
    rw [List.getElem?_set_self hi] at hj
    cases hj
    exact ⟨hc, h'.2.2 (j, v) List.mem_cons_self⟩
  · rw [List.getElem?_set_ne (Ne.symm e)] at hj
    obtain ⟨c1, -⟩ := h.2.2 j w hj
    refine ⟨c1, h'.2.2 (j, w) (List.mem_cons_of_mem _ (List.mem_filter.mpr ⟨gLs_mem.mpr hj, ?_⟩))⟩
    simp [e, c1]
theorem gL.entry (vs : List Value) (n : Nat) (hc : ∀ v ∈ vs, v.category = 1) (hn : vs.length ≤ n) : gL ((lg_sl vs ++ List.replicate (n - (lg_sl vs).length) Slot.unset).toArray) (vs.map some ++ List.replicate (n - vs.length) none) := by
  have e : ∀ us : List Value, (∀ v ∈ us, v.category = 1) → lg_sl us = us.map Slot.val := by
    intro us
    induction us with
    | nil => intro _; rfl
    | cons a t ih =>
      intro h
      have ha : ¬ a.category = 2 := by rw [h a List.mem_cons_self]; decide
      show (if a.category = 2 then [Slot.val a, .second] else [Slot.val a]) ++ lg_sl t = _
      rw [if_neg ha, ih (fun v hv => h v (List.mem_cons_of_mem _ hv))]
      rfl
  rw [e vs hc, List.length_map]
  have hget : ∀ j : Nat, ((vs.map Slot.val ++ List.replicate (n - vs.length) Slot.unset).toArray)[j]? = if j < vs.length then (vs[j]?).map Slot.val else if j < n then some Slot.unset else none := by
    intro j
    rw [List.getElem?_toArray]
    by_cases h1 : j < vs.length
    · rw [if_pos h1, List.getElem?_append_left (by rw [List.length_map]; exact h1), List.getElem?_map]
    · rw [if_neg h1, List.getElem?_append_right (by rw [List.length_map]; omega), List.length_map, List.getElem?_replicate]
      by_cases h2 : j < n
      · rw [if_pos h2, if_pos (by omega)]
      · rw [if_neg h2, if_neg (by omega)]
  refine ⟨by simp, ⟨fun i v hi hv => ?_, fun i hi => ?_⟩, fun i v hi => ?_⟩
  · rw [hget i] at hi
    by_cases h1 : i < vs.length
    · rw [if_pos h1, List.getElem?_eq_getElem h1] at hi
      cases hi
      rw [hc _ (List.getElem_mem h1)] at hv
      cases hv
    · rw [if_neg h1] at hi
      by_cases h2 : i < n
      · rw [if_pos h2] at hi; cases hi
      · rw [if_neg h2] at hi; cases hi
  · rw [hget i] at hi
    by_cases h1 : i < vs.length
    · rw [if_pos h1, List.getElem?_eq_getElem h1] at hi
      cases hi
    · rw [if_neg h1] at hi
      by_cases h2 : i < n
      · rw [if_pos h2] at hi; cases hi
      · rw [if_neg h2] at hi; cases hi
  · by_cases h1 : i < vs.length
    · rw [List.getElem?_append_left (by rw [List.length_map]; exact h1), List.getElem?_map, List.getElem?_eq_getElem h1] at hi
      cases hi
      refine ⟨hc _ (List.getElem_mem h1), ?_⟩
      rw [hget i, if_pos h1, List.getElem?_eq_getElem h1]
      rfl
    · rw [List.getElem?_append_right (by rw [List.length_map]; omega), List.getElem?_replicate] at hi
      by_cases h2 : i - (vs.map some).length < n - vs.length
      · rw [if_pos h2] at hi; cases hi
      · rw [if_neg h2] at hi; cases hi
/-- a body walked is a contract -/
theorem gMt.of {l : Launch} {own : String} {y : MethodName} {cc : ByteArray} {nL : Nat} {ret : Option FieldType} {fr lo : Nat} {X : gX} {av : List Value} {mem : gM} {post : Option Value → gM → Prop} (hy : plainName y.cls = true) (ho : y.cls = own) (hI : gInj X) (hc : ∀ v ∈ av, v.category = 1) (hn : av.length ≤ nL)
    (body : ∀ (p : Program) (e : Env) (s : State) (m : MethodId) (args : Array Value) (below : List Frame) (meth : Method) (c : Code) (ls : Array Slot) (H : Heap) (locs : List Loc), gC X own cc ret nL p s m args meth c → meth.name = y.name → gL ls (av.map some ++ List.replicate (nL - av.length) none) → gRep X mem H → va_S (gA X) s.heap H locs →
      W p l e { frames := fr, cells := 0, slots := 0, locals := lo } s m args below meth c H locs 0 0 (MQ below (gQ X post) args s 0 0 (gA X)) (F0 m 0 ls [])) : gMt l y cc nL ret fr lo X av mem post := by
  refine Met.ofW (cc := cc) (maxL := nL) (ret := ret) hy rfl ?_
  intro p e s m args below meth c s₁ B hml hv
  obtain ⟨rfl, hR, hE⟩ := hv
  have hts := atoms_spec (ws := Cond.code y cc nL ret :: wA) B.pre
  rw [lg_entry_eq]
  exact body p e s m _ below meth c _ s.heap [] ⟨B.exec, B.bytes, B.returns, hml, by rw [← ho]; exact findClass_of_methodNamed B.named, fun w hw => hts w (List.mem_cons_of_mem _ hw), B.notSynchronized, hI, hE⟩ (name_of_methodNamed B.named B.method).1 (gL.entry av nL hc hn) hR va_S.rf
section GB
variable {p : Program} {l : Launch} {e : Env} {R : Room} {s : State} {m : MethodId} {args : Array Value} {below : List Frame} {meth : Method} {c : Code} {H : Heap} {locs : List Loc} {cells slots : Nat} {Q : State → Prop}
variable {cc : ByteArray} {pc : Nat} {ls : Array Slot} {rest : List Value} {X : gX} {own : String} {ret : Option FieldType} {nL : Nat} {mem : gM}
theorem gC.env {H1 : Heap} {t : State} {locs1 : List Loc} (C : gC X own cc ret nL p s m args meth c) (hS : va_S (gA X) s.heap H1 locs1) (ht : t.heap = H1) (hW : s.WarmedH t.vm) : gEnv X t t.heap := by
  obtain ⟨-, -, -, -, -, -, -, -, hE⟩ := C
  rw [ht]
  exact hE.to hW hS.1 hS.2.1
/-! ends -/
theorem g_iret {R0 : Room} {post : Option Value → gM → Prop} {v : Int32} (C : gC X own cc (some .int) nL p s m args meth c) (hR : gRep X mem H) (hS : va_S (gA X) s.heap H locs) (hdg : decode cc pc = .ok (.ireturn, 1)) (hp : post (some (.int v)) mem) : W p l e R0 s m args below meth c H locs 0 0 (MQ below (gQ X post) args s 0 0 (gA X)) (F0 m pc ls [.int v]) := by
  have C' := C
  obtain ⟨hx, hb, hr, -, -, -, hlocks, -, -⟩ := C
  exact W.iret hx hb hr (fun t ht hW => ⟨⟨_, mem, rfl, hp, by rw [ht]; exact hR, C'.env hS ht hW⟩, hS.F ht⟩) hS.2.2 hdg hlocks
theorem g_zret {R0 : Room} {post : Option Value → gM → Prop} {v : Int32} {ty : FieldType} (C : gC X own cc (some ty) nL p s m args meth c) (hR : gRep X mem H) (hS : va_S (gA X) s.heap H locs) (hdg : decode cc pc = .ok (.ireturn, 1)) (hn : narrow ty (.int v) = .int v) (hp : post (some (.int v)) mem) : W p l e R0 s m args below meth c H locs 0 0 (MQ below (gQ X post) args s 0 0 (gA X)) (F0 m pc ls [.int v]) := by
  have C' := C
  obtain ⟨hx, hb, hr, -, -, -, hlocks, -, -⟩ := C
  exact W.zret hx hb hr hn (fun t ht hW => ⟨⟨_, mem, rfl, hp, by rw [ht]; exact hR, C'.env hS ht hW⟩, hS.F ht⟩) hS.2.2 hdg hlocks
theorem g_vret {R0 : Room} {post : Option Value → gM → Prop} (C : gC X own cc none nL p s m args meth c) (hR : gRep X mem H) (hS : va_S (gA X) s.heap H locs) (hdg : decode cc pc = .ok (.return_, 1)) (hp : post none mem) : W p l e R0 s m args below meth c H locs 0 0 (MQ below (gQ X post) args s 0 0 (gA X)) (F0 m pc ls []) := by
  have C' := C
  obtain ⟨hx, hb, hr, -, -, -, hlocks, -, -⟩ := C
  exact W.vret hx hb hr (fun t ht hW => ⟨⟨_, mem, rfl, hp, by rw [ht]; exact hR, C'.env hS ht hW⟩, hS.F ht⟩) hS.2.2 hdg hlocks
theorem g_aret {R0 : Room} {post : Option Value → gM → Prop} {a : Nat} {cn : String} (C : gC X own cc (some (.object cn)) nL p s m args meth c) (hR : gRep X mem H) (hS : va_S (gA X) s.heap H locs) (hdg : decode cc pc = .ok (.areturn, 1)) (hp : post (some (.ref a)) mem) : W p l e R0 s m args below meth c H locs 0 0 (MQ below (gQ X post) args s 0 0 (gA X)) (F0 m pc ls [.ref a]) := by
  have C' := C
  obtain ⟨hx, hb, hr, -, -, -, hlocks, -, -⟩ := C
  exact W.aret hx hb hr (Or.inl ⟨_, rfl⟩) (Or.inr ⟨_, rfl⟩) (fun t ht hW => ⟨⟨_, mem, rfl, hp, by rw [ht]; exact hR, C'.env hS ht hW⟩, hS.F ht⟩) hS.2.2 hdg hlocks
/-! locals and numbers -/
theorem g_iload_n {vs : List (Option Value)} {k : Fin 4} {x : Int32} (C : gC X own cc ret nL p s m args meth c) (hl : gL ls vs) (hdg : decode cc pc = .ok (.iload_n k, 1)) (hi : vs[(k : Nat)]? = some (some (.int x))) (kk : W p l e R s m args below meth c H locs cells slots Q (F0 m (pc + 1) ls (.int x :: rest))) : W p l e R s m args below meth c H locs cells slots Q (F0 m pc ls rest) := lv_iload_n C.1 C.2.1 hdg rfl (hl.at _ hi) kk
theorem g_iload {vs : List (Option Value)} {i : Nat} {x : Int32} (C : gC X own cc ret nL p s m args meth c) (hl : gL ls vs) (hdg : decode cc pc = .ok (.iload i, 2)) (hi : vs[i]? = some (some (.int x))) (kk : W p l e R s m args below meth c H locs cells slots Q (F0 m (pc + 2) ls (.int x :: rest))) : W p l e R s m args below meth c H locs cells slots Q (F0 m pc ls rest) := lv_iload C.1 C.2.1 hdg (hl.at _ hi) kk
theorem g_aload_n {vs : List (Option Value)} {k : Fin 4} {x : Nat} (C : gC X own cc ret nL p s m args meth c) (hl : gL ls vs) (hdg : decode cc pc = .ok (.aload_n k, 1)) (hi : vs[(k : Nat)]? = some (some (.ref x))) (kk : W p l e R s m args below meth c H locs cells slots Q (F0 m (pc + 1) ls (.ref x :: rest))) : W p l e R s m args below meth c H locs cells slots Q (F0 m pc ls rest) := lv_aload_n C.1 C.2.1 hdg rfl (hl.at _ hi) kk
theorem g_aload {vs : List (Option Value)} {i : Nat} {x : Nat} (C : gC X own cc ret nL p s m args meth c) (hl : gL ls vs) (hdg : decode cc pc = .ok (.aload i, 2)) (hi : vs[i]? = some (some (.ref x))) (kk : W p l e R s m args below meth c H locs cells slots Q (F0 m (pc + 2) ls (.ref x :: rest))) : W p l e R s m args below meth c H locs cells slots Q (F0 m pc ls rest) := lv_aload C.1 C.2.1 hdg (hl.at _ hi) kk
theorem g_istore_n {vs : List (Option Value)} {k : Fin 4} {x : Int32} (C : gC X own cc ret nL p s m args meth c) (hl : gL ls vs) (hdg : decode cc pc = .ok (.istore_n k, 1)) (hi : (k : Nat) < vs.length) (kk : ∀ ls' : Array Slot, gL ls' (vs.set k (some (.int x))) → W p l e R s m args below meth c H locs cells slots Q (F0 m (pc + 1) ls' rest)) : W p l e R s m args below meth c H locs cells slots Q (F0 m pc ls (.int x :: rest)) := lv_istore_n C.1 C.2.1 hdg rfl hl.has hi rfl (fun ls' h' => kk ls' (hl.set hi rfl h'))
theorem g_istore {vs : List (Option Value)} {i : Nat} {x : Int32} (C : gC X own cc ret nL p s m args meth c) (hl : gL ls vs) (hdg : decode cc pc = .ok (.istore i, 2)) (hi : i < vs.length) (kk : ∀ ls' : Array Slot, gL ls' (vs.set i (some (.int x))) → W p l e R s m args below meth c H locs cells slots Q (F0 m (pc + 2) ls' rest)) : W p l e R s m args below meth c H locs cells slots Q (F0 m pc ls (.int x :: rest)) := lv_istore C.1 C.2.1 hdg hl.has hi rfl (fun ls' h' => kk ls' (hl.set hi rfl h'))
theorem g_astore_n {vs : List (Option Value)} {k : Fin 4} {x : Nat} (C : gC X own cc ret nL p s m args meth c) (hl : gL ls vs) (hdg : decode cc pc = .ok (.astore_n k, 1)) (hi : (k : Nat) < vs.length) (kk : ∀ ls' : Array Slot, gL ls' (vs.set k (some (.ref x))) → W p l e R s m args below meth c H locs cells slots Q (F0 m (pc + 1) ls' rest)) : W p l e R s m args below meth c H locs cells slots Q (F0 m pc ls (.ref x :: rest)) := lv_astore_n C.1 C.2.1 hdg rfl hl.has hi rfl (fun ls' h' => kk ls' (hl.set hi rfl h'))
theorem g_astore {vs : List (Option Value)} {i : Nat} {x : Nat} (C : gC X own cc ret nL p s m args meth c) (hl : gL ls vs) (hdg : decode cc pc = .ok (.astore i, 2)) (hi : i < vs.length) (kk : ∀ ls' : Array Slot, gL ls' (vs.set i (some (.ref x))) → W p l e R s m args below meth c H locs cells slots Q (F0 m (pc + 2) ls' rest)) : W p l e R s m args below meth c H locs cells slots Q (F0 m pc ls (.ref x :: rest)) := lv_astore C.1 C.2.1 hdg hl.has hi rfl (fun ls' h' => kk ls' (hl.set hi rfl h'))
/-- a local that is a Nat grows -/
theorem g_iinc {vs : List (Option Value)} {i k a : Nat} {n : Int} (C : gC X own cc ret nL p s m args meth c) (hl : gL ls vs) (hdg : decode cc pc = .ok (.iinc i n, 3)) (hi : vs[i]? = some (some (.int (nI a)))) (hn : Int32.ofInt n = nI k) (kk : ∀ ls' : Array Slot, gL ls' (vs.set i (some (.int (nI (a + k))))) → W p l e R s m args below meth c H locs cells slots Q (F0 m (pc + 3) ls' rest)) : W p l e R s m args below meth c H locs cells slots Q (F0 m pc ls rest) := by
  have hlt := (List.getElem?_eq_some_iff.mp hi).1
  obtain ⟨q, hq⟩ := List.getElem?_of_mem (gLs_mem (q := (i, .int (nI a))).mpr hi)
  exact lv_iinc (v := nI (a + k)) C.1 C.2.1 hdg hl.has hq (by rw [hn, nI_add]) hlt rfl (fun ls' h' => kk ls' (hl.set hlt rfl h'))
/-- a local that is a Nat falls -/
theorem g_idec {vs : List (Option Value)} {i a : Nat} {n : Int} (C : gC X own cc ret nL p s m args meth c) (hl : gL ls vs) (hdg : decode cc pc = .ok (.iinc i n, 3)) (hi : vs[i]? = some (some (.int (nI (a + 1))))) (hn : Int32.ofInt n = -1) (kk : ∀ ls' : Array Slot, gL ls' (vs.set i (some (.int (nI a)))) → W p l e R s m args below meth c H locs cells slots Q (F0 m (pc + 3) ls' rest)) : W p l e R s m args below meth c H locs cells slots Q (F0 m pc ls rest) := by
  have hlt := (List.getElem?_eq_some_iff.mp hi).1
  obtain ⟨q, hq⟩ := List.getElem?_of_mem (gLs_mem (q := (i, .int (nI (a + 1)))).mpr hi)
  exact lv_iinc (v := nI a) C.1 C.2.1 hdg hl.has hq (by rw [hn, pk_m1]) hlt rfl (fun ls' h' => kk ls' (hl.set hlt rfl h'))
theorem g_iconst {n : Int} (k : Nat) (C : gC X own cc ret nL p s m args meth c) (hdg : decode cc pc = .ok (.iconst n, 1)) (hn : Int32.ofInt n = nI k) (kk : W p l e R s m args below meth c H locs cells slots Q (F0 m (pc + 1) ls (.int (nI k) :: rest))) : W p l e R s m args below meth c H locs cells slots Q (F0 m pc ls rest) := lv_iconst C.1 C.2.1 hdg hn kk
theorem g_iconstM {n : Int} (v : Int32) (C : gC X own cc ret nL p s m args meth c) (hdg : decode cc pc = .ok (.iconst n, 1)) (hn : Int32.ofInt n = v) (kk : W p l e R s m args below meth c H locs cells slots Q (F0 m (pc + 1) ls (.int v :: rest))) : W p l e R s m args below meth c H locs cells slots Q (F0 m pc ls rest) := lv_iconst C.1 C.2.1 hdg hn kk
theorem g_bipush {n : Int} (k : Nat) (C : gC X own cc ret nL p s m args meth c) (hdg : decode cc pc = .ok (.bipush n, 2)) (hn : (Int8.ofInt n).toInt32 = nI k) (kk : W p l e R s m args below meth c H locs cells slots Q (F0 m (pc + 2) ls (.int (nI k) :: rest))) : W p l e R s m args below meth c H locs cells slots Q (F0 m pc ls rest) := lv_bipush C.1 C.2.1 hdg hn kk
theorem g_bipushM {n : Int} (v : Int32) (C : gC X own cc ret nL p s m args meth c) (hdg : decode cc pc = .ok (.bipush n, 2)) (hn : (Int8.ofInt n).toInt32 = v) (kk : W p l e R s m args below meth c H locs cells slots Q (F0 m (pc + 2) ls (.int v :: rest))) : W p l e R s m args below meth c H locs cells slots Q (F0 m pc ls rest) := lv_bipush C.1 C.2.1 hdg hn kk
theorem g_sipush {n : Int} (k : Nat) (C : gC X own cc ret nL p s m args meth c) (hdg : decode cc pc = .ok (.sipush n, 3)) (hn : (Int16.ofInt n).toInt32 = nI k) (kk : W p l e R s m args below meth c H locs cells slots Q (F0 m (pc + 3) ls (.int (nI k) :: rest))) : W p l e R s m args below meth c H locs cells slots Q (F0 m pc ls rest) := lv_sipush C.1 C.2.1 hdg hn kk
theorem g_ldc {index : Nat} {v : Int32} (k : Nat) (C : gC X own cc ret nL p s m args meth c) (hw : Cond.constant own index v ∈ wA) (hv : v = nI k) (hdg : decode cc pc = .ok (.ldc index, 2)) (kk : W p l e R s m args below meth c H locs cells slots Q (F0 m (pc + 2) ls (.int (nI k) :: rest))) : W p l e R s m args below meth c H locs cells slots Q (F0 m pc ls rest) := by
  subst hv
  obtain ⟨hx, hb, -, -, hown, hA, -, -, -⟩ := C
  exact lv_ldc hx hb hown (hA _ hw) hdg kk
theorem g_iadd {a b : Nat} (C : gC X own cc ret nL p s m args meth c) (hdg : decode cc pc = .ok (.iadd, 1)) (kk : W p l e R s m args below meth c H locs cells slots Q (F0 m (pc + 1) ls (.int (nI (a + b)) :: rest))) : W p l e R s m args below meth c H locs cells slots Q (F0 m pc ls (.int (nI b) :: .int (nI a) :: rest)) := lv_iadd C.1 C.2.1 hdg (by rw [nI_add]; exact kk)
theorem g_isub {a b : Nat} (C : gC X own cc ret nL p s m args meth c) (hdg : decode cc pc = .ok (.isub, 1)) (h : b ≤ a) (kk : W p l e R s m args below meth c H locs cells slots Q (F0 m (pc + 1) ls (.int (nI (a - b)) :: rest))) : W p l e R s m args below meth c H locs cells slots Q (F0 m pc ls (.int (nI b) :: .int (nI a) :: rest)) := lv_isub C.1 C.2.1 hdg (by rw [pk_sub h]; exact kk)
theorem g_imul {a b : Nat} (C : gC X own cc ret nL p s m args meth c) (hdg : decode cc pc = .ok (.imul, 1)) (kk : W p l e R s m args below meth c H locs cells slots Q (F0 m (pc + 1) ls (.int (nI (a * b)) :: rest))) : W p l e R s m args below meth c H locs cells slots Q (F0 m pc ls (.int (nI b) :: .int (nI a) :: rest)) := lv_imul C.1 C.2.1 hdg (by rw [pk_mul]; exact kk)
theorem g_idiv {a b : Nat} (C : gC X own cc ret nL p s m args meth c) (hdg : decode cc pc = .ok (.idiv, 1)) (ha : a < 2 ^ 31) (h0 : 0 < b) (hb : b < 2 ^ 31) (kk : W p l e R s m args below meth c H locs cells slots Q (F0 m (pc + 1) ls (.int (nI (a / b)) :: rest))) : W p l e R s m args below meth c H locs cells slots Q (F0 m pc ls (.int (nI b) :: .int (nI a) :: rest)) := lv_idiv C.1 C.2.1 hdg (nI_ne0 h0 hb) (by rw [pk_div ha h0 hb]; exact kk)
theorem g_irem {a b : Nat} (C : gC X own cc ret nL p s m args meth c) (hdg : decode cc pc = .ok (.irem, 1)) (ha : a < 2 ^ 31) (h0 : 0 < b) (hb : b < 2 ^ 31) (kk : W p l e R s m args below meth c H locs cells slots Q (F0 m (pc + 1) ls (.int (nI (a % b)) :: rest))) : W p l e R s m args below meth c H locs cells slots Q (F0 m pc ls (.int (nI b) :: .int (nI a) :: rest)) := lv_irem C.1 C.2.1 hdg (nI_ne0 h0 hb) (by rw [pk_rem ha h0 hb]; exact kk)
theorem g_dup {v : Value} (C : gC X own cc ret nL p s m args meth c) (hdg : decode cc pc = .ok (.dup, 1)) (hc : v.category = 1) (kk : W p l e R s m args below meth c H locs cells slots Q (F0 m (pc + 1) ls (v :: v :: rest))) : W p l e R s m args below meth c H locs cells slots Q (F0 m pc ls (v :: rest)) := lv_dup C.1 C.2.1 hdg hc kk
theorem g_dup2 {v w : Value} (C : gC X own cc ret nL p s m args meth c) (hdg : decode cc pc = .ok (.dup2, 1)) (hv : v.category = 1) (hw : w.category = 1) (kk : W p l e R s m args below meth c H locs cells slots Q (F0 m (pc + 1) ls (v :: w :: v :: w :: rest))) : W p l e R s m args below meth c H locs cells slots Q (F0 m pc ls (v :: w :: rest)) := lv_dup2_11 C.1 C.2.1 hdg hv hw kk
theorem g_pop {v : Value} (C : gC X own cc ret nL p s m args meth c) (hdg : decode cc pc = .ok (.pop, 1)) (hc : v.category = 1) (kk : W p l e R s m args below meth c H locs cells slots Q (F0 m (pc + 1) ls rest)) : W p l e R s m args below meth c H locs cells slots Q (F0 m pc ls (v :: rest)) := lv_pop C.1 C.2.1 hdg hc kk
theorem g_goto {off : Int} {tgt : Nat} (C : gC X own cc ret nL p s m args meth c) (hdg : decode cc pc = .ok (.goto off, 3)) (ht : (pc : Int) + off = (tgt : Int)) (kk : W p l e R s m args below meth c H locs cells slots Q (F0 m tgt ls rest)) : W p l e R s m args below meth c H locs cells slots Q (F0 m pc ls rest) := lv_goto C.1 C.2.1 hdg ht kk
end GB
