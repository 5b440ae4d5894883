/-! ===== the law's ends (of the skeleton) ===== -/
def R_law : String := "FarBanksLaw"
def lw_P (b : Addr) (xs : List Int32) (args : Array Value) (s : State) : Prop := args = #[.ref b] ∧ s.IntsAt b xs ∧ xs.length ≤ 260 ∧ (Jvm.Cond.and given_1 narrow_1).before args s = true
def lw_Q (_ : Array Value) (s : State) (o : Outcome) (t : State) : Prop := o = .returned (some (.int 1)) ∧ Framed s o t [] 600000 7302250
def lw_Z (below : List Frame) (a : Array Value) (s : State) : State → Prop := fun t => ∃ o, t.status = .running ∧ Ended t below o ∧ lw_Q a s o t
/-- the law's own end, with 1 on the stack, nothing written that was there before, its room as the claim has it -/
theorem lw_ret {p : Program} {l : Launch} {e : Env} {s : State} {m : MethodId} {below : List Frame} {meth : Method} {c : Code} {b : Nat} (hx : p.tables.exec = Jvm.exec) (hb : c.code = code) (hr : meth.sig.returnType = ret) (hlocks : meth.locks = false) {pc : Nat} {H : Heap} {ls : Array Slot} (hdg : decode code pc = .ok (.ireturn, 1)) : W p l e room_1 s m #[Value.ref b] below meth c H [] 600000 7302250 (lw_Z below #[Value.ref b] s) (F0 m pc ls [.int 1]) := by
  intro T hT X
  obtain ⟨fs, hret, hrun, hended, hW, hframe⟩ := X.leave (v := some (.int 1)) (hlocks := hlocks) (fun h => by rw [hr] at h; cases h)
  have hmeth' : T.vm.method? m = some meth := X.method'
  refine ⟨T.setFrames fs, ?_, .returned (some (.int 1)), hrun, hended, rfl, ⟨_, rfl⟩, hW, hframe⟩
  jvm_step X.here [X.here.top, hx, hb, hdg, hmeth', hr, ret, narrow_b1]
  (try refine ⟨rfl, ?_⟩); (try refine ⟨rfl, ?_⟩)
  first | (intro acts; rw [hret _ acts rfl rfl rfl]) | rw [hret _ _ rfl rfl rfl]
  exact Steps.refl _
/-- what holds at the law's entry: the machine, the code, the tables' words (any of lw_tbl by 'hts w (by decide +kernel)'), the script of L ints xs at the cell b, what the Statement gives of the start (any of its parts by flat_of_before) -/
def lw_At (p : Program) (s : State) (m : MethodId) (meth : Method) (c : Code) (b L : Nat) (xs : Nat → Int32) : Prop :=
  p.tables.exec = Jvm.exec ∧ c.code = code ∧ meth.sig.returnType = ret ∧ c.maxLocals = 10 ∧ s.vm.findClass R_law = some m.cls ∧ (∀ w ∈ lw_tbl, w.before #[Value.ref b] s = true) ∧ va_X b L xs s s.heap ∧ b < s.heap.size ∧ meth.locks = false ∧ (Jvm.Cond.and given_1 narrow_1).before #[Value.ref b] s = true
/-! ===== the start: what the premises give ===== -/
/-! where the cells will lie -/
def kIx (k o : Nat) : Nat := if k < 3 then 1 + 18 * k + o else if k < 7 then 3 + 18 * k + o else (match o with
  | 0 => 0
  | 1 => 55
  | 2 => 56
  | _ => 126 + o)
theorem kIx_inj : ∀ i, i < 134 → ∀ j, j < 134 → (gIds[i]?).map (fun q => kIx q.1 q.2) = (gIds[j]?).map (fun q => kIx q.1 q.2) → i = j := by decide +kernel
theorem gId_0 {X : gX} (hx : gXt X = 0) : gId X = gIds := by
  unfold gId
  rw [hx]
  exact List.append_nil _
theorem kInj {X : gX} (h : ∀ k o, gAd X k o = gSz X + kIx k o) (hx : gXt X = 0) : gInj X := by
  intro mem
  have key : ∀ (i : Nat) (q : Nat × va_E), (gWs X mem)[i]? = some q → ∃ z, gIds[i]? = some z ∧ q.1 = gSz X + kIx z.1 z.2 := by
    intro i q hq
    unfold gWs at hq
    rw [gId_0 hx, List.getElem?_map] at hq
    obtain ⟨z, hz, e⟩ := Option.map_eq_some_iff.mp hq
    exact ⟨z, hz, by rw [← e]; exact h _ _⟩
  refine ⟨fun i j p q hi hj e => ?_, fun k q hq => ?_⟩
  · obtain ⟨z1, h1, e1⟩ := key i p hi
    obtain ⟨z2, h2, e2⟩ := key j q hj
    have l1 : i < gIds.length := (List.getElem?_eq_some_iff.mp h1).1
    have l2 : j < gIds.length := (List.getElem?_eq_some_iff.mp h2).1
    rw [gIds_len] at l1 l2
    refine kIx_inj i l1 j l2 ?_
    rw [h1, h2]
    show some (kIx z1.1 z1.2) = some (kIx z2.1 z2.2)
    congr 1
    omega
  · obtain ⟨z, -, e⟩ := key k q hq
    show gSz X ≤ q.1
    omega
theorem st_env {p : Program} {s : State} {m : MethodId} {meth : Method} {c : Code} {b L : Nat} {xs : Nat → Int32} (C0 : lw_At p s m meth c b L xs) : ∃ X : gX, gSz X = s.heap.size ∧ (∀ k o, gAd X k o = gSz X + kIx k o) ∧ gXt X = 0 ∧ gEnv X s s.heap ∧ va_AO RX4 s := by
  obtain ⟨-, -, -, -, -, hts, -, -, -, hgv⟩ := C0
  have hA : ∀ w ∈ wA, w.before #[Value.ref b] s = true := fun w hw => hts w (wA_tbl w hw)
  have key : ∀ (Cn : String) (T : u_T) (N : Nat), (∀ w ∈ u_ws Cn T N, w ∈ wA) → Cond.instantiable Cn N ∈ wA → ∃ r : ClassId × (Nat → Nat), u_Kn s Cn T N r.1 r.2 := fun Cn T N h1 h2 => by
    obtain ⟨cC, iS, h⟩ := u_known (ws := wA) hA h1 (hA _ h2)
    exact ⟨(cC, iS), h⟩
  have hcls : ∀ c : Nat, ∃ r : ClassId × (Nat → Nat), ∀ q : vw_C, vwCl[c]? = some q → u_Kn s q.1 q.2.1 q.2.2 r.1 r.2 := by
    intro c
    by_cases h10 : c < 9
    · rcases (show c = 0 ∨ c = 1 ∨ c = 2 ∨ c = 3 ∨ c = 4 ∨ c = 5 ∨ c = 6 ∨ c = 7 ∨ c = 8 by omega) with rfl | rfl | rfl | rfl | rfl | rfl | rfl | rfl | rfl
      · obtain ⟨r, h⟩ := key RX0 TX0 5 ilX0 ib_X0
        refine ⟨r, fun q hq => ?_⟩
        obtain rfl := Option.some.inj (show some (RX0, TX0, 5) = some q from hq)
        exact h
      · obtain ⟨r, h⟩ := key RX1 TX1 4 ilX1 ib_X1
        refine ⟨r, fun q hq => ?_⟩
        obtain rfl := Option.some.inj (show some (RX1, TX1, 4) = some q from hq)
        exact h
      · obtain ⟨r, h⟩ := key RX2 TX2 2 ilX2 ib_X2
        refine ⟨r, fun q hq => ?_⟩
        obtain rfl := Option.some.inj (show some (RX2, TX2, 2) = some q from hq)
        exact h
      · obtain ⟨r, h⟩ := key RX3 TX3 2 ilX3 ib_X3
        refine ⟨r, fun q hq => ?_⟩
        obtain rfl := Option.some.inj (show some (RX3, TX3, 2) = some q from hq)
        exact h
      · obtain ⟨r, h⟩ := key RX4 TX4 8 ilX4 ib_X4
        refine ⟨r, fun q hq => ?_⟩
        obtain rfl := Option.some.inj (show some (RX4, TX4, 8) = some q from hq)
        exact h
      · obtain ⟨r, h⟩ := key RX5 TX5 1 ilX5 ib_X5
        refine ⟨r, fun q hq => ?_⟩
        obtain rfl := Option.some.inj (show some (RX5, TX5, 1) = some q from hq)
        exact h
      · obtain ⟨r, h⟩ := key RX6 TX6 2 ilX6 ib_X6
        refine ⟨r, fun q hq => ?_⟩
        obtain rfl := Option.some.inj (show some (RX6, TX6, 2) = some q from hq)
        exact h
      · obtain ⟨r, h⟩ := key RX7 TX7 2 ilX7 ib_X7
        refine ⟨r, fun q hq => ?_⟩
        obtain rfl := Option.some.inj (show some (RX7, TX7, 2) = some q from hq)
        exact h
      · obtain ⟨r, h⟩ := key RX8 TX8 7 ilX8 ib_X8
        refine ⟨r, fun q hq => ?_⟩
        obtain rfl := Option.some.inj (show some (RX8, TX8, 7) = some q from hq)
        exact h
    · obtain ⟨r, -⟩ := key RX0 TX0 5 ilX0 ib_X0
      exact ⟨r, fun q hq => absurd (show c < 9 from (List.getElem?_eq_some_iff.mp hq).1) h10⟩
  obtain ⟨dd, hdd⟩ := Classical.axiomOfChoice hcls
  obtain ⟨c0, k0, m0, a1, a2, a3⟩ := Cond.arrayClass_spec (hts _ (tb1 45 rfl))
  obtain ⟨c1, k1, m1, b1, b2, b3⟩ := Cond.arrayClass_spec (hts _ (tb1 168 rfl))
  have hao : va_AO RX4 s := va_AO.of (hts _ (tb1 145 rfl))
  obtain ⟨m2, c2, k2, d1, d2, d3, d4, d5⟩ := Cond.arrayOver_spec (hts _ (tb1 145 rfl))
  refine ⟨((fun c => (dd c).1, fun c => (dd c).2), fun k o => s.heap.size + kIx k o, fun t => (match t with | 0 => c0 | 1 => c1 | _ => c2), s.heap.size, 0), rfl, fun _ _ => rfl, rfl, ⟨⟨fun c q hq => hdd c q hq, fun k q hq => ?_⟩, ⟨fun q hq => va_Nw.of rfl (hts _ (gNf_tbl q hq)), fun q hq => va_Nw.of rfl (hts _ (gNm_tbl q hq))⟩, Nat.le_refl _⟩, hao⟩
  have h3 : k < 3 := (List.getElem?_eq_some_iff.mp hq).1
  rcases (show k = 0 ∨ k = 1 ∨ k = 2 by omega) with rfl | rfl | rfl
  · obtain rfl := Option.some.inj (show some ((c0 : ClassId), FieldType.int) = some q from hq)
    exact ⟨fun n z => ⟨fun k h => (by cases h), k0, a2, m0, a3⟩, a1⟩
  · obtain rfl := Option.some.inj (show some ((c1 : ClassId), FieldType.char) = some q from hq)
    exact ⟨fun n z => ⟨fun k h => (by cases h), k1, b2, m1, b3⟩, b1⟩
  · obtain rfl := Option.some.inj (show some ((c2 : ClassId), FieldType.object RX4) = some q from hq)
    exact ⟨fun n z => ⟨fun k h => (by cases h), k2, d3, m2, d4⟩, k2, m2, d3, d4, d1, d5⟩
