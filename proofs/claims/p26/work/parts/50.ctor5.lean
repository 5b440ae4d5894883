/-! ===== constructors, one by one ===== -/
def kRow (X : gX) (a n : Nat) (g : Nat → Nat) : List va_E := [.inr (5, [.ref (a + 1)]), gAr X n g]
theorem kc_X5 (l : Launch) {X : gX} (hI : gInj X) {a n : Nat} (hn : n ≤ 1000) : kC l yX5_init cX5_init 2 1 24 1 n X [.int (nI n)] a (.inr (5, [.null])) (kRow X a n (fun _ => 0)) := k_X5_init l hI hn
def kWB (X : gX) (r n : Nat) (g : Nat → Nat) (U : State) : Prop := va_P (gD X) vwCl (kCs r (kRow X r n g)) U.heap ∧ gSz X ≤ r ∧ gEnv X U U.heap
def kWF (r : Nat) : Nat → Prop := fun q => q = r ∨ q = r + 1
def kWQ (X : gX) (r n : Nat) (g : Nat → Nat) : Array Value → State → Outcome → State → Prop := fun _ st oc t => (oc = .returned none ∧ kWB X r n g t) ∧ va_F (kWF r) st t
theorem kWB_blind {av : List Value} {X : gX} {r n : Nat} {g : Nat → Nat} : FrameBlind (va_Pc av (kWB X r n g)) := fun _ U _ _ q => ⟨q.1, q.2.1, q.2.2.1, q.2.2.2.to (State.WarmedH.refl U) (Nat.le_refl _) (fun _ _ _ => rfl)⟩

set_option maxRecDepth 100000 in
set_option maxHeartbeats 4000000 in
/-- Row.write over its two cells alone -/
theorem kw_X5 (l : Launch) {X : gX} (hI : gInj X) {r n i x : Nat} {g : Nat → Nat} (hi : i < n) (hn : n < 2 ^ 31) : Met l yX5_write (.code yX5_write cX5_write 3 none :: wA) { frames := 0, cells := 0, slots := 0, locals := 0 } (va_Pc [.ref r, .int (nI i), .int (nI x)] (kWB X r n g)) (kWQ X r n (fU g i x)) 0 0 (kWF r) := by
  refine Met.ofW (cc := cX5_write) (maxL := 3) (ret := none) (by decide) rfl ?_
  intro p e s m args below meth c s₁ B hml hv
  obtain ⟨rfl, hP, hr, hE⟩ := hv
  have hts := atoms_spec (ws := Cond.code yX5_write cX5_write 3 none :: wA) B.pre
  rw [lg_entry_eq]
  have C : gC X RX5 cX5_write none 3 p s m [Value.ref r, .int (nI i), .int (nI x)].toArray meth c := ⟨B.exec, B.bytes, B.returns, hml, findClass_of_methodNamed B.named, fun w hw => hts w (List.mem_cons_of_mem _ hw), B.notSynchronized, hI, hE⟩
  have hl := gL.entry [Value.ref r, .int (nI i), .int (nI x)] 3 (by simp [Value.category]) (Nat.le_of_ble_eq_true rfl)
  generalize (lg_sl [Value.ref r, .int (nI i), .int (nI x)] ++ List.replicate (3 - (lg_sl [Value.ref r, .int (nI i), .int (nI x)]).length) Slot.unset).toArray = ls at hl ⊢
  have hD : va_D (kWF r) (kCs r (kRow X r n g)) := by
    refine ⟨fun i j p q hi hj e => ?_, fun k q hq => ?_⟩
    · have h1 := (kCs_at hi).2.1
      have h2 := (kCs_at hj).2.1
      omega
    · have h1 := kCs_at hq
      have h2 : k < 2 := h1.1
      have h3 := h1.2.1
      unfold kWF
      omega
  have e0 : (kCs r (kRow X r n g))[0]? = some (r, .inr (5, [.ref (r + 1)])) := rfl
  have e1 : (kCs r (kRow X r n g))[1]? = some (r + 1, .inl (gCl X 0, n, .inl (fun j => nI (g j)))) := rfl
  refine g_iload_n C hl dX5_write_0 rfl ?_
  refine g_if_lt (tgt := 20) C dX5_write_1 (by decide) (by omega) ?_
  refine g_iload_n C hl dX5_write_4 rfl ?_
  refine g_aload_n C hl dX5_write_5 rfl ?_
  refine va_get (v := .ref (r + 1)) C.1 C.2.1 C.2.2.2.2.2.1 ilX5 C.2.2.2.2.1 hE.1 hP 0 e0 rfl 0 (by decide) (C.2.2.2.2.2.1 _ fl_X5_13) (fun _ h9 => h9) rfl dX5_write_6 ?_
  refine va_alen (v := nI n) C.1 C.2.1 hE.1 hP 1 0 e1 rfl rfl dX5_write_9 ?_
  refine g_icmp_ge (tgt := 20) C dX5_write_10 (by decide) (by omega) (by omega) (fun z9 => absurd z9 (by omega)) (fun c10 => ?_)
  refine g_aload_n C hl dX5_write_13 rfl ?_
  refine va_get (v := .ref (r + 1)) C.1 C.2.1 C.2.2.2.2.2.1 ilX5 C.2.2.2.2.1 hE.1 hP 0 e0 rfl 0 (by decide) (C.2.2.2.2.2.1 _ fl_X5_13) (fun _ h9 => h9) rfl dX5_write_14 ?_
  refine g_iload_n C hl dX5_write_17 rfl ?_
  refine g_iload_n C hl dX5_write_18 rfl ?_
  refine va_iast C.1 C.2.1 hE.1 hP hD va_S.rf 1 0 e1 rfl (vp_in_nI hi hn) dX5_write_19 (fun H1 locs1 hP1 hD1 hS1 => ?_)
  rw [nI_clamp (by omega)] at hP1
  have e8 : upd (fun j => nI (g j)) i (nI x) = fun j => nI (fU g i x j) := by
    funext j
    unfold upd fU
    by_cases h : j = i
    · rw [if_pos h, if_pos h]
    · rw [if_neg h, if_neg h]
  rw [e8] at hP1
  refine W.vret C.1 C.2.1 C.2.2.1 (fun t ht hW => ⟨⟨rfl, ?_, hr, ?_⟩, hS1.F ht⟩) hS1.2.2 dX5_write_20 C.2.2.2.2.2.2.1
  · rw [ht]
    exact hP1
  · rw [ht]
    refine hE.to hW hS1.1 (fun q h1 h2 => hS1.2.1 q h1 (fun h3 => h2 ?_))
    show gSz X ≤ q
    unfold kWF at h3
    omega
section GK3
variable {p : Program} {l : Launch} {e : Env} {R : Room} {s : State} {m : MethodId} {args : Array Value} {below : List Frame} {meth : Method} {c : Code} {H : Heap} {locs : List Loc} {cells slots : Nat} {Q : State → Prop}
variable {cc : ByteArray} {pc : Nat} {ls : Array Slot} {rest : List Value} {X : gX} {own : String} {ret : Option FieldType} {nL : Nat} {A : Nat → Prop} {a : Nat} {es : List va_E}
theorem kk_write {i n w x ax index : Nat} {g : Nat → Nat} (C : gC X own cc ret nL p s m args meth c) (hI : gInj X) (hz : ls.size = nL) (hB : kSt X A s a es H locs cells) (h5 : es[i]? = some (.inr (5, [.ref (a + i + 1)]))) (h6 : es[i + 1]? = some (gAr X n g)) (hw9 : w < n) (hn : n < 2 ^ 31) (hax : ax = a + i) (hlink : Cond.methodLink own index yX5_write ∈ wA) (hroom : 0 + 1 ≤ R.frames ∧ 8 + (3 + 11) + 0 ≤ R.locals) (hf : cells ≤ R.cells ∧ slots ≤ R.slots) (hw : (rest.map fun v => v.category).sum ≤ 8) (hdg : decode cc pc = .ok (.invokevirtual index, 3))
    (kk : ∀ (H1 : Heap) (locs1 : List Loc), kSt X A s a (es.set (i + 1) (gAr X n (fU g w x))) H1 locs1 cells → W p l e R s m args below meth c H1 locs1 cells slots Q (F0 m (pc + 3) ls rest)) : W p l e R s m args below meth c H locs cells slots Q (F0 m pc ls (.int (nI x) :: .int (nI w) :: .ref ax :: rest)) := by
  subst hax
  obtain ⟨hP, hsz, hS, hce, hA1, hg, hA2⟩ := hB
  obtain ⟨hx, hb, -, hml, hown, hA, -, -, hE⟩ := C
  obtain ⟨i1, i2, i3, i4, i5⟩ := md_X5_write
  have he5 : (kCs a es)[i]? = some (a + i, .inr (5, [.ref (a + i + 1)])) := by
    rw [kCs_get, h5]
    rfl
  have he6 : (kCs a es)[i + 1]? = some (a + i + 1, gAr X n g) := by
    rw [kCs_get, h6]
    rfl
  have hP2 : va_P (gD X) vwCl (kCs (a + i) (kRow X (a + i) n g)) H := kP_cons (hP i _ he5) (kP_cons (hP (i + 1) _ he6) kP_nil)
  have hlt : a + i + 1 < H.size := (hP (i + 1) _ he6).lt
  have cb := callB_of (R := R) (rm := { frames := 0, cells := 0, slots := 0, locals := 0 }) (mc := 0) (ms := 0) 2 hA (g_good i3) rfl rfl rfl (hA _ i4) (hA _ hlink) i5 hroom
  have hr : va_Run p l e R s m args below meth c H locs cells slots 0 0 (F0 m pc ls (.int (nI x) :: .int (nI w) :: .ref (a + i) :: rest)) rest (kWQ X (a + i) n (fU g w x) (Value.ref (a + i) :: [Value.int (nI w), .int (nI x)]).toArray) (kWF (a + i)) := va_runV (C := RX5) (rest := rest) ⟨hx, hb, hml, hown, hA⟩ (kw_X5 l hI hw9 hn) ⟨cb, hA _ i1, hA _ i2⟩ ⟨kWB_blind, va_recv hE.1 hP rfl he5, fun U hU hW => ⟨rfl, by rw [hU]; exact hP2, by omega, by rw [hU]; exact hE.to hW hS.1 (fun q h1 h2 => hS.2.1 q h1 (fun h3 => h2 (hA2 q h3)))⟩⟩ rfl rfl hz rfl (lv_room hw) hdg hf
  intro T hT X9
  obtain ⟨v, st₀, t, T', L, h0, X', hL, e1, e2, ⟨⟨hv, hP3, -, -⟩, hz2, hk⟩, st⟩ := hr T hT X9
  cases hv
  rw [h0] at hz2 hk
  have hPn : va_P (gD X) vwCl (kCs a (es.set (i + 1) (gAr X n (fU g w x)))) t.heap := by
    intro k q hq
    by_cases ek : k = i + 1
    · obtain ⟨h1, h2, h3⟩ := kCs_at hq
      subst ek
      rw [List.getElem?_set_self (by rw [List.length_set] at h1; exact h1)] at h3
      have e3 : q = (a + i + 1, gAr X n (fU g w x)) := Prod.ext (by rw [h2]; rfl) (Option.some.inj h3).symm
      rw [e3]
      exact hP3 1 _ rfl
    · have hq2 : (kCs a es)[k]? = some q := by
        rw [kCs_get, List.getElem?_set_ne (fun z => ek z.symm), ← kCs_get] at hq
        exact hq
      by_cases e5 : k = i
      · subst e5
        rw [he5] at hq2
        cases hq2
        exact hP3 0 _ rfl
      · refine (hP k q hq2).kept (hk q.1 ((hP k q hq2).lt) (fun h3 => ?_))
        have h2 := (kCs_at hq2).2.1
        unfold kWF at h3
        omega
  have hSn : va_S A s.heap T'.heap (locs ++ L) := ⟨Nat.le_trans hS.1 (by rw [e1]; exact hz2), fun q h1 h2 => by
      rw [e1, hk q (Nat.lt_of_lt_of_le h1 hS.1) (fun h3 => h2 (hA1 q (by unfold kWF at h3; omega)))]
      exact hS.2.1 q h1 h2, fun q hq => by
      rcases List.mem_append.mp hq with h | h
      · exact hS.2.2 q h
      · exact hA1 _ (by have h3 := hL q h; unfold kWF at h3; omega)⟩
  have hup : T'.heap.size ≤ s.heap.size + cells := X'.heapSize
  have hlo : H.size ≤ T'.heap.size := by
    rw [e1]
    exact hz2
  obtain ⟨t2, a1, b1⟩ := kk T'.heap (locs ++ L) ⟨by rw [e1]; exact hPn, by rw [List.length_set]; omega, hSn, by rw [List.length_set]; exact hce, hA1, hg, hA2⟩ T' rfl X'
  exact ⟨t2, st t2 a1, b1⟩
end GK3
