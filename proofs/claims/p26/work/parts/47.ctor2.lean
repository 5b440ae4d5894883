/-! ===== constructors: a new object ===== -/
section GN
variable {p : Program} {l : Launch} {e : Env} {R : Room} {s : State} {m : MethodId} {args : Array Value} {below : List Frame} {meth : Method} {c : Code} {H : Heap} {locs : List Loc} {cells slots : Nat} {Q : State → Prop}
variable {cc : ByteArray} {pc : Nat} {ls : Array Slot} {rest : List Value} {X : gX} {own : String} {ret : Option FieldType} {nL : Nat}
theorem k_new {A : Nat → Prop} {Cn : String} {T : u_T} {N ci index : Nat} {fs : List Value} (ty : Nat → FieldType) (C : gC X own cc ret nL p s m args meth c) (hty : ∀ k, k < N → parseFieldDescriptor (T k).2.2.1 = some (ty k)) (hin : ∀ w ∈ u_ws Cn T N, w ∈ wA) (hcl : Cond.classLink own index Cn ∈ wA) (hinst : Cond.instantiable Cn N ∈ wA) (hini : Cond.initialized Cn ∈ wA) (hS : va_S A s.heap H locs) (hc : vwCl[ci]? = some (Cn, T, N)) (hfs : ∀ j, j < N → defaultValue (ty j) = vp_V fs j) (hcells : cells + 1 ≤ R.cells) (hslots : slots + N ≤ R.slots) (hdg : decode cc pc = .ok (.new index, 3))
    (kk : ∀ H1 : Heap, va_at (gD X) vwCl (H.size, .inr (ci, fs)) H1 → H1.size = H.size + 1 → (∀ q, q < H.size → H1[q]? = H[q]?) → va_S A s.heap H1 locs → W p l e R s m args below meth c H1 locs (cells + 1) (slots + N) Q (F0 m (pc + 3) ls (.ref H.size :: rest))) : W p l e R s m args below meth c H locs cells slots Q (F0 m pc ls rest) := by
  obtain ⟨hx, hb, -, -, hown, hA, -, -, hE⟩ := C
  have hKn := hE.1.1 ci _ hc
  refine W.newcK hx hb hown (hA _ hcl) (hA _ hinst) (hA _ hini) rfl hdg hcells hslots hKn.2.1 rfl fun H1 kC hkC e1 z1 o1 => ?_
  exact kk H1 ⟨_, hc, (u_born ty hA hin hKn hkC e1 hty).to hfs⟩ z1 o1 ⟨Nat.le_trans hS.1 (by omega), fun x h1 h2 => (o1 x (Nat.lt_of_lt_of_le h1 hS.1)).trans (hS.2.1 x h1 h2), hS.2.2⟩
theorem kBg_blind {av : List Value} {a h : Nat} {e0 : va_E} : FrameBlind (va_Pc av (kBg X h a e0)) := fun _ U _ _ q => ⟨q.1, q.2.1, q.2.2.1, q.2.2.2.1, q.2.2.2.2.1, q.2.2.2.2.2.1.to (State.WarmedH.refl U) (Nat.le_refl _) (fun _ _ _ => rfl), va_AO.moved (State.WarmedH.refl U).alike q.2.2.2.2.2.2⟩
theorem k_callI {A : Nat → Prop} {index fr2 lo2 ce2 sl2 nL2 n k2 a2 : Nat} {y : MethodName} {cc2 : ByteArray} {As st0 : List Value} {e0 : va_E} {res : va_W} (C : gC X own cc ret nL p s m args meth c) (hz : ls.size = nL) (hO : va_AO RX4 s) (hS : va_S A s.heap H locs) (hAg : ∀ q, A q → gSz X ≤ q) (hAf : ∀ q, kFr a2 H.size q → A q) (ha : gSz X ≤ a2) (hat : va_at (gD X) vwCl (a2, e0) H) (haH : a2 < H.size) (i1 : Cond.instanceMethod y ∈ wA) (i3 : Cond.code y cc2 nL2 none ∈ wA) (i4 : Cond.initialized y.cls ∈ wA) (i5 : y.cls ≠ "java/lang/invoke/MethodHandle" ∧ y.cls ≠ "java/lang/invoke/VarHandle" ∧ (parseMethodDescriptor y.desc).map (fun d => d.parameters.length) = some n) (hin : y.name = "<init>") (hlink : Cond.methodLink own index y ∈ wA) (hM : kMt l y cc2 nL2 fr2 lo2 ce2 sl2 X As a2 H.size e0 k2 res) (hn : As.length = n) (hst : st0 = As.reverse ++ .ref a2 :: rest) (hroom : fr2 + 1 ≤ R.frames ∧ 8 + (nL2 + 11) + lo2 ≤ R.locals) (hf : cells + ce2 ≤ R.cells ∧ slots + sl2 ≤ R.slots) (hw : (rest.map fun v => v.category).sum ≤ 8) (hdg : decode cc pc = .ok (.invokespecial index, 3))
    (kk : ∀ (H1 : Heap) (locs1 : List Loc), H1.size = H.size + k2 → va_P (gD X) vwCl res H1 → (∀ q, q < H.size → ¬ q = a2 → H1[q]? = H[q]?) → va_S A s.heap H1 locs1 → W p l e R s m args below meth c H1 locs1 (cells + ce2) (slots + sl2) Q (F0 m (pc + 3) ls rest)) : W p l e R s m args below meth c H locs cells slots Q (F0 m pc ls st0) := by
  obtain ⟨hx, hb, -, hml, hown, hA, -, -, hE⟩ := C
  have cb := callB_of (R := R) (rm := { frames := fr2, cells := ce2, slots := sl2, locals := lo2 }) (mc := ce2) (ms := sl2) n hA (g_good i3) rfl rfl rfl (hA _ i4) (hA _ hlink) i5 hroom
  have hr : va_Run p l e R s m args below meth c H locs cells slots ce2 sl2 (F0 m pc ls st0) rest (kQ X a2 H.size k2 res (Value.ref a2 :: As).toArray) (kFr a2 H.size) := va_runI (rest := rest) (g := F0 m pc ls st0) ⟨hx, hb, hml, hown, hA⟩ hM ⟨cb, hin, hA _ i1⟩ ⟨kBg_blind, fun U hU hW => ⟨rfl, by rw [hU], haH, ha, by rw [hU]; exact hat, by rw [hU]; exact hE.to hW hS.1 (fun q h1 h2 => hS.2.1 q h1 (fun h3 => h2 (hAg q h3))), va_AO.moved hW.alike hO⟩⟩ rfl hn hz hst (lv_room hw) hdg hf
  intro T hT X9
  obtain ⟨v, st₀, t, T', L, h0, X', hL, e1, e2, ⟨⟨hv, hsz, hP, hE2⟩, hz2, hk⟩, st⟩ := hr T hT X9
  cases hv
  rw [h0] at hz2 hk
  obtain ⟨t2, a1, b1⟩ := kk T'.heap (locs ++ L) (by rw [e1]; exact hsz) (by rw [e1]; exact hP) (fun q h1 h2 => by
      rw [e1]
      exact hk q h1 (fun h3 => by
        rcases h3 with h3 | h3
        · exact h2 h3
        · omega))
    ⟨Nat.le_trans hS.1 (by rw [e1]; exact hz2), fun q h1 h2 => by rw [e1, hk q (Nat.lt_of_lt_of_le h1 hS.1) (fun h3 => h2 (hAf q h3))]; exact hS.2.1 q h1 h2, fun q hq => by
      rcases List.mem_append.mp hq with h | h
      · exact hS.2.2 q h
      · exact hAf _ (hL q h)⟩ T' rfl X'
  exact ⟨t2, st t2 a1, b1⟩
theorem k_callIN {A : Nat → Prop} {index fr2 lo2 ce2 sl2 nL2 n k2 a2 : Nat} {y : MethodName} {cc2 : ByteArray} {As st0 : List Value} {host : String} {e0 : va_E} {res : va_W} (C : gC X own cc ret nL p s m args meth c) (hz : ls.size = nL) (hO : va_AO RX4 s) (hS : va_S A s.heap H locs) (hAg : ∀ q, A q → gSz X ≤ q) (hAf : ∀ q, kFr a2 H.size q → A q) (ha : gSz X ≤ a2) (hat : va_at (gD X) vwCl (a2, e0) H) (haH : a2 < H.size) (i1 : Cond.instanceMethod y ∈ wA) (i3 : Cond.code y cc2 nL2 none ∈ wA) (i4 : Cond.initialized y.cls ∈ wA) (i5 : y.cls ≠ "java/lang/invoke/MethodHandle" ∧ y.cls ≠ "java/lang/invoke/VarHandle" ∧ (parseMethodDescriptor y.desc).map (fun d => d.parameters.length) = some n) (hin : y.name = "<init>") (hlink : (own, index, y, host) ∈ gNm) (hM : kMt l y cc2 nL2 fr2 lo2 ce2 sl2 X As a2 H.size e0 k2 res) (hn : As.length = n) (hst : st0 = As.reverse ++ .ref a2 :: rest) (hroom : fr2 + 1 ≤ R.frames ∧ 8 + (nL2 + 11) + lo2 ≤ R.locals) (hf : cells + ce2 ≤ R.cells ∧ slots + sl2 ≤ R.slots) (hw : (rest.map fun v => v.category).sum ≤ 8) (hdg : decode cc pc = .ok (.invokespecial index, 3))
    (kk : ∀ (H1 : Heap) (locs1 : List Loc), H1.size = H.size + k2 → va_P (gD X) vwCl res H1 → (∀ q, q < H.size → ¬ q = a2 → H1[q]? = H[q]?) → va_S A s.heap H1 locs1 → W p l e R s m args below meth c H1 locs1 (cells + ce2) (slots + sl2) Q (F0 m (pc + 3) ls rest)) : W p l e R s m args below meth c H locs cells slots Q (F0 m pc ls st0) := by
  obtain ⟨hx, hb, -, hml, hown, hA, -, -, hE⟩ := C
  have cb := va_cnB (R := R) (rm := { frames := fr2, cells := ce2, slots := sl2, locals := lo2 }) (mc := ce2) (ms := sl2) n hA (g_good i3) rfl rfl rfl (hE.2.1.2 _ hlink) (hA _ i4) i5 hroom
  have hr : va_Run p l e R s m args below meth c H locs cells slots ce2 sl2 (F0 m pc ls st0) rest (kQ X a2 H.size k2 res (Value.ref a2 :: As).toArray) (kFr a2 H.size) := va_runIN (rest := rest) (g := F0 m pc ls st0) ⟨hx, hb, hml, hown, hA⟩ hM ⟨cb, hin, hA _ i1⟩ ⟨kBg_blind, fun U hU hW => ⟨rfl, by rw [hU], haH, ha, by rw [hU]; exact hat, by rw [hU]; exact hE.to hW hS.1 (fun q h1 h2 => hS.2.1 q h1 (fun h3 => h2 (hAg q h3))), va_AO.moved hW.alike hO⟩⟩ rfl hn hz hst (lv_room hw) hdg hf
  intro T hT X9
  obtain ⟨v, st₀, t, T', L, h0, X', hL, e1, e2, ⟨⟨hv, hsz, hP, hE2⟩, hz2, hk⟩, st⟩ := hr T hT X9
  cases hv
  rw [h0] at hz2 hk
  obtain ⟨t2, a1, b1⟩ := kk T'.heap (locs ++ L) (by rw [e1]; exact hsz) (by rw [e1]; exact hP) (fun q h1 h2 => by
      rw [e1]
      exact hk q h1 (fun h3 => by
        rcases h3 with h3 | h3
        · exact h2 h3
        · omega))
    ⟨Nat.le_trans hS.1 (by rw [e1]; exact hz2), fun q h1 h2 => by rw [e1, hk q (Nat.lt_of_lt_of_le h1 hS.1) (fun h3 => h2 (hAf q h3))]; exact hS.2.1 q h1 h2, fun q hq => by
      rcases List.mem_append.mp hq with h | h
      · exact hS.2.2 q h
      · exact hAf _ (hL q h)⟩ T' rfl X'
  exact ⟨t2, st t2 a1, b1⟩
end GN
