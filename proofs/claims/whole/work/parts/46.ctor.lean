/-! ===== constructors: contracts ===== -/
def kBg (X : gX) (h a : Nat) (e0 : va_E) (U : State) : Prop := U.heap.size = h ∧ a < h ∧ gSz X ≤ a ∧ va_at (gD X) vwCl (a, e0) U.heap ∧ gEnv X U U.heap
def kFr (a h : Nat) : Nat → Prop := fun q => q = a ∨ h ≤ q
def kQ (X : gX) (a h n : Nat) (res : va_W) : Array Value → State → Outcome → State → Prop := fun _ st oc t => (oc = .returned none ∧ t.heap.size = h + n ∧ va_P (gD X) vwCl res t.heap ∧ gEnv X t t.heap) ∧ va_F (kFr a h) st t
def kMt (l : Launch) (y : MethodName) (cc : ByteArray) (nL fr lo ce sl : Nat) (X : gX) (av : List Value) (a h : Nat) (e0 : va_E) (n : Nat) (res : va_W) : Prop :=
  Met l y (.code y cc nL none :: wA) { frames := fr, cells := ce, slots := sl, locals := lo } (va_Pc (.ref a :: av) (kBg X h a e0)) (kQ X a h n res) ce sl (kFr a h)
theorem kMt.of {l : Launch} {own : String} {y : MethodName} {cc : ByteArray} {nL fr lo ce sl : Nat} {X : gX} {av : List Value} {a h n : Nat} {e0 : va_E} {res : va_W} (hy : plainName y.cls = true) (ho : y.cls = own) (hI : gInj X) (hc : ∀ v ∈ Value.ref a :: av, v.category = 1) (hn : (Value.ref a :: av).length ≤ nL)
    (body : ∀ (p : Program) (e : Env) (s : State) (m : MethodId) (args : Array Value) (below : List Frame) (meth : Method) (c : Code) (ls : Array Slot), gC X own cc none nL p s m args meth c → meth.name = y.name → gL ls ((Value.ref a :: av).map some ++ List.replicate (nL - (Value.ref a :: av).length) none) → s.heap.size = h → a < h → gSz X ≤ a → va_at (gD X) vwCl (a, e0) s.heap →
      W p l e { frames := fr, cells := ce, slots := sl, locals := lo } s m args below meth c s.heap [] 0 0 (MQ below (kQ X a h n res) args s ce sl (kFr a h)) (F0 m 0 ls [])) : kMt l y cc nL fr lo ce sl X av a h e0 n res := by
  refine Met.ofW (cc := cc) (maxL := nL) (ret := none) hy rfl ?_
  intro p e s m args below meth c s₁ B hml hv
  obtain ⟨rfl, h1, h2, h3, h4, hE⟩ := hv
  have hts := atoms_spec (ws := Cond.code y cc nL none :: wA) B.pre
  rw [lg_entry_eq]
  exact body p e s m _ below meth c _ ⟨B.exec, B.bytes, B.returns, hml, by rw [← ho]; exact findClass_of_methodNamed B.named, fun w hw => hts w (List.mem_cons_of_mem _ hw), B.notSynchronized, hI, hE⟩ (name_of_methodNamed B.named B.method).1 (gL.entry _ nL hc hn) h1 h2 h3 h4
section GK
variable {p : Program} {l : Launch} {e : Env} {R : Room} {s : State} {m : MethodId} {args : Array Value} {below : List Frame} {meth : Method} {c : Code} {H : Heap} {locs : List Loc} {cells slots : Nat} {Q : State → Prop}
variable {cc : ByteArray} {pc : Nat} {ls : Array Slot} {rest : List Value} {X : gX} {own : String} {ret : Option FieldType} {nL : Nat}
theorem k_env {H1 : Heap} {t : State} {locs1 : List Loc} {a h : Nat} (C : gC X own cc ret nL p s m args meth c) (hz : s.heap.size = h) (hah : a < h) (ha : gSz X ≤ a) (hS : va_S (kFr a h) s.heap H1 locs1) (ht : t.heap = H1) (hW : s.WarmedH t.vm) : gEnv X t t.heap := by
  obtain ⟨-, -, -, -, -, -, -, -, hE⟩ := C
  rw [ht]
  refine hE.to hW hS.1 (fun q h1 h2 => hS.2.1 q h1 ?_)
  have h3 : ¬ gSz X ≤ q := h2
  unfold kFr
  omega
theorem k_vret {R0 : Room} {a h n ce sl : Nat} {res : va_W} (C : gC X own cc none nL p s m args meth c) (hz : s.heap.size = h) (hah : a < h) (ha : gSz X ≤ a) (hP : va_P (gD X) vwCl res H) (hS : va_S (kFr a h) s.heap H locs) (hn : H.size = h + n) (hdg : decode cc pc = .ok (.return_, 1)) : W p l e R0 s m args below meth c H locs ce sl (MQ below (kQ X a h n res) args s ce sl (kFr a h)) (F0 m pc ls []) := by
  have C' := C
  obtain ⟨hx, hb, hr, -, -, -, hlocks, -, -⟩ := C
  exact W.vret hx hb hr (fun t ht hW => ⟨⟨rfl, by rw [ht]; exact hn, by rw [ht]; exact hP, k_env C' hz hah ha hS ht hW⟩, hS.F ht⟩) hS.2.2 hdg hlocks
theorem k_obj {index x : Nat} (C : gC X own cc ret nL p s m args meth c) (hl : ls.size = nL) (hlink : Cond.methodLink own index objectInit ∈ wA) (hfr : 1 ≤ R.frames) (hlo : 24 ≤ R.locals) (hdg : decode cc pc = .ok (.invokespecial index, 3)) (kk : W p l e R s m args below meth c H locs cells slots Q (F0 m (pc + 3) ls [])) : W p l e R s m args below meth c H locs cells slots Q (F0 m pc ls [.ref x]) := by
  obtain ⟨hx, hb, -, hml, hown, hA, -, -, hE⟩ := C
  refine W.objInit hx hb hown (hA _ hlink) (hA _ im_obj) (hA _ co_obj) rfl (by rw [hml]; exact hl) rfl hdg hfr (Nat.le_trans (Nat.le_of_ble_eq_true rfl) hlo) kk
end GK
