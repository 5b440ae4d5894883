/-! ===== constructors: contracts ===== -/
def kBg (X : gX) (h a : Nat) (e0 : va_E) (U : State) : Prop := U.heap.size = h ∧ a < h ∧ gSz X ≤ a ∧ va_at (gD X) vwCl (a, e0) U.heap ∧ gEnv X U U.heap ∧ va_AO RX4 U
def kFr (a h : Nat) : Nat → Prop := fun q => q = a ∨ h ≤ q
def kQ (X : gX) (a h n : Nat) (res : va_W) : Array Value → State → Outcome → State → Prop := fun _ st oc t => (oc = .returned none ∧ t.heap.size = h + n ∧ va_P (gD X) vwCl res t.heap ∧ gEnv X t t.heap) ∧ va_F (kFr a h) st t
def kMt (l : Launch) (y : MethodName) (cc : ByteArray) (nL fr lo ce sl : Nat) (X : gX) (av : List Value) (a h : Nat) (e0 : va_E) (n : Nat) (res : va_W) : Prop :=
  Met l y (.code y cc nL none :: wA) { frames := fr, cells := ce, slots := sl, locals := lo } (va_Pc (.ref a :: av) (kBg X h a e0)) (kQ X a h n res) ce sl (kFr a h)
theorem kMt.of {l : Launch} {own : String} {y : MethodName} {cc : ByteArray} {nL fr lo ce sl : Nat} {X : gX} {av : List Value} {a h n : Nat} {e0 : va_E} {res : va_W} (hy : plainName y.cls = true) (ho : y.cls = own) (hI : gInj X) (hc : ∀ v ∈ Value.ref a :: av, v.category = 1) (hn : (Value.ref a :: av).length ≤ nL)
    (body : ∀ (p : Program) (e : Env) (s : State) (m : MethodId) (args : Array Value) (below : List Frame) (meth : Method) (c : Code) (ls : Array Slot), gC X own cc none nL p s m args meth c → meth.name = y.name → gL ls ((Value.ref a :: av).map some ++ List.replicate (nL - (Value.ref a :: av).length) none) → s.heap.size = h → a < h → gSz X ≤ a → va_at (gD X) vwCl (a, e0) s.heap → va_AO RX4 s →
      W p l e { frames := fr, cells := ce, slots := sl, locals := lo } s m args below meth c s.heap [] 0 0 (MQ below (kQ X a h n res) args s ce sl (kFr a h)) (F0 m 0 ls [])) : kMt l y cc nL fr lo ce sl X av a h e0 n res := by
  refine Met.ofW (cc := cc) (maxL := nL) (ret := none) hy rfl ?_
  intro p e s m args below meth c s₁ B hml hv
  obtain ⟨rfl, h1, h2, h3, h4, hE, hO⟩ := hv
  have hts := atoms_spec (ws := Cond.code y cc nL none :: wA) B.pre
  rw [lg_entry_eq]
  exact body p e s m _ below meth c _ ⟨B.exec, B.bytes, B.returns, hml, by rw [← ho]; exact findClass_of_methodNamed B.named, fun w hw => hts w (List.mem_cons_of_mem _ hw), B.notSynchronized, hI, hE⟩ (name_of_methodNamed B.named B.method).1 (gL.entry _ nL hc hn) h1 h2 h3 h4 hO
section GK
variable {p : Program} {l : Launch} {e : Env} {R : Room} {s : State} {m : MethodId} {args : Array Value} {below : List Frame} {meth : Method} {c : Code} {H : Heap} {locs : List Loc} {cells slots : Nat} {Q : State → Prop}
variable {cc : ByteArray} {pc : Nat} {ls : Array Slot} {rest : List Value} {X : gX} {own : String} {ret : Option FieldType} {nL : Nat}
theorem k_env {H1 : Heap} {t : State} {locs1 : List Loc} {a h : Nat} (C : gC X own cc ret nL p s m args meth c) (hz : s.heap.size = h) (hah : a < h) (ha : gSz X ≤ a) (hS : va_S (kFr a h) s.heap H1 locs1) (ht : t.heap = H1) (hW : s.WarmedH t.vm) : gEnv X t t.heap := by
  obtain ⟨-, -, -, -, -, -, -, -, hE⟩ := C
  rw [ht]
  refine hE.to hW hS.1 (fun q h1 h2 => hS.2.1 q h1 ?_)
  have h3 : ¬ gSz X ≤ q := h2
  unfold kFr
  omega
theorem k_vret {R0 : Room} {a h n ce sl : Nat} {res : va_W} (C : gC X own cc none nL p s m args meth c) (hz : s.heap.size = h) (hah : a < h) (ha : gSz X ≤ a) (hP : va_P (gD X) vwCl res H) (hS : va_S (kFr a h) s.heap H locs) (hn : H.size = h + n) (hdg : decode cc pc = .ok (.return_, 1)) : W p l e R0 s m args below meth c H locs ce sl (MQ below (kQ X a h n res) args s ce sl (kFr a h)) (F0 m pc ls []) := by
  have C' := C
  obtain ⟨hx, hb, hr, -, -, -, hlocks, -, -⟩ := C
  exact W.vret hx hb hr (fun t ht hW => ⟨⟨rfl, by rw [ht]; exact hn, by rw [ht]; exact hP, k_env C' hz hah ha hS ht hW⟩, hS.F ht⟩) hS.2.2 hdg hlocks
theorem k_obj {index x : Nat} (C : gC X own cc ret nL p s m args meth c) (hl : ls.size = nL) (hlink : Cond.methodLink own index objectInit ∈ wA) (hfr : 1 ≤ R.frames) (hlo : 24 ≤ R.locals) (hdg : decode cc pc = .ok (.invokespecial index, 3)) (kk : W p l e R s m args below meth c H locs cells slots Q (F0 m (pc + 3) ls [])) : W p l e R s m args below meth c H locs cells slots Q (F0 m pc ls [.ref x]) := by
  obtain ⟨hx, hb, -, hml, hown, hA, -, -, hE⟩ := C
  refine W.objInit hx hb hown (hA _ hlink) (hA _ im_obj) (hA _ co_obj) rfl (by rw [hml]; exact hl) rfl hdg hfr (Nat.le_trans (Nat.le_of_ble_eq_true rfl) hlo) kk
theorem k_size {g : JFrame} (kk : H.size ≤ s.heap.size + cells → W p l e R s m args below meth c H locs cells slots Q g) : W p l e R s m args below meth c H locs cells slots Q g := fun T hT Y => kk (by rw [← hT]; exact Y.heapSize) T hT Y
end GK
set_option maxRecDepth 100000 in
set_option maxHeartbeats 4000000 in
/-- Row's constructor -/
theorem k_X5_init (l : Launch) {X : gX} (hI : gInj X) {a h n : Nat} (hn : n ≤ 1000) : kMt l yX5_init cX5_init 2 1 24 1 n X [.int (nI n)] a h (.inr (5, [.null])) 1 [(a, .inr (5, [.ref h])), (h, gAr X n (fun _ => 0))] := by
  refine kMt.of (own := RX5) (by decide) rfl hI (by simp [Value.category]) (Nat.le_of_ble_eq_true rfl) ?_
  intro p e s m args below meth c ls C hnm hl hz hah ha hat hO
  refine g_aload_n C hl dX5_init_0 rfl ?_
  refine k_obj C hl.1 ml_X5_1 (Nat.le_of_ble_eq_true rfl) (Nat.le_of_ble_eq_true rfl) dX5_init_1 ?_
  refine g_aload_n C hl dX5_init_4 rfl ?_
  refine g_iload_n C hl dX5_init_5 rfl ?_
  refine g_iconst 0 C dX5_init_6 (by decide) ?_
  have hmx : (if nI n < nI 0 then nI 0 else nI n) = nI n := if_neg (fun z => by have := (nI_ltI (by omega) (by decide)).mp z; omega)
  refine va_mmax C.1 C.2.1 (C.2.2.2.1.trans hl.1.symm) C.2.2.2.2.1 (C.2.2.2.2.2.1 _ ml_X5_7) (C.2.2.2.2.2.1 _ st_max) (C.2.2.2.2.2.1 _ in_J9) (C.2.2.2.2.2.1 _ co_max) (Nat.le_of_ble_eq_true rfl) (Nat.le_of_ble_eq_true rfl) (Nat.zero_le _) (Nat.zero_le _) dX5_init_7 ?_
  rw [hmx]
  have hE := C.2.2.2.2.2.2.2.2
  have hty := hE.1.2 0 _ rfl
  refine va_newaK (atype := .int) C.1 C.2.1 (C.2.2.2.2.2.1 _ ac_int) rfl dX5_init_10 rfl (nI_pos (by omega)) (nI_clamp (by omega)) (by show n * 4 ≤ 536870912; omega) (by show 0 + 1 ≤ 1; decide) (by show 0 + n ≤ n; omega) hz (fun H1 cA e1 z1 o1 hAr hNm => ?_)
  have ecA : cA = gCl X 0 := Option.some.inj (hNm.symm.trans hty.2)
  subst ecA
  have P0 : va_P (gD X) vwCl [(a, .inr (5, [.null]))] s.heap := by
    intro k q hq
    have hk : k < 1 := (List.getElem?_eq_some_iff.mp hq).1
    obtain rfl : k = 0 := by omega
    cases hq
    exact hat
  have P1 : va_P (gD X) vwCl ([(a, .inr (5, [.null]))] ++ [(h, gAr X n (fun _ => 0))]) H1 := by
    refine (P0.kept (fun k x hx => ?_)).app (fun k q hq => ?_)
    · have hk : k < 1 := (List.getElem?_eq_some_iff.mp hx).1
      obtain rfl : k = 0 := by omega
      cases hx
      exact o1 a hah
    · have hk : k < 1 := (List.getElem?_eq_some_iff.mp hq).1
      obtain rfl : k = 0 := by omega
      cases hq
      show H1[h]? = some (vp_cell (gCl X 0) (n, .inl (fun _ => nI 0)))
      rw [e1, vp_cell_i]
      rfl
  have D1 : va_D (kFr a h) ([(a, .inr (5, [.null]))] ++ [(h, gAr X n (fun _ => 0))]) := by
    refine ⟨fun i j p q hi hj e => ?_, fun k q hq => ?_⟩
    · have h1 : i < 2 := (List.getElem?_eq_some_iff.mp hi).1
      have h2 : j < 2 := (List.getElem?_eq_some_iff.mp hj).1
      rcases (show i = 0 ∨ i = 1 by omega) with rfl | rfl <;> rcases (show j = 0 ∨ j = 1 by omega) with rfl | rfl <;> cases hi <;> cases hj <;> first | rfl | (exact absurd e (by show ¬ _ = _; omega))
    · have h1 : k < 2 := (List.getElem?_eq_some_iff.mp hq).1
      rcases (show k = 0 ∨ k = 1 by omega) with rfl | rfl <;> cases hq
      · exact Or.inl rfl
      · exact Or.inr (Nat.le_refl _)
  have S1 : va_S (kFr a h) s.heap H1 [] := ⟨by omega, fun q h1 _ => o1 q (by omega), fun _ h => by cases h⟩
  refine va_putF (D := gD X) (ci := 5) (v := .ref h) (ty := .array .int) (C := RX5) (T := TX5) (N := 1) C.1 C.2.1 C.2.2.2.2.2.1 ilX5 tyX5 tyX5_ok nmX5 C.2.2.2.2.1 hE.1 P1 D1 S1 0 rfl rfl 0 (by decide) (C.2.2.2.2.2.1 _ fl_X5_13) (fun _ h9 => h9) rfl hnm rfl (by decide +kernel) rfl rfl (Nat.le_of_ble_eq_true rfl) dX5_init_12 (fun H locs hP hD hS => ?_)
  refine k_size (fun hsz0 => ?_)
  have hat2 := hP 1 (h, gAr X n (fun _ => 0)) rfl
  have hlt : h < H.size := (Array.getElem?_eq_some_iff.mp (show H[h]? = some (vp_cell (gCl X 0) (n, .inl (fun _ => nI 0))) from hat2)).1
  have hsz : H.size = h + 1 := by omega
  show W p l e _ s m args below meth c H locs 1 (0 + n) _ (F0 m 15 ls [])
  rw [Nat.zero_add n]
  exact k_vret C hz hah ha hP hS hsz dX5_init_15
