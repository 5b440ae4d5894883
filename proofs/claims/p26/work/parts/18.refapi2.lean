/-! ===== the reference's calls, on ===== -/
theorem gMt.mono {l : Launch} {y : MethodName} {cc : ByteArray} {nL fr lo : Nat} {ret : Option FieldType} {X : gX} {av : List Value} {mem : gM} {post post' : Option Value → gM → Prop} (h : gMt l y cc nL ret fr lo X av mem post) (hp : ∀ v m, post v m → post' v m) : gMt l y cc nL ret fr lo X av mem post' := by
  intro p e ha hc hk s m args below hf happ hP hK
  obtain ⟨n, o, h1, h2, h3, h4, h5⟩ := h p e ha hc hk s m args below hf happ hP hK
  obtain ⟨⟨v, mem', q1, q2, q3⟩, q4⟩ := h4
  exact ⟨n, o, h1, h2, h3, ⟨⟨v, mem', q1, hp v mem' q2, q3⟩, q4⟩, h5⟩
theorem gSum_le {f : Nat → Nat} (h : ∀ i, f i ≤ 1) : ∀ n, gSum f n ≤ n
  | 0 => Nat.le_refl _
  | n + 1 => Nat.add_le_add (gSum_le h n) (h n)
theorem zUn_le {z : Nat → Nat} {a b : Nat} (n : Nat) : zUn z a b n ≤ n := gSum_le (fun i => by split <;> omega) n
theorem zCp_le {z : Nat → Nat} {a b : Nat} (hz : zI z) (ha : a < 8) (hb : b < 8) : ∀ n, n ≤ 12 → zI (zCp z a b n)
  | 0, _ => hz
  | n + 1, hn => by
    have h := zCp_le hz ha hb n (by omega)
    have h1 := h.1 _ (zIx_lt ha (show n < 16 by omega))
    have h2 := zIx_lt hb (show n < 16 by omega)
    exact h.upd9 (by omega) (by omega) (by omega) (by omega) (by omega) (by omega) (by omega) (by omega) (fun q hq => by omega) (by omega)
theorem g_iincI {p : Program} {l : Launch} {e : Env} {R : Room} {s : State} {m : MethodId} {args : Array Value} {below : List Frame} {meth : Method} {c : Code} {H : Heap} {locs : List Loc} {cells slots : Nat} {Q : State → Prop} {cc : ByteArray} {pc : Nat} {ls : Array Slot} {rest : List Value} {X : gX} {own : String} {ret : Option FieldType} {nL : Nat} {vs : List (Option Value)} {i : Nat} {n : Int} {x : Int32} (v : Int32) (C : gC X own cc ret nL p s m args meth c) (hl : gL ls vs) (hdg : decode cc pc = .ok (.iinc i n, 3)) (hi : vs[i]? = some (some (.int x))) (hv : x + Int32.ofInt n = v) (kk : ∀ ls' : Array Slot, gL ls' (vs.set i (some (.int v))) → W p l e R s m args below meth c H locs cells slots Q (F0 m (pc + 3) ls' rest)) : W p l e R s m args below meth c H locs cells slots Q (F0 m pc ls rest) := by
  have hlt := (List.getElem?_eq_some_iff.mp hi).1
  obtain ⟨q, hq⟩ := List.getElem?_of_mem (gLs_mem (q := (i, .int x)).mpr hi)
  exact lv_iinc (v := v) C.1 C.2.1 hdg hl.has hq hv hlt rfl (fun ls' h' => kk ls' (hl.set hlt rfl h'))
theorem zWin_lt {z : Nat → Nat} {b : Nat} : ∀ i, zWin z b i < 2 ^ i
  | 0 => Nat.lt_of_lt_of_eq (by decide : 0 < 1) rfl
  | i + 1 => by
    have h := zWin_lt (z := z) (b := b) i
    have e : zWin z b (i + 1) = zWin z b i + (if z (100 + i) = b then 2 ^ i else 0) := rfl
    rw [e, Nat.pow_succ]
    split <;> omega
theorem w_shl : ∀ i, i < 4 → nI 1 <<< (nI i &&& 31) = nI (2 ^ i) := by decide +kernel
theorem w_or0 : ∀ i, i < 4 → ∀ x, x < 16 → x < 2 ^ i → nI x ||| nI (2 ^ i) = nI (x + 2 ^ i) := by decide +kernel
theorem w_or {x i : Nat} (hi : i < 4) (h : x < 2 ^ i) : nI x ||| nI (2 ^ i) = nI (x + 2 ^ i) := by
  refine w_or0 i hi x ?_ h
  have h1 : 2 ^ i ≤ 2 ^ 3 := Nat.pow_le_pow_right (by decide) (by omega)
  omega
theorem w_orz0 : ∀ x, x < 16 → nI x ||| nI 0 = nI (x + 0) := by decide +kernel
theorem w_orz {x i : Nat} (hi : i < 4) (h : x < 2 ^ i) : nI x ||| nI 0 = nI (x + 0) := by
  refine w_orz0 x ?_
  have h1 : 2 ^ i ≤ 2 ^ 3 := Nat.pow_le_pow_right (by decide) (by omega)
  omega
