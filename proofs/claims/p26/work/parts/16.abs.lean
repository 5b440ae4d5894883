/-! ===== the state that both sides stand for: how many states are recorded, they, the machine, whether there is a snapshot, it, the text's length, it ===== -/
abbrev aS : Type := Nat × (Nat → Nat → Nat) × (Nat → Nat) × Nat × (Nat → Nat) × Nat × (Nat → Nat)
def aN (S : aS) : Nat := S.1
def aH (S : aS) : Nat → Nat → Nat := S.2.1
def aZ (S : aS) : Nat → Nat := S.2.2.1
def aK (S : aS) : Nat := S.2.2.2.1
def aKz (S : aS) : Nat → Nat := S.2.2.2.2.1
def aL (S : aS) : Nat := S.2.2.2.2.2.1
def aT (S : aS) : Nat → Nat := S.2.2.2.2.2.2
def aPz (S : aS) (z : Nat → Nat) : aS := (aN S, aH S, z, aK S, aKz S, aL S, aT S)
def aHr (n : Nat) (h : Nat → Nat → Nat) (z : Nat → Nat) : Nat → Nat → Nat := if n = 4 then fun i => if i = 3 then z else h (i + 1) else fU h n z
def aRec (S : aS) : aS := (rN (aN S), aHr (aN S) (aH S) (aZ S), aZ S, aK S, aKz S, aL S, aT S)
/-- what always holds of it -/
def zB (z : Nat → Nat) : Prop := z 178 ≤ 999999
def zT (z : Nat → Nat) : Prop := z 141 = min (z 178) 12 ∧ z 180 = gSum (fun b => z (182 + b)) 8 ∧ z 181 = gSum (fun b => z (190 + b)) 8
def zV (z : Nat → Nat) : Prop := zI z ∧ zG z ∧ zB z ∧ zT z
def aI (S : aS) : Prop := zV (aZ S) ∧ (∀ i, i < aN S → zV (aH S i)) ∧ (aK S = 1 → zV (aKz S)) ∧ ∀ j, j < aL S → aT S j < 65536
/-! the calls' answers and what they leave -/
def aPut (S : aS) (b c9 n : Int32) : Int32 × aS := if gIw b 0 7 = true then if gIw c9 0 15 = true then if gIw n 0 999 = true then
  (if aZ S (zIx b.toNatClampNeg c9.toNatClampNeg) = n.toNatClampNeg then (-5, S) else (nI (aZ S (zIx b.toNatClampNeg c9.toNatClampNeg)), aPz (aRec S) (fU (aZ S) (zIx b.toNatClampNeg c9.toNatClampNeg) n.toNatClampNeg)))
  else (-2, S) else (-1, S) else (-1, S)
theorem aPut_1 {S : aS} {b c9 n : Int32} (h : gIw b 0 7 = false) : aPut S b c9 n = (-1, S) := by
  unfold aPut
  rw [if_neg (by rw [h]; decide)]
theorem aPut_2 {S : aS} {b c9 n : Int32} (h : gIw c9 0 15 = false) : aPut S b c9 n = (-1, S) := by
  unfold aPut
  rw [if_neg (show ¬ gIw c9 0 15 = true by rw [h]; decide), ite_self]
theorem aPut_3 {S : aS} {b c9 : Nat} {n : Int32} (hb : b ≤ 7) (hc : c9 ≤ 15) (h : gIw n 0 999 = false) : aPut S (nI b) (nI c9) n = (-2, S) := by
  unfold aPut
  rw [if_pos (gIw_ok (by omega) hb (by decide)), if_pos (gIw_ok (by omega) hc (by decide)), if_neg (by rw [h]; decide)]
theorem aPut_4 {S : aS} {b c9 n : Nat} (hb : b ≤ 7) (hc : c9 ≤ 15) (hn : n ≤ 999) (h : aZ S (zIx b c9) = n) : aPut S (nI b) (nI c9) (nI n) = (-5, S) := by
  unfold aPut
  rw [if_pos (gIw_ok (by omega) hb (by decide)), if_pos (gIw_ok (by omega) hc (by decide)), if_pos (gIw_ok (by omega) hn (by decide)), nI_clamp (by omega), nI_clamp (by omega), nI_clamp (by omega), if_pos h]
theorem aPut_5 {S : aS} {b c9 n : Nat} (hb : b ≤ 7) (hc : c9 ≤ 15) (hn : n ≤ 999) (h : ¬ aZ S (zIx b c9) = n) : aPut S (nI b) (nI c9) (nI n) = (nI (aZ S (zIx b c9)), aPz (aRec S) (fU (aZ S) (zIx b c9) n)) := by
  unfold aPut
  rw [if_pos (gIw_ok (by omega) hb (by decide)), if_pos (gIw_ok (by omega) hc (by decide)), if_pos (gIw_ok (by omega) hn (by decide)), nI_clamp (by omega), nI_clamp (by omega), nI_clamp (by omega), if_neg h]
def aLock (S : aS) (b : Int32) (v : Nat) : Int32 × aS := if gIw b 0 7 = true then
  (if aZ S (104 + b.toNatClampNeg) = v then (-5, S) else (nI (gSum (fun q => fU (aZ S) (104 + b.toNatClampNeg) v (104 + q)) 8), aPz (aRec S) (fU (aZ S) (104 + b.toNatClampNeg) v)))
  else (-1, S)
theorem aLock_1 {S : aS} {b : Int32} {v : Nat} (h : gIw b 0 7 = false) : aLock S b v = (-1, S) := by
  unfold aLock
  rw [if_neg (by rw [h]; decide)]
theorem aLock_2 {S : aS} {b v : Nat} (hb : b ≤ 7) (h : aZ S (104 + b) = v) : aLock S (nI b) v = (-5, S) := by
  unfold aLock
  rw [if_pos (gIw_ok (by omega) hb (by decide)), nI_clamp (by omega), if_pos h]
theorem aLock_3 {S : aS} {b v : Nat} (hb : b ≤ 7) (h : ¬ aZ S (104 + b) = v) : aLock S (nI b) v = (nI (gSum (fun q => fU (aZ S) (104 + b) v (104 + q)) 8), aPz (aRec S) (fU (aZ S) (104 + b) v)) := by
  unfold aLock
  rw [if_pos (gIw_ok (by omega) hb (by decide)), nI_clamp (by omega), if_neg h]
def aShow (S : aS) (w b : Int32) : Int32 × aS := if gIw w 0 3 = true then if gIw b 0 7 = true then
  (if aZ S (100 + w.toNatClampNeg) = b.toNatClampNeg then (-5, S) else (nI (aZ S (100 + w.toNatClampNeg)), aPz (aRec S) (fU (aZ S) (100 + w.toNatClampNeg) b.toNatClampNeg)))
  else (-1, S) else (-1, S)
theorem aShow_1 {S : aS} {w b : Int32} (h : gIw w 0 3 = false) : aShow S w b = (-1, S) := by
  unfold aShow
  rw [if_neg (by rw [h]; decide)]
theorem aShow_2 {S : aS} {w b : Int32} (h : gIw b 0 7 = false) : aShow S w b = (-1, S) := by
  unfold aShow
  rw [if_neg (show ¬ gIw b 0 7 = true by rw [h]; decide), ite_self]
theorem aShow_3 {S : aS} {w b : Nat} (hw : w ≤ 3) (hb : b ≤ 7) (h : aZ S (100 + w) = b) : aShow S (nI w) (nI b) = (-5, S) := by
  unfold aShow
  rw [if_pos (gIw_ok (by omega) hw (by decide)), if_pos (gIw_ok (by omega) hb (by decide)), nI_clamp (by omega), nI_clamp (by omega), if_pos h]
theorem aShow_4 {S : aS} {w b : Nat} (hw : w ≤ 3) (hb : b ≤ 7) (h : ¬ aZ S (100 + w) = b) : aShow S (nI w) (nI b) = (nI (aZ S (100 + w)), aPz (aRec S) (fU (aZ S) (100 + w) b)) := by
  unfold aShow
  rw [if_pos (gIw_ok (by omega) hw (by decide)), if_pos (gIw_ok (by omega) hb (by decide)), nI_clamp (by omega), nI_clamp (by omega), if_neg h]
def zUn (z : Nat → Nat) (fr to : Nat) : Nat → Nat := gSum (fun c9 => if z (zIx fr c9) = z (zIx to c9) then 0 else 1)
def zCp (z : Nat → Nat) (fr to : Nat) : Nat → (Nat → Nat)
  | 0 => z
  | n + 1 => fU (zCp z fr to n) (zIx to n) (zCp z fr to n (zIx fr n))
def aCopy (S : aS) (fr to : Int32) : Int32 × aS := if gIw fr 0 7 = true then if gIw to 0 7 = true then
  (if zUn (aZ S) fr.toNatClampNeg to.toNatClampNeg 12 = 0 then (-5, S) else (nI (zUn (aZ S) fr.toNatClampNeg to.toNatClampNeg 12), aPz (aRec S) (zCp (aZ S) fr.toNatClampNeg to.toNatClampNeg 12)))
  else (-1, S) else (-1, S)
theorem aCopy_1 {S : aS} {w b : Int32} (h : gIw w 0 7 = false) : aCopy S w b = (-1, S) := by
  unfold aCopy
  rw [if_neg (by rw [h]; decide)]
theorem aCopy_2 {S : aS} {w b : Int32} (h : gIw b 0 7 = false) : aCopy S w b = (-1, S) := by
  unfold aCopy
  rw [if_neg (show ¬ gIw b 0 7 = true by rw [h]; decide), ite_self]
theorem aCopy_3 {S : aS} {w b : Nat} (hw : w ≤ 7) (hb : b ≤ 7) (h : zUn (aZ S) w b 12 = 0) : aCopy S (nI w) (nI b) = (-5, S) := by
  unfold aCopy
  rw [if_pos (gIw_ok (by omega) hw (by decide)), if_pos (gIw_ok (by omega) hb (by decide)), nI_clamp (by omega), nI_clamp (by omega), if_pos h]
theorem aCopy_4 {S : aS} {w b : Nat} (hw : w ≤ 7) (hb : b ≤ 7) (h : ¬ zUn (aZ S) w b 12 = 0) : aCopy S (nI w) (nI b) = (nI (zUn (aZ S) w b 12), aPz (aRec S) (zCp (aZ S) w b 12)) := by
  unfold aCopy
  rw [if_pos (gIw_ok (by omega) hw (by decide)), if_pos (gIw_ok (by omega) hb (by decide)), nI_clamp (by omega), nI_clamp (by omega), if_neg h]
def aSet (S : aS) (v : Int32) : Int32 × aS := if gIw v 0 1 = true then
  (if aZ S 112 = v.toNatClampNeg then (-5, S) else (nI (aZ S 112), aPz (aRec S) (fU (aZ S) 112 v.toNatClampNeg))) else (-2, S)
theorem aSet_1 {S : aS} {v : Int32} (h : gIw v 0 1 = false) : aSet S v = (-2, S) := by
  unfold aSet
  rw [if_neg (by rw [h]; decide)]
theorem aSet_2 {S : aS} {v : Nat} (hv : v ≤ 1) (h : aZ S 112 = v) : aSet S (nI v) = (-5, S) := by
  unfold aSet
  rw [if_pos (gIw_ok (by omega) hv (by decide)), nI_clamp (by omega), if_pos h]
theorem aSet_3 {S : aS} {v : Nat} (hv : v ≤ 1) (h : ¬ aZ S 112 = v) : aSet S (nI v) = (nI (aZ S 112), aPz (aRec S) (fU (aZ S) 112 v)) := by
  unfold aSet
  rw [if_pos (gIw_ok (by omega) hv (by decide)), nI_clamp (by omega), if_neg h]
def zBg (z : Nat → Nat) (p9 : Nat) : Nat → Nat := fU (fU (fU (fU z 114 p9) 113 0) 115 0) 116 0
def aBegin (S : aS) (p9 : Int32) : Int32 × aS := if gIw p9 0 63 = true then (nI (aZ S 114), aPz (aRec S) (zBg (aZ S) p9.toNatClampNeg)) else (-1, S)
theorem aBegin_1 {S : aS} {v : Int32} (h : gIw v 0 63 = false) : aBegin S v = (-1, S) := by
  unfold aBegin
  rw [if_neg (by rw [h]; decide)]
theorem aBegin_2 {S : aS} {v : Nat} (hv : v ≤ 63) : aBegin S (nI v) = (nI (aZ S 114), aPz (aRec S) (zBg (aZ S) v)) := by
  unfold aBegin
  rw [if_pos (gIw_ok (by omega) hv (by decide)), nI_clamp (by omega)]
def aRun (S : aS) (n : Int32) : Int32 × aS := if gIw n 1 999 = true then
  (if 0 < aZ S 115 then (-4, S) else if 999999 < aZ S 178 + n.toNatClampNeg then (-3, S) else (nI (zTk (aZ S) n.toNatClampNeg), aPz (aRec S) (zRun (aZ S) n.toNatClampNeg))) else (-2, S)
theorem aRun_1 {S : aS} {v : Int32} (h : gIw v 1 999 = false) : aRun S v = (-2, S) := by
  unfold aRun
  rw [if_neg (by rw [h]; decide)]
theorem aRun_2 {S : aS} {v : Nat} (h1 : 1 ≤ v) (hv : v ≤ 999) (h : 0 < aZ S 115) : aRun S (nI v) = (-4, S) := by
  unfold aRun
  rw [if_pos (gIw_ok h1 hv (by decide)), if_pos h]
theorem aRun_3 {S : aS} {v : Nat} (h1 : 1 ≤ v) (hv : v ≤ 999) (h : aZ S 115 = 0) (h2 : 999999 < aZ S 178 + v) : aRun S (nI v) = (-3, S) := by
  unfold aRun
  rw [if_pos (gIw_ok h1 hv (by decide)), if_neg (by omega), nI_clamp (by omega), if_pos h2]
theorem aRun_4 {S : aS} {v : Nat} (h1 : 1 ≤ v) (hv : v ≤ 999) (h : aZ S 115 = 0) (h2 : aZ S 178 + v ≤ 999999) : aRun S (nI v) = (nI (zTk (aZ S) v), aPz (aRec S) (zRun (aZ S) v)) := by
  unfold aRun
  rw [if_pos (gIw_ok h1 hv (by decide)), if_neg (by omega), nI_clamp (by omega), if_neg (by omega)]
def aType (S : aS) (ch : Nat) : Int32 × aS := if aL S = 80 then (-3, S) else (nI (aL S + 1), (aN S, aH S, aZ S, aK S, aKz S, aL S + 1, fU (aT S) (aL S) ch))
def aClear (S : aS) : Int32 × aS := (nI (aL S), (aN S, aH S, aZ S, aK S, aKz S, 0, aT S))
def aUndo (S : aS) : Int32 × aS := if aN S = 0 then (-5, S) else (nI (aN S - 1), (aN S - 1, aH S, aH S (aN S - 1), aK S, aKz S, aL S, aT S))
def aKeep (S : aS) : Int32 × aS := (nI (aZ S 114), (aN S, aH S, aZ S, 1, aZ S, aL S, aT S))
def aRest (S : aS) : Int32 × aS := if aK S = 0 then (-5, S) else (nI (aKz S 114), aPz (aRec S) (aKz S))
/-! what is told -/
def sCell (z : Nat → Nat) (b c9 : Int32) : Int32 := if gIw b 0 7 = true then if gIw c9 0 15 = true then nI (z (zIx b.toNatClampNeg c9.toNatClampNeg)) else -1 else -1
def zSame (z : Nat → Nat) (ad : Nat) : Nat → Int32
  | 0 => -5
  | d + 1 => if ¬ (63 - d = ad) ∧ zAt z (63 - d) = zAt z ad then nI (63 - d) else zSame z ad d
def sAddr (z : Nat → Nat) (ad w : Int32) : Int32 := if gIw ad 0 63 = true then if gIw w 0 3 = true then (match w.toNatClampNeg with
  | 0 => nI (z (zAt z ad.toNatClampNeg))
  | 1 => nI (zBk z ad.toNatClampNeg)
  | 2 => nI (ad.toNatClampNeg % 16)
  | _ => zSame z ad.toNatClampNeg 64) else -2 else -1
def zWin (z : Nat → Nat) (b : Nat) : Nat → Nat := gSum (fun w => if z (100 + w) = b then 2 ^ w else 0)
def zFil (z : Nat → Nat) (b : Nat) : Nat → Nat := gSum (fun c9 => if z (zIx b c9) = 0 then 0 else 1)
def zFrm (z : Nat → Nat) (b : Nat) : Nat → Nat := gSum (fun q => if z (118 + 3 * q) = b then 1 else 0)
def sBank (z : Nat → Nat) (b w : Int32) : Int32 := if gIw b 0 7 = true then if gIw w 0 5 = true then (match w.toNatClampNeg with
  | 0 => nI (z (104 + b.toNatClampNeg))
  | 1 => nI (zWin z b.toNatClampNeg 4)
  | 2 => nI (zFil z b.toNatClampNeg 12)
  | 3 => nI (zFrm z b.toNatClampNeg (z 116))
  | 4 => nI (z (182 + b.toNatClampNeg))
  | _ => nI (z (190 + b.toNatClampNeg))) else -2 else -1
def sWin (z : Nat → Nat) (w : Int32) : Int32 := if gIw w 0 3 = true then nI (z (100 + w.toNatClampNeg)) else -1
def sFrame (z : Nat → Nat) (r w : Int32) : Int32 := if r < 0 then -2 else if gIw w 0 2 = true then (if r.toNatClampNeg < z 116 then nI (z (117 + 3 * (z 116 - 1 - r.toNatClampNeg) + w.toNatClampNeg)) else -5) else -2
def sLate (z : Nat → Nat) (r w : Int32) : Int32 := if r < 0 then -2 else if gIw w 0 2 = true then (if r.toNatClampNeg < z 141 then nI (z (142 + 3 * r.toNatClampNeg + w.toNatClampNeg)) else -5) else -2
def sNext (z : Nat → Nat) (w : Int32) : Int32 := if gIw w 0 2 = true then (if 0 < z 115 then -5 else match w.toNatClampNeg with
  | 0 => nI (z (zAt z (z 114)))
  | 1 => nI (zStep z 115)
  | _ => nI (zStep z 114)) else -2
def zDif (y z : Nat → Nat) : Nat → Nat := gSum (fun j => if y j = z j then 0 else 1)
def sIf (z : Nat → Nat) (n w : Int32) : Int32 := if gIw n 1 999 = true then if gIw w 0 4 = true then (if 0 < z 115 then -4 else match w.toNatClampNeg with
  | 0 => nI (zTk z n.toNatClampNeg)
  | 1 => nI (zRun z n.toNatClampNeg 115)
  | 2 => nI (zRun z n.toNatClampNeg 113)
  | 3 => nI (zRun z n.toNatClampNeg 116)
  | _ => nI (zDif (zRun z n.toNatClampNeg) z 100)) else -2 else -2
/-- the first step, of at most some, behind which there are fewer frames; 0 if none -/
def zBack (z : Nat → Nat) : Nat → Nat
  | 0 => 0
  | n + 1 => if zBack z n = 0 ∧ zRun z n 115 = 0 ∧ zRun z (n + 1) 116 < z 116 then n + 1 else zBack z n
def sBack (z : Nat → Nat) : Int32 := if zBack z 500 = 0 then -5 else nI (zBack z 500)
def sCount (S : aS) (w : Int32) : Int32 := if gIw w 0 11 = true then (match w.toNatClampNeg with
  | 0 => nI (aZ S 113)
  | 1 => nI (aZ S 114)
  | 2 => nI (aZ S 116)
  | 3 => nI (aZ S 115)
  | 4 => nI (aZ S 178)
  | 5 => nI (aZ S 179)
  | 6 => nI (aZ S 180)
  | 7 => nI (aZ S 181)
  | 8 => nI (gSum (fun b => aZ S (104 + b)) 8)
  | 9 => nI (aZ S 112)
  | 10 => nI (aN S)
  | _ => nI (aL S)) else -2
