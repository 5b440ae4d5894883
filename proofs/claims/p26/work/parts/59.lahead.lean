/-! ===== the law: what the next step and a run would bring ===== -/
theorem lR.u9 {S : aS} {mem m9 : gM} (h : lR S mem) (hF : uF 9 mem m9) : lR S m9 := ⟨h.1, aCl_u h.2.1 (by decide) hF, by
  rw [hF 8 (by decide)]
  exact h.2.2⟩
theorem uR_ob {S : aS} {mem m9 : gM} {z : Nat → Nat} (h : uR (mem 9) z) (hc : aCm S mem m9) : uR (m9 9) z := by
  rw [hc.2 9 (by decide)]
  exact h
theorem uSt.gP {mem : gM} {k o : Nat} {f : Nat → Nat} (h : uSt mem) (hk : 8 ≤ k) : uSt (gP mem k o f) := fun j hj => by
  rw [gP_nk _ _ (by omega)]
  exact h j hj
theorem zRun_s {z : Nat → Nat} (h : z 115 = 0) : ∀ m, zRun (zStep z) m = zRun z (m + 1)
  | 0 => (if_pos h).symm
  | m + 1 => by
    show (if zRun (zStep z) m 115 = 0 then zStep (zRun (zStep z) m) else zRun (zStep z) m) = (if zRun z (m + 1) 115 = 0 then zStep (zRun z (m + 1)) else zRun z (m + 1))
    rw [zRun_s h m]
theorem zTk_s {z : Nat → Nat} (h : z 115 = 0) : ∀ m, 1 + zTk (zStep z) m = zTk z (m + 1)
  | 0 => (if_pos h).symm
  | m + 1 => by
    show 1 + (if zRun (zStep z) m 115 = 0 then m + 1 else zTk (zStep z) m) = (if zRun z (m + 1) 115 = 0 then m + 2 else zTk z (m + 1))
    rw [zRun_s h m, ← zTk_s h m]
    by_cases c : zRun z (m + 1) 115 = 0
    · rw [if_pos c, if_pos c]; omega
    · rw [if_neg c, if_neg c]
theorem zRun_sh {z : Nat → Nat} {n : Nat} (h : z 115 = 0) (hn : 1 ≤ n) : zRun (zStep z) (n - 1) = zRun z n := by
  rw [zRun_s h, show n - 1 + 1 = n by omega]
theorem zTk_sh {z : Nat → Nat} {n : Nat} (h : z 115 = 0) (hn : 1 ≤ n) : 1 + zTk (zStep z) (n - 1) = zTk z n := by
  rw [zTk_s h, show n - 1 + 1 = n by omega]
theorem sBack_st {z : Nat → Nat} (h : ¬ z 115 = 0) : sBack z = -5 := by
  have h9 := zBack_st (z := z) (n := 0) rfl h 500
  rw [Nat.zero_add] at h9
  unfold sBack
  rw [if_pos h9]
/-- where a place of the law's first row of cells stands -/
def cJ (i : Nat) : Nat := if i < 48 then i else 48 + i
theorem uJ_cj {i : Nat} (h : i < 52) : uJb (cJ i) 1 i = true := by
  unfold cJ
  by_cases c : i < 48
  · rw [if_pos c]; exact uJ_c rfl c
  · rw [if_neg c]; exact uJ_m rfl (by omega) h
theorem cJ_lt {i : Nat} (h : i < 52) : cJ i < 100 := by
  unfold cJ
  split <;> omega
def uD (y z : Nat → Nat) (f : Nat → Nat) : Nat → Nat := gSum (fun q => if y (f q) = z (f q) then 0 else 1)
theorem un_a {y z : Nat → Nat} {f : Nat → Nat} {i a : Nat} (h : z (f i) = y (f i)) : a + uD y z f i + 0 = a + uD y z f (i + 1) := by
  show _ = a + (uD y z f i + (if y (f i) = z (f i) then 0 else 1))
  rw [if_pos h.symm]
  rfl
theorem un_b {y z : Nat → Nat} {f : Nat → Nat} {i a : Nat} (h : ¬ z (f i) = y (f i)) : a + uD y z f i + 1 = a + uD y z f (i + 1) := by
  show _ = a + (uD y z f i + (if y (f i) = z (f i) then 0 else 1))
  rw [if_neg (fun e => h e.symm)]
  omega
theorem gSum_add {f : Nat → Nat} (a : Nat) : ∀ b, gSum f (a + b) = gSum f a + gSum (fun q => f (a + q)) b
  | 0 => rfl
  | b + 1 => by
    show gSum f (a + b) + f (a + b) = gSum f a + (gSum (fun q => f (a + q)) b + f (a + b))
    rw [gSum_add a b]
    omega
theorem un_all {y z : Nat → Nat} : uD y z cJ 52 + uD y z (fun q => 48 + q) 48 = zDif y z 100 := by
  generalize hF : (fun j => if y j = z j then 0 else 1) = F
  have e1 : uD y z cJ 52 = gSum (fun q => F (cJ q)) 52 := by rw [← hF]; rfl
  have e2 : uD y z (fun q => 48 + q) 48 = gSum (fun q => F (48 + q)) 48 := by rw [← hF]; rfl
  have e3 : zDif y z 100 = gSum F 100 := by rw [← hF]; rfl
  rw [e1, e2, e3]
  have a1 : gSum (fun q => F (cJ q)) 52 = gSum (fun q => F (cJ q)) 48 + gSum (fun q => F (cJ (48 + q))) 4 := gSum_add 48 4
  have a2 : gSum (fun q => F (cJ q)) 48 = gSum F 48 := gSum_cg 48 (fun i hi => by
    show F (cJ i) = F i
    unfold cJ
    rw [if_pos hi])
  have a3 : gSum (fun q => F (cJ (48 + q))) 4 = gSum (fun q => F (96 + q)) 4 := gSum_cg 4 (fun i hi => by
    show F (cJ (48 + i)) = F (96 + i)
    unfold cJ
    rw [if_neg (by omega), show 48 + (48 + i) = 96 + i by omega])
  have a4 : gSum F 100 = gSum F 48 + gSum (fun q => F (48 + q)) 52 := gSum_add 48 52
  have a5 : gSum (fun q => F (48 + q)) 52 = gSum (fun q => F (48 + q)) 48 + gSum (fun q => F (48 + (48 + q))) 4 := gSum_add (f := fun q => F (48 + q)) 48 4
  have a6 : gSum (fun q => F (48 + (48 + q))) 4 = gSum (fun q => F (96 + q)) 4 := gSum_cg 4 (fun i hi => by
    show F (48 + (48 + i)) = F (96 + i)
    rw [show 48 + (48 + i) = 96 + i by omega])
  rw [a1, a2, a3, a4, a5, a6]
  omega
set_option maxRecDepth 100000 in
set_option maxHeartbeats 4000000 in
/-- isAhead -/
theorem c_L_isAhead (l : Launch) {X : gX} (hI : gInj X) {mem : gM} (hx : gXt X = 4) {S : aS} (hJ : lR S mem) {n : Nat} (hn1 : 1 ≤ n) (hn2 : n ≤ 999) : gMa l yL_isAhead cL_isAhead 13 (some .boolean) 7 160 4 164 X [.ref (gAd X 7 0), .int (nI n), .ref (gAd X 8 0), .ref (gAd X 8 1), .ref (gAd X 8 2), .ref (gAd X 8 3)] mem (fun v9 m9 => v9 = some (.int (nI 1)) ∧ lR S m9) := by
  refine gMa.of (own := RL) (by decide) rfl hI (by simp [Value.category]) (Nat.le_of_ble_eq_true rfl) ?_
  intro p e s m args below meth c ls H locs C hnm hl hR hS
  have hst := uSt.of hJ.2.1
  have rest : ∀ (Y : gX), uLe X Y → gXt Y = 8 → gC Y RL cL_isAhead (some .boolean) 13 p s m args meth c → ∀ (mem : gM), lR S mem → ∀ (ls : Array Slot) (H : Heap) (locs : List Loc), gL ls [some (.ref (gAd Y 7 0)), some (.int (nI n)), some (.ref (gAd Y 8 0)), some (.ref (gAd Y 8 1)), some (.ref (gAd Y 8 2)), some (.ref (gAd Y 8 3)), some (.ref (gAd Y 9 0)), some (.ref (gAd Y 9 1)), some (.ref (gAd Y 9 2)), some (.ref (gAd Y 9 3)), none, none, none] → gRep Y mem H → va_S (gA Y) s.heap H locs → W p l e { frames := 7, cells := 4, slots := 164, locals := 160 } s m args below meth c H locs 4 164 (MQ below (gQ X (fun v9 m9 => v9 = some (.int (nI 1)) ∧ lR S m9)) args s 4 164 (gA X)) (F0 m 24 ls []) := by
    intro Y L hxt C mem hJ ls H locs hl hR hS
    have hI := C.2.2.2.2.2.2.2.1
    have hk : uG Y 8 := ⟨by decide, by omega⟩
    have hk2 : uG Y 9 := ⟨by decide, by omega⟩
    have hz : zI (aZ S) := hJ.1.1.1
    have hg : zG (aZ S) := hJ.1.1.2.1
    have h115 := hz.2.2.2.2.2.2.1
    have h116 := hz.2.2.2.2.2.2.2.1
    have tl : ∀ (v1 v2 : Option Value) (i : Nat) (mem : gM) (ls : Array Slot) (H : Heap) (locs : List Loc), lR S mem → uR (mem 9) (zRun (aZ S) i) → i < 2 ^ 31 → sBack (aZ S) = (if zRun (aZ S) i 116 < aZ S 116 then nI i else -5) → gL ls [some (.ref (gAd Y 7 0)), some (.int (nI n)), some (.ref (gAd Y 8 0)), some (.ref (gAd Y 8 1)), some (.ref (gAd Y 8 2)), some (.ref (gAd Y 8 3)), some (.ref (gAd Y 9 0)), some (.ref (gAd Y 9 1)), some (.ref (gAd Y 9 2)), some (.ref (gAd Y 9 3)), v1, v2, some (.int (nI i))] → gRep Y mem H → va_S (gA Y) s.heap H locs → W p l e { frames := 7, cells := 4, slots := 164, locals := 160 } s m args below meth c H locs 4 164 (MQ below (gQ X (fun v9 m9 => v9 = some (.int (nI 1)) ∧ lR S m9)) args s 4 164 (gA X)) (F0 m 426 ls []) := by
      intro v1 v2 i mem ls H locs hJ hM2 hi h9 hl hR hS
      have hM := hJ.2.2
      have b116 := (zRun_I hz hg i).1.2.2.2.2.2.2.2.1
      refine g_aload_n C hl dL_isAhead_426 rfl ?_
      refine g_callV C hl.1 hR hS rc_X8 md_X8_backIn ml_L_41 (c_X8_backIn l hI hJ.1 hJ.2.1) rfl rfl ⟨Nat.le_of_ble_eq_true rfl, Nat.le_of_ble_eq_true rfl⟩ ⟨Nat.le_refl _, Nat.le_refl _⟩ (Nat.le_of_ble_eq_true rfl) dL_isAhead_427 (fun v mem H locs hp hR hS => ?_)
      obtain ⟨e9, hc9⟩ := hp
      subst e9
      have hM2 := uR_ob hM2 hc9
      have hJ := hJ.ob hc9
      have hM := hJ.2.2
      rw [h9]
      refine g_aload C hl dL_isAhead_430 rfl ?_
      refine g_iconst 0 C dL_isAhead_432 (by decide) ?_
      refine u_ald (116) C hk2 hM2 hR (uJ_f rfl (by decide)) dL_isAhead_433 ?_
      refine g_aload C hl dL_isAhead_434 rfl ?_
      refine g_iconst 0 C dL_isAhead_436 (by decide) ?_
      refine u_ald (116) C hk hM hR (uJ_f rfl (by decide)) dL_isAhead_437 ?_
      refine g_icmp_ge (tgt := 446) C dL_isAhead_438 (by decide) (by omega) (by omega) (fun c438 => ?_) (fun c438 => ?_)
      · -- 438 T
        refine g_bipushM (-5) C dL_isAhead_446 (by decide) ?_
        refine lv_icmp_ne (tgt := 455) C.1 C.2.1 dL_isAhead_448 (by decide) (fun z9 => absurd (by rw [if_neg (by omega)]) z9) (fun _ => ?_)
        refine g_iconst 1 C dL_isAhead_451 (by decide) ?_
        refine g_goto (tgt := 456) C dL_isAhead_452 (by decide) ?_
        exact ga_zret L C (uSt.of hJ.2.1) hR hS dL_isAhead_456 rfl ⟨rfl, hJ⟩
      · -- 438 F
        refine g_iload C hl dL_isAhead_441 rfl ?_
        refine g_goto (tgt := 448) C dL_isAhead_443 (by decide) ?_
        refine lv_icmp_ne (tgt := 455) C.1 C.2.1 dL_isAhead_448 (by decide) (fun z9 => absurd (by rw [if_pos (by omega)]) z9) (fun _ => ?_)
        refine g_iconst 1 C dL_isAhead_451 (by decide) ?_
        refine g_goto (tgt := 456) C dL_isAhead_452 (by decide) ?_
        exact ga_zret L C (uSt.of hJ.2.1) hR hS dL_isAhead_456 rfl ⟨rfl, hJ⟩
    have loop : ∀ (v1 v2 : Option Value) (d i : Nat), i + d = 500 → ((zBack (aZ S) i = 0 ∧ aZ S 116 ≤ zRun (aZ S) i 116) ∨ (0 < i ∧ zRun (aZ S) i 116 < aZ S 116 ∧ ∀ d, zBack (aZ S) (i + d) = i)) → ∀ (mem : gM) (ls : Array Slot) (H : Heap) (locs : List Loc), lR S mem → uR (mem 9) (zRun (aZ S) i) → gL ls [some (.ref (gAd Y 7 0)), some (.int (nI n)), some (.ref (gAd Y 8 0)), some (.ref (gAd Y 8 1)), some (.ref (gAd Y 8 2)), some (.ref (gAd Y 8 3)), some (.ref (gAd Y 9 0)), some (.ref (gAd Y 9 1)), some (.ref (gAd Y 9 2)), some (.ref (gAd Y 9 3)), v1, v2, some (.int (nI i))] → gRep Y mem H → va_S (gA Y) s.heap H locs → W p l e { frames := 7, cells := 4, slots := 164, locals := 160 } s m args below meth c H locs 4 164 (MQ below (gQ X (fun v9 m9 => v9 = some (.int (nI 1)) ∧ lR S m9)) args s 4 164 (gA X)) (F0 m 375 ls []) := by
      intro v1 v2 d
      induction d with
      | zero =>
        intro i hi hb mem ls H locs hJ hM2 hl hR hS
        have hM := hJ.2.2
        have hzi := (zRun_I hz hg i).1
        have b115 := hzi.2.2.2.2.2.2.1
        have b116 := hzi.2.2.2.2.2.2.2.1
        refine g_aload C hl dL_isAhead_375 rfl ?_
        refine g_iconst 0 C dL_isAhead_377 (by decide) ?_
        refine u_ald (116) C hk hM hR (uJ_f rfl (by decide)) dL_isAhead_378 ?_
        refine g_if_le (tgt := 426) C dL_isAhead_379 (by decide) (by omega) (fun c379 => ?_) (fun c379 => ?_)
        · -- 379 T
          have e9 : sBack (aZ S) = (if zRun (aZ S) i 116 < aZ S 116 then nI i else -5) := by
            rw [if_neg (by omega)]
            unfold sBack
            rw [if_pos (zBack_no c379 500)]
          exact tl _ _ i _ _ _ _ hJ hM2 (by omega) e9 hl hR hS
        · -- 379 F
          refine g_aload C hl dL_isAhead_382 rfl ?_
          refine g_iconst 0 C dL_isAhead_384 (by decide) ?_
          refine u_ald (116) C hk2 hM2 hR (uJ_f rfl (by decide)) dL_isAhead_385 ?_
          refine g_aload C hl dL_isAhead_386 rfl ?_
          refine g_iconst 0 C dL_isAhead_388 (by decide) ?_
          refine u_ald (116) C hk hM hR (uJ_f rfl (by decide)) dL_isAhead_389 ?_
          refine g_icmp_lt (tgt := 426) C dL_isAhead_390 (by decide) (by omega) (by omega) (fun c390 => ?_) (fun c390 => ?_)
          · -- 390 T
            have e9 : sBack (aZ S) = (if zRun (aZ S) i 116 < aZ S 116 then nI i else -5) := by
              rw [if_pos c390]
              rcases hb with hb | hb
              · omega
              · have h9 := hb.2.2 (500 - i)
                rw [show i + (500 - i) = 500 by omega] at h9
                unfold sBack
                rw [if_neg (by omega), h9]
            exact tl _ _ i _ _ _ _ hJ hM2 (by omega) e9 hl hR hS
          · -- 390 F
            refine g_aload C hl dL_isAhead_393 rfl ?_
            refine g_bipush 15 C dL_isAhead_395 (by decide) ?_
            refine u_ald (115) C hk2 hM2 hR (uJ_w rfl (by decide)) dL_isAhead_397 ?_
            refine g_if_ne (tgt := 426) C dL_isAhead_398 (by decide) (by omega) (fun c398 => ?_) (fun c398 => ?_)
            · -- 398 T
              have e9 : sBack (aZ S) = (if zRun (aZ S) i 116 < aZ S 116 then nI i else -5) := by
                rw [if_neg (by omega)]
                rcases hb with hb | hb
                · have h9 := zBack_st hb.1 c398 (500 - i)
                  rw [show i + (500 - i) = 500 by omega] at h9
                  unfold sBack
                  rw [if_pos h9]
                · omega
              exact tl _ _ i _ _ _ _ hJ hM2 (by omega) e9 hl hR hS
            · -- 398 F
              refine g_iload C hl dL_isAhead_401 rfl ?_
              refine g_sipush 500 C dL_isAhead_403 (by decide) ?_
              refine g_icmp_ge (tgt := 426) C dL_isAhead_406 (by decide) (by omega) (by omega) (fun c406 => ?_) (fun z9 => absurd z9 (by omega))
              have e9 : sBack (aZ S) = (if zRun (aZ S) i 116 < aZ S 116 then nI i else -5) := by
                rw [if_neg (by omega)]
                rcases hb with hb | hb
                · have h9 := hb.1
                  rw [show i = 500 by omega] at h9
                  unfold sBack
                  rw [if_pos h9]
                · omega
              exact tl _ _ i _ _ _ _ hJ hM2 (by omega) e9 hl hR hS
      | succ d ih =>
        intro i hi hb mem ls H locs hJ hM2 hl hR hS
        have hM := hJ.2.2
        have hzi := (zRun_I hz hg i).1
        have b115 := hzi.2.2.2.2.2.2.1
        have b116 := hzi.2.2.2.2.2.2.2.1
        refine g_aload C hl dL_isAhead_375 rfl ?_
        refine g_iconst 0 C dL_isAhead_377 (by decide) ?_
        refine u_ald (116) C hk hM hR (uJ_f rfl (by decide)) dL_isAhead_378 ?_
        refine g_if_le (tgt := 426) C dL_isAhead_379 (by decide) (by omega) (fun c379 => ?_) (fun c379 => ?_)
        · -- 379 T
          have e9 : sBack (aZ S) = (if zRun (aZ S) i 116 < aZ S 116 then nI i else -5) := by
            rw [if_neg (by omega)]
            unfold sBack
            rw [if_pos (zBack_no c379 500)]
          exact tl _ _ i _ _ _ _ hJ hM2 (by omega) e9 hl hR hS
        · -- 379 F
          refine g_aload C hl dL_isAhead_382 rfl ?_
          refine g_iconst 0 C dL_isAhead_384 (by decide) ?_
          refine u_ald (116) C hk2 hM2 hR (uJ_f rfl (by decide)) dL_isAhead_385 ?_
          refine g_aload C hl dL_isAhead_386 rfl ?_
          refine g_iconst 0 C dL_isAhead_388 (by decide) ?_
          refine u_ald (116) C hk hM hR (uJ_f rfl (by decide)) dL_isAhead_389 ?_
          refine g_icmp_lt (tgt := 426) C dL_isAhead_390 (by decide) (by omega) (by omega) (fun c390 => ?_) (fun c390 => ?_)
          · -- 390 T
            have e9 : sBack (aZ S) = (if zRun (aZ S) i 116 < aZ S 116 then nI i else -5) := by
              rw [if_pos c390]
              rcases hb with hb | hb
              · omega
              · have h9 := hb.2.2 (500 - i)
                rw [show i + (500 - i) = 500 by omega] at h9
                unfold sBack
                rw [if_neg (by omega), h9]
            exact tl _ _ i _ _ _ _ hJ hM2 (by omega) e9 hl hR hS
          · -- 390 F
            refine g_aload C hl dL_isAhead_393 rfl ?_
            refine g_bipush 15 C dL_isAhead_395 (by decide) ?_
            refine u_ald (115) C hk2 hM2 hR (uJ_w rfl (by decide)) dL_isAhead_397 ?_
            refine g_if_ne (tgt := 426) C dL_isAhead_398 (by decide) (by omega) (fun c398 => ?_) (fun c398 => ?_)
            · -- 398 T
              have e9 : sBack (aZ S) = (if zRun (aZ S) i 116 < aZ S 116 then nI i else -5) := by
                rw [if_neg (by omega)]
                rcases hb with hb | hb
                · have h9 := zBack_st hb.1 c398 (500 - i)
                  rw [show i + (500 - i) = 500 by omega] at h9
                  unfold sBack
                  rw [if_pos h9]
                · omega
              exact tl _ _ i _ _ _ _ hJ hM2 (by omega) e9 hl hR hS
            · -- 398 F
              refine g_iload C hl dL_isAhead_401 rfl ?_
              refine g_sipush 500 C dL_isAhead_403 (by decide) ?_
              refine g_icmp_ge (tgt := 426) C dL_isAhead_406 (by decide) (by omega) (by omega) (fun z9 => absurd z9 (by omega)) (fun c406 => ?_)
              refine g_aload C hl dL_isAhead_409 rfl ?_
              refine g_aload C hl dL_isAhead_411 rfl ?_
              refine g_aload C hl dL_isAhead_413 rfl ?_
              refine g_aload C hl dL_isAhead_415 rfl ?_
              have hF : uF 9 mem mem := uF.rf
              refine g_callU C hl.1 hF hR hS md_L_step ml_L_23 (c_L_step l hI hk2 hM2 hzi ((zRun_I hz hg i).2 c398) c398) rfl rfl ⟨Nat.le_of_ble_eq_true rfl, Nat.le_of_ble_eq_true rfl⟩ ⟨Nat.le_refl _, Nat.le_refl _⟩ (Nat.le_of_ble_eq_true rfl) dL_isAhead_417 (fun mem hM2 hF H locs hR hS => ?_)
              have hJ := hJ.u9 hF
              refine g_iinc (k := 1) C hl dL_isAhead_420 rfl (by decide) (fun ls hl => ?_)
              refine g_goto (tgt := 375) C dL_isAhead_423 (by decide) ?_
              have e1 : zRun (aZ S) (i + 1) = zStep (zRun (aZ S) i) := if_pos c398
              rw [← e1] at hM2
              refine ih (i + 1) (by omega) ?_ _ _ _ _ hJ hM2 hl hR hS
              rcases hb with hb | hb
              · by_cases h9 : zRun (aZ S) (i + 1) 116 < aZ S 116
                · exact Or.inr ⟨by omega, h9, fun d => zBack_1 hb.1 c398 h9 d⟩
                · exact Or.inl ⟨zBack_0 hb.1 c398 h9, by omega⟩
              · omega
    have p259 : aZ S 115 = 0 → ∀ (v3 : Option Value) (mem : gM) (ls : Array Slot) (H : Heap) (locs : List Loc), lR S mem → uR (mem 9) (zRun (aZ S) n) → gL ls [some (.ref (gAd Y 7 0)), some (.int (nI n)), some (.ref (gAd Y 8 0)), some (.ref (gAd Y 8 1)), some (.ref (gAd Y 8 2)), some (.ref (gAd Y 8 3)), some (.ref (gAd Y 9 0)), some (.ref (gAd Y 9 1)), some (.ref (gAd Y 9 2)), some (.ref (gAd Y 9 3)), some (.int (nI (zTk (aZ S) n))), some (.int (nI (zDif (zRun (aZ S) n) (aZ S) 100))), v3] → gRep Y mem H → va_S (gA Y) s.heap H locs → W p l e { frames := 7, cells := 4, slots := 164, locals := 160 } s m args below meth c H locs 4 164 (MQ below (gQ X (fun v9 m9 => v9 = some (.int (nI 1)) ∧ lR S m9)) args s 4 164 (gA X)) (F0 m 259 ls []) := by
      intro c54 v3 mem ls H locs hJ hM2 hl hR hS
      have hM := hJ.2.2
      refine g_aload_n C hl dL_isAhead_259 rfl ?_
      refine g_iload_n C hl dL_isAhead_260 rfl ?_
      refine g_iconst 0 C dL_isAhead_261 (by decide) ?_
      refine g_callV C hl.1 hR hS rc_X8 md_X8_ifRun ml_L_37 (c_X8_ifRun l hI hJ.1 hJ.2.1) rfl rfl ⟨Nat.le_of_ble_eq_true rfl, Nat.le_of_ble_eq_true rfl⟩ ⟨Nat.le_refl _, Nat.le_refl _⟩ (Nat.le_of_ble_eq_true rfl) dL_isAhead_262 (fun v mem H locs hp hR hS => ?_)
      obtain ⟨e9, hc9⟩ := hp
      subst e9
      have hM2 := uR_ob hM2 hc9
      have hJ := hJ.ob hc9
      have hM := hJ.2.2
      rw [sIf_in c54 hn1 hn2 (by decide)]
      refine g_iload C hl dL_isAhead_265 rfl ?_
      refine lv_icmp_ne (tgt := 344) C.1 C.2.1 dL_isAhead_267 (by decide) (fun z9 => absurd rfl z9) (fun _ => ?_)
      refine g_aload_n C hl dL_isAhead_270 rfl ?_
      refine g_iload_n C hl dL_isAhead_271 rfl ?_
      refine g_iconst 1 C dL_isAhead_272 (by decide) ?_
      refine g_callV C hl.1 hR hS rc_X8 md_X8_ifRun ml_L_37 (c_X8_ifRun l hI hJ.1 hJ.2.1) rfl rfl ⟨Nat.le_of_ble_eq_true rfl, Nat.le_of_ble_eq_true rfl⟩ ⟨Nat.le_refl _, Nat.le_refl _⟩ (Nat.le_of_ble_eq_true rfl) dL_isAhead_273 (fun v mem H locs hp hR hS => ?_)
      obtain ⟨e9, hc9⟩ := hp
      subst e9
      have hM2 := uR_ob hM2 hc9
      have hJ := hJ.ob hc9
      have hM := hJ.2.2
      rw [sIf_in c54 hn1 hn2 (by decide)]
      refine g_aload C hl dL_isAhead_276 rfl ?_
      refine g_bipush 15 C dL_isAhead_278 (by decide) ?_
      refine u_ald (115) C hk2 hM2 hR (uJ_w rfl (by decide)) dL_isAhead_280 ?_
      refine lv_icmp_ne (tgt := 344) C.1 C.2.1 dL_isAhead_281 (by decide) (fun z9 => absurd rfl z9) (fun _ => ?_)
      refine g_aload_n C hl dL_isAhead_284 rfl ?_
      refine g_iload_n C hl dL_isAhead_285 rfl ?_
      refine g_iconst 2 C dL_isAhead_286 (by decide) ?_
      refine g_callV C hl.1 hR hS rc_X8 md_X8_ifRun ml_L_37 (c_X8_ifRun l hI hJ.1 hJ.2.1) rfl rfl ⟨Nat.le_of_ble_eq_true rfl, Nat.le_of_ble_eq_true rfl⟩ ⟨Nat.le_refl _, Nat.le_refl _⟩ (Nat.le_of_ble_eq_true rfl) dL_isAhead_287 (fun v mem H locs hp hR hS => ?_)
      obtain ⟨e9, hc9⟩ := hp
      subst e9
      have hM2 := uR_ob hM2 hc9
      have hJ := hJ.ob hc9
      have hM := hJ.2.2
      rw [sIf_in c54 hn1 hn2 (by decide)]
      refine g_aload C hl dL_isAhead_290 rfl ?_
      refine g_bipush 13 C dL_isAhead_292 (by decide) ?_
      refine u_ald (113) C hk2 hM2 hR (uJ_w rfl (by decide)) dL_isAhead_294 ?_
      refine lv_icmp_ne (tgt := 344) C.1 C.2.1 dL_isAhead_295 (by decide) (fun z9 => absurd rfl z9) (fun _ => ?_)
      refine g_aload_n C hl dL_isAhead_298 rfl ?_
      refine g_iload_n C hl dL_isAhead_299 rfl ?_
      refine g_iconst 3 C dL_isAhead_300 (by decide) ?_
      refine g_callV C hl.1 hR hS rc_X8 md_X8_ifRun ml_L_37 (c_X8_ifRun l hI hJ.1 hJ.2.1) rfl rfl ⟨Nat.le_of_ble_eq_true rfl, Nat.le_of_ble_eq_true rfl⟩ ⟨Nat.le_refl _, Nat.le_refl _⟩ (Nat.le_of_ble_eq_true rfl) dL_isAhead_301 (fun v mem H locs hp hR hS => ?_)
      obtain ⟨e9, hc9⟩ := hp
      subst e9
      have hM2 := uR_ob hM2 hc9
      have hJ := hJ.ob hc9
      have hM := hJ.2.2
      rw [sIf_in c54 hn1 hn2 (by decide)]
      refine g_aload C hl dL_isAhead_304 rfl ?_
      refine g_iconst 0 C dL_isAhead_306 (by decide) ?_
      refine u_ald (116) C hk2 hM2 hR (uJ_f rfl (by decide)) dL_isAhead_307 ?_
      refine lv_icmp_ne (tgt := 344) C.1 C.2.1 dL_isAhead_308 (by decide) (fun z9 => absurd rfl z9) (fun _ => ?_)
      refine g_aload_n C hl dL_isAhead_311 rfl ?_
      refine g_iload_n C hl dL_isAhead_312 rfl ?_
      refine g_iconst 4 C dL_isAhead_313 (by decide) ?_
      refine g_callV C hl.1 hR hS rc_X8 md_X8_ifRun ml_L_37 (c_X8_ifRun l hI hJ.1 hJ.2.1) rfl rfl ⟨Nat.le_of_ble_eq_true rfl, Nat.le_of_ble_eq_true rfl⟩ ⟨Nat.le_refl _, Nat.le_refl _⟩ (Nat.le_of_ble_eq_true rfl) dL_isAhead_314 (fun v mem H locs hp hR hS => ?_)
      obtain ⟨e9, hc9⟩ := hp
      subst e9
      have hM2 := uR_ob hM2 hc9
      have hJ := hJ.ob hc9
      have hM := hJ.2.2
      rw [sIf_in c54 hn1 hn2 (by decide)]
      refine g_iload C hl dL_isAhead_317 rfl ?_
      refine lv_icmp_ne (tgt := 344) C.1 C.2.1 dL_isAhead_319 (by decide) (fun z9 => absurd rfl z9) (fun _ => ?_)
      refine g_aload_n C hl dL_isAhead_322 rfl ?_
      refine g_iconst 0 C dL_isAhead_323 (by decide) ?_
      refine g_iconst 0 C dL_isAhead_324 (by decide) ?_
      refine g_callV C hl.1 hR hS rc_X8 md_X8_ifRun ml_L_37 (c_X8_ifRun l hI hJ.1 hJ.2.1) rfl rfl ⟨Nat.le_of_ble_eq_true rfl, Nat.le_of_ble_eq_true rfl⟩ ⟨Nat.le_refl _, Nat.le_refl _⟩ (Nat.le_of_ble_eq_true rfl) dL_isAhead_325 (fun v mem H locs hp hR hS => ?_)
      obtain ⟨e9, hc9⟩ := hp
      subst e9
      have hM2 := uR_ob hM2 hc9
      have hJ := hJ.ob hc9
      have hM := hJ.2.2
      rw [sIf_00]
      refine g_bipushM (-2) C dL_isAhead_328 (by decide) ?_
      refine lv_icmp_ne (tgt := 344) C.1 C.2.1 dL_isAhead_330 (by decide) (fun z9 => absurd rfl z9) (fun _ => ?_)
      refine g_aload_n C hl dL_isAhead_333 rfl ?_
      refine g_iconst 1 C dL_isAhead_334 (by decide) ?_
      refine g_iconst 5 C dL_isAhead_335 (by decide) ?_
      refine g_callV C hl.1 hR hS rc_X8 md_X8_ifRun ml_L_37 (c_X8_ifRun l hI hJ.1 hJ.2.1) rfl rfl ⟨Nat.le_of_ble_eq_true rfl, Nat.le_of_ble_eq_true rfl⟩ ⟨Nat.le_refl _, Nat.le_refl _⟩ (Nat.le_of_ble_eq_true rfl) dL_isAhead_336 (fun v mem H locs hp hR hS => ?_)
      obtain ⟨e9, hc9⟩ := hp
      subst e9
      have hM2 := uR_ob hM2 hc9
      have hJ := hJ.ob hc9
      have hM := hJ.2.2
      rw [sIf_15]
      refine g_bipushM (-2) C dL_isAhead_339 (by decide) ?_
      refine lv_icmp_eq (tgt := 346) C.1 C.2.1 dL_isAhead_341 (by decide) (fun _ => ?_) (fun z9 => absurd rfl z9)
      refine g_aload_n C hl dL_isAhead_346 rfl ?_
      refine g_aload C hl dL_isAhead_347 rfl ?_
      refine g_callSv C hl.1 hR hS md_L_copy ml_L_27 (c_L_copy l hI hk hk2 (show 0 < 4 by decide)) rfl rfl ⟨Nat.le_of_ble_eq_true rfl, Nat.le_of_ble_eq_true rfl⟩ ⟨Nat.le_refl _, Nat.le_refl _⟩ (Nat.le_of_ble_eq_true rfl) dL_isAhead_349 (fun H locs hR hS => ?_)
      refine g_aload_n C hl dL_isAhead_352 rfl ?_
      refine g_aload C hl dL_isAhead_353 rfl ?_
      refine g_callSv C hl.1 hR hS md_L_copy ml_L_27 (c_L_copy l hI hk hk2 (show 1 < 4 by decide)) rfl rfl ⟨Nat.le_of_ble_eq_true rfl, Nat.le_of_ble_eq_true rfl⟩ ⟨Nat.le_refl _, Nat.le_refl _⟩ (Nat.le_of_ble_eq_true rfl) dL_isAhead_355 (fun H locs hR hS => ?_)
      refine g_aload C hl dL_isAhead_358 rfl ?_
      refine g_aload C hl dL_isAhead_360 rfl ?_
      refine g_callSv C hl.1 hR hS md_L_copy ml_L_27 (c_L_copy l hI hk hk2 (show 2 < 4 by decide)) rfl rfl ⟨Nat.le_of_ble_eq_true rfl, Nat.le_of_ble_eq_true rfl⟩ ⟨Nat.le_refl _, Nat.le_refl _⟩ (Nat.le_of_ble_eq_true rfl) dL_isAhead_362 (fun H locs hR hS => ?_)
      refine g_aload C hl dL_isAhead_365 rfl ?_
      refine g_aload C hl dL_isAhead_367 rfl ?_
      refine g_callSv C hl.1 hR hS md_L_copy ml_L_27 (c_L_copy l hI hk hk2 (show 3 < 4 by decide)) rfl rfl ⟨Nat.le_of_ble_eq_true rfl, Nat.le_of_ble_eq_true rfl⟩ ⟨Nat.le_refl _, Nat.le_refl _⟩ (Nat.le_of_ble_eq_true rfl) dL_isAhead_369 (fun H locs hR hS => ?_)
      have hR : gRep Y (uCp mem 4) H := hR
      have hM2 : uR (uCp mem 4 9) (aZ S) := uCp_R hJ.2.2
      have hJ := hJ.u9 (uCp_F 4)
      have hM := hJ.2.2
      generalize uCp mem 4 = mem at hR hM2 hJ hM
      refine g_iconst 0 C dL_isAhead_372 (by decide) ?_
      refine g_istore C hl dL_isAhead_373 (Nat.le_of_ble_eq_true rfl) (fun ls hl => ?_)
      exact loop _ _ 500 0 (by omega) (Or.inl ⟨rfl, Nat.le_refl _⟩) _ _ _ _ hJ hM2 hl hR hS
    have pd : aZ S 115 = 0 → ∀ (mem : gM), lR S mem → uR (mem 9) (zRun (aZ S) n) → ∀ (d i : Nat), i + d = 48 → ∀ (ls : Array Slot) (H : Heap) (locs : List Loc), gL ls [some (.ref (gAd Y 7 0)), some (.int (nI n)), some (.ref (gAd Y 8 0)), some (.ref (gAd Y 8 1)), some (.ref (gAd Y 8 2)), some (.ref (gAd Y 8 3)), some (.ref (gAd Y 9 0)), some (.ref (gAd Y 9 1)), some (.ref (gAd Y 9 2)), some (.ref (gAd Y 9 3)), some (.int (nI (zTk (aZ S) n))), some (.int (nI (uD (zRun (aZ S) n) (aZ S) cJ 52 + uD (zRun (aZ S) n) (aZ S) (fun q => 48 + q) i))), some (.int (nI i))] → gRep Y mem H → va_S (gA Y) s.heap H locs → W p l e { frames := 7, cells := 4, slots := 164, locals := 160 } s m args below meth c H locs 4 164 (MQ below (gQ X (fun v9 m9 => v9 = some (.int (nI 1)) ∧ lR S m9)) args s 4 164 (gA X)) (F0 m 223 ls []) := by
      intro c54 mem hJ hM2 d
      have hM := hJ.2.2
      have hzn := (zRun_I hz hg n).1
      induction d with
      | zero =>
        intro i hi ls H locs hl hR hS
        obtain rfl : i = 48 := by omega
        rw [un_all] at hl
        refine g_iload C hl dL_isAhead_223 rfl ?_
        refine g_bipush 48 C dL_isAhead_225 (by decide) ?_
        refine g_icmp_ge (tgt := 259) C dL_isAhead_227 (by decide) (by omega) (by omega) (fun c227 => ?_) (fun z9 => absurd z9 (by omega))
        exact p259 c54 _ _ _ _ _ hJ hM2 hl hR hS
      | succ d ih =>
        intro i hi ls H locs hl hR hS
        refine g_iload C hl dL_isAhead_223 rfl ?_
        refine g_bipush 48 C dL_isAhead_225 (by decide) ?_
        refine g_icmp_ge (tgt := 259) C dL_isAhead_227 (by decide) (by omega) (by omega) (fun z9 => absurd z9 (by omega)) (fun c227 => ?_)
        refine g_iload C hl dL_isAhead_230 rfl ?_
        refine g_aload C hl dL_isAhead_232 rfl ?_
        refine g_iload C hl dL_isAhead_234 rfl ?_
        refine u_ald (48 + i) C hk hM hR (uJ_d rfl (by omega)) dL_isAhead_236 ?_
        refine g_aload C hl dL_isAhead_237 rfl ?_
        refine g_iload C hl dL_isAhead_239 rfl ?_
        refine u_ald (48 + i) C hk2 hM2 hR (uJ_d rfl (by omega)) dL_isAhead_241 ?_
        refine g_icmp_eq (tgt := 249) C dL_isAhead_242 (by decide) (by have := hz.1 (48 + i) (by omega); omega) (by have := hzn.1 (48 + i) (by omega); omega) (fun c242 => ?_) (fun c242 => ?_)
        · -- 242 T
          refine g_iconst 0 C dL_isAhead_249 (by decide) ?_
          refine g_iadd C dL_isAhead_250 ?_
          refine g_istore C hl dL_isAhead_251 (Nat.le_of_ble_eq_true rfl) (fun ls hl => ?_)
          refine g_iinc (k := 1) C hl dL_isAhead_253 rfl (by decide) (fun ls hl => ?_)
          rw [un_a (f := fun q => 48 + q) c242] at hl
          refine g_goto (tgt := 223) C dL_isAhead_256 (by decide) ?_
          exact ih (i + 1) (by omega) _ _ _ hl hR hS
        · -- 242 F
          refine g_iconst 1 C dL_isAhead_245 (by decide) ?_
          refine g_goto (tgt := 250) C dL_isAhead_246 (by decide) ?_
          refine g_iadd C dL_isAhead_250 ?_
          refine g_istore C hl dL_isAhead_251 (Nat.le_of_ble_eq_true rfl) (fun ls hl => ?_)
          refine g_iinc (k := 1) C hl dL_isAhead_253 rfl (by decide) (fun ls hl => ?_)
          rw [un_b (f := fun q => 48 + q) c242] at hl
          refine g_goto (tgt := 223) C dL_isAhead_256 (by decide) ?_
          exact ih (i + 1) (by omega) _ _ _ hl hR hS
    have pc9 : aZ S 115 = 0 → ∀ (mem : gM), lR S mem → uR (mem 9) (zRun (aZ S) n) → ∀ (d i : Nat), i + d = 52 → ∀ (ls : Array Slot) (H : Heap) (locs : List Loc), gL ls [some (.ref (gAd Y 7 0)), some (.int (nI n)), some (.ref (gAd Y 8 0)), some (.ref (gAd Y 8 1)), some (.ref (gAd Y 8 2)), some (.ref (gAd Y 8 3)), some (.ref (gAd Y 9 0)), some (.ref (gAd Y 9 1)), some (.ref (gAd Y 9 2)), some (.ref (gAd Y 9 3)), some (.int (nI (zTk (aZ S) n))), some (.int (nI (0 + uD (zRun (aZ S) n) (aZ S) cJ i))), some (.int (nI i))] → gRep Y mem H → va_S (gA Y) s.heap H locs → W p l e { frames := 7, cells := 4, slots := 164, locals := 160 } s m args below meth c H locs 4 164 (MQ below (gQ X (fun v9 m9 => v9 = some (.int (nI 1)) ∧ lR S m9)) args s 4 164 (gA X)) (F0 m 185 ls []) := by
      intro c54 mem hJ hM2 d
      have hM := hJ.2.2
      have hzn := (zRun_I hz hg n).1
      induction d with
      | zero =>
        intro i hi ls H locs hl hR hS
        obtain rfl : i = 52 := by omega
        rw [Nat.zero_add (uD (zRun (aZ S) n) (aZ S) cJ 52)] at hl
        refine g_iload C hl dL_isAhead_185 rfl ?_
        refine g_bipush 52 C dL_isAhead_187 (by decide) ?_
        refine g_icmp_ge (tgt := 220) C dL_isAhead_189 (by decide) (by omega) (by omega) (fun c189 => ?_) (fun z9 => absurd z9 (by omega))
        refine g_iconst 0 C dL_isAhead_220 (by decide) ?_
        refine g_istore C hl dL_isAhead_221 (Nat.le_of_ble_eq_true rfl) (fun ls hl => ?_)
        exact pd c54 _ hJ hM2 48 0 (by omega) _ _ _ hl hR hS
      | succ d ih =>
        intro i hi ls H locs hl hR hS
        refine g_iload C hl dL_isAhead_185 rfl ?_
        refine g_bipush 52 C dL_isAhead_187 (by decide) ?_
        refine g_icmp_ge (tgt := 220) C dL_isAhead_189 (by decide) (by omega) (by omega) (fun z9 => absurd z9 (by omega)) (fun c189 => ?_)
        refine g_iload C hl dL_isAhead_192 rfl ?_
        refine g_aload_n C hl dL_isAhead_194 rfl ?_
        refine g_iload C hl dL_isAhead_195 rfl ?_
        refine u_ald (cJ i) C hk hM hR (uJ_cj (by omega)) dL_isAhead_197 ?_
        refine g_aload C hl dL_isAhead_198 rfl ?_
        refine g_iload C hl dL_isAhead_200 rfl ?_
        refine u_ald (cJ i) C hk2 hM2 hR (uJ_cj (by omega)) dL_isAhead_202 ?_
        refine g_icmp_eq (tgt := 210) C dL_isAhead_203 (by decide) (by have := hz.1 (cJ i) (cJ_lt (by omega)); omega) (by have := hzn.1 (cJ i) (cJ_lt (by omega)); omega) (fun c203 => ?_) (fun c203 => ?_)
        · -- 203 T
          refine g_iconst 0 C dL_isAhead_210 (by decide) ?_
          refine g_iadd C dL_isAhead_211 ?_
          refine g_istore C hl dL_isAhead_212 (Nat.le_of_ble_eq_true rfl) (fun ls hl => ?_)
          refine g_iinc (k := 1) C hl dL_isAhead_214 rfl (by decide) (fun ls hl => ?_)
          rw [un_a (f := cJ) c203] at hl
          refine g_goto (tgt := 185) C dL_isAhead_217 (by decide) ?_
          exact ih (i + 1) (by omega) _ _ _ hl hR hS
        · -- 203 F
          refine g_iconst 1 C dL_isAhead_206 (by decide) ?_
          refine g_goto (tgt := 211) C dL_isAhead_207 (by decide) ?_
          refine g_iadd C dL_isAhead_211 ?_
          refine g_istore C hl dL_isAhead_212 (Nat.le_of_ble_eq_true rfl) (fun ls hl => ?_)
          refine g_iinc (k := 1) C hl dL_isAhead_214 rfl (by decide) (fun ls hl => ?_)
          rw [un_b (f := cJ) c203] at hl
          refine g_goto (tgt := 185) C dL_isAhead_217 (by decide) ?_
          exact ih (i + 1) (by omega) _ _ _ hl hR hS
    refine g_aload_n C hl dL_isAhead_24 rfl ?_
    refine g_aload C hl dL_isAhead_25 rfl ?_
    refine g_callSv C hl.1 hR hS md_L_copy ml_L_27 (c_L_copy l hI hk hk2 (show 0 < 4 by decide)) rfl rfl ⟨Nat.le_of_ble_eq_true rfl, Nat.le_of_ble_eq_true rfl⟩ ⟨Nat.le_refl _, Nat.le_refl _⟩ (Nat.le_of_ble_eq_true rfl) dL_isAhead_27 (fun H locs hR hS => ?_)
    refine g_aload_n C hl dL_isAhead_30 rfl ?_
    refine g_aload C hl dL_isAhead_31 rfl ?_
    refine g_callSv C hl.1 hR hS md_L_copy ml_L_27 (c_L_copy l hI hk hk2 (show 1 < 4 by decide)) rfl rfl ⟨Nat.le_of_ble_eq_true rfl, Nat.le_of_ble_eq_true rfl⟩ ⟨Nat.le_refl _, Nat.le_refl _⟩ (Nat.le_of_ble_eq_true rfl) dL_isAhead_33 (fun H locs hR hS => ?_)
    refine g_aload C hl dL_isAhead_36 rfl ?_
    refine g_aload C hl dL_isAhead_38 rfl ?_
    refine g_callSv C hl.1 hR hS md_L_copy ml_L_27 (c_L_copy l hI hk hk2 (show 2 < 4 by decide)) rfl rfl ⟨Nat.le_of_ble_eq_true rfl, Nat.le_of_ble_eq_true rfl⟩ ⟨Nat.le_refl _, Nat.le_refl _⟩ (Nat.le_of_ble_eq_true rfl) dL_isAhead_40 (fun H locs hR hS => ?_)
    refine g_aload C hl dL_isAhead_43 rfl ?_
    refine g_aload C hl dL_isAhead_45 rfl ?_
    refine g_callSv C hl.1 hR hS md_L_copy ml_L_27 (c_L_copy l hI hk hk2 (show 3 < 4 by decide)) rfl rfl ⟨Nat.le_of_ble_eq_true rfl, Nat.le_of_ble_eq_true rfl⟩ ⟨Nat.le_refl _, Nat.le_refl _⟩ (Nat.le_of_ble_eq_true rfl) dL_isAhead_47 (fun H locs hR hS => ?_)
    have hR : gRep Y (uCp mem 4) H := hR
    have hM2 : uR (uCp mem 4 9) (aZ S) := uCp_R hJ.2.2
    have hJ := hJ.u9 (uCp_F 4)
    have hM := hJ.2.2
    generalize uCp mem 4 = mem at hR hM2 hJ hM
    refine g_aload_n C hl dL_isAhead_50 rfl ?_
    refine g_bipush 15 C dL_isAhead_51 (by decide) ?_
    refine u_ald (115) C hk hM hR (uJ_w rfl (by decide)) dL_isAhead_53 ?_
    refine g_if_le (tgt := 103) C dL_isAhead_54 (by decide) (by omega) (fun c54 => ?_) (fun c54 => ?_)
    · -- 54 T
      refine g_aload C hl dL_isAhead_103 rfl ?_
      refine g_aload C hl dL_isAhead_105 rfl ?_
      refine g_aload C hl dL_isAhead_107 rfl ?_
      refine g_aload C hl dL_isAhead_109 rfl ?_
      have hF : uF 9 mem mem := uF.rf
      refine g_callU C hl.1 hF hR hS md_L_step ml_L_23 (c_L_step l hI hk2 hM2 hz (hg c54) c54) rfl rfl ⟨Nat.le_of_ble_eq_true rfl, Nat.le_of_ble_eq_true rfl⟩ ⟨Nat.le_refl _, Nat.le_refl _⟩ (Nat.le_of_ble_eq_true rfl) dL_isAhead_111 (fun mem hM2 hF H locs hR hS => ?_)
      have hJ := hJ.u9 hF
      have hM := hJ.2.2
      refine g_aload_n C hl dL_isAhead_114 rfl ?_
      refine g_iconst 0 C dL_isAhead_115 (by decide) ?_
      refine g_callV C hl.1 hR hS rc_X8 md_X8_next ml_L_31 (c_X8_next l hI hJ.1 hJ.2.1) rfl rfl ⟨Nat.le_of_ble_eq_true rfl, Nat.le_of_ble_eq_true rfl⟩ ⟨Nat.le_refl _, Nat.le_refl _⟩ (Nat.le_of_ble_eq_true rfl) dL_isAhead_116 (fun v mem H locs hp hR hS => ?_)
      obtain ⟨e9, hc9⟩ := hp
      subst e9
      have hM2 := uR_ob hM2 hc9
      have hJ := hJ.ob hc9
      have hM := hJ.2.2
      rw [sNext_in c54 (by decide)]
      refine g_aload_n C hl dL_isAhead_119 rfl ?_
      refine g_aload_n C hl dL_isAhead_120 rfl ?_
      refine g_aload C hl dL_isAhead_121 rfl ?_
      refine g_aload_n C hl dL_isAhead_123 rfl ?_
      refine g_bipush 14 C dL_isAhead_124 (by decide) ?_
      refine u_ald (114) C hk hM hR (uJ_w rfl (by decide)) dL_isAhead_126 ?_
      refine g_callSi C hl.1 hR hS md_L_at ml_L_15 (c_L_at l hI hk hM hz (hg c54)) rfl rfl ⟨Nat.le_of_ble_eq_true rfl, Nat.le_of_ble_eq_true rfl⟩ ⟨Nat.le_refl _, Nat.le_refl _⟩ (Nat.le_of_ble_eq_true rfl) dL_isAhead_127 (fun H locs hR hS => ?_)
      refine lv_icmp_ne (tgt := 159) C.1 C.2.1 dL_isAhead_130 (by decide) (fun z9 => absurd rfl z9) (fun _ => ?_)
      refine g_aload_n C hl dL_isAhead_133 rfl ?_
      refine g_iconst 1 C dL_isAhead_134 (by decide) ?_
      refine g_callV C hl.1 hR hS rc_X8 md_X8_next ml_L_31 (c_X8_next l hI hJ.1 hJ.2.1) rfl rfl ⟨Nat.le_of_ble_eq_true rfl, Nat.le_of_ble_eq_true rfl⟩ ⟨Nat.le_refl _, Nat.le_refl _⟩ (Nat.le_of_ble_eq_true rfl) dL_isAhead_135 (fun v mem H locs hp hR hS => ?_)
      obtain ⟨e9, hc9⟩ := hp
      subst e9
      have hM2 := uR_ob hM2 hc9
      have hJ := hJ.ob hc9
      have hM := hJ.2.2
      rw [sNext_in c54 (by decide)]
      refine g_aload C hl dL_isAhead_138 rfl ?_
      refine g_bipush 15 C dL_isAhead_140 (by decide) ?_
      refine u_ald (115) C hk2 hM2 hR (uJ_w rfl (by decide)) dL_isAhead_142 ?_
      refine lv_icmp_ne (tgt := 159) C.1 C.2.1 dL_isAhead_143 (by decide) (fun z9 => absurd rfl z9) (fun _ => ?_)
      refine g_aload_n C hl dL_isAhead_146 rfl ?_
      refine g_iconst 2 C dL_isAhead_147 (by decide) ?_
      refine g_callV C hl.1 hR hS rc_X8 md_X8_next ml_L_31 (c_X8_next l hI hJ.1 hJ.2.1) rfl rfl ⟨Nat.le_of_ble_eq_true rfl, Nat.le_of_ble_eq_true rfl⟩ ⟨Nat.le_refl _, Nat.le_refl _⟩ (Nat.le_of_ble_eq_true rfl) dL_isAhead_148 (fun v mem H locs hp hR hS => ?_)
      obtain ⟨e9, hc9⟩ := hp
      subst e9
      have hM2 := uR_ob hM2 hc9
      have hJ := hJ.ob hc9
      have hM := hJ.2.2
      rw [sNext_in c54 (by decide)]
      refine g_aload C hl dL_isAhead_151 rfl ?_
      refine g_bipush 14 C dL_isAhead_153 (by decide) ?_
      refine u_ald (114) C hk2 hM2 hR (uJ_w rfl (by decide)) dL_isAhead_155 ?_
      refine lv_icmp_eq (tgt := 161) C.1 C.2.1 dL_isAhead_156 (by decide) (fun _ => ?_) (fun z9 => absurd rfl z9)
      refine g_iconst 1 C dL_isAhead_161 (by decide) ?_
      refine g_iload_n C hl dL_isAhead_162 rfl ?_
      refine g_iconst 1 C dL_isAhead_163 (by decide) ?_
      refine g_isub C dL_isAhead_164 (by omega) ?_
      refine g_aload C hl dL_isAhead_165 rfl ?_
      refine g_aload C hl dL_isAhead_167 rfl ?_
      refine g_aload C hl dL_isAhead_169 rfl ?_
      refine g_aload C hl dL_isAhead_171 rfl ?_
      have hF : uF 9 mem mem := uF.rf
      refine g_callU C hl.1 hF hR hS md_L_run ml_L_45 (c_L_run l hI hk2 hM2 (zI_step hz (hg c54)) (zG_step hz (hg c54)) (show n - 1 < 2 ^ 31 by omega)) rfl rfl ⟨Nat.le_of_ble_eq_true rfl, Nat.le_of_ble_eq_true rfl⟩ ⟨Nat.le_refl _, Nat.le_refl _⟩ (Nat.le_of_ble_eq_true rfl) dL_isAhead_173 (fun mem hM2 hF H locs hR hS => ?_)
      have hJ := hJ.u9 hF
      have hM := hJ.2.2
      rw [zRun_sh c54 hn1] at hM2
      refine g_iadd C dL_isAhead_176 ?_
      rw [zTk_sh c54 hn1]
      refine g_istore C hl dL_isAhead_177 (Nat.le_of_ble_eq_true rfl) (fun ls hl => ?_)
      refine g_iconst 0 C dL_isAhead_179 (by decide) ?_
      refine g_istore C hl dL_isAhead_180 (Nat.le_of_ble_eq_true rfl) (fun ls hl => ?_)
      refine g_iconst 0 C dL_isAhead_182 (by decide) ?_
      refine g_istore C hl dL_isAhead_183 (Nat.le_of_ble_eq_true rfl) (fun ls hl => ?_)
      exact pc9 c54 _ hJ hM2 52 0 (by omega) _ _ _ hl hR hS
    · -- 54 F
      refine g_aload_n C hl dL_isAhead_57 rfl ?_
      refine g_iconst 0 C dL_isAhead_58 (by decide) ?_
      refine g_callV C hl.1 hR hS rc_X8 md_X8_next ml_L_31 (c_X8_next l hI hJ.1 hJ.2.1) rfl rfl ⟨Nat.le_of_ble_eq_true rfl, Nat.le_of_ble_eq_true rfl⟩ ⟨Nat.le_refl _, Nat.le_refl _⟩ (Nat.le_of_ble_eq_true rfl) dL_isAhead_59 (fun v mem H locs hp hR hS => ?_)
      obtain ⟨e9, hc9⟩ := hp
      subst e9
      have hM2 := uR_ob hM2 hc9
      have hJ := hJ.ob hc9
      have hM := hJ.2.2
      rw [sNext_st (by omega)]
      refine g_bipushM (-5) C dL_isAhead_62 (by decide) ?_
      refine lv_icmp_ne (tgt := 101) C.1 C.2.1 dL_isAhead_64 (by decide) (fun z9 => absurd rfl z9) (fun _ => ?_)
      refine g_aload_n C hl dL_isAhead_67 rfl ?_
      refine g_iconst 3 C dL_isAhead_68 (by decide) ?_
      refine g_callV C hl.1 hR hS rc_X8 md_X8_next ml_L_31 (c_X8_next l hI hJ.1 hJ.2.1) rfl rfl ⟨Nat.le_of_ble_eq_true rfl, Nat.le_of_ble_eq_true rfl⟩ ⟨Nat.le_refl _, Nat.le_refl _⟩ (Nat.le_of_ble_eq_true rfl) dL_isAhead_69 (fun v mem H locs hp hR hS => ?_)
      obtain ⟨e9, hc9⟩ := hp
      subst e9
      have hM2 := uR_ob hM2 hc9
      have hJ := hJ.ob hc9
      have hM := hJ.2.2
      rw [sNext_3]
      refine g_bipushM (-2) C dL_isAhead_72 (by decide) ?_
      refine lv_icmp_ne (tgt := 101) C.1 C.2.1 dL_isAhead_74 (by decide) (fun z9 => absurd rfl z9) (fun _ => ?_)
      refine g_aload_n C hl dL_isAhead_77 rfl ?_
      refine g_iload_n C hl dL_isAhead_78 rfl ?_
      refine g_iconst 0 C dL_isAhead_79 (by decide) ?_
      refine g_callV C hl.1 hR hS rc_X8 md_X8_ifRun ml_L_37 (c_X8_ifRun l hI hJ.1 hJ.2.1) rfl rfl ⟨Nat.le_of_ble_eq_true rfl, Nat.le_of_ble_eq_true rfl⟩ ⟨Nat.le_refl _, Nat.le_refl _⟩ (Nat.le_of_ble_eq_true rfl) dL_isAhead_80 (fun v mem H locs hp hR hS => ?_)
      obtain ⟨e9, hc9⟩ := hp
      subst e9
      have hM2 := uR_ob hM2 hc9
      have hJ := hJ.ob hc9
      have hM := hJ.2.2
      rw [sIf_st (by omega) hn1 hn2]
      refine g_bipushM (-4) C dL_isAhead_83 (by decide) ?_
      refine lv_icmp_ne (tgt := 101) C.1 C.2.1 dL_isAhead_85 (by decide) (fun z9 => absurd rfl z9) (fun _ => ?_)
      refine g_aload_n C hl dL_isAhead_88 rfl ?_
      refine g_callV C hl.1 hR hS rc_X8 md_X8_backIn ml_L_41 (c_X8_backIn l hI hJ.1 hJ.2.1) rfl rfl ⟨Nat.le_of_ble_eq_true rfl, Nat.le_of_ble_eq_true rfl⟩ ⟨Nat.le_refl _, Nat.le_refl _⟩ (Nat.le_of_ble_eq_true rfl) dL_isAhead_89 (fun v mem H locs hp hR hS => ?_)
      obtain ⟨e9, hc9⟩ := hp
      subst e9
      have hM2 := uR_ob hM2 hc9
      have hJ := hJ.ob hc9
      have hM := hJ.2.2
      rw [sBack_st (by omega)]
      refine g_bipushM (-5) C dL_isAhead_92 (by decide) ?_
      refine lv_icmp_ne (tgt := 101) C.1 C.2.1 dL_isAhead_94 (by decide) (fun z9 => absurd rfl z9) (fun _ => ?_)
      refine g_iconst 1 C dL_isAhead_97 (by decide) ?_
      refine g_goto (tgt := 102) C dL_isAhead_98 (by decide) ?_
      exact ga_zret L C (uSt.of hJ.2.1) hR hS dL_isAhead_102 rfl ⟨rfl, hJ⟩
  refine g_bipush 36 C dL_isAhead_0 (by decide) ?_
  refine g_newL (k := 9) (o := 0) (n := 36) C (by omega) (by omega) rfl hst hR hS (Nat.le_of_ble_eq_true rfl) (Nat.le_of_ble_eq_true rfl) dL_isAhead_2 (fun Y1 H L1 x1 C hR hS => ?_)
  have hst := hst.gP (k := 9) (o := 0) (f := fun _ => 0) (by decide)
  refine g_astore C hl dL_isAhead_4 (Nat.le_of_ble_eq_true rfl) (fun ls hl => ?_)
  refine g_bipush 52 C dL_isAhead_6 (by decide) ?_
  refine g_newL (k := 9) (o := 1) (n := 52) C (by omega) (by omega) rfl hst hR hS (Nat.le_of_ble_eq_true rfl) (Nat.le_of_ble_eq_true rfl) dL_isAhead_8 (fun Y2 H L2 x2 C hR hS => ?_)
  have hst := hst.gP (k := 9) (o := 1) (f := fun _ => 0) (by decide)
  refine g_astore C hl dL_isAhead_10 (Nat.le_of_ble_eq_true rfl) (fun ls hl => ?_)
  refine g_bipush 48 C dL_isAhead_12 (by decide) ?_
  refine g_newL (k := 9) (o := 2) (n := 48) C (by omega) (by omega) rfl hst hR hS (Nat.le_of_ble_eq_true rfl) (Nat.le_of_ble_eq_true rfl) dL_isAhead_14 (fun Y3 H L3 x3 C hR hS => ?_)
  have hst := hst.gP (k := 9) (o := 2) (f := fun _ => 0) (by decide)
  refine g_astore C hl dL_isAhead_16 (Nat.le_of_ble_eq_true rfl) (fun ls hl => ?_)
  refine g_bipush 28 C dL_isAhead_18 (by decide) ?_
  refine g_newL (k := 9) (o := 3) (n := 28) C (by omega) (by omega) rfl hst hR hS (Nat.le_of_ble_eq_true rfl) (Nat.le_of_ble_eq_true rfl) dL_isAhead_20 (fun Y4 H L4 x4 C hR hS => ?_)
  have hst := hst.gP (k := 9) (o := 3) (f := fun _ => 0) (by decide)
  refine g_astore C hl dL_isAhead_22 (Nat.le_of_ble_eq_true rfl) (fun ls hl => ?_)
  have L : uLe X Y4 := L1.tr (L2.tr (L3.tr L4))
  have hl : gL ls [some (.ref (gAd Y4 7 0)), some (.int (nI n)), some (.ref (gAd Y4 8 0)), some (.ref (gAd Y4 8 1)), some (.ref (gAd Y4 8 2)), some (.ref (gAd Y4 8 3)), some (.ref (gAd Y4 9 0)), some (.ref (gAd Y4 9 1)), some (.ref (gAd Y4 9 2)), some (.ref (gAd Y4 9 3)), none, none, none] := by
    rw [L.2.2.2.2 7 0 (Or.inl (by decide)), L.2.2.2.2 8 0 (Or.inr (gLx_mem (by decide) (by decide) (by omega))), L.2.2.2.2 8 1 (Or.inr (gLx_mem (by decide) (by decide) (by omega))), L.2.2.2.2 8 2 (Or.inr (gLx_mem (by decide) (by decide) (by omega))), L.2.2.2.2 8 3 (Or.inr (gLx_mem (by decide) (by decide) (by omega))), (L2.tr (L3.tr L4)).2.2.2.2 9 0 (Or.inr (gLx_mem (by decide) (by decide) (by omega))), (L3.tr L4).2.2.2.2 9 1 (Or.inr (gLx_mem (by decide) (by decide) (by omega))), L4.2.2.2.2 9 2 (Or.inr (gLx_mem (by decide) (by decide) (by omega)))]
    exact hl
  have hF9 : uF 9 mem (gP (gP (gP (gP mem 9 0 (fun _ => 0)) 9 1 (fun _ => 0)) 9 2 (fun _ => 0)) 9 3 (fun _ => 0)) := uF.rf.gP.gP.gP.gP
  have hJ := hJ.u9 hF9
  exact rest Y4 L (by omega) C _ hJ ls H locs hl hR hS
