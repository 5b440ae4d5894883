section
-- ===== PART A: goes FIRST, ahead of the names: the tables' words, and 'selects' of the private methods out of them =====
/-- a private method of a class that the tables say can be made, by its rows of tables_1 -/
def lw_okq (q : MethodName × Nat) : Prop := (q.1.cls ≠ "java/lang/invoke/MethodHandle" ∧ q.1.cls ≠ "java/lang/invoke/VarHandle") ∧ Cond.instantiable q.1.cls q.2 ∈ tables_1 ∧ Cond.privateMethod q.1 ∈ tables_1 ∧ Cond.instanceMethod q.1 ∈ tables_1
theorem lw_p0 : lw_okq (⟨"FarBanks$History", "dropOldest", "()V"⟩, 2) := ⟨⟨by decide +kernel, by decide +kernel⟩, List.mem_of_getElem? (i := 144) (by decide +kernel), List.mem_of_getElem? (i := 245) (by decide +kernel), List.mem_of_getElem? (i := 246) (by decide +kernel)⟩
theorem lw_p1 : lw_okq (⟨"FarBanks$Machine", "hindranceOf", "(II)I"⟩, 8) := ⟨⟨by decide +kernel, by decide +kernel⟩, List.mem_of_getElem? (i := 26) (by decide +kernel), List.mem_of_getElem? (i := 355) (by decide +kernel), List.mem_of_getElem? (i := 356) (by decide +kernel)⟩
theorem lw_p2 : lw_okq (⟨"FarBanks$Machine", "carryOut", "(III)V"⟩, 8) := ⟨⟨by decide +kernel, by decide +kernel⟩, List.mem_of_getElem? (i := 26) (by decide +kernel), List.mem_of_getElem? (i := 362) (by decide +kernel), List.mem_of_getElem? (i := 363) (by decide +kernel)⟩
theorem lw_p3 : lw_okq (⟨"FarBanks$Machine", "increase", "(I)V"⟩, 8) := ⟨⟨by decide +kernel, by decide +kernel⟩, List.mem_of_getElem? (i := 26) (by decide +kernel), List.mem_of_getElem? (i := 366) (by decide +kernel), List.mem_of_getElem? (i := 367) (by decide +kernel)⟩
theorem lw_p4 : lw_okq (⟨"FarBanks$Machine", "callFrom", "(II)V"⟩, 8) := ⟨⟨by decide +kernel, by decide +kernel⟩, List.mem_of_getElem? (i := 26) (by decide +kernel), List.mem_of_getElem? (i := 376) (by decide +kernel), List.mem_of_getElem? (i := 377) (by decide +kernel)⟩
theorem lw_p5 : lw_okq (⟨"FarBanks$Machine", "comeBack", "()V"⟩, 8) := ⟨⟨by decide +kernel, by decide +kernel⟩, List.mem_of_getElem? (i := 26) (by decide +kernel), List.mem_of_getElem? (i := 386) (by decide +kernel), List.mem_of_getElem? (i := 387) (by decide +kernel)⟩
theorem lw_p6 : lw_okq (⟨"FarBanks$Code", "readOrder", "(LFarBanks$Text;)I"⟩, 4) := ⟨⟨by decide +kernel, by decide +kernel⟩, List.mem_of_getElem? (i := 176) (by decide +kernel), List.mem_of_getElem? (i := 419) (by decide +kernel), List.mem_of_getElem? (i := 420) (by decide +kernel)⟩
theorem lw_p7 : lw_okq (⟨"FarBanks$Code", "readKind", "(LFarBanks$Text;)I"⟩, 4) := ⟨⟨by decide +kernel, by decide +kernel⟩, List.mem_of_getElem? (i := 176) (by decide +kernel), List.mem_of_getElem? (i := 423) (by decide +kernel), List.mem_of_getElem? (i := 424) (by decide +kernel)⟩
theorem lw_p8 : lw_okq (⟨"FarBanks$Code", "lengthOfBeginning", "(LFarBanks$Text;Ljava/lang/String;)I"⟩, 4) := ⟨⟨by decide +kernel, by decide +kernel⟩, List.mem_of_getElem? (i := 176) (by decide +kernel), List.mem_of_getElem? (i := 440) (by decide +kernel), List.mem_of_getElem? (i := 441) (by decide +kernel)⟩
theorem lw_p9 : lw_okq (⟨"FarBanks$Code", "readNumber", "(LFarBanks$Text;I)I"⟩, 4) := ⟨⟨by decide +kernel, by decide +kernel⟩, List.mem_of_getElem? (i := 176) (by decide +kernel), List.mem_of_getElem? (i := 499) (by decide +kernel), List.mem_of_getElem? (i := 500) (by decide +kernel)⟩
theorem lw_p10 : lw_okq (⟨"FarBanksModel", "record", "()V"⟩, 12) := ⟨⟨by decide +kernel, by decide +kernel⟩, List.mem_of_getElem? (i := 600) (by decide +kernel), List.mem_of_getElem? (i := 655) (by decide +kernel), List.mem_of_getElem? (i := 656) (by decide +kernel)⟩
theorem lw_p11 : lw_okq (⟨"FarBanksModel", "change", "(II)I"⟩, 12) := ⟨⟨by decide +kernel, by decide +kernel⟩, List.mem_of_getElem? (i := 600) (by decide +kernel), List.mem_of_getElem? (i := 675) (by decide +kernel), List.mem_of_getElem? (i := 676) (by decide +kernel)⟩
theorem lw_p12 : lw_okq (⟨"FarBanksModel", "locked", "()I"⟩, 12) := ⟨⟨by decide +kernel, by decide +kernel⟩, List.mem_of_getElem? (i := 600) (by decide +kernel), List.mem_of_getElem? (i := 683) (by decide +kernel), List.mem_of_getElem? (i := 684) (by decide +kernel)⟩
theorem lw_p13 : lw_okq (⟨"FarBanksModel", "doRun", "(I)I"⟩, 12) := ⟨⟨by decide +kernel, by decide +kernel⟩, List.mem_of_getElem? (i := 600) (by decide +kernel), List.mem_of_getElem? (i := 714) (by decide +kernel), List.mem_of_getElem? (i := 715) (by decide +kernel)⟩
theorem lw_p14 : lw_okq (⟨"FarBanksModel", "step", "()V"⟩, 12) := ⟨⟨by decide +kernel, by decide +kernel⟩, List.mem_of_getElem? (i := 600) (by decide +kernel), List.mem_of_getElem? (i := 718) (by decide +kernel), List.mem_of_getElem? (i := 719) (by decide +kernel)⟩
theorem lw_p15 : lw_okq (⟨"FarBanksModel", "indexAt", "(I)I"⟩, 12) := ⟨⟨by decide +kernel, by decide +kernel⟩, List.mem_of_getElem? (i := 600) (by decide +kernel), List.mem_of_getElem? (i := 722) (by decide +kernel), List.mem_of_getElem? (i := 723) (by decide +kernel)⟩
def lw_privs_1 : List (MethodName × Nat) := [(⟨"FarBanks$History", "dropOldest", "()V"⟩, 2), (⟨"FarBanks$Machine", "hindranceOf", "(II)I"⟩, 8), (⟨"FarBanks$Machine", "carryOut", "(III)V"⟩, 8), (⟨"FarBanks$Machine", "increase", "(I)V"⟩, 8), (⟨"FarBanks$Machine", "callFrom", "(II)V"⟩, 8), (⟨"FarBanks$Machine", "comeBack", "()V"⟩, 8), (⟨"FarBanks$Code", "readOrder", "(LFarBanks$Text;)I"⟩, 4), (⟨"FarBanks$Code", "readKind", "(LFarBanks$Text;)I"⟩, 4), (⟨"FarBanks$Code", "lengthOfBeginning", "(LFarBanks$Text;Ljava/lang/String;)I"⟩, 4), (⟨"FarBanks$Code", "readNumber", "(LFarBanks$Text;I)I"⟩, 4), (⟨"FarBanksModel", "record", "()V"⟩, 12), (⟨"FarBanksModel", "change", "(II)I"⟩, 12), (⟨"FarBanksModel", "locked", "()I"⟩, 12), (⟨"FarBanksModel", "doRun", "(I)I"⟩, 12), (⟨"FarBanksModel", "step", "()V"⟩, 12), (⟨"FarBanksModel", "indexAt", "(I)I"⟩, 12)]
theorem lw_r1 : ∀ q ∈ lw_privs_1, lw_okq q := List.forall_mem_cons.mpr ⟨lw_p0, List.forall_mem_cons.mpr ⟨lw_p1, List.forall_mem_cons.mpr ⟨lw_p2, List.forall_mem_cons.mpr ⟨lw_p3, List.forall_mem_cons.mpr ⟨lw_p4, List.forall_mem_cons.mpr ⟨lw_p5, List.forall_mem_cons.mpr ⟨lw_p6, List.forall_mem_cons.mpr ⟨lw_p7, List.forall_mem_cons.mpr ⟨lw_p8, List.forall_mem_cons.mpr ⟨lw_p9, List.forall_mem_cons.mpr ⟨lw_p10, List.forall_mem_cons.mpr ⟨lw_p11, List.forall_mem_cons.mpr ⟨lw_p12, List.forall_mem_cons.mpr ⟨lw_p13, List.forall_mem_cons.mpr ⟨lw_p14, List.forall_mem_cons.mpr ⟨lw_p15, fun _ h => absurd h List.not_mem_nil⟩⟩⟩⟩⟩⟩⟩⟩⟩⟩⟩⟩⟩⟩⟩⟩
theorem lw_p16 : lw_okq (⟨"FarBanksModel", "bankAt", "(I)I"⟩, 12) := ⟨⟨by decide +kernel, by decide +kernel⟩, List.mem_of_getElem? (i := 600) (by decide +kernel), List.mem_of_getElem? (i := 726) (by decide +kernel), List.mem_of_getElem? (i := 727) (by decide +kernel)⟩
theorem lw_p17 : lw_okq (⟨"FarBanksModel", "keepStep", "(II)V"⟩, 12) := ⟨⟨by decide +kernel, by decide +kernel⟩, List.mem_of_getElem? (i := 600) (by decide +kernel), List.mem_of_getElem? (i := 730) (by decide +kernel), List.mem_of_getElem? (i := 731) (by decide +kernel)⟩
theorem lw_p18 : lw_okq (⟨"FarBanksModel", "whyNot", "(II)I"⟩, 12) := ⟨⟨by decide +kernel, by decide +kernel⟩, List.mem_of_getElem? (i := 600) (by decide +kernel), List.mem_of_getElem? (i := 734) (by decide +kernel), List.mem_of_getElem? (i := 735) (by decide +kernel)⟩
theorem lw_p19 : lw_okq (⟨"FarBanksModel", "order", "(III)V"⟩, 12) := ⟨⟨by decide +kernel, by decide +kernel⟩, List.mem_of_getElem? (i := 600) (by decide +kernel), List.mem_of_getElem? (i := 738) (by decide +kernel), List.mem_of_getElem? (i := 739) (by decide +kernel)⟩
theorem lw_p20 : lw_okq (⟨"FarBanksModel", "write", "(I)V"⟩, 12) := ⟨⟨by decide +kernel, by decide +kernel⟩, List.mem_of_getElem? (i := 600) (by decide +kernel), List.mem_of_getElem? (i := 745) (by decide +kernel), List.mem_of_getElem? (i := 746) (by decide +kernel)⟩
theorem lw_p21 : lw_okq (⟨"FarBanksModel", "call", "(II)V"⟩, 12) := ⟨⟨by decide +kernel, by decide +kernel⟩, List.mem_of_getElem? (i := 600) (by decide +kernel), List.mem_of_getElem? (i := 749) (by decide +kernel), List.mem_of_getElem? (i := 750) (by decide +kernel)⟩
theorem lw_p22 : lw_okq (⟨"FarBanksModel", "back", "()V"⟩, 12) := ⟨⟨by decide +kernel, by decide +kernel⟩, List.mem_of_getElem? (i := 600) (by decide +kernel), List.mem_of_getElem? (i := 753) (by decide +kernel), List.mem_of_getElem? (i := 754) (by decide +kernel)⟩
theorem lw_p23 : lw_okq (⟨"FarBanksModel", "findFault", "()I"⟩, 12) := ⟨⟨by decide +kernel, by decide +kernel⟩, List.mem_of_getElem? (i := 600) (by decide +kernel), List.mem_of_getElem? (i := 769) (by decide +kernel), List.mem_of_getElem? (i := 770) (by decide +kernel)⟩
theorem lw_p24 : lw_okq (⟨"FarBanksModel", "takeOrder", "()I"⟩, 12) := ⟨⟨by decide +kernel, by decide +kernel⟩, List.mem_of_getElem? (i := 600) (by decide +kernel), List.mem_of_getElem? (i := 773) (by decide +kernel), List.mem_of_getElem? (i := 774) (by decide +kernel)⟩
theorem lw_p25 : lw_okq (⟨"FarBanksModel", "sign", "()I"⟩, 12) := ⟨⟨by decide +kernel, by decide +kernel⟩, List.mem_of_getElem? (i := 600) (by decide +kernel), List.mem_of_getElem? (i := 777) (by decide +kernel), List.mem_of_getElem? (i := 778) (by decide +kernel)⟩
theorem lw_p26 : lw_okq (⟨"FarBanksModel", "take", "(Z)V"⟩, 12) := ⟨⟨by decide +kernel, by decide +kernel⟩, List.mem_of_getElem? (i := 600) (by decide +kernel), List.mem_of_getElem? (i := 781) (by decide +kernel), List.mem_of_getElem? (i := 782) (by decide +kernel)⟩
theorem lw_p27 : lw_okq (⟨"FarBanksModel", "takeRest", "(IIII)V"⟩, 12) := ⟨⟨by decide +kernel, by decide +kernel⟩, List.mem_of_getElem? (i := 600) (by decide +kernel), List.mem_of_getElem? (i := 785) (by decide +kernel), List.mem_of_getElem? (i := 786) (by decide +kernel)⟩
theorem lw_p28 : lw_okq (⟨"FarBanksModel", "takeNumber", "(I)I"⟩, 12) := ⟨⟨by decide +kernel, by decide +kernel⟩, List.mem_of_getElem? (i := 600) (by decide +kernel), List.mem_of_getElem? (i := 789) (by decide +kernel), List.mem_of_getElem? (i := 790) (by decide +kernel)⟩
theorem lw_p29 : lw_okq (⟨"FarBanksModel", "sameAs", "(I)I"⟩, 12) := ⟨⟨by decide +kernel, by decide +kernel⟩, List.mem_of_getElem? (i := 600) (by decide +kernel), List.mem_of_getElem? (i := 801) (by decide +kernel), List.mem_of_getElem? (i := 802) (by decide +kernel)⟩
theorem lw_p30 : lw_okq (⟨"FarBanksModel", "windowsOf", "(I)I"⟩, 12) := ⟨⟨by decide +kernel, by decide +kernel⟩, List.mem_of_getElem? (i := 600) (by decide +kernel), List.mem_of_getElem? (i := 809) (by decide +kernel), List.mem_of_getElem? (i := 810) (by decide +kernel)⟩
theorem lw_p31 : lw_okq (⟨"FarBanksModel", "filled", "(I)I"⟩, 12) := ⟨⟨by decide +kernel, by decide +kernel⟩, List.mem_of_getElem? (i := 600) (by decide +kernel), List.mem_of_getElem? (i := 813) (by decide +kernel), List.mem_of_getElem? (i := 814) (by decide +kernel)⟩
def lw_privs_2 : List (MethodName × Nat) := [(⟨"FarBanksModel", "bankAt", "(I)I"⟩, 12), (⟨"FarBanksModel", "keepStep", "(II)V"⟩, 12), (⟨"FarBanksModel", "whyNot", "(II)I"⟩, 12), (⟨"FarBanksModel", "order", "(III)V"⟩, 12), (⟨"FarBanksModel", "write", "(I)V"⟩, 12), (⟨"FarBanksModel", "call", "(II)V"⟩, 12), (⟨"FarBanksModel", "back", "()V"⟩, 12), (⟨"FarBanksModel", "findFault", "()I"⟩, 12), (⟨"FarBanksModel", "takeOrder", "()I"⟩, 12), (⟨"FarBanksModel", "sign", "()I"⟩, 12), (⟨"FarBanksModel", "take", "(Z)V"⟩, 12), (⟨"FarBanksModel", "takeRest", "(IIII)V"⟩, 12), (⟨"FarBanksModel", "takeNumber", "(I)I"⟩, 12), (⟨"FarBanksModel", "sameAs", "(I)I"⟩, 12), (⟨"FarBanksModel", "windowsOf", "(I)I"⟩, 12), (⟨"FarBanksModel", "filled", "(I)I"⟩, 12)]
theorem lw_r2 : ∀ q ∈ lw_privs_2, lw_okq q := List.forall_mem_cons.mpr ⟨lw_p16, List.forall_mem_cons.mpr ⟨lw_p17, List.forall_mem_cons.mpr ⟨lw_p18, List.forall_mem_cons.mpr ⟨lw_p19, List.forall_mem_cons.mpr ⟨lw_p20, List.forall_mem_cons.mpr ⟨lw_p21, List.forall_mem_cons.mpr ⟨lw_p22, List.forall_mem_cons.mpr ⟨lw_p23, List.forall_mem_cons.mpr ⟨lw_p24, List.forall_mem_cons.mpr ⟨lw_p25, List.forall_mem_cons.mpr ⟨lw_p26, List.forall_mem_cons.mpr ⟨lw_p27, List.forall_mem_cons.mpr ⟨lw_p28, List.forall_mem_cons.mpr ⟨lw_p29, List.forall_mem_cons.mpr ⟨lw_p30, List.forall_mem_cons.mpr ⟨lw_p31, fun _ h => absurd h List.not_mem_nil⟩⟩⟩⟩⟩⟩⟩⟩⟩⟩⟩⟩⟩⟩⟩⟩
theorem lw_p32 : lw_okq (⟨"FarBanksModel", "framesTo", "(I)I"⟩, 12) := ⟨⟨by decide +kernel, by decide +kernel⟩, List.mem_of_getElem? (i := 600) (by decide +kernel), List.mem_of_getElem? (i := 817) (by decide +kernel), List.mem_of_getElem? (i := 818) (by decide +kernel)⟩
theorem lw_p33 : lw_okq (⟨"FarBanksModel", "putAside", "()V"⟩, 12) := ⟨⟨by decide +kernel, by decide +kernel⟩, List.mem_of_getElem? (i := 600) (by decide +kernel), List.mem_of_getElem? (i := 837) (by decide +kernel), List.mem_of_getElem? (i := 838) (by decide +kernel)⟩
theorem lw_p34 : lw_okq (⟨"FarBanksModel", "putBack", "()V"⟩, 12) := ⟨⟨by decide +kernel, by decide +kernel⟩, List.mem_of_getElem? (i := 600) (by decide +kernel), List.mem_of_getElem? (i := 841) (by decide +kernel), List.mem_of_getElem? (i := 842) (by decide +kernel)⟩
theorem lw_p35 : lw_okq (⟨"FarBanksModel", "unlikeCells", "()I"⟩, 12) := ⟨⟨by decide +kernel, by decide +kernel⟩, List.mem_of_getElem? (i := 600) (by decide +kernel), List.mem_of_getElem? (i := 849) (by decide +kernel), List.mem_of_getElem? (i := 850) (by decide +kernel)⟩
def lw_privs_3 : List (MethodName × Nat) := [(⟨"FarBanksModel", "framesTo", "(I)I"⟩, 12), (⟨"FarBanksModel", "putAside", "()V"⟩, 12), (⟨"FarBanksModel", "putBack", "()V"⟩, 12), (⟨"FarBanksModel", "unlikeCells", "()I"⟩, 12)]
theorem lw_r3 : ∀ q ∈ lw_privs_3, lw_okq q := List.forall_mem_cons.mpr ⟨lw_p32, List.forall_mem_cons.mpr ⟨lw_p33, List.forall_mem_cons.mpr ⟨lw_p34, List.forall_mem_cons.mpr ⟨lw_p35, fun _ h => absurd h List.not_mem_nil⟩⟩⟩⟩
def lw_privs : List (MethodName × Nat) := lw_privs_1 ++ (lw_privs_2 ++ (lw_privs_3))
def lw_tbl : List Cond := k2_sels lw_privs ++ tables_1
theorem lw_privs_ok : ∀ q ∈ lw_privs, lw_okq q := by
  show ∀ q ∈ lw_privs_1 ++ (lw_privs_2 ++ (lw_privs_3)), lw_okq q
  exact List.forall_mem_append.mpr ⟨lw_r1, List.forall_mem_append.mpr ⟨lw_r2, lw_r3⟩⟩
end
section
def RX0 : String := "FarBanks$Banks"
def TX0 : u_T := fun k => match k with
  | 0 => ("FarBanks$Banks", "cells", "LFarBanks$Row;", true)
  | 1 => ("FarBanks$Banks", "alone", "LFarBanks$Row;", true)
  | 2 => ("FarBanks$Banks", "shown", "LFarBanks$Row;", true)
  | 3 => ("FarBanks$Banks", "written", "LFarBanks$Row;", true)
  | _ => ("FarBanks$Banks", "refused", "LFarBanks$Row;", true)
def tyX0 : Nat → FieldType := fun k => match k with
  | 0 => .object "FarBanks$Row"
  | 1 => .object "FarBanks$Row"
  | 2 => .object "FarBanks$Row"
  | 3 => .object "FarBanks$Row"
  | _ => .object "FarBanks$Row"
abbrev wsX00 : List Cond := u_ws RX0 TX0 5
theorem nmX0 : ∀ a, a < 5 → ∀ b, b < 5 → a ≠ b → (TX0 a).2.1 ≠ (TX0 b).2.1 := by decide +kernel
theorem tyX0_ok : ∀ k, k < 5 → parseFieldDescriptor (TX0 k).2.2.1 = some (tyX0 k) := by decide +kernel
abbrev cX0_init : ByteArray := prog_2_method_1_code
def yX0_init : MethodName := ⟨RX0, "<init>", "()V"⟩
abbrev cX0_copyFrom : ByteArray := prog_2_method_2_code
def yX0_copyFrom : MethodName := ⟨RX0, "copyFrom", "(LFarBanks$Banks;)V"⟩
abbrev cX0_numberIn : ByteArray := prog_2_method_3_code
def yX0_numberIn : MethodName := ⟨RX0, "numberIn", "(II)I"⟩
abbrev cX0_fill : ByteArray := prog_2_method_4_code
def yX0_fill : MethodName := ⟨RX0, "fill", "(III)V"⟩
abbrev cX0_bankAt : ByteArray := prog_2_method_5_code
def yX0_bankAt : MethodName := ⟨RX0, "bankAt", "(I)I"⟩
abbrev cX0_numberAt : ByteArray := prog_2_method_6_code
def yX0_numberAt : MethodName := ⟨RX0, "numberAt", "(I)I"⟩
abbrev cX0_storeUnlessAlone : ByteArray := prog_2_method_7_code
def yX0_storeUnlessAlone : MethodName := ⟨RX0, "storeUnlessAlone", "(II)Z"⟩
abbrev cX0_isAlone : ByteArray := prog_2_method_8_code
def yX0_isAlone : MethodName := ⟨RX0, "isAlone", "(I)Z"⟩
abbrev cX0_differencesOf : ByteArray := prog_2_method_9_code
def yX0_differencesOf : MethodName := ⟨RX0, "differencesOf", "(II)I"⟩
abbrev cX0_copyCells : ByteArray := prog_2_method_10_code
def yX0_copyCells : MethodName := ⟨RX0, "copyCells", "(II)V"⟩
abbrev cX0_twinOf : ByteArray := prog_2_method_11_code
def yX0_twinOf : MethodName := ⟨RX0, "twinOf", "(I)I"⟩
abbrev cX0_windowsOf : ByteArray := prog_2_method_12_code
def yX0_windowsOf : MethodName := ⟨RX0, "windowsOf", "(I)I"⟩
abbrev cX0_usedCellsOf : ByteArray := prog_2_method_13_code
def yX0_usedCellsOf : MethodName := ⟨RX0, "usedCellsOf", "(I)I"⟩
abbrev cX0_indexOf : ByteArray := prog_2_method_14_code
def yX0_indexOf : MethodName := ⟨RX0, "indexOf", "(II)I"⟩
def RX1 : String := "FarBanks$Code"
def TX1 : u_T := fun k => match k with
  | 0 => ("FarBanks$Code", "orders", "LFarBanks$Row;", true)
  | 1 => ("FarBanks$Code", "size", "I", false)
  | 2 => ("FarBanks$Code", "position", "I", false)
  | _ => ("FarBanks$Code", "isSound", "Z", false)
def tyX1 : Nat → FieldType := fun k => match k with
  | 0 => .object "FarBanks$Row"
  | 1 => .int
  | 2 => .int
  | _ => .boolean
abbrev wsX10 : List Cond := u_ws RX1 TX1 4
theorem nmX1 : ∀ a, a < 4 → ∀ b, b < 4 → a ≠ b → (TX1 a).2.1 ≠ (TX1 b).2.1 := by decide +kernel
theorem tyX1_ok : ∀ k, k < 4 → parseFieldDescriptor (TX1 k).2.2.1 = some (tyX1 k) := by decide +kernel
abbrev cX1_init : ByteArray := prog_3_method_1_code
def yX1_init : MethodName := ⟨RX1, "<init>", "()V"⟩
abbrev cX1_readFrom : ByteArray := prog_3_method_2_code
def yX1_readFrom : MethodName := ⟨RX1, "readFrom", "(LFarBanks$Text;)V"⟩
abbrev cX1_readOrder : ByteArray := prog_3_method_3_code
def yX1_readOrder : MethodName := ⟨RX1, "readOrder", "(LFarBanks$Text;)I"⟩
abbrev cX1_readKind : ByteArray := prog_3_method_4_code
def yX1_readKind : MethodName := ⟨RX1, "readKind", "(LFarBanks$Text;)I"⟩
abbrev cX1_lengthOfBeginning : ByteArray := prog_3_method_5_code
def yX1_lengthOfBeginning : MethodName := ⟨RX1, "lengthOfBeginning", "(LFarBanks$Text;Ljava/lang/String;)I"⟩
abbrev cX1_readNumber : ByteArray := prog_3_method_6_code
def yX1_readNumber : MethodName := ⟨RX1, "readNumber", "(LFarBanks$Text;I)I"⟩
abbrev cX1_digitAt : ByteArray := prog_3_method_7_code
def yX1_digitAt : MethodName := ⟨RX1, "digitAt", "(LFarBanks$Text;I)I"⟩
abbrev cX1_mostFirst : ByteArray := prog_3_method_8_code
def yX1_mostFirst : MethodName := ⟨RX1, "mostFirst", "(I)I"⟩
abbrev cX1_mostSecond : ByteArray := prog_3_method_9_code
def yX1_mostSecond : MethodName := ⟨RX1, "mostSecond", "(I)I"⟩
abbrev cX1_wordOf : ByteArray := prog_3_method_10_code
def yX1_wordOf : MethodName := ⟨RX1, "wordOf", "(I)Ljava/lang/String;"⟩
def RX2 : String := "FarBanks$Frames"
def TX2 : u_T := fun k => match k with
  | 0 => ("FarBanks$Frames", "parts", "LFarBanks$Row;", true)
  | _ => ("FarBanks$Frames", "size", "I", false)
def tyX2 : Nat → FieldType := fun k => match k with
  | 0 => .object "FarBanks$Row"
  | _ => .int
abbrev wsX20 : List Cond := u_ws RX2 TX2 2
theorem nmX2 : ∀ a, a < 2 → ∀ b, b < 2 → a ≠ b → (TX2 a).2.1 ≠ (TX2 b).2.1 := by decide +kernel
theorem tyX2_ok : ∀ k, k < 2 → parseFieldDescriptor (TX2 k).2.2.1 = some (tyX2 k) := by decide +kernel
abbrev cX2_init : ByteArray := prog_4_method_1_code
def yX2_init : MethodName := ⟨RX2, "<init>", "()V"⟩
abbrev cX2_copyFrom : ByteArray := prog_4_method_2_code
def yX2_copyFrom : MethodName := ⟨RX2, "copyFrom", "(LFarBanks$Frames;)V"⟩
abbrev cX2_add : ByteArray := prog_4_method_3_code
def yX2_add : MethodName := ⟨RX2, "add", "(III)V"⟩
abbrev cX2_tell : ByteArray := prog_4_method_4_code
def yX2_tell : MethodName := ⟨RX2, "tell", "(II)I"⟩
abbrev cX2_howManyBackTo : ByteArray := prog_4_method_5_code
def yX2_howManyBackTo : MethodName := ⟨RX2, "howManyBackTo", "(I)I"⟩
def RX3 : String := "FarBanks$History"
def TX3 : u_T := fun k => match k with
  | 0 => ("FarBanks$History", "states", "[LFarBanks$Machine;", true)
  | _ => ("FarBanks$History", "size", "I", false)
def tyX3 : Nat → FieldType := fun k => match k with
  | 0 => .array (.object "FarBanks$Machine")
  | _ => .int
abbrev wsX30 : List Cond := u_ws RX3 TX3 2
theorem nmX3 : ∀ a, a < 2 → ∀ b, b < 2 → a ≠ b → (TX3 a).2.1 ≠ (TX3 b).2.1 := by decide +kernel
theorem tyX3_ok : ∀ k, k < 2 → parseFieldDescriptor (TX3 k).2.2.1 = some (tyX3 k) := by decide +kernel
abbrev cX3_init : ByteArray := prog_5_method_1_code
def yX3_init : MethodName := ⟨RX3, "<init>", "()V"⟩
abbrev cX3_remember : ByteArray := prog_5_method_2_code
def yX3_remember : MethodName := ⟨RX3, "remember", "(LFarBanks$Machine;)V"⟩
abbrev cX3_bringBack : ByteArray := prog_5_method_3_code
def yX3_bringBack : MethodName := ⟨RX3, "bringBack", "(LFarBanks$Machine;)V"⟩
abbrev cX3_dropOldest : ByteArray := prog_5_method_4_code
def yX3_dropOldest : MethodName := ⟨RX3, "dropOldest", "()V"⟩
def RX4 : String := "FarBanks$Machine"
def TX4 : u_T := fun k => match k with
  | 0 => ("FarBanks$Machine", "banks", "LFarBanks$Banks;", true)
  | 1 => ("FarBanks$Machine", "frames", "LFarBanks$Frames;", true)
  | 2 => ("FarBanks$Machine", "trail", "LFarBanks$Trail;", true)
  | 3 => ("FarBanks$Machine", "number", "I", false)
  | 4 => ("FarBanks$Machine", "place", "I", false)
  | 5 => ("FarBanks$Machine", "reason", "I", false)
  | 6 => ("FarBanks$Machine", "strict", "I", false)
  | _ => ("FarBanks$Machine", "calls", "I", false)
def tyX4 : Nat → FieldType := fun k => match k with
  | 0 => .object "FarBanks$Banks"
  | 1 => .object "FarBanks$Frames"
  | 2 => .object "FarBanks$Trail"
  | 3 => .int
  | 4 => .int
  | 5 => .int
  | 6 => .int
  | _ => .int
abbrev wsX40 : List Cond := u_ws RX4 TX4 8
theorem nmX4 : ∀ a, a < 8 → ∀ b, b < 8 → a ≠ b → (TX4 a).2.1 ≠ (TX4 b).2.1 := by decide +kernel
theorem tyX4_ok : ∀ k, k < 8 → parseFieldDescriptor (TX4 k).2.2.1 = some (tyX4 k) := by decide +kernel
abbrev cX4_init : ByteArray := prog_6_method_1_code
def yX4_init : MethodName := ⟨RX4, "<init>", "()V"⟩
abbrev cX4_copyFrom : ByteArray := prog_6_method_2_code
def yX4_copyFrom : MethodName := ⟨RX4, "copyFrom", "(LFarBanks$Machine;)V"⟩
abbrev cX4_startAt : ByteArray := prog_6_method_3_code
def yX4_startAt : MethodName := ⟨RX4, "startAt", "(I)V"⟩
abbrev cX4_takeSteps : ByteArray := prog_6_method_4_code
def yX4_takeSteps : MethodName := ⟨RX4, "takeSteps", "(I)I"⟩
abbrev cX4_step : ByteArray := prog_6_method_5_code
def yX4_step : MethodName := ⟨RX4, "step", "()V"⟩
abbrev cX4_hindranceOf : ByteArray := prog_6_method_6_code
def yX4_hindranceOf : MethodName := ⟨RX4, "hindranceOf", "(II)I"⟩
abbrev cX4_isBeyond : ByteArray := prog_6_method_7_code
def yX4_isBeyond : MethodName := ⟨RX4, "isBeyond", "(II)Z"⟩
abbrev cX4_carryOut : ByteArray := prog_6_method_8_code
def yX4_carryOut : MethodName := ⟨RX4, "carryOut", "(III)V"⟩
abbrev cX4_increase : ByteArray := prog_6_method_9_code
def yX4_increase : MethodName := ⟨RX4, "increase", "(I)V"⟩
abbrev cX4_callFrom : ByteArray := prog_6_method_10_code
def yX4_callFrom : MethodName := ⟨RX4, "callFrom", "(II)V"⟩
abbrev cX4_comeBack : ByteArray := prog_6_method_11_code
def yX4_comeBack : MethodName := ⟨RX4, "comeBack", "()V"⟩
def RX5 : String := "FarBanks$Row"
def TX5 : u_T := fun k => match k with
  | _ => ("FarBanks$Row", "numbers", "[I", true)
def tyX5 : Nat → FieldType := fun k => match k with
  | _ => .array .int
abbrev wsX50 : List Cond := u_ws RX5 TX5 1
theorem nmX5 : ∀ a, a < 1 → ∀ b, b < 1 → a ≠ b → (TX5 a).2.1 ≠ (TX5 b).2.1 := by decide +kernel
theorem tyX5_ok : ∀ k, k < 1 → parseFieldDescriptor (TX5 k).2.2.1 = some (tyX5 k) := by decide +kernel
abbrev cX5_init : ByteArray := prog_7_method_1_code
def yX5_init : MethodName := ⟨RX5, "<init>", "(I)V"⟩
abbrev cX5_read : ByteArray := prog_7_method_2_code
def yX5_read : MethodName := ⟨RX5, "read", "(I)I"⟩
abbrev cX5_write : ByteArray := prog_7_method_3_code
def yX5_write : MethodName := ⟨RX5, "write", "(II)V"⟩
abbrev cX5_sum : ByteArray := prog_7_method_4_code
def yX5_sum : MethodName := ⟨RX5, "sum", "()I"⟩
abbrev cX5_differencesTo : ByteArray := prog_7_method_5_code
def yX5_differencesTo : MethodName := ⟨RX5, "differencesTo", "(LFarBanks$Row;)I"⟩
abbrev cX5_copyFrom : ByteArray := prog_7_method_6_code
def yX5_copyFrom : MethodName := ⟨RX5, "copyFrom", "(LFarBanks$Row;)V"⟩
def RX6 : String := "FarBanks$Text"
def TX6 : u_T := fun k => match k with
  | 0 => ("FarBanks$Text", "characters", "[C", true)
  | _ => ("FarBanks$Text", "length", "I", false)
def tyX6 : Nat → FieldType := fun k => match k with
  | 0 => .array .char
  | _ => .int
abbrev wsX60 : List Cond := u_ws RX6 TX6 2
theorem nmX6 : ∀ a, a < 2 → ∀ b, b < 2 → a ≠ b → (TX6 a).2.1 ≠ (TX6 b).2.1 := by decide +kernel
theorem tyX6_ok : ∀ k, k < 2 → parseFieldDescriptor (TX6 k).2.2.1 = some (tyX6 k) := by decide +kernel
abbrev cX6_init : ByteArray := prog_8_method_1_code
def yX6_init : MethodName := ⟨RX6, "<init>", "()V"⟩
abbrev cX6_isFull : ByteArray := prog_8_method_2_code
def yX6_isFull : MethodName := ⟨RX6, "isFull", "()Z"⟩
abbrev cX6_append : ByteArray := prog_8_method_3_code
def yX6_append : MethodName := ⟨RX6, "append", "(C)V"⟩
abbrev cX6_at : ByteArray := prog_8_method_4_code
def yX6_at : MethodName := ⟨RX6, "at", "(I)I"⟩
def RX7 : String := "FarBanks$Trail"
def TX7 : u_T := fun k => match k with
  | 0 => ("FarBanks$Trail", "parts", "LFarBanks$Row;", true)
  | _ => ("FarBanks$Trail", "total", "I", false)
def tyX7 : Nat → FieldType := fun k => match k with
  | 0 => .object "FarBanks$Row"
  | _ => .int
abbrev wsX70 : List Cond := u_ws RX7 TX7 2
theorem nmX7 : ∀ a, a < 2 → ∀ b, b < 2 → a ≠ b → (TX7 a).2.1 ≠ (TX7 b).2.1 := by decide +kernel
theorem tyX7_ok : ∀ k, k < 2 → parseFieldDescriptor (TX7 k).2.2.1 = some (tyX7 k) := by decide +kernel
abbrev cX7_init : ByteArray := prog_9_method_1_code
def yX7_init : MethodName := ⟨RX7, "<init>", "()V"⟩
abbrev cX7_copyFrom : ByteArray := prog_9_method_2_code
def yX7_copyFrom : MethodName := ⟨RX7, "copyFrom", "(LFarBanks$Trail;)V"⟩
abbrev cX7_add : ByteArray := prog_9_method_3_code
def yX7_add : MethodName := ⟨RX7, "add", "(III)V"⟩
abbrev cX7_tell : ByteArray := prog_9_method_4_code
def yX7_tell : MethodName := ⟨RX7, "tell", "(II)I"⟩
def RX8 : String := "FarBanks"
def TX8 : u_T := fun k => match k with
  | 0 => ("FarBanks", "now", "LFarBanks$Machine;", true)
  | 1 => ("FarBanks", "trial", "LFarBanks$Machine;", true)
  | 2 => ("FarBanks", "snapshot", "LFarBanks$Machine;", true)
  | 3 => ("FarBanks", "history", "LFarBanks$History;", true)
  | 4 => ("FarBanks", "text", "LFarBanks$Text;", true)
  | 5 => ("FarBanks", "code", "LFarBanks$Code;", true)
  | _ => ("FarBanks", "hasSnapshot", "Z", false)
def tyX8 : Nat → FieldType := fun k => match k with
  | 0 => .object "FarBanks$Machine"
  | 1 => .object "FarBanks$Machine"
  | 2 => .object "FarBanks$Machine"
  | 3 => .object "FarBanks$History"
  | 4 => .object "FarBanks$Text"
  | 5 => .object "FarBanks$Code"
  | _ => .boolean
abbrev wsX80 : List Cond := u_ws RX8 TX8 7
theorem nmX8 : ∀ a, a < 7 → ∀ b, b < 7 → a ≠ b → (TX8 a).2.1 ≠ (TX8 b).2.1 := by decide +kernel
theorem tyX8_ok : ∀ k, k < 7 → parseFieldDescriptor (TX8 k).2.2.1 = some (tyX8 k) := by decide +kernel
abbrev cX8_init : ByteArray := prog_1_method_1_code
def yX8_init : MethodName := ⟨RX8, "<init>", "()V"⟩
abbrev cX8_put : ByteArray := prog_1_method_2_code
def yX8_put : MethodName := ⟨RX8, "put", "(III)I"⟩
abbrev cX8_lock : ByteArray := prog_1_method_3_code
def yX8_lock : MethodName := ⟨RX8, "lock", "(IZ)I"⟩
abbrev cX8_show : ByteArray := prog_1_method_4_code
def yX8_show : MethodName := ⟨RX8, "show", "(II)I"⟩
abbrev cX8_copyBank : ByteArray := prog_1_method_5_code
def yX8_copyBank : MethodName := ⟨RX8, "copyBank", "(II)I"⟩
abbrev cX8_set : ByteArray := prog_1_method_6_code
def yX8_set : MethodName := ⟨RX8, "set", "(I)I"⟩
abbrev cX8_begin : ByteArray := prog_1_method_7_code
def yX8_begin : MethodName := ⟨RX8, "begin", "(I)I"⟩
abbrev cX8_run : ByteArray := prog_1_method_8_code
def yX8_run : MethodName := ⟨RX8, "run", "(I)I"⟩
abbrev cX8_type : ByteArray := prog_1_method_9_code
def yX8_type : MethodName := ⟨RX8, "type", "(C)I"⟩
abbrev cX8_clearText : ByteArray := prog_1_method_10_code
def yX8_clearText : MethodName := ⟨RX8, "clearText", "()I"⟩
abbrev cX8_assemble : ByteArray := prog_1_method_11_code
def yX8_assemble : MethodName := ⟨RX8, "assemble", "(II)I"⟩
abbrev cX8_undo : ByteArray := prog_1_method_12_code
def yX8_undo : MethodName := ⟨RX8, "undo", "()I"⟩
abbrev cX8_keep : ByteArray := prog_1_method_13_code
def yX8_keep : MethodName := ⟨RX8, "keep", "()I"⟩
abbrev cX8_restore : ByteArray := prog_1_method_14_code
def yX8_restore : MethodName := ⟨RX8, "restore", "()I"⟩
abbrev cX8_cell : ByteArray := prog_1_method_15_code
def yX8_cell : MethodName := ⟨RX8, "cell", "(II)I"⟩
abbrev cX8_address : ByteArray := prog_1_method_16_code
def yX8_address : MethodName := ⟨RX8, "address", "(II)I"⟩
abbrev cX8_bank : ByteArray := prog_1_method_17_code
def yX8_bank : MethodName := ⟨RX8, "bank", "(II)I"⟩
abbrev cX8_window : ByteArray := prog_1_method_18_code
def yX8_window : MethodName := ⟨RX8, "window", "(I)I"⟩
abbrev cX8_frame : ByteArray := prog_1_method_19_code
def yX8_frame : MethodName := ⟨RX8, "frame", "(II)I"⟩
abbrev cX8_latest : ByteArray := prog_1_method_20_code
def yX8_latest : MethodName := ⟨RX8, "latest", "(II)I"⟩
abbrev cX8_next : ByteArray := prog_1_method_21_code
def yX8_next : MethodName := ⟨RX8, "next", "(I)I"⟩
abbrev cX8_ifRun : ByteArray := prog_1_method_22_code
def yX8_ifRun : MethodName := ⟨RX8, "ifRun", "(II)I"⟩
abbrev cX8_backIn : ByteArray := prog_1_method_23_code
def yX8_backIn : MethodName := ⟨RX8, "backIn", "()I"⟩
abbrev cX8_count : ByteArray := prog_1_method_24_code
def yX8_count : MethodName := ⟨RX8, "count", "(I)I"⟩
abbrev cX8_isBelow : ByteArray := prog_1_method_25_code
def yX8_isBelow : MethodName := ⟨RX8, "isBelow", "(II)Z"⟩
abbrev cX8_isStepsOfRun : ByteArray := prog_1_method_26_code
def yX8_isStepsOfRun : MethodName := ⟨RX8, "isStepsOfRun", "(I)Z"⟩
def RX9 : String := "FarBanksModel"
def TX9 : u_T := fun k => match k with
  | 0 => ("FarBanksModel", "z", "[I", true)
  | 1 => ("FarBanksModel", "aside", "[I", true)
  | 2 => ("FarBanksModel", "old", "[I", true)
  | 3 => ("FarBanksModel", "states", "I", false)
  | 4 => ("FarBanksModel", "kept", "[I", true)
  | 5 => ("FarBanksModel", "isKept", "Z", false)
  | 6 => ("FarBanksModel", "text", "[I", true)
  | 7 => ("FarBanksModel", "length", "I", false)
  | 8 => ("FarBanksModel", "place", "I", false)
  | 9 => ("FarBanksModel", "isWrong", "Z", false)
  | 10 => ("FarBanksModel", "orders", "[I", true)
  | _ => ("FarBanksModel", "many", "I", false)
def tyX9 : Nat → FieldType := fun k => match k with
  | 0 => .array .int
  | 1 => .array .int
  | 2 => .array .int
  | 3 => .int
  | 4 => .array .int
  | 5 => .boolean
  | 6 => .array .int
  | 7 => .int
  | 8 => .int
  | 9 => .boolean
  | 10 => .array .int
  | _ => .int
abbrev wsX90 : List Cond := u_ws RX9 TX9 12
theorem nmX9 : ∀ a, a < 12 → ∀ b, b < 12 → a ≠ b → (TX9 a).2.1 ≠ (TX9 b).2.1 := by decide +kernel
theorem tyX9_ok : ∀ k, k < 12 → parseFieldDescriptor (TX9 k).2.2.1 = some (tyX9 k) := by decide +kernel
abbrev cX9_init : ByteArray := prog_11_method_1_code
def yX9_init : MethodName := ⟨RX9, "<init>", "()V"⟩
abbrev cX9_in : ByteArray := prog_11_method_3_code
def yX9_in : MethodName := ⟨RX9, "in", "(III)Z"⟩
abbrev cX9_isBank : ByteArray := prog_11_method_4_code
def yX9_isBank : MethodName := ⟨RX9, "isBank", "(I)Z"⟩
abbrev cX9_isCell : ByteArray := prog_11_method_5_code
def yX9_isCell : MethodName := ⟨RX9, "isCell", "(I)Z"⟩
abbrev cX9_isWindow : ByteArray := prog_11_method_6_code
def yX9_isWindow : MethodName := ⟨RX9, "isWindow", "(I)Z"⟩
abbrev cX9_isAddress : ByteArray := prog_11_method_7_code
def yX9_isAddress : MethodName := ⟨RX9, "isAddress", "(I)Z"⟩
abbrev cX9_index : ByteArray := prog_11_method_8_code
def yX9_index : MethodName := ⟨RX9, "index", "(II)I"⟩
abbrev cX9_bankAt : ByteArray := prog_11_method_9_code
def yX9_bankAt : MethodName := ⟨RX9, "bankAt", "(I)I"⟩
abbrev cX9_indexAt : ByteArray := prog_11_method_10_code
def yX9_indexAt : MethodName := ⟨RX9, "indexAt", "(I)I"⟩
abbrev cX9_record : ByteArray := prog_11_method_11_code
def yX9_record : MethodName := ⟨RX9, "record", "()V"⟩
abbrev cX9_undo : ByteArray := prog_11_method_12_code
def yX9_undo : MethodName := ⟨RX9, "undo", "()I"⟩
abbrev cX9_keep : ByteArray := prog_11_method_13_code
def yX9_keep : MethodName := ⟨RX9, "keep", "()I"⟩
abbrev cX9_restore : ByteArray := prog_11_method_14_code
def yX9_restore : MethodName := ⟨RX9, "restore", "()I"⟩
abbrev cX9_putAside : ByteArray := prog_11_method_15_code
def yX9_putAside : MethodName := ⟨RX9, "putAside", "()V"⟩
abbrev cX9_putBack : ByteArray := prog_11_method_16_code
def yX9_putBack : MethodName := ⟨RX9, "putBack", "()V"⟩
abbrev cX9_change : ByteArray := prog_11_method_17_code
def yX9_change : MethodName := ⟨RX9, "change", "(II)I"⟩
abbrev cX9_put : ByteArray := prog_11_method_18_code
def yX9_put : MethodName := ⟨RX9, "put", "(III)I"⟩
abbrev cX9_locked : ByteArray := prog_11_method_19_code
def yX9_locked : MethodName := ⟨RX9, "locked", "()I"⟩
abbrev cX9_lock : ByteArray := prog_11_method_20_code
def yX9_lock : MethodName := ⟨RX9, "lock", "(IZ)I"⟩
abbrev cX9_show : ByteArray := prog_11_method_21_code
def yX9_show : MethodName := ⟨RX9, "show", "(II)I"⟩
abbrev cX9_copyBank : ByteArray := prog_11_method_22_code
def yX9_copyBank : MethodName := ⟨RX9, "copyBank", "(II)I"⟩
abbrev cX9_set : ByteArray := prog_11_method_23_code
def yX9_set : MethodName := ⟨RX9, "set", "(I)I"⟩
abbrev cX9_begin : ByteArray := prog_11_method_24_code
def yX9_begin : MethodName := ⟨RX9, "begin", "(I)I"⟩
abbrev cX9_sum : ByteArray := prog_11_method_25_code
def yX9_sum : MethodName := ⟨RX9, "sum", "(II)I"⟩
abbrev cX9_whyNot : ByteArray := prog_11_method_26_code
def yX9_whyNot : MethodName := ⟨RX9, "whyNot", "(II)I"⟩
abbrev cX9_write : ByteArray := prog_11_method_27_code
def yX9_write : MethodName := ⟨RX9, "write", "(I)V"⟩
abbrev cX9_call : ByteArray := prog_11_method_28_code
def yX9_call : MethodName := ⟨RX9, "call", "(II)V"⟩
abbrev cX9_back : ByteArray := prog_11_method_29_code
def yX9_back : MethodName := ⟨RX9, "back", "()V"⟩
abbrev cX9_order : ByteArray := prog_11_method_30_code
def yX9_order : MethodName := ⟨RX9, "order", "(III)V"⟩
abbrev cX9_keepStep : ByteArray := prog_11_method_31_code
def yX9_keepStep : MethodName := ⟨RX9, "keepStep", "(II)V"⟩
abbrev cX9_step : ByteArray := prog_11_method_32_code
def yX9_step : MethodName := ⟨RX9, "step", "()V"⟩
abbrev cX9_doRun : ByteArray := prog_11_method_33_code
def yX9_doRun : MethodName := ⟨RX9, "doRun", "(I)I"⟩
abbrev cX9_run : ByteArray := prog_11_method_34_code
def yX9_run : MethodName := ⟨RX9, "run", "(I)I"⟩
abbrev cX9_type : ByteArray := prog_11_method_35_code
def yX9_type : MethodName := ⟨RX9, "type", "(C)I"⟩
abbrev cX9_clearText : ByteArray := prog_11_method_36_code
def yX9_clearText : MethodName := ⟨RX9, "clearText", "()I"⟩
abbrev cX9_sign : ByteArray := prog_11_method_37_code
def yX9_sign : MethodName := ⟨RX9, "sign", "()I"⟩
abbrev cX9_take : ByteArray := prog_11_method_38_code
def yX9_take : MethodName := ⟨RX9, "take", "(Z)V"⟩
abbrev cX9_takeRest : ByteArray := prog_11_method_39_code
def yX9_takeRest : MethodName := ⟨RX9, "takeRest", "(IIII)V"⟩
abbrev cX9_takeNumber : ByteArray := prog_11_method_40_code
def yX9_takeNumber : MethodName := ⟨RX9, "takeNumber", "(I)I"⟩
abbrev cX9_takeOrder : ByteArray := prog_11_method_41_code
def yX9_takeOrder : MethodName := ⟨RX9, "takeOrder", "()I"⟩
abbrev cX9_findFault : ByteArray := prog_11_method_42_code
def yX9_findFault : MethodName := ⟨RX9, "findFault", "()I"⟩
abbrev cX9_assemble : ByteArray := prog_11_method_43_code
def yX9_assemble : MethodName := ⟨RX9, "assemble", "(II)I"⟩
abbrev cX9_cell : ByteArray := prog_11_method_44_code
def yX9_cell : MethodName := ⟨RX9, "cell", "(II)I"⟩
abbrev cX9_sameAs : ByteArray := prog_11_method_45_code
def yX9_sameAs : MethodName := ⟨RX9, "sameAs", "(I)I"⟩
abbrev cX9_address : ByteArray := prog_11_method_46_code
def yX9_address : MethodName := ⟨RX9, "address", "(II)I"⟩
abbrev cX9_windowsOf : ByteArray := prog_11_method_47_code
def yX9_windowsOf : MethodName := ⟨RX9, "windowsOf", "(I)I"⟩
abbrev cX9_filled : ByteArray := prog_11_method_48_code
def yX9_filled : MethodName := ⟨RX9, "filled", "(I)I"⟩
abbrev cX9_framesTo : ByteArray := prog_11_method_49_code
def yX9_framesTo : MethodName := ⟨RX9, "framesTo", "(I)I"⟩
abbrev cX9_bank : ByteArray := prog_11_method_50_code
def yX9_bank : MethodName := ⟨RX9, "bank", "(II)I"⟩
abbrev cX9_window : ByteArray := prog_11_method_51_code
def yX9_window : MethodName := ⟨RX9, "window", "(I)I"⟩
abbrev cX9_frame : ByteArray := prog_11_method_52_code
def yX9_frame : MethodName := ⟨RX9, "frame", "(II)I"⟩
abbrev cX9_latest : ByteArray := prog_11_method_53_code
def yX9_latest : MethodName := ⟨RX9, "latest", "(II)I"⟩
abbrev cX9_next : ByteArray := prog_11_method_54_code
def yX9_next : MethodName := ⟨RX9, "next", "(I)I"⟩
abbrev cX9_unlikeCells : ByteArray := prog_11_method_55_code
def yX9_unlikeCells : MethodName := ⟨RX9, "unlikeCells", "()I"⟩
abbrev cX9_ifRun : ByteArray := prog_11_method_56_code
def yX9_ifRun : MethodName := ⟨RX9, "ifRun", "(II)I"⟩
abbrev cX9_backIn : ByteArray := prog_11_method_57_code
def yX9_backIn : MethodName := ⟨RX9, "backIn", "()I"⟩
abbrev cX9_count : ByteArray := prog_11_method_58_code
def yX9_count : MethodName := ⟨RX9, "count", "(I)I"⟩
def RJ9 : String := "java/lang/Math"
def TJ9 : u_T := fun k => match k with
  | _ => ("", "", "", false)
def tyJ9 : Nat → FieldType := fun k => match k with
  | _ => .int
abbrev wsJ90 : List Cond := u_ws RJ9 TJ9 0
theorem nmJ9 : ∀ a, a < 0 → ∀ b, b < 0 → a ≠ b → (TJ9 a).2.1 ≠ (TJ9 b).2.1 := by decide +kernel
theorem tyJ9_ok : ∀ k, k < 0 → parseFieldDescriptor (TJ9 k).2.2.1 = some (tyJ9 k) := by decide +kernel
abbrev cJ9_max_7cf53 : ByteArray := prog_12_method_65_code
def yJ9_max_7cf53 : MethodName := ⟨RJ9, "max", "(II)I"⟩
abbrev cJ9_min_7cf53 : ByteArray := prog_12_method_69_code
def yJ9_min_7cf53 : MethodName := ⟨RJ9, "min", "(II)I"⟩
def RJ0 : String := "java/lang/String"
def TJ0 : u_T := fun k => match k with
  | _ => ("", "", "", false)
def tyJ0 : Nat → FieldType := fun k => match k with
  | _ => .int
abbrev wsJ00 : List Cond := u_ws RJ0 TJ0 0
theorem nmJ0 : ∀ a, a < 0 → ∀ b, b < 0 → a ≠ b → (TJ0 a).2.1 ≠ (TJ0 b).2.1 := by decide +kernel
theorem tyJ0_ok : ∀ k, k < 0 → parseFieldDescriptor (TJ0 k).2.2.1 = some (tyJ0 k) := by decide +kernel
abbrev cJ0_length_8abf5 : ByteArray := prog_13_method_54_code
def yJ0_length_8abf5 : MethodName := ⟨RJ0, "length", "()I"⟩
abbrev cJ0_charAt_5068e : ByteArray := prog_13_method_56_code
def yJ0_charAt_5068e : MethodName := ⟨RJ0, "charAt", "(I)C"⟩
abbrev cJ0_coder_7d493 : ByteArray := prog_13_method_152_code
def yJ0_coder_7d493 : MethodName := ⟨RJ0, "coder", "()B"⟩
abbrev cJ0_isLatin1_aae02 : ByteArray := prog_13_method_154_code
def yJ0_isLatin1_aae02 : MethodName := ⟨RJ0, "isLatin1", "()Z"⟩
abbrev cJ0_checkIndex_df160 : ByteArray := prog_13_method_155_code
def yJ0_checkIndex_df160 : MethodName := ⟨RJ0, "checkIndex", "(II)V"⟩
def RJ1 : String := "java/lang/StringLatin1"
def TJ1 : u_T := fun k => match k with
  | _ => ("", "", "", false)
def tyJ1 : Nat → FieldType := fun k => match k with
  | _ => .int
abbrev wsJ10 : List Cond := u_ws RJ1 TJ1 0
theorem nmJ1 : ∀ a, a < 0 → ∀ b, b < 0 → a ≠ b → (TJ1 a).2.1 ≠ (TJ1 b).2.1 := by decide +kernel
theorem tyJ1_ok : ∀ k, k < 0 → parseFieldDescriptor (TJ1 k).2.2.1 = some (tyJ1 k) := by decide +kernel
abbrev cJ1_charAt_3b067 : ByteArray := prog_14_method_2_code
def yJ1_charAt_3b067 : MethodName := ⟨RJ1, "charAt", "([BI)C"⟩
def RJ2 : String := "java/lang/StringUTF16"
def TJ2 : u_T := fun k => match k with
  | _ => ("", "", "", false)
def tyJ2 : Nat → FieldType := fun k => match k with
  | _ => .int
abbrev wsJ20 : List Cond := u_ws RJ2 TJ2 0
theorem nmJ2 : ∀ a, a < 0 → ∀ b, b < 0 → a ≠ b → (TJ2 a).2.1 ≠ (TJ2 b).2.1 := by decide +kernel
theorem tyJ2_ok : ∀ k, k < 0 → parseFieldDescriptor (TJ2 k).2.2.1 = some (tyJ2 k) := by decide +kernel
abbrev cJ2_getChar_3b067 : ByteArray := prog_15_method_5_code
def yJ2_getChar_3b067 : MethodName := ⟨RJ2, "getChar", "([BI)C"⟩
abbrev cJ2_length_9d52b : ByteArray := prog_15_method_6_code
def yJ2_length_9d52b : MethodName := ⟨RJ2, "length", "([B)I"⟩
abbrev cJ2_charAt_3b067 : ByteArray := prog_15_method_83_code
def yJ2_charAt_3b067 : MethodName := ⟨RJ2, "charAt", "([BI)C"⟩
abbrev cJ2_checkIndex_2214a : ByteArray := prog_15_method_91_code
def yJ2_checkIndex_2214a : MethodName := ⟨RJ2, "checkIndex", "(I[B)V"⟩
def RJ10 : String := "java/lang/System"
def TJ10 : u_T := fun k => match k with
  | _ => ("", "", "", false)
def tyJ10 : Nat → FieldType := fun k => match k with
  | _ => .int
abbrev wsJ100 : List Cond := u_ws RJ10 TJ10 0
theorem nmJ10 : ∀ a, a < 0 → ∀ b, b < 0 → a ≠ b → (TJ10 a).2.1 ≠ (TJ10 b).2.1 := by decide +kernel
theorem tyJ10_ok : ∀ k, k < 0 → parseFieldDescriptor (TJ10 k).2.2.1 = some (tyJ10 k) := by decide +kernel
def RJ3 : String := "jdk/internal/util/Preconditions"
def TJ3 : u_T := fun k => match k with
  | _ => ("", "", "", false)
def tyJ3 : Nat → FieldType := fun k => match k with
  | _ => .int
abbrev wsJ30 : List Cond := u_ws RJ3 TJ3 0
theorem nmJ3 : ∀ a, a < 0 → ∀ b, b < 0 → a ≠ b → (TJ3 a).2.1 ≠ (TJ3 b).2.1 := by decide +kernel
theorem tyJ3_ok : ∀ k, k < 0 → parseFieldDescriptor (TJ3 k).2.2.1 = some (tyJ3 k) := by decide +kernel
abbrev cJ3_checkIndex_8e157 : ByteArray := prog_17_method_11_code
def yJ3_checkIndex_8e157 : MethodName := ⟨RJ3, "checkIndex", "(IILjava/util/function/BiFunction;)I"⟩
def RL : String := "FarBanksLaw"
abbrev cL_law : ByteArray := code
def yL_law : MethodName := ⟨RL, "law", "([I)Z"⟩
abbrev vwCl : List vw_C := [(RX0, TX0, 5), (RX1, TX1, 4), (RX2, TX2, 2), (RX3, TX3, 2), (RX4, TX4, 8), (RX5, TX5, 1), (RX6, TX6, 2), (RX7, TX7, 2), (RX8, TX8, 7), (RX9, TX9, 12)]
end
section
/-! ===== the words: those of the tables that stay, by their places ===== -/
def wA : List Cond := lw_tbl.filter goodWord
theorem in_wA {w : Cond} (h : w ∈ lw_tbl) (g : goodWord w = true) : w ∈ wA := List.mem_filter.mpr ⟨h, g⟩
theorem wA_tbl : ∀ w ∈ wA, w ∈ lw_tbl := fun _ h => (List.mem_filter.mp h).1
theorem wA_good : GoodIn wA wA := fun w h => ⟨h, good_of_word (List.mem_filter.mp h).2⟩
theorem tb1 {w : Cond} (i : Nat) (h : tables_1_1[i]? = some w) : w ∈ lw_tbl := List.mem_append_right _ (List.mem_append_left _ (List.mem_of_getElem? h))
theorem tb2 {w : Cond} (i : Nat) (h : tables_1_2[i]? = some w) : w ∈ lw_tbl := List.mem_append_right _ (List.mem_append_right _ (List.mem_append_left _ (List.mem_of_getElem? h)))
theorem tb3 {w : Cond} (i : Nat) (h : tables_1_3[i]? = some w) : w ∈ lw_tbl := List.mem_append_right _ (List.mem_append_right _ (List.mem_append_right _ (List.mem_append_left _ (List.mem_of_getElem? h))))
theorem tb4 {w : Cond} (i : Nat) (h : tables_1_4[i]? = some w) : w ∈ lw_tbl := List.mem_append_right _ (List.mem_append_right _ (List.mem_append_right _ (List.mem_append_right _ (List.mem_of_getElem? h))))
theorem tbp {q : MethodName × Nat} (h : q ∈ lw_privs) : Cond.selects q.1.cls q.1 q.1 ∈ lw_tbl := List.mem_append_left _ (List.mem_map.mpr ⟨q, h, rfl⟩)
theorem tp1 {q : MethodName × Nat} (i : Nat) (h : lw_privs_1[i]? = some q) : q ∈ lw_privs := List.mem_append_left _ (List.mem_of_getElem? h)
theorem tp2 {q : MethodName × Nat} (i : Nat) (h : lw_privs_2[i]? = some q) : q ∈ lw_privs := List.mem_append_right _ (List.mem_append_left _ (List.mem_of_getElem? h))
theorem tp3 {q : MethodName × Nat} (i : Nat) (h : lw_privs_3[i]? = some q) : q ∈ lw_privs := List.mem_append_right _ (List.mem_append_right _ (List.mem_of_getElem? h))
theorem in_L : (Cond.initialized RL) ∈ wA := in_wA (tb1 0 rfl) rfl
theorem in_X8 : (Cond.initialized RX8) ∈ wA := in_wA (tb1 1 rfl) rfl
theorem in_X4 : (Cond.initialized RX4) ∈ wA := in_wA (tb1 2 rfl) rfl
theorem in_X0 : (Cond.initialized RX0) ∈ wA := in_wA (tb1 3 rfl) rfl
theorem in_X5 : (Cond.initialized RX5) ∈ wA := in_wA (tb1 4 rfl) rfl
theorem in_J9 : (Cond.initialized RJ9) ∈ wA := in_wA (tb1 5 rfl) rfl
theorem in_X2 : (Cond.initialized RX2) ∈ wA := in_wA (tb1 6 rfl) rfl
theorem in_X7 : (Cond.initialized RX7) ∈ wA := in_wA (tb1 7 rfl) rfl
theorem in_X3 : (Cond.initialized RX3) ∈ wA := in_wA (tb1 8 rfl) rfl
theorem in_X6 : (Cond.initialized RX6) ∈ wA := in_wA (tb1 9 rfl) rfl
theorem in_X1 : (Cond.initialized RX1) ∈ wA := in_wA (tb1 10 rfl) rfl
theorem in_X9 : (Cond.initialized RX9) ∈ wA := in_wA (tb1 11 rfl) rfl
theorem in_J10 : (Cond.initialized RJ10) ∈ wA := in_wA (tb1 12 rfl) rfl
theorem in_J0 : (Cond.initialized RJ0) ∈ wA := in_wA (tb1 13 rfl) rfl
theorem in_J1 : (Cond.initialized RJ1) ∈ wA := in_wA (tb1 14 rfl) rfl
theorem in_J3 : (Cond.initialized RJ3) ∈ wA := in_wA (tb1 15 rfl) rfl
theorem in_J2 : (Cond.initialized RJ2) ∈ wA := in_wA (tb1 16 rfl) rfl
theorem cl_L_7 : (Cond.classLink RL 7 RX8) ∈ wA := in_wA (tb1 17 rfl) rfl
theorem ib_X8 : (Cond.instantiable RX8 7) ∈ wA := in_wA (tb1 18 rfl) rfl
theorem ml_L_9 : (Cond.methodLink RL 9 yX8_init) ∈ wA := in_wA (tb1 19 rfl) rfl
theorem im_X8_init : (Cond.instanceMethod yX8_init) ∈ wA := in_wA (tb1 20 rfl) rfl
theorem co_X8_init : (Cond.code yX8_init cX8_init 1 none) ∈ wA := in_wA (tb1 21 rfl) rfl
theorem ml_X8_1 : (Cond.methodLink RX8 1 objectInit) ∈ wA := in_wA (tb1 22 rfl) rfl
theorem im_obj : (Cond.instanceMethod objectInit) ∈ wA := in_wA (tb1 23 rfl) rfl
theorem co_obj : (Cond.code objectInit ⟨#[0xb1]⟩ 1 none) ∈ wA := in_wA (tb1 24 rfl) rfl
theorem cl_X8_7 : (Cond.classLink RX8 7 RX4) ∈ wA := in_wA (tb1 25 rfl) rfl
theorem ib_X4 : (Cond.instantiable RX4 8) ∈ wA := in_wA (tb1 26 rfl) rfl
theorem im_X4_init : (Cond.instanceMethod yX4_init) ∈ wA := in_wA (tb1 28 rfl) rfl
theorem co_X4_init : (Cond.code yX4_init cX4_init 1 none) ∈ wA := in_wA (tb1 29 rfl) rfl
theorem ml_X4_3 : (Cond.methodLink RX4 3 objectInit) ∈ wA := in_wA (tb1 30 rfl) rfl
theorem cl_X4_9 : (Cond.classLink RX4 9 RX0) ∈ wA := in_wA (tb1 31 rfl) rfl
theorem ib_X0 : (Cond.instantiable RX0 5) ∈ wA := in_wA (tb1 32 rfl) rfl
theorem ml_X4_11 : (Cond.methodLink RX4 11 yX0_init) ∈ wA := in_wA (tb1 33 rfl) rfl
theorem im_X0_init : (Cond.instanceMethod yX0_init) ∈ wA := in_wA (tb1 34 rfl) rfl
theorem co_X0_init : (Cond.code yX0_init cX0_init 2 none) ∈ wA := in_wA (tb1 35 rfl) rfl
theorem ml_X0_3 : (Cond.methodLink RX0 3 objectInit) ∈ wA := in_wA (tb1 36 rfl) rfl
theorem cl_X0_9 : (Cond.classLink RX0 9 RX5) ∈ wA := in_wA (tb1 37 rfl) rfl
theorem ib_X5 : (Cond.instantiable RX5 1) ∈ wA := in_wA (tb1 38 rfl) rfl
theorem ml_X0_11 : (Cond.methodLink RX0 11 yX5_init) ∈ wA := in_wA (tb1 39 rfl) rfl
theorem im_X5_init : (Cond.instanceMethod yX5_init) ∈ wA := in_wA (tb1 40 rfl) rfl
theorem co_X5_init : (Cond.code yX5_init cX5_init 2 none) ∈ wA := in_wA (tb1 41 rfl) rfl
theorem ml_X5_1 : (Cond.methodLink RX5 1 objectInit) ∈ wA := in_wA (tb1 42 rfl) rfl
theorem ml_X5_7 : (Cond.methodLink RX5 7 Lib.Math.max.name) ∈ wA := in_wA (tb1 43 rfl) rfl
theorem st_max : (Cond.static Lib.Math.max.name) ∈ wA := in_wA (tb1 44 rfl) rfl
theorem co_max : (Cond.code Lib.Math.max.name Lib.Math.max.code 2 (some .int)) ∈ wA := in_wA (tb1 45 rfl) rfl
theorem fl_X5_13 : (Cond.fieldLink RX5 13 "FarBanks$Row" "numbers" "[I") ∈ wA := in_wA (tb1 46 rfl) rfl
theorem ac_int : (Cond.arrayClass .int) ∈ wA := in_wA (tb1 50 rfl) rfl
theorem ml_X0_32 : (Cond.methodLink RX0 32 yX5_write) ∈ wA := in_wA (tb1 51 rfl) rfl
theorem im_X5_write : (Cond.instanceMethod yX5_write) ∈ wA := in_wA (tb1 52 rfl) rfl
theorem se_X5_write : (Cond.selects RX5 yX5_write yX5_write) ∈ wA := in_wA (tb1 53 rfl) rfl
theorem co_X5_write : (Cond.code yX5_write cX5_write 3 none) ∈ wA := in_wA (tb1 54 rfl) rfl
theorem fl_X0_14 : (Cond.fieldLink RX0 14 "FarBanks$Banks" "cells" "LFarBanks$Row;") ∈ wA := in_wA (tb1 55 rfl) rfl
theorem fl_X0_20 : (Cond.fieldLink RX0 20 "FarBanks$Banks" "alone" "LFarBanks$Row;") ∈ wA := in_wA (tb1 57 rfl) rfl
theorem fl_X0_23 : (Cond.fieldLink RX0 23 "FarBanks$Banks" "shown" "LFarBanks$Row;") ∈ wA := in_wA (tb1 59 rfl) rfl
theorem fl_X0_26 : (Cond.fieldLink RX0 26 "FarBanks$Banks" "written" "LFarBanks$Row;") ∈ wA := in_wA (tb1 62 rfl) rfl
theorem fl_X0_29 : (Cond.fieldLink RX0 29 "FarBanks$Banks" "refused" "LFarBanks$Row;") ∈ wA := in_wA (tb1 64 rfl) rfl
theorem cl_X4_18 : (Cond.classLink RX4 18 RX2) ∈ wA := in_wA (tb1 77 rfl) rfl
theorem ib_X2 : (Cond.instantiable RX2 2) ∈ wA := in_wA (tb1 78 rfl) rfl
theorem im_X2_init : (Cond.instanceMethod yX2_init) ∈ wA := in_wA (tb1 80 rfl) rfl
theorem co_X2_init : (Cond.code yX2_init cX2_init 1 none) ∈ wA := in_wA (tb1 81 rfl) rfl
theorem ml_X2_3 : (Cond.methodLink RX2 3 objectInit) ∈ wA := in_wA (tb1 82 rfl) rfl
theorem cl_X2_9 : (Cond.classLink RX2 9 RX5) ∈ wA := in_wA (tb1 83 rfl) rfl
theorem ml_X2_13 : (Cond.methodLink RX2 13 yX5_init) ∈ wA := in_wA (tb1 84 rfl) rfl
theorem fl_X2_16 : (Cond.fieldLink RX2 16 "FarBanks$Frames" "parts" "LFarBanks$Row;") ∈ wA := in_wA (tb1 85 rfl) rfl
theorem fl_X2_24 : (Cond.fieldLink RX2 24 "FarBanks$Frames" "size" "I") ∈ wA := in_wA (tb1 86 rfl) rfl
theorem cl_X4_25 : (Cond.classLink RX4 25 RX7) ∈ wA := in_wA (tb1 94 rfl) rfl
theorem ib_X7 : (Cond.instantiable RX7 2) ∈ wA := in_wA (tb1 95 rfl) rfl
theorem im_X7_init : (Cond.instanceMethod yX7_init) ∈ wA := in_wA (tb1 97 rfl) rfl
theorem co_X7_init : (Cond.code yX7_init cX7_init 1 none) ∈ wA := in_wA (tb1 98 rfl) rfl
theorem ml_X7_3 : (Cond.methodLink RX7 3 objectInit) ∈ wA := in_wA (tb1 99 rfl) rfl
theorem cl_X7_9 : (Cond.classLink RX7 9 RX5) ∈ wA := in_wA (tb1 100 rfl) rfl
theorem ml_X7_13 : (Cond.methodLink RX7 13 yX5_init) ∈ wA := in_wA (tb1 101 rfl) rfl
theorem fl_X7_16 : (Cond.fieldLink RX7 16 "FarBanks$Trail" "parts" "LFarBanks$Row;") ∈ wA := in_wA (tb1 102 rfl) rfl
theorem fl_X7_24 : (Cond.fieldLink RX7 24 "FarBanks$Trail" "total" "I") ∈ wA := in_wA (tb1 103 rfl) rfl
theorem fl_X4_12 : (Cond.fieldLink RX4 12 "FarBanks$Machine" "banks" "LFarBanks$Banks;") ∈ wA := in_wA (tb1 110 rfl) rfl
theorem fl_X4_21 : (Cond.fieldLink RX4 21 "FarBanks$Machine" "frames" "LFarBanks$Frames;") ∈ wA := in_wA (tb1 112 rfl) rfl
theorem fl_X4_28 : (Cond.fieldLink RX4 28 "FarBanks$Machine" "trail" "LFarBanks$Trail;") ∈ wA := in_wA (tb1 114 rfl) rfl
theorem fl_X4_42 : (Cond.fieldLink RX4 42 "FarBanks$Machine" "number" "I") ∈ wA := in_wA (tb1 116 rfl) rfl
theorem fl_X4_46 : (Cond.fieldLink RX4 46 "FarBanks$Machine" "place" "I") ∈ wA := in_wA (tb1 118 rfl) rfl
theorem fl_X4_49 : (Cond.fieldLink RX4 49 "FarBanks$Machine" "reason" "I") ∈ wA := in_wA (tb1 120 rfl) rfl
theorem fl_X4_52 : (Cond.fieldLink RX4 52 "FarBanks$Machine" "strict" "I") ∈ wA := in_wA (tb1 122 rfl) rfl
theorem fl_X4_55 : (Cond.fieldLink RX4 55 "FarBanks$Machine" "calls" "I") ∈ wA := in_wA (tb1 124 rfl) rfl
theorem cl_X8_22 : (Cond.classLink RX8 22 RX3) ∈ wA := in_wA (tb1 143 rfl) rfl
theorem ib_X3 : (Cond.instantiable RX3 2) ∈ wA := in_wA (tb1 144 rfl) rfl
theorem ml_X8_24 : (Cond.methodLink RX8 24 yX3_init) ∈ wA := in_wA (tb1 145 rfl) rfl
theorem im_X3_init : (Cond.instanceMethod yX3_init) ∈ wA := in_wA (tb1 146 rfl) rfl
theorem co_X3_init : (Cond.code yX3_init cX3_init 2 none) ∈ wA := in_wA (tb1 147 rfl) rfl
theorem ml_X3_3 : (Cond.methodLink RX3 3 objectInit) ∈ wA := in_wA (tb1 148 rfl) rfl
theorem cl_X3_9 : (Cond.classLink RX3 9 RX4) ∈ wA := in_wA (tb1 149 rfl) rfl
theorem fl_X3_11 : (Cond.fieldLink RX3 11 "FarBanks$History" "states" "[LFarBanks$Machine;") ∈ wA := in_wA (tb1 152 rfl) rfl
theorem fl_X3_18 : (Cond.fieldLink RX3 18 "FarBanks$History" "size" "I") ∈ wA := in_wA (tb1 153 rfl) rfl
theorem cl_X8_29 : (Cond.classLink RX8 29 RX6) ∈ wA := in_wA (tb1 160 rfl) rfl
theorem ib_X6 : (Cond.instantiable RX6 2) ∈ wA := in_wA (tb1 161 rfl) rfl
theorem im_X6_init : (Cond.instanceMethod yX6_init) ∈ wA := in_wA (tb1 163 rfl) rfl
theorem co_X6_init : (Cond.code yX6_init cX6_init 1 none) ∈ wA := in_wA (tb1 164 rfl) rfl
theorem ml_X6_3 : (Cond.methodLink RX6 3 objectInit) ∈ wA := in_wA (tb1 165 rfl) rfl
theorem fl_X6_9 : (Cond.fieldLink RX6 9 "FarBanks$Text" "characters" "[C") ∈ wA := in_wA (tb1 166 rfl) rfl
theorem fl_X6_15 : (Cond.fieldLink RX6 15 "FarBanks$Text" "length" "I") ∈ wA := in_wA (tb1 167 rfl) rfl
theorem ac_char : (Cond.arrayClass .char) ∈ wA := in_wA (tb1 174 rfl) rfl
theorem cl_X8_36 : (Cond.classLink RX8 36 RX1) ∈ wA := in_wA (tb1 175 rfl) rfl
theorem ib_X1 : (Cond.instantiable RX1 4) ∈ wA := in_wA (tb1 176 rfl) rfl
theorem im_X1_init : (Cond.instanceMethod yX1_init) ∈ wA := in_wA (tb1 178 rfl) rfl
theorem co_X1_init : (Cond.code yX1_init cX1_init 1 none) ∈ wA := in_wA (tb1 179 rfl) rfl
theorem ml_X1_3 : (Cond.methodLink RX1 3 objectInit) ∈ wA := in_wA (tb1 180 rfl) rfl
theorem cl_X1_9 : (Cond.classLink RX1 9 RX5) ∈ wA := in_wA (tb1 181 rfl) rfl
theorem ml_X1_11 : (Cond.methodLink RX1 11 yX5_init) ∈ wA := in_wA (tb1 182 rfl) rfl
theorem fl_X1_14 : (Cond.fieldLink RX1 14 "FarBanks$Code" "orders" "LFarBanks$Row;") ∈ wA := in_wA (tb1 183 rfl) rfl
theorem fl_X1_20 : (Cond.fieldLink RX1 20 "FarBanks$Code" "size" "I") ∈ wA := in_wA (tb1 185 rfl) rfl
theorem fl_X1_24 : (Cond.fieldLink RX1 24 "FarBanks$Code" "position" "I") ∈ wA := in_wA (tb1 187 rfl) rfl
theorem fl_X1_35 : (Cond.fieldLink RX1 35 "FarBanks$Code" "isSound" "Z") ∈ wA := in_wA (tb1 189 rfl) rfl
theorem fl_X8_10 : (Cond.fieldLink RX8 10 "FarBanks" "now" "LFarBanks$Machine;") ∈ wA := in_wA (tb1 200 rfl) rfl
theorem fl_X8_16 : (Cond.fieldLink RX8 16 "FarBanks" "trial" "LFarBanks$Machine;") ∈ wA := in_wA (tb1 201 rfl) rfl
theorem fl_X8_19 : (Cond.fieldLink RX8 19 "FarBanks" "snapshot" "LFarBanks$Machine;") ∈ wA := in_wA (tb1 202 rfl) rfl
theorem fl_X8_25 : (Cond.fieldLink RX8 25 "FarBanks" "history" "LFarBanks$History;") ∈ wA := in_wA (tb1 203 rfl) rfl
theorem fl_X8_32 : (Cond.fieldLink RX8 32 "FarBanks" "text" "LFarBanks$Text;") ∈ wA := in_wA (tb1 204 rfl) rfl
theorem fl_X8_39 : (Cond.fieldLink RX8 39 "FarBanks" "code" "LFarBanks$Code;") ∈ wA := in_wA (tb1 205 rfl) rfl
theorem fl_X8_161 : (Cond.fieldLink RX8 161 "FarBanks" "hasSnapshot" "Z") ∈ wA := in_wA (tb1 206 rfl) rfl
theorem ml_L_13 : (Cond.methodLink RL 13 yX8_put) ∈ wA := in_wA (tb1 222 rfl) rfl
theorem im_X8_put : (Cond.instanceMethod yX8_put) ∈ wA := in_wA (tb1 223 rfl) rfl
theorem se_X8_put : (Cond.selects RX8 yX8_put yX8_put) ∈ wA := in_wA (tb1 224 rfl) rfl
theorem co_X8_put : (Cond.code yX8_put cX8_put 5 (some .int)) ∈ wA := in_wA (tb1 225 rfl) rfl
theorem ml_X8_43 : (Cond.methodLink RX8 43 yX8_isBelow) ∈ wA := in_wA (tb1 226 rfl) rfl
theorem st_X8_isBelow : (Cond.static yX8_isBelow) ∈ wA := in_wA (tb1 227 rfl) rfl
theorem co_X8_isBelow : (Cond.code yX8_isBelow cX8_isBelow 2 (some .boolean)) ∈ wA := in_wA (tb1 228 rfl) rfl
theorem ml_X8_51 : (Cond.methodLink RX8 51 yX0_numberIn) ∈ wA := in_wA (tb1 229 rfl) rfl
theorem im_X0_numberIn : (Cond.instanceMethod yX0_numberIn) ∈ wA := in_wA (tb1 230 rfl) rfl
theorem se_X0_numberIn : (Cond.selects RX0 yX0_numberIn yX0_numberIn) ∈ wA := in_wA (tb1 231 rfl) rfl
theorem co_X0_numberIn : (Cond.code yX0_numberIn cX0_numberIn 3 (some .int)) ∈ wA := in_wA (tb1 232 rfl) rfl
theorem ml_X0_40 : (Cond.methodLink RX0 40 yX0_indexOf) ∈ wA := in_wA (tb1 233 rfl) rfl
theorem st_X0_indexOf : (Cond.static yX0_indexOf) ∈ wA := in_wA (tb1 234 rfl) rfl
theorem co_X0_indexOf : (Cond.code yX0_indexOf cX0_indexOf 2 (some .int)) ∈ wA := in_wA (tb1 235 rfl) rfl
theorem ml_X0_44 : (Cond.methodLink RX0 44 yX5_read) ∈ wA := in_wA (tb1 236 rfl) rfl
theorem im_X5_read : (Cond.instanceMethod yX5_read) ∈ wA := in_wA (tb1 237 rfl) rfl
theorem se_X5_read : (Cond.selects RX5 yX5_read yX5_read) ∈ wA := in_wA (tb1 238 rfl) rfl
theorem co_X5_read : (Cond.code yX5_read cX5_read 2 (some .int)) ∈ wA := in_wA (tb1 239 rfl) rfl
theorem ml_X8_57 : (Cond.methodLink RX8 57 yX3_remember) ∈ wA := in_wA (tb2 0 rfl) rfl
theorem im_X3_remember : (Cond.instanceMethod yX3_remember) ∈ wA := in_wA (tb2 1 rfl) rfl
theorem se_X3_remember : (Cond.selects RX3 yX3_remember yX3_remember) ∈ wA := in_wA (tb2 2 rfl) rfl
theorem co_X3_remember : (Cond.code yX3_remember cX3_remember 2 none) ∈ wA := in_wA (tb2 3 rfl) rfl
theorem ml_X3_22 : (Cond.methodLink RX3 22 yX3_dropOldest) ∈ wA := in_wA (tb2 4 rfl) rfl
theorem im_X3_dropOldest : (Cond.instanceMethod yX3_dropOldest) ∈ wA := in_wA (tb2 6 rfl) rfl
theorem co_X3_dropOldest : (Cond.code yX3_dropOldest cX3_dropOldest 3 none) ∈ wA := in_wA (tb2 7 rfl) rfl
theorem ml_X3_25 : (Cond.methodLink RX3 25 yX4_copyFrom) ∈ wA := in_wA (tb2 8 rfl) rfl
theorem im_X4_copyFrom : (Cond.instanceMethod yX4_copyFrom) ∈ wA := in_wA (tb2 9 rfl) rfl
theorem se_X4_copyFrom : (Cond.selects RX4 yX4_copyFrom yX4_copyFrom) ∈ wA := in_wA (tb2 10 rfl) rfl
theorem co_X4_copyFrom : (Cond.code yX4_copyFrom cX4_copyFrom 2 none) ∈ wA := in_wA (tb2 11 rfl) rfl
theorem ml_X4_32 : (Cond.methodLink RX4 32 yX0_copyFrom) ∈ wA := in_wA (tb2 12 rfl) rfl
theorem im_X0_copyFrom : (Cond.instanceMethod yX0_copyFrom) ∈ wA := in_wA (tb2 13 rfl) rfl
theorem se_X0_copyFrom : (Cond.selects RX0 yX0_copyFrom yX0_copyFrom) ∈ wA := in_wA (tb2 14 rfl) rfl
theorem co_X0_copyFrom : (Cond.code yX0_copyFrom cX0_copyFrom 2 none) ∈ wA := in_wA (tb2 15 rfl) rfl
theorem ml_X0_36 : (Cond.methodLink RX0 36 yX5_copyFrom) ∈ wA := in_wA (tb2 16 rfl) rfl
theorem im_X5_copyFrom : (Cond.instanceMethod yX5_copyFrom) ∈ wA := in_wA (tb2 17 rfl) rfl
theorem se_X5_copyFrom : (Cond.selects RX5 yX5_copyFrom yX5_copyFrom) ∈ wA := in_wA (tb2 18 rfl) rfl
theorem co_X5_copyFrom : (Cond.code yX5_copyFrom cX5_copyFrom 2 none) ∈ wA := in_wA (tb2 19 rfl) rfl
theorem ml_X5_23 : (Cond.methodLink RX5 23 Lib.Math.min.name) ∈ wA := in_wA (tb2 20 rfl) rfl
theorem st_min : (Cond.static Lib.Math.min.name) ∈ wA := in_wA (tb2 21 rfl) rfl
theorem co_min : (Cond.code Lib.Math.min.name Lib.Math.min.code 2 (some .int)) ∈ wA := in_wA (tb2 22 rfl) rfl
theorem ml_X5_26 : (Cond.methodLink RX5 26 arraycopyName) ∈ wA := in_wA (tb2 23 rfl) rfl
theorem st_acopy : (Cond.static arraycopyName) ∈ wA := in_wA (tb2 24 rfl) rfl
theorem nt_acopy : (Cond.native arraycopyName) ∈ wA := in_wA (tb2 25 rfl) rfl
theorem ml_X4_36 : (Cond.methodLink RX4 36 yX2_copyFrom) ∈ wA := in_wA (tb2 26 rfl) rfl
theorem im_X2_copyFrom : (Cond.instanceMethod yX2_copyFrom) ∈ wA := in_wA (tb2 27 rfl) rfl
theorem se_X2_copyFrom : (Cond.selects RX2 yX2_copyFrom yX2_copyFrom) ∈ wA := in_wA (tb2 28 rfl) rfl
theorem co_X2_copyFrom : (Cond.code yX2_copyFrom cX2_copyFrom 2 none) ∈ wA := in_wA (tb2 29 rfl) rfl
theorem ml_X2_20 : (Cond.methodLink RX2 20 yX5_copyFrom) ∈ wA := in_wA (tb2 30 rfl) rfl
theorem ml_X4_39 : (Cond.methodLink RX4 39 yX7_copyFrom) ∈ wA := in_wA (tb2 31 rfl) rfl
theorem im_X7_copyFrom : (Cond.instanceMethod yX7_copyFrom) ∈ wA := in_wA (tb2 32 rfl) rfl
theorem se_X7_copyFrom : (Cond.selects RX7 yX7_copyFrom yX7_copyFrom) ∈ wA := in_wA (tb2 33 rfl) rfl
theorem co_X7_copyFrom : (Cond.code yX7_copyFrom cX7_copyFrom 2 none) ∈ wA := in_wA (tb2 34 rfl) rfl
theorem ml_X7_20 : (Cond.methodLink RX7 20 yX5_copyFrom) ∈ wA := in_wA (tb2 35 rfl) rfl
theorem ml_X8_61 : (Cond.methodLink RX8 61 yX0_fill) ∈ wA := in_wA (tb2 36 rfl) rfl
theorem im_X0_fill : (Cond.instanceMethod yX0_fill) ∈ wA := in_wA (tb2 37 rfl) rfl
theorem se_X0_fill : (Cond.selects RX0 yX0_fill yX0_fill) ∈ wA := in_wA (tb2 38 rfl) rfl
theorem co_X0_fill : (Cond.code yX0_fill cX0_fill 4 none) ∈ wA := in_wA (tb2 39 rfl) rfl
theorem ml_L_18 : (Cond.methodLink RL 18 yX8_lock) ∈ wA := in_wA (tb2 40 rfl) rfl
theorem im_X8_lock : (Cond.instanceMethod yX8_lock) ∈ wA := in_wA (tb2 41 rfl) rfl
theorem se_X8_lock : (Cond.selects RX8 yX8_lock yX8_lock) ∈ wA := in_wA (tb2 42 rfl) rfl
theorem co_X8_lock : (Cond.code yX8_lock cX8_lock 3 (some .int)) ∈ wA := in_wA (tb2 43 rfl) rfl
theorem ml_X8_65 : (Cond.methodLink RX8 65 yX0_isAlone) ∈ wA := in_wA (tb2 44 rfl) rfl
theorem im_X0_isAlone : (Cond.instanceMethod yX0_isAlone) ∈ wA := in_wA (tb2 45 rfl) rfl
theorem se_X0_isAlone : (Cond.selects RX0 yX0_isAlone yX0_isAlone) ∈ wA := in_wA (tb2 46 rfl) rfl
theorem co_X0_isAlone : (Cond.code yX0_isAlone cX0_isAlone 2 (some .boolean)) ∈ wA := in_wA (tb2 47 rfl) rfl
theorem ml_X8_73 : (Cond.methodLink RX8 73 yX5_write) ∈ wA := in_wA (tb2 48 rfl) rfl
theorem ml_X8_79 : (Cond.methodLink RX8 79 yX5_sum) ∈ wA := in_wA (tb2 49 rfl) rfl
theorem im_X5_sum : (Cond.instanceMethod yX5_sum) ∈ wA := in_wA (tb2 50 rfl) rfl
theorem se_X5_sum : (Cond.selects RX5 yX5_sum yX5_sum) ∈ wA := in_wA (tb2 51 rfl) rfl
theorem co_X5_sum : (Cond.code yX5_sum cX5_sum 6 (some .int)) ∈ wA := in_wA (tb2 52 rfl) rfl
theorem ml_L_23 : (Cond.methodLink RL 23 yX8_show) ∈ wA := in_wA (tb2 53 rfl) rfl
theorem im_X8_show : (Cond.instanceMethod yX8_show) ∈ wA := in_wA (tb2 54 rfl) rfl
theorem se_X8_show : (Cond.selects RX8 yX8_show yX8_show) ∈ wA := in_wA (tb2 55 rfl) rfl
theorem co_X8_show : (Cond.code yX8_show cX8_show 4 (some .int)) ∈ wA := in_wA (tb2 56 rfl) rfl
theorem ml_X8_86 : (Cond.methodLink RX8 86 yX5_read) ∈ wA := in_wA (tb2 57 rfl) rfl
theorem ml_L_28 : (Cond.methodLink RL 28 yX8_copyBank) ∈ wA := in_wA (tb2 58 rfl) rfl
theorem im_X8_copyBank : (Cond.instanceMethod yX8_copyBank) ∈ wA := in_wA (tb2 59 rfl) rfl
theorem se_X8_copyBank : (Cond.selects RX8 yX8_copyBank yX8_copyBank) ∈ wA := in_wA (tb2 60 rfl) rfl
theorem co_X8_copyBank : (Cond.code yX8_copyBank cX8_copyBank 4 (some .int)) ∈ wA := in_wA (tb2 61 rfl) rfl
theorem ml_X8_90 : (Cond.methodLink RX8 90 yX0_differencesOf) ∈ wA := in_wA (tb2 62 rfl) rfl
theorem im_X0_differencesOf : (Cond.instanceMethod yX0_differencesOf) ∈ wA := in_wA (tb2 63 rfl) rfl
theorem se_X0_differencesOf : (Cond.selects RX0 yX0_differencesOf yX0_differencesOf) ∈ wA := in_wA (tb2 64 rfl) rfl
theorem co_X0_differencesOf : (Cond.code yX0_differencesOf cX0_differencesOf 5 (some .int)) ∈ wA := in_wA (tb2 65 rfl) rfl
theorem ml_X0_51 : (Cond.methodLink RX0 51 yX0_numberIn) ∈ wA := in_wA (tb2 66 rfl) rfl
theorem ml_X8_93 : (Cond.methodLink RX8 93 yX0_copyCells) ∈ wA := in_wA (tb2 67 rfl) rfl
theorem im_X0_copyCells : (Cond.instanceMethod yX0_copyCells) ∈ wA := in_wA (tb2 68 rfl) rfl
theorem se_X0_copyCells : (Cond.selects RX0 yX0_copyCells yX0_copyCells) ∈ wA := in_wA (tb2 69 rfl) rfl
theorem co_X0_copyCells : (Cond.code yX0_copyCells cX0_copyCells 4 none) ∈ wA := in_wA (tb2 70 rfl) rfl
theorem ml_X0_58 : (Cond.methodLink RX0 58 yX0_fill) ∈ wA := in_wA (tb2 71 rfl) rfl
theorem ml_L_32 : (Cond.methodLink RL 32 yX8_set) ∈ wA := in_wA (tb2 72 rfl) rfl
theorem im_X8_set : (Cond.instanceMethod yX8_set) ∈ wA := in_wA (tb2 73 rfl) rfl
theorem se_X8_set : (Cond.selects RX8 yX8_set yX8_set) ∈ wA := in_wA (tb2 74 rfl) rfl
theorem co_X8_set : (Cond.code yX8_set cX8_set 3 (some .int)) ∈ wA := in_wA (tb2 75 rfl) rfl
theorem ml_L_37 : (Cond.methodLink RL 37 yX8_begin) ∈ wA := in_wA (tb2 76 rfl) rfl
theorem im_X8_begin : (Cond.instanceMethod yX8_begin) ∈ wA := in_wA (tb2 77 rfl) rfl
theorem se_X8_begin : (Cond.selects RX8 yX8_begin yX8_begin) ∈ wA := in_wA (tb2 78 rfl) rfl
theorem co_X8_begin : (Cond.code yX8_begin cX8_begin 3 (some .int)) ∈ wA := in_wA (tb2 79 rfl) rfl
theorem ml_X8_103 : (Cond.methodLink RX8 103 yX4_startAt) ∈ wA := in_wA (tb2 80 rfl) rfl
theorem im_X4_startAt : (Cond.instanceMethod yX4_startAt) ∈ wA := in_wA (tb2 81 rfl) rfl
theorem se_X4_startAt : (Cond.selects RX4 yX4_startAt yX4_startAt) ∈ wA := in_wA (tb2 82 rfl) rfl
theorem co_X4_startAt : (Cond.code yX4_startAt cX4_startAt 2 none) ∈ wA := in_wA (tb2 83 rfl) rfl
theorem ml_L_41 : (Cond.methodLink RL 41 yX8_run) ∈ wA := in_wA (tb2 84 rfl) rfl
theorem im_X8_run : (Cond.instanceMethod yX8_run) ∈ wA := in_wA (tb2 85 rfl) rfl
theorem se_X8_run : (Cond.selects RX8 yX8_run yX8_run) ∈ wA := in_wA (tb2 86 rfl) rfl
theorem co_X8_run : (Cond.code yX8_run cX8_run 2 (some .int)) ∈ wA := in_wA (tb2 87 rfl) rfl
theorem ml_X8_107 : (Cond.methodLink RX8 107 yX8_isStepsOfRun) ∈ wA := in_wA (tb2 88 rfl) rfl
theorem st_X8_isStepsOfRun : (Cond.static yX8_isStepsOfRun) ∈ wA := in_wA (tb2 89 rfl) rfl
theorem co_X8_isStepsOfRun : (Cond.code yX8_isStepsOfRun cX8_isStepsOfRun 1 (some .boolean)) ∈ wA := in_wA (tb2 90 rfl) rfl
theorem cn_X8_122 : (Cond.constant RX8 122 (999999 : Int32)) ∈ wA := in_wA (tb2 91 rfl) rfl
theorem ml_X8_123 : (Cond.methodLink RX8 123 yX4_takeSteps) ∈ wA := in_wA (tb2 92 rfl) rfl
theorem im_X4_takeSteps : (Cond.instanceMethod yX4_takeSteps) ∈ wA := in_wA (tb2 93 rfl) rfl
theorem se_X4_takeSteps : (Cond.selects RX4 yX4_takeSteps yX4_takeSteps) ∈ wA := in_wA (tb2 94 rfl) rfl
theorem co_X4_takeSteps : (Cond.code yX4_takeSteps cX4_takeSteps 3 (some .int)) ∈ wA := in_wA (tb2 95 rfl) rfl
theorem ml_X4_61 : (Cond.methodLink RX4 61 yX4_step) ∈ wA := in_wA (tb2 96 rfl) rfl
theorem im_X4_step : (Cond.instanceMethod yX4_step) ∈ wA := in_wA (tb2 97 rfl) rfl
theorem se_X4_step : (Cond.selects RX4 yX4_step yX4_step) ∈ wA := in_wA (tb2 98 rfl) rfl
theorem co_X4_step : (Cond.code yX4_step cX4_step 5 none) ∈ wA := in_wA (tb2 99 rfl) rfl
theorem ml_X4_64 : (Cond.methodLink RX4 64 yX0_numberAt) ∈ wA := in_wA (tb2 100 rfl) rfl
theorem im_X0_numberAt : (Cond.instanceMethod yX0_numberAt) ∈ wA := in_wA (tb2 101 rfl) rfl
theorem se_X0_numberAt : (Cond.selects RX0 yX0_numberAt yX0_numberAt) ∈ wA := in_wA (tb2 102 rfl) rfl
theorem co_X0_numberAt : (Cond.code yX0_numberAt cX0_numberAt 2 (some .int)) ∈ wA := in_wA (tb2 103 rfl) rfl
theorem ml_X0_48 : (Cond.methodLink RX0 48 yX0_bankAt) ∈ wA := in_wA (tb2 104 rfl) rfl
theorem im_X0_bankAt : (Cond.instanceMethod yX0_bankAt) ∈ wA := in_wA (tb2 105 rfl) rfl
theorem se_X0_bankAt : (Cond.selects RX0 yX0_bankAt yX0_bankAt) ∈ wA := in_wA (tb2 106 rfl) rfl
theorem co_X0_bankAt : (Cond.code yX0_bankAt cX0_bankAt 2 (some .int)) ∈ wA := in_wA (tb2 107 rfl) rfl
theorem ml_X4_68 : (Cond.methodLink RX4 68 yX0_bankAt) ∈ wA := in_wA (tb2 108 rfl) rfl
theorem ml_X4_71 : (Cond.methodLink RX4 71 yX7_add) ∈ wA := in_wA (tb2 109 rfl) rfl
theorem im_X7_add : (Cond.instanceMethod yX7_add) ∈ wA := in_wA (tb2 110 rfl) rfl
theorem se_X7_add : (Cond.selects RX7 yX7_add yX7_add) ∈ wA := in_wA (tb2 111 rfl) rfl
theorem co_X7_add : (Cond.code yX7_add cX7_add 5 none) ∈ wA := in_wA (tb2 112 rfl) rfl
theorem ml_X7_28 : (Cond.methodLink RX7 28 yX5_write) ∈ wA := in_wA (tb2 113 rfl) rfl
theorem ml_X4_75 : (Cond.methodLink RX4 75 yX4_hindranceOf) ∈ wA := in_wA (tb2 114 rfl) rfl
theorem im_X4_hindranceOf : (Cond.instanceMethod yX4_hindranceOf) ∈ wA := in_wA (tb2 116 rfl) rfl
theorem co_X4_hindranceOf : (Cond.code yX4_hindranceOf cX4_hindranceOf 3 (some .int)) ∈ wA := in_wA (tb2 117 rfl) rfl
theorem ml_X4_82 : (Cond.methodLink RX4 82 yX4_isBeyond) ∈ wA := in_wA (tb2 118 rfl) rfl
theorem st_X4_isBeyond : (Cond.static yX4_isBeyond) ∈ wA := in_wA (tb2 119 rfl) rfl
theorem co_X4_isBeyond : (Cond.code yX4_isBeyond cX4_isBeyond 2 (some .boolean)) ∈ wA := in_wA (tb2 120 rfl) rfl
theorem ml_X4_79 : (Cond.methodLink RX4 79 yX4_carryOut) ∈ wA := in_wA (tb2 121 rfl) rfl
theorem im_X4_carryOut : (Cond.instanceMethod yX4_carryOut) ∈ wA := in_wA (tb2 123 rfl) rfl
theorem co_X4_carryOut : (Cond.code yX4_carryOut cX4_carryOut 4 none) ∈ wA := in_wA (tb2 124 rfl) rfl
theorem ml_X4_86 : (Cond.methodLink RX4 86 yX4_increase) ∈ wA := in_wA (tb2 125 rfl) rfl
theorem im_X4_increase : (Cond.instanceMethod yX4_increase) ∈ wA := in_wA (tb2 127 rfl) rfl
theorem co_X4_increase : (Cond.code yX4_increase cX4_increase 3 none) ∈ wA := in_wA (tb2 128 rfl) rfl
theorem ml_X4_90 : (Cond.methodLink RX4 90 yX0_storeUnlessAlone) ∈ wA := in_wA (tb2 129 rfl) rfl
theorem im_X0_storeUnlessAlone : (Cond.instanceMethod yX0_storeUnlessAlone) ∈ wA := in_wA (tb2 130 rfl) rfl
theorem se_X0_storeUnlessAlone : (Cond.selects RX0 yX0_storeUnlessAlone yX0_storeUnlessAlone) ∈ wA := in_wA (tb2 131 rfl) rfl
theorem co_X0_storeUnlessAlone : (Cond.code yX0_storeUnlessAlone cX0_storeUnlessAlone 4 (some .boolean)) ∈ wA := in_wA (tb2 132 rfl) rfl
theorem ml_X0_54 : (Cond.methodLink RX0 54 yX0_isAlone) ∈ wA := in_wA (tb2 133 rfl) rfl
theorem ml_X4_97 : (Cond.methodLink RX4 97 yX5_write) ∈ wA := in_wA (tb2 134 rfl) rfl
theorem ml_X4_103 : (Cond.methodLink RX4 103 yX4_callFrom) ∈ wA := in_wA (tb2 135 rfl) rfl
theorem im_X4_callFrom : (Cond.instanceMethod yX4_callFrom) ∈ wA := in_wA (tb2 137 rfl) rfl
theorem co_X4_callFrom : (Cond.code yX4_callFrom cX4_callFrom 3 none) ∈ wA := in_wA (tb2 138 rfl) rfl
theorem ml_X4_109 : (Cond.methodLink RX4 109 yX5_read) ∈ wA := in_wA (tb2 139 rfl) rfl
theorem ml_X4_112 : (Cond.methodLink RX4 112 yX2_add) ∈ wA := in_wA (tb2 140 rfl) rfl
theorem im_X2_add : (Cond.instanceMethod yX2_add) ∈ wA := in_wA (tb2 141 rfl) rfl
theorem se_X2_add : (Cond.selects RX2 yX2_add yX2_add) ∈ wA := in_wA (tb2 142 rfl) rfl
theorem co_X2_add : (Cond.code yX2_add cX2_add 5 none) ∈ wA := in_wA (tb2 143 rfl) rfl
theorem ml_X2_28 : (Cond.methodLink RX2 28 yX5_write) ∈ wA := in_wA (tb2 144 rfl) rfl
theorem ml_X4_106 : (Cond.methodLink RX4 106 yX4_comeBack) ∈ wA := in_wA (tb2 145 rfl) rfl
theorem im_X4_comeBack : (Cond.instanceMethod yX4_comeBack) ∈ wA := in_wA (tb2 147 rfl) rfl
theorem co_X4_comeBack : (Cond.code yX4_comeBack cX4_comeBack 1 none) ∈ wA := in_wA (tb2 148 rfl) rfl
theorem ml_X4_113 : (Cond.methodLink RX4 113 yX2_tell) ∈ wA := in_wA (tb2 149 rfl) rfl
theorem im_X2_tell : (Cond.instanceMethod yX2_tell) ∈ wA := in_wA (tb2 150 rfl) rfl
theorem se_X2_tell : (Cond.selects RX2 yX2_tell yX2_tell) ∈ wA := in_wA (tb2 151 rfl) rfl
theorem co_X2_tell : (Cond.code yX2_tell cX2_tell 3 (some .int)) ∈ wA := in_wA (tb2 152 rfl) rfl
theorem ml_X2_32 : (Cond.methodLink RX2 32 yX5_read) ∈ wA := in_wA (tb2 153 rfl) rfl
theorem ml_L_45 : (Cond.methodLink RL 45 yX8_type) ∈ wA := in_wA (tb2 154 rfl) rfl
theorem im_X8_type : (Cond.instanceMethod yX8_type) ∈ wA := in_wA (tb2 155 rfl) rfl
theorem se_X8_type : (Cond.selects RX8 yX8_type yX8_type) ∈ wA := in_wA (tb2 156 rfl) rfl
theorem co_X8_type : (Cond.code yX8_type cX8_type 2 (some .int)) ∈ wA := in_wA (tb2 157 rfl) rfl
theorem ml_X8_126 : (Cond.methodLink RX8 126 yX6_isFull) ∈ wA := in_wA (tb2 158 rfl) rfl
theorem im_X6_isFull : (Cond.instanceMethod yX6_isFull) ∈ wA := in_wA (tb2 159 rfl) rfl
theorem se_X6_isFull : (Cond.selects RX6 yX6_isFull yX6_isFull) ∈ wA := in_wA (tb2 160 rfl) rfl
theorem co_X6_isFull : (Cond.code yX6_isFull cX6_isFull 1 (some .boolean)) ∈ wA := in_wA (tb2 161 rfl) rfl
theorem ml_X8_130 : (Cond.methodLink RX8 130 yX6_append) ∈ wA := in_wA (tb2 162 rfl) rfl
theorem im_X6_append : (Cond.instanceMethod yX6_append) ∈ wA := in_wA (tb2 163 rfl) rfl
theorem se_X6_append : (Cond.selects RX6 yX6_append yX6_append) ∈ wA := in_wA (tb2 164 rfl) rfl
theorem co_X6_append : (Cond.code yX6_append cX6_append 2 none) ∈ wA := in_wA (tb2 165 rfl) rfl
theorem ml_L_50 : (Cond.methodLink RL 50 yX8_clearText) ∈ wA := in_wA (tb2 166 rfl) rfl
theorem im_X8_clearText : (Cond.instanceMethod yX8_clearText) ∈ wA := in_wA (tb2 167 rfl) rfl
theorem se_X8_clearText : (Cond.selects RX8 yX8_clearText yX8_clearText) ∈ wA := in_wA (tb2 168 rfl) rfl
theorem co_X8_clearText : (Cond.code yX8_clearText cX8_clearText 2 (some .int)) ∈ wA := in_wA (tb2 169 rfl) rfl
theorem ml_L_55 : (Cond.methodLink RL 55 yX8_assemble) ∈ wA := in_wA (tb2 170 rfl) rfl
theorem im_X8_assemble : (Cond.instanceMethod yX8_assemble) ∈ wA := in_wA (tb2 171 rfl) rfl
theorem se_X8_assemble : (Cond.selects RX8 yX8_assemble yX8_assemble) ∈ wA := in_wA (tb2 172 rfl) rfl
theorem co_X8_assemble : (Cond.code yX8_assemble cX8_assemble 4 (some .int)) ∈ wA := in_wA (tb2 173 rfl) rfl
theorem ml_X8_137 : (Cond.methodLink RX8 137 yX1_readFrom) ∈ wA := in_wA (tb2 174 rfl) rfl
theorem im_X1_readFrom : (Cond.instanceMethod yX1_readFrom) ∈ wA := in_wA (tb2 175 rfl) rfl
theorem se_X1_readFrom : (Cond.selects RX1 yX1_readFrom yX1_readFrom) ∈ wA := in_wA (tb2 176 rfl) rfl
theorem co_X1_readFrom : (Cond.code yX1_readFrom cX1_readFrom 3 none) ∈ wA := in_wA (tb2 177 rfl) rfl
theorem ml_X1_27 : (Cond.methodLink RX1 27 yX1_readOrder) ∈ wA := in_wA (tb2 178 rfl) rfl
theorem im_X1_readOrder : (Cond.instanceMethod yX1_readOrder) ∈ wA := in_wA (tb2 180 rfl) rfl
theorem co_X1_readOrder : (Cond.code yX1_readOrder cX1_readOrder 4 (some .int)) ∈ wA := in_wA (tb2 181 rfl) rfl
theorem ml_X1_45 : (Cond.methodLink RX1 45 yX1_readKind) ∈ wA := in_wA (tb2 182 rfl) rfl
theorem im_X1_readKind : (Cond.instanceMethod yX1_readKind) ∈ wA := in_wA (tb2 184 rfl) rfl
theorem co_X1_readKind : (Cond.code yX1_readKind cX1_readKind 6 (some .int)) ∈ wA := in_wA (tb2 185 rfl) rfl
theorem ml_X1_58 : (Cond.methodLink RX1 58 yX1_wordOf) ∈ wA := in_wA (tb2 186 rfl) rfl
theorem st_X1_wordOf : (Cond.static yX1_wordOf) ∈ wA := in_wA (tb2 187 rfl) rfl
theorem co_X1_wordOf : (Cond.code yX1_wordOf cX1_wordOf 1 (some (.object "java/lang/String"))) ∈ wA := in_wA (tb2 188 rfl) rfl
theorem ml_X1_62 : (Cond.methodLink RX1 62 yX1_lengthOfBeginning) ∈ wA := in_wA (tb2 199 rfl) rfl
theorem im_X1_lengthOfBeginning : (Cond.instanceMethod yX1_lengthOfBeginning) ∈ wA := in_wA (tb2 201 rfl) rfl
theorem co_X1_lengthOfBeginning : (Cond.code yX1_lengthOfBeginning cX1_lengthOfBeginning 4 (some .int)) ∈ wA := in_wA (tb2 202 rfl) rfl
theorem ml_X1_66 : (Cond.methodLink RX1 66 yJ0_length_8abf5) ∈ wA := in_wA (tb2 203 rfl) rfl
theorem im_J0_length_8abf5 : (Cond.instanceMethod yJ0_length_8abf5) ∈ wA := in_wA (tb2 204 rfl) rfl
theorem se_J0_length_8abf5 : (Cond.selects RJ0 yJ0_length_8abf5 yJ0_length_8abf5) ∈ wA := in_wA (tb2 205 rfl) rfl
theorem co_J0_length_8abf5 : (Cond.code yJ0_length_8abf5 cJ0_length_8abf5 1 (some .int)) ∈ wA := in_wA (tb2 206 rfl) rfl
theorem ml_J0_335 : (Cond.methodLink RJ0 335 yJ0_coder_7d493) ∈ wA := in_wA (tb2 207 rfl) rfl
theorem im_J0_coder_7d493 : (Cond.instanceMethod yJ0_coder_7d493) ∈ wA := in_wA (tb2 208 rfl) rfl
theorem se_J0_coder_7d493 : (Cond.selects RJ0 yJ0_coder_7d493 yJ0_coder_7d493) ∈ wA := in_wA (tb2 209 rfl) rfl
theorem co_J0_coder_7d493 : (Cond.code yJ0_coder_7d493 cJ0_coder_7d493 1 (some .byte)) ∈ wA := in_wA (tb2 210 rfl) rfl
theorem fl_J0_38 : (Cond.fieldLink RJ0 38 "java/lang/String" "COMPACT_STRINGS" "Z") ∈ wA := in_wA (tb2 211 rfl) rfl
theorem ml_X1_39 : (Cond.methodLink RX1 39 yX6_at) ∈ wA := in_wA (tb2 213 rfl) rfl
theorem im_X6_at : (Cond.instanceMethod yX6_at) ∈ wA := in_wA (tb2 214 rfl) rfl
theorem se_X6_at : (Cond.selects RX6 yX6_at yX6_at) ∈ wA := in_wA (tb2 215 rfl) rfl
theorem co_X6_at : (Cond.code yX6_at cX6_at 2 (some .int)) ∈ wA := in_wA (tb2 216 rfl) rfl
theorem ml_X1_72 : (Cond.methodLink RX1 72 yJ0_charAt_5068e) ∈ wA := in_wA (tb2 217 rfl) rfl
theorem im_J0_charAt_5068e : (Cond.instanceMethod yJ0_charAt_5068e) ∈ wA := in_wA (tb2 218 rfl) rfl
theorem se_J0_charAt_5068e : (Cond.selects RJ0 yJ0_charAt_5068e yJ0_charAt_5068e) ∈ wA := in_wA (tb2 219 rfl) rfl
theorem co_J0_charAt_5068e : (Cond.code yJ0_charAt_5068e cJ0_charAt_5068e 2 (some .char)) ∈ wA := in_wA (tb2 220 rfl) rfl
theorem ml_J0_492 : (Cond.methodLink RJ0 492 yJ0_isLatin1_aae02) ∈ wA := in_wA (tb2 221 rfl) rfl
theorem im_J0_isLatin1_aae02 : (Cond.instanceMethod yJ0_isLatin1_aae02) ∈ wA := in_wA (tb2 222 rfl) rfl
theorem se_J0_isLatin1_aae02 : (Cond.selects RJ0 yJ0_isLatin1_aae02 yJ0_isLatin1_aae02) ∈ wA := in_wA (tb2 223 rfl) rfl
theorem co_J0_isLatin1_aae02 : (Cond.code yJ0_isLatin1_aae02 cJ0_isLatin1_aae02 1 (some .boolean)) ∈ wA := in_wA (tb2 224 rfl) rfl
theorem ml_J0_495 : (Cond.methodLink RJ0 495 yJ1_charAt_3b067) ∈ wA := in_wA (tb2 225 rfl) rfl
theorem st_J1_charAt_3b067 : (Cond.static yJ1_charAt_3b067) ∈ wA := in_wA (tb2 226 rfl) rfl
theorem co_J1_charAt_3b067 : (Cond.code yJ1_charAt_3b067 cJ1_charAt_3b067 2 (some .char)) ∈ wA := in_wA (tb2 227 rfl) rfl
theorem ml_J1_9 : (Cond.methodLink RJ1 9 yJ0_checkIndex_df160) ∈ wA := in_wA (tb2 228 rfl) rfl
theorem st_J0_checkIndex_df160 : (Cond.static yJ0_checkIndex_df160) ∈ wA := in_wA (tb2 229 rfl) rfl
theorem co_J0_checkIndex_df160 : (Cond.code yJ0_checkIndex_df160 cJ0_checkIndex_df160 2 none) ∈ wA := in_wA (tb2 230 rfl) rfl
theorem fl_J0_1053 : (Cond.fieldLink RJ0 1053 "jdk/internal/util/Preconditions" "SIOOBE_FORMATTER" "Ljava/util/function/BiFunction;") ∈ wA := in_wA (tb2 231 rfl) rfl
theorem ml_J0_1059 : (Cond.methodLink RJ0 1059 yJ3_checkIndex_8e157) ∈ wA := in_wA (tb2 233 rfl) rfl
theorem st_J3_checkIndex_8e157 : (Cond.static yJ3_checkIndex_8e157) ∈ wA := in_wA (tb2 234 rfl) rfl
theorem co_J3_checkIndex_8e157 : (Cond.code yJ3_checkIndex_8e157 cJ3_checkIndex_8e157 3 (some .int)) ∈ wA := in_wA (tb2 235 rfl) rfl
theorem ml_J0_498 : (Cond.methodLink RJ0 498 yJ2_charAt_3b067) ∈ wA := in_wA (tb2 236 rfl) rfl
theorem st_J2_charAt_3b067 : (Cond.static yJ2_charAt_3b067) ∈ wA := in_wA (tb2 237 rfl) rfl
theorem co_J2_charAt_3b067 : (Cond.code yJ2_charAt_3b067 cJ2_charAt_3b067 2 (some .char)) ∈ wA := in_wA (tb2 238 rfl) rfl
theorem ml_J2_67 : (Cond.methodLink RJ2 67 yJ2_checkIndex_2214a) ∈ wA := in_wA (tb2 239 rfl) rfl
theorem st_J2_checkIndex_2214a : (Cond.static yJ2_checkIndex_2214a) ∈ wA := in_wA (tb3 0 rfl) rfl
theorem co_J2_checkIndex_2214a : (Cond.code yJ2_checkIndex_2214a cJ2_checkIndex_2214a 2 none) ∈ wA := in_wA (tb3 1 rfl) rfl
theorem ml_J2_48 : (Cond.methodLink RJ2 48 yJ2_length_9d52b) ∈ wA := in_wA (tb3 2 rfl) rfl
theorem st_J2_length_9d52b : (Cond.static yJ2_length_9d52b) ∈ wA := in_wA (tb3 3 rfl) rfl
theorem co_J2_length_9d52b : (Cond.code yJ2_length_9d52b cJ2_length_9d52b 1 (some .int)) ∈ wA := in_wA (tb3 4 rfl) rfl
theorem ml_J2_414 : (Cond.methodLink RJ2 414 yJ0_checkIndex_df160) ∈ wA := in_wA (tb3 5 rfl) rfl
theorem ml_J2_71 : (Cond.methodLink RJ2 71 yJ2_getChar_3b067) ∈ wA := in_wA (tb3 6 rfl) rfl
theorem st_J2_getChar_3b067 : (Cond.static yJ2_getChar_3b067) ∈ wA := in_wA (tb3 7 rfl) rfl
theorem co_J2_getChar_3b067 : (Cond.code yJ2_getChar_3b067 cJ2_getChar_3b067 2 (some .char)) ∈ wA := in_wA (tb3 8 rfl) rfl
theorem fl_J2_44 : (Cond.fieldLink RJ2 44 "java/lang/StringUTF16" "$assertionsDisabled" "Z") ∈ wA := in_wA (tb3 9 rfl) rfl
theorem fl_J2_59 : (Cond.fieldLink RJ2 59 "java/lang/StringUTF16" "HI_BYTE_SHIFT" "I") ∈ wA := in_wA (tb3 11 rfl) rfl
theorem fl_J2_63 : (Cond.fieldLink RJ2 63 "java/lang/StringUTF16" "LO_BYTE_SHIFT" "I") ∈ wA := in_wA (tb3 13 rfl) rfl
theorem ml_X1_48 : (Cond.methodLink RX1 48 yX1_mostFirst) ∈ wA := in_wA (tb3 15 rfl) rfl
theorem st_X1_mostFirst : (Cond.static yX1_mostFirst) ∈ wA := in_wA (tb3 16 rfl) rfl
theorem co_X1_mostFirst : (Cond.code yX1_mostFirst cX1_mostFirst 1 (some .int)) ∈ wA := in_wA (tb3 17 rfl) rfl
theorem ml_X1_51 : (Cond.methodLink RX1 51 yX1_readNumber) ∈ wA := in_wA (tb3 18 rfl) rfl
theorem im_X1_readNumber : (Cond.instanceMethod yX1_readNumber) ∈ wA := in_wA (tb3 20 rfl) rfl
theorem co_X1_readNumber : (Cond.code yX1_readNumber cX1_readNumber 5 (some .int)) ∈ wA := in_wA (tb3 21 rfl) rfl
theorem ml_X1_76 : (Cond.methodLink RX1 76 yX1_digitAt) ∈ wA := in_wA (tb3 22 rfl) rfl
theorem st_X1_digitAt : (Cond.static yX1_digitAt) ∈ wA := in_wA (tb3 23 rfl) rfl
theorem co_X1_digitAt : (Cond.code yX1_digitAt cX1_digitAt 3 (some .int)) ∈ wA := in_wA (tb3 24 rfl) rfl
theorem ml_X1_55 : (Cond.methodLink RX1 55 yX1_mostSecond) ∈ wA := in_wA (tb3 25 rfl) rfl
theorem st_X1_mostSecond : (Cond.static yX1_mostSecond) ∈ wA := in_wA (tb3 26 rfl) rfl
theorem co_X1_mostSecond : (Cond.code yX1_mostSecond cX1_mostSecond 1 (some .int)) ∈ wA := in_wA (tb3 27 rfl) rfl
theorem ml_X1_31 : (Cond.methodLink RX1 31 yX5_write) ∈ wA := in_wA (tb3 28 rfl) rfl
theorem ac_byte : (Cond.arrayClass .byte) ∈ wA := in_wA (tb3 29 rfl) rfl
theorem ml_L_59 : (Cond.methodLink RL 59 yX8_undo) ∈ wA := in_wA (tb3 30 rfl) rfl
theorem im_X8_undo : (Cond.instanceMethod yX8_undo) ∈ wA := in_wA (tb3 31 rfl) rfl
theorem se_X8_undo : (Cond.selects RX8 yX8_undo yX8_undo) ∈ wA := in_wA (tb3 32 rfl) rfl
theorem co_X8_undo : (Cond.code yX8_undo cX8_undo 1 (some .int)) ∈ wA := in_wA (tb3 33 rfl) rfl
theorem ml_X8_155 : (Cond.methodLink RX8 155 yX3_bringBack) ∈ wA := in_wA (tb3 34 rfl) rfl
theorem im_X3_bringBack : (Cond.instanceMethod yX3_bringBack) ∈ wA := in_wA (tb3 35 rfl) rfl
theorem se_X3_bringBack : (Cond.selects RX3 yX3_bringBack yX3_bringBack) ∈ wA := in_wA (tb3 36 rfl) rfl
theorem co_X3_bringBack : (Cond.code yX3_bringBack cX3_bringBack 2 none) ∈ wA := in_wA (tb3 37 rfl) rfl
theorem ml_L_63 : (Cond.methodLink RL 63 yX8_keep) ∈ wA := in_wA (tb3 38 rfl) rfl
theorem im_X8_keep : (Cond.instanceMethod yX8_keep) ∈ wA := in_wA (tb3 39 rfl) rfl
theorem se_X8_keep : (Cond.selects RX8 yX8_keep yX8_keep) ∈ wA := in_wA (tb3 40 rfl) rfl
theorem co_X8_keep : (Cond.code yX8_keep cX8_keep 1 (some .int)) ∈ wA := in_wA (tb3 41 rfl) rfl
theorem ml_X8_158 : (Cond.methodLink RX8 158 yX4_copyFrom) ∈ wA := in_wA (tb3 42 rfl) rfl
theorem ml_L_67 : (Cond.methodLink RL 67 yX8_restore) ∈ wA := in_wA (tb3 43 rfl) rfl
theorem im_X8_restore : (Cond.instanceMethod yX8_restore) ∈ wA := in_wA (tb3 44 rfl) rfl
theorem se_X8_restore : (Cond.selects RX8 yX8_restore yX8_restore) ∈ wA := in_wA (tb3 45 rfl) rfl
theorem co_X8_restore : (Cond.code yX8_restore cX8_restore 1 (some .int)) ∈ wA := in_wA (tb3 46 rfl) rfl
theorem ml_L_71 : (Cond.methodLink RL 71 yX8_cell) ∈ wA := in_wA (tb3 47 rfl) rfl
theorem im_X8_cell : (Cond.instanceMethod yX8_cell) ∈ wA := in_wA (tb3 48 rfl) rfl
theorem se_X8_cell : (Cond.selects RX8 yX8_cell yX8_cell) ∈ wA := in_wA (tb3 49 rfl) rfl
theorem co_X8_cell : (Cond.code yX8_cell cX8_cell 3 (some .int)) ∈ wA := in_wA (tb3 50 rfl) rfl
theorem ml_L_75 : (Cond.methodLink RL 75 yX8_address) ∈ wA := in_wA (tb3 51 rfl) rfl
theorem im_X8_address : (Cond.instanceMethod yX8_address) ∈ wA := in_wA (tb3 52 rfl) rfl
theorem se_X8_address : (Cond.selects RX8 yX8_address yX8_address) ∈ wA := in_wA (tb3 53 rfl) rfl
theorem co_X8_address : (Cond.code yX8_address cX8_address 3 (some .int)) ∈ wA := in_wA (tb3 54 rfl) rfl
theorem ml_X8_164 : (Cond.methodLink RX8 164 yX0_numberAt) ∈ wA := in_wA (tb3 55 rfl) rfl
theorem ml_X8_167 : (Cond.methodLink RX8 167 yX0_bankAt) ∈ wA := in_wA (tb3 56 rfl) rfl
theorem ml_X8_170 : (Cond.methodLink RX8 170 yX0_twinOf) ∈ wA := in_wA (tb3 57 rfl) rfl
theorem im_X0_twinOf : (Cond.instanceMethod yX0_twinOf) ∈ wA := in_wA (tb3 58 rfl) rfl
theorem se_X0_twinOf : (Cond.selects RX0 yX0_twinOf yX0_twinOf) ∈ wA := in_wA (tb3 59 rfl) rfl
theorem co_X0_twinOf : (Cond.code yX0_twinOf cX0_twinOf 6 (some .int)) ∈ wA := in_wA (tb3 60 rfl) rfl
theorem ml_L_79 : (Cond.methodLink RL 79 yX8_bank) ∈ wA := in_wA (tb3 61 rfl) rfl
theorem im_X8_bank : (Cond.instanceMethod yX8_bank) ∈ wA := in_wA (tb3 62 rfl) rfl
theorem se_X8_bank : (Cond.selects RX8 yX8_bank yX8_bank) ∈ wA := in_wA (tb3 63 rfl) rfl
theorem co_X8_bank : (Cond.code yX8_bank cX8_bank 3 (some .int)) ∈ wA := in_wA (tb3 64 rfl) rfl
theorem ml_X8_173 : (Cond.methodLink RX8 173 yX0_windowsOf) ∈ wA := in_wA (tb3 65 rfl) rfl
theorem im_X0_windowsOf : (Cond.instanceMethod yX0_windowsOf) ∈ wA := in_wA (tb3 66 rfl) rfl
theorem se_X0_windowsOf : (Cond.selects RX0 yX0_windowsOf yX0_windowsOf) ∈ wA := in_wA (tb3 67 rfl) rfl
theorem co_X0_windowsOf : (Cond.code yX0_windowsOf cX0_windowsOf 4 (some .int)) ∈ wA := in_wA (tb3 68 rfl) rfl
theorem ml_X8_176 : (Cond.methodLink RX8 176 yX0_usedCellsOf) ∈ wA := in_wA (tb3 69 rfl) rfl
theorem im_X0_usedCellsOf : (Cond.instanceMethod yX0_usedCellsOf) ∈ wA := in_wA (tb3 70 rfl) rfl
theorem se_X0_usedCellsOf : (Cond.selects RX0 yX0_usedCellsOf yX0_usedCellsOf) ∈ wA := in_wA (tb3 71 rfl) rfl
theorem co_X0_usedCellsOf : (Cond.code yX0_usedCellsOf cX0_usedCellsOf 4 (some .int)) ∈ wA := in_wA (tb3 72 rfl) rfl
theorem ml_X8_183 : (Cond.methodLink RX8 183 yX2_howManyBackTo) ∈ wA := in_wA (tb3 73 rfl) rfl
theorem im_X2_howManyBackTo : (Cond.instanceMethod yX2_howManyBackTo) ∈ wA := in_wA (tb3 74 rfl) rfl
theorem se_X2_howManyBackTo : (Cond.selects RX2 yX2_howManyBackTo yX2_howManyBackTo) ∈ wA := in_wA (tb3 75 rfl) rfl
theorem co_X2_howManyBackTo : (Cond.code yX2_howManyBackTo cX2_howManyBackTo 4 (some .int)) ∈ wA := in_wA (tb3 76 rfl) rfl
theorem ml_X2_36 : (Cond.methodLink RX2 36 yX2_tell) ∈ wA := in_wA (tb3 77 rfl) rfl
theorem ml_L_83 : (Cond.methodLink RL 83 yX8_window) ∈ wA := in_wA (tb3 78 rfl) rfl
theorem im_X8_window : (Cond.instanceMethod yX8_window) ∈ wA := in_wA (tb3 79 rfl) rfl
theorem se_X8_window : (Cond.selects RX8 yX8_window yX8_window) ∈ wA := in_wA (tb3 80 rfl) rfl
theorem co_X8_window : (Cond.code yX8_window cX8_window 2 (some .int)) ∈ wA := in_wA (tb3 81 rfl) rfl
theorem ml_L_87 : (Cond.methodLink RL 87 yX8_frame) ∈ wA := in_wA (tb3 82 rfl) rfl
theorem im_X8_frame : (Cond.instanceMethod yX8_frame) ∈ wA := in_wA (tb3 83 rfl) rfl
theorem se_X8_frame : (Cond.selects RX8 yX8_frame yX8_frame) ∈ wA := in_wA (tb3 84 rfl) rfl
theorem co_X8_frame : (Cond.code yX8_frame cX8_frame 3 (some .int)) ∈ wA := in_wA (tb3 85 rfl) rfl
theorem ml_X8_195 : (Cond.methodLink RX8 195 yX2_tell) ∈ wA := in_wA (tb3 86 rfl) rfl
theorem ml_L_91 : (Cond.methodLink RL 91 yX8_latest) ∈ wA := in_wA (tb3 87 rfl) rfl
theorem im_X8_latest : (Cond.instanceMethod yX8_latest) ∈ wA := in_wA (tb3 88 rfl) rfl
theorem se_X8_latest : (Cond.selects RX8 yX8_latest yX8_latest) ∈ wA := in_wA (tb3 89 rfl) rfl
theorem co_X8_latest : (Cond.code yX8_latest cX8_latest 3 (some .int)) ∈ wA := in_wA (tb3 90 rfl) rfl
theorem ml_X8_198 : (Cond.methodLink RX8 198 Lib.Math.min.name) ∈ wA := in_wA (tb3 91 rfl) rfl
theorem ml_X8_203 : (Cond.methodLink RX8 203 yX7_tell) ∈ wA := in_wA (tb3 92 rfl) rfl
theorem im_X7_tell : (Cond.instanceMethod yX7_tell) ∈ wA := in_wA (tb3 93 rfl) rfl
theorem se_X7_tell : (Cond.selects RX7 yX7_tell yX7_tell) ∈ wA := in_wA (tb3 94 rfl) rfl
theorem co_X7_tell : (Cond.code yX7_tell cX7_tell 3 (some .int)) ∈ wA := in_wA (tb3 95 rfl) rfl
theorem ml_X7_32 : (Cond.methodLink RX7 32 yX5_read) ∈ wA := in_wA (tb3 96 rfl) rfl
theorem ml_L_95 : (Cond.methodLink RL 95 yX8_next) ∈ wA := in_wA (tb3 97 rfl) rfl
theorem im_X8_next : (Cond.instanceMethod yX8_next) ∈ wA := in_wA (tb3 98 rfl) rfl
theorem se_X8_next : (Cond.selects RX8 yX8_next yX8_next) ∈ wA := in_wA (tb3 99 rfl) rfl
theorem co_X8_next : (Cond.code yX8_next cX8_next 2 (some .int)) ∈ wA := in_wA (tb3 100 rfl) rfl
theorem ml_X8_204 : (Cond.methodLink RX8 204 yX4_step) ∈ wA := in_wA (tb3 101 rfl) rfl
theorem ml_L_99 : (Cond.methodLink RL 99 yX8_ifRun) ∈ wA := in_wA (tb3 102 rfl) rfl
theorem im_X8_ifRun : (Cond.instanceMethod yX8_ifRun) ∈ wA := in_wA (tb3 103 rfl) rfl
theorem se_X8_ifRun : (Cond.selects RX8 yX8_ifRun yX8_ifRun) ∈ wA := in_wA (tb3 104 rfl) rfl
theorem co_X8_ifRun : (Cond.code yX8_ifRun cX8_ifRun 4 (some .int)) ∈ wA := in_wA (tb3 105 rfl) rfl
theorem ml_X8_213 : (Cond.methodLink RX8 213 yX5_differencesTo) ∈ wA := in_wA (tb3 106 rfl) rfl
theorem im_X5_differencesTo : (Cond.instanceMethod yX5_differencesTo) ∈ wA := in_wA (tb3 107 rfl) rfl
theorem se_X5_differencesTo : (Cond.selects RX5 yX5_differencesTo yX5_differencesTo) ∈ wA := in_wA (tb3 108 rfl) rfl
theorem co_X5_differencesTo : (Cond.code yX5_differencesTo cX5_differencesTo 4 (some .int)) ∈ wA := in_wA (tb3 109 rfl) rfl
theorem ml_X5_19 : (Cond.methodLink RX5 19 yX5_read) ∈ wA := in_wA (tb3 110 rfl) rfl
theorem ml_L_103 : (Cond.methodLink RL 103 yX8_backIn) ∈ wA := in_wA (tb3 111 rfl) rfl
theorem im_X8_backIn : (Cond.instanceMethod yX8_backIn) ∈ wA := in_wA (tb3 112 rfl) rfl
theorem se_X8_backIn : (Cond.selects RX8 yX8_backIn yX8_backIn) ∈ wA := in_wA (tb3 113 rfl) rfl
theorem co_X8_backIn : (Cond.code yX8_backIn cX8_backIn 3 (some .int)) ∈ wA := in_wA (tb3 114 rfl) rfl
theorem ml_L_107 : (Cond.methodLink RL 107 yX8_count) ∈ wA := in_wA (tb3 115 rfl) rfl
theorem im_X8_count : (Cond.instanceMethod yX8_count) ∈ wA := in_wA (tb3 116 rfl) rfl
theorem se_X8_count : (Cond.selects RX8 yX8_count yX8_count) ∈ wA := in_wA (tb3 117 rfl) rfl
theorem co_X8_count : (Cond.code yX8_count cX8_count 2 (some .int)) ∈ wA := in_wA (tb3 118 rfl) rfl
theorem cl_L_10 : (Cond.classLink RL 10 RX9) ∈ wA := in_wA (tb3 119 rfl) rfl
theorem ib_X9 : (Cond.instantiable RX9 12) ∈ wA := in_wA (tb3 120 rfl) rfl
theorem ml_L_12 : (Cond.methodLink RL 12 yX9_init) ∈ wA := in_wA (tb3 121 rfl) rfl
theorem im_X9_init : (Cond.instanceMethod yX9_init) ∈ wA := in_wA (tb3 122 rfl) rfl
theorem co_X9_init : (Cond.code yX9_init cX9_init 2 none) ∈ wA := in_wA (tb3 123 rfl) rfl
theorem ml_X9_1 : (Cond.methodLink RX9 1 objectInit) ∈ wA := in_wA (tb3 124 rfl) rfl
theorem fl_X9_7 : (Cond.fieldLink RX9 7 "FarBanksModel" "z" "[I") ∈ wA := in_wA (tb3 125 rfl) rfl
theorem fl_X9_13 : (Cond.fieldLink RX9 13 "FarBanksModel" "aside" "[I") ∈ wA := in_wA (tb3 126 rfl) rfl
theorem fl_X9_16 : (Cond.fieldLink RX9 16 "FarBanksModel" "old" "[I") ∈ wA := in_wA (tb3 127 rfl) rfl
theorem fl_X9_40 : (Cond.fieldLink RX9 40 "FarBanksModel" "states" "I") ∈ wA := in_wA (tb3 128 rfl) rfl
theorem fl_X9_19 : (Cond.fieldLink RX9 19 "FarBanksModel" "kept" "[I") ∈ wA := in_wA (tb3 129 rfl) rfl
theorem fl_X9_44 : (Cond.fieldLink RX9 44 "FarBanksModel" "isKept" "Z") ∈ wA := in_wA (tb3 130 rfl) rfl
theorem fl_X9_22 : (Cond.fieldLink RX9 22 "FarBanksModel" "text" "[I") ∈ wA := in_wA (tb3 131 rfl) rfl
theorem fl_X9_105 : (Cond.fieldLink RX9 105 "FarBanksModel" "length" "I") ∈ wA := in_wA (tb3 132 rfl) rfl
theorem fl_X9_108 : (Cond.fieldLink RX9 108 "FarBanksModel" "place" "I") ∈ wA := in_wA (tb3 133 rfl) rfl
theorem fl_X9_111 : (Cond.fieldLink RX9 111 "FarBanksModel" "isWrong" "Z") ∈ wA := in_wA (tb3 134 rfl) rfl
theorem fl_X9_25 : (Cond.fieldLink RX9 25 "FarBanksModel" "orders" "[I") ∈ wA := in_wA (tb3 135 rfl) rfl
theorem fl_X9_128 : (Cond.fieldLink RX9 128 "FarBanksModel" "many" "I") ∈ wA := in_wA (tb3 136 rfl) rfl
theorem ml_L_62 : (Cond.methodLink RL 62 yX9_undo) ∈ wA := in_wA (tb3 162 rfl) rfl
theorem im_X9_undo : (Cond.instanceMethod yX9_undo) ∈ wA := in_wA (tb3 163 rfl) rfl
theorem se_X9_undo : (Cond.selects RX9 yX9_undo yX9_undo) ∈ wA := in_wA (tb3 164 rfl) rfl
theorem co_X9_undo : (Cond.code yX9_undo cX9_undo 2 (some .int)) ∈ wA := in_wA (tb3 165 rfl) rfl
theorem ml_L_66 : (Cond.methodLink RL 66 yX9_keep) ∈ wA := in_wA (tb3 166 rfl) rfl
theorem im_X9_keep : (Cond.instanceMethod yX9_keep) ∈ wA := in_wA (tb3 167 rfl) rfl
theorem se_X9_keep : (Cond.selects RX9 yX9_keep yX9_keep) ∈ wA := in_wA (tb3 168 rfl) rfl
theorem co_X9_keep : (Cond.code yX9_keep cX9_keep 2 (some .int)) ∈ wA := in_wA (tb3 169 rfl) rfl
theorem ml_L_70 : (Cond.methodLink RL 70 yX9_restore) ∈ wA := in_wA (tb3 170 rfl) rfl
theorem im_X9_restore : (Cond.instanceMethod yX9_restore) ∈ wA := in_wA (tb3 171 rfl) rfl
theorem se_X9_restore : (Cond.selects RX9 yX9_restore yX9_restore) ∈ wA := in_wA (tb3 172 rfl) rfl
theorem co_X9_restore : (Cond.code yX9_restore cX9_restore 2 (some .int)) ∈ wA := in_wA (tb3 173 rfl) rfl
theorem ml_X9_48 : (Cond.methodLink RX9 48 yX9_record) ∈ wA := in_wA (tb3 174 rfl) rfl
theorem im_X9_record : (Cond.instanceMethod yX9_record) ∈ wA := in_wA (tb3 176 rfl) rfl
theorem co_X9_record : (Cond.code yX9_record cX9_record 2 none) ∈ wA := in_wA (tb3 177 rfl) rfl
theorem ml_L_17 : (Cond.methodLink RL 17 yX9_put) ∈ wA := in_wA (tb3 178 rfl) rfl
theorem im_X9_put : (Cond.instanceMethod yX9_put) ∈ wA := in_wA (tb3 179 rfl) rfl
theorem se_X9_put : (Cond.selects RX9 yX9_put yX9_put) ∈ wA := in_wA (tb3 180 rfl) rfl
theorem co_X9_put : (Cond.code yX9_put cX9_put 4 (some .int)) ∈ wA := in_wA (tb3 181 rfl) rfl
theorem ml_X9_51 : (Cond.methodLink RX9 51 yX9_isBank) ∈ wA := in_wA (tb3 182 rfl) rfl
theorem st_X9_isBank : (Cond.static yX9_isBank) ∈ wA := in_wA (tb3 183 rfl) rfl
theorem co_X9_isBank : (Cond.code yX9_isBank cX9_isBank 1 (some .boolean)) ∈ wA := in_wA (tb3 184 rfl) rfl
theorem ml_X9_28 : (Cond.methodLink RX9 28 yX9_in) ∈ wA := in_wA (tb3 185 rfl) rfl
theorem st_X9_in : (Cond.static yX9_in) ∈ wA := in_wA (tb3 186 rfl) rfl
theorem co_X9_in : (Cond.code yX9_in cX9_in 3 (some .boolean)) ∈ wA := in_wA (tb3 187 rfl) rfl
theorem ml_X9_55 : (Cond.methodLink RX9 55 yX9_isCell) ∈ wA := in_wA (tb3 188 rfl) rfl
theorem st_X9_isCell : (Cond.static yX9_isCell) ∈ wA := in_wA (tb3 189 rfl) rfl
theorem co_X9_isCell : (Cond.code yX9_isCell cX9_isCell 1 (some .boolean)) ∈ wA := in_wA (tb3 190 rfl) rfl
theorem ml_X9_36 : (Cond.methodLink RX9 36 yX9_index) ∈ wA := in_wA (tb3 191 rfl) rfl
theorem st_X9_index : (Cond.static yX9_index) ∈ wA := in_wA (tb3 192 rfl) rfl
theorem co_X9_index : (Cond.code yX9_index cX9_index 2 (some .int)) ∈ wA := in_wA (tb3 193 rfl) rfl
theorem ml_X9_58 : (Cond.methodLink RX9 58 yX9_change) ∈ wA := in_wA (tb3 194 rfl) rfl
theorem im_X9_change : (Cond.instanceMethod yX9_change) ∈ wA := in_wA (tb3 196 rfl) rfl
theorem co_X9_change : (Cond.code yX9_change cX9_change 4 (some .int)) ∈ wA := in_wA (tb3 197 rfl) rfl
theorem ml_L_22 : (Cond.methodLink RL 22 yX9_lock) ∈ wA := in_wA (tb3 198 rfl) rfl
theorem im_X9_lock : (Cond.instanceMethod yX9_lock) ∈ wA := in_wA (tb3 199 rfl) rfl
theorem se_X9_lock : (Cond.selects RX9 yX9_lock yX9_lock) ∈ wA := in_wA (tb3 200 rfl) rfl
theorem co_X9_lock : (Cond.code yX9_lock cX9_lock 3 (some .int)) ∈ wA := in_wA (tb3 201 rfl) rfl
theorem ml_X9_61 : (Cond.methodLink RX9 61 yX9_locked) ∈ wA := in_wA (tb3 202 rfl) rfl
theorem im_X9_locked : (Cond.instanceMethod yX9_locked) ∈ wA := in_wA (tb3 204 rfl) rfl
theorem co_X9_locked : (Cond.code yX9_locked cX9_locked 3 (some .int)) ∈ wA := in_wA (tb3 205 rfl) rfl
theorem ml_L_27 : (Cond.methodLink RL 27 yX9_show) ∈ wA := in_wA (tb3 206 rfl) rfl
theorem im_X9_show : (Cond.instanceMethod yX9_show) ∈ wA := in_wA (tb3 207 rfl) rfl
theorem se_X9_show : (Cond.selects RX9 yX9_show yX9_show) ∈ wA := in_wA (tb3 208 rfl) rfl
theorem co_X9_show : (Cond.code yX9_show cX9_show 3 (some .int)) ∈ wA := in_wA (tb3 209 rfl) rfl
theorem ml_X9_65 : (Cond.methodLink RX9 65 yX9_isWindow) ∈ wA := in_wA (tb3 210 rfl) rfl
theorem st_X9_isWindow : (Cond.static yX9_isWindow) ∈ wA := in_wA (tb3 211 rfl) rfl
theorem co_X9_isWindow : (Cond.code yX9_isWindow cX9_isWindow 1 (some .boolean)) ∈ wA := in_wA (tb3 212 rfl) rfl
theorem ml_L_31 : (Cond.methodLink RL 31 yX9_copyBank) ∈ wA := in_wA (tb3 213 rfl) rfl
theorem im_X9_copyBank : (Cond.instanceMethod yX9_copyBank) ∈ wA := in_wA (tb3 214 rfl) rfl
theorem se_X9_copyBank : (Cond.selects RX9 yX9_copyBank yX9_copyBank) ∈ wA := in_wA (tb3 215 rfl) rfl
theorem co_X9_copyBank : (Cond.code yX9_copyBank cX9_copyBank 5 (some .int)) ∈ wA := in_wA (tb3 216 rfl) rfl
theorem ml_L_36 : (Cond.methodLink RL 36 yX9_set) ∈ wA := in_wA (tb3 217 rfl) rfl
theorem im_X9_set : (Cond.instanceMethod yX9_set) ∈ wA := in_wA (tb3 218 rfl) rfl
theorem se_X9_set : (Cond.selects RX9 yX9_set yX9_set) ∈ wA := in_wA (tb3 219 rfl) rfl
theorem co_X9_set : (Cond.code yX9_set cX9_set 2 (some .int)) ∈ wA := in_wA (tb3 220 rfl) rfl
theorem ml_L_40 : (Cond.methodLink RL 40 yX9_begin) ∈ wA := in_wA (tb3 221 rfl) rfl
theorem im_X9_begin : (Cond.instanceMethod yX9_begin) ∈ wA := in_wA (tb3 222 rfl) rfl
theorem se_X9_begin : (Cond.selects RX9 yX9_begin yX9_begin) ∈ wA := in_wA (tb3 223 rfl) rfl
theorem co_X9_begin : (Cond.code yX9_begin cX9_begin 3 (some .int)) ∈ wA := in_wA (tb3 224 rfl) rfl
theorem ml_X9_68 : (Cond.methodLink RX9 68 yX9_isAddress) ∈ wA := in_wA (tb3 225 rfl) rfl
theorem st_X9_isAddress : (Cond.static yX9_isAddress) ∈ wA := in_wA (tb3 226 rfl) rfl
theorem co_X9_isAddress : (Cond.code yX9_isAddress cX9_isAddress 1 (some .boolean)) ∈ wA := in_wA (tb3 227 rfl) rfl
theorem ml_L_44 : (Cond.methodLink RL 44 yX9_run) ∈ wA := in_wA (tb3 228 rfl) rfl
theorem im_X9_run : (Cond.instanceMethod yX9_run) ∈ wA := in_wA (tb3 229 rfl) rfl
theorem se_X9_run : (Cond.selects RX9 yX9_run yX9_run) ∈ wA := in_wA (tb3 230 rfl) rfl
theorem co_X9_run : (Cond.code yX9_run cX9_run 2 (some .int)) ∈ wA := in_wA (tb3 231 rfl) rfl
theorem cn_X9_101 : (Cond.constant RX9 101 (999999 : Int32)) ∈ wA := in_wA (tb3 232 rfl) rfl
theorem ml_X9_102 : (Cond.methodLink RX9 102 yX9_doRun) ∈ wA := in_wA (tb3 233 rfl) rfl
theorem im_X9_doRun : (Cond.instanceMethod yX9_doRun) ∈ wA := in_wA (tb3 235 rfl) rfl
theorem co_X9_doRun : (Cond.code yX9_doRun cX9_doRun 3 (some .int)) ∈ wA := in_wA (tb3 236 rfl) rfl
theorem ml_X9_98 : (Cond.methodLink RX9 98 yX9_step) ∈ wA := in_wA (tb3 237 rfl) rfl
theorem im_X9_step : (Cond.instanceMethod yX9_step) ∈ wA := in_wA (tb3 239 rfl) rfl
theorem co_X9_step : (Cond.code yX9_step cX9_step 5 none) ∈ wA := in_wA (tb4 0 rfl) rfl
theorem ml_X9_71 : (Cond.methodLink RX9 71 yX9_indexAt) ∈ wA := in_wA (tb4 1 rfl) rfl
theorem im_X9_indexAt : (Cond.instanceMethod yX9_indexAt) ∈ wA := in_wA (tb4 3 rfl) rfl
theorem co_X9_indexAt : (Cond.code yX9_indexAt cX9_indexAt 2 (some .int)) ∈ wA := in_wA (tb4 4 rfl) rfl
theorem ml_X9_32 : (Cond.methodLink RX9 32 yX9_bankAt) ∈ wA := in_wA (tb4 5 rfl) rfl
theorem im_X9_bankAt : (Cond.instanceMethod yX9_bankAt) ∈ wA := in_wA (tb4 7 rfl) rfl
theorem co_X9_bankAt : (Cond.code yX9_bankAt cX9_bankAt 2 (some .int)) ∈ wA := in_wA (tb4 8 rfl) rfl
theorem ml_X9_88 : (Cond.methodLink RX9 88 yX9_keepStep) ∈ wA := in_wA (tb4 9 rfl) rfl
theorem im_X9_keepStep : (Cond.instanceMethod yX9_keepStep) ∈ wA := in_wA (tb4 11 rfl) rfl
theorem co_X9_keepStep : (Cond.code yX9_keepStep cX9_keepStep 4 none) ∈ wA := in_wA (tb4 12 rfl) rfl
theorem ml_X9_91 : (Cond.methodLink RX9 91 yX9_whyNot) ∈ wA := in_wA (tb4 13 rfl) rfl
theorem im_X9_whyNot : (Cond.instanceMethod yX9_whyNot) ∈ wA := in_wA (tb4 15 rfl) rfl
theorem co_X9_whyNot : (Cond.code yX9_whyNot cX9_whyNot 4 (some .int)) ∈ wA := in_wA (tb4 16 rfl) rfl
theorem ml_X9_94 : (Cond.methodLink RX9 94 yX9_order) ∈ wA := in_wA (tb4 17 rfl) rfl
theorem im_X9_order : (Cond.instanceMethod yX9_order) ∈ wA := in_wA (tb4 19 rfl) rfl
theorem co_X9_order : (Cond.code yX9_order cX9_order 4 none) ∈ wA := in_wA (tb4 20 rfl) rfl
theorem ml_X9_74 : (Cond.methodLink RX9 74 yX9_sum) ∈ wA := in_wA (tb4 21 rfl) rfl
theorem st_X9_sum : (Cond.static yX9_sum) ∈ wA := in_wA (tb4 22 rfl) rfl
theorem co_X9_sum : (Cond.code yX9_sum cX9_sum 2 (some .int)) ∈ wA := in_wA (tb4 23 rfl) rfl
theorem ml_X9_77 : (Cond.methodLink RX9 77 yX9_write) ∈ wA := in_wA (tb4 24 rfl) rfl
theorem im_X9_write : (Cond.instanceMethod yX9_write) ∈ wA := in_wA (tb4 26 rfl) rfl
theorem co_X9_write : (Cond.code yX9_write cX9_write 3 none) ∈ wA := in_wA (tb4 27 rfl) rfl
theorem ml_X9_81 : (Cond.methodLink RX9 81 yX9_call) ∈ wA := in_wA (tb4 28 rfl) rfl
theorem im_X9_call : (Cond.instanceMethod yX9_call) ∈ wA := in_wA (tb4 30 rfl) rfl
theorem co_X9_call : (Cond.code yX9_call cX9_call 4 none) ∈ wA := in_wA (tb4 31 rfl) rfl
theorem ml_X9_85 : (Cond.methodLink RX9 85 yX9_back) ∈ wA := in_wA (tb4 32 rfl) rfl
theorem im_X9_back : (Cond.instanceMethod yX9_back) ∈ wA := in_wA (tb4 34 rfl) rfl
theorem co_X9_back : (Cond.code yX9_back cX9_back 2 none) ∈ wA := in_wA (tb4 35 rfl) rfl
theorem ml_L_49 : (Cond.methodLink RL 49 yX9_type) ∈ wA := in_wA (tb4 36 rfl) rfl
theorem im_X9_type : (Cond.instanceMethod yX9_type) ∈ wA := in_wA (tb4 37 rfl) rfl
theorem se_X9_type : (Cond.selects RX9 yX9_type yX9_type) ∈ wA := in_wA (tb4 38 rfl) rfl
theorem co_X9_type : (Cond.code yX9_type cX9_type 2 (some .int)) ∈ wA := in_wA (tb4 39 rfl) rfl
theorem ml_L_54 : (Cond.methodLink RL 54 yX9_clearText) ∈ wA := in_wA (tb4 40 rfl) rfl
theorem im_X9_clearText : (Cond.instanceMethod yX9_clearText) ∈ wA := in_wA (tb4 41 rfl) rfl
theorem se_X9_clearText : (Cond.selects RX9 yX9_clearText yX9_clearText) ∈ wA := in_wA (tb4 42 rfl) rfl
theorem co_X9_clearText : (Cond.code yX9_clearText cX9_clearText 2 (some .int)) ∈ wA := in_wA (tb4 43 rfl) rfl
theorem ml_L_58 : (Cond.methodLink RL 58 yX9_assemble) ∈ wA := in_wA (tb4 44 rfl) rfl
theorem im_X9_assemble : (Cond.instanceMethod yX9_assemble) ∈ wA := in_wA (tb4 45 rfl) rfl
theorem se_X9_assemble : (Cond.selects RX9 yX9_assemble yX9_assemble) ∈ wA := in_wA (tb4 46 rfl) rfl
theorem co_X9_assemble : (Cond.code yX9_assemble cX9_assemble 5 (some .int)) ∈ wA := in_wA (tb4 47 rfl) rfl
theorem ml_X9_134 : (Cond.methodLink RX9 134 yX9_findFault) ∈ wA := in_wA (tb4 48 rfl) rfl
theorem im_X9_findFault : (Cond.instanceMethod yX9_findFault) ∈ wA := in_wA (tb4 50 rfl) rfl
theorem co_X9_findFault : (Cond.code yX9_findFault cX9_findFault 2 (some .int)) ∈ wA := in_wA (tb4 51 rfl) rfl
theorem ml_X9_131 : (Cond.methodLink RX9 131 yX9_takeOrder) ∈ wA := in_wA (tb4 52 rfl) rfl
theorem im_X9_takeOrder : (Cond.instanceMethod yX9_takeOrder) ∈ wA := in_wA (tb4 54 rfl) rfl
theorem co_X9_takeOrder : (Cond.code yX9_takeOrder cX9_takeOrder 2 (some .int)) ∈ wA := in_wA (tb4 55 rfl) rfl
theorem ml_X9_114 : (Cond.methodLink RX9 114 yX9_sign) ∈ wA := in_wA (tb4 56 rfl) rfl
theorem im_X9_sign : (Cond.instanceMethod yX9_sign) ∈ wA := in_wA (tb4 58 rfl) rfl
theorem co_X9_sign : (Cond.code yX9_sign cX9_sign 1 (some .int)) ∈ wA := in_wA (tb4 59 rfl) rfl
theorem ml_X9_117 : (Cond.methodLink RX9 117 yX9_take) ∈ wA := in_wA (tb4 60 rfl) rfl
theorem im_X9_take : (Cond.instanceMethod yX9_take) ∈ wA := in_wA (tb4 62 rfl) rfl
theorem co_X9_take : (Cond.code yX9_take cX9_take 2 none) ∈ wA := in_wA (tb4 63 rfl) rfl
theorem ml_X9_121 : (Cond.methodLink RX9 121 yX9_takeRest) ∈ wA := in_wA (tb4 64 rfl) rfl
theorem im_X9_takeRest : (Cond.instanceMethod yX9_takeRest) ∈ wA := in_wA (tb4 66 rfl) rfl
theorem co_X9_takeRest : (Cond.code yX9_takeRest cX9_takeRest 5 none) ∈ wA := in_wA (tb4 67 rfl) rfl
theorem ml_X9_125 : (Cond.methodLink RX9 125 yX9_takeNumber) ∈ wA := in_wA (tb4 68 rfl) rfl
theorem im_X9_takeNumber : (Cond.instanceMethod yX9_takeNumber) ∈ wA := in_wA (tb4 70 rfl) rfl
theorem co_X9_takeNumber : (Cond.code yX9_takeNumber cX9_takeNumber 3 (some .int)) ∈ wA := in_wA (tb4 71 rfl) rfl
theorem ml_L_74 : (Cond.methodLink RL 74 yX9_cell) ∈ wA := in_wA (tb4 72 rfl) rfl
theorem im_X9_cell : (Cond.instanceMethod yX9_cell) ∈ wA := in_wA (tb4 73 rfl) rfl
theorem se_X9_cell : (Cond.selects RX9 yX9_cell yX9_cell) ∈ wA := in_wA (tb4 74 rfl) rfl
theorem co_X9_cell : (Cond.code yX9_cell cX9_cell 3 (some .int)) ∈ wA := in_wA (tb4 75 rfl) rfl
theorem ml_L_78 : (Cond.methodLink RL 78 yX9_address) ∈ wA := in_wA (tb4 76 rfl) rfl
theorem im_X9_address : (Cond.instanceMethod yX9_address) ∈ wA := in_wA (tb4 77 rfl) rfl
theorem se_X9_address : (Cond.selects RX9 yX9_address yX9_address) ∈ wA := in_wA (tb4 78 rfl) rfl
theorem co_X9_address : (Cond.code yX9_address cX9_address 3 (some .int)) ∈ wA := in_wA (tb4 79 rfl) rfl
theorem ml_X9_137 : (Cond.methodLink RX9 137 yX9_sameAs) ∈ wA := in_wA (tb4 80 rfl) rfl
theorem im_X9_sameAs : (Cond.instanceMethod yX9_sameAs) ∈ wA := in_wA (tb4 82 rfl) rfl
theorem co_X9_sameAs : (Cond.code yX9_sameAs cX9_sameAs 4 (some .int)) ∈ wA := in_wA (tb4 83 rfl) rfl
theorem ml_L_82 : (Cond.methodLink RL 82 yX9_bank) ∈ wA := in_wA (tb4 84 rfl) rfl
theorem im_X9_bank : (Cond.instanceMethod yX9_bank) ∈ wA := in_wA (tb4 85 rfl) rfl
theorem se_X9_bank : (Cond.selects RX9 yX9_bank yX9_bank) ∈ wA := in_wA (tb4 86 rfl) rfl
theorem co_X9_bank : (Cond.code yX9_bank cX9_bank 3 (some .int)) ∈ wA := in_wA (tb4 87 rfl) rfl
theorem ml_X9_140 : (Cond.methodLink RX9 140 yX9_windowsOf) ∈ wA := in_wA (tb4 88 rfl) rfl
theorem im_X9_windowsOf : (Cond.instanceMethod yX9_windowsOf) ∈ wA := in_wA (tb4 90 rfl) rfl
theorem co_X9_windowsOf : (Cond.code yX9_windowsOf cX9_windowsOf 4 (some .int)) ∈ wA := in_wA (tb4 91 rfl) rfl
theorem ml_X9_143 : (Cond.methodLink RX9 143 yX9_filled) ∈ wA := in_wA (tb4 92 rfl) rfl
theorem im_X9_filled : (Cond.instanceMethod yX9_filled) ∈ wA := in_wA (tb4 94 rfl) rfl
theorem co_X9_filled : (Cond.code yX9_filled cX9_filled 4 (some .int)) ∈ wA := in_wA (tb4 95 rfl) rfl
theorem ml_X9_146 : (Cond.methodLink RX9 146 yX9_framesTo) ∈ wA := in_wA (tb4 96 rfl) rfl
theorem im_X9_framesTo : (Cond.instanceMethod yX9_framesTo) ∈ wA := in_wA (tb4 98 rfl) rfl
theorem co_X9_framesTo : (Cond.code yX9_framesTo cX9_framesTo 4 (some .int)) ∈ wA := in_wA (tb4 99 rfl) rfl
theorem ml_L_86 : (Cond.methodLink RL 86 yX9_window) ∈ wA := in_wA (tb4 100 rfl) rfl
theorem im_X9_window : (Cond.instanceMethod yX9_window) ∈ wA := in_wA (tb4 101 rfl) rfl
theorem se_X9_window : (Cond.selects RX9 yX9_window yX9_window) ∈ wA := in_wA (tb4 102 rfl) rfl
theorem co_X9_window : (Cond.code yX9_window cX9_window 2 (some .int)) ∈ wA := in_wA (tb4 103 rfl) rfl
theorem ml_L_90 : (Cond.methodLink RL 90 yX9_frame) ∈ wA := in_wA (tb4 104 rfl) rfl
theorem im_X9_frame : (Cond.instanceMethod yX9_frame) ∈ wA := in_wA (tb4 105 rfl) rfl
theorem se_X9_frame : (Cond.selects RX9 yX9_frame yX9_frame) ∈ wA := in_wA (tb4 106 rfl) rfl
theorem co_X9_frame : (Cond.code yX9_frame cX9_frame 3 (some .int)) ∈ wA := in_wA (tb4 107 rfl) rfl
theorem ml_L_94 : (Cond.methodLink RL 94 yX9_latest) ∈ wA := in_wA (tb4 108 rfl) rfl
theorem im_X9_latest : (Cond.instanceMethod yX9_latest) ∈ wA := in_wA (tb4 109 rfl) rfl
theorem se_X9_latest : (Cond.selects RX9 yX9_latest yX9_latest) ∈ wA := in_wA (tb4 110 rfl) rfl
theorem co_X9_latest : (Cond.code yX9_latest cX9_latest 3 (some .int)) ∈ wA := in_wA (tb4 111 rfl) rfl
theorem ml_L_98 : (Cond.methodLink RL 98 yX9_next) ∈ wA := in_wA (tb4 112 rfl) rfl
theorem im_X9_next : (Cond.instanceMethod yX9_next) ∈ wA := in_wA (tb4 113 rfl) rfl
theorem se_X9_next : (Cond.selects RX9 yX9_next yX9_next) ∈ wA := in_wA (tb4 114 rfl) rfl
theorem co_X9_next : (Cond.code yX9_next cX9_next 4 (some .int)) ∈ wA := in_wA (tb4 115 rfl) rfl
theorem ml_X9_149 : (Cond.methodLink RX9 149 yX9_putAside) ∈ wA := in_wA (tb4 116 rfl) rfl
theorem im_X9_putAside : (Cond.instanceMethod yX9_putAside) ∈ wA := in_wA (tb4 118 rfl) rfl
theorem co_X9_putAside : (Cond.code yX9_putAside cX9_putAside 2 none) ∈ wA := in_wA (tb4 119 rfl) rfl
theorem ml_X9_152 : (Cond.methodLink RX9 152 yX9_putBack) ∈ wA := in_wA (tb4 120 rfl) rfl
theorem im_X9_putBack : (Cond.instanceMethod yX9_putBack) ∈ wA := in_wA (tb4 122 rfl) rfl
theorem co_X9_putBack : (Cond.code yX9_putBack cX9_putBack 2 none) ∈ wA := in_wA (tb4 123 rfl) rfl
theorem ml_L_102 : (Cond.methodLink RL 102 yX9_ifRun) ∈ wA := in_wA (tb4 124 rfl) rfl
theorem im_X9_ifRun : (Cond.instanceMethod yX9_ifRun) ∈ wA := in_wA (tb4 125 rfl) rfl
theorem se_X9_ifRun : (Cond.selects RX9 yX9_ifRun yX9_ifRun) ∈ wA := in_wA (tb4 126 rfl) rfl
theorem co_X9_ifRun : (Cond.code yX9_ifRun cX9_ifRun 5 (some .int)) ∈ wA := in_wA (tb4 127 rfl) rfl
theorem ml_X9_155 : (Cond.methodLink RX9 155 yX9_unlikeCells) ∈ wA := in_wA (tb4 128 rfl) rfl
theorem im_X9_unlikeCells : (Cond.instanceMethod yX9_unlikeCells) ∈ wA := in_wA (tb4 130 rfl) rfl
theorem co_X9_unlikeCells : (Cond.code yX9_unlikeCells cX9_unlikeCells 3 (some .int)) ∈ wA := in_wA (tb4 131 rfl) rfl
theorem ml_L_106 : (Cond.methodLink RL 106 yX9_backIn) ∈ wA := in_wA (tb4 132 rfl) rfl
theorem im_X9_backIn : (Cond.instanceMethod yX9_backIn) ∈ wA := in_wA (tb4 133 rfl) rfl
theorem se_X9_backIn : (Cond.selects RX9 yX9_backIn yX9_backIn) ∈ wA := in_wA (tb4 134 rfl) rfl
theorem co_X9_backIn : (Cond.code yX9_backIn cX9_backIn 4 (some .int)) ∈ wA := in_wA (tb4 135 rfl) rfl
theorem ml_L_110 : (Cond.methodLink RL 110 yX9_count) ∈ wA := in_wA (tb4 136 rfl) rfl
theorem im_X9_count : (Cond.instanceMethod yX9_count) ∈ wA := in_wA (tb4 137 rfl) rfl
theorem se_X9_count : (Cond.selects RX9 yX9_count yX9_count) ∈ wA := in_wA (tb4 138 rfl) rfl
theorem co_X9_count : (Cond.code yX9_count cX9_count 2 (some .int)) ∈ wA := in_wA (tb4 139 rfl) rfl
theorem fl_J0_9 : (Cond.fieldLink RJ0 9 "java/lang/String" "value" "[B") ∈ wA := in_wA (tb4 140 rfl) rfl
theorem fl_J0_15 : (Cond.fieldLink RJ0 15 "java/lang/String" "coder" "B") ∈ wA := in_wA (tb4 141 rfl) rfl
theorem se_X3_dropOldest : (Cond.selects RX3 yX3_dropOldest yX3_dropOldest) ∈ wA := in_wA (tbp (tp1 0 rfl)) rfl
theorem se_X4_hindranceOf : (Cond.selects RX4 yX4_hindranceOf yX4_hindranceOf) ∈ wA := in_wA (tbp (tp1 1 rfl)) rfl
theorem se_X4_carryOut : (Cond.selects RX4 yX4_carryOut yX4_carryOut) ∈ wA := in_wA (tbp (tp1 2 rfl)) rfl
theorem se_X4_increase : (Cond.selects RX4 yX4_increase yX4_increase) ∈ wA := in_wA (tbp (tp1 3 rfl)) rfl
theorem se_X4_callFrom : (Cond.selects RX4 yX4_callFrom yX4_callFrom) ∈ wA := in_wA (tbp (tp1 4 rfl)) rfl
theorem se_X4_comeBack : (Cond.selects RX4 yX4_comeBack yX4_comeBack) ∈ wA := in_wA (tbp (tp1 5 rfl)) rfl
theorem se_X1_readOrder : (Cond.selects RX1 yX1_readOrder yX1_readOrder) ∈ wA := in_wA (tbp (tp1 6 rfl)) rfl
theorem se_X1_readKind : (Cond.selects RX1 yX1_readKind yX1_readKind) ∈ wA := in_wA (tbp (tp1 7 rfl)) rfl
theorem se_X1_lengthOfBeginning : (Cond.selects RX1 yX1_lengthOfBeginning yX1_lengthOfBeginning) ∈ wA := in_wA (tbp (tp1 8 rfl)) rfl
theorem se_X1_readNumber : (Cond.selects RX1 yX1_readNumber yX1_readNumber) ∈ wA := in_wA (tbp (tp1 9 rfl)) rfl
theorem se_X9_record : (Cond.selects RX9 yX9_record yX9_record) ∈ wA := in_wA (tbp (tp1 10 rfl)) rfl
theorem se_X9_change : (Cond.selects RX9 yX9_change yX9_change) ∈ wA := in_wA (tbp (tp1 11 rfl)) rfl
theorem se_X9_locked : (Cond.selects RX9 yX9_locked yX9_locked) ∈ wA := in_wA (tbp (tp1 12 rfl)) rfl
theorem se_X9_doRun : (Cond.selects RX9 yX9_doRun yX9_doRun) ∈ wA := in_wA (tbp (tp1 13 rfl)) rfl
theorem se_X9_step : (Cond.selects RX9 yX9_step yX9_step) ∈ wA := in_wA (tbp (tp1 14 rfl)) rfl
theorem se_X9_indexAt : (Cond.selects RX9 yX9_indexAt yX9_indexAt) ∈ wA := in_wA (tbp (tp1 15 rfl)) rfl
theorem se_X9_bankAt : (Cond.selects RX9 yX9_bankAt yX9_bankAt) ∈ wA := in_wA (tbp (tp2 0 rfl)) rfl
theorem se_X9_keepStep : (Cond.selects RX9 yX9_keepStep yX9_keepStep) ∈ wA := in_wA (tbp (tp2 1 rfl)) rfl
theorem se_X9_whyNot : (Cond.selects RX9 yX9_whyNot yX9_whyNot) ∈ wA := in_wA (tbp (tp2 2 rfl)) rfl
theorem se_X9_order : (Cond.selects RX9 yX9_order yX9_order) ∈ wA := in_wA (tbp (tp2 3 rfl)) rfl
theorem se_X9_write : (Cond.selects RX9 yX9_write yX9_write) ∈ wA := in_wA (tbp (tp2 4 rfl)) rfl
theorem se_X9_call : (Cond.selects RX9 yX9_call yX9_call) ∈ wA := in_wA (tbp (tp2 5 rfl)) rfl
theorem se_X9_back : (Cond.selects RX9 yX9_back yX9_back) ∈ wA := in_wA (tbp (tp2 6 rfl)) rfl
theorem se_X9_findFault : (Cond.selects RX9 yX9_findFault yX9_findFault) ∈ wA := in_wA (tbp (tp2 7 rfl)) rfl
theorem se_X9_takeOrder : (Cond.selects RX9 yX9_takeOrder yX9_takeOrder) ∈ wA := in_wA (tbp (tp2 8 rfl)) rfl
theorem se_X9_sign : (Cond.selects RX9 yX9_sign yX9_sign) ∈ wA := in_wA (tbp (tp2 9 rfl)) rfl
theorem se_X9_take : (Cond.selects RX9 yX9_take yX9_take) ∈ wA := in_wA (tbp (tp2 10 rfl)) rfl
theorem se_X9_takeRest : (Cond.selects RX9 yX9_takeRest yX9_takeRest) ∈ wA := in_wA (tbp (tp2 11 rfl)) rfl
theorem se_X9_takeNumber : (Cond.selects RX9 yX9_takeNumber yX9_takeNumber) ∈ wA := in_wA (tbp (tp2 12 rfl)) rfl
theorem se_X9_sameAs : (Cond.selects RX9 yX9_sameAs yX9_sameAs) ∈ wA := in_wA (tbp (tp2 13 rfl)) rfl
theorem se_X9_windowsOf : (Cond.selects RX9 yX9_windowsOf yX9_windowsOf) ∈ wA := in_wA (tbp (tp2 14 rfl)) rfl
theorem se_X9_filled : (Cond.selects RX9 yX9_filled yX9_filled) ∈ wA := in_wA (tbp (tp2 15 rfl)) rfl
theorem se_X9_framesTo : (Cond.selects RX9 yX9_framesTo yX9_framesTo) ∈ wA := in_wA (tbp (tp3 0 rfl)) rfl
theorem se_X9_putAside : (Cond.selects RX9 yX9_putAside yX9_putAside) ∈ wA := in_wA (tbp (tp3 1 rfl)) rfl
theorem se_X9_putBack : (Cond.selects RX9 yX9_putBack yX9_putBack) ∈ wA := in_wA (tbp (tp3 2 rfl)) rfl
theorem se_X9_unlikeCells : (Cond.selects RX9 yX9_unlikeCells yX9_unlikeCells) ∈ wA := in_wA (tbp (tp3 3 rfl)) rfl
theorem ilX0 : ∀ w ∈ u_ws RX0 TX0 5, w ∈ wA := by
  have e : u_ws RX0 TX0 5 = [Cond.laysFinal "FarBanks$Banks" "FarBanks$Banks" "cells" "LFarBanks$Row;", Cond.laysFinal "FarBanks$Banks" "FarBanks$Banks" "alone" "LFarBanks$Row;", Cond.laysFinal "FarBanks$Banks" "FarBanks$Banks" "shown" "LFarBanks$Row;", Cond.laysFinal "FarBanks$Banks" "FarBanks$Banks" "written" "LFarBanks$Row;", Cond.laysFinal "FarBanks$Banks" "FarBanks$Banks" "refused" "LFarBanks$Row;"] := rfl
  rw [e]
  exact List.forall_mem_cons.mpr ⟨in_wA (tb1 66 rfl) rfl, List.forall_mem_cons.mpr ⟨in_wA (tb1 68 rfl) rfl, List.forall_mem_cons.mpr ⟨in_wA (tb1 70 rfl) rfl, List.forall_mem_cons.mpr ⟨in_wA (tb1 72 rfl) rfl, List.forall_mem_cons.mpr ⟨in_wA (tb1 74 rfl) rfl, fun _ h => absurd h List.not_mem_nil⟩⟩⟩⟩⟩
theorem ilX1 : ∀ w ∈ u_ws RX1 TX1 4, w ∈ wA := by
  have e : u_ws RX1 TX1 4 = [Cond.laysFinal "FarBanks$Code" "FarBanks$Code" "orders" "LFarBanks$Row;", Cond.lays "FarBanks$Code" "FarBanks$Code" "size" "I", Cond.lays "FarBanks$Code" "FarBanks$Code" "position" "I", Cond.lays "FarBanks$Code" "FarBanks$Code" "isSound" "Z"] := rfl
  rw [e]
  exact List.forall_mem_cons.mpr ⟨in_wA (tb1 191 rfl) rfl, List.forall_mem_cons.mpr ⟨in_wA (tb1 193 rfl) rfl, List.forall_mem_cons.mpr ⟨in_wA (tb1 195 rfl) rfl, List.forall_mem_cons.mpr ⟨in_wA (tb1 197 rfl) rfl, fun _ h => absurd h List.not_mem_nil⟩⟩⟩⟩
theorem ilX2 : ∀ w ∈ u_ws RX2 TX2 2, w ∈ wA := by
  have e : u_ws RX2 TX2 2 = [Cond.laysFinal "FarBanks$Frames" "FarBanks$Frames" "parts" "LFarBanks$Row;", Cond.lays "FarBanks$Frames" "FarBanks$Frames" "size" "I"] := rfl
  rw [e]
  exact List.forall_mem_cons.mpr ⟨in_wA (tb1 89 rfl) rfl, List.forall_mem_cons.mpr ⟨in_wA (tb1 91 rfl) rfl, fun _ h => absurd h List.not_mem_nil⟩⟩
theorem ilX3 : ∀ w ∈ u_ws RX3 TX3 2, w ∈ wA := by
  have e : u_ws RX3 TX3 2 = [Cond.laysFinal "FarBanks$History" "FarBanks$History" "states" "[LFarBanks$Machine;", Cond.lays "FarBanks$History" "FarBanks$History" "size" "I"] := rfl
  rw [e]
  exact List.forall_mem_cons.mpr ⟨in_wA (tb1 155 rfl) rfl, List.forall_mem_cons.mpr ⟨in_wA (tb1 157 rfl) rfl, fun _ h => absurd h List.not_mem_nil⟩⟩
theorem ilX4 : ∀ w ∈ u_ws RX4 TX4 8, w ∈ wA := by
  have e : u_ws RX4 TX4 8 = [Cond.laysFinal "FarBanks$Machine" "FarBanks$Machine" "banks" "LFarBanks$Banks;", Cond.laysFinal "FarBanks$Machine" "FarBanks$Machine" "frames" "LFarBanks$Frames;", Cond.laysFinal "FarBanks$Machine" "FarBanks$Machine" "trail" "LFarBanks$Trail;", Cond.lays "FarBanks$Machine" "FarBanks$Machine" "number" "I", Cond.lays "FarBanks$Machine" "FarBanks$Machine" "place" "I", Cond.lays "FarBanks$Machine" "FarBanks$Machine" "reason" "I", Cond.lays "FarBanks$Machine" "FarBanks$Machine" "strict" "I", Cond.lays "FarBanks$Machine" "FarBanks$Machine" "calls" "I"] := rfl
  rw [e]
  exact List.forall_mem_cons.mpr ⟨in_wA (tb1 126 rfl) rfl, List.forall_mem_cons.mpr ⟨in_wA (tb1 128 rfl) rfl, List.forall_mem_cons.mpr ⟨in_wA (tb1 130 rfl) rfl, List.forall_mem_cons.mpr ⟨in_wA (tb1 132 rfl) rfl, List.forall_mem_cons.mpr ⟨in_wA (tb1 134 rfl) rfl, List.forall_mem_cons.mpr ⟨in_wA (tb1 136 rfl) rfl, List.forall_mem_cons.mpr ⟨in_wA (tb1 138 rfl) rfl, List.forall_mem_cons.mpr ⟨in_wA (tb1 140 rfl) rfl, fun _ h => absurd h List.not_mem_nil⟩⟩⟩⟩⟩⟩⟩⟩
theorem ilX5 : ∀ w ∈ u_ws RX5 TX5 1, w ∈ wA := by
  have e : u_ws RX5 TX5 1 = [Cond.laysFinal "FarBanks$Row" "FarBanks$Row" "numbers" "[I"] := rfl
  rw [e]
  exact List.forall_mem_cons.mpr ⟨in_wA (tb1 47 rfl) rfl, fun _ h => absurd h List.not_mem_nil⟩
theorem ilX6 : ∀ w ∈ u_ws RX6 TX6 2, w ∈ wA := by
  have e : u_ws RX6 TX6 2 = [Cond.laysFinal "FarBanks$Text" "FarBanks$Text" "characters" "[C", Cond.lays "FarBanks$Text" "FarBanks$Text" "length" "I"] := rfl
  rw [e]
  exact List.forall_mem_cons.mpr ⟨in_wA (tb1 169 rfl) rfl, List.forall_mem_cons.mpr ⟨in_wA (tb1 171 rfl) rfl, fun _ h => absurd h List.not_mem_nil⟩⟩
theorem ilX7 : ∀ w ∈ u_ws RX7 TX7 2, w ∈ wA := by
  have e : u_ws RX7 TX7 2 = [Cond.laysFinal "FarBanks$Trail" "FarBanks$Trail" "parts" "LFarBanks$Row;", Cond.lays "FarBanks$Trail" "FarBanks$Trail" "total" "I"] := rfl
  rw [e]
  exact List.forall_mem_cons.mpr ⟨in_wA (tb1 105 rfl) rfl, List.forall_mem_cons.mpr ⟨in_wA (tb1 107 rfl) rfl, fun _ h => absurd h List.not_mem_nil⟩⟩
theorem ilX8 : ∀ w ∈ u_ws RX8 TX8 7, w ∈ wA := by
  have e : u_ws RX8 TX8 7 = [Cond.laysFinal "FarBanks" "FarBanks" "now" "LFarBanks$Machine;", Cond.laysFinal "FarBanks" "FarBanks" "trial" "LFarBanks$Machine;", Cond.laysFinal "FarBanks" "FarBanks" "snapshot" "LFarBanks$Machine;", Cond.laysFinal "FarBanks" "FarBanks" "history" "LFarBanks$History;", Cond.laysFinal "FarBanks" "FarBanks" "text" "LFarBanks$Text;", Cond.laysFinal "FarBanks" "FarBanks" "code" "LFarBanks$Code;", Cond.lays "FarBanks" "FarBanks" "hasSnapshot" "Z"] := rfl
  rw [e]
  exact List.forall_mem_cons.mpr ⟨in_wA (tb1 207 rfl) rfl, List.forall_mem_cons.mpr ⟨in_wA (tb1 209 rfl) rfl, List.forall_mem_cons.mpr ⟨in_wA (tb1 211 rfl) rfl, List.forall_mem_cons.mpr ⟨in_wA (tb1 213 rfl) rfl, List.forall_mem_cons.mpr ⟨in_wA (tb1 215 rfl) rfl, List.forall_mem_cons.mpr ⟨in_wA (tb1 217 rfl) rfl, List.forall_mem_cons.mpr ⟨in_wA (tb1 219 rfl) rfl, fun _ h => absurd h List.not_mem_nil⟩⟩⟩⟩⟩⟩⟩
theorem ilX9 : ∀ w ∈ u_ws RX9 TX9 12, w ∈ wA := by
  have e : u_ws RX9 TX9 12 = [Cond.laysFinal "FarBanksModel" "FarBanksModel" "z" "[I", Cond.laysFinal "FarBanksModel" "FarBanksModel" "aside" "[I", Cond.laysFinal "FarBanksModel" "FarBanksModel" "old" "[I", Cond.lays "FarBanksModel" "FarBanksModel" "states" "I", Cond.laysFinal "FarBanksModel" "FarBanksModel" "kept" "[I", Cond.lays "FarBanksModel" "FarBanksModel" "isKept" "Z", Cond.laysFinal "FarBanksModel" "FarBanksModel" "text" "[I", Cond.lays "FarBanksModel" "FarBanksModel" "length" "I", Cond.lays "FarBanksModel" "FarBanksModel" "place" "I", Cond.lays "FarBanksModel" "FarBanksModel" "isWrong" "Z", Cond.laysFinal "FarBanksModel" "FarBanksModel" "orders" "[I", Cond.lays "FarBanksModel" "FarBanksModel" "many" "I"] := rfl
  rw [e]
  exact List.forall_mem_cons.mpr ⟨in_wA (tb3 137 rfl) rfl, List.forall_mem_cons.mpr ⟨in_wA (tb3 139 rfl) rfl, List.forall_mem_cons.mpr ⟨in_wA (tb3 141 rfl) rfl, List.forall_mem_cons.mpr ⟨in_wA (tb3 143 rfl) rfl, List.forall_mem_cons.mpr ⟨in_wA (tb3 145 rfl) rfl, List.forall_mem_cons.mpr ⟨in_wA (tb3 147 rfl) rfl, List.forall_mem_cons.mpr ⟨in_wA (tb3 149 rfl) rfl, List.forall_mem_cons.mpr ⟨in_wA (tb3 151 rfl) rfl, List.forall_mem_cons.mpr ⟨in_wA (tb3 153 rfl) rfl, List.forall_mem_cons.mpr ⟨in_wA (tb3 155 rfl) rfl, List.forall_mem_cons.mpr ⟨in_wA (tb3 157 rfl) rfl, List.forall_mem_cons.mpr ⟨in_wA (tb3 159 rfl) rfl, fun _ h => absurd h List.not_mem_nil⟩⟩⟩⟩⟩⟩⟩⟩⟩⟩⟩⟩
end
section
theorem dX0_init_0 : decode cX0_init 0 = .ok (.aload_n 0, 1) := by decide +kernel
theorem dX0_init_1 : decode cX0_init 1 = .ok (.invokespecial 3, 3) := by decide +kernel
theorem dX0_init_4 : decode cX0_init 4 = .ok (.aload_n 0, 1) := by decide +kernel
theorem dX0_init_5 : decode cX0_init 5 = .ok (.new 9, 3) := by decide +kernel
theorem dX0_init_8 : decode cX0_init 8 = .ok (.dup, 1) := by decide +kernel
theorem dX0_init_9 : decode cX0_init 9 = .ok (.bipush 100, 2) := by decide +kernel
theorem dX0_init_11 : decode cX0_init 11 = .ok (.invokespecial 11, 3) := by decide +kernel
theorem dX0_init_14 : decode cX0_init 14 = .ok (.putfield 14, 3) := by decide +kernel
theorem dX0_init_17 : decode cX0_init 17 = .ok (.aload_n 0, 1) := by decide +kernel
theorem dX0_init_18 : decode cX0_init 18 = .ok (.new 9, 3) := by decide +kernel
theorem dX0_init_21 : decode cX0_init 21 = .ok (.dup, 1) := by decide +kernel
theorem dX0_init_22 : decode cX0_init 22 = .ok (.bipush 8, 2) := by decide +kernel
theorem dX0_init_24 : decode cX0_init 24 = .ok (.invokespecial 11, 3) := by decide +kernel
theorem dX0_init_27 : decode cX0_init 27 = .ok (.putfield 20, 3) := by decide +kernel
theorem dX0_init_30 : decode cX0_init 30 = .ok (.aload_n 0, 1) := by decide +kernel
theorem dX0_init_31 : decode cX0_init 31 = .ok (.new 9, 3) := by decide +kernel
theorem dX0_init_34 : decode cX0_init 34 = .ok (.dup, 1) := by decide +kernel
theorem dX0_init_35 : decode cX0_init 35 = .ok (.iconst 4, 1) := by decide +kernel
theorem dX0_init_36 : decode cX0_init 36 = .ok (.invokespecial 11, 3) := by decide +kernel
theorem dX0_init_39 : decode cX0_init 39 = .ok (.putfield 23, 3) := by decide +kernel
theorem dX0_init_42 : decode cX0_init 42 = .ok (.aload_n 0, 1) := by decide +kernel
theorem dX0_init_43 : decode cX0_init 43 = .ok (.new 9, 3) := by decide +kernel
theorem dX0_init_46 : decode cX0_init 46 = .ok (.dup, 1) := by decide +kernel
theorem dX0_init_47 : decode cX0_init 47 = .ok (.bipush 8, 2) := by decide +kernel
theorem dX0_init_49 : decode cX0_init 49 = .ok (.invokespecial 11, 3) := by decide +kernel
theorem dX0_init_52 : decode cX0_init 52 = .ok (.putfield 26, 3) := by decide +kernel
theorem dX0_init_55 : decode cX0_init 55 = .ok (.aload_n 0, 1) := by decide +kernel
theorem dX0_init_56 : decode cX0_init 56 = .ok (.new 9, 3) := by decide +kernel
theorem dX0_init_59 : decode cX0_init 59 = .ok (.dup, 1) := by decide +kernel
theorem dX0_init_60 : decode cX0_init 60 = .ok (.bipush 8, 2) := by decide +kernel
theorem dX0_init_62 : decode cX0_init 62 = .ok (.invokespecial 11, 3) := by decide +kernel
theorem dX0_init_65 : decode cX0_init 65 = .ok (.putfield 29, 3) := by decide +kernel
theorem dX0_init_68 : decode cX0_init 68 = .ok (.iconst 0, 1) := by decide +kernel
theorem dX0_init_69 : decode cX0_init 69 = .ok (.istore_n 1, 1) := by decide +kernel
theorem dX0_init_70 : decode cX0_init 70 = .ok (.iload_n 1, 1) := by decide +kernel
theorem dX0_init_71 : decode cX0_init 71 = .ok (.iconst 4, 1) := by decide +kernel
theorem dX0_init_72 : decode cX0_init 72 = .ok (.if_icmp .ge 18, 3) := by decide +kernel
theorem dX0_init_75 : decode cX0_init 75 = .ok (.aload_n 0, 1) := by decide +kernel
theorem dX0_init_76 : decode cX0_init 76 = .ok (.getfield 23, 3) := by decide +kernel
theorem dX0_init_79 : decode cX0_init 79 = .ok (.iload_n 1, 1) := by decide +kernel
theorem dX0_init_80 : decode cX0_init 80 = .ok (.iload_n 1, 1) := by decide +kernel
theorem dX0_init_81 : decode cX0_init 81 = .ok (.invokevirtual 32, 3) := by decide +kernel
theorem dX0_init_84 : decode cX0_init 84 = .ok (.iinc 1 1, 3) := by decide +kernel
theorem dX0_init_87 : decode cX0_init 87 = .ok (.goto (-17), 3) := by decide +kernel
theorem dX0_init_90 : decode cX0_init 90 = .ok (.return_, 1) := by decide +kernel
theorem dX0_copyFrom_0 : decode cX0_copyFrom 0 = .ok (.aload_n 0, 1) := by decide +kernel
theorem dX0_copyFrom_1 : decode cX0_copyFrom 1 = .ok (.getfield 14, 3) := by decide +kernel
theorem dX0_copyFrom_4 : decode cX0_copyFrom 4 = .ok (.aload_n 1, 1) := by decide +kernel
theorem dX0_copyFrom_5 : decode cX0_copyFrom 5 = .ok (.getfield 14, 3) := by decide +kernel
theorem dX0_copyFrom_8 : decode cX0_copyFrom 8 = .ok (.invokevirtual 36, 3) := by decide +kernel
theorem dX0_copyFrom_11 : decode cX0_copyFrom 11 = .ok (.aload_n 0, 1) := by decide +kernel
theorem dX0_copyFrom_12 : decode cX0_copyFrom 12 = .ok (.getfield 20, 3) := by decide +kernel
theorem dX0_copyFrom_15 : decode cX0_copyFrom 15 = .ok (.aload_n 1, 1) := by decide +kernel
theorem dX0_copyFrom_16 : decode cX0_copyFrom 16 = .ok (.getfield 20, 3) := by decide +kernel
theorem dX0_copyFrom_19 : decode cX0_copyFrom 19 = .ok (.invokevirtual 36, 3) := by decide +kernel
theorem dX0_copyFrom_22 : decode cX0_copyFrom 22 = .ok (.aload_n 0, 1) := by decide +kernel
theorem dX0_copyFrom_23 : decode cX0_copyFrom 23 = .ok (.getfield 23, 3) := by decide +kernel
theorem dX0_copyFrom_26 : decode cX0_copyFrom 26 = .ok (.aload_n 1, 1) := by decide +kernel
theorem dX0_copyFrom_27 : decode cX0_copyFrom 27 = .ok (.getfield 23, 3) := by decide +kernel
theorem dX0_copyFrom_30 : decode cX0_copyFrom 30 = .ok (.invokevirtual 36, 3) := by decide +kernel
theorem dX0_copyFrom_33 : decode cX0_copyFrom 33 = .ok (.aload_n 0, 1) := by decide +kernel
theorem dX0_copyFrom_34 : decode cX0_copyFrom 34 = .ok (.getfield 26, 3) := by decide +kernel
theorem dX0_copyFrom_37 : decode cX0_copyFrom 37 = .ok (.aload_n 1, 1) := by decide +kernel
theorem dX0_copyFrom_38 : decode cX0_copyFrom 38 = .ok (.getfield 26, 3) := by decide +kernel
theorem dX0_copyFrom_41 : decode cX0_copyFrom 41 = .ok (.invokevirtual 36, 3) := by decide +kernel
theorem dX0_copyFrom_44 : decode cX0_copyFrom 44 = .ok (.aload_n 0, 1) := by decide +kernel
theorem dX0_copyFrom_45 : decode cX0_copyFrom 45 = .ok (.getfield 29, 3) := by decide +kernel
theorem dX0_copyFrom_48 : decode cX0_copyFrom 48 = .ok (.aload_n 1, 1) := by decide +kernel
theorem dX0_copyFrom_49 : decode cX0_copyFrom 49 = .ok (.getfield 29, 3) := by decide +kernel
theorem dX0_copyFrom_52 : decode cX0_copyFrom 52 = .ok (.invokevirtual 36, 3) := by decide +kernel
theorem dX0_copyFrom_55 : decode cX0_copyFrom 55 = .ok (.return_, 1) := by decide +kernel
theorem dX0_numberIn_0 : decode cX0_numberIn 0 = .ok (.aload_n 0, 1) := by decide +kernel
theorem dX0_numberIn_1 : decode cX0_numberIn 1 = .ok (.getfield 14, 3) := by decide +kernel
theorem dX0_numberIn_4 : decode cX0_numberIn 4 = .ok (.iload_n 1, 1) := by decide +kernel
theorem dX0_numberIn_5 : decode cX0_numberIn 5 = .ok (.iload_n 2, 1) := by decide +kernel
theorem dX0_numberIn_6 : decode cX0_numberIn 6 = .ok (.invokestatic 40, 3) := by decide +kernel
theorem dX0_numberIn_9 : decode cX0_numberIn 9 = .ok (.invokevirtual 44, 3) := by decide +kernel
theorem dX0_numberIn_12 : decode cX0_numberIn 12 = .ok (.ireturn, 1) := by decide +kernel
theorem dX0_fill_0 : decode cX0_fill 0 = .ok (.aload_n 0, 1) := by decide +kernel
theorem dX0_fill_1 : decode cX0_fill 1 = .ok (.getfield 14, 3) := by decide +kernel
theorem dX0_fill_4 : decode cX0_fill 4 = .ok (.iload_n 1, 1) := by decide +kernel
theorem dX0_fill_5 : decode cX0_fill 5 = .ok (.iload_n 2, 1) := by decide +kernel
theorem dX0_fill_6 : decode cX0_fill 6 = .ok (.invokestatic 40, 3) := by decide +kernel
theorem dX0_fill_9 : decode cX0_fill 9 = .ok (.iload_n 3, 1) := by decide +kernel
theorem dX0_fill_10 : decode cX0_fill 10 = .ok (.invokevirtual 32, 3) := by decide +kernel
theorem dX0_fill_13 : decode cX0_fill 13 = .ok (.return_, 1) := by decide +kernel
theorem dX0_bankAt_0 : decode cX0_bankAt 0 = .ok (.aload_n 0, 1) := by decide +kernel
theorem dX0_bankAt_1 : decode cX0_bankAt 1 = .ok (.getfield 23, 3) := by decide +kernel
theorem dX0_bankAt_4 : decode cX0_bankAt 4 = .ok (.iload_n 1, 1) := by decide +kernel
theorem dX0_bankAt_5 : decode cX0_bankAt 5 = .ok (.bipush 16, 2) := by decide +kernel
theorem dX0_bankAt_7 : decode cX0_bankAt 7 = .ok (.idiv, 1) := by decide +kernel
theorem dX0_bankAt_8 : decode cX0_bankAt 8 = .ok (.invokevirtual 44, 3) := by decide +kernel
theorem dX0_bankAt_11 : decode cX0_bankAt 11 = .ok (.ireturn, 1) := by decide +kernel
theorem dX0_numberAt_0 : decode cX0_numberAt 0 = .ok (.aload_n 0, 1) := by decide +kernel
theorem dX0_numberAt_1 : decode cX0_numberAt 1 = .ok (.aload_n 0, 1) := by decide +kernel
theorem dX0_numberAt_2 : decode cX0_numberAt 2 = .ok (.iload_n 1, 1) := by decide +kernel
theorem dX0_numberAt_3 : decode cX0_numberAt 3 = .ok (.invokevirtual 48, 3) := by decide +kernel
theorem dX0_numberAt_6 : decode cX0_numberAt 6 = .ok (.iload_n 1, 1) := by decide +kernel
theorem dX0_numberAt_7 : decode cX0_numberAt 7 = .ok (.bipush 16, 2) := by decide +kernel
theorem dX0_numberAt_9 : decode cX0_numberAt 9 = .ok (.irem, 1) := by decide +kernel
theorem dX0_numberAt_10 : decode cX0_numberAt 10 = .ok (.invokevirtual 51, 3) := by decide +kernel
theorem dX0_numberAt_13 : decode cX0_numberAt 13 = .ok (.ireturn, 1) := by decide +kernel
theorem dX0_storeUnlessAlone_0 : decode cX0_storeUnlessAlone 0 = .ok (.aload_n 0, 1) := by decide +kernel
theorem dX0_storeUnlessAlone_1 : decode cX0_storeUnlessAlone 1 = .ok (.iload_n 1, 1) := by decide +kernel
theorem dX0_storeUnlessAlone_2 : decode cX0_storeUnlessAlone 2 = .ok (.invokevirtual 48, 3) := by decide +kernel
theorem dX0_storeUnlessAlone_5 : decode cX0_storeUnlessAlone 5 = .ok (.istore_n 3, 1) := by decide +kernel
theorem dX0_storeUnlessAlone_6 : decode cX0_storeUnlessAlone 6 = .ok (.aload_n 0, 1) := by decide +kernel
theorem dX0_storeUnlessAlone_7 : decode cX0_storeUnlessAlone 7 = .ok (.iload_n 3, 1) := by decide +kernel
theorem dX0_storeUnlessAlone_8 : decode cX0_storeUnlessAlone 8 = .ok (.invokevirtual 54, 3) := by decide +kernel
theorem dX0_storeUnlessAlone_11 : decode cX0_storeUnlessAlone 11 = .ok (.ifCond .eq 23, 3) := by decide +kernel
theorem dX0_storeUnlessAlone_14 : decode cX0_storeUnlessAlone 14 = .ok (.aload_n 0, 1) := by decide +kernel
theorem dX0_storeUnlessAlone_15 : decode cX0_storeUnlessAlone 15 = .ok (.getfield 29, 3) := by decide +kernel
theorem dX0_storeUnlessAlone_18 : decode cX0_storeUnlessAlone 18 = .ok (.iload_n 3, 1) := by decide +kernel
theorem dX0_storeUnlessAlone_19 : decode cX0_storeUnlessAlone 19 = .ok (.aload_n 0, 1) := by decide +kernel
theorem dX0_storeUnlessAlone_20 : decode cX0_storeUnlessAlone 20 = .ok (.getfield 29, 3) := by decide +kernel
theorem dX0_storeUnlessAlone_23 : decode cX0_storeUnlessAlone 23 = .ok (.iload_n 3, 1) := by decide +kernel
theorem dX0_storeUnlessAlone_24 : decode cX0_storeUnlessAlone 24 = .ok (.invokevirtual 44, 3) := by decide +kernel
theorem dX0_storeUnlessAlone_27 : decode cX0_storeUnlessAlone 27 = .ok (.iconst 1, 1) := by decide +kernel
theorem dX0_storeUnlessAlone_28 : decode cX0_storeUnlessAlone 28 = .ok (.iadd, 1) := by decide +kernel
theorem dX0_storeUnlessAlone_29 : decode cX0_storeUnlessAlone 29 = .ok (.invokevirtual 32, 3) := by decide +kernel
theorem dX0_storeUnlessAlone_32 : decode cX0_storeUnlessAlone 32 = .ok (.iconst 0, 1) := by decide +kernel
theorem dX0_storeUnlessAlone_33 : decode cX0_storeUnlessAlone 33 = .ok (.ireturn, 1) := by decide +kernel
theorem dX0_storeUnlessAlone_34 : decode cX0_storeUnlessAlone 34 = .ok (.aload_n 0, 1) := by decide +kernel
theorem dX0_storeUnlessAlone_35 : decode cX0_storeUnlessAlone 35 = .ok (.iload_n 3, 1) := by decide +kernel
theorem dX0_storeUnlessAlone_36 : decode cX0_storeUnlessAlone 36 = .ok (.iload_n 1, 1) := by decide +kernel
theorem dX0_storeUnlessAlone_37 : decode cX0_storeUnlessAlone 37 = .ok (.bipush 16, 2) := by decide +kernel
theorem dX0_storeUnlessAlone_39 : decode cX0_storeUnlessAlone 39 = .ok (.irem, 1) := by decide +kernel
theorem dX0_storeUnlessAlone_40 : decode cX0_storeUnlessAlone 40 = .ok (.iload_n 2, 1) := by decide +kernel
theorem dX0_storeUnlessAlone_41 : decode cX0_storeUnlessAlone 41 = .ok (.invokevirtual 58, 3) := by decide +kernel
theorem dX0_storeUnlessAlone_44 : decode cX0_storeUnlessAlone 44 = .ok (.aload_n 0, 1) := by decide +kernel
theorem dX0_storeUnlessAlone_45 : decode cX0_storeUnlessAlone 45 = .ok (.getfield 26, 3) := by decide +kernel
theorem dX0_storeUnlessAlone_48 : decode cX0_storeUnlessAlone 48 = .ok (.iload_n 3, 1) := by decide +kernel
theorem dX0_storeUnlessAlone_49 : decode cX0_storeUnlessAlone 49 = .ok (.aload_n 0, 1) := by decide +kernel
theorem dX0_storeUnlessAlone_50 : decode cX0_storeUnlessAlone 50 = .ok (.getfield 26, 3) := by decide +kernel
theorem dX0_storeUnlessAlone_53 : decode cX0_storeUnlessAlone 53 = .ok (.iload_n 3, 1) := by decide +kernel
theorem dX0_storeUnlessAlone_54 : decode cX0_storeUnlessAlone 54 = .ok (.invokevirtual 44, 3) := by decide +kernel
theorem dX0_storeUnlessAlone_57 : decode cX0_storeUnlessAlone 57 = .ok (.iconst 1, 1) := by decide +kernel
theorem dX0_storeUnlessAlone_58 : decode cX0_storeUnlessAlone 58 = .ok (.iadd, 1) := by decide +kernel
theorem dX0_storeUnlessAlone_59 : decode cX0_storeUnlessAlone 59 = .ok (.invokevirtual 32, 3) := by decide +kernel
theorem dX0_storeUnlessAlone_62 : decode cX0_storeUnlessAlone 62 = .ok (.iconst 1, 1) := by decide +kernel
theorem dX0_storeUnlessAlone_63 : decode cX0_storeUnlessAlone 63 = .ok (.ireturn, 1) := by decide +kernel
theorem dX0_isAlone_0 : decode cX0_isAlone 0 = .ok (.aload_n 0, 1) := by decide +kernel
theorem dX0_isAlone_1 : decode cX0_isAlone 1 = .ok (.getfield 20, 3) := by decide +kernel
theorem dX0_isAlone_4 : decode cX0_isAlone 4 = .ok (.iload_n 1, 1) := by decide +kernel
theorem dX0_isAlone_5 : decode cX0_isAlone 5 = .ok (.invokevirtual 44, 3) := by decide +kernel
theorem dX0_isAlone_8 : decode cX0_isAlone 8 = .ok (.iconst 1, 1) := by decide +kernel
theorem dX0_isAlone_9 : decode cX0_isAlone 9 = .ok (.if_icmp .ne 7, 3) := by decide +kernel
theorem dX0_isAlone_12 : decode cX0_isAlone 12 = .ok (.iconst 1, 1) := by decide +kernel
theorem dX0_isAlone_13 : decode cX0_isAlone 13 = .ok (.goto 4, 3) := by decide +kernel
theorem dX0_isAlone_16 : decode cX0_isAlone 16 = .ok (.iconst 0, 1) := by decide +kernel
theorem dX0_isAlone_17 : decode cX0_isAlone 17 = .ok (.ireturn, 1) := by decide +kernel
theorem dX0_differencesOf_0 : decode cX0_differencesOf 0 = .ok (.iconst 0, 1) := by decide +kernel
theorem dX0_differencesOf_1 : decode cX0_differencesOf 1 = .ok (.istore_n 3, 1) := by decide +kernel
theorem dX0_differencesOf_2 : decode cX0_differencesOf 2 = .ok (.iconst 0, 1) := by decide +kernel
theorem dX0_differencesOf_3 : decode cX0_differencesOf 3 = .ok (.istore 4, 2) := by decide +kernel
theorem dX0_differencesOf_5 : decode cX0_differencesOf 5 = .ok (.iload 4, 2) := by decide +kernel
theorem dX0_differencesOf_7 : decode cX0_differencesOf 7 = .ok (.bipush 12, 2) := by decide +kernel
theorem dX0_differencesOf_9 : decode cX0_differencesOf 9 = .ok (.if_icmp .ge 29, 3) := by decide +kernel
theorem dX0_differencesOf_12 : decode cX0_differencesOf 12 = .ok (.aload_n 0, 1) := by decide +kernel
theorem dX0_differencesOf_13 : decode cX0_differencesOf 13 = .ok (.iload_n 1, 1) := by decide +kernel
theorem dX0_differencesOf_14 : decode cX0_differencesOf 14 = .ok (.iload 4, 2) := by decide +kernel
theorem dX0_differencesOf_16 : decode cX0_differencesOf 16 = .ok (.invokevirtual 51, 3) := by decide +kernel
theorem dX0_differencesOf_19 : decode cX0_differencesOf 19 = .ok (.aload_n 0, 1) := by decide +kernel
theorem dX0_differencesOf_20 : decode cX0_differencesOf 20 = .ok (.iload_n 2, 1) := by decide +kernel
theorem dX0_differencesOf_21 : decode cX0_differencesOf 21 = .ok (.iload 4, 2) := by decide +kernel
theorem dX0_differencesOf_23 : decode cX0_differencesOf 23 = .ok (.invokevirtual 51, 3) := by decide +kernel
theorem dX0_differencesOf_26 : decode cX0_differencesOf 26 = .ok (.if_icmp .eq 6, 3) := by decide +kernel
theorem dX0_differencesOf_29 : decode cX0_differencesOf 29 = .ok (.iinc 3 1, 3) := by decide +kernel
theorem dX0_differencesOf_32 : decode cX0_differencesOf 32 = .ok (.iinc 4 1, 3) := by decide +kernel
theorem dX0_differencesOf_35 : decode cX0_differencesOf 35 = .ok (.goto (-30), 3) := by decide +kernel
theorem dX0_differencesOf_38 : decode cX0_differencesOf 38 = .ok (.iload_n 3, 1) := by decide +kernel
theorem dX0_differencesOf_39 : decode cX0_differencesOf 39 = .ok (.ireturn, 1) := by decide +kernel
theorem dX0_copyCells_0 : decode cX0_copyCells 0 = .ok (.iconst 0, 1) := by decide +kernel
theorem dX0_copyCells_1 : decode cX0_copyCells 1 = .ok (.istore_n 3, 1) := by decide +kernel
theorem dX0_copyCells_2 : decode cX0_copyCells 2 = .ok (.iload_n 3, 1) := by decide +kernel
theorem dX0_copyCells_3 : decode cX0_copyCells 3 = .ok (.bipush 12, 2) := by decide +kernel
theorem dX0_copyCells_5 : decode cX0_copyCells 5 = .ok (.if_icmp .ge 21, 3) := by decide +kernel
theorem dX0_copyCells_8 : decode cX0_copyCells 8 = .ok (.aload_n 0, 1) := by decide +kernel
theorem dX0_copyCells_9 : decode cX0_copyCells 9 = .ok (.iload_n 2, 1) := by decide +kernel
theorem dX0_copyCells_10 : decode cX0_copyCells 10 = .ok (.iload_n 3, 1) := by decide +kernel
theorem dX0_copyCells_11 : decode cX0_copyCells 11 = .ok (.aload_n 0, 1) := by decide +kernel
theorem dX0_copyCells_12 : decode cX0_copyCells 12 = .ok (.iload_n 1, 1) := by decide +kernel
theorem dX0_copyCells_13 : decode cX0_copyCells 13 = .ok (.iload_n 3, 1) := by decide +kernel
theorem dX0_copyCells_14 : decode cX0_copyCells 14 = .ok (.invokevirtual 51, 3) := by decide +kernel
theorem dX0_copyCells_17 : decode cX0_copyCells 17 = .ok (.invokevirtual 58, 3) := by decide +kernel
theorem dX0_copyCells_20 : decode cX0_copyCells 20 = .ok (.iinc 3 1, 3) := by decide +kernel
theorem dX0_copyCells_23 : decode cX0_copyCells 23 = .ok (.goto (-21), 3) := by decide +kernel
theorem dX0_copyCells_26 : decode cX0_copyCells 26 = .ok (.return_, 1) := by decide +kernel
theorem dX0_twinOf_0 : decode cX0_twinOf 0 = .ok (.iload_n 1, 1) := by decide +kernel
theorem dX0_twinOf_1 : decode cX0_twinOf 1 = .ok (.bipush 16, 2) := by decide +kernel
theorem dX0_twinOf_3 : decode cX0_twinOf 3 = .ok (.irem, 1) := by decide +kernel
theorem dX0_twinOf_4 : decode cX0_twinOf 4 = .ok (.istore_n 2, 1) := by decide +kernel
theorem dX0_twinOf_5 : decode cX0_twinOf 5 = .ok (.iconst 0, 1) := by decide +kernel
theorem dX0_twinOf_6 : decode cX0_twinOf 6 = .ok (.istore_n 3, 1) := by decide +kernel
theorem dX0_twinOf_7 : decode cX0_twinOf 7 = .ok (.iload_n 3, 1) := by decide +kernel
theorem dX0_twinOf_8 : decode cX0_twinOf 8 = .ok (.iconst 4, 1) := by decide +kernel
theorem dX0_twinOf_9 : decode cX0_twinOf 9 = .ok (.if_icmp .ge 58, 3) := by decide +kernel
theorem dX0_twinOf_12 : decode cX0_twinOf 12 = .ok (.iload_n 3, 1) := by decide +kernel
theorem dX0_twinOf_13 : decode cX0_twinOf 13 = .ok (.bipush 16, 2) := by decide +kernel
theorem dX0_twinOf_15 : decode cX0_twinOf 15 = .ok (.imul, 1) := by decide +kernel
theorem dX0_twinOf_16 : decode cX0_twinOf 16 = .ok (.iload_n 2, 1) := by decide +kernel
theorem dX0_twinOf_17 : decode cX0_twinOf 17 = .ok (.iadd, 1) := by decide +kernel
theorem dX0_twinOf_18 : decode cX0_twinOf 18 = .ok (.istore 4, 2) := by decide +kernel
theorem dX0_twinOf_20 : decode cX0_twinOf 20 = .ok (.iload_n 2, 1) := by decide +kernel
theorem dX0_twinOf_21 : decode cX0_twinOf 21 = .ok (.bipush 12, 2) := by decide +kernel
theorem dX0_twinOf_23 : decode cX0_twinOf 23 = .ok (.if_icmp .ge 17, 3) := by decide +kernel
theorem dX0_twinOf_26 : decode cX0_twinOf 26 = .ok (.aload_n 0, 1) := by decide +kernel
theorem dX0_twinOf_27 : decode cX0_twinOf 27 = .ok (.iload 4, 2) := by decide +kernel
theorem dX0_twinOf_29 : decode cX0_twinOf 29 = .ok (.invokevirtual 48, 3) := by decide +kernel
theorem dX0_twinOf_32 : decode cX0_twinOf 32 = .ok (.aload_n 0, 1) := by decide +kernel
theorem dX0_twinOf_33 : decode cX0_twinOf 33 = .ok (.iload_n 1, 1) := by decide +kernel
theorem dX0_twinOf_34 : decode cX0_twinOf 34 = .ok (.invokevirtual 48, 3) := by decide +kernel
theorem dX0_twinOf_37 : decode cX0_twinOf 37 = .ok (.if_icmp .ne 7, 3) := by decide +kernel
theorem dX0_twinOf_40 : decode cX0_twinOf 40 = .ok (.iconst 1, 1) := by decide +kernel
theorem dX0_twinOf_41 : decode cX0_twinOf 41 = .ok (.goto 4, 3) := by decide +kernel
theorem dX0_twinOf_44 : decode cX0_twinOf 44 = .ok (.iconst 0, 1) := by decide +kernel
theorem dX0_twinOf_45 : decode cX0_twinOf 45 = .ok (.istore 5, 2) := by decide +kernel
theorem dX0_twinOf_47 : decode cX0_twinOf 47 = .ok (.iload 4, 2) := by decide +kernel
theorem dX0_twinOf_49 : decode cX0_twinOf 49 = .ok (.iload_n 1, 1) := by decide +kernel
theorem dX0_twinOf_50 : decode cX0_twinOf 50 = .ok (.if_icmp .eq 11, 3) := by decide +kernel
theorem dX0_twinOf_53 : decode cX0_twinOf 53 = .ok (.iload 5, 2) := by decide +kernel
theorem dX0_twinOf_55 : decode cX0_twinOf 55 = .ok (.ifCond .eq 6, 3) := by decide +kernel
theorem dX0_twinOf_58 : decode cX0_twinOf 58 = .ok (.iload 4, 2) := by decide +kernel
theorem dX0_twinOf_60 : decode cX0_twinOf 60 = .ok (.ireturn, 1) := by decide +kernel
theorem dX0_twinOf_61 : decode cX0_twinOf 61 = .ok (.iinc 3 1, 3) := by decide +kernel
theorem dX0_twinOf_64 : decode cX0_twinOf 64 = .ok (.goto (-57), 3) := by decide +kernel
theorem dX0_twinOf_67 : decode cX0_twinOf 67 = .ok (.bipush (-5), 2) := by decide +kernel
theorem dX0_twinOf_69 : decode cX0_twinOf 69 = .ok (.ireturn, 1) := by decide +kernel
theorem dX0_windowsOf_0 : decode cX0_windowsOf 0 = .ok (.iconst 0, 1) := by decide +kernel
theorem dX0_windowsOf_1 : decode cX0_windowsOf 1 = .ok (.istore_n 2, 1) := by decide +kernel
theorem dX0_windowsOf_2 : decode cX0_windowsOf 2 = .ok (.iconst 0, 1) := by decide +kernel
theorem dX0_windowsOf_3 : decode cX0_windowsOf 3 = .ok (.istore_n 3, 1) := by decide +kernel
theorem dX0_windowsOf_4 : decode cX0_windowsOf 4 = .ok (.iload_n 3, 1) := by decide +kernel
theorem dX0_windowsOf_5 : decode cX0_windowsOf 5 = .ok (.iconst 4, 1) := by decide +kernel
theorem dX0_windowsOf_6 : decode cX0_windowsOf 6 = .ok (.if_icmp .ge 27, 3) := by decide +kernel
theorem dX0_windowsOf_9 : decode cX0_windowsOf 9 = .ok (.aload_n 0, 1) := by decide +kernel
theorem dX0_windowsOf_10 : decode cX0_windowsOf 10 = .ok (.getfield 23, 3) := by decide +kernel
theorem dX0_windowsOf_13 : decode cX0_windowsOf 13 = .ok (.iload_n 3, 1) := by decide +kernel
theorem dX0_windowsOf_14 : decode cX0_windowsOf 14 = .ok (.invokevirtual 44, 3) := by decide +kernel
theorem dX0_windowsOf_17 : decode cX0_windowsOf 17 = .ok (.iload_n 1, 1) := by decide +kernel
theorem dX0_windowsOf_18 : decode cX0_windowsOf 18 = .ok (.if_icmp .ne 9, 3) := by decide +kernel
theorem dX0_windowsOf_21 : decode cX0_windowsOf 21 = .ok (.iload_n 2, 1) := by decide +kernel
theorem dX0_windowsOf_22 : decode cX0_windowsOf 22 = .ok (.iconst 1, 1) := by decide +kernel
theorem dX0_windowsOf_23 : decode cX0_windowsOf 23 = .ok (.iload_n 3, 1) := by decide +kernel
theorem dX0_windowsOf_24 : decode cX0_windowsOf 24 = .ok (.ishl, 1) := by decide +kernel
theorem dX0_windowsOf_25 : decode cX0_windowsOf 25 = .ok (.ior, 1) := by decide +kernel
theorem dX0_windowsOf_26 : decode cX0_windowsOf 26 = .ok (.istore_n 2, 1) := by decide +kernel
theorem dX0_windowsOf_27 : decode cX0_windowsOf 27 = .ok (.iinc 3 1, 3) := by decide +kernel
theorem dX0_windowsOf_30 : decode cX0_windowsOf 30 = .ok (.goto (-26), 3) := by decide +kernel
theorem dX0_windowsOf_33 : decode cX0_windowsOf 33 = .ok (.iload_n 2, 1) := by decide +kernel
theorem dX0_windowsOf_34 : decode cX0_windowsOf 34 = .ok (.ireturn, 1) := by decide +kernel
theorem dX0_usedCellsOf_0 : decode cX0_usedCellsOf 0 = .ok (.iconst 0, 1) := by decide +kernel
theorem dX0_usedCellsOf_1 : decode cX0_usedCellsOf 1 = .ok (.istore_n 2, 1) := by decide +kernel
theorem dX0_usedCellsOf_2 : decode cX0_usedCellsOf 2 = .ok (.iconst 0, 1) := by decide +kernel
theorem dX0_usedCellsOf_3 : decode cX0_usedCellsOf 3 = .ok (.istore_n 3, 1) := by decide +kernel
theorem dX0_usedCellsOf_4 : decode cX0_usedCellsOf 4 = .ok (.iload_n 3, 1) := by decide +kernel
theorem dX0_usedCellsOf_5 : decode cX0_usedCellsOf 5 = .ok (.bipush 12, 2) := by decide +kernel
theorem dX0_usedCellsOf_7 : decode cX0_usedCellsOf 7 = .ok (.if_icmp .ge 21, 3) := by decide +kernel
theorem dX0_usedCellsOf_10 : decode cX0_usedCellsOf 10 = .ok (.aload_n 0, 1) := by decide +kernel
theorem dX0_usedCellsOf_11 : decode cX0_usedCellsOf 11 = .ok (.iload_n 1, 1) := by decide +kernel
theorem dX0_usedCellsOf_12 : decode cX0_usedCellsOf 12 = .ok (.iload_n 3, 1) := by decide +kernel
theorem dX0_usedCellsOf_13 : decode cX0_usedCellsOf 13 = .ok (.invokevirtual 51, 3) := by decide +kernel
theorem dX0_usedCellsOf_16 : decode cX0_usedCellsOf 16 = .ok (.ifCond .eq 6, 3) := by decide +kernel
theorem dX0_usedCellsOf_19 : decode cX0_usedCellsOf 19 = .ok (.iinc 2 1, 3) := by decide +kernel
theorem dX0_usedCellsOf_22 : decode cX0_usedCellsOf 22 = .ok (.iinc 3 1, 3) := by decide +kernel
theorem dX0_usedCellsOf_25 : decode cX0_usedCellsOf 25 = .ok (.goto (-21), 3) := by decide +kernel
theorem dX0_usedCellsOf_28 : decode cX0_usedCellsOf 28 = .ok (.iload_n 2, 1) := by decide +kernel
theorem dX0_usedCellsOf_29 : decode cX0_usedCellsOf 29 = .ok (.ireturn, 1) := by decide +kernel
theorem dX0_indexOf_0 : decode cX0_indexOf 0 = .ok (.iload_n 1, 1) := by decide +kernel
theorem dX0_indexOf_1 : decode cX0_indexOf 1 = .ok (.bipush 12, 2) := by decide +kernel
theorem dX0_indexOf_3 : decode cX0_indexOf 3 = .ok (.if_icmp .ge 12, 3) := by decide +kernel
theorem dX0_indexOf_6 : decode cX0_indexOf 6 = .ok (.iload_n 0, 1) := by decide +kernel
theorem dX0_indexOf_7 : decode cX0_indexOf 7 = .ok (.bipush 12, 2) := by decide +kernel
theorem dX0_indexOf_9 : decode cX0_indexOf 9 = .ok (.imul, 1) := by decide +kernel
theorem dX0_indexOf_10 : decode cX0_indexOf 10 = .ok (.iload_n 1, 1) := by decide +kernel
theorem dX0_indexOf_11 : decode cX0_indexOf 11 = .ok (.iadd, 1) := by decide +kernel
theorem dX0_indexOf_12 : decode cX0_indexOf 12 = .ok (.goto 10, 3) := by decide +kernel
theorem dX0_indexOf_15 : decode cX0_indexOf 15 = .ok (.bipush 96, 2) := by decide +kernel
theorem dX0_indexOf_17 : decode cX0_indexOf 17 = .ok (.iload_n 1, 1) := by decide +kernel
theorem dX0_indexOf_18 : decode cX0_indexOf 18 = .ok (.iadd, 1) := by decide +kernel
theorem dX0_indexOf_19 : decode cX0_indexOf 19 = .ok (.bipush 12, 2) := by decide +kernel
theorem dX0_indexOf_21 : decode cX0_indexOf 21 = .ok (.isub, 1) := by decide +kernel
theorem dX0_indexOf_22 : decode cX0_indexOf 22 = .ok (.ireturn, 1) := by decide +kernel
theorem dX1_init_0 : decode cX1_init 0 = .ok (.aload_n 0, 1) := by decide +kernel
theorem dX1_init_1 : decode cX1_init 1 = .ok (.invokespecial 3, 3) := by decide +kernel
theorem dX1_init_4 : decode cX1_init 4 = .ok (.aload_n 0, 1) := by decide +kernel
theorem dX1_init_5 : decode cX1_init 5 = .ok (.new 9, 3) := by decide +kernel
theorem dX1_init_8 : decode cX1_init 8 = .ok (.dup, 1) := by decide +kernel
theorem dX1_init_9 : decode cX1_init 9 = .ok (.bipush 16, 2) := by decide +kernel
theorem dX1_init_11 : decode cX1_init 11 = .ok (.invokespecial 11, 3) := by decide +kernel
theorem dX1_init_14 : decode cX1_init 14 = .ok (.putfield 14, 3) := by decide +kernel
theorem dX1_init_17 : decode cX1_init 17 = .ok (.return_, 1) := by decide +kernel
theorem dX1_readFrom_0 : decode cX1_readFrom 0 = .ok (.aload_n 0, 1) := by decide +kernel
theorem dX1_readFrom_1 : decode cX1_readFrom 1 = .ok (.iconst 0, 1) := by decide +kernel
theorem dX1_readFrom_2 : decode cX1_readFrom 2 = .ok (.putfield 20, 3) := by decide +kernel
theorem dX1_readFrom_5 : decode cX1_readFrom 5 = .ok (.aload_n 0, 1) := by decide +kernel
theorem dX1_readFrom_6 : decode cX1_readFrom 6 = .ok (.iconst 0, 1) := by decide +kernel
theorem dX1_readFrom_7 : decode cX1_readFrom 7 = .ok (.putfield 24, 3) := by decide +kernel
theorem dX1_readFrom_10 : decode cX1_readFrom 10 = .ok (.iconst 1, 1) := by decide +kernel
theorem dX1_readFrom_11 : decode cX1_readFrom 11 = .ok (.istore_n 2, 1) := by decide +kernel
theorem dX1_readFrom_12 : decode cX1_readFrom 12 = .ok (.iload_n 2, 1) := by decide +kernel
theorem dX1_readFrom_13 : decode cX1_readFrom 13 = .ok (.ifCond .eq 85, 3) := by decide +kernel
theorem dX1_readFrom_16 : decode cX1_readFrom 16 = .ok (.aload_n 0, 1) := by decide +kernel
theorem dX1_readFrom_17 : decode cX1_readFrom 17 = .ok (.getfield 20, 3) := by decide +kernel
theorem dX1_readFrom_20 : decode cX1_readFrom 20 = .ok (.bipush 80, 2) := by decide +kernel
theorem dX1_readFrom_22 : decode cX1_readFrom 22 = .ok (.if_icmp .ge 76, 3) := by decide +kernel
theorem dX1_readFrom_25 : decode cX1_readFrom 25 = .ok (.aload_n 0, 1) := by decide +kernel
theorem dX1_readFrom_26 : decode cX1_readFrom 26 = .ok (.getfield 14, 3) := by decide +kernel
theorem dX1_readFrom_29 : decode cX1_readFrom 29 = .ok (.aload_n 0, 1) := by decide +kernel
theorem dX1_readFrom_30 : decode cX1_readFrom 30 = .ok (.getfield 20, 3) := by decide +kernel
theorem dX1_readFrom_33 : decode cX1_readFrom 33 = .ok (.aload_n 0, 1) := by decide +kernel
theorem dX1_readFrom_34 : decode cX1_readFrom 34 = .ok (.aload_n 1, 1) := by decide +kernel
theorem dX1_readFrom_35 : decode cX1_readFrom 35 = .ok (.invokevirtual 27, 3) := by decide +kernel
theorem dX1_readFrom_38 : decode cX1_readFrom 38 = .ok (.invokevirtual 31, 3) := by decide +kernel
theorem dX1_readFrom_41 : decode cX1_readFrom 41 = .ok (.aload_n 0, 1) := by decide +kernel
theorem dX1_readFrom_42 : decode cX1_readFrom 42 = .ok (.dup, 1) := by decide +kernel
theorem dX1_readFrom_43 : decode cX1_readFrom 43 = .ok (.getfield 20, 3) := by decide +kernel
theorem dX1_readFrom_46 : decode cX1_readFrom 46 = .ok (.iconst 1, 1) := by decide +kernel
theorem dX1_readFrom_47 : decode cX1_readFrom 47 = .ok (.iadd, 1) := by decide +kernel
theorem dX1_readFrom_48 : decode cX1_readFrom 48 = .ok (.putfield 20, 3) := by decide +kernel
theorem dX1_readFrom_51 : decode cX1_readFrom 51 = .ok (.aload_n 0, 1) := by decide +kernel
theorem dX1_readFrom_52 : decode cX1_readFrom 52 = .ok (.getfield 35, 3) := by decide +kernel
theorem dX1_readFrom_55 : decode cX1_readFrom 55 = .ok (.ifCond .eq 20, 3) := by decide +kernel
theorem dX1_readFrom_58 : decode cX1_readFrom 58 = .ok (.aload_n 1, 1) := by decide +kernel
theorem dX1_readFrom_59 : decode cX1_readFrom 59 = .ok (.aload_n 0, 1) := by decide +kernel
theorem dX1_readFrom_60 : decode cX1_readFrom 60 = .ok (.getfield 24, 3) := by decide +kernel
theorem dX1_readFrom_63 : decode cX1_readFrom 63 = .ok (.invokevirtual 39, 3) := by decide +kernel
theorem dX1_readFrom_66 : decode cX1_readFrom 66 = .ok (.bipush 59, 2) := by decide +kernel
theorem dX1_readFrom_68 : decode cX1_readFrom 68 = .ok (.if_icmp .ne 7, 3) := by decide +kernel
theorem dX1_readFrom_71 : decode cX1_readFrom 71 = .ok (.iconst 1, 1) := by decide +kernel
theorem dX1_readFrom_72 : decode cX1_readFrom 72 = .ok (.goto 4, 3) := by decide +kernel
theorem dX1_readFrom_75 : decode cX1_readFrom 75 = .ok (.iconst 0, 1) := by decide +kernel
theorem dX1_readFrom_76 : decode cX1_readFrom 76 = .ok (.istore_n 2, 1) := by decide +kernel
theorem dX1_readFrom_77 : decode cX1_readFrom 77 = .ok (.aload_n 0, 1) := by decide +kernel
theorem dX1_readFrom_78 : decode cX1_readFrom 78 = .ok (.dup, 1) := by decide +kernel
theorem dX1_readFrom_79 : decode cX1_readFrom 79 = .ok (.getfield 24, 3) := by decide +kernel
theorem dX1_readFrom_82 : decode cX1_readFrom 82 = .ok (.iload_n 2, 1) := by decide +kernel
theorem dX1_readFrom_83 : decode cX1_readFrom 83 = .ok (.ifCond .eq 7, 3) := by decide +kernel
theorem dX1_readFrom_86 : decode cX1_readFrom 86 = .ok (.iconst 1, 1) := by decide +kernel
theorem dX1_readFrom_87 : decode cX1_readFrom 87 = .ok (.goto 4, 3) := by decide +kernel
theorem dX1_readFrom_90 : decode cX1_readFrom 90 = .ok (.iconst 0, 1) := by decide +kernel
theorem dX1_readFrom_91 : decode cX1_readFrom 91 = .ok (.iadd, 1) := by decide +kernel
theorem dX1_readFrom_92 : decode cX1_readFrom 92 = .ok (.putfield 24, 3) := by decide +kernel
theorem dX1_readFrom_95 : decode cX1_readFrom 95 = .ok (.goto (-83), 3) := by decide +kernel
theorem dX1_readFrom_98 : decode cX1_readFrom 98 = .ok (.aload_n 0, 1) := by decide +kernel
theorem dX1_readFrom_99 : decode cX1_readFrom 99 = .ok (.aload_n 0, 1) := by decide +kernel
theorem dX1_readFrom_100 : decode cX1_readFrom 100 = .ok (.getfield 35, 3) := by decide +kernel
theorem dX1_readFrom_103 : decode cX1_readFrom 103 = .ok (.ifCond .eq 19, 3) := by decide +kernel
theorem dX1_readFrom_106 : decode cX1_readFrom 106 = .ok (.aload_n 1, 1) := by decide +kernel
theorem dX1_readFrom_107 : decode cX1_readFrom 107 = .ok (.aload_n 0, 1) := by decide +kernel
theorem dX1_readFrom_108 : decode cX1_readFrom 108 = .ok (.getfield 24, 3) := by decide +kernel
theorem dX1_readFrom_111 : decode cX1_readFrom 111 = .ok (.invokevirtual 39, 3) := by decide +kernel
theorem dX1_readFrom_114 : decode cX1_readFrom 114 = .ok (.iconst (-1), 1) := by decide +kernel
theorem dX1_readFrom_115 : decode cX1_readFrom 115 = .ok (.if_icmp .ne 7, 3) := by decide +kernel
theorem dX1_readFrom_118 : decode cX1_readFrom 118 = .ok (.iconst 1, 1) := by decide +kernel
theorem dX1_readFrom_119 : decode cX1_readFrom 119 = .ok (.goto 4, 3) := by decide +kernel
theorem dX1_readFrom_122 : decode cX1_readFrom 122 = .ok (.iconst 0, 1) := by decide +kernel
theorem dX1_readFrom_123 : decode cX1_readFrom 123 = .ok (.putfield 35, 3) := by decide +kernel
theorem dX1_readFrom_126 : decode cX1_readFrom 126 = .ok (.return_, 1) := by decide +kernel
theorem dX1_readOrder_0 : decode cX1_readOrder 0 = .ok (.aload_n 0, 1) := by decide +kernel
theorem dX1_readOrder_1 : decode cX1_readOrder 1 = .ok (.aload_n 1, 1) := by decide +kernel
theorem dX1_readOrder_2 : decode cX1_readOrder 2 = .ok (.invokevirtual 45, 3) := by decide +kernel
theorem dX1_readOrder_5 : decode cX1_readOrder 5 = .ok (.istore_n 2, 1) := by decide +kernel
theorem dX1_readOrder_6 : decode cX1_readOrder 6 = .ok (.iconst 0, 1) := by decide +kernel
theorem dX1_readOrder_7 : decode cX1_readOrder 7 = .ok (.istore_n 3, 1) := by decide +kernel
theorem dX1_readOrder_8 : decode cX1_readOrder 8 = .ok (.aload_n 0, 1) := by decide +kernel
theorem dX1_readOrder_9 : decode cX1_readOrder 9 = .ok (.getfield 35, 3) := by decide +kernel
theorem dX1_readOrder_12 : decode cX1_readOrder 12 = .ok (.ifCond .eq 21, 3) := by decide +kernel
theorem dX1_readOrder_15 : decode cX1_readOrder 15 = .ok (.iload_n 2, 1) := by decide +kernel
theorem dX1_readOrder_16 : decode cX1_readOrder 16 = .ok (.invokestatic 48, 3) := by decide +kernel
theorem dX1_readOrder_19 : decode cX1_readOrder 19 = .ok (.iconst (-1), 1) := by decide +kernel
theorem dX1_readOrder_20 : decode cX1_readOrder 20 = .ok (.if_icmp .eq 13, 3) := by decide +kernel
theorem dX1_readOrder_23 : decode cX1_readOrder 23 = .ok (.aload_n 0, 1) := by decide +kernel
theorem dX1_readOrder_24 : decode cX1_readOrder 24 = .ok (.aload_n 1, 1) := by decide +kernel
theorem dX1_readOrder_25 : decode cX1_readOrder 25 = .ok (.iload_n 2, 1) := by decide +kernel
theorem dX1_readOrder_26 : decode cX1_readOrder 26 = .ok (.invokestatic 48, 3) := by decide +kernel
theorem dX1_readOrder_29 : decode cX1_readOrder 29 = .ok (.invokevirtual 51, 3) := by decide +kernel
theorem dX1_readOrder_32 : decode cX1_readOrder 32 = .ok (.istore_n 3, 1) := by decide +kernel
theorem dX1_readOrder_33 : decode cX1_readOrder 33 = .ok (.aload_n 0, 1) := by decide +kernel
theorem dX1_readOrder_34 : decode cX1_readOrder 34 = .ok (.getfield 35, 3) := by decide +kernel
theorem dX1_readOrder_37 : decode cX1_readOrder 37 = .ok (.ifCond .eq 26, 3) := by decide +kernel
theorem dX1_readOrder_40 : decode cX1_readOrder 40 = .ok (.iload_n 2, 1) := by decide +kernel
theorem dX1_readOrder_41 : decode cX1_readOrder 41 = .ok (.invokestatic 55, 3) := by decide +kernel
theorem dX1_readOrder_44 : decode cX1_readOrder 44 = .ok (.iconst (-1), 1) := by decide +kernel
theorem dX1_readOrder_45 : decode cX1_readOrder 45 = .ok (.if_icmp .eq 18, 3) := by decide +kernel
theorem dX1_readOrder_48 : decode cX1_readOrder 48 = .ok (.iload_n 3, 1) := by decide +kernel
theorem dX1_readOrder_49 : decode cX1_readOrder 49 = .ok (.bipush 10, 2) := by decide +kernel
theorem dX1_readOrder_51 : decode cX1_readOrder 51 = .ok (.imul, 1) := by decide +kernel
theorem dX1_readOrder_52 : decode cX1_readOrder 52 = .ok (.aload_n 0, 1) := by decide +kernel
theorem dX1_readOrder_53 : decode cX1_readOrder 53 = .ok (.aload_n 1, 1) := by decide +kernel
theorem dX1_readOrder_54 : decode cX1_readOrder 54 = .ok (.iload_n 2, 1) := by decide +kernel
theorem dX1_readOrder_55 : decode cX1_readOrder 55 = .ok (.invokestatic 55, 3) := by decide +kernel
theorem dX1_readOrder_58 : decode cX1_readOrder 58 = .ok (.invokevirtual 51, 3) := by decide +kernel
theorem dX1_readOrder_61 : decode cX1_readOrder 61 = .ok (.iadd, 1) := by decide +kernel
theorem dX1_readOrder_62 : decode cX1_readOrder 62 = .ok (.istore_n 3, 1) := by decide +kernel
theorem dX1_readOrder_63 : decode cX1_readOrder 63 = .ok (.iload_n 2, 1) := by decide +kernel
theorem dX1_readOrder_64 : decode cX1_readOrder 64 = .ok (.bipush 100, 2) := by decide +kernel
theorem dX1_readOrder_66 : decode cX1_readOrder 66 = .ok (.imul, 1) := by decide +kernel
theorem dX1_readOrder_67 : decode cX1_readOrder 67 = .ok (.iload_n 3, 1) := by decide +kernel
theorem dX1_readOrder_68 : decode cX1_readOrder 68 = .ok (.iadd, 1) := by decide +kernel
theorem dX1_readOrder_69 : decode cX1_readOrder 69 = .ok (.ireturn, 1) := by decide +kernel
theorem dX1_readKind_0 : decode cX1_readKind 0 = .ok (.iconst 0, 1) := by decide +kernel
theorem dX1_readKind_1 : decode cX1_readKind 1 = .ok (.istore_n 2, 1) := by decide +kernel
theorem dX1_readKind_2 : decode cX1_readKind 2 = .ok (.iconst 0, 1) := by decide +kernel
theorem dX1_readKind_3 : decode cX1_readKind 3 = .ok (.istore_n 3, 1) := by decide +kernel
theorem dX1_readKind_4 : decode cX1_readKind 4 = .ok (.iconst 0, 1) := by decide +kernel
theorem dX1_readKind_5 : decode cX1_readKind 5 = .ok (.istore 4, 2) := by decide +kernel
theorem dX1_readKind_7 : decode cX1_readKind 7 = .ok (.iload 4, 2) := by decide +kernel
theorem dX1_readKind_9 : decode cX1_readKind 9 = .ok (.bipush 10, 2) := by decide +kernel
theorem dX1_readKind_11 : decode cX1_readKind 11 = .ok (.if_icmp .ge 33, 3) := by decide +kernel
theorem dX1_readKind_14 : decode cX1_readKind 14 = .ok (.aload_n 0, 1) := by decide +kernel
theorem dX1_readKind_15 : decode cX1_readKind 15 = .ok (.aload_n 1, 1) := by decide +kernel
theorem dX1_readKind_16 : decode cX1_readKind 16 = .ok (.iload 4, 2) := by decide +kernel
theorem dX1_readKind_18 : decode cX1_readKind 18 = .ok (.invokestatic 58, 3) := by decide +kernel
theorem dX1_readKind_21 : decode cX1_readKind 21 = .ok (.invokevirtual 62, 3) := by decide +kernel
theorem dX1_readKind_24 : decode cX1_readKind 24 = .ok (.istore 5, 2) := by decide +kernel
theorem dX1_readKind_26 : decode cX1_readKind 26 = .ok (.iload 5, 2) := by decide +kernel
theorem dX1_readKind_28 : decode cX1_readKind 28 = .ok (.iload_n 2, 1) := by decide +kernel
theorem dX1_readKind_29 : decode cX1_readKind 29 = .ok (.if_icmp .le 9, 3) := by decide +kernel
theorem dX1_readKind_32 : decode cX1_readKind 32 = .ok (.iload 5, 2) := by decide +kernel
theorem dX1_readKind_34 : decode cX1_readKind 34 = .ok (.istore_n 2, 1) := by decide +kernel
theorem dX1_readKind_35 : decode cX1_readKind 35 = .ok (.iload 4, 2) := by decide +kernel
theorem dX1_readKind_37 : decode cX1_readKind 37 = .ok (.istore_n 3, 1) := by decide +kernel
theorem dX1_readKind_38 : decode cX1_readKind 38 = .ok (.iinc 4 1, 3) := by decide +kernel
theorem dX1_readKind_41 : decode cX1_readKind 41 = .ok (.goto (-34), 3) := by decide +kernel
theorem dX1_readKind_44 : decode cX1_readKind 44 = .ok (.aload_n 0, 1) := by decide +kernel
theorem dX1_readKind_45 : decode cX1_readKind 45 = .ok (.dup, 1) := by decide +kernel
theorem dX1_readKind_46 : decode cX1_readKind 46 = .ok (.getfield 24, 3) := by decide +kernel
theorem dX1_readKind_49 : decode cX1_readKind 49 = .ok (.iload_n 2, 1) := by decide +kernel
theorem dX1_readKind_50 : decode cX1_readKind 50 = .ok (.iadd, 1) := by decide +kernel
theorem dX1_readKind_51 : decode cX1_readKind 51 = .ok (.putfield 24, 3) := by decide +kernel
theorem dX1_readKind_54 : decode cX1_readKind 54 = .ok (.aload_n 0, 1) := by decide +kernel
theorem dX1_readKind_55 : decode cX1_readKind 55 = .ok (.iload_n 2, 1) := by decide +kernel
theorem dX1_readKind_56 : decode cX1_readKind 56 = .ok (.iload_n 3, 1) := by decide +kernel
theorem dX1_readKind_57 : decode cX1_readKind 57 = .ok (.invokestatic 58, 3) := by decide +kernel
theorem dX1_readKind_60 : decode cX1_readKind 60 = .ok (.invokevirtual 66, 3) := by decide +kernel
theorem dX1_readKind_63 : decode cX1_readKind 63 = .ok (.if_icmp .ne 7, 3) := by decide +kernel
theorem dX1_readKind_66 : decode cX1_readKind 66 = .ok (.iconst 1, 1) := by decide +kernel
theorem dX1_readKind_67 : decode cX1_readKind 67 = .ok (.goto 4, 3) := by decide +kernel
theorem dX1_readKind_70 : decode cX1_readKind 70 = .ok (.iconst 0, 1) := by decide +kernel
theorem dX1_readKind_71 : decode cX1_readKind 71 = .ok (.putfield 35, 3) := by decide +kernel
theorem dX1_readKind_74 : decode cX1_readKind 74 = .ok (.iload_n 3, 1) := by decide +kernel
theorem dX1_readKind_75 : decode cX1_readKind 75 = .ok (.ireturn, 1) := by decide +kernel
theorem dX1_lengthOfBeginning_0 : decode cX1_lengthOfBeginning 0 = .ok (.iconst 0, 1) := by decide +kernel
theorem dX1_lengthOfBeginning_1 : decode cX1_lengthOfBeginning 1 = .ok (.istore_n 3, 1) := by decide +kernel
theorem dX1_lengthOfBeginning_2 : decode cX1_lengthOfBeginning 2 = .ok (.iload_n 3, 1) := by decide +kernel
theorem dX1_lengthOfBeginning_3 : decode cX1_lengthOfBeginning 3 = .ok (.aload_n 2, 1) := by decide +kernel
theorem dX1_lengthOfBeginning_4 : decode cX1_lengthOfBeginning 4 = .ok (.invokevirtual 66, 3) := by decide +kernel
theorem dX1_lengthOfBeginning_7 : decode cX1_lengthOfBeginning 7 = .ok (.if_icmp .ge 27, 3) := by decide +kernel
theorem dX1_lengthOfBeginning_10 : decode cX1_lengthOfBeginning 10 = .ok (.aload_n 1, 1) := by decide +kernel
theorem dX1_lengthOfBeginning_11 : decode cX1_lengthOfBeginning 11 = .ok (.aload_n 0, 1) := by decide +kernel
theorem dX1_lengthOfBeginning_12 : decode cX1_lengthOfBeginning 12 = .ok (.getfield 24, 3) := by decide +kernel
theorem dX1_lengthOfBeginning_15 : decode cX1_lengthOfBeginning 15 = .ok (.iload_n 3, 1) := by decide +kernel
theorem dX1_lengthOfBeginning_16 : decode cX1_lengthOfBeginning 16 = .ok (.iadd, 1) := by decide +kernel
theorem dX1_lengthOfBeginning_17 : decode cX1_lengthOfBeginning 17 = .ok (.invokevirtual 39, 3) := by decide +kernel
theorem dX1_lengthOfBeginning_20 : decode cX1_lengthOfBeginning 20 = .ok (.aload_n 2, 1) := by decide +kernel
theorem dX1_lengthOfBeginning_21 : decode cX1_lengthOfBeginning 21 = .ok (.iload_n 3, 1) := by decide +kernel
theorem dX1_lengthOfBeginning_22 : decode cX1_lengthOfBeginning 22 = .ok (.invokevirtual 72, 3) := by decide +kernel
theorem dX1_lengthOfBeginning_25 : decode cX1_lengthOfBeginning 25 = .ok (.if_icmp .ne 9, 3) := by decide +kernel
theorem dX1_lengthOfBeginning_28 : decode cX1_lengthOfBeginning 28 = .ok (.iinc 3 1, 3) := by decide +kernel
theorem dX1_lengthOfBeginning_31 : decode cX1_lengthOfBeginning 31 = .ok (.goto (-29), 3) := by decide +kernel
theorem dX1_lengthOfBeginning_34 : decode cX1_lengthOfBeginning 34 = .ok (.iload_n 3, 1) := by decide +kernel
theorem dX1_lengthOfBeginning_35 : decode cX1_lengthOfBeginning 35 = .ok (.ireturn, 1) := by decide +kernel
theorem dX1_readNumber_0 : decode cX1_readNumber 0 = .ok (.aload_n 0, 1) := by decide +kernel
theorem dX1_readNumber_1 : decode cX1_readNumber 1 = .ok (.aload_n 1, 1) := by decide +kernel
theorem dX1_readNumber_2 : decode cX1_readNumber 2 = .ok (.aload_n 0, 1) := by decide +kernel
theorem dX1_readNumber_3 : decode cX1_readNumber 3 = .ok (.getfield 24, 3) := by decide +kernel
theorem dX1_readNumber_6 : decode cX1_readNumber 6 = .ok (.invokevirtual 39, 3) := by decide +kernel
theorem dX1_readNumber_9 : decode cX1_readNumber 9 = .ok (.bipush 32, 2) := by decide +kernel
theorem dX1_readNumber_11 : decode cX1_readNumber 11 = .ok (.if_icmp .ne 7, 3) := by decide +kernel
theorem dX1_readNumber_14 : decode cX1_readNumber 14 = .ok (.iconst 1, 1) := by decide +kernel
theorem dX1_readNumber_15 : decode cX1_readNumber 15 = .ok (.goto 4, 3) := by decide +kernel
theorem dX1_readNumber_18 : decode cX1_readNumber 18 = .ok (.iconst 0, 1) := by decide +kernel
theorem dX1_readNumber_19 : decode cX1_readNumber 19 = .ok (.putfield 35, 3) := by decide +kernel
theorem dX1_readNumber_22 : decode cX1_readNumber 22 = .ok (.aload_n 0, 1) := by decide +kernel
theorem dX1_readNumber_23 : decode cX1_readNumber 23 = .ok (.getfield 35, 3) := by decide +kernel
theorem dX1_readNumber_26 : decode cX1_readNumber 26 = .ok (.ifCond .ne 5, 3) := by decide +kernel
theorem dX1_readNumber_29 : decode cX1_readNumber 29 = .ok (.iconst 0, 1) := by decide +kernel
theorem dX1_readNumber_30 : decode cX1_readNumber 30 = .ok (.ireturn, 1) := by decide +kernel
theorem dX1_readNumber_31 : decode cX1_readNumber 31 = .ok (.aload_n 0, 1) := by decide +kernel
theorem dX1_readNumber_32 : decode cX1_readNumber 32 = .ok (.dup, 1) := by decide +kernel
theorem dX1_readNumber_33 : decode cX1_readNumber 33 = .ok (.getfield 24, 3) := by decide +kernel
theorem dX1_readNumber_36 : decode cX1_readNumber 36 = .ok (.iconst 1, 1) := by decide +kernel
theorem dX1_readNumber_37 : decode cX1_readNumber 37 = .ok (.iadd, 1) := by decide +kernel
theorem dX1_readNumber_38 : decode cX1_readNumber 38 = .ok (.putfield 24, 3) := by decide +kernel
theorem dX1_readNumber_41 : decode cX1_readNumber 41 = .ok (.aload_n 1, 1) := by decide +kernel
theorem dX1_readNumber_42 : decode cX1_readNumber 42 = .ok (.aload_n 0, 1) := by decide +kernel
theorem dX1_readNumber_43 : decode cX1_readNumber 43 = .ok (.getfield 24, 3) := by decide +kernel
theorem dX1_readNumber_46 : decode cX1_readNumber 46 = .ok (.invokestatic 76, 3) := by decide +kernel
theorem dX1_readNumber_49 : decode cX1_readNumber 49 = .ok (.istore_n 3, 1) := by decide +kernel
theorem dX1_readNumber_50 : decode cX1_readNumber 50 = .ok (.aload_n 0, 1) := by decide +kernel
theorem dX1_readNumber_51 : decode cX1_readNumber 51 = .ok (.iload_n 3, 1) := by decide +kernel
theorem dX1_readNumber_52 : decode cX1_readNumber 52 = .ok (.ifCond .lt 12, 3) := by decide +kernel
theorem dX1_readNumber_55 : decode cX1_readNumber 55 = .ok (.iload_n 3, 1) := by decide +kernel
theorem dX1_readNumber_56 : decode cX1_readNumber 56 = .ok (.iload_n 2, 1) := by decide +kernel
theorem dX1_readNumber_57 : decode cX1_readNumber 57 = .ok (.if_icmp .gt 7, 3) := by decide +kernel
theorem dX1_readNumber_60 : decode cX1_readNumber 60 = .ok (.iconst 1, 1) := by decide +kernel
theorem dX1_readNumber_61 : decode cX1_readNumber 61 = .ok (.goto 4, 3) := by decide +kernel
theorem dX1_readNumber_64 : decode cX1_readNumber 64 = .ok (.iconst 0, 1) := by decide +kernel
theorem dX1_readNumber_65 : decode cX1_readNumber 65 = .ok (.putfield 35, 3) := by decide +kernel
theorem dX1_readNumber_68 : decode cX1_readNumber 68 = .ok (.aload_n 0, 1) := by decide +kernel
theorem dX1_readNumber_69 : decode cX1_readNumber 69 = .ok (.getfield 35, 3) := by decide +kernel
theorem dX1_readNumber_72 : decode cX1_readNumber 72 = .ok (.ifCond .ne 5, 3) := by decide +kernel
theorem dX1_readNumber_75 : decode cX1_readNumber 75 = .ok (.iconst 0, 1) := by decide +kernel
theorem dX1_readNumber_76 : decode cX1_readNumber 76 = .ok (.ireturn, 1) := by decide +kernel
theorem dX1_readNumber_77 : decode cX1_readNumber 77 = .ok (.aload_n 0, 1) := by decide +kernel
theorem dX1_readNumber_78 : decode cX1_readNumber 78 = .ok (.dup, 1) := by decide +kernel
theorem dX1_readNumber_79 : decode cX1_readNumber 79 = .ok (.getfield 24, 3) := by decide +kernel
theorem dX1_readNumber_82 : decode cX1_readNumber 82 = .ok (.iconst 1, 1) := by decide +kernel
theorem dX1_readNumber_83 : decode cX1_readNumber 83 = .ok (.iadd, 1) := by decide +kernel
theorem dX1_readNumber_84 : decode cX1_readNumber 84 = .ok (.putfield 24, 3) := by decide +kernel
theorem dX1_readNumber_87 : decode cX1_readNumber 87 = .ok (.aload_n 1, 1) := by decide +kernel
theorem dX1_readNumber_88 : decode cX1_readNumber 88 = .ok (.aload_n 0, 1) := by decide +kernel
theorem dX1_readNumber_89 : decode cX1_readNumber 89 = .ok (.getfield 24, 3) := by decide +kernel
theorem dX1_readNumber_92 : decode cX1_readNumber 92 = .ok (.invokestatic 76, 3) := by decide +kernel
theorem dX1_readNumber_95 : decode cX1_readNumber 95 = .ok (.istore 4, 2) := by decide +kernel
theorem dX1_readNumber_97 : decode cX1_readNumber 97 = .ok (.iload_n 3, 1) := by decide +kernel
theorem dX1_readNumber_98 : decode cX1_readNumber 98 = .ok (.ifCond .le 37, 3) := by decide +kernel
theorem dX1_readNumber_101 : decode cX1_readNumber 101 = .ok (.iload 4, 2) := by decide +kernel
theorem dX1_readNumber_103 : decode cX1_readNumber 103 = .ok (.ifCond .lt 32, 3) := by decide +kernel
theorem dX1_readNumber_106 : decode cX1_readNumber 106 = .ok (.iload_n 3, 1) := by decide +kernel
theorem dX1_readNumber_107 : decode cX1_readNumber 107 = .ok (.bipush 10, 2) := by decide +kernel
theorem dX1_readNumber_109 : decode cX1_readNumber 109 = .ok (.imul, 1) := by decide +kernel
theorem dX1_readNumber_110 : decode cX1_readNumber 110 = .ok (.iload 4, 2) := by decide +kernel
theorem dX1_readNumber_112 : decode cX1_readNumber 112 = .ok (.iadd, 1) := by decide +kernel
theorem dX1_readNumber_113 : decode cX1_readNumber 113 = .ok (.iload_n 2, 1) := by decide +kernel
theorem dX1_readNumber_114 : decode cX1_readNumber 114 = .ok (.if_icmp .gt 21, 3) := by decide +kernel
theorem dX1_readNumber_117 : decode cX1_readNumber 117 = .ok (.iload_n 3, 1) := by decide +kernel
theorem dX1_readNumber_118 : decode cX1_readNumber 118 = .ok (.bipush 10, 2) := by decide +kernel
theorem dX1_readNumber_120 : decode cX1_readNumber 120 = .ok (.imul, 1) := by decide +kernel
theorem dX1_readNumber_121 : decode cX1_readNumber 121 = .ok (.iload 4, 2) := by decide +kernel
theorem dX1_readNumber_123 : decode cX1_readNumber 123 = .ok (.iadd, 1) := by decide +kernel
theorem dX1_readNumber_124 : decode cX1_readNumber 124 = .ok (.istore_n 3, 1) := by decide +kernel
theorem dX1_readNumber_125 : decode cX1_readNumber 125 = .ok (.aload_n 0, 1) := by decide +kernel
theorem dX1_readNumber_126 : decode cX1_readNumber 126 = .ok (.dup, 1) := by decide +kernel
theorem dX1_readNumber_127 : decode cX1_readNumber 127 = .ok (.getfield 24, 3) := by decide +kernel
theorem dX1_readNumber_130 : decode cX1_readNumber 130 = .ok (.iconst 1, 1) := by decide +kernel
theorem dX1_readNumber_131 : decode cX1_readNumber 131 = .ok (.iadd, 1) := by decide +kernel
theorem dX1_readNumber_132 : decode cX1_readNumber 132 = .ok (.putfield 24, 3) := by decide +kernel
theorem dX1_readNumber_135 : decode cX1_readNumber 135 = .ok (.iload_n 3, 1) := by decide +kernel
theorem dX1_readNumber_136 : decode cX1_readNumber 136 = .ok (.ireturn, 1) := by decide +kernel
theorem dX1_digitAt_0 : decode cX1_digitAt 0 = .ok (.aload_n 0, 1) := by decide +kernel
theorem dX1_digitAt_1 : decode cX1_digitAt 1 = .ok (.iload_n 1, 1) := by decide +kernel
theorem dX1_digitAt_2 : decode cX1_digitAt 2 = .ok (.invokevirtual 39, 3) := by decide +kernel
theorem dX1_digitAt_5 : decode cX1_digitAt 5 = .ok (.istore_n 2, 1) := by decide +kernel
theorem dX1_digitAt_6 : decode cX1_digitAt 6 = .ok (.iload_n 2, 1) := by decide +kernel
theorem dX1_digitAt_7 : decode cX1_digitAt 7 = .ok (.bipush 48, 2) := by decide +kernel
theorem dX1_digitAt_9 : decode cX1_digitAt 9 = .ok (.if_icmp .lt 16, 3) := by decide +kernel
theorem dX1_digitAt_12 : decode cX1_digitAt 12 = .ok (.iload_n 2, 1) := by decide +kernel
theorem dX1_digitAt_13 : decode cX1_digitAt 13 = .ok (.bipush 57, 2) := by decide +kernel
theorem dX1_digitAt_15 : decode cX1_digitAt 15 = .ok (.if_icmp .gt 10, 3) := by decide +kernel
theorem dX1_digitAt_18 : decode cX1_digitAt 18 = .ok (.iload_n 2, 1) := by decide +kernel
theorem dX1_digitAt_19 : decode cX1_digitAt 19 = .ok (.bipush 48, 2) := by decide +kernel
theorem dX1_digitAt_21 : decode cX1_digitAt 21 = .ok (.isub, 1) := by decide +kernel
theorem dX1_digitAt_22 : decode cX1_digitAt 22 = .ok (.goto 4, 3) := by decide +kernel
theorem dX1_digitAt_25 : decode cX1_digitAt 25 = .ok (.iconst (-1), 1) := by decide +kernel
theorem dX1_digitAt_26 : decode cX1_digitAt 26 = .ok (.ireturn, 1) := by decide +kernel
theorem dX1_mostFirst_0 : decode cX1_mostFirst 0 = .ok (.iload_n 0, 1) := by decide +kernel
theorem dX1_mostFirst_1 : decode cX1_mostFirst 1 = .ok (.tableswitch 62 1 9 #[51, 54, 54, 54, 54, 57, 59, 62, 51], 51) := by decide +kernel
theorem dX1_mostFirst_52 : decode cX1_mostFirst 52 = .ok (.bipush 99, 2) := by decide +kernel
theorem dX1_mostFirst_54 : decode cX1_mostFirst 54 = .ok (.ireturn, 1) := by decide +kernel
theorem dX1_mostFirst_55 : decode cX1_mostFirst 55 = .ok (.bipush 63, 2) := by decide +kernel
theorem dX1_mostFirst_57 : decode cX1_mostFirst 57 = .ok (.ireturn, 1) := by decide +kernel
theorem dX1_mostFirst_58 : decode cX1_mostFirst 58 = .ok (.iconst 3, 1) := by decide +kernel
theorem dX1_mostFirst_59 : decode cX1_mostFirst 59 = .ok (.ireturn, 1) := by decide +kernel
theorem dX1_mostFirst_60 : decode cX1_mostFirst 60 = .ok (.bipush 7, 2) := by decide +kernel
theorem dX1_mostFirst_62 : decode cX1_mostFirst 62 = .ok (.ireturn, 1) := by decide +kernel
theorem dX1_mostFirst_63 : decode cX1_mostFirst 63 = .ok (.iconst (-1), 1) := by decide +kernel
theorem dX1_mostFirst_64 : decode cX1_mostFirst 64 = .ok (.ireturn, 1) := by decide +kernel
theorem dX1_mostSecond_0 : decode cX1_mostSecond 0 = .ok (.iload_n 0, 1) := by decide +kernel
theorem dX1_mostSecond_1 : decode cX1_mostSecond 1 = .ok (.lookupswitch 33 #[(6, 27), (7, 30)], 27) := by decide +kernel
theorem dX1_mostSecond_28 : decode cX1_mostSecond 28 = .ok (.bipush 7, 2) := by decide +kernel
theorem dX1_mostSecond_30 : decode cX1_mostSecond 30 = .ok (.ireturn, 1) := by decide +kernel
theorem dX1_mostSecond_31 : decode cX1_mostSecond 31 = .ok (.bipush 9, 2) := by decide +kernel
theorem dX1_mostSecond_33 : decode cX1_mostSecond 33 = .ok (.ireturn, 1) := by decide +kernel
theorem dX1_mostSecond_34 : decode cX1_mostSecond 34 = .ok (.iconst (-1), 1) := by decide +kernel
theorem dX1_mostSecond_35 : decode cX1_mostSecond 35 = .ok (.ireturn, 1) := by decide +kernel
theorem dX1_wordOf_0 : decode cX1_wordOf 0 = .ok (.iload_n 0, 1) := by decide +kernel
theorem dX1_wordOf_1 : decode cX1_wordOf 1 = .ok (.tableswitch 78 0 8 #[51, 54, 57, 60, 63, 66, 69, 72, 75], 51) := by decide +kernel
theorem dX1_wordOf_52 : decode cX1_wordOf 52 = .ok (.ldc 79, 2) := by decide +kernel
theorem dX1_wordOf_54 : decode cX1_wordOf 54 = .ok (.areturn, 1) := by decide +kernel
theorem dX1_wordOf_55 : decode cX1_wordOf 55 = .ok (.ldc 81, 2) := by decide +kernel
theorem dX1_wordOf_57 : decode cX1_wordOf 57 = .ok (.areturn, 1) := by decide +kernel
theorem dX1_wordOf_58 : decode cX1_wordOf 58 = .ok (.ldc 83, 2) := by decide +kernel
theorem dX1_wordOf_60 : decode cX1_wordOf 60 = .ok (.areturn, 1) := by decide +kernel
theorem dX1_wordOf_61 : decode cX1_wordOf 61 = .ok (.ldc 85, 2) := by decide +kernel
theorem dX1_wordOf_63 : decode cX1_wordOf 63 = .ok (.areturn, 1) := by decide +kernel
theorem dX1_wordOf_64 : decode cX1_wordOf 64 = .ok (.ldc 87, 2) := by decide +kernel
theorem dX1_wordOf_66 : decode cX1_wordOf 66 = .ok (.areturn, 1) := by decide +kernel
theorem dX1_wordOf_67 : decode cX1_wordOf 67 = .ok (.ldc 89, 2) := by decide +kernel
theorem dX1_wordOf_69 : decode cX1_wordOf 69 = .ok (.areturn, 1) := by decide +kernel
theorem dX1_wordOf_70 : decode cX1_wordOf 70 = .ok (.ldc 91, 2) := by decide +kernel
theorem dX1_wordOf_72 : decode cX1_wordOf 72 = .ok (.areturn, 1) := by decide +kernel
theorem dX1_wordOf_73 : decode cX1_wordOf 73 = .ok (.ldc 93, 2) := by decide +kernel
theorem dX1_wordOf_75 : decode cX1_wordOf 75 = .ok (.areturn, 1) := by decide +kernel
theorem dX1_wordOf_76 : decode cX1_wordOf 76 = .ok (.ldc 95, 2) := by decide +kernel
theorem dX1_wordOf_78 : decode cX1_wordOf 78 = .ok (.areturn, 1) := by decide +kernel
theorem dX1_wordOf_79 : decode cX1_wordOf 79 = .ok (.ldc 97, 2) := by decide +kernel
theorem dX1_wordOf_81 : decode cX1_wordOf 81 = .ok (.areturn, 1) := by decide +kernel
theorem dX2_init_0 : decode cX2_init 0 = .ok (.aload_n 0, 1) := by decide +kernel
theorem dX2_init_1 : decode cX2_init 1 = .ok (.invokespecial 3, 3) := by decide +kernel
theorem dX2_init_4 : decode cX2_init 4 = .ok (.aload_n 0, 1) := by decide +kernel
theorem dX2_init_5 : decode cX2_init 5 = .ok (.new 9, 3) := by decide +kernel
theorem dX2_init_8 : decode cX2_init 8 = .ok (.dup, 1) := by decide +kernel
theorem dX2_init_9 : decode cX2_init 9 = .ok (.bipush 24, 2) := by decide +kernel
theorem dX2_init_11 : decode cX2_init 11 = .ok (.invokespecial 13, 3) := by decide +kernel
theorem dX2_init_14 : decode cX2_init 14 = .ok (.putfield 16, 3) := by decide +kernel
theorem dX2_init_17 : decode cX2_init 17 = .ok (.return_, 1) := by decide +kernel
theorem dX2_copyFrom_0 : decode cX2_copyFrom 0 = .ok (.aload_n 0, 1) := by decide +kernel
theorem dX2_copyFrom_1 : decode cX2_copyFrom 1 = .ok (.getfield 16, 3) := by decide +kernel
theorem dX2_copyFrom_4 : decode cX2_copyFrom 4 = .ok (.aload_n 1, 1) := by decide +kernel
theorem dX2_copyFrom_5 : decode cX2_copyFrom 5 = .ok (.getfield 16, 3) := by decide +kernel
theorem dX2_copyFrom_8 : decode cX2_copyFrom 8 = .ok (.invokevirtual 20, 3) := by decide +kernel
theorem dX2_copyFrom_11 : decode cX2_copyFrom 11 = .ok (.aload_n 0, 1) := by decide +kernel
theorem dX2_copyFrom_12 : decode cX2_copyFrom 12 = .ok (.aload_n 1, 1) := by decide +kernel
theorem dX2_copyFrom_13 : decode cX2_copyFrom 13 = .ok (.getfield 24, 3) := by decide +kernel
theorem dX2_copyFrom_16 : decode cX2_copyFrom 16 = .ok (.putfield 24, 3) := by decide +kernel
theorem dX2_copyFrom_19 : decode cX2_copyFrom 19 = .ok (.return_, 1) := by decide +kernel
theorem dX2_add_0 : decode cX2_add 0 = .ok (.aload_n 0, 1) := by decide +kernel
theorem dX2_add_1 : decode cX2_add 1 = .ok (.getfield 24, 3) := by decide +kernel
theorem dX2_add_4 : decode cX2_add 4 = .ok (.iconst 3, 1) := by decide +kernel
theorem dX2_add_5 : decode cX2_add 5 = .ok (.imul, 1) := by decide +kernel
theorem dX2_add_6 : decode cX2_add 6 = .ok (.istore 4, 2) := by decide +kernel
theorem dX2_add_8 : decode cX2_add 8 = .ok (.aload_n 0, 1) := by decide +kernel
theorem dX2_add_9 : decode cX2_add 9 = .ok (.getfield 16, 3) := by decide +kernel
theorem dX2_add_12 : decode cX2_add 12 = .ok (.iload 4, 2) := by decide +kernel
theorem dX2_add_14 : decode cX2_add 14 = .ok (.iconst 0, 1) := by decide +kernel
theorem dX2_add_15 : decode cX2_add 15 = .ok (.iadd, 1) := by decide +kernel
theorem dX2_add_16 : decode cX2_add 16 = .ok (.iload_n 1, 1) := by decide +kernel
theorem dX2_add_17 : decode cX2_add 17 = .ok (.invokevirtual 28, 3) := by decide +kernel
theorem dX2_add_20 : decode cX2_add 20 = .ok (.aload_n 0, 1) := by decide +kernel
theorem dX2_add_21 : decode cX2_add 21 = .ok (.getfield 16, 3) := by decide +kernel
theorem dX2_add_24 : decode cX2_add 24 = .ok (.iload 4, 2) := by decide +kernel
theorem dX2_add_26 : decode cX2_add 26 = .ok (.iconst 1, 1) := by decide +kernel
theorem dX2_add_27 : decode cX2_add 27 = .ok (.iadd, 1) := by decide +kernel
theorem dX2_add_28 : decode cX2_add 28 = .ok (.iload_n 2, 1) := by decide +kernel
theorem dX2_add_29 : decode cX2_add 29 = .ok (.invokevirtual 28, 3) := by decide +kernel
theorem dX2_add_32 : decode cX2_add 32 = .ok (.aload_n 0, 1) := by decide +kernel
theorem dX2_add_33 : decode cX2_add 33 = .ok (.getfield 16, 3) := by decide +kernel
theorem dX2_add_36 : decode cX2_add 36 = .ok (.iload 4, 2) := by decide +kernel
theorem dX2_add_38 : decode cX2_add 38 = .ok (.iconst 2, 1) := by decide +kernel
theorem dX2_add_39 : decode cX2_add 39 = .ok (.iadd, 1) := by decide +kernel
theorem dX2_add_40 : decode cX2_add 40 = .ok (.iload_n 3, 1) := by decide +kernel
theorem dX2_add_41 : decode cX2_add 41 = .ok (.invokevirtual 28, 3) := by decide +kernel
theorem dX2_add_44 : decode cX2_add 44 = .ok (.aload_n 0, 1) := by decide +kernel
theorem dX2_add_45 : decode cX2_add 45 = .ok (.dup, 1) := by decide +kernel
theorem dX2_add_46 : decode cX2_add 46 = .ok (.getfield 24, 3) := by decide +kernel
theorem dX2_add_49 : decode cX2_add 49 = .ok (.iconst 1, 1) := by decide +kernel
theorem dX2_add_50 : decode cX2_add 50 = .ok (.iadd, 1) := by decide +kernel
theorem dX2_add_51 : decode cX2_add 51 = .ok (.putfield 24, 3) := by decide +kernel
theorem dX2_add_54 : decode cX2_add 54 = .ok (.return_, 1) := by decide +kernel
theorem dX2_tell_0 : decode cX2_tell 0 = .ok (.aload_n 0, 1) := by decide +kernel
theorem dX2_tell_1 : decode cX2_tell 1 = .ok (.getfield 16, 3) := by decide +kernel
theorem dX2_tell_4 : decode cX2_tell 4 = .ok (.aload_n 0, 1) := by decide +kernel
theorem dX2_tell_5 : decode cX2_tell 5 = .ok (.getfield 24, 3) := by decide +kernel
theorem dX2_tell_8 : decode cX2_tell 8 = .ok (.iconst 1, 1) := by decide +kernel
theorem dX2_tell_9 : decode cX2_tell 9 = .ok (.isub, 1) := by decide +kernel
theorem dX2_tell_10 : decode cX2_tell 10 = .ok (.iload_n 1, 1) := by decide +kernel
theorem dX2_tell_11 : decode cX2_tell 11 = .ok (.isub, 1) := by decide +kernel
theorem dX2_tell_12 : decode cX2_tell 12 = .ok (.iconst 3, 1) := by decide +kernel
theorem dX2_tell_13 : decode cX2_tell 13 = .ok (.imul, 1) := by decide +kernel
theorem dX2_tell_14 : decode cX2_tell 14 = .ok (.iload_n 2, 1) := by decide +kernel
theorem dX2_tell_15 : decode cX2_tell 15 = .ok (.iadd, 1) := by decide +kernel
theorem dX2_tell_16 : decode cX2_tell 16 = .ok (.invokevirtual 32, 3) := by decide +kernel
theorem dX2_tell_19 : decode cX2_tell 19 = .ok (.ireturn, 1) := by decide +kernel
theorem dX2_howManyBackTo_0 : decode cX2_howManyBackTo 0 = .ok (.iconst 0, 1) := by decide +kernel
theorem dX2_howManyBackTo_1 : decode cX2_howManyBackTo 1 = .ok (.istore_n 2, 1) := by decide +kernel
theorem dX2_howManyBackTo_2 : decode cX2_howManyBackTo 2 = .ok (.iconst 0, 1) := by decide +kernel
theorem dX2_howManyBackTo_3 : decode cX2_howManyBackTo 3 = .ok (.istore_n 3, 1) := by decide +kernel
theorem dX2_howManyBackTo_4 : decode cX2_howManyBackTo 4 = .ok (.iload_n 3, 1) := by decide +kernel
theorem dX2_howManyBackTo_5 : decode cX2_howManyBackTo 5 = .ok (.aload_n 0, 1) := by decide +kernel
theorem dX2_howManyBackTo_6 : decode cX2_howManyBackTo 6 = .ok (.getfield 24, 3) := by decide +kernel
theorem dX2_howManyBackTo_9 : decode cX2_howManyBackTo 9 = .ok (.if_icmp .ge 22, 3) := by decide +kernel
theorem dX2_howManyBackTo_12 : decode cX2_howManyBackTo 12 = .ok (.aload_n 0, 1) := by decide +kernel
theorem dX2_howManyBackTo_13 : decode cX2_howManyBackTo 13 = .ok (.iload_n 3, 1) := by decide +kernel
theorem dX2_howManyBackTo_14 : decode cX2_howManyBackTo 14 = .ok (.iconst 1, 1) := by decide +kernel
theorem dX2_howManyBackTo_15 : decode cX2_howManyBackTo 15 = .ok (.invokevirtual 36, 3) := by decide +kernel
theorem dX2_howManyBackTo_18 : decode cX2_howManyBackTo 18 = .ok (.iload_n 1, 1) := by decide +kernel
theorem dX2_howManyBackTo_19 : decode cX2_howManyBackTo 19 = .ok (.if_icmp .ne 6, 3) := by decide +kernel
theorem dX2_howManyBackTo_22 : decode cX2_howManyBackTo 22 = .ok (.iinc 2 1, 3) := by decide +kernel
theorem dX2_howManyBackTo_25 : decode cX2_howManyBackTo 25 = .ok (.iinc 3 1, 3) := by decide +kernel
theorem dX2_howManyBackTo_28 : decode cX2_howManyBackTo 28 = .ok (.goto (-24), 3) := by decide +kernel
theorem dX2_howManyBackTo_31 : decode cX2_howManyBackTo 31 = .ok (.iload_n 2, 1) := by decide +kernel
theorem dX2_howManyBackTo_32 : decode cX2_howManyBackTo 32 = .ok (.ireturn, 1) := by decide +kernel
theorem dX3_init_0 : decode cX3_init 0 = .ok (.aload_n 0, 1) := by decide +kernel
theorem dX3_init_1 : decode cX3_init 1 = .ok (.invokespecial 3, 3) := by decide +kernel
theorem dX3_init_4 : decode cX3_init 4 = .ok (.aload_n 0, 1) := by decide +kernel
theorem dX3_init_5 : decode cX3_init 5 = .ok (.iconst 4, 1) := by decide +kernel
theorem dX3_init_6 : decode cX3_init 6 = .ok (.anewarray 9, 3) := by decide +kernel
theorem dX3_init_9 : decode cX3_init 9 = .ok (.putfield 11, 3) := by decide +kernel
theorem dX3_init_12 : decode cX3_init 12 = .ok (.iconst 0, 1) := by decide +kernel
theorem dX3_init_13 : decode cX3_init 13 = .ok (.istore_n 1, 1) := by decide +kernel
theorem dX3_init_14 : decode cX3_init 14 = .ok (.iload_n 1, 1) := by decide +kernel
theorem dX3_init_15 : decode cX3_init 15 = .ok (.aload_n 0, 1) := by decide +kernel
theorem dX3_init_16 : decode cX3_init 16 = .ok (.getfield 11, 3) := by decide +kernel
theorem dX3_init_19 : decode cX3_init 19 = .ok (.arraylength, 1) := by decide +kernel
theorem dX3_init_20 : decode cX3_init 20 = .ok (.if_icmp .ge 22, 3) := by decide +kernel
theorem dX3_init_23 : decode cX3_init 23 = .ok (.aload_n 0, 1) := by decide +kernel
theorem dX3_init_24 : decode cX3_init 24 = .ok (.getfield 11, 3) := by decide +kernel
theorem dX3_init_27 : decode cX3_init 27 = .ok (.iload_n 1, 1) := by decide +kernel
theorem dX3_init_28 : decode cX3_init 28 = .ok (.new 9, 3) := by decide +kernel
theorem dX3_init_31 : decode cX3_init 31 = .ok (.dup, 1) := by decide +kernel
theorem dX3_init_32 : decode cX3_init 32 = .ok (.invokespecial 17, 3) := by decide +kernel
theorem dX3_init_35 : decode cX3_init 35 = .ok (.aastore, 1) := by decide +kernel
theorem dX3_init_36 : decode cX3_init 36 = .ok (.iinc 1 1, 3) := by decide +kernel
theorem dX3_init_39 : decode cX3_init 39 = .ok (.goto (-25), 3) := by decide +kernel
theorem dX3_init_42 : decode cX3_init 42 = .ok (.return_, 1) := by decide +kernel
theorem dX3_remember_0 : decode cX3_remember 0 = .ok (.aload_n 0, 1) := by decide +kernel
theorem dX3_remember_1 : decode cX3_remember 1 = .ok (.getfield 18, 3) := by decide +kernel
theorem dX3_remember_4 : decode cX3_remember 4 = .ok (.iconst 4, 1) := by decide +kernel
theorem dX3_remember_5 : decode cX3_remember 5 = .ok (.if_icmp .ne 7, 3) := by decide +kernel
theorem dX3_remember_8 : decode cX3_remember 8 = .ok (.aload_n 0, 1) := by decide +kernel
theorem dX3_remember_9 : decode cX3_remember 9 = .ok (.invokevirtual 22, 3) := by decide +kernel
theorem dX3_remember_12 : decode cX3_remember 12 = .ok (.aload_n 0, 1) := by decide +kernel
theorem dX3_remember_13 : decode cX3_remember 13 = .ok (.getfield 18, 3) := by decide +kernel
theorem dX3_remember_16 : decode cX3_remember 16 = .ok (.ifCond .lt 38, 3) := by decide +kernel
theorem dX3_remember_19 : decode cX3_remember 19 = .ok (.aload_n 0, 1) := by decide +kernel
theorem dX3_remember_20 : decode cX3_remember 20 = .ok (.getfield 18, 3) := by decide +kernel
theorem dX3_remember_23 : decode cX3_remember 23 = .ok (.aload_n 0, 1) := by decide +kernel
theorem dX3_remember_24 : decode cX3_remember 24 = .ok (.getfield 11, 3) := by decide +kernel
theorem dX3_remember_27 : decode cX3_remember 27 = .ok (.arraylength, 1) := by decide +kernel
theorem dX3_remember_28 : decode cX3_remember 28 = .ok (.if_icmp .ge 26, 3) := by decide +kernel
theorem dX3_remember_31 : decode cX3_remember 31 = .ok (.aload_n 0, 1) := by decide +kernel
theorem dX3_remember_32 : decode cX3_remember 32 = .ok (.getfield 11, 3) := by decide +kernel
theorem dX3_remember_35 : decode cX3_remember 35 = .ok (.aload_n 0, 1) := by decide +kernel
theorem dX3_remember_36 : decode cX3_remember 36 = .ok (.getfield 18, 3) := by decide +kernel
theorem dX3_remember_39 : decode cX3_remember 39 = .ok (.aaload, 1) := by decide +kernel
theorem dX3_remember_40 : decode cX3_remember 40 = .ok (.aload_n 1, 1) := by decide +kernel
theorem dX3_remember_41 : decode cX3_remember 41 = .ok (.invokevirtual 25, 3) := by decide +kernel
theorem dX3_remember_44 : decode cX3_remember 44 = .ok (.aload_n 0, 1) := by decide +kernel
theorem dX3_remember_45 : decode cX3_remember 45 = .ok (.dup, 1) := by decide +kernel
theorem dX3_remember_46 : decode cX3_remember 46 = .ok (.getfield 18, 3) := by decide +kernel
theorem dX3_remember_49 : decode cX3_remember 49 = .ok (.iconst 1, 1) := by decide +kernel
theorem dX3_remember_50 : decode cX3_remember 50 = .ok (.iadd, 1) := by decide +kernel
theorem dX3_remember_51 : decode cX3_remember 51 = .ok (.putfield 18, 3) := by decide +kernel
theorem dX3_remember_54 : decode cX3_remember 54 = .ok (.return_, 1) := by decide +kernel
theorem dX3_bringBack_0 : decode cX3_bringBack 0 = .ok (.aload_n 0, 1) := by decide +kernel
theorem dX3_bringBack_1 : decode cX3_bringBack 1 = .ok (.getfield 18, 3) := by decide +kernel
theorem dX3_bringBack_4 : decode cX3_bringBack 4 = .ok (.ifCond .le 38, 3) := by decide +kernel
theorem dX3_bringBack_7 : decode cX3_bringBack 7 = .ok (.aload_n 0, 1) := by decide +kernel
theorem dX3_bringBack_8 : decode cX3_bringBack 8 = .ok (.getfield 18, 3) := by decide +kernel
theorem dX3_bringBack_11 : decode cX3_bringBack 11 = .ok (.aload_n 0, 1) := by decide +kernel
theorem dX3_bringBack_12 : decode cX3_bringBack 12 = .ok (.getfield 11, 3) := by decide +kernel
theorem dX3_bringBack_15 : decode cX3_bringBack 15 = .ok (.arraylength, 1) := by decide +kernel
theorem dX3_bringBack_16 : decode cX3_bringBack 16 = .ok (.if_icmp .gt 26, 3) := by decide +kernel
theorem dX3_bringBack_19 : decode cX3_bringBack 19 = .ok (.aload_n 0, 1) := by decide +kernel
theorem dX3_bringBack_20 : decode cX3_bringBack 20 = .ok (.dup, 1) := by decide +kernel
theorem dX3_bringBack_21 : decode cX3_bringBack 21 = .ok (.getfield 18, 3) := by decide +kernel
theorem dX3_bringBack_24 : decode cX3_bringBack 24 = .ok (.iconst 1, 1) := by decide +kernel
theorem dX3_bringBack_25 : decode cX3_bringBack 25 = .ok (.isub, 1) := by decide +kernel
theorem dX3_bringBack_26 : decode cX3_bringBack 26 = .ok (.putfield 18, 3) := by decide +kernel
theorem dX3_bringBack_29 : decode cX3_bringBack 29 = .ok (.aload_n 1, 1) := by decide +kernel
theorem dX3_bringBack_30 : decode cX3_bringBack 30 = .ok (.aload_n 0, 1) := by decide +kernel
theorem dX3_bringBack_31 : decode cX3_bringBack 31 = .ok (.getfield 11, 3) := by decide +kernel
theorem dX3_bringBack_34 : decode cX3_bringBack 34 = .ok (.aload_n 0, 1) := by decide +kernel
theorem dX3_bringBack_35 : decode cX3_bringBack 35 = .ok (.getfield 18, 3) := by decide +kernel
theorem dX3_bringBack_38 : decode cX3_bringBack 38 = .ok (.aaload, 1) := by decide +kernel
theorem dX3_bringBack_39 : decode cX3_bringBack 39 = .ok (.invokevirtual 25, 3) := by decide +kernel
theorem dX3_bringBack_42 : decode cX3_bringBack 42 = .ok (.return_, 1) := by decide +kernel
theorem dX3_dropOldest_0 : decode cX3_dropOldest 0 = .ok (.aload_n 0, 1) := by decide +kernel
theorem dX3_dropOldest_1 : decode cX3_dropOldest 1 = .ok (.getfield 11, 3) := by decide +kernel
theorem dX3_dropOldest_4 : decode cX3_dropOldest 4 = .ok (.iconst 0, 1) := by decide +kernel
theorem dX3_dropOldest_5 : decode cX3_dropOldest 5 = .ok (.aaload, 1) := by decide +kernel
theorem dX3_dropOldest_6 : decode cX3_dropOldest 6 = .ok (.astore_n 1, 1) := by decide +kernel
theorem dX3_dropOldest_7 : decode cX3_dropOldest 7 = .ok (.iconst 1, 1) := by decide +kernel
theorem dX3_dropOldest_8 : decode cX3_dropOldest 8 = .ok (.istore_n 2, 1) := by decide +kernel
theorem dX3_dropOldest_9 : decode cX3_dropOldest 9 = .ok (.iload_n 2, 1) := by decide +kernel
theorem dX3_dropOldest_10 : decode cX3_dropOldest 10 = .ok (.aload_n 0, 1) := by decide +kernel
theorem dX3_dropOldest_11 : decode cX3_dropOldest 11 = .ok (.getfield 11, 3) := by decide +kernel
theorem dX3_dropOldest_14 : decode cX3_dropOldest 14 = .ok (.arraylength, 1) := by decide +kernel
theorem dX3_dropOldest_15 : decode cX3_dropOldest 15 = .ok (.if_icmp .ge 23, 3) := by decide +kernel
theorem dX3_dropOldest_18 : decode cX3_dropOldest 18 = .ok (.aload_n 0, 1) := by decide +kernel
theorem dX3_dropOldest_19 : decode cX3_dropOldest 19 = .ok (.getfield 11, 3) := by decide +kernel
theorem dX3_dropOldest_22 : decode cX3_dropOldest 22 = .ok (.iload_n 2, 1) := by decide +kernel
theorem dX3_dropOldest_23 : decode cX3_dropOldest 23 = .ok (.iconst 1, 1) := by decide +kernel
theorem dX3_dropOldest_24 : decode cX3_dropOldest 24 = .ok (.isub, 1) := by decide +kernel
theorem dX3_dropOldest_25 : decode cX3_dropOldest 25 = .ok (.aload_n 0, 1) := by decide +kernel
theorem dX3_dropOldest_26 : decode cX3_dropOldest 26 = .ok (.getfield 11, 3) := by decide +kernel
theorem dX3_dropOldest_29 : decode cX3_dropOldest 29 = .ok (.iload_n 2, 1) := by decide +kernel
theorem dX3_dropOldest_30 : decode cX3_dropOldest 30 = .ok (.aaload, 1) := by decide +kernel
theorem dX3_dropOldest_31 : decode cX3_dropOldest 31 = .ok (.aastore, 1) := by decide +kernel
theorem dX3_dropOldest_32 : decode cX3_dropOldest 32 = .ok (.iinc 2 1, 3) := by decide +kernel
theorem dX3_dropOldest_35 : decode cX3_dropOldest 35 = .ok (.goto (-26), 3) := by decide +kernel
theorem dX3_dropOldest_38 : decode cX3_dropOldest 38 = .ok (.aload_n 0, 1) := by decide +kernel
theorem dX3_dropOldest_39 : decode cX3_dropOldest 39 = .ok (.getfield 11, 3) := by decide +kernel
theorem dX3_dropOldest_42 : decode cX3_dropOldest 42 = .ok (.aload_n 0, 1) := by decide +kernel
theorem dX3_dropOldest_43 : decode cX3_dropOldest 43 = .ok (.getfield 11, 3) := by decide +kernel
theorem dX3_dropOldest_46 : decode cX3_dropOldest 46 = .ok (.arraylength, 1) := by decide +kernel
theorem dX3_dropOldest_47 : decode cX3_dropOldest 47 = .ok (.iconst 1, 1) := by decide +kernel
theorem dX3_dropOldest_48 : decode cX3_dropOldest 48 = .ok (.isub, 1) := by decide +kernel
theorem dX3_dropOldest_49 : decode cX3_dropOldest 49 = .ok (.aload_n 1, 1) := by decide +kernel
theorem dX3_dropOldest_50 : decode cX3_dropOldest 50 = .ok (.aastore, 1) := by decide +kernel
theorem dX3_dropOldest_51 : decode cX3_dropOldest 51 = .ok (.aload_n 0, 1) := by decide +kernel
theorem dX3_dropOldest_52 : decode cX3_dropOldest 52 = .ok (.dup, 1) := by decide +kernel
theorem dX3_dropOldest_53 : decode cX3_dropOldest 53 = .ok (.getfield 18, 3) := by decide +kernel
theorem dX3_dropOldest_56 : decode cX3_dropOldest 56 = .ok (.iconst 1, 1) := by decide +kernel
theorem dX3_dropOldest_57 : decode cX3_dropOldest 57 = .ok (.isub, 1) := by decide +kernel
theorem dX3_dropOldest_58 : decode cX3_dropOldest 58 = .ok (.putfield 18, 3) := by decide +kernel
theorem dX3_dropOldest_61 : decode cX3_dropOldest 61 = .ok (.return_, 1) := by decide +kernel
theorem dX4_init_0 : decode cX4_init 0 = .ok (.aload_n 0, 1) := by decide +kernel
end
section
theorem dX4_init_1 : decode cX4_init 1 = .ok (.invokespecial 3, 3) := by decide +kernel
theorem dX4_init_4 : decode cX4_init 4 = .ok (.aload_n 0, 1) := by decide +kernel
theorem dX4_init_5 : decode cX4_init 5 = .ok (.new 9, 3) := by decide +kernel
theorem dX4_init_8 : decode cX4_init 8 = .ok (.dup, 1) := by decide +kernel
theorem dX4_init_9 : decode cX4_init 9 = .ok (.invokespecial 11, 3) := by decide +kernel
theorem dX4_init_12 : decode cX4_init 12 = .ok (.putfield 12, 3) := by decide +kernel
theorem dX4_init_15 : decode cX4_init 15 = .ok (.aload_n 0, 1) := by decide +kernel
theorem dX4_init_16 : decode cX4_init 16 = .ok (.new 18, 3) := by decide +kernel
theorem dX4_init_19 : decode cX4_init 19 = .ok (.dup, 1) := by decide +kernel
theorem dX4_init_20 : decode cX4_init 20 = .ok (.invokespecial 20, 3) := by decide +kernel
theorem dX4_init_23 : decode cX4_init 23 = .ok (.putfield 21, 3) := by decide +kernel
theorem dX4_init_26 : decode cX4_init 26 = .ok (.aload_n 0, 1) := by decide +kernel
theorem dX4_init_27 : decode cX4_init 27 = .ok (.new 25, 3) := by decide +kernel
theorem dX4_init_30 : decode cX4_init 30 = .ok (.dup, 1) := by decide +kernel
theorem dX4_init_31 : decode cX4_init 31 = .ok (.invokespecial 27, 3) := by decide +kernel
theorem dX4_init_34 : decode cX4_init 34 = .ok (.putfield 28, 3) := by decide +kernel
theorem dX4_init_37 : decode cX4_init 37 = .ok (.return_, 1) := by decide +kernel
theorem dX4_copyFrom_0 : decode cX4_copyFrom 0 = .ok (.aload_n 0, 1) := by decide +kernel
theorem dX4_copyFrom_1 : decode cX4_copyFrom 1 = .ok (.getfield 12, 3) := by decide +kernel
theorem dX4_copyFrom_4 : decode cX4_copyFrom 4 = .ok (.aload_n 1, 1) := by decide +kernel
theorem dX4_copyFrom_5 : decode cX4_copyFrom 5 = .ok (.getfield 12, 3) := by decide +kernel
theorem dX4_copyFrom_8 : decode cX4_copyFrom 8 = .ok (.invokevirtual 32, 3) := by decide +kernel
theorem dX4_copyFrom_11 : decode cX4_copyFrom 11 = .ok (.aload_n 0, 1) := by decide +kernel
theorem dX4_copyFrom_12 : decode cX4_copyFrom 12 = .ok (.getfield 21, 3) := by decide +kernel
theorem dX4_copyFrom_15 : decode cX4_copyFrom 15 = .ok (.aload_n 1, 1) := by decide +kernel
theorem dX4_copyFrom_16 : decode cX4_copyFrom 16 = .ok (.getfield 21, 3) := by decide +kernel
theorem dX4_copyFrom_19 : decode cX4_copyFrom 19 = .ok (.invokevirtual 36, 3) := by decide +kernel
theorem dX4_copyFrom_22 : decode cX4_copyFrom 22 = .ok (.aload_n 0, 1) := by decide +kernel
theorem dX4_copyFrom_23 : decode cX4_copyFrom 23 = .ok (.getfield 28, 3) := by decide +kernel
theorem dX4_copyFrom_26 : decode cX4_copyFrom 26 = .ok (.aload_n 1, 1) := by decide +kernel
theorem dX4_copyFrom_27 : decode cX4_copyFrom 27 = .ok (.getfield 28, 3) := by decide +kernel
theorem dX4_copyFrom_30 : decode cX4_copyFrom 30 = .ok (.invokevirtual 39, 3) := by decide +kernel
theorem dX4_copyFrom_33 : decode cX4_copyFrom 33 = .ok (.aload_n 0, 1) := by decide +kernel
theorem dX4_copyFrom_34 : decode cX4_copyFrom 34 = .ok (.aload_n 1, 1) := by decide +kernel
theorem dX4_copyFrom_35 : decode cX4_copyFrom 35 = .ok (.getfield 42, 3) := by decide +kernel
theorem dX4_copyFrom_38 : decode cX4_copyFrom 38 = .ok (.putfield 42, 3) := by decide +kernel
theorem dX4_copyFrom_41 : decode cX4_copyFrom 41 = .ok (.aload_n 0, 1) := by decide +kernel
theorem dX4_copyFrom_42 : decode cX4_copyFrom 42 = .ok (.aload_n 1, 1) := by decide +kernel
theorem dX4_copyFrom_43 : decode cX4_copyFrom 43 = .ok (.getfield 46, 3) := by decide +kernel
theorem dX4_copyFrom_46 : decode cX4_copyFrom 46 = .ok (.putfield 46, 3) := by decide +kernel
theorem dX4_copyFrom_49 : decode cX4_copyFrom 49 = .ok (.aload_n 0, 1) := by decide +kernel
theorem dX4_copyFrom_50 : decode cX4_copyFrom 50 = .ok (.aload_n 1, 1) := by decide +kernel
theorem dX4_copyFrom_51 : decode cX4_copyFrom 51 = .ok (.getfield 49, 3) := by decide +kernel
theorem dX4_copyFrom_54 : decode cX4_copyFrom 54 = .ok (.putfield 49, 3) := by decide +kernel
theorem dX4_copyFrom_57 : decode cX4_copyFrom 57 = .ok (.aload_n 0, 1) := by decide +kernel
theorem dX4_copyFrom_58 : decode cX4_copyFrom 58 = .ok (.aload_n 1, 1) := by decide +kernel
theorem dX4_copyFrom_59 : decode cX4_copyFrom 59 = .ok (.getfield 52, 3) := by decide +kernel
theorem dX4_copyFrom_62 : decode cX4_copyFrom 62 = .ok (.putfield 52, 3) := by decide +kernel
theorem dX4_copyFrom_65 : decode cX4_copyFrom 65 = .ok (.aload_n 0, 1) := by decide +kernel
theorem dX4_copyFrom_66 : decode cX4_copyFrom 66 = .ok (.aload_n 1, 1) := by decide +kernel
theorem dX4_copyFrom_67 : decode cX4_copyFrom 67 = .ok (.getfield 55, 3) := by decide +kernel
theorem dX4_copyFrom_70 : decode cX4_copyFrom 70 = .ok (.putfield 55, 3) := by decide +kernel
theorem dX4_copyFrom_73 : decode cX4_copyFrom 73 = .ok (.return_, 1) := by decide +kernel
theorem dX4_startAt_0 : decode cX4_startAt 0 = .ok (.aload_n 0, 1) := by decide +kernel
theorem dX4_startAt_1 : decode cX4_startAt 1 = .ok (.iload_n 1, 1) := by decide +kernel
theorem dX4_startAt_2 : decode cX4_startAt 2 = .ok (.putfield 46, 3) := by decide +kernel
theorem dX4_startAt_5 : decode cX4_startAt 5 = .ok (.aload_n 0, 1) := by decide +kernel
theorem dX4_startAt_6 : decode cX4_startAt 6 = .ok (.iconst 0, 1) := by decide +kernel
theorem dX4_startAt_7 : decode cX4_startAt 7 = .ok (.putfield 42, 3) := by decide +kernel
theorem dX4_startAt_10 : decode cX4_startAt 10 = .ok (.aload_n 0, 1) := by decide +kernel
theorem dX4_startAt_11 : decode cX4_startAt 11 = .ok (.iconst 0, 1) := by decide +kernel
theorem dX4_startAt_12 : decode cX4_startAt 12 = .ok (.putfield 49, 3) := by decide +kernel
theorem dX4_startAt_15 : decode cX4_startAt 15 = .ok (.aload_n 0, 1) := by decide +kernel
theorem dX4_startAt_16 : decode cX4_startAt 16 = .ok (.getfield 21, 3) := by decide +kernel
theorem dX4_startAt_19 : decode cX4_startAt 19 = .ok (.iconst 0, 1) := by decide +kernel
theorem dX4_startAt_20 : decode cX4_startAt 20 = .ok (.putfield 58, 3) := by decide +kernel
theorem dX4_startAt_23 : decode cX4_startAt 23 = .ok (.return_, 1) := by decide +kernel
theorem dX4_takeSteps_0 : decode cX4_takeSteps 0 = .ok (.iconst 0, 1) := by decide +kernel
theorem dX4_takeSteps_1 : decode cX4_takeSteps 1 = .ok (.istore_n 2, 1) := by decide +kernel
theorem dX4_takeSteps_2 : decode cX4_takeSteps 2 = .ok (.iload_n 2, 1) := by decide +kernel
theorem dX4_takeSteps_3 : decode cX4_takeSteps 3 = .ok (.iload_n 1, 1) := by decide +kernel
theorem dX4_takeSteps_4 : decode cX4_takeSteps 4 = .ok (.if_icmp .ge 20, 3) := by decide +kernel
theorem dX4_takeSteps_7 : decode cX4_takeSteps 7 = .ok (.aload_n 0, 1) := by decide +kernel
theorem dX4_takeSteps_8 : decode cX4_takeSteps 8 = .ok (.getfield 49, 3) := by decide +kernel
theorem dX4_takeSteps_11 : decode cX4_takeSteps 11 = .ok (.ifCond .ne 13, 3) := by decide +kernel
theorem dX4_takeSteps_14 : decode cX4_takeSteps 14 = .ok (.aload_n 0, 1) := by decide +kernel
theorem dX4_takeSteps_15 : decode cX4_takeSteps 15 = .ok (.invokevirtual 61, 3) := by decide +kernel
theorem dX4_takeSteps_18 : decode cX4_takeSteps 18 = .ok (.iinc 2 1, 3) := by decide +kernel
theorem dX4_takeSteps_21 : decode cX4_takeSteps 21 = .ok (.goto (-19), 3) := by decide +kernel
theorem dX4_takeSteps_24 : decode cX4_takeSteps 24 = .ok (.iload_n 2, 1) := by decide +kernel
theorem dX4_takeSteps_25 : decode cX4_takeSteps 25 = .ok (.ireturn, 1) := by decide +kernel
theorem dX4_step_0 : decode cX4_step 0 = .ok (.aload_n 0, 1) := by decide +kernel
theorem dX4_step_1 : decode cX4_step 1 = .ok (.getfield 46, 3) := by decide +kernel
theorem dX4_step_4 : decode cX4_step 4 = .ok (.istore_n 1, 1) := by decide +kernel
theorem dX4_step_5 : decode cX4_step 5 = .ok (.aload_n 0, 1) := by decide +kernel
theorem dX4_step_6 : decode cX4_step 6 = .ok (.getfield 12, 3) := by decide +kernel
theorem dX4_step_9 : decode cX4_step 9 = .ok (.iload_n 1, 1) := by decide +kernel
theorem dX4_step_10 : decode cX4_step 10 = .ok (.invokevirtual 64, 3) := by decide +kernel
theorem dX4_step_13 : decode cX4_step 13 = .ok (.istore_n 2, 1) := by decide +kernel
theorem dX4_step_14 : decode cX4_step 14 = .ok (.iload_n 2, 1) := by decide +kernel
theorem dX4_step_15 : decode cX4_step 15 = .ok (.bipush 100, 2) := by decide +kernel
theorem dX4_step_17 : decode cX4_step 17 = .ok (.idiv, 1) := by decide +kernel
theorem dX4_step_18 : decode cX4_step 18 = .ok (.istore_n 3, 1) := by decide +kernel
theorem dX4_step_19 : decode cX4_step 19 = .ok (.iload_n 2, 1) := by decide +kernel
theorem dX4_step_20 : decode cX4_step 20 = .ok (.bipush 100, 2) := by decide +kernel
theorem dX4_step_22 : decode cX4_step 22 = .ok (.irem, 1) := by decide +kernel
theorem dX4_step_23 : decode cX4_step 23 = .ok (.istore 4, 2) := by decide +kernel
theorem dX4_step_25 : decode cX4_step 25 = .ok (.aload_n 0, 1) := by decide +kernel
theorem dX4_step_26 : decode cX4_step 26 = .ok (.getfield 28, 3) := by decide +kernel
theorem dX4_step_29 : decode cX4_step 29 = .ok (.iload_n 1, 1) := by decide +kernel
theorem dX4_step_30 : decode cX4_step 30 = .ok (.aload_n 0, 1) := by decide +kernel
theorem dX4_step_31 : decode cX4_step 31 = .ok (.getfield 12, 3) := by decide +kernel
theorem dX4_step_34 : decode cX4_step 34 = .ok (.iload_n 1, 1) := by decide +kernel
theorem dX4_step_35 : decode cX4_step 35 = .ok (.invokevirtual 68, 3) := by decide +kernel
theorem dX4_step_38 : decode cX4_step 38 = .ok (.iload_n 2, 1) := by decide +kernel
theorem dX4_step_39 : decode cX4_step 39 = .ok (.invokevirtual 71, 3) := by decide +kernel
theorem dX4_step_42 : decode cX4_step 42 = .ok (.aload_n 0, 1) := by decide +kernel
theorem dX4_step_43 : decode cX4_step 43 = .ok (.iload_n 1, 1) := by decide +kernel
theorem dX4_step_44 : decode cX4_step 44 = .ok (.iconst 1, 1) := by decide +kernel
theorem dX4_step_45 : decode cX4_step 45 = .ok (.iadd, 1) := by decide +kernel
theorem dX4_step_46 : decode cX4_step 46 = .ok (.putfield 46, 3) := by decide +kernel
theorem dX4_step_49 : decode cX4_step 49 = .ok (.aload_n 0, 1) := by decide +kernel
theorem dX4_step_50 : decode cX4_step 50 = .ok (.aload_n 0, 1) := by decide +kernel
theorem dX4_step_51 : decode cX4_step 51 = .ok (.iload_n 3, 1) := by decide +kernel
theorem dX4_step_52 : decode cX4_step 52 = .ok (.iload 4, 2) := by decide +kernel
theorem dX4_step_54 : decode cX4_step 54 = .ok (.invokevirtual 75, 3) := by decide +kernel
theorem dX4_step_57 : decode cX4_step 57 = .ok (.putfield 49, 3) := by decide +kernel
theorem dX4_step_60 : decode cX4_step 60 = .ok (.aload_n 0, 1) := by decide +kernel
theorem dX4_step_61 : decode cX4_step 61 = .ok (.getfield 49, 3) := by decide +kernel
theorem dX4_step_64 : decode cX4_step 64 = .ok (.ifCond .ne 14, 3) := by decide +kernel
theorem dX4_step_67 : decode cX4_step 67 = .ok (.aload_n 0, 1) := by decide +kernel
theorem dX4_step_68 : decode cX4_step 68 = .ok (.iload_n 3, 1) := by decide +kernel
theorem dX4_step_69 : decode cX4_step 69 = .ok (.iload 4, 2) := by decide +kernel
theorem dX4_step_71 : decode cX4_step 71 = .ok (.iload_n 1, 1) := by decide +kernel
theorem dX4_step_72 : decode cX4_step 72 = .ok (.bipush 16, 2) := by decide +kernel
theorem dX4_step_74 : decode cX4_step 74 = .ok (.idiv, 1) := by decide +kernel
theorem dX4_step_75 : decode cX4_step 75 = .ok (.invokevirtual 79, 3) := by decide +kernel
theorem dX4_step_78 : decode cX4_step 78 = .ok (.aload_n 0, 1) := by decide +kernel
theorem dX4_step_79 : decode cX4_step 79 = .ok (.getfield 49, 3) := by decide +kernel
theorem dX4_step_82 : decode cX4_step 82 = .ok (.ifCond .ne 18, 3) := by decide +kernel
theorem dX4_step_85 : decode cX4_step 85 = .ok (.aload_n 0, 1) := by decide +kernel
theorem dX4_step_86 : decode cX4_step 86 = .ok (.getfield 46, 3) := by decide +kernel
theorem dX4_step_89 : decode cX4_step 89 = .ok (.bipush 64, 2) := by decide +kernel
theorem dX4_step_91 : decode cX4_step 91 = .ok (.if_icmp .ne 9, 3) := by decide +kernel
theorem dX4_step_94 : decode cX4_step 94 = .ok (.aload_n 0, 1) := by decide +kernel
theorem dX4_step_95 : decode cX4_step 95 = .ok (.bipush 6, 2) := by decide +kernel
theorem dX4_step_97 : decode cX4_step 97 = .ok (.putfield 49, 3) := by decide +kernel
theorem dX4_step_100 : decode cX4_step 100 = .ok (.return_, 1) := by decide +kernel
theorem dX4_hindranceOf_0 : decode cX4_hindranceOf 0 = .ok (.iload_n 1, 1) := by decide +kernel
theorem dX4_hindranceOf_1 : decode cX4_hindranceOf 1 = .ok (.iload_n 2, 1) := by decide +kernel
theorem dX4_hindranceOf_2 : decode cX4_hindranceOf 2 = .ok (.invokestatic 82, 3) := by decide +kernel
theorem dX4_hindranceOf_5 : decode cX4_hindranceOf 5 = .ok (.ifCond .eq 5, 3) := by decide +kernel
theorem dX4_hindranceOf_8 : decode cX4_hindranceOf 8 = .ok (.iconst 3, 1) := by decide +kernel
theorem dX4_hindranceOf_9 : decode cX4_hindranceOf 9 = .ok (.ireturn, 1) := by decide +kernel
theorem dX4_hindranceOf_10 : decode cX4_hindranceOf 10 = .ok (.iload_n 1, 1) := by decide +kernel
theorem dX4_hindranceOf_11 : decode cX4_hindranceOf 11 = .ok (.bipush 7, 2) := by decide +kernel
theorem dX4_hindranceOf_13 : decode cX4_hindranceOf 13 = .ok (.if_icmp .ne 17, 3) := by decide +kernel
theorem dX4_hindranceOf_16 : decode cX4_hindranceOf 16 = .ok (.aload_n 0, 1) := by decide +kernel
theorem dX4_hindranceOf_17 : decode cX4_hindranceOf 17 = .ok (.getfield 21, 3) := by decide +kernel
theorem dX4_hindranceOf_20 : decode cX4_hindranceOf 20 = .ok (.getfield 58, 3) := by decide +kernel
theorem dX4_hindranceOf_23 : decode cX4_hindranceOf 23 = .ok (.bipush 8, 2) := by decide +kernel
theorem dX4_hindranceOf_25 : decode cX4_hindranceOf 25 = .ok (.if_icmp .lt 5, 3) := by decide +kernel
theorem dX4_hindranceOf_28 : decode cX4_hindranceOf 28 = .ok (.iconst 4, 1) := by decide +kernel
theorem dX4_hindranceOf_29 : decode cX4_hindranceOf 29 = .ok (.ireturn, 1) := by decide +kernel
theorem dX4_hindranceOf_30 : decode cX4_hindranceOf 30 = .ok (.iload_n 1, 1) := by decide +kernel
theorem dX4_hindranceOf_31 : decode cX4_hindranceOf 31 = .ok (.bipush 8, 2) := by decide +kernel
theorem dX4_hindranceOf_33 : decode cX4_hindranceOf 33 = .ok (.if_icmp .ne 15, 3) := by decide +kernel
theorem dX4_hindranceOf_36 : decode cX4_hindranceOf 36 = .ok (.aload_n 0, 1) := by decide +kernel
theorem dX4_hindranceOf_37 : decode cX4_hindranceOf 37 = .ok (.getfield 21, 3) := by decide +kernel
theorem dX4_hindranceOf_40 : decode cX4_hindranceOf 40 = .ok (.getfield 58, 3) := by decide +kernel
theorem dX4_hindranceOf_43 : decode cX4_hindranceOf 43 = .ok (.ifCond .ne 5, 3) := by decide +kernel
theorem dX4_hindranceOf_46 : decode cX4_hindranceOf 46 = .ok (.iconst 5, 1) := by decide +kernel
theorem dX4_hindranceOf_47 : decode cX4_hindranceOf 47 = .ok (.ireturn, 1) := by decide +kernel
theorem dX4_hindranceOf_48 : decode cX4_hindranceOf 48 = .ok (.iconst 0, 1) := by decide +kernel
theorem dX4_hindranceOf_49 : decode cX4_hindranceOf 49 = .ok (.ireturn, 1) := by decide +kernel
theorem dX4_isBeyond_0 : decode cX4_isBeyond 0 = .ok (.iload_n 0, 1) := by decide +kernel
theorem dX4_isBeyond_1 : decode cX4_isBeyond 1 = .ok (.tableswitch 89 2 7 #[39, 39, 39, 39, 51, 74], 39) := by decide +kernel
theorem dX4_isBeyond_40 : decode cX4_isBeyond 40 = .ok (.iload_n 1, 1) := by decide +kernel
theorem dX4_isBeyond_41 : decode cX4_isBeyond 41 = .ok (.bipush 64, 2) := by decide +kernel
theorem dX4_isBeyond_43 : decode cX4_isBeyond 43 = .ok (.if_icmp .lt 7, 3) := by decide +kernel
theorem dX4_isBeyond_46 : decode cX4_isBeyond 46 = .ok (.iconst 1, 1) := by decide +kernel
theorem dX4_isBeyond_47 : decode cX4_isBeyond 47 = .ok (.goto 4, 3) := by decide +kernel
theorem dX4_isBeyond_50 : decode cX4_isBeyond 50 = .ok (.iconst 0, 1) := by decide +kernel
theorem dX4_isBeyond_51 : decode cX4_isBeyond 51 = .ok (.ireturn, 1) := by decide +kernel
theorem dX4_isBeyond_52 : decode cX4_isBeyond 52 = .ok (.iload_n 1, 1) := by decide +kernel
theorem dX4_isBeyond_53 : decode cX4_isBeyond 53 = .ok (.bipush 10, 2) := by decide +kernel
theorem dX4_isBeyond_55 : decode cX4_isBeyond 55 = .ok (.idiv, 1) := by decide +kernel
theorem dX4_isBeyond_56 : decode cX4_isBeyond 56 = .ok (.iconst 4, 1) := by decide +kernel
theorem dX4_isBeyond_57 : decode cX4_isBeyond 57 = .ok (.if_icmp .ge 12, 3) := by decide +kernel
theorem dX4_isBeyond_60 : decode cX4_isBeyond 60 = .ok (.iload_n 1, 1) := by decide +kernel
theorem dX4_isBeyond_61 : decode cX4_isBeyond 61 = .ok (.bipush 10, 2) := by decide +kernel
theorem dX4_isBeyond_63 : decode cX4_isBeyond 63 = .ok (.irem, 1) := by decide +kernel
theorem dX4_isBeyond_64 : decode cX4_isBeyond 64 = .ok (.bipush 8, 2) := by decide +kernel
theorem dX4_isBeyond_66 : decode cX4_isBeyond 66 = .ok (.if_icmp .lt 7, 3) := by decide +kernel
theorem dX4_isBeyond_69 : decode cX4_isBeyond 69 = .ok (.iconst 1, 1) := by decide +kernel
theorem dX4_isBeyond_70 : decode cX4_isBeyond 70 = .ok (.goto 4, 3) := by decide +kernel
theorem dX4_isBeyond_73 : decode cX4_isBeyond 73 = .ok (.iconst 0, 1) := by decide +kernel
theorem dX4_isBeyond_74 : decode cX4_isBeyond 74 = .ok (.ireturn, 1) := by decide +kernel
theorem dX4_isBeyond_75 : decode cX4_isBeyond 75 = .ok (.iload_n 1, 1) := by decide +kernel
theorem dX4_isBeyond_76 : decode cX4_isBeyond 76 = .ok (.bipush 10, 2) := by decide +kernel
theorem dX4_isBeyond_78 : decode cX4_isBeyond 78 = .ok (.idiv, 1) := by decide +kernel
theorem dX4_isBeyond_79 : decode cX4_isBeyond 79 = .ok (.bipush 8, 2) := by decide +kernel
theorem dX4_isBeyond_81 : decode cX4_isBeyond 81 = .ok (.if_icmp .lt 7, 3) := by decide +kernel
theorem dX4_isBeyond_84 : decode cX4_isBeyond 84 = .ok (.iconst 1, 1) := by decide +kernel
theorem dX4_isBeyond_85 : decode cX4_isBeyond 85 = .ok (.goto 4, 3) := by decide +kernel
theorem dX4_isBeyond_88 : decode cX4_isBeyond 88 = .ok (.iconst 0, 1) := by decide +kernel
theorem dX4_isBeyond_89 : decode cX4_isBeyond 89 = .ok (.ireturn, 1) := by decide +kernel
theorem dX4_isBeyond_90 : decode cX4_isBeyond 90 = .ok (.iconst 0, 1) := by decide +kernel
theorem dX4_isBeyond_91 : decode cX4_isBeyond 91 = .ok (.ireturn, 1) := by decide +kernel
theorem dX4_carryOut_0 : decode cX4_carryOut 0 = .ok (.iload_n 1, 1) := by decide +kernel
theorem dX4_carryOut_1 : decode cX4_carryOut 1 = .ok (.tableswitch 183 1 9 #[51, 59, 74, 108, 116, 138, 159, 168, 175], 51) := by decide +kernel
theorem dX4_carryOut_52 : decode cX4_carryOut 52 = .ok (.aload_n 0, 1) := by decide +kernel
theorem dX4_carryOut_53 : decode cX4_carryOut 53 = .ok (.iload_n 2, 1) := by decide +kernel
theorem dX4_carryOut_54 : decode cX4_carryOut 54 = .ok (.putfield 42, 3) := by decide +kernel
theorem dX4_carryOut_57 : decode cX4_carryOut 57 = .ok (.goto 132, 3) := by decide +kernel
theorem dX4_carryOut_60 : decode cX4_carryOut 60 = .ok (.aload_n 0, 1) := by decide +kernel
theorem dX4_carryOut_61 : decode cX4_carryOut 61 = .ok (.aload_n 0, 1) := by decide +kernel
theorem dX4_carryOut_62 : decode cX4_carryOut 62 = .ok (.getfield 12, 3) := by decide +kernel
theorem dX4_carryOut_65 : decode cX4_carryOut 65 = .ok (.iload_n 2, 1) := by decide +kernel
theorem dX4_carryOut_66 : decode cX4_carryOut 66 = .ok (.invokevirtual 64, 3) := by decide +kernel
theorem dX4_carryOut_69 : decode cX4_carryOut 69 = .ok (.invokevirtual 86, 3) := by decide +kernel
theorem dX4_carryOut_72 : decode cX4_carryOut 72 = .ok (.goto 117, 3) := by decide +kernel
theorem dX4_carryOut_75 : decode cX4_carryOut 75 = .ok (.aload_n 0, 1) := by decide +kernel
theorem dX4_carryOut_76 : decode cX4_carryOut 76 = .ok (.aload_n 0, 1) := by decide +kernel
theorem dX4_carryOut_77 : decode cX4_carryOut 77 = .ok (.getfield 12, 3) := by decide +kernel
theorem dX4_carryOut_80 : decode cX4_carryOut 80 = .ok (.iload_n 2, 1) := by decide +kernel
theorem dX4_carryOut_81 : decode cX4_carryOut 81 = .ok (.aload_n 0, 1) := by decide +kernel
theorem dX4_carryOut_82 : decode cX4_carryOut 82 = .ok (.getfield 42, 3) := by decide +kernel
theorem dX4_carryOut_85 : decode cX4_carryOut 85 = .ok (.invokevirtual 90, 3) := by decide +kernel
theorem dX4_carryOut_88 : decode cX4_carryOut 88 = .ok (.ifCond .ne 10, 3) := by decide +kernel
theorem dX4_carryOut_91 : decode cX4_carryOut 91 = .ok (.aload_n 0, 1) := by decide +kernel
theorem dX4_carryOut_92 : decode cX4_carryOut 92 = .ok (.getfield 52, 3) := by decide +kernel
theorem dX4_carryOut_95 : decode cX4_carryOut 95 = .ok (.ifCond .ne 7, 3) := by decide +kernel
theorem dX4_carryOut_98 : decode cX4_carryOut 98 = .ok (.iconst 0, 1) := by decide +kernel
theorem dX4_carryOut_99 : decode cX4_carryOut 99 = .ok (.goto 4, 3) := by decide +kernel
theorem dX4_carryOut_102 : decode cX4_carryOut 102 = .ok (.iconst 2, 1) := by decide +kernel
theorem dX4_carryOut_103 : decode cX4_carryOut 103 = .ok (.putfield 49, 3) := by decide +kernel
theorem dX4_carryOut_106 : decode cX4_carryOut 106 = .ok (.goto 83, 3) := by decide +kernel
theorem dX4_carryOut_109 : decode cX4_carryOut 109 = .ok (.aload_n 0, 1) := by decide +kernel
theorem dX4_carryOut_110 : decode cX4_carryOut 110 = .ok (.iload_n 2, 1) := by decide +kernel
theorem dX4_carryOut_111 : decode cX4_carryOut 111 = .ok (.putfield 46, 3) := by decide +kernel
theorem dX4_carryOut_114 : decode cX4_carryOut 114 = .ok (.goto 75, 3) := by decide +kernel
theorem dX4_carryOut_117 : decode cX4_carryOut 117 = .ok (.aload_n 0, 1) := by decide +kernel
theorem dX4_carryOut_118 : decode cX4_carryOut 118 = .ok (.aload_n 0, 1) := by decide +kernel
theorem dX4_carryOut_119 : decode cX4_carryOut 119 = .ok (.getfield 42, 3) := by decide +kernel
theorem dX4_carryOut_122 : decode cX4_carryOut 122 = .ok (.ifCond .ne 7, 3) := by decide +kernel
theorem dX4_carryOut_125 : decode cX4_carryOut 125 = .ok (.iload_n 2, 1) := by decide +kernel
theorem dX4_carryOut_126 : decode cX4_carryOut 126 = .ok (.goto 7, 3) := by decide +kernel
theorem dX4_carryOut_129 : decode cX4_carryOut 129 = .ok (.aload_n 0, 1) := by decide +kernel
theorem dX4_carryOut_130 : decode cX4_carryOut 130 = .ok (.getfield 46, 3) := by decide +kernel
theorem dX4_carryOut_133 : decode cX4_carryOut 133 = .ok (.putfield 46, 3) := by decide +kernel
theorem dX4_carryOut_136 : decode cX4_carryOut 136 = .ok (.goto 53, 3) := by decide +kernel
theorem dX4_carryOut_139 : decode cX4_carryOut 139 = .ok (.aload_n 0, 1) := by decide +kernel
theorem dX4_carryOut_140 : decode cX4_carryOut 140 = .ok (.getfield 12, 3) := by decide +kernel
theorem dX4_carryOut_143 : decode cX4_carryOut 143 = .ok (.getfield 93, 3) := by decide +kernel
theorem dX4_carryOut_146 : decode cX4_carryOut 146 = .ok (.iload_n 2, 1) := by decide +kernel
theorem dX4_carryOut_147 : decode cX4_carryOut 147 = .ok (.bipush 10, 2) := by decide +kernel
theorem dX4_carryOut_149 : decode cX4_carryOut 149 = .ok (.idiv, 1) := by decide +kernel
theorem dX4_carryOut_150 : decode cX4_carryOut 150 = .ok (.iload_n 2, 1) := by decide +kernel
theorem dX4_carryOut_151 : decode cX4_carryOut 151 = .ok (.bipush 10, 2) := by decide +kernel
theorem dX4_carryOut_153 : decode cX4_carryOut 153 = .ok (.irem, 1) := by decide +kernel
theorem dX4_carryOut_154 : decode cX4_carryOut 154 = .ok (.invokevirtual 97, 3) := by decide +kernel
theorem dX4_carryOut_157 : decode cX4_carryOut 157 = .ok (.goto 32, 3) := by decide +kernel
theorem dX4_carryOut_160 : decode cX4_carryOut 160 = .ok (.aload_n 0, 1) := by decide +kernel
theorem dX4_carryOut_161 : decode cX4_carryOut 161 = .ok (.iload_n 3, 1) := by decide +kernel
theorem dX4_carryOut_162 : decode cX4_carryOut 162 = .ok (.iload_n 2, 1) := by decide +kernel
theorem dX4_carryOut_163 : decode cX4_carryOut 163 = .ok (.invokevirtual 103, 3) := by decide +kernel
theorem dX4_carryOut_166 : decode cX4_carryOut 166 = .ok (.goto 23, 3) := by decide +kernel
theorem dX4_carryOut_169 : decode cX4_carryOut 169 = .ok (.aload_n 0, 1) := by decide +kernel
theorem dX4_carryOut_170 : decode cX4_carryOut 170 = .ok (.invokevirtual 106, 3) := by decide +kernel
theorem dX4_carryOut_173 : decode cX4_carryOut 173 = .ok (.goto 16, 3) := by decide +kernel
theorem dX4_carryOut_176 : decode cX4_carryOut 176 = .ok (.aload_n 0, 1) := by decide +kernel
theorem dX4_carryOut_177 : decode cX4_carryOut 177 = .ok (.iload_n 2, 1) := by decide +kernel
theorem dX4_carryOut_178 : decode cX4_carryOut 178 = .ok (.invokevirtual 86, 3) := by decide +kernel
theorem dX4_carryOut_181 : decode cX4_carryOut 181 = .ok (.goto 8, 3) := by decide +kernel
theorem dX4_carryOut_184 : decode cX4_carryOut 184 = .ok (.aload_n 0, 1) := by decide +kernel
theorem dX4_carryOut_185 : decode cX4_carryOut 185 = .ok (.iconst 1, 1) := by decide +kernel
theorem dX4_carryOut_186 : decode cX4_carryOut 186 = .ok (.putfield 49, 3) := by decide +kernel
theorem dX4_carryOut_189 : decode cX4_carryOut 189 = .ok (.return_, 1) := by decide +kernel
theorem dX4_increase_0 : decode cX4_increase 0 = .ok (.aload_n 0, 1) := by decide +kernel
theorem dX4_increase_1 : decode cX4_increase 1 = .ok (.getfield 42, 3) := by decide +kernel
theorem dX4_increase_4 : decode cX4_increase 4 = .ok (.iload_n 1, 1) := by decide +kernel
theorem dX4_increase_5 : decode cX4_increase 5 = .ok (.iadd, 1) := by decide +kernel
theorem dX4_increase_6 : decode cX4_increase 6 = .ok (.istore_n 2, 1) := by decide +kernel
theorem dX4_increase_7 : decode cX4_increase 7 = .ok (.aload_n 0, 1) := by decide +kernel
theorem dX4_increase_8 : decode cX4_increase 8 = .ok (.iload_n 2, 1) := by decide +kernel
theorem dX4_increase_9 : decode cX4_increase 9 = .ok (.sipush 999, 3) := by decide +kernel
theorem dX4_increase_12 : decode cX4_increase 12 = .ok (.if_icmp .le 13, 3) := by decide +kernel
theorem dX4_increase_15 : decode cX4_increase 15 = .ok (.iload_n 2, 1) := by decide +kernel
theorem dX4_increase_16 : decode cX4_increase 16 = .ok (.sipush 999, 3) := by decide +kernel
theorem dX4_increase_19 : decode cX4_increase 19 = .ok (.isub, 1) := by decide +kernel
theorem dX4_increase_20 : decode cX4_increase 20 = .ok (.iconst 1, 1) := by decide +kernel
theorem dX4_increase_21 : decode cX4_increase 21 = .ok (.isub, 1) := by decide +kernel
theorem dX4_increase_22 : decode cX4_increase 22 = .ok (.goto 4, 3) := by decide +kernel
theorem dX4_increase_25 : decode cX4_increase 25 = .ok (.iload_n 2, 1) := by decide +kernel
theorem dX4_increase_26 : decode cX4_increase 26 = .ok (.putfield 42, 3) := by decide +kernel
theorem dX4_increase_29 : decode cX4_increase 29 = .ok (.return_, 1) := by decide +kernel
theorem dX4_callFrom_0 : decode cX4_callFrom 0 = .ok (.aload_n 0, 1) := by decide +kernel
theorem dX4_callFrom_1 : decode cX4_callFrom 1 = .ok (.getfield 21, 3) := by decide +kernel
theorem dX4_callFrom_4 : decode cX4_callFrom 4 = .ok (.iload_n 1, 1) := by decide +kernel
theorem dX4_callFrom_5 : decode cX4_callFrom 5 = .ok (.aload_n 0, 1) := by decide +kernel
theorem dX4_callFrom_6 : decode cX4_callFrom 6 = .ok (.getfield 12, 3) := by decide +kernel
theorem dX4_callFrom_9 : decode cX4_callFrom 9 = .ok (.getfield 93, 3) := by decide +kernel
theorem dX4_callFrom_12 : decode cX4_callFrom 12 = .ok (.iload_n 1, 1) := by decide +kernel
theorem dX4_callFrom_13 : decode cX4_callFrom 13 = .ok (.invokevirtual 109, 3) := by decide +kernel
theorem dX4_callFrom_16 : decode cX4_callFrom 16 = .ok (.aload_n 0, 1) := by decide +kernel
theorem dX4_callFrom_17 : decode cX4_callFrom 17 = .ok (.getfield 46, 3) := by decide +kernel
theorem dX4_callFrom_20 : decode cX4_callFrom 20 = .ok (.invokevirtual 112, 3) := by decide +kernel
theorem dX4_callFrom_23 : decode cX4_callFrom 23 = .ok (.aload_n 0, 1) := by decide +kernel
theorem dX4_callFrom_24 : decode cX4_callFrom 24 = .ok (.getfield 12, 3) := by decide +kernel
theorem dX4_callFrom_27 : decode cX4_callFrom 27 = .ok (.getfield 93, 3) := by decide +kernel
theorem dX4_callFrom_30 : decode cX4_callFrom 30 = .ok (.iload_n 1, 1) := by decide +kernel
theorem dX4_callFrom_31 : decode cX4_callFrom 31 = .ok (.iload_n 2, 1) := by decide +kernel
theorem dX4_callFrom_32 : decode cX4_callFrom 32 = .ok (.bipush 10, 2) := by decide +kernel
theorem dX4_callFrom_34 : decode cX4_callFrom 34 = .ok (.idiv, 1) := by decide +kernel
theorem dX4_callFrom_35 : decode cX4_callFrom 35 = .ok (.invokevirtual 97, 3) := by decide +kernel
theorem dX4_callFrom_38 : decode cX4_callFrom 38 = .ok (.aload_n 0, 1) := by decide +kernel
theorem dX4_callFrom_39 : decode cX4_callFrom 39 = .ok (.iload_n 1, 1) := by decide +kernel
theorem dX4_callFrom_40 : decode cX4_callFrom 40 = .ok (.bipush 16, 2) := by decide +kernel
theorem dX4_callFrom_42 : decode cX4_callFrom 42 = .ok (.imul, 1) := by decide +kernel
theorem dX4_callFrom_43 : decode cX4_callFrom 43 = .ok (.iload_n 2, 1) := by decide +kernel
theorem dX4_callFrom_44 : decode cX4_callFrom 44 = .ok (.bipush 10, 2) := by decide +kernel
theorem dX4_callFrom_46 : decode cX4_callFrom 46 = .ok (.irem, 1) := by decide +kernel
theorem dX4_callFrom_47 : decode cX4_callFrom 47 = .ok (.iadd, 1) := by decide +kernel
theorem dX4_callFrom_48 : decode cX4_callFrom 48 = .ok (.putfield 46, 3) := by decide +kernel
theorem dX4_callFrom_51 : decode cX4_callFrom 51 = .ok (.aload_n 0, 1) := by decide +kernel
theorem dX4_callFrom_52 : decode cX4_callFrom 52 = .ok (.dup, 1) := by decide +kernel
theorem dX4_callFrom_53 : decode cX4_callFrom 53 = .ok (.getfield 55, 3) := by decide +kernel
theorem dX4_callFrom_56 : decode cX4_callFrom 56 = .ok (.iconst 1, 1) := by decide +kernel
theorem dX4_callFrom_57 : decode cX4_callFrom 57 = .ok (.iadd, 1) := by decide +kernel
theorem dX4_callFrom_58 : decode cX4_callFrom 58 = .ok (.putfield 55, 3) := by decide +kernel
theorem dX4_callFrom_61 : decode cX4_callFrom 61 = .ok (.return_, 1) := by decide +kernel
theorem dX4_comeBack_0 : decode cX4_comeBack 0 = .ok (.aload_n 0, 1) := by decide +kernel
theorem dX4_comeBack_1 : decode cX4_comeBack 1 = .ok (.getfield 12, 3) := by decide +kernel
theorem dX4_comeBack_4 : decode cX4_comeBack 4 = .ok (.getfield 93, 3) := by decide +kernel
theorem dX4_comeBack_7 : decode cX4_comeBack 7 = .ok (.aload_n 0, 1) := by decide +kernel
theorem dX4_comeBack_8 : decode cX4_comeBack 8 = .ok (.getfield 21, 3) := by decide +kernel
theorem dX4_comeBack_11 : decode cX4_comeBack 11 = .ok (.iconst 0, 1) := by decide +kernel
theorem dX4_comeBack_12 : decode cX4_comeBack 12 = .ok (.iconst 0, 1) := by decide +kernel
theorem dX4_comeBack_13 : decode cX4_comeBack 13 = .ok (.invokevirtual 113, 3) := by decide +kernel
theorem dX4_comeBack_16 : decode cX4_comeBack 16 = .ok (.aload_n 0, 1) := by decide +kernel
theorem dX4_comeBack_17 : decode cX4_comeBack 17 = .ok (.getfield 21, 3) := by decide +kernel
theorem dX4_comeBack_20 : decode cX4_comeBack 20 = .ok (.iconst 0, 1) := by decide +kernel
theorem dX4_comeBack_21 : decode cX4_comeBack 21 = .ok (.iconst 1, 1) := by decide +kernel
theorem dX4_comeBack_22 : decode cX4_comeBack 22 = .ok (.invokevirtual 113, 3) := by decide +kernel
theorem dX4_comeBack_25 : decode cX4_comeBack 25 = .ok (.invokevirtual 97, 3) := by decide +kernel
theorem dX4_comeBack_28 : decode cX4_comeBack 28 = .ok (.aload_n 0, 1) := by decide +kernel
theorem dX4_comeBack_29 : decode cX4_comeBack 29 = .ok (.aload_n 0, 1) := by decide +kernel
theorem dX4_comeBack_30 : decode cX4_comeBack 30 = .ok (.getfield 21, 3) := by decide +kernel
theorem dX4_comeBack_33 : decode cX4_comeBack 33 = .ok (.iconst 0, 1) := by decide +kernel
theorem dX4_comeBack_34 : decode cX4_comeBack 34 = .ok (.iconst 2, 1) := by decide +kernel
theorem dX4_comeBack_35 : decode cX4_comeBack 35 = .ok (.invokevirtual 113, 3) := by decide +kernel
theorem dX4_comeBack_38 : decode cX4_comeBack 38 = .ok (.putfield 46, 3) := by decide +kernel
theorem dX4_comeBack_41 : decode cX4_comeBack 41 = .ok (.aload_n 0, 1) := by decide +kernel
theorem dX4_comeBack_42 : decode cX4_comeBack 42 = .ok (.getfield 21, 3) := by decide +kernel
theorem dX4_comeBack_45 : decode cX4_comeBack 45 = .ok (.dup, 1) := by decide +kernel
theorem dX4_comeBack_46 : decode cX4_comeBack 46 = .ok (.getfield 58, 3) := by decide +kernel
theorem dX4_comeBack_49 : decode cX4_comeBack 49 = .ok (.iconst 1, 1) := by decide +kernel
theorem dX4_comeBack_50 : decode cX4_comeBack 50 = .ok (.isub, 1) := by decide +kernel
theorem dX4_comeBack_51 : decode cX4_comeBack 51 = .ok (.putfield 58, 3) := by decide +kernel
theorem dX4_comeBack_54 : decode cX4_comeBack 54 = .ok (.return_, 1) := by decide +kernel
theorem dX5_init_0 : decode cX5_init 0 = .ok (.aload_n 0, 1) := by decide +kernel
theorem dX5_init_1 : decode cX5_init 1 = .ok (.invokespecial 1, 3) := by decide +kernel
theorem dX5_init_4 : decode cX5_init 4 = .ok (.aload_n 0, 1) := by decide +kernel
theorem dX5_init_5 : decode cX5_init 5 = .ok (.iload_n 1, 1) := by decide +kernel
theorem dX5_init_6 : decode cX5_init 6 = .ok (.iconst 0, 1) := by decide +kernel
theorem dX5_init_7 : decode cX5_init 7 = .ok (.invokestatic 7, 3) := by decide +kernel
theorem dX5_init_10 : decode cX5_init 10 = .ok (.newarray .int, 2) := by decide +kernel
theorem dX5_init_12 : decode cX5_init 12 = .ok (.putfield 13, 3) := by decide +kernel
theorem dX5_init_15 : decode cX5_init 15 = .ok (.return_, 1) := by decide +kernel
theorem dX5_read_0 : decode cX5_read 0 = .ok (.iload_n 1, 1) := by decide +kernel
theorem dX5_read_1 : decode cX5_read 1 = .ok (.ifCond .lt 21, 3) := by decide +kernel
theorem dX5_read_4 : decode cX5_read 4 = .ok (.iload_n 1, 1) := by decide +kernel
theorem dX5_read_5 : decode cX5_read 5 = .ok (.aload_n 0, 1) := by decide +kernel
theorem dX5_read_6 : decode cX5_read 6 = .ok (.getfield 13, 3) := by decide +kernel
theorem dX5_read_9 : decode cX5_read 9 = .ok (.arraylength, 1) := by decide +kernel
theorem dX5_read_10 : decode cX5_read 10 = .ok (.if_icmp .ge 12, 3) := by decide +kernel
theorem dX5_read_13 : decode cX5_read 13 = .ok (.aload_n 0, 1) := by decide +kernel
theorem dX5_read_14 : decode cX5_read 14 = .ok (.getfield 13, 3) := by decide +kernel
theorem dX5_read_17 : decode cX5_read 17 = .ok (.iload_n 1, 1) := by decide +kernel
theorem dX5_read_18 : decode cX5_read 18 = .ok (.iaload, 1) := by decide +kernel
theorem dX5_read_19 : decode cX5_read 19 = .ok (.goto 4, 3) := by decide +kernel
theorem dX5_read_22 : decode cX5_read 22 = .ok (.iconst 0, 1) := by decide +kernel
theorem dX5_read_23 : decode cX5_read 23 = .ok (.ireturn, 1) := by decide +kernel
theorem dX5_write_0 : decode cX5_write 0 = .ok (.iload_n 1, 1) := by decide +kernel
theorem dX5_write_1 : decode cX5_write 1 = .ok (.ifCond .lt 19, 3) := by decide +kernel
theorem dX5_write_4 : decode cX5_write 4 = .ok (.iload_n 1, 1) := by decide +kernel
theorem dX5_write_5 : decode cX5_write 5 = .ok (.aload_n 0, 1) := by decide +kernel
theorem dX5_write_6 : decode cX5_write 6 = .ok (.getfield 13, 3) := by decide +kernel
theorem dX5_write_9 : decode cX5_write 9 = .ok (.arraylength, 1) := by decide +kernel
theorem dX5_write_10 : decode cX5_write 10 = .ok (.if_icmp .ge 10, 3) := by decide +kernel
theorem dX5_write_13 : decode cX5_write 13 = .ok (.aload_n 0, 1) := by decide +kernel
theorem dX5_write_14 : decode cX5_write 14 = .ok (.getfield 13, 3) := by decide +kernel
theorem dX5_write_17 : decode cX5_write 17 = .ok (.iload_n 1, 1) := by decide +kernel
theorem dX5_write_18 : decode cX5_write 18 = .ok (.iload_n 2, 1) := by decide +kernel
theorem dX5_write_19 : decode cX5_write 19 = .ok (.iastore, 1) := by decide +kernel
theorem dX5_write_20 : decode cX5_write 20 = .ok (.return_, 1) := by decide +kernel
theorem dX5_sum_0 : decode cX5_sum 0 = .ok (.iconst 0, 1) := by decide +kernel
theorem dX5_sum_1 : decode cX5_sum 1 = .ok (.istore_n 1, 1) := by decide +kernel
theorem dX5_sum_2 : decode cX5_sum 2 = .ok (.aload_n 0, 1) := by decide +kernel
theorem dX5_sum_3 : decode cX5_sum 3 = .ok (.getfield 13, 3) := by decide +kernel
theorem dX5_sum_6 : decode cX5_sum 6 = .ok (.astore_n 2, 1) := by decide +kernel
theorem dX5_sum_7 : decode cX5_sum 7 = .ok (.aload_n 2, 1) := by decide +kernel
theorem dX5_sum_8 : decode cX5_sum 8 = .ok (.arraylength, 1) := by decide +kernel
theorem dX5_sum_9 : decode cX5_sum 9 = .ok (.istore_n 3, 1) := by decide +kernel
theorem dX5_sum_10 : decode cX5_sum 10 = .ok (.iconst 0, 1) := by decide +kernel
theorem dX5_sum_11 : decode cX5_sum 11 = .ok (.istore 4, 2) := by decide +kernel
theorem dX5_sum_13 : decode cX5_sum 13 = .ok (.iload 4, 2) := by decide +kernel
theorem dX5_sum_15 : decode cX5_sum 15 = .ok (.iload_n 3, 1) := by decide +kernel
theorem dX5_sum_16 : decode cX5_sum 16 = .ok (.if_icmp .ge 20, 3) := by decide +kernel
theorem dX5_sum_19 : decode cX5_sum 19 = .ok (.aload_n 2, 1) := by decide +kernel
theorem dX5_sum_20 : decode cX5_sum 20 = .ok (.iload 4, 2) := by decide +kernel
theorem dX5_sum_22 : decode cX5_sum 22 = .ok (.iaload, 1) := by decide +kernel
theorem dX5_sum_23 : decode cX5_sum 23 = .ok (.istore 5, 2) := by decide +kernel
theorem dX5_sum_25 : decode cX5_sum 25 = .ok (.iload_n 1, 1) := by decide +kernel
theorem dX5_sum_26 : decode cX5_sum 26 = .ok (.iload 5, 2) := by decide +kernel
theorem dX5_sum_28 : decode cX5_sum 28 = .ok (.iadd, 1) := by decide +kernel
theorem dX5_sum_29 : decode cX5_sum 29 = .ok (.istore_n 1, 1) := by decide +kernel
theorem dX5_sum_30 : decode cX5_sum 30 = .ok (.iinc 4 1, 3) := by decide +kernel
theorem dX5_sum_33 : decode cX5_sum 33 = .ok (.goto (-20), 3) := by decide +kernel
theorem dX5_sum_36 : decode cX5_sum 36 = .ok (.iload_n 1, 1) := by decide +kernel
theorem dX5_sum_37 : decode cX5_sum 37 = .ok (.ireturn, 1) := by decide +kernel
theorem dX5_differencesTo_0 : decode cX5_differencesTo 0 = .ok (.iconst 0, 1) := by decide +kernel
theorem dX5_differencesTo_1 : decode cX5_differencesTo 1 = .ok (.istore_n 2, 1) := by decide +kernel
theorem dX5_differencesTo_2 : decode cX5_differencesTo 2 = .ok (.iconst 0, 1) := by decide +kernel
theorem dX5_differencesTo_3 : decode cX5_differencesTo 3 = .ok (.istore_n 3, 1) := by decide +kernel
theorem dX5_differencesTo_4 : decode cX5_differencesTo 4 = .ok (.iload_n 3, 1) := by decide +kernel
theorem dX5_differencesTo_5 : decode cX5_differencesTo 5 = .ok (.aload_n 0, 1) := by decide +kernel
theorem dX5_differencesTo_6 : decode cX5_differencesTo 6 = .ok (.getfield 13, 3) := by decide +kernel
theorem dX5_differencesTo_9 : decode cX5_differencesTo 9 = .ok (.arraylength, 1) := by decide +kernel
theorem dX5_differencesTo_10 : decode cX5_differencesTo 10 = .ok (.if_icmp .ge 26, 3) := by decide +kernel
theorem dX5_differencesTo_13 : decode cX5_differencesTo 13 = .ok (.aload_n 0, 1) := by decide +kernel
theorem dX5_differencesTo_14 : decode cX5_differencesTo 14 = .ok (.getfield 13, 3) := by decide +kernel
theorem dX5_differencesTo_17 : decode cX5_differencesTo 17 = .ok (.iload_n 3, 1) := by decide +kernel
theorem dX5_differencesTo_18 : decode cX5_differencesTo 18 = .ok (.iaload, 1) := by decide +kernel
theorem dX5_differencesTo_19 : decode cX5_differencesTo 19 = .ok (.aload_n 1, 1) := by decide +kernel
theorem dX5_differencesTo_20 : decode cX5_differencesTo 20 = .ok (.iload_n 3, 1) := by decide +kernel
theorem dX5_differencesTo_21 : decode cX5_differencesTo 21 = .ok (.invokevirtual 19, 3) := by decide +kernel
theorem dX5_differencesTo_24 : decode cX5_differencesTo 24 = .ok (.if_icmp .eq 6, 3) := by decide +kernel
theorem dX5_differencesTo_27 : decode cX5_differencesTo 27 = .ok (.iinc 2 1, 3) := by decide +kernel
theorem dX5_differencesTo_30 : decode cX5_differencesTo 30 = .ok (.iinc 3 1, 3) := by decide +kernel
theorem dX5_differencesTo_33 : decode cX5_differencesTo 33 = .ok (.goto (-29), 3) := by decide +kernel
theorem dX5_differencesTo_36 : decode cX5_differencesTo 36 = .ok (.iload_n 2, 1) := by decide +kernel
theorem dX5_differencesTo_37 : decode cX5_differencesTo 37 = .ok (.ireturn, 1) := by decide +kernel
theorem dX5_copyFrom_0 : decode cX5_copyFrom 0 = .ok (.aload_n 1, 1) := by decide +kernel
theorem dX5_copyFrom_1 : decode cX5_copyFrom 1 = .ok (.getfield 13, 3) := by decide +kernel
theorem dX5_copyFrom_4 : decode cX5_copyFrom 4 = .ok (.iconst 0, 1) := by decide +kernel
theorem dX5_copyFrom_5 : decode cX5_copyFrom 5 = .ok (.aload_n 0, 1) := by decide +kernel
theorem dX5_copyFrom_6 : decode cX5_copyFrom 6 = .ok (.getfield 13, 3) := by decide +kernel
theorem dX5_copyFrom_9 : decode cX5_copyFrom 9 = .ok (.iconst 0, 1) := by decide +kernel
theorem dX5_copyFrom_10 : decode cX5_copyFrom 10 = .ok (.aload_n 0, 1) := by decide +kernel
theorem dX5_copyFrom_11 : decode cX5_copyFrom 11 = .ok (.getfield 13, 3) := by decide +kernel
theorem dX5_copyFrom_14 : decode cX5_copyFrom 14 = .ok (.arraylength, 1) := by decide +kernel
theorem dX5_copyFrom_15 : decode cX5_copyFrom 15 = .ok (.aload_n 1, 1) := by decide +kernel
theorem dX5_copyFrom_16 : decode cX5_copyFrom 16 = .ok (.getfield 13, 3) := by decide +kernel
theorem dX5_copyFrom_19 : decode cX5_copyFrom 19 = .ok (.arraylength, 1) := by decide +kernel
theorem dX5_copyFrom_20 : decode cX5_copyFrom 20 = .ok (.invokestatic 23, 3) := by decide +kernel
theorem dX5_copyFrom_23 : decode cX5_copyFrom 23 = .ok (.invokestatic 26, 3) := by decide +kernel
theorem dX5_copyFrom_26 : decode cX5_copyFrom 26 = .ok (.return_, 1) := by decide +kernel
theorem dX6_init_0 : decode cX6_init 0 = .ok (.aload_n 0, 1) := by decide +kernel
theorem dX6_init_1 : decode cX6_init 1 = .ok (.invokespecial 3, 3) := by decide +kernel
theorem dX6_init_4 : decode cX6_init 4 = .ok (.aload_n 0, 1) := by decide +kernel
theorem dX6_init_5 : decode cX6_init 5 = .ok (.bipush 80, 2) := by decide +kernel
theorem dX6_init_7 : decode cX6_init 7 = .ok (.newarray .char, 2) := by decide +kernel
theorem dX6_init_9 : decode cX6_init 9 = .ok (.putfield 9, 3) := by decide +kernel
theorem dX6_init_12 : decode cX6_init 12 = .ok (.return_, 1) := by decide +kernel
theorem dX6_isFull_0 : decode cX6_isFull 0 = .ok (.aload_n 0, 1) := by decide +kernel
theorem dX6_isFull_1 : decode cX6_isFull 1 = .ok (.getfield 15, 3) := by decide +kernel
theorem dX6_isFull_4 : decode cX6_isFull 4 = .ok (.bipush 80, 2) := by decide +kernel
theorem dX6_isFull_6 : decode cX6_isFull 6 = .ok (.if_icmp .lt 7, 3) := by decide +kernel
theorem dX6_isFull_9 : decode cX6_isFull 9 = .ok (.iconst 1, 1) := by decide +kernel
theorem dX6_isFull_10 : decode cX6_isFull 10 = .ok (.goto 4, 3) := by decide +kernel
theorem dX6_isFull_13 : decode cX6_isFull 13 = .ok (.iconst 0, 1) := by decide +kernel
theorem dX6_isFull_14 : decode cX6_isFull 14 = .ok (.ireturn, 1) := by decide +kernel
theorem dX6_append_0 : decode cX6_append 0 = .ok (.aload_n 0, 1) := by decide +kernel
theorem dX6_append_1 : decode cX6_append 1 = .ok (.getfield 15, 3) := by decide +kernel
theorem dX6_append_4 : decode cX6_append 4 = .ok (.ifCond .lt 35, 3) := by decide +kernel
theorem dX6_append_7 : decode cX6_append 7 = .ok (.aload_n 0, 1) := by decide +kernel
theorem dX6_append_8 : decode cX6_append 8 = .ok (.getfield 15, 3) := by decide +kernel
theorem dX6_append_11 : decode cX6_append 11 = .ok (.aload_n 0, 1) := by decide +kernel
theorem dX6_append_12 : decode cX6_append 12 = .ok (.getfield 9, 3) := by decide +kernel
theorem dX6_append_15 : decode cX6_append 15 = .ok (.arraylength, 1) := by decide +kernel
theorem dX6_append_16 : decode cX6_append 16 = .ok (.if_icmp .ge 23, 3) := by decide +kernel
theorem dX6_append_19 : decode cX6_append 19 = .ok (.aload_n 0, 1) := by decide +kernel
theorem dX6_append_20 : decode cX6_append 20 = .ok (.getfield 9, 3) := by decide +kernel
theorem dX6_append_23 : decode cX6_append 23 = .ok (.aload_n 0, 1) := by decide +kernel
theorem dX6_append_24 : decode cX6_append 24 = .ok (.getfield 15, 3) := by decide +kernel
theorem dX6_append_27 : decode cX6_append 27 = .ok (.iload_n 1, 1) := by decide +kernel
theorem dX6_append_28 : decode cX6_append 28 = .ok (.castore, 1) := by decide +kernel
theorem dX6_append_29 : decode cX6_append 29 = .ok (.aload_n 0, 1) := by decide +kernel
theorem dX6_append_30 : decode cX6_append 30 = .ok (.dup, 1) := by decide +kernel
theorem dX6_append_31 : decode cX6_append 31 = .ok (.getfield 15, 3) := by decide +kernel
theorem dX6_append_34 : decode cX6_append 34 = .ok (.iconst 1, 1) := by decide +kernel
theorem dX6_append_35 : decode cX6_append 35 = .ok (.iadd, 1) := by decide +kernel
theorem dX6_append_36 : decode cX6_append 36 = .ok (.putfield 15, 3) := by decide +kernel
theorem dX6_append_39 : decode cX6_append 39 = .ok (.return_, 1) := by decide +kernel
theorem dX6_at_0 : decode cX6_at 0 = .ok (.iload_n 1, 1) := by decide +kernel
theorem dX6_at_1 : decode cX6_at 1 = .ok (.ifCond .lt 29, 3) := by decide +kernel
theorem dX6_at_4 : decode cX6_at 4 = .ok (.iload_n 1, 1) := by decide +kernel
theorem dX6_at_5 : decode cX6_at 5 = .ok (.aload_n 0, 1) := by decide +kernel
theorem dX6_at_6 : decode cX6_at 6 = .ok (.getfield 15, 3) := by decide +kernel
theorem dX6_at_9 : decode cX6_at 9 = .ok (.if_icmp .ge 21, 3) := by decide +kernel
theorem dX6_at_12 : decode cX6_at 12 = .ok (.iload_n 1, 1) := by decide +kernel
theorem dX6_at_13 : decode cX6_at 13 = .ok (.aload_n 0, 1) := by decide +kernel
theorem dX6_at_14 : decode cX6_at 14 = .ok (.getfield 9, 3) := by decide +kernel
theorem dX6_at_17 : decode cX6_at 17 = .ok (.arraylength, 1) := by decide +kernel
theorem dX6_at_18 : decode cX6_at 18 = .ok (.if_icmp .ge 12, 3) := by decide +kernel
theorem dX6_at_21 : decode cX6_at 21 = .ok (.aload_n 0, 1) := by decide +kernel
theorem dX6_at_22 : decode cX6_at 22 = .ok (.getfield 9, 3) := by decide +kernel
theorem dX6_at_25 : decode cX6_at 25 = .ok (.iload_n 1, 1) := by decide +kernel
theorem dX6_at_26 : decode cX6_at 26 = .ok (.caload, 1) := by decide +kernel
theorem dX6_at_27 : decode cX6_at 27 = .ok (.goto 4, 3) := by decide +kernel
theorem dX6_at_30 : decode cX6_at 30 = .ok (.iconst (-1), 1) := by decide +kernel
theorem dX6_at_31 : decode cX6_at 31 = .ok (.ireturn, 1) := by decide +kernel
theorem dX7_init_0 : decode cX7_init 0 = .ok (.aload_n 0, 1) := by decide +kernel
theorem dX7_init_1 : decode cX7_init 1 = .ok (.invokespecial 3, 3) := by decide +kernel
theorem dX7_init_4 : decode cX7_init 4 = .ok (.aload_n 0, 1) := by decide +kernel
theorem dX7_init_5 : decode cX7_init 5 = .ok (.new 9, 3) := by decide +kernel
theorem dX7_init_8 : decode cX7_init 8 = .ok (.dup, 1) := by decide +kernel
theorem dX7_init_9 : decode cX7_init 9 = .ok (.bipush 36, 2) := by decide +kernel
theorem dX7_init_11 : decode cX7_init 11 = .ok (.invokespecial 13, 3) := by decide +kernel
theorem dX7_init_14 : decode cX7_init 14 = .ok (.putfield 16, 3) := by decide +kernel
theorem dX7_init_17 : decode cX7_init 17 = .ok (.return_, 1) := by decide +kernel
theorem dX7_copyFrom_0 : decode cX7_copyFrom 0 = .ok (.aload_n 0, 1) := by decide +kernel
theorem dX7_copyFrom_1 : decode cX7_copyFrom 1 = .ok (.getfield 16, 3) := by decide +kernel
theorem dX7_copyFrom_4 : decode cX7_copyFrom 4 = .ok (.aload_n 1, 1) := by decide +kernel
theorem dX7_copyFrom_5 : decode cX7_copyFrom 5 = .ok (.getfield 16, 3) := by decide +kernel
theorem dX7_copyFrom_8 : decode cX7_copyFrom 8 = .ok (.invokevirtual 20, 3) := by decide +kernel
theorem dX7_copyFrom_11 : decode cX7_copyFrom 11 = .ok (.aload_n 0, 1) := by decide +kernel
theorem dX7_copyFrom_12 : decode cX7_copyFrom 12 = .ok (.aload_n 1, 1) := by decide +kernel
theorem dX7_copyFrom_13 : decode cX7_copyFrom 13 = .ok (.getfield 24, 3) := by decide +kernel
theorem dX7_copyFrom_16 : decode cX7_copyFrom 16 = .ok (.putfield 24, 3) := by decide +kernel
theorem dX7_copyFrom_19 : decode cX7_copyFrom 19 = .ok (.return_, 1) := by decide +kernel
theorem dX7_add_0 : decode cX7_add 0 = .ok (.aload_n 0, 1) := by decide +kernel
theorem dX7_add_1 : decode cX7_add 1 = .ok (.getfield 24, 3) := by decide +kernel
theorem dX7_add_4 : decode cX7_add 4 = .ok (.bipush 12, 2) := by decide +kernel
theorem dX7_add_6 : decode cX7_add 6 = .ok (.irem, 1) := by decide +kernel
theorem dX7_add_7 : decode cX7_add 7 = .ok (.iconst 3, 1) := by decide +kernel
theorem dX7_add_8 : decode cX7_add 8 = .ok (.imul, 1) := by decide +kernel
theorem dX7_add_9 : decode cX7_add 9 = .ok (.istore 4, 2) := by decide +kernel
theorem dX7_add_11 : decode cX7_add 11 = .ok (.aload_n 0, 1) := by decide +kernel
theorem dX7_add_12 : decode cX7_add 12 = .ok (.getfield 16, 3) := by decide +kernel
theorem dX7_add_15 : decode cX7_add 15 = .ok (.iload 4, 2) := by decide +kernel
theorem dX7_add_17 : decode cX7_add 17 = .ok (.iconst 0, 1) := by decide +kernel
theorem dX7_add_18 : decode cX7_add 18 = .ok (.iadd, 1) := by decide +kernel
theorem dX7_add_19 : decode cX7_add 19 = .ok (.iload_n 1, 1) := by decide +kernel
theorem dX7_add_20 : decode cX7_add 20 = .ok (.invokevirtual 28, 3) := by decide +kernel
theorem dX7_add_23 : decode cX7_add 23 = .ok (.aload_n 0, 1) := by decide +kernel
theorem dX7_add_24 : decode cX7_add 24 = .ok (.getfield 16, 3) := by decide +kernel
theorem dX7_add_27 : decode cX7_add 27 = .ok (.iload 4, 2) := by decide +kernel
theorem dX7_add_29 : decode cX7_add 29 = .ok (.iconst 1, 1) := by decide +kernel
theorem dX7_add_30 : decode cX7_add 30 = .ok (.iadd, 1) := by decide +kernel
theorem dX7_add_31 : decode cX7_add 31 = .ok (.iload_n 2, 1) := by decide +kernel
theorem dX7_add_32 : decode cX7_add 32 = .ok (.invokevirtual 28, 3) := by decide +kernel
theorem dX7_add_35 : decode cX7_add 35 = .ok (.aload_n 0, 1) := by decide +kernel
theorem dX7_add_36 : decode cX7_add 36 = .ok (.getfield 16, 3) := by decide +kernel
theorem dX7_add_39 : decode cX7_add 39 = .ok (.iload 4, 2) := by decide +kernel
theorem dX7_add_41 : decode cX7_add 41 = .ok (.iconst 2, 1) := by decide +kernel
theorem dX7_add_42 : decode cX7_add 42 = .ok (.iadd, 1) := by decide +kernel
theorem dX7_add_43 : decode cX7_add 43 = .ok (.iload_n 3, 1) := by decide +kernel
theorem dX7_add_44 : decode cX7_add 44 = .ok (.invokevirtual 28, 3) := by decide +kernel
theorem dX7_add_47 : decode cX7_add 47 = .ok (.aload_n 0, 1) := by decide +kernel
theorem dX7_add_48 : decode cX7_add 48 = .ok (.dup, 1) := by decide +kernel
theorem dX7_add_49 : decode cX7_add 49 = .ok (.getfield 24, 3) := by decide +kernel
theorem dX7_add_52 : decode cX7_add 52 = .ok (.iconst 1, 1) := by decide +kernel
theorem dX7_add_53 : decode cX7_add 53 = .ok (.iadd, 1) := by decide +kernel
theorem dX7_add_54 : decode cX7_add 54 = .ok (.putfield 24, 3) := by decide +kernel
theorem dX7_add_57 : decode cX7_add 57 = .ok (.return_, 1) := by decide +kernel
theorem dX7_tell_0 : decode cX7_tell 0 = .ok (.aload_n 0, 1) := by decide +kernel
theorem dX7_tell_1 : decode cX7_tell 1 = .ok (.getfield 16, 3) := by decide +kernel
theorem dX7_tell_4 : decode cX7_tell 4 = .ok (.aload_n 0, 1) := by decide +kernel
theorem dX7_tell_5 : decode cX7_tell 5 = .ok (.getfield 24, 3) := by decide +kernel
theorem dX7_tell_8 : decode cX7_tell 8 = .ok (.iconst 1, 1) := by decide +kernel
theorem dX7_tell_9 : decode cX7_tell 9 = .ok (.isub, 1) := by decide +kernel
theorem dX7_tell_10 : decode cX7_tell 10 = .ok (.iload_n 1, 1) := by decide +kernel
theorem dX7_tell_11 : decode cX7_tell 11 = .ok (.isub, 1) := by decide +kernel
theorem dX7_tell_12 : decode cX7_tell 12 = .ok (.bipush 12, 2) := by decide +kernel
theorem dX7_tell_14 : decode cX7_tell 14 = .ok (.irem, 1) := by decide +kernel
theorem dX7_tell_15 : decode cX7_tell 15 = .ok (.iconst 3, 1) := by decide +kernel
theorem dX7_tell_16 : decode cX7_tell 16 = .ok (.imul, 1) := by decide +kernel
theorem dX7_tell_17 : decode cX7_tell 17 = .ok (.iload_n 2, 1) := by decide +kernel
theorem dX7_tell_18 : decode cX7_tell 18 = .ok (.iadd, 1) := by decide +kernel
theorem dX7_tell_19 : decode cX7_tell 19 = .ok (.invokevirtual 32, 3) := by decide +kernel
theorem dX7_tell_22 : decode cX7_tell 22 = .ok (.ireturn, 1) := by decide +kernel
theorem dX8_init_0 : decode cX8_init 0 = .ok (.aload_n 0, 1) := by decide +kernel
theorem dX8_init_1 : decode cX8_init 1 = .ok (.invokespecial 1, 3) := by decide +kernel
theorem dX8_init_4 : decode cX8_init 4 = .ok (.aload_n 0, 1) := by decide +kernel
theorem dX8_init_5 : decode cX8_init 5 = .ok (.new 7, 3) := by decide +kernel
theorem dX8_init_8 : decode cX8_init 8 = .ok (.dup, 1) := by decide +kernel
theorem dX8_init_9 : decode cX8_init 9 = .ok (.invokespecial 9, 3) := by decide +kernel
theorem dX8_init_12 : decode cX8_init 12 = .ok (.putfield 10, 3) := by decide +kernel
theorem dX8_init_15 : decode cX8_init 15 = .ok (.aload_n 0, 1) := by decide +kernel
theorem dX8_init_16 : decode cX8_init 16 = .ok (.new 7, 3) := by decide +kernel
theorem dX8_init_19 : decode cX8_init 19 = .ok (.dup, 1) := by decide +kernel
theorem dX8_init_20 : decode cX8_init 20 = .ok (.invokespecial 9, 3) := by decide +kernel
theorem dX8_init_23 : decode cX8_init 23 = .ok (.putfield 16, 3) := by decide +kernel
theorem dX8_init_26 : decode cX8_init 26 = .ok (.aload_n 0, 1) := by decide +kernel
theorem dX8_init_27 : decode cX8_init 27 = .ok (.new 7, 3) := by decide +kernel
theorem dX8_init_30 : decode cX8_init 30 = .ok (.dup, 1) := by decide +kernel
theorem dX8_init_31 : decode cX8_init 31 = .ok (.invokespecial 9, 3) := by decide +kernel
theorem dX8_init_34 : decode cX8_init 34 = .ok (.putfield 19, 3) := by decide +kernel
theorem dX8_init_37 : decode cX8_init 37 = .ok (.aload_n 0, 1) := by decide +kernel
theorem dX8_init_38 : decode cX8_init 38 = .ok (.new 22, 3) := by decide +kernel
theorem dX8_init_41 : decode cX8_init 41 = .ok (.dup, 1) := by decide +kernel
theorem dX8_init_42 : decode cX8_init 42 = .ok (.invokespecial 24, 3) := by decide +kernel
theorem dX8_init_45 : decode cX8_init 45 = .ok (.putfield 25, 3) := by decide +kernel
theorem dX8_init_48 : decode cX8_init 48 = .ok (.aload_n 0, 1) := by decide +kernel
theorem dX8_init_49 : decode cX8_init 49 = .ok (.new 29, 3) := by decide +kernel
theorem dX8_init_52 : decode cX8_init 52 = .ok (.dup, 1) := by decide +kernel
theorem dX8_init_53 : decode cX8_init 53 = .ok (.invokespecial 31, 3) := by decide +kernel
theorem dX8_init_56 : decode cX8_init 56 = .ok (.putfield 32, 3) := by decide +kernel
theorem dX8_init_59 : decode cX8_init 59 = .ok (.aload_n 0, 1) := by decide +kernel
theorem dX8_init_60 : decode cX8_init 60 = .ok (.new 36, 3) := by decide +kernel
theorem dX8_init_63 : decode cX8_init 63 = .ok (.dup, 1) := by decide +kernel
theorem dX8_init_64 : decode cX8_init 64 = .ok (.invokespecial 38, 3) := by decide +kernel
theorem dX8_init_67 : decode cX8_init 67 = .ok (.putfield 39, 3) := by decide +kernel
theorem dX8_init_70 : decode cX8_init 70 = .ok (.return_, 1) := by decide +kernel
theorem dX8_put_0 : decode cX8_put 0 = .ok (.iload_n 1, 1) := by decide +kernel
theorem dX8_put_1 : decode cX8_put 1 = .ok (.bipush 8, 2) := by decide +kernel
theorem dX8_put_3 : decode cX8_put 3 = .ok (.invokestatic 43, 3) := by decide +kernel
theorem dX8_put_6 : decode cX8_put 6 = .ok (.ifCond .eq 12, 3) := by decide +kernel
theorem dX8_put_9 : decode cX8_put 9 = .ok (.iload_n 2, 1) := by decide +kernel
theorem dX8_put_10 : decode cX8_put 10 = .ok (.bipush 16, 2) := by decide +kernel
theorem dX8_put_12 : decode cX8_put 12 = .ok (.invokestatic 43, 3) := by decide +kernel
theorem dX8_put_15 : decode cX8_put 15 = .ok (.ifCond .ne 5, 3) := by decide +kernel
theorem dX8_put_18 : decode cX8_put 18 = .ok (.iconst (-1), 1) := by decide +kernel
theorem dX8_put_19 : decode cX8_put 19 = .ok (.ireturn, 1) := by decide +kernel
theorem dX8_put_20 : decode cX8_put 20 = .ok (.iload_n 3, 1) := by decide +kernel
theorem dX8_put_21 : decode cX8_put 21 = .ok (.ifCond .lt 10, 3) := by decide +kernel
theorem dX8_put_24 : decode cX8_put 24 = .ok (.iload_n 3, 1) := by decide +kernel
theorem dX8_put_25 : decode cX8_put 25 = .ok (.sipush 999, 3) := by decide +kernel
theorem dX8_put_28 : decode cX8_put 28 = .ok (.if_icmp .le 6, 3) := by decide +kernel
theorem dX8_put_31 : decode cX8_put 31 = .ok (.bipush (-2), 2) := by decide +kernel
theorem dX8_put_33 : decode cX8_put 33 = .ok (.ireturn, 1) := by decide +kernel
theorem dX8_put_34 : decode cX8_put 34 = .ok (.aload_n 0, 1) := by decide +kernel
theorem dX8_put_35 : decode cX8_put 35 = .ok (.getfield 10, 3) := by decide +kernel
theorem dX8_put_38 : decode cX8_put 38 = .ok (.getfield 47, 3) := by decide +kernel
theorem dX8_put_41 : decode cX8_put 41 = .ok (.iload_n 1, 1) := by decide +kernel
theorem dX8_put_42 : decode cX8_put 42 = .ok (.iload_n 2, 1) := by decide +kernel
theorem dX8_put_43 : decode cX8_put 43 = .ok (.invokevirtual 51, 3) := by decide +kernel
theorem dX8_put_46 : decode cX8_put 46 = .ok (.istore 4, 2) := by decide +kernel
theorem dX8_put_48 : decode cX8_put 48 = .ok (.iload 4, 2) := by decide +kernel
theorem dX8_put_50 : decode cX8_put 50 = .ok (.iload_n 3, 1) := by decide +kernel
theorem dX8_put_51 : decode cX8_put 51 = .ok (.if_icmp .ne 6, 3) := by decide +kernel
theorem dX8_put_54 : decode cX8_put 54 = .ok (.bipush (-5), 2) := by decide +kernel
theorem dX8_put_56 : decode cX8_put 56 = .ok (.ireturn, 1) := by decide +kernel
theorem dX8_put_57 : decode cX8_put 57 = .ok (.aload_n 0, 1) := by decide +kernel
theorem dX8_put_58 : decode cX8_put 58 = .ok (.getfield 25, 3) := by decide +kernel
theorem dX8_put_61 : decode cX8_put 61 = .ok (.aload_n 0, 1) := by decide +kernel
theorem dX8_put_62 : decode cX8_put 62 = .ok (.getfield 10, 3) := by decide +kernel
theorem dX8_put_65 : decode cX8_put 65 = .ok (.invokevirtual 57, 3) := by decide +kernel
theorem dX8_put_68 : decode cX8_put 68 = .ok (.aload_n 0, 1) := by decide +kernel
theorem dX8_put_69 : decode cX8_put 69 = .ok (.getfield 10, 3) := by decide +kernel
theorem dX8_put_72 : decode cX8_put 72 = .ok (.getfield 47, 3) := by decide +kernel
theorem dX8_put_75 : decode cX8_put 75 = .ok (.iload_n 1, 1) := by decide +kernel
theorem dX8_put_76 : decode cX8_put 76 = .ok (.iload_n 2, 1) := by decide +kernel
theorem dX8_put_77 : decode cX8_put 77 = .ok (.iload_n 3, 1) := by decide +kernel
theorem dX8_put_78 : decode cX8_put 78 = .ok (.invokevirtual 61, 3) := by decide +kernel
theorem dX8_put_81 : decode cX8_put 81 = .ok (.iload 4, 2) := by decide +kernel
theorem dX8_put_83 : decode cX8_put 83 = .ok (.ireturn, 1) := by decide +kernel
theorem dX8_lock_0 : decode cX8_lock 0 = .ok (.iload_n 1, 1) := by decide +kernel
theorem dX8_lock_1 : decode cX8_lock 1 = .ok (.bipush 8, 2) := by decide +kernel
theorem dX8_lock_3 : decode cX8_lock 3 = .ok (.invokestatic 43, 3) := by decide +kernel
theorem dX8_lock_6 : decode cX8_lock 6 = .ok (.ifCond .ne 5, 3) := by decide +kernel
theorem dX8_lock_9 : decode cX8_lock 9 = .ok (.iconst (-1), 1) := by decide +kernel
theorem dX8_lock_10 : decode cX8_lock 10 = .ok (.ireturn, 1) := by decide +kernel
theorem dX8_lock_11 : decode cX8_lock 11 = .ok (.aload_n 0, 1) := by decide +kernel
theorem dX8_lock_12 : decode cX8_lock 12 = .ok (.getfield 10, 3) := by decide +kernel
theorem dX8_lock_15 : decode cX8_lock 15 = .ok (.getfield 47, 3) := by decide +kernel
theorem dX8_lock_18 : decode cX8_lock 18 = .ok (.iload_n 1, 1) := by decide +kernel
theorem dX8_lock_19 : decode cX8_lock 19 = .ok (.invokevirtual 65, 3) := by decide +kernel
theorem dX8_lock_22 : decode cX8_lock 22 = .ok (.iload_n 2, 1) := by decide +kernel
theorem dX8_lock_23 : decode cX8_lock 23 = .ok (.if_icmp .ne 6, 3) := by decide +kernel
theorem dX8_lock_26 : decode cX8_lock 26 = .ok (.bipush (-5), 2) := by decide +kernel
theorem dX8_lock_28 : decode cX8_lock 28 = .ok (.ireturn, 1) := by decide +kernel
theorem dX8_lock_29 : decode cX8_lock 29 = .ok (.aload_n 0, 1) := by decide +kernel
theorem dX8_lock_30 : decode cX8_lock 30 = .ok (.getfield 25, 3) := by decide +kernel
theorem dX8_lock_33 : decode cX8_lock 33 = .ok (.aload_n 0, 1) := by decide +kernel
theorem dX8_lock_34 : decode cX8_lock 34 = .ok (.getfield 10, 3) := by decide +kernel
theorem dX8_lock_37 : decode cX8_lock 37 = .ok (.invokevirtual 57, 3) := by decide +kernel
theorem dX8_lock_40 : decode cX8_lock 40 = .ok (.aload_n 0, 1) := by decide +kernel
theorem dX8_lock_41 : decode cX8_lock 41 = .ok (.getfield 10, 3) := by decide +kernel
theorem dX8_lock_44 : decode cX8_lock 44 = .ok (.getfield 47, 3) := by decide +kernel
theorem dX8_lock_47 : decode cX8_lock 47 = .ok (.getfield 69, 3) := by decide +kernel
theorem dX8_lock_50 : decode cX8_lock 50 = .ok (.iload_n 1, 1) := by decide +kernel
theorem dX8_lock_51 : decode cX8_lock 51 = .ok (.iload_n 2, 1) := by decide +kernel
theorem dX8_lock_52 : decode cX8_lock 52 = .ok (.ifCond .eq 7, 3) := by decide +kernel
theorem dX8_lock_55 : decode cX8_lock 55 = .ok (.iconst 1, 1) := by decide +kernel
theorem dX8_lock_56 : decode cX8_lock 56 = .ok (.goto 4, 3) := by decide +kernel
theorem dX8_lock_59 : decode cX8_lock 59 = .ok (.iconst 0, 1) := by decide +kernel
theorem dX8_lock_60 : decode cX8_lock 60 = .ok (.invokevirtual 73, 3) := by decide +kernel
theorem dX8_lock_63 : decode cX8_lock 63 = .ok (.aload_n 0, 1) := by decide +kernel
theorem dX8_lock_64 : decode cX8_lock 64 = .ok (.getfield 10, 3) := by decide +kernel
theorem dX8_lock_67 : decode cX8_lock 67 = .ok (.getfield 47, 3) := by decide +kernel
theorem dX8_lock_70 : decode cX8_lock 70 = .ok (.getfield 69, 3) := by decide +kernel
theorem dX8_lock_73 : decode cX8_lock 73 = .ok (.invokevirtual 79, 3) := by decide +kernel
theorem dX8_lock_76 : decode cX8_lock 76 = .ok (.ireturn, 1) := by decide +kernel
theorem dX8_show_0 : decode cX8_show 0 = .ok (.iload_n 1, 1) := by decide +kernel
theorem dX8_show_1 : decode cX8_show 1 = .ok (.iconst 4, 1) := by decide +kernel
theorem dX8_show_2 : decode cX8_show 2 = .ok (.invokestatic 43, 3) := by decide +kernel
theorem dX8_show_5 : decode cX8_show 5 = .ok (.ifCond .eq 12, 3) := by decide +kernel
theorem dX8_show_8 : decode cX8_show 8 = .ok (.iload_n 2, 1) := by decide +kernel
theorem dX8_show_9 : decode cX8_show 9 = .ok (.bipush 8, 2) := by decide +kernel
theorem dX8_show_11 : decode cX8_show 11 = .ok (.invokestatic 43, 3) := by decide +kernel
theorem dX8_show_14 : decode cX8_show 14 = .ok (.ifCond .ne 5, 3) := by decide +kernel
theorem dX8_show_17 : decode cX8_show 17 = .ok (.iconst (-1), 1) := by decide +kernel
theorem dX8_show_18 : decode cX8_show 18 = .ok (.ireturn, 1) := by decide +kernel
theorem dX8_show_19 : decode cX8_show 19 = .ok (.aload_n 0, 1) := by decide +kernel
theorem dX8_show_20 : decode cX8_show 20 = .ok (.getfield 10, 3) := by decide +kernel
theorem dX8_show_23 : decode cX8_show 23 = .ok (.getfield 47, 3) := by decide +kernel
theorem dX8_show_26 : decode cX8_show 26 = .ok (.getfield 83, 3) := by decide +kernel
theorem dX8_show_29 : decode cX8_show 29 = .ok (.iload_n 1, 1) := by decide +kernel
theorem dX8_show_30 : decode cX8_show 30 = .ok (.invokevirtual 86, 3) := by decide +kernel
theorem dX8_show_33 : decode cX8_show 33 = .ok (.istore_n 3, 1) := by decide +kernel
theorem dX8_show_34 : decode cX8_show 34 = .ok (.iload_n 3, 1) := by decide +kernel
theorem dX8_show_35 : decode cX8_show 35 = .ok (.iload_n 2, 1) := by decide +kernel
theorem dX8_show_36 : decode cX8_show 36 = .ok (.if_icmp .ne 6, 3) := by decide +kernel
theorem dX8_show_39 : decode cX8_show 39 = .ok (.bipush (-5), 2) := by decide +kernel
theorem dX8_show_41 : decode cX8_show 41 = .ok (.ireturn, 1) := by decide +kernel
theorem dX8_show_42 : decode cX8_show 42 = .ok (.aload_n 0, 1) := by decide +kernel
theorem dX8_show_43 : decode cX8_show 43 = .ok (.getfield 25, 3) := by decide +kernel
theorem dX8_show_46 : decode cX8_show 46 = .ok (.aload_n 0, 1) := by decide +kernel
theorem dX8_show_47 : decode cX8_show 47 = .ok (.getfield 10, 3) := by decide +kernel
theorem dX8_show_50 : decode cX8_show 50 = .ok (.invokevirtual 57, 3) := by decide +kernel
theorem dX8_show_53 : decode cX8_show 53 = .ok (.aload_n 0, 1) := by decide +kernel
theorem dX8_show_54 : decode cX8_show 54 = .ok (.getfield 10, 3) := by decide +kernel
theorem dX8_show_57 : decode cX8_show 57 = .ok (.getfield 47, 3) := by decide +kernel
theorem dX8_show_60 : decode cX8_show 60 = .ok (.getfield 83, 3) := by decide +kernel
theorem dX8_show_63 : decode cX8_show 63 = .ok (.iload_n 1, 1) := by decide +kernel
theorem dX8_show_64 : decode cX8_show 64 = .ok (.iload_n 2, 1) := by decide +kernel
theorem dX8_show_65 : decode cX8_show 65 = .ok (.invokevirtual 73, 3) := by decide +kernel
theorem dX8_show_68 : decode cX8_show 68 = .ok (.iload_n 3, 1) := by decide +kernel
theorem dX8_show_69 : decode cX8_show 69 = .ok (.ireturn, 1) := by decide +kernel
theorem dX8_copyBank_0 : decode cX8_copyBank 0 = .ok (.iload_n 1, 1) := by decide +kernel
theorem dX8_copyBank_1 : decode cX8_copyBank 1 = .ok (.bipush 8, 2) := by decide +kernel
theorem dX8_copyBank_3 : decode cX8_copyBank 3 = .ok (.invokestatic 43, 3) := by decide +kernel
theorem dX8_copyBank_6 : decode cX8_copyBank 6 = .ok (.ifCond .eq 12, 3) := by decide +kernel
theorem dX8_copyBank_9 : decode cX8_copyBank 9 = .ok (.iload_n 2, 1) := by decide +kernel
theorem dX8_copyBank_10 : decode cX8_copyBank 10 = .ok (.bipush 8, 2) := by decide +kernel
theorem dX8_copyBank_12 : decode cX8_copyBank 12 = .ok (.invokestatic 43, 3) := by decide +kernel
theorem dX8_copyBank_15 : decode cX8_copyBank 15 = .ok (.ifCond .ne 5, 3) := by decide +kernel
theorem dX8_copyBank_18 : decode cX8_copyBank 18 = .ok (.iconst (-1), 1) := by decide +kernel
theorem dX8_copyBank_19 : decode cX8_copyBank 19 = .ok (.ireturn, 1) := by decide +kernel
theorem dX8_copyBank_20 : decode cX8_copyBank 20 = .ok (.aload_n 0, 1) := by decide +kernel
theorem dX8_copyBank_21 : decode cX8_copyBank 21 = .ok (.getfield 10, 3) := by decide +kernel
theorem dX8_copyBank_24 : decode cX8_copyBank 24 = .ok (.getfield 47, 3) := by decide +kernel
theorem dX8_copyBank_27 : decode cX8_copyBank 27 = .ok (.iload_n 1, 1) := by decide +kernel
theorem dX8_copyBank_28 : decode cX8_copyBank 28 = .ok (.iload_n 2, 1) := by decide +kernel
theorem dX8_copyBank_29 : decode cX8_copyBank 29 = .ok (.invokevirtual 90, 3) := by decide +kernel
theorem dX8_copyBank_32 : decode cX8_copyBank 32 = .ok (.istore_n 3, 1) := by decide +kernel
theorem dX8_copyBank_33 : decode cX8_copyBank 33 = .ok (.iload_n 3, 1) := by decide +kernel
theorem dX8_copyBank_34 : decode cX8_copyBank 34 = .ok (.ifCond .ne 6, 3) := by decide +kernel
theorem dX8_copyBank_37 : decode cX8_copyBank 37 = .ok (.bipush (-5), 2) := by decide +kernel
theorem dX8_copyBank_39 : decode cX8_copyBank 39 = .ok (.ireturn, 1) := by decide +kernel
theorem dX8_copyBank_40 : decode cX8_copyBank 40 = .ok (.aload_n 0, 1) := by decide +kernel
theorem dX8_copyBank_41 : decode cX8_copyBank 41 = .ok (.getfield 25, 3) := by decide +kernel
theorem dX8_copyBank_44 : decode cX8_copyBank 44 = .ok (.aload_n 0, 1) := by decide +kernel
theorem dX8_copyBank_45 : decode cX8_copyBank 45 = .ok (.getfield 10, 3) := by decide +kernel
theorem dX8_copyBank_48 : decode cX8_copyBank 48 = .ok (.invokevirtual 57, 3) := by decide +kernel
theorem dX8_copyBank_51 : decode cX8_copyBank 51 = .ok (.aload_n 0, 1) := by decide +kernel
theorem dX8_copyBank_52 : decode cX8_copyBank 52 = .ok (.getfield 10, 3) := by decide +kernel
theorem dX8_copyBank_55 : decode cX8_copyBank 55 = .ok (.getfield 47, 3) := by decide +kernel
theorem dX8_copyBank_58 : decode cX8_copyBank 58 = .ok (.iload_n 1, 1) := by decide +kernel
theorem dX8_copyBank_59 : decode cX8_copyBank 59 = .ok (.iload_n 2, 1) := by decide +kernel
theorem dX8_copyBank_60 : decode cX8_copyBank 60 = .ok (.invokevirtual 93, 3) := by decide +kernel
theorem dX8_copyBank_63 : decode cX8_copyBank 63 = .ok (.iload_n 3, 1) := by decide +kernel
theorem dX8_copyBank_64 : decode cX8_copyBank 64 = .ok (.ireturn, 1) := by decide +kernel
theorem dX8_set_0 : decode cX8_set 0 = .ok (.iload_n 1, 1) := by decide +kernel
theorem dX8_set_1 : decode cX8_set 1 = .ok (.iconst 2, 1) := by decide +kernel
theorem dX8_set_2 : decode cX8_set 2 = .ok (.invokestatic 43, 3) := by decide +kernel
theorem dX8_set_5 : decode cX8_set 5 = .ok (.ifCond .ne 6, 3) := by decide +kernel
theorem dX8_set_8 : decode cX8_set 8 = .ok (.bipush (-2), 2) := by decide +kernel
theorem dX8_set_10 : decode cX8_set 10 = .ok (.ireturn, 1) := by decide +kernel
theorem dX8_set_11 : decode cX8_set 11 = .ok (.aload_n 0, 1) := by decide +kernel
theorem dX8_set_12 : decode cX8_set 12 = .ok (.getfield 10, 3) := by decide +kernel
theorem dX8_set_15 : decode cX8_set 15 = .ok (.getfield 96, 3) := by decide +kernel
theorem dX8_set_18 : decode cX8_set 18 = .ok (.istore_n 2, 1) := by decide +kernel
theorem dX8_set_19 : decode cX8_set 19 = .ok (.iload_n 2, 1) := by decide +kernel
theorem dX8_set_20 : decode cX8_set 20 = .ok (.iload_n 1, 1) := by decide +kernel
theorem dX8_set_21 : decode cX8_set 21 = .ok (.if_icmp .ne 6, 3) := by decide +kernel
theorem dX8_set_24 : decode cX8_set 24 = .ok (.bipush (-5), 2) := by decide +kernel
theorem dX8_set_26 : decode cX8_set 26 = .ok (.ireturn, 1) := by decide +kernel
theorem dX8_set_27 : decode cX8_set 27 = .ok (.aload_n 0, 1) := by decide +kernel
theorem dX8_set_28 : decode cX8_set 28 = .ok (.getfield 25, 3) := by decide +kernel
theorem dX8_set_31 : decode cX8_set 31 = .ok (.aload_n 0, 1) := by decide +kernel
theorem dX8_set_32 : decode cX8_set 32 = .ok (.getfield 10, 3) := by decide +kernel
theorem dX8_set_35 : decode cX8_set 35 = .ok (.invokevirtual 57, 3) := by decide +kernel
theorem dX8_set_38 : decode cX8_set 38 = .ok (.aload_n 0, 1) := by decide +kernel
theorem dX8_set_39 : decode cX8_set 39 = .ok (.getfield 10, 3) := by decide +kernel
theorem dX8_set_42 : decode cX8_set 42 = .ok (.iload_n 1, 1) := by decide +kernel
theorem dX8_set_43 : decode cX8_set 43 = .ok (.putfield 96, 3) := by decide +kernel
theorem dX8_set_46 : decode cX8_set 46 = .ok (.iload_n 2, 1) := by decide +kernel
theorem dX8_set_47 : decode cX8_set 47 = .ok (.ireturn, 1) := by decide +kernel
theorem dX8_begin_0 : decode cX8_begin 0 = .ok (.iload_n 1, 1) := by decide +kernel
theorem dX8_begin_1 : decode cX8_begin 1 = .ok (.bipush 64, 2) := by decide +kernel
theorem dX8_begin_3 : decode cX8_begin 3 = .ok (.invokestatic 43, 3) := by decide +kernel
theorem dX8_begin_6 : decode cX8_begin 6 = .ok (.ifCond .ne 5, 3) := by decide +kernel
theorem dX8_begin_9 : decode cX8_begin 9 = .ok (.iconst (-1), 1) := by decide +kernel
theorem dX8_begin_10 : decode cX8_begin 10 = .ok (.ireturn, 1) := by decide +kernel
theorem dX8_begin_11 : decode cX8_begin 11 = .ok (.aload_n 0, 1) := by decide +kernel
theorem dX8_begin_12 : decode cX8_begin 12 = .ok (.getfield 10, 3) := by decide +kernel
theorem dX8_begin_15 : decode cX8_begin 15 = .ok (.getfield 100, 3) := by decide +kernel
theorem dX8_begin_18 : decode cX8_begin 18 = .ok (.istore_n 2, 1) := by decide +kernel
theorem dX8_begin_19 : decode cX8_begin 19 = .ok (.aload_n 0, 1) := by decide +kernel
theorem dX8_begin_20 : decode cX8_begin 20 = .ok (.getfield 25, 3) := by decide +kernel
theorem dX8_begin_23 : decode cX8_begin 23 = .ok (.aload_n 0, 1) := by decide +kernel
theorem dX8_begin_24 : decode cX8_begin 24 = .ok (.getfield 10, 3) := by decide +kernel
theorem dX8_begin_27 : decode cX8_begin 27 = .ok (.invokevirtual 57, 3) := by decide +kernel
theorem dX8_begin_30 : decode cX8_begin 30 = .ok (.aload_n 0, 1) := by decide +kernel
theorem dX8_begin_31 : decode cX8_begin 31 = .ok (.getfield 10, 3) := by decide +kernel
end
section
theorem dX8_begin_34 : decode cX8_begin 34 = .ok (.iload_n 1, 1) := by decide +kernel
theorem dX8_begin_35 : decode cX8_begin 35 = .ok (.invokevirtual 103, 3) := by decide +kernel
theorem dX8_begin_38 : decode cX8_begin 38 = .ok (.iload_n 2, 1) := by decide +kernel
theorem dX8_begin_39 : decode cX8_begin 39 = .ok (.ireturn, 1) := by decide +kernel
theorem dX8_run_0 : decode cX8_run 0 = .ok (.iload_n 1, 1) := by decide +kernel
theorem dX8_run_1 : decode cX8_run 1 = .ok (.invokestatic 107, 3) := by decide +kernel
theorem dX8_run_4 : decode cX8_run 4 = .ok (.ifCond .ne 6, 3) := by decide +kernel
theorem dX8_run_7 : decode cX8_run 7 = .ok (.bipush (-2), 2) := by decide +kernel
theorem dX8_run_9 : decode cX8_run 9 = .ok (.ireturn, 1) := by decide +kernel
theorem dX8_run_10 : decode cX8_run 10 = .ok (.aload_n 0, 1) := by decide +kernel
theorem dX8_run_11 : decode cX8_run 11 = .ok (.getfield 10, 3) := by decide +kernel
theorem dX8_run_14 : decode cX8_run 14 = .ok (.getfield 110, 3) := by decide +kernel
theorem dX8_run_17 : decode cX8_run 17 = .ok (.ifCond .eq 6, 3) := by decide +kernel
theorem dX8_run_20 : decode cX8_run 20 = .ok (.bipush (-4), 2) := by decide +kernel
theorem dX8_run_22 : decode cX8_run 22 = .ok (.ireturn, 1) := by decide +kernel
theorem dX8_run_23 : decode cX8_run 23 = .ok (.aload_n 0, 1) := by decide +kernel
theorem dX8_run_24 : decode cX8_run 24 = .ok (.getfield 10, 3) := by decide +kernel
theorem dX8_run_27 : decode cX8_run 27 = .ok (.getfield 113, 3) := by decide +kernel
theorem dX8_run_30 : decode cX8_run 30 = .ok (.getfield 117, 3) := by decide +kernel
theorem dX8_run_33 : decode cX8_run 33 = .ok (.iload_n 1, 1) := by decide +kernel
theorem dX8_run_34 : decode cX8_run 34 = .ok (.iadd, 1) := by decide +kernel
theorem dX8_run_35 : decode cX8_run 35 = .ok (.ldc 122, 2) := by decide +kernel
theorem dX8_run_37 : decode cX8_run 37 = .ok (.if_icmp .le 6, 3) := by decide +kernel
theorem dX8_run_40 : decode cX8_run 40 = .ok (.bipush (-3), 2) := by decide +kernel
theorem dX8_run_42 : decode cX8_run 42 = .ok (.ireturn, 1) := by decide +kernel
theorem dX8_run_43 : decode cX8_run 43 = .ok (.aload_n 0, 1) := by decide +kernel
theorem dX8_run_44 : decode cX8_run 44 = .ok (.getfield 25, 3) := by decide +kernel
theorem dX8_run_47 : decode cX8_run 47 = .ok (.aload_n 0, 1) := by decide +kernel
theorem dX8_run_48 : decode cX8_run 48 = .ok (.getfield 10, 3) := by decide +kernel
theorem dX8_run_51 : decode cX8_run 51 = .ok (.invokevirtual 57, 3) := by decide +kernel
theorem dX8_run_54 : decode cX8_run 54 = .ok (.aload_n 0, 1) := by decide +kernel
theorem dX8_run_55 : decode cX8_run 55 = .ok (.getfield 10, 3) := by decide +kernel
theorem dX8_run_58 : decode cX8_run 58 = .ok (.iload_n 1, 1) := by decide +kernel
theorem dX8_run_59 : decode cX8_run 59 = .ok (.invokevirtual 123, 3) := by decide +kernel
theorem dX8_run_62 : decode cX8_run 62 = .ok (.ireturn, 1) := by decide +kernel
theorem dX8_type_0 : decode cX8_type 0 = .ok (.aload_n 0, 1) := by decide +kernel
theorem dX8_type_1 : decode cX8_type 1 = .ok (.getfield 32, 3) := by decide +kernel
theorem dX8_type_4 : decode cX8_type 4 = .ok (.invokevirtual 126, 3) := by decide +kernel
theorem dX8_type_7 : decode cX8_type 7 = .ok (.ifCond .eq 6, 3) := by decide +kernel
theorem dX8_type_10 : decode cX8_type 10 = .ok (.bipush (-3), 2) := by decide +kernel
theorem dX8_type_12 : decode cX8_type 12 = .ok (.ireturn, 1) := by decide +kernel
theorem dX8_type_13 : decode cX8_type 13 = .ok (.aload_n 0, 1) := by decide +kernel
theorem dX8_type_14 : decode cX8_type 14 = .ok (.getfield 32, 3) := by decide +kernel
theorem dX8_type_17 : decode cX8_type 17 = .ok (.iload_n 1, 1) := by decide +kernel
theorem dX8_type_18 : decode cX8_type 18 = .ok (.invokevirtual 130, 3) := by decide +kernel
theorem dX8_type_21 : decode cX8_type 21 = .ok (.aload_n 0, 1) := by decide +kernel
theorem dX8_type_22 : decode cX8_type 22 = .ok (.getfield 32, 3) := by decide +kernel
theorem dX8_type_25 : decode cX8_type 25 = .ok (.getfield 134, 3) := by decide +kernel
theorem dX8_type_28 : decode cX8_type 28 = .ok (.ireturn, 1) := by decide +kernel
theorem dX8_clearText_0 : decode cX8_clearText 0 = .ok (.aload_n 0, 1) := by decide +kernel
theorem dX8_clearText_1 : decode cX8_clearText 1 = .ok (.getfield 32, 3) := by decide +kernel
theorem dX8_clearText_4 : decode cX8_clearText 4 = .ok (.getfield 134, 3) := by decide +kernel
theorem dX8_clearText_7 : decode cX8_clearText 7 = .ok (.istore_n 1, 1) := by decide +kernel
theorem dX8_clearText_8 : decode cX8_clearText 8 = .ok (.aload_n 0, 1) := by decide +kernel
theorem dX8_clearText_9 : decode cX8_clearText 9 = .ok (.getfield 32, 3) := by decide +kernel
theorem dX8_clearText_12 : decode cX8_clearText 12 = .ok (.iconst 0, 1) := by decide +kernel
theorem dX8_clearText_13 : decode cX8_clearText 13 = .ok (.putfield 134, 3) := by decide +kernel
theorem dX8_clearText_16 : decode cX8_clearText 16 = .ok (.iload_n 1, 1) := by decide +kernel
theorem dX8_clearText_17 : decode cX8_clearText 17 = .ok (.ireturn, 1) := by decide +kernel
theorem dX8_assemble_0 : decode cX8_assemble 0 = .ok (.iload_n 1, 1) := by decide +kernel
theorem dX8_assemble_1 : decode cX8_assemble 1 = .ok (.bipush 8, 2) := by decide +kernel
theorem dX8_assemble_3 : decode cX8_assemble 3 = .ok (.invokestatic 43, 3) := by decide +kernel
theorem dX8_assemble_6 : decode cX8_assemble 6 = .ok (.ifCond .eq 12, 3) := by decide +kernel
theorem dX8_assemble_9 : decode cX8_assemble 9 = .ok (.iload_n 2, 1) := by decide +kernel
theorem dX8_assemble_10 : decode cX8_assemble 10 = .ok (.bipush 16, 2) := by decide +kernel
theorem dX8_assemble_12 : decode cX8_assemble 12 = .ok (.invokestatic 43, 3) := by decide +kernel
theorem dX8_assemble_15 : decode cX8_assemble 15 = .ok (.ifCond .ne 5, 3) := by decide +kernel
theorem dX8_assemble_18 : decode cX8_assemble 18 = .ok (.iconst (-1), 1) := by decide +kernel
theorem dX8_assemble_19 : decode cX8_assemble 19 = .ok (.ireturn, 1) := by decide +kernel
theorem dX8_assemble_20 : decode cX8_assemble 20 = .ok (.aload_n 0, 1) := by decide +kernel
theorem dX8_assemble_21 : decode cX8_assemble 21 = .ok (.getfield 39, 3) := by decide +kernel
theorem dX8_assemble_24 : decode cX8_assemble 24 = .ok (.aload_n 0, 1) := by decide +kernel
theorem dX8_assemble_25 : decode cX8_assemble 25 = .ok (.getfield 32, 3) := by decide +kernel
theorem dX8_assemble_28 : decode cX8_assemble 28 = .ok (.invokevirtual 137, 3) := by decide +kernel
theorem dX8_assemble_31 : decode cX8_assemble 31 = .ok (.aload_n 0, 1) := by decide +kernel
theorem dX8_assemble_32 : decode cX8_assemble 32 = .ok (.getfield 39, 3) := by decide +kernel
theorem dX8_assemble_35 : decode cX8_assemble 35 = .ok (.getfield 141, 3) := by decide +kernel
theorem dX8_assemble_38 : decode cX8_assemble 38 = .ok (.ifCond .ne 14, 3) := by decide +kernel
theorem dX8_assemble_41 : decode cX8_assemble 41 = .ok (.bipush (-100), 2) := by decide +kernel
theorem dX8_assemble_43 : decode cX8_assemble 43 = .ok (.aload_n 0, 1) := by decide +kernel
theorem dX8_assemble_44 : decode cX8_assemble 44 = .ok (.getfield 39, 3) := by decide +kernel
theorem dX8_assemble_47 : decode cX8_assemble 47 = .ok (.getfield 145, 3) := by decide +kernel
theorem dX8_assemble_50 : decode cX8_assemble 50 = .ok (.isub, 1) := by decide +kernel
theorem dX8_assemble_51 : decode cX8_assemble 51 = .ok (.ireturn, 1) := by decide +kernel
theorem dX8_assemble_52 : decode cX8_assemble 52 = .ok (.aload_n 0, 1) := by decide +kernel
theorem dX8_assemble_53 : decode cX8_assemble 53 = .ok (.getfield 39, 3) := by decide +kernel
theorem dX8_assemble_56 : decode cX8_assemble 56 = .ok (.getfield 148, 3) := by decide +kernel
theorem dX8_assemble_59 : decode cX8_assemble 59 = .ok (.bipush 16, 2) := by decide +kernel
theorem dX8_assemble_61 : decode cX8_assemble 61 = .ok (.iload_n 2, 1) := by decide +kernel
theorem dX8_assemble_62 : decode cX8_assemble 62 = .ok (.isub, 1) := by decide +kernel
theorem dX8_assemble_63 : decode cX8_assemble 63 = .ok (.if_icmp .le 6, 3) := by decide +kernel
theorem dX8_assemble_66 : decode cX8_assemble 66 = .ok (.bipush (-3), 2) := by decide +kernel
theorem dX8_assemble_68 : decode cX8_assemble 68 = .ok (.ireturn, 1) := by decide +kernel
theorem dX8_assemble_69 : decode cX8_assemble 69 = .ok (.aload_n 0, 1) := by decide +kernel
theorem dX8_assemble_70 : decode cX8_assemble 70 = .ok (.getfield 25, 3) := by decide +kernel
theorem dX8_assemble_73 : decode cX8_assemble 73 = .ok (.aload_n 0, 1) := by decide +kernel
theorem dX8_assemble_74 : decode cX8_assemble 74 = .ok (.getfield 10, 3) := by decide +kernel
theorem dX8_assemble_77 : decode cX8_assemble 77 = .ok (.invokevirtual 57, 3) := by decide +kernel
theorem dX8_assemble_80 : decode cX8_assemble 80 = .ok (.iconst 0, 1) := by decide +kernel
theorem dX8_assemble_81 : decode cX8_assemble 81 = .ok (.istore_n 3, 1) := by decide +kernel
theorem dX8_assemble_82 : decode cX8_assemble 82 = .ok (.iload_n 3, 1) := by decide +kernel
theorem dX8_assemble_83 : decode cX8_assemble 83 = .ok (.aload_n 0, 1) := by decide +kernel
theorem dX8_assemble_84 : decode cX8_assemble 84 = .ok (.getfield 39, 3) := by decide +kernel
theorem dX8_assemble_87 : decode cX8_assemble 87 = .ok (.getfield 148, 3) := by decide +kernel
theorem dX8_assemble_90 : decode cX8_assemble 90 = .ok (.if_icmp .ge 34, 3) := by decide +kernel
theorem dX8_assemble_93 : decode cX8_assemble 93 = .ok (.aload_n 0, 1) := by decide +kernel
theorem dX8_assemble_94 : decode cX8_assemble 94 = .ok (.getfield 10, 3) := by decide +kernel
theorem dX8_assemble_97 : decode cX8_assemble 97 = .ok (.getfield 47, 3) := by decide +kernel
theorem dX8_assemble_100 : decode cX8_assemble 100 = .ok (.iload_n 1, 1) := by decide +kernel
theorem dX8_assemble_101 : decode cX8_assemble 101 = .ok (.iload_n 2, 1) := by decide +kernel
theorem dX8_assemble_102 : decode cX8_assemble 102 = .ok (.iload_n 3, 1) := by decide +kernel
theorem dX8_assemble_103 : decode cX8_assemble 103 = .ok (.iadd, 1) := by decide +kernel
theorem dX8_assemble_104 : decode cX8_assemble 104 = .ok (.aload_n 0, 1) := by decide +kernel
theorem dX8_assemble_105 : decode cX8_assemble 105 = .ok (.getfield 39, 3) := by decide +kernel
theorem dX8_assemble_108 : decode cX8_assemble 108 = .ok (.getfield 151, 3) := by decide +kernel
theorem dX8_assemble_111 : decode cX8_assemble 111 = .ok (.iload_n 3, 1) := by decide +kernel
theorem dX8_assemble_112 : decode cX8_assemble 112 = .ok (.invokevirtual 86, 3) := by decide +kernel
theorem dX8_assemble_115 : decode cX8_assemble 115 = .ok (.invokevirtual 61, 3) := by decide +kernel
theorem dX8_assemble_118 : decode cX8_assemble 118 = .ok (.iinc 3 1, 3) := by decide +kernel
theorem dX8_assemble_121 : decode cX8_assemble 121 = .ok (.goto (-39), 3) := by decide +kernel
theorem dX8_assemble_124 : decode cX8_assemble 124 = .ok (.aload_n 0, 1) := by decide +kernel
theorem dX8_assemble_125 : decode cX8_assemble 125 = .ok (.getfield 39, 3) := by decide +kernel
theorem dX8_assemble_128 : decode cX8_assemble 128 = .ok (.getfield 148, 3) := by decide +kernel
theorem dX8_assemble_131 : decode cX8_assemble 131 = .ok (.ireturn, 1) := by decide +kernel
theorem dX8_undo_0 : decode cX8_undo 0 = .ok (.aload_n 0, 1) := by decide +kernel
theorem dX8_undo_1 : decode cX8_undo 1 = .ok (.getfield 25, 3) := by decide +kernel
theorem dX8_undo_4 : decode cX8_undo 4 = .ok (.getfield 154, 3) := by decide +kernel
theorem dX8_undo_7 : decode cX8_undo 7 = .ok (.ifCond .ne 6, 3) := by decide +kernel
theorem dX8_undo_10 : decode cX8_undo 10 = .ok (.bipush (-5), 2) := by decide +kernel
theorem dX8_undo_12 : decode cX8_undo 12 = .ok (.ireturn, 1) := by decide +kernel
theorem dX8_undo_13 : decode cX8_undo 13 = .ok (.aload_n 0, 1) := by decide +kernel
theorem dX8_undo_14 : decode cX8_undo 14 = .ok (.getfield 25, 3) := by decide +kernel
theorem dX8_undo_17 : decode cX8_undo 17 = .ok (.aload_n 0, 1) := by decide +kernel
theorem dX8_undo_18 : decode cX8_undo 18 = .ok (.getfield 10, 3) := by decide +kernel
theorem dX8_undo_21 : decode cX8_undo 21 = .ok (.invokevirtual 155, 3) := by decide +kernel
theorem dX8_undo_24 : decode cX8_undo 24 = .ok (.aload_n 0, 1) := by decide +kernel
theorem dX8_undo_25 : decode cX8_undo 25 = .ok (.getfield 25, 3) := by decide +kernel
theorem dX8_undo_28 : decode cX8_undo 28 = .ok (.getfield 154, 3) := by decide +kernel
theorem dX8_undo_31 : decode cX8_undo 31 = .ok (.ireturn, 1) := by decide +kernel
theorem dX8_keep_0 : decode cX8_keep 0 = .ok (.aload_n 0, 1) := by decide +kernel
theorem dX8_keep_1 : decode cX8_keep 1 = .ok (.getfield 19, 3) := by decide +kernel
theorem dX8_keep_4 : decode cX8_keep 4 = .ok (.aload_n 0, 1) := by decide +kernel
theorem dX8_keep_5 : decode cX8_keep 5 = .ok (.getfield 10, 3) := by decide +kernel
theorem dX8_keep_8 : decode cX8_keep 8 = .ok (.invokevirtual 158, 3) := by decide +kernel
theorem dX8_keep_11 : decode cX8_keep 11 = .ok (.aload_n 0, 1) := by decide +kernel
theorem dX8_keep_12 : decode cX8_keep 12 = .ok (.iconst 1, 1) := by decide +kernel
theorem dX8_keep_13 : decode cX8_keep 13 = .ok (.putfield 161, 3) := by decide +kernel
theorem dX8_keep_16 : decode cX8_keep 16 = .ok (.aload_n 0, 1) := by decide +kernel
theorem dX8_keep_17 : decode cX8_keep 17 = .ok (.getfield 10, 3) := by decide +kernel
theorem dX8_keep_20 : decode cX8_keep 20 = .ok (.getfield 100, 3) := by decide +kernel
theorem dX8_keep_23 : decode cX8_keep 23 = .ok (.ireturn, 1) := by decide +kernel
theorem dX8_restore_0 : decode cX8_restore 0 = .ok (.aload_n 0, 1) := by decide +kernel
theorem dX8_restore_1 : decode cX8_restore 1 = .ok (.getfield 161, 3) := by decide +kernel
theorem dX8_restore_4 : decode cX8_restore 4 = .ok (.ifCond .ne 6, 3) := by decide +kernel
theorem dX8_restore_7 : decode cX8_restore 7 = .ok (.bipush (-5), 2) := by decide +kernel
theorem dX8_restore_9 : decode cX8_restore 9 = .ok (.ireturn, 1) := by decide +kernel
theorem dX8_restore_10 : decode cX8_restore 10 = .ok (.aload_n 0, 1) := by decide +kernel
theorem dX8_restore_11 : decode cX8_restore 11 = .ok (.getfield 25, 3) := by decide +kernel
theorem dX8_restore_14 : decode cX8_restore 14 = .ok (.aload_n 0, 1) := by decide +kernel
theorem dX8_restore_15 : decode cX8_restore 15 = .ok (.getfield 10, 3) := by decide +kernel
theorem dX8_restore_18 : decode cX8_restore 18 = .ok (.invokevirtual 57, 3) := by decide +kernel
theorem dX8_restore_21 : decode cX8_restore 21 = .ok (.aload_n 0, 1) := by decide +kernel
theorem dX8_restore_22 : decode cX8_restore 22 = .ok (.getfield 10, 3) := by decide +kernel
theorem dX8_restore_25 : decode cX8_restore 25 = .ok (.aload_n 0, 1) := by decide +kernel
theorem dX8_restore_26 : decode cX8_restore 26 = .ok (.getfield 19, 3) := by decide +kernel
theorem dX8_restore_29 : decode cX8_restore 29 = .ok (.invokevirtual 158, 3) := by decide +kernel
theorem dX8_restore_32 : decode cX8_restore 32 = .ok (.aload_n 0, 1) := by decide +kernel
theorem dX8_restore_33 : decode cX8_restore 33 = .ok (.getfield 10, 3) := by decide +kernel
theorem dX8_restore_36 : decode cX8_restore 36 = .ok (.getfield 100, 3) := by decide +kernel
theorem dX8_restore_39 : decode cX8_restore 39 = .ok (.ireturn, 1) := by decide +kernel
theorem dX8_cell_0 : decode cX8_cell 0 = .ok (.iload_n 1, 1) := by decide +kernel
theorem dX8_cell_1 : decode cX8_cell 1 = .ok (.bipush 8, 2) := by decide +kernel
theorem dX8_cell_3 : decode cX8_cell 3 = .ok (.invokestatic 43, 3) := by decide +kernel
theorem dX8_cell_6 : decode cX8_cell 6 = .ok (.ifCond .eq 12, 3) := by decide +kernel
theorem dX8_cell_9 : decode cX8_cell 9 = .ok (.iload_n 2, 1) := by decide +kernel
theorem dX8_cell_10 : decode cX8_cell 10 = .ok (.bipush 16, 2) := by decide +kernel
theorem dX8_cell_12 : decode cX8_cell 12 = .ok (.invokestatic 43, 3) := by decide +kernel
theorem dX8_cell_15 : decode cX8_cell 15 = .ok (.ifCond .ne 5, 3) := by decide +kernel
theorem dX8_cell_18 : decode cX8_cell 18 = .ok (.iconst (-1), 1) := by decide +kernel
theorem dX8_cell_19 : decode cX8_cell 19 = .ok (.ireturn, 1) := by decide +kernel
theorem dX8_cell_20 : decode cX8_cell 20 = .ok (.aload_n 0, 1) := by decide +kernel
theorem dX8_cell_21 : decode cX8_cell 21 = .ok (.getfield 10, 3) := by decide +kernel
theorem dX8_cell_24 : decode cX8_cell 24 = .ok (.getfield 47, 3) := by decide +kernel
theorem dX8_cell_27 : decode cX8_cell 27 = .ok (.iload_n 1, 1) := by decide +kernel
theorem dX8_cell_28 : decode cX8_cell 28 = .ok (.iload_n 2, 1) := by decide +kernel
theorem dX8_cell_29 : decode cX8_cell 29 = .ok (.invokevirtual 51, 3) := by decide +kernel
theorem dX8_cell_32 : decode cX8_cell 32 = .ok (.ireturn, 1) := by decide +kernel
theorem dX8_address_0 : decode cX8_address 0 = .ok (.iload_n 1, 1) := by decide +kernel
theorem dX8_address_1 : decode cX8_address 1 = .ok (.bipush 64, 2) := by decide +kernel
theorem dX8_address_3 : decode cX8_address 3 = .ok (.invokestatic 43, 3) := by decide +kernel
theorem dX8_address_6 : decode cX8_address 6 = .ok (.ifCond .ne 5, 3) := by decide +kernel
theorem dX8_address_9 : decode cX8_address 9 = .ok (.iconst (-1), 1) := by decide +kernel
theorem dX8_address_10 : decode cX8_address 10 = .ok (.ireturn, 1) := by decide +kernel
theorem dX8_address_11 : decode cX8_address 11 = .ok (.iload_n 2, 1) := by decide +kernel
theorem dX8_address_12 : decode cX8_address 12 = .ok (.tableswitch 73 0 3 #[32, 44, 56, 61], 32) := by decide +kernel
theorem dX8_address_44 : decode cX8_address 44 = .ok (.aload_n 0, 1) := by decide +kernel
theorem dX8_address_45 : decode cX8_address 45 = .ok (.getfield 10, 3) := by decide +kernel
theorem dX8_address_48 : decode cX8_address 48 = .ok (.getfield 47, 3) := by decide +kernel
theorem dX8_address_51 : decode cX8_address 51 = .ok (.iload_n 1, 1) := by decide +kernel
theorem dX8_address_52 : decode cX8_address 52 = .ok (.invokevirtual 164, 3) := by decide +kernel
theorem dX8_address_55 : decode cX8_address 55 = .ok (.ireturn, 1) := by decide +kernel
theorem dX8_address_56 : decode cX8_address 56 = .ok (.aload_n 0, 1) := by decide +kernel
theorem dX8_address_57 : decode cX8_address 57 = .ok (.getfield 10, 3) := by decide +kernel
theorem dX8_address_60 : decode cX8_address 60 = .ok (.getfield 47, 3) := by decide +kernel
theorem dX8_address_63 : decode cX8_address 63 = .ok (.iload_n 1, 1) := by decide +kernel
theorem dX8_address_64 : decode cX8_address 64 = .ok (.invokevirtual 167, 3) := by decide +kernel
theorem dX8_address_67 : decode cX8_address 67 = .ok (.ireturn, 1) := by decide +kernel
theorem dX8_address_68 : decode cX8_address 68 = .ok (.iload_n 1, 1) := by decide +kernel
theorem dX8_address_69 : decode cX8_address 69 = .ok (.bipush 16, 2) := by decide +kernel
theorem dX8_address_71 : decode cX8_address 71 = .ok (.irem, 1) := by decide +kernel
theorem dX8_address_72 : decode cX8_address 72 = .ok (.ireturn, 1) := by decide +kernel
theorem dX8_address_73 : decode cX8_address 73 = .ok (.aload_n 0, 1) := by decide +kernel
theorem dX8_address_74 : decode cX8_address 74 = .ok (.getfield 10, 3) := by decide +kernel
theorem dX8_address_77 : decode cX8_address 77 = .ok (.getfield 47, 3) := by decide +kernel
theorem dX8_address_80 : decode cX8_address 80 = .ok (.iload_n 1, 1) := by decide +kernel
theorem dX8_address_81 : decode cX8_address 81 = .ok (.invokevirtual 170, 3) := by decide +kernel
theorem dX8_address_84 : decode cX8_address 84 = .ok (.ireturn, 1) := by decide +kernel
theorem dX8_address_85 : decode cX8_address 85 = .ok (.bipush (-2), 2) := by decide +kernel
theorem dX8_address_87 : decode cX8_address 87 = .ok (.ireturn, 1) := by decide +kernel
theorem dX8_bank_0 : decode cX8_bank 0 = .ok (.iload_n 1, 1) := by decide +kernel
theorem dX8_bank_1 : decode cX8_bank 1 = .ok (.bipush 8, 2) := by decide +kernel
theorem dX8_bank_3 : decode cX8_bank 3 = .ok (.invokestatic 43, 3) := by decide +kernel
theorem dX8_bank_6 : decode cX8_bank 6 = .ok (.ifCond .ne 5, 3) := by decide +kernel
theorem dX8_bank_9 : decode cX8_bank 9 = .ok (.iconst (-1), 1) := by decide +kernel
theorem dX8_bank_10 : decode cX8_bank 10 = .ok (.ireturn, 1) := by decide +kernel
theorem dX8_bank_11 : decode cX8_bank 11 = .ok (.iload_n 2, 1) := by decide +kernel
theorem dX8_bank_12 : decode cX8_bank 12 = .ok (.tableswitch 121 0 5 #[40, 55, 67, 79, 91, 106], 40) := by decide +kernel
theorem dX8_bank_52 : decode cX8_bank 52 = .ok (.aload_n 0, 1) := by decide +kernel
theorem dX8_bank_53 : decode cX8_bank 53 = .ok (.getfield 10, 3) := by decide +kernel
theorem dX8_bank_56 : decode cX8_bank 56 = .ok (.getfield 47, 3) := by decide +kernel
theorem dX8_bank_59 : decode cX8_bank 59 = .ok (.getfield 69, 3) := by decide +kernel
theorem dX8_bank_62 : decode cX8_bank 62 = .ok (.iload_n 1, 1) := by decide +kernel
theorem dX8_bank_63 : decode cX8_bank 63 = .ok (.invokevirtual 86, 3) := by decide +kernel
theorem dX8_bank_66 : decode cX8_bank 66 = .ok (.ireturn, 1) := by decide +kernel
theorem dX8_bank_67 : decode cX8_bank 67 = .ok (.aload_n 0, 1) := by decide +kernel
theorem dX8_bank_68 : decode cX8_bank 68 = .ok (.getfield 10, 3) := by decide +kernel
theorem dX8_bank_71 : decode cX8_bank 71 = .ok (.getfield 47, 3) := by decide +kernel
theorem dX8_bank_74 : decode cX8_bank 74 = .ok (.iload_n 1, 1) := by decide +kernel
theorem dX8_bank_75 : decode cX8_bank 75 = .ok (.invokevirtual 173, 3) := by decide +kernel
theorem dX8_bank_78 : decode cX8_bank 78 = .ok (.ireturn, 1) := by decide +kernel
theorem dX8_bank_79 : decode cX8_bank 79 = .ok (.aload_n 0, 1) := by decide +kernel
theorem dX8_bank_80 : decode cX8_bank 80 = .ok (.getfield 10, 3) := by decide +kernel
theorem dX8_bank_83 : decode cX8_bank 83 = .ok (.getfield 47, 3) := by decide +kernel
theorem dX8_bank_86 : decode cX8_bank 86 = .ok (.iload_n 1, 1) := by decide +kernel
theorem dX8_bank_87 : decode cX8_bank 87 = .ok (.invokevirtual 176, 3) := by decide +kernel
theorem dX8_bank_90 : decode cX8_bank 90 = .ok (.ireturn, 1) := by decide +kernel
theorem dX8_bank_91 : decode cX8_bank 91 = .ok (.aload_n 0, 1) := by decide +kernel
theorem dX8_bank_92 : decode cX8_bank 92 = .ok (.getfield 10, 3) := by decide +kernel
theorem dX8_bank_95 : decode cX8_bank 95 = .ok (.getfield 179, 3) := by decide +kernel
theorem dX8_bank_98 : decode cX8_bank 98 = .ok (.iload_n 1, 1) := by decide +kernel
theorem dX8_bank_99 : decode cX8_bank 99 = .ok (.invokevirtual 183, 3) := by decide +kernel
theorem dX8_bank_102 : decode cX8_bank 102 = .ok (.ireturn, 1) := by decide +kernel
theorem dX8_bank_103 : decode cX8_bank 103 = .ok (.aload_n 0, 1) := by decide +kernel
theorem dX8_bank_104 : decode cX8_bank 104 = .ok (.getfield 10, 3) := by decide +kernel
theorem dX8_bank_107 : decode cX8_bank 107 = .ok (.getfield 47, 3) := by decide +kernel
theorem dX8_bank_110 : decode cX8_bank 110 = .ok (.getfield 188, 3) := by decide +kernel
theorem dX8_bank_113 : decode cX8_bank 113 = .ok (.iload_n 1, 1) := by decide +kernel
theorem dX8_bank_114 : decode cX8_bank 114 = .ok (.invokevirtual 86, 3) := by decide +kernel
theorem dX8_bank_117 : decode cX8_bank 117 = .ok (.ireturn, 1) := by decide +kernel
theorem dX8_bank_118 : decode cX8_bank 118 = .ok (.aload_n 0, 1) := by decide +kernel
theorem dX8_bank_119 : decode cX8_bank 119 = .ok (.getfield 10, 3) := by decide +kernel
theorem dX8_bank_122 : decode cX8_bank 122 = .ok (.getfield 47, 3) := by decide +kernel
theorem dX8_bank_125 : decode cX8_bank 125 = .ok (.getfield 191, 3) := by decide +kernel
theorem dX8_bank_128 : decode cX8_bank 128 = .ok (.iload_n 1, 1) := by decide +kernel
theorem dX8_bank_129 : decode cX8_bank 129 = .ok (.invokevirtual 86, 3) := by decide +kernel
theorem dX8_bank_132 : decode cX8_bank 132 = .ok (.ireturn, 1) := by decide +kernel
theorem dX8_bank_133 : decode cX8_bank 133 = .ok (.bipush (-2), 2) := by decide +kernel
theorem dX8_bank_135 : decode cX8_bank 135 = .ok (.ireturn, 1) := by decide +kernel
theorem dX8_window_0 : decode cX8_window 0 = .ok (.iload_n 1, 1) := by decide +kernel
theorem dX8_window_1 : decode cX8_window 1 = .ok (.iconst 4, 1) := by decide +kernel
theorem dX8_window_2 : decode cX8_window 2 = .ok (.invokestatic 43, 3) := by decide +kernel
theorem dX8_window_5 : decode cX8_window 5 = .ok (.ifCond .eq 20, 3) := by decide +kernel
theorem dX8_window_8 : decode cX8_window 8 = .ok (.aload_n 0, 1) := by decide +kernel
theorem dX8_window_9 : decode cX8_window 9 = .ok (.getfield 10, 3) := by decide +kernel
theorem dX8_window_12 : decode cX8_window 12 = .ok (.getfield 47, 3) := by decide +kernel
theorem dX8_window_15 : decode cX8_window 15 = .ok (.getfield 83, 3) := by decide +kernel
theorem dX8_window_18 : decode cX8_window 18 = .ok (.iload_n 1, 1) := by decide +kernel
theorem dX8_window_19 : decode cX8_window 19 = .ok (.invokevirtual 86, 3) := by decide +kernel
theorem dX8_window_22 : decode cX8_window 22 = .ok (.goto 4, 3) := by decide +kernel
theorem dX8_window_25 : decode cX8_window 25 = .ok (.iconst (-1), 1) := by decide +kernel
theorem dX8_window_26 : decode cX8_window 26 = .ok (.ireturn, 1) := by decide +kernel
theorem dX8_frame_0 : decode cX8_frame 0 = .ok (.iload_n 1, 1) := by decide +kernel
theorem dX8_frame_1 : decode cX8_frame 1 = .ok (.ifCond .lt 11, 3) := by decide +kernel
theorem dX8_frame_4 : decode cX8_frame 4 = .ok (.iload_n 2, 1) := by decide +kernel
theorem dX8_frame_5 : decode cX8_frame 5 = .ok (.iconst 3, 1) := by decide +kernel
theorem dX8_frame_6 : decode cX8_frame 6 = .ok (.invokestatic 43, 3) := by decide +kernel
theorem dX8_frame_9 : decode cX8_frame 9 = .ok (.ifCond .ne 6, 3) := by decide +kernel
theorem dX8_frame_12 : decode cX8_frame 12 = .ok (.bipush (-2), 2) := by decide +kernel
theorem dX8_frame_14 : decode cX8_frame 14 = .ok (.ireturn, 1) := by decide +kernel
theorem dX8_frame_15 : decode cX8_frame 15 = .ok (.iload_n 1, 1) := by decide +kernel
theorem dX8_frame_16 : decode cX8_frame 16 = .ok (.aload_n 0, 1) := by decide +kernel
theorem dX8_frame_17 : decode cX8_frame 17 = .ok (.getfield 10, 3) := by decide +kernel
theorem dX8_frame_20 : decode cX8_frame 20 = .ok (.getfield 179, 3) := by decide +kernel
theorem dX8_frame_23 : decode cX8_frame 23 = .ok (.getfield 194, 3) := by decide +kernel
theorem dX8_frame_26 : decode cX8_frame 26 = .ok (.if_icmp .lt 6, 3) := by decide +kernel
theorem dX8_frame_29 : decode cX8_frame 29 = .ok (.bipush (-5), 2) := by decide +kernel
theorem dX8_frame_31 : decode cX8_frame 31 = .ok (.ireturn, 1) := by decide +kernel
theorem dX8_frame_32 : decode cX8_frame 32 = .ok (.aload_n 0, 1) := by decide +kernel
theorem dX8_frame_33 : decode cX8_frame 33 = .ok (.getfield 10, 3) := by decide +kernel
theorem dX8_frame_36 : decode cX8_frame 36 = .ok (.getfield 179, 3) := by decide +kernel
theorem dX8_frame_39 : decode cX8_frame 39 = .ok (.iload_n 1, 1) := by decide +kernel
theorem dX8_frame_40 : decode cX8_frame 40 = .ok (.iload_n 2, 1) := by decide +kernel
theorem dX8_frame_41 : decode cX8_frame 41 = .ok (.invokevirtual 195, 3) := by decide +kernel
theorem dX8_frame_44 : decode cX8_frame 44 = .ok (.ireturn, 1) := by decide +kernel
theorem dX8_latest_0 : decode cX8_latest 0 = .ok (.iload_n 1, 1) := by decide +kernel
theorem dX8_latest_1 : decode cX8_latest 1 = .ok (.ifCond .lt 11, 3) := by decide +kernel
theorem dX8_latest_4 : decode cX8_latest 4 = .ok (.iload_n 2, 1) := by decide +kernel
theorem dX8_latest_5 : decode cX8_latest 5 = .ok (.iconst 3, 1) := by decide +kernel
theorem dX8_latest_6 : decode cX8_latest 6 = .ok (.invokestatic 43, 3) := by decide +kernel
theorem dX8_latest_9 : decode cX8_latest 9 = .ok (.ifCond .ne 6, 3) := by decide +kernel
theorem dX8_latest_12 : decode cX8_latest 12 = .ok (.bipush (-2), 2) := by decide +kernel
theorem dX8_latest_14 : decode cX8_latest 14 = .ok (.ireturn, 1) := by decide +kernel
theorem dX8_latest_15 : decode cX8_latest 15 = .ok (.iload_n 1, 1) := by decide +kernel
theorem dX8_latest_16 : decode cX8_latest 16 = .ok (.aload_n 0, 1) := by decide +kernel
theorem dX8_latest_17 : decode cX8_latest 17 = .ok (.getfield 10, 3) := by decide +kernel
theorem dX8_latest_20 : decode cX8_latest 20 = .ok (.getfield 113, 3) := by decide +kernel
theorem dX8_latest_23 : decode cX8_latest 23 = .ok (.getfield 117, 3) := by decide +kernel
theorem dX8_latest_26 : decode cX8_latest 26 = .ok (.bipush 12, 2) := by decide +kernel
theorem dX8_latest_28 : decode cX8_latest 28 = .ok (.invokestatic 198, 3) := by decide +kernel
theorem dX8_latest_31 : decode cX8_latest 31 = .ok (.if_icmp .lt 6, 3) := by decide +kernel
theorem dX8_latest_34 : decode cX8_latest 34 = .ok (.bipush (-5), 2) := by decide +kernel
theorem dX8_latest_36 : decode cX8_latest 36 = .ok (.ireturn, 1) := by decide +kernel
theorem dX8_latest_37 : decode cX8_latest 37 = .ok (.aload_n 0, 1) := by decide +kernel
theorem dX8_latest_38 : decode cX8_latest 38 = .ok (.getfield 10, 3) := by decide +kernel
theorem dX8_latest_41 : decode cX8_latest 41 = .ok (.getfield 113, 3) := by decide +kernel
theorem dX8_latest_44 : decode cX8_latest 44 = .ok (.iload_n 1, 1) := by decide +kernel
theorem dX8_latest_45 : decode cX8_latest 45 = .ok (.iload_n 2, 1) := by decide +kernel
theorem dX8_latest_46 : decode cX8_latest 46 = .ok (.invokevirtual 203, 3) := by decide +kernel
theorem dX8_latest_49 : decode cX8_latest 49 = .ok (.ireturn, 1) := by decide +kernel
theorem dX8_next_0 : decode cX8_next 0 = .ok (.iload_n 1, 1) := by decide +kernel
theorem dX8_next_1 : decode cX8_next 1 = .ok (.iconst 3, 1) := by decide +kernel
theorem dX8_next_2 : decode cX8_next 2 = .ok (.invokestatic 43, 3) := by decide +kernel
theorem dX8_next_5 : decode cX8_next 5 = .ok (.ifCond .ne 6, 3) := by decide +kernel
theorem dX8_next_8 : decode cX8_next 8 = .ok (.bipush (-2), 2) := by decide +kernel
theorem dX8_next_10 : decode cX8_next 10 = .ok (.ireturn, 1) := by decide +kernel
theorem dX8_next_11 : decode cX8_next 11 = .ok (.aload_n 0, 1) := by decide +kernel
theorem dX8_next_12 : decode cX8_next 12 = .ok (.getfield 10, 3) := by decide +kernel
theorem dX8_next_15 : decode cX8_next 15 = .ok (.getfield 110, 3) := by decide +kernel
theorem dX8_next_18 : decode cX8_next 18 = .ok (.ifCond .eq 6, 3) := by decide +kernel
theorem dX8_next_21 : decode cX8_next 21 = .ok (.bipush (-5), 2) := by decide +kernel
theorem dX8_next_23 : decode cX8_next 23 = .ok (.ireturn, 1) := by decide +kernel
theorem dX8_next_24 : decode cX8_next 24 = .ok (.iload_n 1, 1) := by decide +kernel
theorem dX8_next_25 : decode cX8_next 25 = .ok (.ifCond .ne 21, 3) := by decide +kernel
theorem dX8_next_28 : decode cX8_next 28 = .ok (.aload_n 0, 1) := by decide +kernel
theorem dX8_next_29 : decode cX8_next 29 = .ok (.getfield 10, 3) := by decide +kernel
theorem dX8_next_32 : decode cX8_next 32 = .ok (.getfield 47, 3) := by decide +kernel
theorem dX8_next_35 : decode cX8_next 35 = .ok (.aload_n 0, 1) := by decide +kernel
theorem dX8_next_36 : decode cX8_next 36 = .ok (.getfield 10, 3) := by decide +kernel
theorem dX8_next_39 : decode cX8_next 39 = .ok (.getfield 100, 3) := by decide +kernel
theorem dX8_next_42 : decode cX8_next 42 = .ok (.invokevirtual 164, 3) := by decide +kernel
theorem dX8_next_45 : decode cX8_next 45 = .ok (.ireturn, 1) := by decide +kernel
theorem dX8_next_46 : decode cX8_next 46 = .ok (.aload_n 0, 1) := by decide +kernel
theorem dX8_next_47 : decode cX8_next 47 = .ok (.getfield 16, 3) := by decide +kernel
theorem dX8_next_50 : decode cX8_next 50 = .ok (.aload_n 0, 1) := by decide +kernel
theorem dX8_next_51 : decode cX8_next 51 = .ok (.getfield 10, 3) := by decide +kernel
theorem dX8_next_54 : decode cX8_next 54 = .ok (.invokevirtual 158, 3) := by decide +kernel
theorem dX8_next_57 : decode cX8_next 57 = .ok (.aload_n 0, 1) := by decide +kernel
theorem dX8_next_58 : decode cX8_next 58 = .ok (.getfield 16, 3) := by decide +kernel
theorem dX8_next_61 : decode cX8_next 61 = .ok (.invokevirtual 204, 3) := by decide +kernel
theorem dX8_next_64 : decode cX8_next 64 = .ok (.iload_n 1, 1) := by decide +kernel
theorem dX8_next_65 : decode cX8_next 65 = .ok (.iconst 1, 1) := by decide +kernel
theorem dX8_next_66 : decode cX8_next 66 = .ok (.if_icmp .ne 13, 3) := by decide +kernel
theorem dX8_next_69 : decode cX8_next 69 = .ok (.aload_n 0, 1) := by decide +kernel
theorem dX8_next_70 : decode cX8_next 70 = .ok (.getfield 16, 3) := by decide +kernel
theorem dX8_next_73 : decode cX8_next 73 = .ok (.getfield 110, 3) := by decide +kernel
theorem dX8_next_76 : decode cX8_next 76 = .ok (.goto 10, 3) := by decide +kernel
theorem dX8_next_79 : decode cX8_next 79 = .ok (.aload_n 0, 1) := by decide +kernel
theorem dX8_next_80 : decode cX8_next 80 = .ok (.getfield 16, 3) := by decide +kernel
theorem dX8_next_83 : decode cX8_next 83 = .ok (.getfield 100, 3) := by decide +kernel
theorem dX8_next_86 : decode cX8_next 86 = .ok (.ireturn, 1) := by decide +kernel
theorem dX8_ifRun_0 : decode cX8_ifRun 0 = .ok (.iload_n 1, 1) := by decide +kernel
theorem dX8_ifRun_1 : decode cX8_ifRun 1 = .ok (.invokestatic 107, 3) := by decide +kernel
theorem dX8_ifRun_4 : decode cX8_ifRun 4 = .ok (.ifCond .eq 11, 3) := by decide +kernel
theorem dX8_ifRun_7 : decode cX8_ifRun 7 = .ok (.iload_n 2, 1) := by decide +kernel
theorem dX8_ifRun_8 : decode cX8_ifRun 8 = .ok (.iconst 5, 1) := by decide +kernel
theorem dX8_ifRun_9 : decode cX8_ifRun 9 = .ok (.invokestatic 43, 3) := by decide +kernel
theorem dX8_ifRun_12 : decode cX8_ifRun 12 = .ok (.ifCond .ne 6, 3) := by decide +kernel
theorem dX8_ifRun_15 : decode cX8_ifRun 15 = .ok (.bipush (-2), 2) := by decide +kernel
theorem dX8_ifRun_17 : decode cX8_ifRun 17 = .ok (.ireturn, 1) := by decide +kernel
theorem dX8_ifRun_18 : decode cX8_ifRun 18 = .ok (.aload_n 0, 1) := by decide +kernel
theorem dX8_ifRun_19 : decode cX8_ifRun 19 = .ok (.getfield 10, 3) := by decide +kernel
theorem dX8_ifRun_22 : decode cX8_ifRun 22 = .ok (.getfield 110, 3) := by decide +kernel
theorem dX8_ifRun_25 : decode cX8_ifRun 25 = .ok (.ifCond .eq 6, 3) := by decide +kernel
theorem dX8_ifRun_28 : decode cX8_ifRun 28 = .ok (.bipush (-4), 2) := by decide +kernel
theorem dX8_ifRun_30 : decode cX8_ifRun 30 = .ok (.ireturn, 1) := by decide +kernel
theorem dX8_ifRun_31 : decode cX8_ifRun 31 = .ok (.aload_n 0, 1) := by decide +kernel
theorem dX8_ifRun_32 : decode cX8_ifRun 32 = .ok (.getfield 16, 3) := by decide +kernel
theorem dX8_ifRun_35 : decode cX8_ifRun 35 = .ok (.aload_n 0, 1) := by decide +kernel
theorem dX8_ifRun_36 : decode cX8_ifRun 36 = .ok (.getfield 10, 3) := by decide +kernel
theorem dX8_ifRun_39 : decode cX8_ifRun 39 = .ok (.invokevirtual 158, 3) := by decide +kernel
theorem dX8_ifRun_42 : decode cX8_ifRun 42 = .ok (.aload_n 0, 1) := by decide +kernel
theorem dX8_ifRun_43 : decode cX8_ifRun 43 = .ok (.getfield 16, 3) := by decide +kernel
theorem dX8_ifRun_46 : decode cX8_ifRun 46 = .ok (.iload_n 1, 1) := by decide +kernel
theorem dX8_ifRun_47 : decode cX8_ifRun 47 = .ok (.invokevirtual 123, 3) := by decide +kernel
theorem dX8_ifRun_50 : decode cX8_ifRun 50 = .ok (.istore_n 3, 1) := by decide +kernel
theorem dX8_ifRun_51 : decode cX8_ifRun 51 = .ok (.iload_n 2, 1) := by decide +kernel
theorem dX8_ifRun_52 : decode cX8_ifRun 52 = .ok (.tableswitch 61 0 3 #[32, 34, 42, 50], 32) := by decide +kernel
theorem dX8_ifRun_84 : decode cX8_ifRun 84 = .ok (.iload_n 3, 1) := by decide +kernel
theorem dX8_ifRun_85 : decode cX8_ifRun 85 = .ok (.ireturn, 1) := by decide +kernel
theorem dX8_ifRun_86 : decode cX8_ifRun 86 = .ok (.aload_n 0, 1) := by decide +kernel
theorem dX8_ifRun_87 : decode cX8_ifRun 87 = .ok (.getfield 16, 3) := by decide +kernel
theorem dX8_ifRun_90 : decode cX8_ifRun 90 = .ok (.getfield 110, 3) := by decide +kernel
theorem dX8_ifRun_93 : decode cX8_ifRun 93 = .ok (.ireturn, 1) := by decide +kernel
theorem dX8_ifRun_94 : decode cX8_ifRun 94 = .ok (.aload_n 0, 1) := by decide +kernel
theorem dX8_ifRun_95 : decode cX8_ifRun 95 = .ok (.getfield 16, 3) := by decide +kernel
theorem dX8_ifRun_98 : decode cX8_ifRun 98 = .ok (.getfield 207, 3) := by decide +kernel
theorem dX8_ifRun_101 : decode cX8_ifRun 101 = .ok (.ireturn, 1) := by decide +kernel
theorem dX8_ifRun_102 : decode cX8_ifRun 102 = .ok (.aload_n 0, 1) := by decide +kernel
theorem dX8_ifRun_103 : decode cX8_ifRun 103 = .ok (.getfield 16, 3) := by decide +kernel
theorem dX8_ifRun_106 : decode cX8_ifRun 106 = .ok (.getfield 179, 3) := by decide +kernel
theorem dX8_ifRun_109 : decode cX8_ifRun 109 = .ok (.getfield 194, 3) := by decide +kernel
theorem dX8_ifRun_112 : decode cX8_ifRun 112 = .ok (.ireturn, 1) := by decide +kernel
theorem dX8_ifRun_113 : decode cX8_ifRun 113 = .ok (.aload_n 0, 1) := by decide +kernel
theorem dX8_ifRun_114 : decode cX8_ifRun 114 = .ok (.getfield 16, 3) := by decide +kernel
theorem dX8_ifRun_117 : decode cX8_ifRun 117 = .ok (.getfield 47, 3) := by decide +kernel
theorem dX8_ifRun_120 : decode cX8_ifRun 120 = .ok (.getfield 210, 3) := by decide +kernel
theorem dX8_ifRun_123 : decode cX8_ifRun 123 = .ok (.aload_n 0, 1) := by decide +kernel
theorem dX8_ifRun_124 : decode cX8_ifRun 124 = .ok (.getfield 10, 3) := by decide +kernel
theorem dX8_ifRun_127 : decode cX8_ifRun 127 = .ok (.getfield 47, 3) := by decide +kernel
theorem dX8_ifRun_130 : decode cX8_ifRun 130 = .ok (.getfield 210, 3) := by decide +kernel
theorem dX8_ifRun_133 : decode cX8_ifRun 133 = .ok (.invokevirtual 213, 3) := by decide +kernel
theorem dX8_ifRun_136 : decode cX8_ifRun 136 = .ok (.ireturn, 1) := by decide +kernel
theorem dX8_backIn_0 : decode cX8_backIn 0 = .ok (.aload_n 0, 1) := by decide +kernel
theorem dX8_backIn_1 : decode cX8_backIn 1 = .ok (.getfield 10, 3) := by decide +kernel
theorem dX8_backIn_4 : decode cX8_backIn 4 = .ok (.getfield 179, 3) := by decide +kernel
theorem dX8_backIn_7 : decode cX8_backIn 7 = .ok (.getfield 194, 3) := by decide +kernel
theorem dX8_backIn_10 : decode cX8_backIn 10 = .ok (.istore_n 1, 1) := by decide +kernel
theorem dX8_backIn_11 : decode cX8_backIn 11 = .ok (.iload_n 1, 1) := by decide +kernel
theorem dX8_backIn_12 : decode cX8_backIn 12 = .ok (.ifCond .ne 6, 3) := by decide +kernel
theorem dX8_backIn_15 : decode cX8_backIn 15 = .ok (.bipush (-5), 2) := by decide +kernel
theorem dX8_backIn_17 : decode cX8_backIn 17 = .ok (.ireturn, 1) := by decide +kernel
theorem dX8_backIn_18 : decode cX8_backIn 18 = .ok (.aload_n 0, 1) := by decide +kernel
theorem dX8_backIn_19 : decode cX8_backIn 19 = .ok (.getfield 16, 3) := by decide +kernel
theorem dX8_backIn_22 : decode cX8_backIn 22 = .ok (.aload_n 0, 1) := by decide +kernel
theorem dX8_backIn_23 : decode cX8_backIn 23 = .ok (.getfield 10, 3) := by decide +kernel
theorem dX8_backIn_26 : decode cX8_backIn 26 = .ok (.invokevirtual 158, 3) := by decide +kernel
theorem dX8_backIn_29 : decode cX8_backIn 29 = .ok (.iconst 1, 1) := by decide +kernel
theorem dX8_backIn_30 : decode cX8_backIn 30 = .ok (.istore_n 2, 1) := by decide +kernel
theorem dX8_backIn_31 : decode cX8_backIn 31 = .ok (.iload_n 2, 1) := by decide +kernel
theorem dX8_backIn_32 : decode cX8_backIn 32 = .ok (.sipush 500, 3) := by decide +kernel
theorem dX8_backIn_35 : decode cX8_backIn 35 = .ok (.if_icmp .gt 42, 3) := by decide +kernel
theorem dX8_backIn_38 : decode cX8_backIn 38 = .ok (.aload_n 0, 1) := by decide +kernel
theorem dX8_backIn_39 : decode cX8_backIn 39 = .ok (.getfield 16, 3) := by decide +kernel
theorem dX8_backIn_42 : decode cX8_backIn 42 = .ok (.getfield 110, 3) := by decide +kernel
theorem dX8_backIn_45 : decode cX8_backIn 45 = .ok (.ifCond .ne 32, 3) := by decide +kernel
theorem dX8_backIn_48 : decode cX8_backIn 48 = .ok (.aload_n 0, 1) := by decide +kernel
theorem dX8_backIn_49 : decode cX8_backIn 49 = .ok (.getfield 16, 3) := by decide +kernel
theorem dX8_backIn_52 : decode cX8_backIn 52 = .ok (.invokevirtual 204, 3) := by decide +kernel
theorem dX8_backIn_55 : decode cX8_backIn 55 = .ok (.aload_n 0, 1) := by decide +kernel
theorem dX8_backIn_56 : decode cX8_backIn 56 = .ok (.getfield 16, 3) := by decide +kernel
theorem dX8_backIn_59 : decode cX8_backIn 59 = .ok (.getfield 179, 3) := by decide +kernel
theorem dX8_backIn_62 : decode cX8_backIn 62 = .ok (.getfield 194, 3) := by decide +kernel
theorem dX8_backIn_65 : decode cX8_backIn 65 = .ok (.iload_n 1, 1) := by decide +kernel
theorem dX8_backIn_66 : decode cX8_backIn 66 = .ok (.if_icmp .ge 5, 3) := by decide +kernel
theorem dX8_backIn_69 : decode cX8_backIn 69 = .ok (.iload_n 2, 1) := by decide +kernel
theorem dX8_backIn_70 : decode cX8_backIn 70 = .ok (.ireturn, 1) := by decide +kernel
theorem dX8_backIn_71 : decode cX8_backIn 71 = .ok (.iinc 2 1, 3) := by decide +kernel
theorem dX8_backIn_74 : decode cX8_backIn 74 = .ok (.goto (-43), 3) := by decide +kernel
theorem dX8_backIn_77 : decode cX8_backIn 77 = .ok (.bipush (-5), 2) := by decide +kernel
theorem dX8_backIn_79 : decode cX8_backIn 79 = .ok (.ireturn, 1) := by decide +kernel
theorem dX8_count_0 : decode cX8_count 0 = .ok (.iload_n 1, 1) := by decide +kernel
theorem dX8_count_1 : decode cX8_count 1 = .ok (.tableswitch 183 0 11 #[63, 71, 79, 90, 98, 109, 117, 131, 145, 159, 167, 175], 63) := by decide +kernel
theorem dX8_count_64 : decode cX8_count 64 = .ok (.aload_n 0, 1) := by decide +kernel
theorem dX8_count_65 : decode cX8_count 65 = .ok (.getfield 10, 3) := by decide +kernel
theorem dX8_count_68 : decode cX8_count 68 = .ok (.getfield 207, 3) := by decide +kernel
theorem dX8_count_71 : decode cX8_count 71 = .ok (.ireturn, 1) := by decide +kernel
theorem dX8_count_72 : decode cX8_count 72 = .ok (.aload_n 0, 1) := by decide +kernel
theorem dX8_count_73 : decode cX8_count 73 = .ok (.getfield 10, 3) := by decide +kernel
theorem dX8_count_76 : decode cX8_count 76 = .ok (.getfield 100, 3) := by decide +kernel
theorem dX8_count_79 : decode cX8_count 79 = .ok (.ireturn, 1) := by decide +kernel
theorem dX8_count_80 : decode cX8_count 80 = .ok (.aload_n 0, 1) := by decide +kernel
theorem dX8_count_81 : decode cX8_count 81 = .ok (.getfield 10, 3) := by decide +kernel
theorem dX8_count_84 : decode cX8_count 84 = .ok (.getfield 179, 3) := by decide +kernel
theorem dX8_count_87 : decode cX8_count 87 = .ok (.getfield 194, 3) := by decide +kernel
theorem dX8_count_90 : decode cX8_count 90 = .ok (.ireturn, 1) := by decide +kernel
theorem dX8_count_91 : decode cX8_count 91 = .ok (.aload_n 0, 1) := by decide +kernel
theorem dX8_count_92 : decode cX8_count 92 = .ok (.getfield 10, 3) := by decide +kernel
theorem dX8_count_95 : decode cX8_count 95 = .ok (.getfield 110, 3) := by decide +kernel
theorem dX8_count_98 : decode cX8_count 98 = .ok (.ireturn, 1) := by decide +kernel
theorem dX8_count_99 : decode cX8_count 99 = .ok (.aload_n 0, 1) := by decide +kernel
theorem dX8_count_100 : decode cX8_count 100 = .ok (.getfield 10, 3) := by decide +kernel
theorem dX8_count_103 : decode cX8_count 103 = .ok (.getfield 113, 3) := by decide +kernel
theorem dX8_count_106 : decode cX8_count 106 = .ok (.getfield 117, 3) := by decide +kernel
theorem dX8_count_109 : decode cX8_count 109 = .ok (.ireturn, 1) := by decide +kernel
theorem dX8_count_110 : decode cX8_count 110 = .ok (.aload_n 0, 1) := by decide +kernel
theorem dX8_count_111 : decode cX8_count 111 = .ok (.getfield 10, 3) := by decide +kernel
theorem dX8_count_114 : decode cX8_count 114 = .ok (.getfield 217, 3) := by decide +kernel
theorem dX8_count_117 : decode cX8_count 117 = .ok (.ireturn, 1) := by decide +kernel
theorem dX8_count_118 : decode cX8_count 118 = .ok (.aload_n 0, 1) := by decide +kernel
theorem dX8_count_119 : decode cX8_count 119 = .ok (.getfield 10, 3) := by decide +kernel
theorem dX8_count_122 : decode cX8_count 122 = .ok (.getfield 47, 3) := by decide +kernel
theorem dX8_count_125 : decode cX8_count 125 = .ok (.getfield 188, 3) := by decide +kernel
theorem dX8_count_128 : decode cX8_count 128 = .ok (.invokevirtual 79, 3) := by decide +kernel
theorem dX8_count_131 : decode cX8_count 131 = .ok (.ireturn, 1) := by decide +kernel
theorem dX8_count_132 : decode cX8_count 132 = .ok (.aload_n 0, 1) := by decide +kernel
theorem dX8_count_133 : decode cX8_count 133 = .ok (.getfield 10, 3) := by decide +kernel
theorem dX8_count_136 : decode cX8_count 136 = .ok (.getfield 47, 3) := by decide +kernel
theorem dX8_count_139 : decode cX8_count 139 = .ok (.getfield 191, 3) := by decide +kernel
theorem dX8_count_142 : decode cX8_count 142 = .ok (.invokevirtual 79, 3) := by decide +kernel
theorem dX8_count_145 : decode cX8_count 145 = .ok (.ireturn, 1) := by decide +kernel
theorem dX8_count_146 : decode cX8_count 146 = .ok (.aload_n 0, 1) := by decide +kernel
theorem dX8_count_147 : decode cX8_count 147 = .ok (.getfield 10, 3) := by decide +kernel
theorem dX8_count_150 : decode cX8_count 150 = .ok (.getfield 47, 3) := by decide +kernel
theorem dX8_count_153 : decode cX8_count 153 = .ok (.getfield 69, 3) := by decide +kernel
theorem dX8_count_156 : decode cX8_count 156 = .ok (.invokevirtual 79, 3) := by decide +kernel
theorem dX8_count_159 : decode cX8_count 159 = .ok (.ireturn, 1) := by decide +kernel
theorem dX8_count_160 : decode cX8_count 160 = .ok (.aload_n 0, 1) := by decide +kernel
theorem dX8_count_161 : decode cX8_count 161 = .ok (.getfield 10, 3) := by decide +kernel
theorem dX8_count_164 : decode cX8_count 164 = .ok (.getfield 96, 3) := by decide +kernel
theorem dX8_count_167 : decode cX8_count 167 = .ok (.ireturn, 1) := by decide +kernel
theorem dX8_count_168 : decode cX8_count 168 = .ok (.aload_n 0, 1) := by decide +kernel
theorem dX8_count_169 : decode cX8_count 169 = .ok (.getfield 25, 3) := by decide +kernel
theorem dX8_count_172 : decode cX8_count 172 = .ok (.getfield 154, 3) := by decide +kernel
theorem dX8_count_175 : decode cX8_count 175 = .ok (.ireturn, 1) := by decide +kernel
theorem dX8_count_176 : decode cX8_count 176 = .ok (.aload_n 0, 1) := by decide +kernel
theorem dX8_count_177 : decode cX8_count 177 = .ok (.getfield 32, 3) := by decide +kernel
theorem dX8_count_180 : decode cX8_count 180 = .ok (.getfield 134, 3) := by decide +kernel
theorem dX8_count_183 : decode cX8_count 183 = .ok (.ireturn, 1) := by decide +kernel
theorem dX8_count_184 : decode cX8_count 184 = .ok (.bipush (-2), 2) := by decide +kernel
theorem dX8_count_186 : decode cX8_count 186 = .ok (.ireturn, 1) := by decide +kernel
theorem dX8_isBelow_0 : decode cX8_isBelow 0 = .ok (.iload_n 0, 1) := by decide +kernel
theorem dX8_isBelow_1 : decode cX8_isBelow 1 = .ok (.ifCond .lt 12, 3) := by decide +kernel
theorem dX8_isBelow_4 : decode cX8_isBelow 4 = .ok (.iload_n 0, 1) := by decide +kernel
theorem dX8_isBelow_5 : decode cX8_isBelow 5 = .ok (.iload_n 1, 1) := by decide +kernel
theorem dX8_isBelow_6 : decode cX8_isBelow 6 = .ok (.if_icmp .ge 7, 3) := by decide +kernel
theorem dX8_isBelow_9 : decode cX8_isBelow 9 = .ok (.iconst 1, 1) := by decide +kernel
theorem dX8_isBelow_10 : decode cX8_isBelow 10 = .ok (.goto 4, 3) := by decide +kernel
theorem dX8_isBelow_13 : decode cX8_isBelow 13 = .ok (.iconst 0, 1) := by decide +kernel
theorem dX8_isBelow_14 : decode cX8_isBelow 14 = .ok (.ireturn, 1) := by decide +kernel
theorem dX8_isStepsOfRun_0 : decode cX8_isStepsOfRun 0 = .ok (.iload_n 0, 1) := by decide +kernel
theorem dX8_isStepsOfRun_1 : decode cX8_isStepsOfRun 1 = .ok (.iconst 1, 1) := by decide +kernel
theorem dX8_isStepsOfRun_2 : decode cX8_isStepsOfRun 2 = .ok (.if_icmp .lt 14, 3) := by decide +kernel
theorem dX8_isStepsOfRun_5 : decode cX8_isStepsOfRun 5 = .ok (.iload_n 0, 1) := by decide +kernel
theorem dX8_isStepsOfRun_6 : decode cX8_isStepsOfRun 6 = .ok (.sipush 999, 3) := by decide +kernel
theorem dX8_isStepsOfRun_9 : decode cX8_isStepsOfRun 9 = .ok (.if_icmp .gt 7, 3) := by decide +kernel
theorem dX8_isStepsOfRun_12 : decode cX8_isStepsOfRun 12 = .ok (.iconst 1, 1) := by decide +kernel
theorem dX8_isStepsOfRun_13 : decode cX8_isStepsOfRun 13 = .ok (.goto 4, 3) := by decide +kernel
theorem dX8_isStepsOfRun_16 : decode cX8_isStepsOfRun 16 = .ok (.iconst 0, 1) := by decide +kernel
theorem dX8_isStepsOfRun_17 : decode cX8_isStepsOfRun 17 = .ok (.ireturn, 1) := by decide +kernel
theorem dX9_init_0 : decode cX9_init 0 = .ok (.aload_n 0, 1) := by decide +kernel
theorem dX9_init_1 : decode cX9_init 1 = .ok (.invokespecial 1, 3) := by decide +kernel
theorem dX9_init_4 : decode cX9_init 4 = .ok (.aload_n 0, 1) := by decide +kernel
theorem dX9_init_5 : decode cX9_init 5 = .ok (.sipush 198, 3) := by decide +kernel
theorem dX9_init_8 : decode cX9_init 8 = .ok (.newarray .int, 2) := by decide +kernel
theorem dX9_init_10 : decode cX9_init 10 = .ok (.putfield 7, 3) := by decide +kernel
theorem dX9_init_13 : decode cX9_init 13 = .ok (.aload_n 0, 1) := by decide +kernel
theorem dX9_init_14 : decode cX9_init 14 = .ok (.sipush 198, 3) := by decide +kernel
theorem dX9_init_17 : decode cX9_init 17 = .ok (.newarray .int, 2) := by decide +kernel
theorem dX9_init_19 : decode cX9_init 19 = .ok (.putfield 13, 3) := by decide +kernel
theorem dX9_init_22 : decode cX9_init 22 = .ok (.aload_n 0, 1) := by decide +kernel
theorem dX9_init_23 : decode cX9_init 23 = .ok (.sipush 792, 3) := by decide +kernel
theorem dX9_init_26 : decode cX9_init 26 = .ok (.newarray .int, 2) := by decide +kernel
theorem dX9_init_28 : decode cX9_init 28 = .ok (.putfield 16, 3) := by decide +kernel
theorem dX9_init_31 : decode cX9_init 31 = .ok (.aload_n 0, 1) := by decide +kernel
theorem dX9_init_32 : decode cX9_init 32 = .ok (.sipush 198, 3) := by decide +kernel
theorem dX9_init_35 : decode cX9_init 35 = .ok (.newarray .int, 2) := by decide +kernel
theorem dX9_init_37 : decode cX9_init 37 = .ok (.putfield 19, 3) := by decide +kernel
theorem dX9_init_40 : decode cX9_init 40 = .ok (.aload_n 0, 1) := by decide +kernel
theorem dX9_init_41 : decode cX9_init 41 = .ok (.bipush 80, 2) := by decide +kernel
theorem dX9_init_43 : decode cX9_init 43 = .ok (.newarray .int, 2) := by decide +kernel
theorem dX9_init_45 : decode cX9_init 45 = .ok (.putfield 22, 3) := by decide +kernel
theorem dX9_init_48 : decode cX9_init 48 = .ok (.aload_n 0, 1) := by decide +kernel
theorem dX9_init_49 : decode cX9_init 49 = .ok (.bipush 16, 2) := by decide +kernel
theorem dX9_init_51 : decode cX9_init 51 = .ok (.newarray .int, 2) := by decide +kernel
theorem dX9_init_53 : decode cX9_init 53 = .ok (.putfield 25, 3) := by decide +kernel
theorem dX9_init_56 : decode cX9_init 56 = .ok (.iconst 0, 1) := by decide +kernel
theorem dX9_init_57 : decode cX9_init 57 = .ok (.istore_n 1, 1) := by decide +kernel
theorem dX9_init_58 : decode cX9_init 58 = .ok (.iload_n 1, 1) := by decide +kernel
theorem dX9_init_59 : decode cX9_init 59 = .ok (.iconst 4, 1) := by decide +kernel
theorem dX9_init_60 : decode cX9_init 60 = .ok (.if_icmp .ge 19, 3) := by decide +kernel
theorem dX9_init_63 : decode cX9_init 63 = .ok (.aload_n 0, 1) := by decide +kernel
theorem dX9_init_64 : decode cX9_init 64 = .ok (.getfield 7, 3) := by decide +kernel
theorem dX9_init_67 : decode cX9_init 67 = .ok (.bipush 100, 2) := by decide +kernel
theorem dX9_init_69 : decode cX9_init 69 = .ok (.iload_n 1, 1) := by decide +kernel
theorem dX9_init_70 : decode cX9_init 70 = .ok (.iadd, 1) := by decide +kernel
theorem dX9_init_71 : decode cX9_init 71 = .ok (.iload_n 1, 1) := by decide +kernel
theorem dX9_init_72 : decode cX9_init 72 = .ok (.iastore, 1) := by decide +kernel
theorem dX9_init_73 : decode cX9_init 73 = .ok (.iinc 1 1, 3) := by decide +kernel
theorem dX9_init_76 : decode cX9_init 76 = .ok (.goto (-18), 3) := by decide +kernel
theorem dX9_init_79 : decode cX9_init 79 = .ok (.return_, 1) := by decide +kernel
theorem dX9_in_0 : decode cX9_in 0 = .ok (.iload_n 0, 1) := by decide +kernel
theorem dX9_in_1 : decode cX9_in 1 = .ok (.iload_n 1, 1) := by decide +kernel
theorem dX9_in_2 : decode cX9_in 2 = .ok (.if_icmp .lt 12, 3) := by decide +kernel
theorem dX9_in_5 : decode cX9_in 5 = .ok (.iload_n 0, 1) := by decide +kernel
theorem dX9_in_6 : decode cX9_in 6 = .ok (.iload_n 2, 1) := by decide +kernel
theorem dX9_in_7 : decode cX9_in 7 = .ok (.if_icmp .gt 7, 3) := by decide +kernel
theorem dX9_in_10 : decode cX9_in 10 = .ok (.iconst 1, 1) := by decide +kernel
theorem dX9_in_11 : decode cX9_in 11 = .ok (.goto 4, 3) := by decide +kernel
theorem dX9_in_14 : decode cX9_in 14 = .ok (.iconst 0, 1) := by decide +kernel
theorem dX9_in_15 : decode cX9_in 15 = .ok (.ireturn, 1) := by decide +kernel
theorem dX9_isBank_0 : decode cX9_isBank 0 = .ok (.iload_n 0, 1) := by decide +kernel
theorem dX9_isBank_1 : decode cX9_isBank 1 = .ok (.iconst 0, 1) := by decide +kernel
theorem dX9_isBank_2 : decode cX9_isBank 2 = .ok (.bipush 7, 2) := by decide +kernel
theorem dX9_isBank_4 : decode cX9_isBank 4 = .ok (.invokestatic 28, 3) := by decide +kernel
theorem dX9_isBank_7 : decode cX9_isBank 7 = .ok (.ireturn, 1) := by decide +kernel
theorem dX9_isCell_0 : decode cX9_isCell 0 = .ok (.iload_n 0, 1) := by decide +kernel
theorem dX9_isCell_1 : decode cX9_isCell 1 = .ok (.iconst 0, 1) := by decide +kernel
theorem dX9_isCell_2 : decode cX9_isCell 2 = .ok (.bipush 15, 2) := by decide +kernel
theorem dX9_isCell_4 : decode cX9_isCell 4 = .ok (.invokestatic 28, 3) := by decide +kernel
theorem dX9_isCell_7 : decode cX9_isCell 7 = .ok (.ireturn, 1) := by decide +kernel
theorem dX9_isWindow_0 : decode cX9_isWindow 0 = .ok (.iload_n 0, 1) := by decide +kernel
theorem dX9_isWindow_1 : decode cX9_isWindow 1 = .ok (.iconst 0, 1) := by decide +kernel
theorem dX9_isWindow_2 : decode cX9_isWindow 2 = .ok (.iconst 3, 1) := by decide +kernel
theorem dX9_isWindow_3 : decode cX9_isWindow 3 = .ok (.invokestatic 28, 3) := by decide +kernel
theorem dX9_isWindow_6 : decode cX9_isWindow 6 = .ok (.ireturn, 1) := by decide +kernel
theorem dX9_isAddress_0 : decode cX9_isAddress 0 = .ok (.iload_n 0, 1) := by decide +kernel
theorem dX9_isAddress_1 : decode cX9_isAddress 1 = .ok (.iconst 0, 1) := by decide +kernel
theorem dX9_isAddress_2 : decode cX9_isAddress 2 = .ok (.bipush 63, 2) := by decide +kernel
theorem dX9_isAddress_4 : decode cX9_isAddress 4 = .ok (.invokestatic 28, 3) := by decide +kernel
theorem dX9_isAddress_7 : decode cX9_isAddress 7 = .ok (.ireturn, 1) := by decide +kernel
theorem dX9_index_0 : decode cX9_index 0 = .ok (.iload_n 1, 1) := by decide +kernel
theorem dX9_index_1 : decode cX9_index 1 = .ok (.bipush 12, 2) := by decide +kernel
theorem dX9_index_3 : decode cX9_index 3 = .ok (.if_icmp .ge 12, 3) := by decide +kernel
theorem dX9_index_6 : decode cX9_index 6 = .ok (.bipush 12, 2) := by decide +kernel
theorem dX9_index_8 : decode cX9_index 8 = .ok (.iload_n 0, 1) := by decide +kernel
theorem dX9_index_9 : decode cX9_index 9 = .ok (.imul, 1) := by decide +kernel
theorem dX9_index_10 : decode cX9_index 10 = .ok (.iload_n 1, 1) := by decide +kernel
theorem dX9_index_11 : decode cX9_index 11 = .ok (.iadd, 1) := by decide +kernel
theorem dX9_index_12 : decode cX9_index 12 = .ok (.goto 10, 3) := by decide +kernel
theorem dX9_index_15 : decode cX9_index 15 = .ok (.bipush 96, 2) := by decide +kernel
theorem dX9_index_17 : decode cX9_index 17 = .ok (.iload_n 1, 1) := by decide +kernel
theorem dX9_index_18 : decode cX9_index 18 = .ok (.iadd, 1) := by decide +kernel
theorem dX9_index_19 : decode cX9_index 19 = .ok (.bipush 12, 2) := by decide +kernel
theorem dX9_index_21 : decode cX9_index 21 = .ok (.isub, 1) := by decide +kernel
theorem dX9_index_22 : decode cX9_index 22 = .ok (.ireturn, 1) := by decide +kernel
theorem dX9_bankAt_0 : decode cX9_bankAt 0 = .ok (.aload_n 0, 1) := by decide +kernel
theorem dX9_bankAt_1 : decode cX9_bankAt 1 = .ok (.getfield 7, 3) := by decide +kernel
theorem dX9_bankAt_4 : decode cX9_bankAt 4 = .ok (.bipush 100, 2) := by decide +kernel
theorem dX9_bankAt_6 : decode cX9_bankAt 6 = .ok (.iload_n 1, 1) := by decide +kernel
theorem dX9_bankAt_7 : decode cX9_bankAt 7 = .ok (.bipush 16, 2) := by decide +kernel
theorem dX9_bankAt_9 : decode cX9_bankAt 9 = .ok (.idiv, 1) := by decide +kernel
theorem dX9_bankAt_10 : decode cX9_bankAt 10 = .ok (.iadd, 1) := by decide +kernel
theorem dX9_bankAt_11 : decode cX9_bankAt 11 = .ok (.iaload, 1) := by decide +kernel
theorem dX9_bankAt_12 : decode cX9_bankAt 12 = .ok (.ireturn, 1) := by decide +kernel
theorem dX9_indexAt_0 : decode cX9_indexAt 0 = .ok (.aload_n 0, 1) := by decide +kernel
theorem dX9_indexAt_1 : decode cX9_indexAt 1 = .ok (.iload_n 1, 1) := by decide +kernel
theorem dX9_indexAt_2 : decode cX9_indexAt 2 = .ok (.invokevirtual 32, 3) := by decide +kernel
theorem dX9_indexAt_5 : decode cX9_indexAt 5 = .ok (.iload_n 1, 1) := by decide +kernel
theorem dX9_indexAt_6 : decode cX9_indexAt 6 = .ok (.bipush 16, 2) := by decide +kernel
theorem dX9_indexAt_8 : decode cX9_indexAt 8 = .ok (.irem, 1) := by decide +kernel
theorem dX9_indexAt_9 : decode cX9_indexAt 9 = .ok (.invokestatic 36, 3) := by decide +kernel
theorem dX9_indexAt_12 : decode cX9_indexAt 12 = .ok (.ireturn, 1) := by decide +kernel
theorem dX9_record_0 : decode cX9_record 0 = .ok (.aload_n 0, 1) := by decide +kernel
theorem dX9_record_1 : decode cX9_record 1 = .ok (.getfield 40, 3) := by decide +kernel
theorem dX9_record_4 : decode cX9_record 4 = .ok (.iconst 4, 1) := by decide +kernel
theorem dX9_record_5 : decode cX9_record 5 = .ok (.if_icmp .ne 44, 3) := by decide +kernel
theorem dX9_record_8 : decode cX9_record 8 = .ok (.iconst 0, 1) := by decide +kernel
theorem dX9_record_9 : decode cX9_record 9 = .ok (.istore_n 1, 1) := by decide +kernel
theorem dX9_record_10 : decode cX9_record 10 = .ok (.iload_n 1, 1) := by decide +kernel
theorem dX9_record_11 : decode cX9_record 11 = .ok (.sipush 594, 3) := by decide +kernel
theorem dX9_record_14 : decode cX9_record 14 = .ok (.if_icmp .ge 25, 3) := by decide +kernel
theorem dX9_record_17 : decode cX9_record 17 = .ok (.aload_n 0, 1) := by decide +kernel
theorem dX9_record_18 : decode cX9_record 18 = .ok (.getfield 16, 3) := by decide +kernel
theorem dX9_record_21 : decode cX9_record 21 = .ok (.iload_n 1, 1) := by decide +kernel
theorem dX9_record_22 : decode cX9_record 22 = .ok (.aload_n 0, 1) := by decide +kernel
theorem dX9_record_23 : decode cX9_record 23 = .ok (.getfield 16, 3) := by decide +kernel
theorem dX9_record_26 : decode cX9_record 26 = .ok (.sipush 198, 3) := by decide +kernel
theorem dX9_record_29 : decode cX9_record 29 = .ok (.iload_n 1, 1) := by decide +kernel
theorem dX9_record_30 : decode cX9_record 30 = .ok (.iadd, 1) := by decide +kernel
theorem dX9_record_31 : decode cX9_record 31 = .ok (.iaload, 1) := by decide +kernel
theorem dX9_record_32 : decode cX9_record 32 = .ok (.iastore, 1) := by decide +kernel
theorem dX9_record_33 : decode cX9_record 33 = .ok (.iinc 1 1, 3) := by decide +kernel
theorem dX9_record_36 : decode cX9_record 36 = .ok (.goto (-26), 3) := by decide +kernel
theorem dX9_record_39 : decode cX9_record 39 = .ok (.aload_n 0, 1) := by decide +kernel
theorem dX9_record_40 : decode cX9_record 40 = .ok (.dup, 1) := by decide +kernel
theorem dX9_record_41 : decode cX9_record 41 = .ok (.getfield 40, 3) := by decide +kernel
theorem dX9_record_44 : decode cX9_record 44 = .ok (.iconst 1, 1) := by decide +kernel
theorem dX9_record_45 : decode cX9_record 45 = .ok (.isub, 1) := by decide +kernel
theorem dX9_record_46 : decode cX9_record 46 = .ok (.putfield 40, 3) := by decide +kernel
theorem dX9_record_49 : decode cX9_record 49 = .ok (.iconst 0, 1) := by decide +kernel
theorem dX9_record_50 : decode cX9_record 50 = .ok (.istore_n 1, 1) := by decide +kernel
theorem dX9_record_51 : decode cX9_record 51 = .ok (.iload_n 1, 1) := by decide +kernel
theorem dX9_record_52 : decode cX9_record 52 = .ok (.sipush 198, 3) := by decide +kernel
theorem dX9_record_55 : decode cX9_record 55 = .ok (.if_icmp .ge 30, 3) := by decide +kernel
theorem dX9_record_58 : decode cX9_record 58 = .ok (.aload_n 0, 1) := by decide +kernel
theorem dX9_record_59 : decode cX9_record 59 = .ok (.getfield 16, 3) := by decide +kernel
theorem dX9_record_62 : decode cX9_record 62 = .ok (.sipush 198, 3) := by decide +kernel
theorem dX9_record_65 : decode cX9_record 65 = .ok (.aload_n 0, 1) := by decide +kernel
theorem dX9_record_66 : decode cX9_record 66 = .ok (.getfield 40, 3) := by decide +kernel
theorem dX9_record_69 : decode cX9_record 69 = .ok (.imul, 1) := by decide +kernel
theorem dX9_record_70 : decode cX9_record 70 = .ok (.iload_n 1, 1) := by decide +kernel
theorem dX9_record_71 : decode cX9_record 71 = .ok (.iadd, 1) := by decide +kernel
theorem dX9_record_72 : decode cX9_record 72 = .ok (.aload_n 0, 1) := by decide +kernel
theorem dX9_record_73 : decode cX9_record 73 = .ok (.getfield 7, 3) := by decide +kernel
theorem dX9_record_76 : decode cX9_record 76 = .ok (.iload_n 1, 1) := by decide +kernel
theorem dX9_record_77 : decode cX9_record 77 = .ok (.iaload, 1) := by decide +kernel
theorem dX9_record_78 : decode cX9_record 78 = .ok (.iastore, 1) := by decide +kernel
theorem dX9_record_79 : decode cX9_record 79 = .ok (.iinc 1 1, 3) := by decide +kernel
theorem dX9_record_82 : decode cX9_record 82 = .ok (.goto (-31), 3) := by decide +kernel
theorem dX9_record_85 : decode cX9_record 85 = .ok (.aload_n 0, 1) := by decide +kernel
theorem dX9_record_86 : decode cX9_record 86 = .ok (.dup, 1) := by decide +kernel
theorem dX9_record_87 : decode cX9_record 87 = .ok (.getfield 40, 3) := by decide +kernel
theorem dX9_record_90 : decode cX9_record 90 = .ok (.iconst 1, 1) := by decide +kernel
theorem dX9_record_91 : decode cX9_record 91 = .ok (.iadd, 1) := by decide +kernel
theorem dX9_record_92 : decode cX9_record 92 = .ok (.putfield 40, 3) := by decide +kernel
theorem dX9_record_95 : decode cX9_record 95 = .ok (.return_, 1) := by decide +kernel
theorem dX9_undo_0 : decode cX9_undo 0 = .ok (.aload_n 0, 1) := by decide +kernel
theorem dX9_undo_1 : decode cX9_undo 1 = .ok (.getfield 40, 3) := by decide +kernel
theorem dX9_undo_4 : decode cX9_undo 4 = .ok (.ifCond .ne 6, 3) := by decide +kernel
theorem dX9_undo_7 : decode cX9_undo 7 = .ok (.bipush (-5), 2) := by decide +kernel
theorem dX9_undo_9 : decode cX9_undo 9 = .ok (.ireturn, 1) := by decide +kernel
theorem dX9_undo_10 : decode cX9_undo 10 = .ok (.aload_n 0, 1) := by decide +kernel
theorem dX9_undo_11 : decode cX9_undo 11 = .ok (.dup, 1) := by decide +kernel
theorem dX9_undo_12 : decode cX9_undo 12 = .ok (.getfield 40, 3) := by decide +kernel
theorem dX9_undo_15 : decode cX9_undo 15 = .ok (.iconst 1, 1) := by decide +kernel
theorem dX9_undo_16 : decode cX9_undo 16 = .ok (.isub, 1) := by decide +kernel
theorem dX9_undo_17 : decode cX9_undo 17 = .ok (.putfield 40, 3) := by decide +kernel
theorem dX9_undo_20 : decode cX9_undo 20 = .ok (.iconst 0, 1) := by decide +kernel
theorem dX9_undo_21 : decode cX9_undo 21 = .ok (.istore_n 1, 1) := by decide +kernel
theorem dX9_undo_22 : decode cX9_undo 22 = .ok (.iload_n 1, 1) := by decide +kernel
theorem dX9_undo_23 : decode cX9_undo 23 = .ok (.sipush 198, 3) := by decide +kernel
theorem dX9_undo_26 : decode cX9_undo 26 = .ok (.if_icmp .ge 30, 3) := by decide +kernel
theorem dX9_undo_29 : decode cX9_undo 29 = .ok (.aload_n 0, 1) := by decide +kernel
theorem dX9_undo_30 : decode cX9_undo 30 = .ok (.getfield 7, 3) := by decide +kernel
theorem dX9_undo_33 : decode cX9_undo 33 = .ok (.iload_n 1, 1) := by decide +kernel
theorem dX9_undo_34 : decode cX9_undo 34 = .ok (.aload_n 0, 1) := by decide +kernel
theorem dX9_undo_35 : decode cX9_undo 35 = .ok (.getfield 16, 3) := by decide +kernel
theorem dX9_undo_38 : decode cX9_undo 38 = .ok (.sipush 198, 3) := by decide +kernel
theorem dX9_undo_41 : decode cX9_undo 41 = .ok (.aload_n 0, 1) := by decide +kernel
theorem dX9_undo_42 : decode cX9_undo 42 = .ok (.getfield 40, 3) := by decide +kernel
theorem dX9_undo_45 : decode cX9_undo 45 = .ok (.imul, 1) := by decide +kernel
theorem dX9_undo_46 : decode cX9_undo 46 = .ok (.iload_n 1, 1) := by decide +kernel
theorem dX9_undo_47 : decode cX9_undo 47 = .ok (.iadd, 1) := by decide +kernel
theorem dX9_undo_48 : decode cX9_undo 48 = .ok (.iaload, 1) := by decide +kernel
theorem dX9_undo_49 : decode cX9_undo 49 = .ok (.iastore, 1) := by decide +kernel
theorem dX9_undo_50 : decode cX9_undo 50 = .ok (.iinc 1 1, 3) := by decide +kernel
theorem dX9_undo_53 : decode cX9_undo 53 = .ok (.goto (-31), 3) := by decide +kernel
theorem dX9_undo_56 : decode cX9_undo 56 = .ok (.aload_n 0, 1) := by decide +kernel
theorem dX9_undo_57 : decode cX9_undo 57 = .ok (.getfield 40, 3) := by decide +kernel
theorem dX9_undo_60 : decode cX9_undo 60 = .ok (.ireturn, 1) := by decide +kernel
theorem dX9_keep_0 : decode cX9_keep 0 = .ok (.iconst 0, 1) := by decide +kernel
theorem dX9_keep_1 : decode cX9_keep 1 = .ok (.istore_n 1, 1) := by decide +kernel
theorem dX9_keep_2 : decode cX9_keep 2 = .ok (.iload_n 1, 1) := by decide +kernel
theorem dX9_keep_3 : decode cX9_keep 3 = .ok (.sipush 198, 3) := by decide +kernel
theorem dX9_keep_6 : decode cX9_keep 6 = .ok (.if_icmp .ge 21, 3) := by decide +kernel
theorem dX9_keep_9 : decode cX9_keep 9 = .ok (.aload_n 0, 1) := by decide +kernel
theorem dX9_keep_10 : decode cX9_keep 10 = .ok (.getfield 19, 3) := by decide +kernel
theorem dX9_keep_13 : decode cX9_keep 13 = .ok (.iload_n 1, 1) := by decide +kernel
theorem dX9_keep_14 : decode cX9_keep 14 = .ok (.aload_n 0, 1) := by decide +kernel
theorem dX9_keep_15 : decode cX9_keep 15 = .ok (.getfield 7, 3) := by decide +kernel
theorem dX9_keep_18 : decode cX9_keep 18 = .ok (.iload_n 1, 1) := by decide +kernel
theorem dX9_keep_19 : decode cX9_keep 19 = .ok (.iaload, 1) := by decide +kernel
theorem dX9_keep_20 : decode cX9_keep 20 = .ok (.iastore, 1) := by decide +kernel
theorem dX9_keep_21 : decode cX9_keep 21 = .ok (.iinc 1 1, 3) := by decide +kernel
theorem dX9_keep_24 : decode cX9_keep 24 = .ok (.goto (-22), 3) := by decide +kernel
theorem dX9_keep_27 : decode cX9_keep 27 = .ok (.aload_n 0, 1) := by decide +kernel
theorem dX9_keep_28 : decode cX9_keep 28 = .ok (.iconst 1, 1) := by decide +kernel
theorem dX9_keep_29 : decode cX9_keep 29 = .ok (.putfield 44, 3) := by decide +kernel
theorem dX9_keep_32 : decode cX9_keep 32 = .ok (.aload_n 0, 1) := by decide +kernel
theorem dX9_keep_33 : decode cX9_keep 33 = .ok (.getfield 7, 3) := by decide +kernel
theorem dX9_keep_36 : decode cX9_keep 36 = .ok (.bipush 114, 2) := by decide +kernel
theorem dX9_keep_38 : decode cX9_keep 38 = .ok (.iaload, 1) := by decide +kernel
theorem dX9_keep_39 : decode cX9_keep 39 = .ok (.ireturn, 1) := by decide +kernel
theorem dX9_restore_0 : decode cX9_restore 0 = .ok (.aload_n 0, 1) := by decide +kernel
theorem dX9_restore_1 : decode cX9_restore 1 = .ok (.getfield 44, 3) := by decide +kernel
theorem dX9_restore_4 : decode cX9_restore 4 = .ok (.ifCond .ne 6, 3) := by decide +kernel
theorem dX9_restore_7 : decode cX9_restore 7 = .ok (.bipush (-5), 2) := by decide +kernel
theorem dX9_restore_9 : decode cX9_restore 9 = .ok (.ireturn, 1) := by decide +kernel
theorem dX9_restore_10 : decode cX9_restore 10 = .ok (.aload_n 0, 1) := by decide +kernel
theorem dX9_restore_11 : decode cX9_restore 11 = .ok (.invokevirtual 48, 3) := by decide +kernel
theorem dX9_restore_14 : decode cX9_restore 14 = .ok (.iconst 0, 1) := by decide +kernel
theorem dX9_restore_15 : decode cX9_restore 15 = .ok (.istore_n 1, 1) := by decide +kernel
theorem dX9_restore_16 : decode cX9_restore 16 = .ok (.iload_n 1, 1) := by decide +kernel
theorem dX9_restore_17 : decode cX9_restore 17 = .ok (.sipush 198, 3) := by decide +kernel
theorem dX9_restore_20 : decode cX9_restore 20 = .ok (.if_icmp .ge 21, 3) := by decide +kernel
theorem dX9_restore_23 : decode cX9_restore 23 = .ok (.aload_n 0, 1) := by decide +kernel
theorem dX9_restore_24 : decode cX9_restore 24 = .ok (.getfield 7, 3) := by decide +kernel
theorem dX9_restore_27 : decode cX9_restore 27 = .ok (.iload_n 1, 1) := by decide +kernel
theorem dX9_restore_28 : decode cX9_restore 28 = .ok (.aload_n 0, 1) := by decide +kernel
theorem dX9_restore_29 : decode cX9_restore 29 = .ok (.getfield 19, 3) := by decide +kernel
theorem dX9_restore_32 : decode cX9_restore 32 = .ok (.iload_n 1, 1) := by decide +kernel
theorem dX9_restore_33 : decode cX9_restore 33 = .ok (.iaload, 1) := by decide +kernel
theorem dX9_restore_34 : decode cX9_restore 34 = .ok (.iastore, 1) := by decide +kernel
theorem dX9_restore_35 : decode cX9_restore 35 = .ok (.iinc 1 1, 3) := by decide +kernel
theorem dX9_restore_38 : decode cX9_restore 38 = .ok (.goto (-22), 3) := by decide +kernel
theorem dX9_restore_41 : decode cX9_restore 41 = .ok (.aload_n 0, 1) := by decide +kernel
theorem dX9_restore_42 : decode cX9_restore 42 = .ok (.getfield 7, 3) := by decide +kernel
theorem dX9_restore_45 : decode cX9_restore 45 = .ok (.bipush 114, 2) := by decide +kernel
theorem dX9_restore_47 : decode cX9_restore 47 = .ok (.iaload, 1) := by decide +kernel
theorem dX9_restore_48 : decode cX9_restore 48 = .ok (.ireturn, 1) := by decide +kernel
theorem dX9_putAside_0 : decode cX9_putAside 0 = .ok (.iconst 0, 1) := by decide +kernel
theorem dX9_putAside_1 : decode cX9_putAside 1 = .ok (.istore_n 1, 1) := by decide +kernel
theorem dX9_putAside_2 : decode cX9_putAside 2 = .ok (.iload_n 1, 1) := by decide +kernel
theorem dX9_putAside_3 : decode cX9_putAside 3 = .ok (.sipush 198, 3) := by decide +kernel
theorem dX9_putAside_6 : decode cX9_putAside 6 = .ok (.if_icmp .ge 21, 3) := by decide +kernel
theorem dX9_putAside_9 : decode cX9_putAside 9 = .ok (.aload_n 0, 1) := by decide +kernel
theorem dX9_putAside_10 : decode cX9_putAside 10 = .ok (.getfield 13, 3) := by decide +kernel
theorem dX9_putAside_13 : decode cX9_putAside 13 = .ok (.iload_n 1, 1) := by decide +kernel
theorem dX9_putAside_14 : decode cX9_putAside 14 = .ok (.aload_n 0, 1) := by decide +kernel
theorem dX9_putAside_15 : decode cX9_putAside 15 = .ok (.getfield 7, 3) := by decide +kernel
theorem dX9_putAside_18 : decode cX9_putAside 18 = .ok (.iload_n 1, 1) := by decide +kernel
theorem dX9_putAside_19 : decode cX9_putAside 19 = .ok (.iaload, 1) := by decide +kernel
theorem dX9_putAside_20 : decode cX9_putAside 20 = .ok (.iastore, 1) := by decide +kernel
theorem dX9_putAside_21 : decode cX9_putAside 21 = .ok (.iinc 1 1, 3) := by decide +kernel
theorem dX9_putAside_24 : decode cX9_putAside 24 = .ok (.goto (-22), 3) := by decide +kernel
theorem dX9_putAside_27 : decode cX9_putAside 27 = .ok (.return_, 1) := by decide +kernel
theorem dX9_putBack_0 : decode cX9_putBack 0 = .ok (.iconst 0, 1) := by decide +kernel
theorem dX9_putBack_1 : decode cX9_putBack 1 = .ok (.istore_n 1, 1) := by decide +kernel
theorem dX9_putBack_2 : decode cX9_putBack 2 = .ok (.iload_n 1, 1) := by decide +kernel
theorem dX9_putBack_3 : decode cX9_putBack 3 = .ok (.sipush 198, 3) := by decide +kernel
end
section
theorem dX9_putBack_6 : decode cX9_putBack 6 = .ok (.if_icmp .ge 21, 3) := by decide +kernel
theorem dX9_putBack_9 : decode cX9_putBack 9 = .ok (.aload_n 0, 1) := by decide +kernel
theorem dX9_putBack_10 : decode cX9_putBack 10 = .ok (.getfield 7, 3) := by decide +kernel
theorem dX9_putBack_13 : decode cX9_putBack 13 = .ok (.iload_n 1, 1) := by decide +kernel
theorem dX9_putBack_14 : decode cX9_putBack 14 = .ok (.aload_n 0, 1) := by decide +kernel
theorem dX9_putBack_15 : decode cX9_putBack 15 = .ok (.getfield 13, 3) := by decide +kernel
theorem dX9_putBack_18 : decode cX9_putBack 18 = .ok (.iload_n 1, 1) := by decide +kernel
theorem dX9_putBack_19 : decode cX9_putBack 19 = .ok (.iaload, 1) := by decide +kernel
theorem dX9_putBack_20 : decode cX9_putBack 20 = .ok (.iastore, 1) := by decide +kernel
theorem dX9_putBack_21 : decode cX9_putBack 21 = .ok (.iinc 1 1, 3) := by decide +kernel
theorem dX9_putBack_24 : decode cX9_putBack 24 = .ok (.goto (-22), 3) := by decide +kernel
theorem dX9_putBack_27 : decode cX9_putBack 27 = .ok (.return_, 1) := by decide +kernel
theorem dX9_change_0 : decode cX9_change 0 = .ok (.aload_n 0, 1) := by decide +kernel
theorem dX9_change_1 : decode cX9_change 1 = .ok (.getfield 7, 3) := by decide +kernel
theorem dX9_change_4 : decode cX9_change 4 = .ok (.iload_n 1, 1) := by decide +kernel
theorem dX9_change_5 : decode cX9_change 5 = .ok (.iaload, 1) := by decide +kernel
theorem dX9_change_6 : decode cX9_change 6 = .ok (.iload_n 2, 1) := by decide +kernel
theorem dX9_change_7 : decode cX9_change 7 = .ok (.if_icmp .ne 6, 3) := by decide +kernel
theorem dX9_change_10 : decode cX9_change 10 = .ok (.bipush (-5), 2) := by decide +kernel
theorem dX9_change_12 : decode cX9_change 12 = .ok (.ireturn, 1) := by decide +kernel
theorem dX9_change_13 : decode cX9_change 13 = .ok (.aload_n 0, 1) := by decide +kernel
theorem dX9_change_14 : decode cX9_change 14 = .ok (.invokevirtual 48, 3) := by decide +kernel
theorem dX9_change_17 : decode cX9_change 17 = .ok (.aload_n 0, 1) := by decide +kernel
theorem dX9_change_18 : decode cX9_change 18 = .ok (.getfield 7, 3) := by decide +kernel
theorem dX9_change_21 : decode cX9_change 21 = .ok (.iload_n 1, 1) := by decide +kernel
theorem dX9_change_22 : decode cX9_change 22 = .ok (.iaload, 1) := by decide +kernel
theorem dX9_change_23 : decode cX9_change 23 = .ok (.istore_n 3, 1) := by decide +kernel
theorem dX9_change_24 : decode cX9_change 24 = .ok (.aload_n 0, 1) := by decide +kernel
theorem dX9_change_25 : decode cX9_change 25 = .ok (.getfield 7, 3) := by decide +kernel
theorem dX9_change_28 : decode cX9_change 28 = .ok (.iload_n 1, 1) := by decide +kernel
theorem dX9_change_29 : decode cX9_change 29 = .ok (.iload_n 2, 1) := by decide +kernel
theorem dX9_change_30 : decode cX9_change 30 = .ok (.iastore, 1) := by decide +kernel
theorem dX9_change_31 : decode cX9_change 31 = .ok (.iload_n 3, 1) := by decide +kernel
theorem dX9_change_32 : decode cX9_change 32 = .ok (.ireturn, 1) := by decide +kernel
theorem dX9_put_0 : decode cX9_put 0 = .ok (.iload_n 1, 1) := by decide +kernel
theorem dX9_put_1 : decode cX9_put 1 = .ok (.invokestatic 51, 3) := by decide +kernel
theorem dX9_put_4 : decode cX9_put 4 = .ok (.ifCond .eq 10, 3) := by decide +kernel
theorem dX9_put_7 : decode cX9_put 7 = .ok (.iload_n 2, 1) := by decide +kernel
theorem dX9_put_8 : decode cX9_put 8 = .ok (.invokestatic 55, 3) := by decide +kernel
theorem dX9_put_11 : decode cX9_put 11 = .ok (.ifCond .ne 5, 3) := by decide +kernel
theorem dX9_put_14 : decode cX9_put 14 = .ok (.iconst (-1), 1) := by decide +kernel
theorem dX9_put_15 : decode cX9_put 15 = .ok (.ireturn, 1) := by decide +kernel
theorem dX9_put_16 : decode cX9_put 16 = .ok (.iload_n 3, 1) := by decide +kernel
theorem dX9_put_17 : decode cX9_put 17 = .ok (.iconst 0, 1) := by decide +kernel
theorem dX9_put_18 : decode cX9_put 18 = .ok (.sipush 999, 3) := by decide +kernel
theorem dX9_put_21 : decode cX9_put 21 = .ok (.invokestatic 28, 3) := by decide +kernel
theorem dX9_put_24 : decode cX9_put 24 = .ok (.ifCond .eq 16, 3) := by decide +kernel
theorem dX9_put_27 : decode cX9_put 27 = .ok (.aload_n 0, 1) := by decide +kernel
theorem dX9_put_28 : decode cX9_put 28 = .ok (.iload_n 1, 1) := by decide +kernel
theorem dX9_put_29 : decode cX9_put 29 = .ok (.iload_n 2, 1) := by decide +kernel
theorem dX9_put_30 : decode cX9_put 30 = .ok (.invokestatic 36, 3) := by decide +kernel
theorem dX9_put_33 : decode cX9_put 33 = .ok (.iload_n 3, 1) := by decide +kernel
theorem dX9_put_34 : decode cX9_put 34 = .ok (.invokevirtual 58, 3) := by decide +kernel
theorem dX9_put_37 : decode cX9_put 37 = .ok (.goto 5, 3) := by decide +kernel
theorem dX9_put_40 : decode cX9_put 40 = .ok (.bipush (-2), 2) := by decide +kernel
theorem dX9_put_42 : decode cX9_put 42 = .ok (.ireturn, 1) := by decide +kernel
theorem dX9_locked_0 : decode cX9_locked 0 = .ok (.iconst 0, 1) := by decide +kernel
theorem dX9_locked_1 : decode cX9_locked 1 = .ok (.istore_n 1, 1) := by decide +kernel
theorem dX9_locked_2 : decode cX9_locked 2 = .ok (.iconst 0, 1) := by decide +kernel
theorem dX9_locked_3 : decode cX9_locked 3 = .ok (.istore_n 2, 1) := by decide +kernel
theorem dX9_locked_4 : decode cX9_locked 4 = .ok (.iload_n 2, 1) := by decide +kernel
theorem dX9_locked_5 : decode cX9_locked 5 = .ok (.bipush 8, 2) := by decide +kernel
theorem dX9_locked_7 : decode cX9_locked 7 = .ok (.if_icmp .ge 21, 3) := by decide +kernel
theorem dX9_locked_10 : decode cX9_locked 10 = .ok (.iload_n 1, 1) := by decide +kernel
theorem dX9_locked_11 : decode cX9_locked 11 = .ok (.aload_n 0, 1) := by decide +kernel
theorem dX9_locked_12 : decode cX9_locked 12 = .ok (.getfield 7, 3) := by decide +kernel
theorem dX9_locked_15 : decode cX9_locked 15 = .ok (.bipush 104, 2) := by decide +kernel
theorem dX9_locked_17 : decode cX9_locked 17 = .ok (.iload_n 2, 1) := by decide +kernel
theorem dX9_locked_18 : decode cX9_locked 18 = .ok (.iadd, 1) := by decide +kernel
theorem dX9_locked_19 : decode cX9_locked 19 = .ok (.iaload, 1) := by decide +kernel
theorem dX9_locked_20 : decode cX9_locked 20 = .ok (.iadd, 1) := by decide +kernel
theorem dX9_locked_21 : decode cX9_locked 21 = .ok (.istore_n 1, 1) := by decide +kernel
theorem dX9_locked_22 : decode cX9_locked 22 = .ok (.iinc 2 1, 3) := by decide +kernel
theorem dX9_locked_25 : decode cX9_locked 25 = .ok (.goto (-21), 3) := by decide +kernel
theorem dX9_locked_28 : decode cX9_locked 28 = .ok (.iload_n 1, 1) := by decide +kernel
theorem dX9_locked_29 : decode cX9_locked 29 = .ok (.ireturn, 1) := by decide +kernel
theorem dX9_lock_0 : decode cX9_lock 0 = .ok (.iload_n 1, 1) := by decide +kernel
theorem dX9_lock_1 : decode cX9_lock 1 = .ok (.invokestatic 51, 3) := by decide +kernel
theorem dX9_lock_4 : decode cX9_lock 4 = .ok (.ifCond .ne 5, 3) := by decide +kernel
theorem dX9_lock_7 : decode cX9_lock 7 = .ok (.iconst (-1), 1) := by decide +kernel
theorem dX9_lock_8 : decode cX9_lock 8 = .ok (.ireturn, 1) := by decide +kernel
theorem dX9_lock_9 : decode cX9_lock 9 = .ok (.aload_n 0, 1) := by decide +kernel
theorem dX9_lock_10 : decode cX9_lock 10 = .ok (.bipush 104, 2) := by decide +kernel
theorem dX9_lock_12 : decode cX9_lock 12 = .ok (.iload_n 1, 1) := by decide +kernel
theorem dX9_lock_13 : decode cX9_lock 13 = .ok (.iadd, 1) := by decide +kernel
theorem dX9_lock_14 : decode cX9_lock 14 = .ok (.iload_n 2, 1) := by decide +kernel
theorem dX9_lock_15 : decode cX9_lock 15 = .ok (.ifCond .eq 7, 3) := by decide +kernel
theorem dX9_lock_18 : decode cX9_lock 18 = .ok (.iconst 1, 1) := by decide +kernel
theorem dX9_lock_19 : decode cX9_lock 19 = .ok (.goto 4, 3) := by decide +kernel
theorem dX9_lock_22 : decode cX9_lock 22 = .ok (.iconst 0, 1) := by decide +kernel
theorem dX9_lock_23 : decode cX9_lock 23 = .ok (.invokevirtual 58, 3) := by decide +kernel
theorem dX9_lock_26 : decode cX9_lock 26 = .ok (.bipush (-5), 2) := by decide +kernel
theorem dX9_lock_28 : decode cX9_lock 28 = .ok (.if_icmp .ne 8, 3) := by decide +kernel
theorem dX9_lock_31 : decode cX9_lock 31 = .ok (.bipush (-5), 2) := by decide +kernel
theorem dX9_lock_33 : decode cX9_lock 33 = .ok (.goto 7, 3) := by decide +kernel
theorem dX9_lock_36 : decode cX9_lock 36 = .ok (.aload_n 0, 1) := by decide +kernel
theorem dX9_lock_37 : decode cX9_lock 37 = .ok (.invokevirtual 61, 3) := by decide +kernel
theorem dX9_lock_40 : decode cX9_lock 40 = .ok (.ireturn, 1) := by decide +kernel
theorem dX9_show_0 : decode cX9_show 0 = .ok (.iload_n 1, 1) := by decide +kernel
theorem dX9_show_1 : decode cX9_show 1 = .ok (.invokestatic 65, 3) := by decide +kernel
theorem dX9_show_4 : decode cX9_show 4 = .ok (.ifCond .eq 22, 3) := by decide +kernel
theorem dX9_show_7 : decode cX9_show 7 = .ok (.iload_n 2, 1) := by decide +kernel
theorem dX9_show_8 : decode cX9_show 8 = .ok (.invokestatic 51, 3) := by decide +kernel
theorem dX9_show_11 : decode cX9_show 11 = .ok (.ifCond .eq 15, 3) := by decide +kernel
theorem dX9_show_14 : decode cX9_show 14 = .ok (.aload_n 0, 1) := by decide +kernel
theorem dX9_show_15 : decode cX9_show 15 = .ok (.bipush 100, 2) := by decide +kernel
theorem dX9_show_17 : decode cX9_show 17 = .ok (.iload_n 1, 1) := by decide +kernel
theorem dX9_show_18 : decode cX9_show 18 = .ok (.iadd, 1) := by decide +kernel
theorem dX9_show_19 : decode cX9_show 19 = .ok (.iload_n 2, 1) := by decide +kernel
theorem dX9_show_20 : decode cX9_show 20 = .ok (.invokevirtual 58, 3) := by decide +kernel
theorem dX9_show_23 : decode cX9_show 23 = .ok (.goto 4, 3) := by decide +kernel
theorem dX9_show_26 : decode cX9_show 26 = .ok (.iconst (-1), 1) := by decide +kernel
theorem dX9_show_27 : decode cX9_show 27 = .ok (.ireturn, 1) := by decide +kernel
theorem dX9_copyBank_0 : decode cX9_copyBank 0 = .ok (.iload_n 1, 1) := by decide +kernel
theorem dX9_copyBank_1 : decode cX9_copyBank 1 = .ok (.invokestatic 51, 3) := by decide +kernel
theorem dX9_copyBank_4 : decode cX9_copyBank 4 = .ok (.ifCond .eq 10, 3) := by decide +kernel
theorem dX9_copyBank_7 : decode cX9_copyBank 7 = .ok (.iload_n 2, 1) := by decide +kernel
theorem dX9_copyBank_8 : decode cX9_copyBank 8 = .ok (.invokestatic 51, 3) := by decide +kernel
theorem dX9_copyBank_11 : decode cX9_copyBank 11 = .ok (.ifCond .ne 5, 3) := by decide +kernel
theorem dX9_copyBank_14 : decode cX9_copyBank 14 = .ok (.iconst (-1), 1) := by decide +kernel
theorem dX9_copyBank_15 : decode cX9_copyBank 15 = .ok (.ireturn, 1) := by decide +kernel
theorem dX9_copyBank_16 : decode cX9_copyBank 16 = .ok (.iconst 0, 1) := by decide +kernel
theorem dX9_copyBank_17 : decode cX9_copyBank 17 = .ok (.istore_n 3, 1) := by decide +kernel
theorem dX9_copyBank_18 : decode cX9_copyBank 18 = .ok (.iconst 0, 1) := by decide +kernel
theorem dX9_copyBank_19 : decode cX9_copyBank 19 = .ok (.istore 4, 2) := by decide +kernel
theorem dX9_copyBank_21 : decode cX9_copyBank 21 = .ok (.iload 4, 2) := by decide +kernel
theorem dX9_copyBank_23 : decode cX9_copyBank 23 = .ok (.bipush 12, 2) := by decide +kernel
theorem dX9_copyBank_25 : decode cX9_copyBank 25 = .ok (.if_icmp .ge 42, 3) := by decide +kernel
theorem dX9_copyBank_28 : decode cX9_copyBank 28 = .ok (.iload_n 3, 1) := by decide +kernel
theorem dX9_copyBank_29 : decode cX9_copyBank 29 = .ok (.aload_n 0, 1) := by decide +kernel
theorem dX9_copyBank_30 : decode cX9_copyBank 30 = .ok (.getfield 7, 3) := by decide +kernel
theorem dX9_copyBank_33 : decode cX9_copyBank 33 = .ok (.iload_n 1, 1) := by decide +kernel
theorem dX9_copyBank_34 : decode cX9_copyBank 34 = .ok (.iload 4, 2) := by decide +kernel
theorem dX9_copyBank_36 : decode cX9_copyBank 36 = .ok (.invokestatic 36, 3) := by decide +kernel
theorem dX9_copyBank_39 : decode cX9_copyBank 39 = .ok (.iaload, 1) := by decide +kernel
theorem dX9_copyBank_40 : decode cX9_copyBank 40 = .ok (.aload_n 0, 1) := by decide +kernel
theorem dX9_copyBank_41 : decode cX9_copyBank 41 = .ok (.getfield 7, 3) := by decide +kernel
theorem dX9_copyBank_44 : decode cX9_copyBank 44 = .ok (.iload_n 2, 1) := by decide +kernel
theorem dX9_copyBank_45 : decode cX9_copyBank 45 = .ok (.iload 4, 2) := by decide +kernel
theorem dX9_copyBank_47 : decode cX9_copyBank 47 = .ok (.invokestatic 36, 3) := by decide +kernel
theorem dX9_copyBank_50 : decode cX9_copyBank 50 = .ok (.iaload, 1) := by decide +kernel
theorem dX9_copyBank_51 : decode cX9_copyBank 51 = .ok (.if_icmp .eq 7, 3) := by decide +kernel
theorem dX9_copyBank_54 : decode cX9_copyBank 54 = .ok (.iconst 1, 1) := by decide +kernel
theorem dX9_copyBank_55 : decode cX9_copyBank 55 = .ok (.goto 4, 3) := by decide +kernel
theorem dX9_copyBank_58 : decode cX9_copyBank 58 = .ok (.iconst 0, 1) := by decide +kernel
theorem dX9_copyBank_59 : decode cX9_copyBank 59 = .ok (.iadd, 1) := by decide +kernel
theorem dX9_copyBank_60 : decode cX9_copyBank 60 = .ok (.istore_n 3, 1) := by decide +kernel
theorem dX9_copyBank_61 : decode cX9_copyBank 61 = .ok (.iinc 4 1, 3) := by decide +kernel
theorem dX9_copyBank_64 : decode cX9_copyBank 64 = .ok (.goto (-43), 3) := by decide +kernel
theorem dX9_copyBank_67 : decode cX9_copyBank 67 = .ok (.iload_n 3, 1) := by decide +kernel
theorem dX9_copyBank_68 : decode cX9_copyBank 68 = .ok (.ifCond .ne 6, 3) := by decide +kernel
theorem dX9_copyBank_71 : decode cX9_copyBank 71 = .ok (.bipush (-5), 2) := by decide +kernel
theorem dX9_copyBank_73 : decode cX9_copyBank 73 = .ok (.ireturn, 1) := by decide +kernel
theorem dX9_copyBank_74 : decode cX9_copyBank 74 = .ok (.aload_n 0, 1) := by decide +kernel
theorem dX9_copyBank_75 : decode cX9_copyBank 75 = .ok (.invokevirtual 48, 3) := by decide +kernel
theorem dX9_copyBank_78 : decode cX9_copyBank 78 = .ok (.iconst 0, 1) := by decide +kernel
theorem dX9_copyBank_79 : decode cX9_copyBank 79 = .ok (.istore 4, 2) := by decide +kernel
theorem dX9_copyBank_81 : decode cX9_copyBank 81 = .ok (.iload 4, 2) := by decide +kernel
theorem dX9_copyBank_83 : decode cX9_copyBank 83 = .ok (.bipush 12, 2) := by decide +kernel
theorem dX9_copyBank_85 : decode cX9_copyBank 85 = .ok (.if_icmp .ge 31, 3) := by decide +kernel
theorem dX9_copyBank_88 : decode cX9_copyBank 88 = .ok (.aload_n 0, 1) := by decide +kernel
theorem dX9_copyBank_89 : decode cX9_copyBank 89 = .ok (.getfield 7, 3) := by decide +kernel
theorem dX9_copyBank_92 : decode cX9_copyBank 92 = .ok (.iload_n 2, 1) := by decide +kernel
theorem dX9_copyBank_93 : decode cX9_copyBank 93 = .ok (.iload 4, 2) := by decide +kernel
theorem dX9_copyBank_95 : decode cX9_copyBank 95 = .ok (.invokestatic 36, 3) := by decide +kernel
theorem dX9_copyBank_98 : decode cX9_copyBank 98 = .ok (.aload_n 0, 1) := by decide +kernel
theorem dX9_copyBank_99 : decode cX9_copyBank 99 = .ok (.getfield 7, 3) := by decide +kernel
theorem dX9_copyBank_102 : decode cX9_copyBank 102 = .ok (.iload_n 1, 1) := by decide +kernel
theorem dX9_copyBank_103 : decode cX9_copyBank 103 = .ok (.iload 4, 2) := by decide +kernel
theorem dX9_copyBank_105 : decode cX9_copyBank 105 = .ok (.invokestatic 36, 3) := by decide +kernel
theorem dX9_copyBank_108 : decode cX9_copyBank 108 = .ok (.iaload, 1) := by decide +kernel
theorem dX9_copyBank_109 : decode cX9_copyBank 109 = .ok (.iastore, 1) := by decide +kernel
theorem dX9_copyBank_110 : decode cX9_copyBank 110 = .ok (.iinc 4 1, 3) := by decide +kernel
theorem dX9_copyBank_113 : decode cX9_copyBank 113 = .ok (.goto (-32), 3) := by decide +kernel
theorem dX9_copyBank_116 : decode cX9_copyBank 116 = .ok (.iload_n 3, 1) := by decide +kernel
theorem dX9_copyBank_117 : decode cX9_copyBank 117 = .ok (.ireturn, 1) := by decide +kernel
theorem dX9_set_0 : decode cX9_set 0 = .ok (.iload_n 1, 1) := by decide +kernel
theorem dX9_set_1 : decode cX9_set 1 = .ok (.iconst 0, 1) := by decide +kernel
theorem dX9_set_2 : decode cX9_set 2 = .ok (.iconst 1, 1) := by decide +kernel
theorem dX9_set_3 : decode cX9_set 3 = .ok (.invokestatic 28, 3) := by decide +kernel
theorem dX9_set_6 : decode cX9_set 6 = .ok (.ifCond .eq 13, 3) := by decide +kernel
theorem dX9_set_9 : decode cX9_set 9 = .ok (.aload_n 0, 1) := by decide +kernel
theorem dX9_set_10 : decode cX9_set 10 = .ok (.bipush 112, 2) := by decide +kernel
theorem dX9_set_12 : decode cX9_set 12 = .ok (.iload_n 1, 1) := by decide +kernel
theorem dX9_set_13 : decode cX9_set 13 = .ok (.invokevirtual 58, 3) := by decide +kernel
theorem dX9_set_16 : decode cX9_set 16 = .ok (.goto 5, 3) := by decide +kernel
theorem dX9_set_19 : decode cX9_set 19 = .ok (.bipush (-2), 2) := by decide +kernel
theorem dX9_set_21 : decode cX9_set 21 = .ok (.ireturn, 1) := by decide +kernel
theorem dX9_begin_0 : decode cX9_begin 0 = .ok (.iload_n 1, 1) := by decide +kernel
theorem dX9_begin_1 : decode cX9_begin 1 = .ok (.invokestatic 68, 3) := by decide +kernel
theorem dX9_begin_4 : decode cX9_begin 4 = .ok (.ifCond .ne 5, 3) := by decide +kernel
theorem dX9_begin_7 : decode cX9_begin 7 = .ok (.iconst (-1), 1) := by decide +kernel
theorem dX9_begin_8 : decode cX9_begin 8 = .ok (.ireturn, 1) := by decide +kernel
theorem dX9_begin_9 : decode cX9_begin 9 = .ok (.aload_n 0, 1) := by decide +kernel
theorem dX9_begin_10 : decode cX9_begin 10 = .ok (.invokevirtual 48, 3) := by decide +kernel
theorem dX9_begin_13 : decode cX9_begin 13 = .ok (.aload_n 0, 1) := by decide +kernel
theorem dX9_begin_14 : decode cX9_begin 14 = .ok (.getfield 7, 3) := by decide +kernel
theorem dX9_begin_17 : decode cX9_begin 17 = .ok (.bipush 114, 2) := by decide +kernel
theorem dX9_begin_19 : decode cX9_begin 19 = .ok (.iaload, 1) := by decide +kernel
theorem dX9_begin_20 : decode cX9_begin 20 = .ok (.istore_n 2, 1) := by decide +kernel
theorem dX9_begin_21 : decode cX9_begin 21 = .ok (.aload_n 0, 1) := by decide +kernel
theorem dX9_begin_22 : decode cX9_begin 22 = .ok (.getfield 7, 3) := by decide +kernel
theorem dX9_begin_25 : decode cX9_begin 25 = .ok (.bipush 114, 2) := by decide +kernel
theorem dX9_begin_27 : decode cX9_begin 27 = .ok (.iload_n 1, 1) := by decide +kernel
theorem dX9_begin_28 : decode cX9_begin 28 = .ok (.iastore, 1) := by decide +kernel
theorem dX9_begin_29 : decode cX9_begin 29 = .ok (.aload_n 0, 1) := by decide +kernel
theorem dX9_begin_30 : decode cX9_begin 30 = .ok (.getfield 7, 3) := by decide +kernel
theorem dX9_begin_33 : decode cX9_begin 33 = .ok (.bipush 113, 2) := by decide +kernel
theorem dX9_begin_35 : decode cX9_begin 35 = .ok (.iconst 0, 1) := by decide +kernel
theorem dX9_begin_36 : decode cX9_begin 36 = .ok (.iastore, 1) := by decide +kernel
theorem dX9_begin_37 : decode cX9_begin 37 = .ok (.aload_n 0, 1) := by decide +kernel
theorem dX9_begin_38 : decode cX9_begin 38 = .ok (.getfield 7, 3) := by decide +kernel
theorem dX9_begin_41 : decode cX9_begin 41 = .ok (.bipush 115, 2) := by decide +kernel
theorem dX9_begin_43 : decode cX9_begin 43 = .ok (.iconst 0, 1) := by decide +kernel
theorem dX9_begin_44 : decode cX9_begin 44 = .ok (.iastore, 1) := by decide +kernel
theorem dX9_begin_45 : decode cX9_begin 45 = .ok (.aload_n 0, 1) := by decide +kernel
theorem dX9_begin_46 : decode cX9_begin 46 = .ok (.getfield 7, 3) := by decide +kernel
theorem dX9_begin_49 : decode cX9_begin 49 = .ok (.bipush 116, 2) := by decide +kernel
theorem dX9_begin_51 : decode cX9_begin 51 = .ok (.iconst 0, 1) := by decide +kernel
theorem dX9_begin_52 : decode cX9_begin 52 = .ok (.iastore, 1) := by decide +kernel
theorem dX9_begin_53 : decode cX9_begin 53 = .ok (.iload_n 2, 1) := by decide +kernel
theorem dX9_begin_54 : decode cX9_begin 54 = .ok (.ireturn, 1) := by decide +kernel
theorem dX9_sum_0 : decode cX9_sum 0 = .ok (.iload_n 0, 1) := by decide +kernel
theorem dX9_sum_1 : decode cX9_sum 1 = .ok (.iload_n 1, 1) := by decide +kernel
theorem dX9_sum_2 : decode cX9_sum 2 = .ok (.iadd, 1) := by decide +kernel
theorem dX9_sum_3 : decode cX9_sum 3 = .ok (.sipush 999, 3) := by decide +kernel
theorem dX9_sum_6 : decode cX9_sum 6 = .ok (.if_icmp .le 13, 3) := by decide +kernel
theorem dX9_sum_9 : decode cX9_sum 9 = .ok (.iload_n 0, 1) := by decide +kernel
theorem dX9_sum_10 : decode cX9_sum 10 = .ok (.iload_n 1, 1) := by decide +kernel
theorem dX9_sum_11 : decode cX9_sum 11 = .ok (.iadd, 1) := by decide +kernel
theorem dX9_sum_12 : decode cX9_sum 12 = .ok (.sipush 1000, 3) := by decide +kernel
theorem dX9_sum_15 : decode cX9_sum 15 = .ok (.isub, 1) := by decide +kernel
theorem dX9_sum_16 : decode cX9_sum 16 = .ok (.goto 6, 3) := by decide +kernel
theorem dX9_sum_19 : decode cX9_sum 19 = .ok (.iload_n 0, 1) := by decide +kernel
theorem dX9_sum_20 : decode cX9_sum 20 = .ok (.iload_n 1, 1) := by decide +kernel
theorem dX9_sum_21 : decode cX9_sum 21 = .ok (.iadd, 1) := by decide +kernel
theorem dX9_sum_22 : decode cX9_sum 22 = .ok (.ireturn, 1) := by decide +kernel
theorem dX9_whyNot_0 : decode cX9_whyNot 0 = .ok (.iload_n 1, 1) := by decide +kernel
theorem dX9_whyNot_1 : decode cX9_whyNot 1 = .ok (.iconst 2, 1) := by decide +kernel
theorem dX9_whyNot_2 : decode cX9_whyNot 2 = .ok (.iconst 5, 1) := by decide +kernel
theorem dX9_whyNot_3 : decode cX9_whyNot 3 = .ok (.invokestatic 28, 3) := by decide +kernel
theorem dX9_whyNot_6 : decode cX9_whyNot 6 = .ok (.ifCond .eq 14, 3) := by decide +kernel
theorem dX9_whyNot_9 : decode cX9_whyNot 9 = .ok (.iload_n 2, 1) := by decide +kernel
theorem dX9_whyNot_10 : decode cX9_whyNot 10 = .ok (.invokestatic 68, 3) := by decide +kernel
theorem dX9_whyNot_13 : decode cX9_whyNot 13 = .ok (.ifCond .ne 7, 3) := by decide +kernel
theorem dX9_whyNot_16 : decode cX9_whyNot 16 = .ok (.iconst 1, 1) := by decide +kernel
theorem dX9_whyNot_17 : decode cX9_whyNot 17 = .ok (.goto 4, 3) := by decide +kernel
theorem dX9_whyNot_20 : decode cX9_whyNot 20 = .ok (.iconst 0, 1) := by decide +kernel
theorem dX9_whyNot_21 : decode cX9_whyNot 21 = .ok (.istore_n 3, 1) := by decide +kernel
theorem dX9_whyNot_22 : decode cX9_whyNot 22 = .ok (.iload_n 3, 1) := by decide +kernel
theorem dX9_whyNot_23 : decode cX9_whyNot 23 = .ok (.ifCond .ne 45, 3) := by decide +kernel
theorem dX9_whyNot_26 : decode cX9_whyNot 26 = .ok (.iload_n 1, 1) := by decide +kernel
theorem dX9_whyNot_27 : decode cX9_whyNot 27 = .ok (.bipush 6, 2) := by decide +kernel
theorem dX9_whyNot_29 : decode cX9_whyNot 29 = .ok (.if_icmp .ne 23, 3) := by decide +kernel
theorem dX9_whyNot_32 : decode cX9_whyNot 32 = .ok (.iload_n 2, 1) := by decide +kernel
theorem dX9_whyNot_33 : decode cX9_whyNot 33 = .ok (.bipush 10, 2) := by decide +kernel
theorem dX9_whyNot_35 : decode cX9_whyNot 35 = .ok (.idiv, 1) := by decide +kernel
theorem dX9_whyNot_36 : decode cX9_whyNot 36 = .ok (.invokestatic 65, 3) := by decide +kernel
theorem dX9_whyNot_39 : decode cX9_whyNot 39 = .ok (.ifCond .eq 29, 3) := by decide +kernel
theorem dX9_whyNot_42 : decode cX9_whyNot 42 = .ok (.iload_n 2, 1) := by decide +kernel
theorem dX9_whyNot_43 : decode cX9_whyNot 43 = .ok (.bipush 10, 2) := by decide +kernel
theorem dX9_whyNot_45 : decode cX9_whyNot 45 = .ok (.irem, 1) := by decide +kernel
theorem dX9_whyNot_46 : decode cX9_whyNot 46 = .ok (.invokestatic 51, 3) := by decide +kernel
theorem dX9_whyNot_49 : decode cX9_whyNot 49 = .ok (.ifCond .eq 19, 3) := by decide +kernel
theorem dX9_whyNot_52 : decode cX9_whyNot 52 = .ok (.iload_n 1, 1) := by decide +kernel
theorem dX9_whyNot_53 : decode cX9_whyNot 53 = .ok (.bipush 7, 2) := by decide +kernel
theorem dX9_whyNot_55 : decode cX9_whyNot 55 = .ok (.if_icmp .ne 17, 3) := by decide +kernel
theorem dX9_whyNot_58 : decode cX9_whyNot 58 = .ok (.iload_n 2, 1) := by decide +kernel
theorem dX9_whyNot_59 : decode cX9_whyNot 59 = .ok (.bipush 10, 2) := by decide +kernel
theorem dX9_whyNot_61 : decode cX9_whyNot 61 = .ok (.idiv, 1) := by decide +kernel
theorem dX9_whyNot_62 : decode cX9_whyNot 62 = .ok (.invokestatic 51, 3) := by decide +kernel
theorem dX9_whyNot_65 : decode cX9_whyNot 65 = .ok (.ifCond .ne 7, 3) := by decide +kernel
theorem dX9_whyNot_68 : decode cX9_whyNot 68 = .ok (.iconst 1, 1) := by decide +kernel
theorem dX9_whyNot_69 : decode cX9_whyNot 69 = .ok (.goto 4, 3) := by decide +kernel
theorem dX9_whyNot_72 : decode cX9_whyNot 72 = .ok (.iconst 0, 1) := by decide +kernel
theorem dX9_whyNot_73 : decode cX9_whyNot 73 = .ok (.istore_n 3, 1) := by decide +kernel
theorem dX9_whyNot_74 : decode cX9_whyNot 74 = .ok (.iload_n 3, 1) := by decide +kernel
theorem dX9_whyNot_75 : decode cX9_whyNot 75 = .ok (.ifCond .eq 5, 3) := by decide +kernel
theorem dX9_whyNot_78 : decode cX9_whyNot 78 = .ok (.iconst 3, 1) := by decide +kernel
theorem dX9_whyNot_79 : decode cX9_whyNot 79 = .ok (.ireturn, 1) := by decide +kernel
theorem dX9_whyNot_80 : decode cX9_whyNot 80 = .ok (.iload_n 1, 1) := by decide +kernel
theorem dX9_whyNot_81 : decode cX9_whyNot 81 = .ok (.bipush 7, 2) := by decide +kernel
theorem dX9_whyNot_83 : decode cX9_whyNot 83 = .ok (.if_icmp .ne 19, 3) := by decide +kernel
theorem dX9_whyNot_86 : decode cX9_whyNot 86 = .ok (.aload_n 0, 1) := by decide +kernel
theorem dX9_whyNot_87 : decode cX9_whyNot 87 = .ok (.getfield 7, 3) := by decide +kernel
theorem dX9_whyNot_90 : decode cX9_whyNot 90 = .ok (.bipush 116, 2) := by decide +kernel
theorem dX9_whyNot_92 : decode cX9_whyNot 92 = .ok (.iaload, 1) := by decide +kernel
theorem dX9_whyNot_93 : decode cX9_whyNot 93 = .ok (.bipush 8, 2) := by decide +kernel
theorem dX9_whyNot_95 : decode cX9_whyNot 95 = .ok (.if_icmp .ne 7, 3) := by decide +kernel
theorem dX9_whyNot_98 : decode cX9_whyNot 98 = .ok (.iconst 4, 1) := by decide +kernel
theorem dX9_whyNot_99 : decode cX9_whyNot 99 = .ok (.goto 24, 3) := by decide +kernel
theorem dX9_whyNot_102 : decode cX9_whyNot 102 = .ok (.iload_n 1, 1) := by decide +kernel
theorem dX9_whyNot_103 : decode cX9_whyNot 103 = .ok (.bipush 8, 2) := by decide +kernel
theorem dX9_whyNot_105 : decode cX9_whyNot 105 = .ok (.if_icmp .ne 17, 3) := by decide +kernel
theorem dX9_whyNot_108 : decode cX9_whyNot 108 = .ok (.aload_n 0, 1) := by decide +kernel
theorem dX9_whyNot_109 : decode cX9_whyNot 109 = .ok (.getfield 7, 3) := by decide +kernel
theorem dX9_whyNot_112 : decode cX9_whyNot 112 = .ok (.bipush 116, 2) := by decide +kernel
theorem dX9_whyNot_114 : decode cX9_whyNot 114 = .ok (.iaload, 1) := by decide +kernel
theorem dX9_whyNot_115 : decode cX9_whyNot 115 = .ok (.ifCond .ne 7, 3) := by decide +kernel
theorem dX9_whyNot_118 : decode cX9_whyNot 118 = .ok (.iconst 5, 1) := by decide +kernel
theorem dX9_whyNot_119 : decode cX9_whyNot 119 = .ok (.goto 4, 3) := by decide +kernel
theorem dX9_whyNot_122 : decode cX9_whyNot 122 = .ok (.iconst 0, 1) := by decide +kernel
theorem dX9_whyNot_123 : decode cX9_whyNot 123 = .ok (.ireturn, 1) := by decide +kernel
theorem dX9_write_0 : decode cX9_write 0 = .ok (.aload_n 0, 1) := by decide +kernel
theorem dX9_write_1 : decode cX9_write 1 = .ok (.iload_n 1, 1) := by decide +kernel
theorem dX9_write_2 : decode cX9_write 2 = .ok (.invokevirtual 32, 3) := by decide +kernel
theorem dX9_write_5 : decode cX9_write 5 = .ok (.istore_n 2, 1) := by decide +kernel
theorem dX9_write_6 : decode cX9_write 6 = .ok (.aload_n 0, 1) := by decide +kernel
theorem dX9_write_7 : decode cX9_write 7 = .ok (.getfield 7, 3) := by decide +kernel
theorem dX9_write_10 : decode cX9_write 10 = .ok (.bipush 104, 2) := by decide +kernel
theorem dX9_write_12 : decode cX9_write 12 = .ok (.iload_n 2, 1) := by decide +kernel
theorem dX9_write_13 : decode cX9_write 13 = .ok (.iadd, 1) := by decide +kernel
theorem dX9_write_14 : decode cX9_write 14 = .ok (.iaload, 1) := by decide +kernel
theorem dX9_write_15 : decode cX9_write 15 = .ok (.iconst 1, 1) := by decide +kernel
theorem dX9_write_16 : decode cX9_write 16 = .ok (.if_icmp .ne 55, 3) := by decide +kernel
theorem dX9_write_19 : decode cX9_write 19 = .ok (.aload_n 0, 1) := by decide +kernel
theorem dX9_write_20 : decode cX9_write 20 = .ok (.getfield 7, 3) := by decide +kernel
theorem dX9_write_23 : decode cX9_write 23 = .ok (.sipush 181, 3) := by decide +kernel
theorem dX9_write_26 : decode cX9_write 26 = .ok (.dup2, 1) := by decide +kernel
theorem dX9_write_27 : decode cX9_write 27 = .ok (.iaload, 1) := by decide +kernel
theorem dX9_write_28 : decode cX9_write 28 = .ok (.iconst 1, 1) := by decide +kernel
theorem dX9_write_29 : decode cX9_write 29 = .ok (.iadd, 1) := by decide +kernel
theorem dX9_write_30 : decode cX9_write 30 = .ok (.iastore, 1) := by decide +kernel
theorem dX9_write_31 : decode cX9_write 31 = .ok (.aload_n 0, 1) := by decide +kernel
theorem dX9_write_32 : decode cX9_write 32 = .ok (.getfield 7, 3) := by decide +kernel
theorem dX9_write_35 : decode cX9_write 35 = .ok (.sipush 190, 3) := by decide +kernel
theorem dX9_write_38 : decode cX9_write 38 = .ok (.iload_n 2, 1) := by decide +kernel
theorem dX9_write_39 : decode cX9_write 39 = .ok (.iadd, 1) := by decide +kernel
theorem dX9_write_40 : decode cX9_write 40 = .ok (.dup2, 1) := by decide +kernel
theorem dX9_write_41 : decode cX9_write 41 = .ok (.iaload, 1) := by decide +kernel
theorem dX9_write_42 : decode cX9_write 42 = .ok (.iconst 1, 1) := by decide +kernel
theorem dX9_write_43 : decode cX9_write 43 = .ok (.iadd, 1) := by decide +kernel
theorem dX9_write_44 : decode cX9_write 44 = .ok (.iastore, 1) := by decide +kernel
theorem dX9_write_45 : decode cX9_write 45 = .ok (.aload_n 0, 1) := by decide +kernel
theorem dX9_write_46 : decode cX9_write 46 = .ok (.getfield 7, 3) := by decide +kernel
theorem dX9_write_49 : decode cX9_write 49 = .ok (.bipush 115, 2) := by decide +kernel
theorem dX9_write_51 : decode cX9_write 51 = .ok (.aload_n 0, 1) := by decide +kernel
theorem dX9_write_52 : decode cX9_write 52 = .ok (.getfield 7, 3) := by decide +kernel
theorem dX9_write_55 : decode cX9_write 55 = .ok (.bipush 112, 2) := by decide +kernel
theorem dX9_write_57 : decode cX9_write 57 = .ok (.iaload, 1) := by decide +kernel
theorem dX9_write_58 : decode cX9_write 58 = .ok (.iconst 1, 1) := by decide +kernel
theorem dX9_write_59 : decode cX9_write 59 = .ok (.if_icmp .ne 7, 3) := by decide +kernel
theorem dX9_write_62 : decode cX9_write 62 = .ok (.iconst 2, 1) := by decide +kernel
theorem dX9_write_63 : decode cX9_write 63 = .ok (.goto 4, 3) := by decide +kernel
theorem dX9_write_66 : decode cX9_write 66 = .ok (.iconst 0, 1) := by decide +kernel
theorem dX9_write_67 : decode cX9_write 67 = .ok (.iastore, 1) := by decide +kernel
theorem dX9_write_68 : decode cX9_write 68 = .ok (.goto 46, 3) := by decide +kernel
theorem dX9_write_71 : decode cX9_write 71 = .ok (.aload_n 0, 1) := by decide +kernel
theorem dX9_write_72 : decode cX9_write 72 = .ok (.getfield 7, 3) := by decide +kernel
theorem dX9_write_75 : decode cX9_write 75 = .ok (.aload_n 0, 1) := by decide +kernel
theorem dX9_write_76 : decode cX9_write 76 = .ok (.iload_n 1, 1) := by decide +kernel
theorem dX9_write_77 : decode cX9_write 77 = .ok (.invokevirtual 71, 3) := by decide +kernel
theorem dX9_write_80 : decode cX9_write 80 = .ok (.aload_n 0, 1) := by decide +kernel
theorem dX9_write_81 : decode cX9_write 81 = .ok (.getfield 7, 3) := by decide +kernel
theorem dX9_write_84 : decode cX9_write 84 = .ok (.bipush 113, 2) := by decide +kernel
theorem dX9_write_86 : decode cX9_write 86 = .ok (.iaload, 1) := by decide +kernel
theorem dX9_write_87 : decode cX9_write 87 = .ok (.iastore, 1) := by decide +kernel
theorem dX9_write_88 : decode cX9_write 88 = .ok (.aload_n 0, 1) := by decide +kernel
theorem dX9_write_89 : decode cX9_write 89 = .ok (.getfield 7, 3) := by decide +kernel
theorem dX9_write_92 : decode cX9_write 92 = .ok (.sipush 180, 3) := by decide +kernel
theorem dX9_write_95 : decode cX9_write 95 = .ok (.dup2, 1) := by decide +kernel
theorem dX9_write_96 : decode cX9_write 96 = .ok (.iaload, 1) := by decide +kernel
theorem dX9_write_97 : decode cX9_write 97 = .ok (.iconst 1, 1) := by decide +kernel
theorem dX9_write_98 : decode cX9_write 98 = .ok (.iadd, 1) := by decide +kernel
theorem dX9_write_99 : decode cX9_write 99 = .ok (.iastore, 1) := by decide +kernel
theorem dX9_write_100 : decode cX9_write 100 = .ok (.aload_n 0, 1) := by decide +kernel
theorem dX9_write_101 : decode cX9_write 101 = .ok (.getfield 7, 3) := by decide +kernel
theorem dX9_write_104 : decode cX9_write 104 = .ok (.sipush 182, 3) := by decide +kernel
theorem dX9_write_107 : decode cX9_write 107 = .ok (.iload_n 2, 1) := by decide +kernel
theorem dX9_write_108 : decode cX9_write 108 = .ok (.iadd, 1) := by decide +kernel
theorem dX9_write_109 : decode cX9_write 109 = .ok (.dup2, 1) := by decide +kernel
theorem dX9_write_110 : decode cX9_write 110 = .ok (.iaload, 1) := by decide +kernel
theorem dX9_write_111 : decode cX9_write 111 = .ok (.iconst 1, 1) := by decide +kernel
theorem dX9_write_112 : decode cX9_write 112 = .ok (.iadd, 1) := by decide +kernel
theorem dX9_write_113 : decode cX9_write 113 = .ok (.iastore, 1) := by decide +kernel
theorem dX9_write_114 : decode cX9_write 114 = .ok (.return_, 1) := by decide +kernel
theorem dX9_call_0 : decode cX9_call 0 = .ok (.bipush 117, 2) := by decide +kernel
theorem dX9_call_2 : decode cX9_call 2 = .ok (.iconst 3, 1) := by decide +kernel
theorem dX9_call_3 : decode cX9_call 3 = .ok (.aload_n 0, 1) := by decide +kernel
theorem dX9_call_4 : decode cX9_call 4 = .ok (.getfield 7, 3) := by decide +kernel
theorem dX9_call_7 : decode cX9_call 7 = .ok (.bipush 116, 2) := by decide +kernel
theorem dX9_call_9 : decode cX9_call 9 = .ok (.iaload, 1) := by decide +kernel
theorem dX9_call_10 : decode cX9_call 10 = .ok (.imul, 1) := by decide +kernel
theorem dX9_call_11 : decode cX9_call 11 = .ok (.iadd, 1) := by decide +kernel
theorem dX9_call_12 : decode cX9_call 12 = .ok (.istore_n 3, 1) := by decide +kernel
theorem dX9_call_13 : decode cX9_call 13 = .ok (.aload_n 0, 1) := by decide +kernel
theorem dX9_call_14 : decode cX9_call 14 = .ok (.getfield 7, 3) := by decide +kernel
theorem dX9_call_17 : decode cX9_call 17 = .ok (.iload_n 3, 1) := by decide +kernel
theorem dX9_call_18 : decode cX9_call 18 = .ok (.iload_n 1, 1) := by decide +kernel
theorem dX9_call_19 : decode cX9_call 19 = .ok (.iastore, 1) := by decide +kernel
theorem dX9_call_20 : decode cX9_call 20 = .ok (.aload_n 0, 1) := by decide +kernel
theorem dX9_call_21 : decode cX9_call 21 = .ok (.getfield 7, 3) := by decide +kernel
theorem dX9_call_24 : decode cX9_call 24 = .ok (.iload_n 3, 1) := by decide +kernel
theorem dX9_call_25 : decode cX9_call 25 = .ok (.iconst 1, 1) := by decide +kernel
theorem dX9_call_26 : decode cX9_call 26 = .ok (.iadd, 1) := by decide +kernel
theorem dX9_call_27 : decode cX9_call 27 = .ok (.aload_n 0, 1) := by decide +kernel
theorem dX9_call_28 : decode cX9_call 28 = .ok (.getfield 7, 3) := by decide +kernel
theorem dX9_call_31 : decode cX9_call 31 = .ok (.bipush 100, 2) := by decide +kernel
theorem dX9_call_33 : decode cX9_call 33 = .ok (.iload_n 1, 1) := by decide +kernel
theorem dX9_call_34 : decode cX9_call 34 = .ok (.iadd, 1) := by decide +kernel
theorem dX9_call_35 : decode cX9_call 35 = .ok (.iaload, 1) := by decide +kernel
theorem dX9_call_36 : decode cX9_call 36 = .ok (.iastore, 1) := by decide +kernel
theorem dX9_call_37 : decode cX9_call 37 = .ok (.aload_n 0, 1) := by decide +kernel
theorem dX9_call_38 : decode cX9_call 38 = .ok (.getfield 7, 3) := by decide +kernel
theorem dX9_call_41 : decode cX9_call 41 = .ok (.iload_n 3, 1) := by decide +kernel
theorem dX9_call_42 : decode cX9_call 42 = .ok (.iconst 2, 1) := by decide +kernel
theorem dX9_call_43 : decode cX9_call 43 = .ok (.iadd, 1) := by decide +kernel
theorem dX9_call_44 : decode cX9_call 44 = .ok (.aload_n 0, 1) := by decide +kernel
theorem dX9_call_45 : decode cX9_call 45 = .ok (.getfield 7, 3) := by decide +kernel
theorem dX9_call_48 : decode cX9_call 48 = .ok (.bipush 114, 2) := by decide +kernel
theorem dX9_call_50 : decode cX9_call 50 = .ok (.iaload, 1) := by decide +kernel
theorem dX9_call_51 : decode cX9_call 51 = .ok (.iastore, 1) := by decide +kernel
theorem dX9_call_52 : decode cX9_call 52 = .ok (.aload_n 0, 1) := by decide +kernel
theorem dX9_call_53 : decode cX9_call 53 = .ok (.getfield 7, 3) := by decide +kernel
theorem dX9_call_56 : decode cX9_call 56 = .ok (.bipush 116, 2) := by decide +kernel
theorem dX9_call_58 : decode cX9_call 58 = .ok (.dup2, 1) := by decide +kernel
theorem dX9_call_59 : decode cX9_call 59 = .ok (.iaload, 1) := by decide +kernel
theorem dX9_call_60 : decode cX9_call 60 = .ok (.iconst 1, 1) := by decide +kernel
theorem dX9_call_61 : decode cX9_call 61 = .ok (.iadd, 1) := by decide +kernel
theorem dX9_call_62 : decode cX9_call 62 = .ok (.iastore, 1) := by decide +kernel
theorem dX9_call_63 : decode cX9_call 63 = .ok (.aload_n 0, 1) := by decide +kernel
theorem dX9_call_64 : decode cX9_call 64 = .ok (.getfield 7, 3) := by decide +kernel
theorem dX9_call_67 : decode cX9_call 67 = .ok (.sipush 179, 3) := by decide +kernel
theorem dX9_call_70 : decode cX9_call 70 = .ok (.dup2, 1) := by decide +kernel
theorem dX9_call_71 : decode cX9_call 71 = .ok (.iaload, 1) := by decide +kernel
theorem dX9_call_72 : decode cX9_call 72 = .ok (.iconst 1, 1) := by decide +kernel
theorem dX9_call_73 : decode cX9_call 73 = .ok (.iadd, 1) := by decide +kernel
theorem dX9_call_74 : decode cX9_call 74 = .ok (.iastore, 1) := by decide +kernel
theorem dX9_call_75 : decode cX9_call 75 = .ok (.aload_n 0, 1) := by decide +kernel
theorem dX9_call_76 : decode cX9_call 76 = .ok (.getfield 7, 3) := by decide +kernel
theorem dX9_call_79 : decode cX9_call 79 = .ok (.bipush 100, 2) := by decide +kernel
theorem dX9_call_81 : decode cX9_call 81 = .ok (.iload_n 1, 1) := by decide +kernel
theorem dX9_call_82 : decode cX9_call 82 = .ok (.iadd, 1) := by decide +kernel
theorem dX9_call_83 : decode cX9_call 83 = .ok (.iload_n 2, 1) := by decide +kernel
theorem dX9_call_84 : decode cX9_call 84 = .ok (.bipush 10, 2) := by decide +kernel
theorem dX9_call_86 : decode cX9_call 86 = .ok (.idiv, 1) := by decide +kernel
theorem dX9_call_87 : decode cX9_call 87 = .ok (.iastore, 1) := by decide +kernel
theorem dX9_call_88 : decode cX9_call 88 = .ok (.aload_n 0, 1) := by decide +kernel
theorem dX9_call_89 : decode cX9_call 89 = .ok (.getfield 7, 3) := by decide +kernel
theorem dX9_call_92 : decode cX9_call 92 = .ok (.bipush 114, 2) := by decide +kernel
theorem dX9_call_94 : decode cX9_call 94 = .ok (.bipush 16, 2) := by decide +kernel
theorem dX9_call_96 : decode cX9_call 96 = .ok (.iload_n 1, 1) := by decide +kernel
theorem dX9_call_97 : decode cX9_call 97 = .ok (.imul, 1) := by decide +kernel
theorem dX9_call_98 : decode cX9_call 98 = .ok (.iload_n 2, 1) := by decide +kernel
theorem dX9_call_99 : decode cX9_call 99 = .ok (.bipush 10, 2) := by decide +kernel
theorem dX9_call_101 : decode cX9_call 101 = .ok (.irem, 1) := by decide +kernel
theorem dX9_call_102 : decode cX9_call 102 = .ok (.iadd, 1) := by decide +kernel
theorem dX9_call_103 : decode cX9_call 103 = .ok (.iastore, 1) := by decide +kernel
theorem dX9_call_104 : decode cX9_call 104 = .ok (.return_, 1) := by decide +kernel
theorem dX9_back_0 : decode cX9_back 0 = .ok (.aload_n 0, 1) := by decide +kernel
theorem dX9_back_1 : decode cX9_back 1 = .ok (.getfield 7, 3) := by decide +kernel
theorem dX9_back_4 : decode cX9_back 4 = .ok (.bipush 116, 2) := by decide +kernel
theorem dX9_back_6 : decode cX9_back 6 = .ok (.dup2, 1) := by decide +kernel
theorem dX9_back_7 : decode cX9_back 7 = .ok (.iaload, 1) := by decide +kernel
theorem dX9_back_8 : decode cX9_back 8 = .ok (.iconst 1, 1) := by decide +kernel
theorem dX9_back_9 : decode cX9_back 9 = .ok (.isub, 1) := by decide +kernel
theorem dX9_back_10 : decode cX9_back 10 = .ok (.iastore, 1) := by decide +kernel
theorem dX9_back_11 : decode cX9_back 11 = .ok (.bipush 117, 2) := by decide +kernel
theorem dX9_back_13 : decode cX9_back 13 = .ok (.iconst 3, 1) := by decide +kernel
theorem dX9_back_14 : decode cX9_back 14 = .ok (.aload_n 0, 1) := by decide +kernel
theorem dX9_back_15 : decode cX9_back 15 = .ok (.getfield 7, 3) := by decide +kernel
theorem dX9_back_18 : decode cX9_back 18 = .ok (.bipush 116, 2) := by decide +kernel
theorem dX9_back_20 : decode cX9_back 20 = .ok (.iaload, 1) := by decide +kernel
theorem dX9_back_21 : decode cX9_back 21 = .ok (.imul, 1) := by decide +kernel
theorem dX9_back_22 : decode cX9_back 22 = .ok (.iadd, 1) := by decide +kernel
theorem dX9_back_23 : decode cX9_back 23 = .ok (.istore_n 1, 1) := by decide +kernel
theorem dX9_back_24 : decode cX9_back 24 = .ok (.aload_n 0, 1) := by decide +kernel
theorem dX9_back_25 : decode cX9_back 25 = .ok (.getfield 7, 3) := by decide +kernel
theorem dX9_back_28 : decode cX9_back 28 = .ok (.bipush 100, 2) := by decide +kernel
theorem dX9_back_30 : decode cX9_back 30 = .ok (.aload_n 0, 1) := by decide +kernel
theorem dX9_back_31 : decode cX9_back 31 = .ok (.getfield 7, 3) := by decide +kernel
theorem dX9_back_34 : decode cX9_back 34 = .ok (.iload_n 1, 1) := by decide +kernel
theorem dX9_back_35 : decode cX9_back 35 = .ok (.iaload, 1) := by decide +kernel
theorem dX9_back_36 : decode cX9_back 36 = .ok (.iadd, 1) := by decide +kernel
theorem dX9_back_37 : decode cX9_back 37 = .ok (.aload_n 0, 1) := by decide +kernel
theorem dX9_back_38 : decode cX9_back 38 = .ok (.getfield 7, 3) := by decide +kernel
theorem dX9_back_41 : decode cX9_back 41 = .ok (.iload_n 1, 1) := by decide +kernel
theorem dX9_back_42 : decode cX9_back 42 = .ok (.iconst 1, 1) := by decide +kernel
theorem dX9_back_43 : decode cX9_back 43 = .ok (.iadd, 1) := by decide +kernel
theorem dX9_back_44 : decode cX9_back 44 = .ok (.iaload, 1) := by decide +kernel
theorem dX9_back_45 : decode cX9_back 45 = .ok (.iastore, 1) := by decide +kernel
theorem dX9_back_46 : decode cX9_back 46 = .ok (.aload_n 0, 1) := by decide +kernel
theorem dX9_back_47 : decode cX9_back 47 = .ok (.getfield 7, 3) := by decide +kernel
theorem dX9_back_50 : decode cX9_back 50 = .ok (.bipush 114, 2) := by decide +kernel
theorem dX9_back_52 : decode cX9_back 52 = .ok (.aload_n 0, 1) := by decide +kernel
theorem dX9_back_53 : decode cX9_back 53 = .ok (.getfield 7, 3) := by decide +kernel
theorem dX9_back_56 : decode cX9_back 56 = .ok (.iload_n 1, 1) := by decide +kernel
theorem dX9_back_57 : decode cX9_back 57 = .ok (.iconst 2, 1) := by decide +kernel
theorem dX9_back_58 : decode cX9_back 58 = .ok (.iadd, 1) := by decide +kernel
theorem dX9_back_59 : decode cX9_back 59 = .ok (.iaload, 1) := by decide +kernel
theorem dX9_back_60 : decode cX9_back 60 = .ok (.iastore, 1) := by decide +kernel
theorem dX9_back_61 : decode cX9_back 61 = .ok (.return_, 1) := by decide +kernel
theorem dX9_order_0 : decode cX9_order 0 = .ok (.iload_n 1, 1) := by decide +kernel
theorem dX9_order_1 : decode cX9_order 1 = .ok (.tableswitch 188 0 8 #[51, 62, 73, 103, 111, 122, 153, 172, 181], 51) := by decide +kernel
theorem dX9_order_52 : decode cX9_order 52 = .ok (.aload_n 0, 1) := by decide +kernel
theorem dX9_order_53 : decode cX9_order 53 = .ok (.getfield 7, 3) := by decide +kernel
theorem dX9_order_56 : decode cX9_order 56 = .ok (.bipush 115, 2) := by decide +kernel
theorem dX9_order_58 : decode cX9_order 58 = .ok (.iconst 1, 1) := by decide +kernel
theorem dX9_order_59 : decode cX9_order 59 = .ok (.iastore, 1) := by decide +kernel
theorem dX9_order_60 : decode cX9_order 60 = .ok (.goto 147, 3) := by decide +kernel
theorem dX9_order_63 : decode cX9_order 63 = .ok (.aload_n 0, 1) := by decide +kernel
theorem dX9_order_64 : decode cX9_order 64 = .ok (.getfield 7, 3) := by decide +kernel
theorem dX9_order_67 : decode cX9_order 67 = .ok (.bipush 113, 2) := by decide +kernel
theorem dX9_order_69 : decode cX9_order 69 = .ok (.iload_n 2, 1) := by decide +kernel
theorem dX9_order_70 : decode cX9_order 70 = .ok (.iastore, 1) := by decide +kernel
theorem dX9_order_71 : decode cX9_order 71 = .ok (.goto 136, 3) := by decide +kernel
theorem dX9_order_74 : decode cX9_order 74 = .ok (.aload_n 0, 1) := by decide +kernel
theorem dX9_order_75 : decode cX9_order 75 = .ok (.getfield 7, 3) := by decide +kernel
theorem dX9_order_78 : decode cX9_order 78 = .ok (.bipush 113, 2) := by decide +kernel
theorem dX9_order_80 : decode cX9_order 80 = .ok (.aload_n 0, 1) := by decide +kernel
theorem dX9_order_81 : decode cX9_order 81 = .ok (.getfield 7, 3) := by decide +kernel
theorem dX9_order_84 : decode cX9_order 84 = .ok (.bipush 113, 2) := by decide +kernel
theorem dX9_order_86 : decode cX9_order 86 = .ok (.iaload, 1) := by decide +kernel
theorem dX9_order_87 : decode cX9_order 87 = .ok (.aload_n 0, 1) := by decide +kernel
theorem dX9_order_88 : decode cX9_order 88 = .ok (.getfield 7, 3) := by decide +kernel
theorem dX9_order_91 : decode cX9_order 91 = .ok (.aload_n 0, 1) := by decide +kernel
theorem dX9_order_92 : decode cX9_order 92 = .ok (.iload_n 2, 1) := by decide +kernel
theorem dX9_order_93 : decode cX9_order 93 = .ok (.invokevirtual 71, 3) := by decide +kernel
theorem dX9_order_96 : decode cX9_order 96 = .ok (.iaload, 1) := by decide +kernel
theorem dX9_order_97 : decode cX9_order 97 = .ok (.invokestatic 74, 3) := by decide +kernel
theorem dX9_order_100 : decode cX9_order 100 = .ok (.iastore, 1) := by decide +kernel
theorem dX9_order_101 : decode cX9_order 101 = .ok (.goto 106, 3) := by decide +kernel
theorem dX9_order_104 : decode cX9_order 104 = .ok (.aload_n 0, 1) := by decide +kernel
theorem dX9_order_105 : decode cX9_order 105 = .ok (.iload_n 2, 1) := by decide +kernel
theorem dX9_order_106 : decode cX9_order 106 = .ok (.invokevirtual 77, 3) := by decide +kernel
theorem dX9_order_109 : decode cX9_order 109 = .ok (.goto 98, 3) := by decide +kernel
theorem dX9_order_112 : decode cX9_order 112 = .ok (.aload_n 0, 1) := by decide +kernel
theorem dX9_order_113 : decode cX9_order 113 = .ok (.getfield 7, 3) := by decide +kernel
theorem dX9_order_116 : decode cX9_order 116 = .ok (.bipush 114, 2) := by decide +kernel
theorem dX9_order_118 : decode cX9_order 118 = .ok (.iload_n 2, 1) := by decide +kernel
theorem dX9_order_119 : decode cX9_order 119 = .ok (.iastore, 1) := by decide +kernel
theorem dX9_order_120 : decode cX9_order 120 = .ok (.goto 87, 3) := by decide +kernel
theorem dX9_order_123 : decode cX9_order 123 = .ok (.aload_n 0, 1) := by decide +kernel
theorem dX9_order_124 : decode cX9_order 124 = .ok (.getfield 7, 3) := by decide +kernel
theorem dX9_order_127 : decode cX9_order 127 = .ok (.bipush 114, 2) := by decide +kernel
theorem dX9_order_129 : decode cX9_order 129 = .ok (.aload_n 0, 1) := by decide +kernel
theorem dX9_order_130 : decode cX9_order 130 = .ok (.getfield 7, 3) := by decide +kernel
theorem dX9_order_133 : decode cX9_order 133 = .ok (.bipush 113, 2) := by decide +kernel
theorem dX9_order_135 : decode cX9_order 135 = .ok (.iaload, 1) := by decide +kernel
theorem dX9_order_136 : decode cX9_order 136 = .ok (.ifCond .ne 7, 3) := by decide +kernel
theorem dX9_order_139 : decode cX9_order 139 = .ok (.iload_n 2, 1) := by decide +kernel
theorem dX9_order_140 : decode cX9_order 140 = .ok (.goto 10, 3) := by decide +kernel
theorem dX9_order_143 : decode cX9_order 143 = .ok (.aload_n 0, 1) := by decide +kernel
theorem dX9_order_144 : decode cX9_order 144 = .ok (.getfield 7, 3) := by decide +kernel
theorem dX9_order_147 : decode cX9_order 147 = .ok (.bipush 114, 2) := by decide +kernel
theorem dX9_order_149 : decode cX9_order 149 = .ok (.iaload, 1) := by decide +kernel
theorem dX9_order_150 : decode cX9_order 150 = .ok (.iastore, 1) := by decide +kernel
theorem dX9_order_151 : decode cX9_order 151 = .ok (.goto 56, 3) := by decide +kernel
theorem dX9_order_154 : decode cX9_order 154 = .ok (.aload_n 0, 1) := by decide +kernel
theorem dX9_order_155 : decode cX9_order 155 = .ok (.getfield 7, 3) := by decide +kernel
theorem dX9_order_158 : decode cX9_order 158 = .ok (.bipush 100, 2) := by decide +kernel
theorem dX9_order_160 : decode cX9_order 160 = .ok (.iload_n 2, 1) := by decide +kernel
theorem dX9_order_161 : decode cX9_order 161 = .ok (.bipush 10, 2) := by decide +kernel
theorem dX9_order_163 : decode cX9_order 163 = .ok (.idiv, 1) := by decide +kernel
theorem dX9_order_164 : decode cX9_order 164 = .ok (.iadd, 1) := by decide +kernel
theorem dX9_order_165 : decode cX9_order 165 = .ok (.iload_n 2, 1) := by decide +kernel
theorem dX9_order_166 : decode cX9_order 166 = .ok (.bipush 10, 2) := by decide +kernel
theorem dX9_order_168 : decode cX9_order 168 = .ok (.irem, 1) := by decide +kernel
theorem dX9_order_169 : decode cX9_order 169 = .ok (.iastore, 1) := by decide +kernel
theorem dX9_order_170 : decode cX9_order 170 = .ok (.goto 37, 3) := by decide +kernel
theorem dX9_order_173 : decode cX9_order 173 = .ok (.aload_n 0, 1) := by decide +kernel
theorem dX9_order_174 : decode cX9_order 174 = .ok (.iload_n 3, 1) := by decide +kernel
theorem dX9_order_175 : decode cX9_order 175 = .ok (.iload_n 2, 1) := by decide +kernel
theorem dX9_order_176 : decode cX9_order 176 = .ok (.invokevirtual 81, 3) := by decide +kernel
theorem dX9_order_179 : decode cX9_order 179 = .ok (.goto 28, 3) := by decide +kernel
theorem dX9_order_182 : decode cX9_order 182 = .ok (.aload_n 0, 1) := by decide +kernel
theorem dX9_order_183 : decode cX9_order 183 = .ok (.invokevirtual 85, 3) := by decide +kernel
theorem dX9_order_186 : decode cX9_order 186 = .ok (.goto 21, 3) := by decide +kernel
theorem dX9_order_189 : decode cX9_order 189 = .ok (.aload_n 0, 1) := by decide +kernel
theorem dX9_order_190 : decode cX9_order 190 = .ok (.getfield 7, 3) := by decide +kernel
theorem dX9_order_193 : decode cX9_order 193 = .ok (.bipush 113, 2) := by decide +kernel
theorem dX9_order_195 : decode cX9_order 195 = .ok (.aload_n 0, 1) := by decide +kernel
theorem dX9_order_196 : decode cX9_order 196 = .ok (.getfield 7, 3) := by decide +kernel
theorem dX9_order_199 : decode cX9_order 199 = .ok (.bipush 113, 2) := by decide +kernel
theorem dX9_order_201 : decode cX9_order 201 = .ok (.iaload, 1) := by decide +kernel
theorem dX9_order_202 : decode cX9_order 202 = .ok (.iload_n 2, 1) := by decide +kernel
theorem dX9_order_203 : decode cX9_order 203 = .ok (.invokestatic 74, 3) := by decide +kernel
theorem dX9_order_206 : decode cX9_order 206 = .ok (.iastore, 1) := by decide +kernel
theorem dX9_order_207 : decode cX9_order 207 = .ok (.return_, 1) := by decide +kernel
theorem dX9_keepStep_0 : decode cX9_keepStep 0 = .ok (.aload_n 0, 1) := by decide +kernel
theorem dX9_keepStep_1 : decode cX9_keepStep 1 = .ok (.getfield 7, 3) := by decide +kernel
theorem dX9_keepStep_4 : decode cX9_keepStep 4 = .ok (.sipush 141, 3) := by decide +kernel
theorem dX9_keepStep_7 : decode cX9_keepStep 7 = .ok (.iaload, 1) := by decide +kernel
theorem dX9_keepStep_8 : decode cX9_keepStep 8 = .ok (.bipush 12, 2) := by decide +kernel
theorem dX9_keepStep_10 : decode cX9_keepStep 10 = .ok (.if_icmp .ge 15, 3) := by decide +kernel
theorem dX9_keepStep_13 : decode cX9_keepStep 13 = .ok (.aload_n 0, 1) := by decide +kernel
theorem dX9_keepStep_14 : decode cX9_keepStep 14 = .ok (.getfield 7, 3) := by decide +kernel
theorem dX9_keepStep_17 : decode cX9_keepStep 17 = .ok (.sipush 141, 3) := by decide +kernel
theorem dX9_keepStep_20 : decode cX9_keepStep 20 = .ok (.dup2, 1) := by decide +kernel
theorem dX9_keepStep_21 : decode cX9_keepStep 21 = .ok (.iaload, 1) := by decide +kernel
theorem dX9_keepStep_22 : decode cX9_keepStep 22 = .ok (.iconst 1, 1) := by decide +kernel
theorem dX9_keepStep_23 : decode cX9_keepStep 23 = .ok (.iadd, 1) := by decide +kernel
theorem dX9_keepStep_24 : decode cX9_keepStep 24 = .ok (.iastore, 1) := by decide +kernel
theorem dX9_keepStep_25 : decode cX9_keepStep 25 = .ok (.iconst 3, 1) := by decide +kernel
theorem dX9_keepStep_26 : decode cX9_keepStep 26 = .ok (.aload_n 0, 1) := by decide +kernel
theorem dX9_keepStep_27 : decode cX9_keepStep 27 = .ok (.getfield 7, 3) := by decide +kernel
theorem dX9_keepStep_30 : decode cX9_keepStep 30 = .ok (.sipush 141, 3) := by decide +kernel
theorem dX9_keepStep_33 : decode cX9_keepStep 33 = .ok (.iaload, 1) := by decide +kernel
theorem dX9_keepStep_34 : decode cX9_keepStep 34 = .ok (.imul, 1) := by decide +kernel
theorem dX9_keepStep_35 : decode cX9_keepStep 35 = .ok (.iconst 1, 1) := by decide +kernel
theorem dX9_keepStep_36 : decode cX9_keepStep 36 = .ok (.isub, 1) := by decide +kernel
theorem dX9_keepStep_37 : decode cX9_keepStep 37 = .ok (.istore_n 3, 1) := by decide +kernel
theorem dX9_keepStep_38 : decode cX9_keepStep 38 = .ok (.iload_n 3, 1) := by decide +kernel
theorem dX9_keepStep_39 : decode cX9_keepStep 39 = .ok (.iconst 3, 1) := by decide +kernel
theorem dX9_keepStep_40 : decode cX9_keepStep 40 = .ok (.if_icmp .lt 31, 3) := by decide +kernel
theorem dX9_keepStep_43 : decode cX9_keepStep 43 = .ok (.aload_n 0, 1) := by decide +kernel
theorem dX9_keepStep_44 : decode cX9_keepStep 44 = .ok (.getfield 7, 3) := by decide +kernel
theorem dX9_keepStep_47 : decode cX9_keepStep 47 = .ok (.sipush 142, 3) := by decide +kernel
theorem dX9_keepStep_50 : decode cX9_keepStep 50 = .ok (.iload_n 3, 1) := by decide +kernel
theorem dX9_keepStep_51 : decode cX9_keepStep 51 = .ok (.iadd, 1) := by decide +kernel
theorem dX9_keepStep_52 : decode cX9_keepStep 52 = .ok (.aload_n 0, 1) := by decide +kernel
theorem dX9_keepStep_53 : decode cX9_keepStep 53 = .ok (.getfield 7, 3) := by decide +kernel
theorem dX9_keepStep_56 : decode cX9_keepStep 56 = .ok (.sipush 142, 3) := by decide +kernel
theorem dX9_keepStep_59 : decode cX9_keepStep 59 = .ok (.iload_n 3, 1) := by decide +kernel
theorem dX9_keepStep_60 : decode cX9_keepStep 60 = .ok (.iadd, 1) := by decide +kernel
theorem dX9_keepStep_61 : decode cX9_keepStep 61 = .ok (.iconst 3, 1) := by decide +kernel
theorem dX9_keepStep_62 : decode cX9_keepStep 62 = .ok (.isub, 1) := by decide +kernel
theorem dX9_keepStep_63 : decode cX9_keepStep 63 = .ok (.iaload, 1) := by decide +kernel
theorem dX9_keepStep_64 : decode cX9_keepStep 64 = .ok (.iastore, 1) := by decide +kernel
theorem dX9_keepStep_65 : decode cX9_keepStep 65 = .ok (.iinc 3 (-1), 3) := by decide +kernel
theorem dX9_keepStep_68 : decode cX9_keepStep 68 = .ok (.goto (-30), 3) := by decide +kernel
theorem dX9_keepStep_71 : decode cX9_keepStep 71 = .ok (.aload_n 0, 1) := by decide +kernel
theorem dX9_keepStep_72 : decode cX9_keepStep 72 = .ok (.getfield 7, 3) := by decide +kernel
theorem dX9_keepStep_75 : decode cX9_keepStep 75 = .ok (.sipush 142, 3) := by decide +kernel
theorem dX9_keepStep_78 : decode cX9_keepStep 78 = .ok (.iload_n 1, 1) := by decide +kernel
theorem dX9_keepStep_79 : decode cX9_keepStep 79 = .ok (.iastore, 1) := by decide +kernel
theorem dX9_keepStep_80 : decode cX9_keepStep 80 = .ok (.aload_n 0, 1) := by decide +kernel
theorem dX9_keepStep_81 : decode cX9_keepStep 81 = .ok (.getfield 7, 3) := by decide +kernel
theorem dX9_keepStep_84 : decode cX9_keepStep 84 = .ok (.sipush 143, 3) := by decide +kernel
theorem dX9_keepStep_87 : decode cX9_keepStep 87 = .ok (.aload_n 0, 1) := by decide +kernel
theorem dX9_keepStep_88 : decode cX9_keepStep 88 = .ok (.iload_n 1, 1) := by decide +kernel
theorem dX9_keepStep_89 : decode cX9_keepStep 89 = .ok (.invokevirtual 32, 3) := by decide +kernel
theorem dX9_keepStep_92 : decode cX9_keepStep 92 = .ok (.iastore, 1) := by decide +kernel
theorem dX9_keepStep_93 : decode cX9_keepStep 93 = .ok (.aload_n 0, 1) := by decide +kernel
theorem dX9_keepStep_94 : decode cX9_keepStep 94 = .ok (.getfield 7, 3) := by decide +kernel
theorem dX9_keepStep_97 : decode cX9_keepStep 97 = .ok (.sipush 144, 3) := by decide +kernel
theorem dX9_keepStep_100 : decode cX9_keepStep 100 = .ok (.iload_n 2, 1) := by decide +kernel
theorem dX9_keepStep_101 : decode cX9_keepStep 101 = .ok (.iastore, 1) := by decide +kernel
theorem dX9_keepStep_102 : decode cX9_keepStep 102 = .ok (.return_, 1) := by decide +kernel
theorem dX9_step_0 : decode cX9_step 0 = .ok (.aload_n 0, 1) := by decide +kernel
theorem dX9_step_1 : decode cX9_step 1 = .ok (.getfield 7, 3) := by decide +kernel
theorem dX9_step_4 : decode cX9_step 4 = .ok (.bipush 114, 2) := by decide +kernel
theorem dX9_step_6 : decode cX9_step 6 = .ok (.iaload, 1) := by decide +kernel
theorem dX9_step_7 : decode cX9_step 7 = .ok (.istore_n 1, 1) := by decide +kernel
theorem dX9_step_8 : decode cX9_step 8 = .ok (.aload_n 0, 1) := by decide +kernel
theorem dX9_step_9 : decode cX9_step 9 = .ok (.getfield 7, 3) := by decide +kernel
theorem dX9_step_12 : decode cX9_step 12 = .ok (.aload_n 0, 1) := by decide +kernel
theorem dX9_step_13 : decode cX9_step 13 = .ok (.iload_n 1, 1) := by decide +kernel
theorem dX9_step_14 : decode cX9_step 14 = .ok (.invokevirtual 71, 3) := by decide +kernel
theorem dX9_step_17 : decode cX9_step 17 = .ok (.iaload, 1) := by decide +kernel
theorem dX9_step_18 : decode cX9_step 18 = .ok (.istore_n 2, 1) := by decide +kernel
theorem dX9_step_19 : decode cX9_step 19 = .ok (.iload_n 2, 1) := by decide +kernel
theorem dX9_step_20 : decode cX9_step 20 = .ok (.bipush 100, 2) := by decide +kernel
theorem dX9_step_22 : decode cX9_step 22 = .ok (.idiv, 1) := by decide +kernel
theorem dX9_step_23 : decode cX9_step 23 = .ok (.istore_n 3, 1) := by decide +kernel
theorem dX9_step_24 : decode cX9_step 24 = .ok (.iload_n 2, 1) := by decide +kernel
theorem dX9_step_25 : decode cX9_step 25 = .ok (.bipush 100, 2) := by decide +kernel
theorem dX9_step_27 : decode cX9_step 27 = .ok (.irem, 1) := by decide +kernel
theorem dX9_step_28 : decode cX9_step 28 = .ok (.istore 4, 2) := by decide +kernel
theorem dX9_step_30 : decode cX9_step 30 = .ok (.aload_n 0, 1) := by decide +kernel
theorem dX9_step_31 : decode cX9_step 31 = .ok (.iload_n 1, 1) := by decide +kernel
theorem dX9_step_32 : decode cX9_step 32 = .ok (.iload_n 2, 1) := by decide +kernel
theorem dX9_step_33 : decode cX9_step 33 = .ok (.invokevirtual 88, 3) := by decide +kernel
theorem dX9_step_36 : decode cX9_step 36 = .ok (.aload_n 0, 1) := by decide +kernel
theorem dX9_step_37 : decode cX9_step 37 = .ok (.getfield 7, 3) := by decide +kernel
theorem dX9_step_40 : decode cX9_step 40 = .ok (.sipush 178, 3) := by decide +kernel
theorem dX9_step_43 : decode cX9_step 43 = .ok (.dup2, 1) := by decide +kernel
theorem dX9_step_44 : decode cX9_step 44 = .ok (.iaload, 1) := by decide +kernel
theorem dX9_step_45 : decode cX9_step 45 = .ok (.iconst 1, 1) := by decide +kernel
theorem dX9_step_46 : decode cX9_step 46 = .ok (.iadd, 1) := by decide +kernel
theorem dX9_step_47 : decode cX9_step 47 = .ok (.iastore, 1) := by decide +kernel
theorem dX9_step_48 : decode cX9_step 48 = .ok (.aload_n 0, 1) := by decide +kernel
theorem dX9_step_49 : decode cX9_step 49 = .ok (.getfield 7, 3) := by decide +kernel
theorem dX9_step_52 : decode cX9_step 52 = .ok (.bipush 114, 2) := by decide +kernel
theorem dX9_step_54 : decode cX9_step 54 = .ok (.dup2, 1) := by decide +kernel
theorem dX9_step_55 : decode cX9_step 55 = .ok (.iaload, 1) := by decide +kernel
theorem dX9_step_56 : decode cX9_step 56 = .ok (.iconst 1, 1) := by decide +kernel
theorem dX9_step_57 : decode cX9_step 57 = .ok (.iadd, 1) := by decide +kernel
theorem dX9_step_58 : decode cX9_step 58 = .ok (.iastore, 1) := by decide +kernel
theorem dX9_step_59 : decode cX9_step 59 = .ok (.aload_n 0, 1) := by decide +kernel
theorem dX9_step_60 : decode cX9_step 60 = .ok (.getfield 7, 3) := by decide +kernel
theorem dX9_step_63 : decode cX9_step 63 = .ok (.bipush 115, 2) := by decide +kernel
theorem dX9_step_65 : decode cX9_step 65 = .ok (.aload_n 0, 1) := by decide +kernel
theorem dX9_step_66 : decode cX9_step 66 = .ok (.iload_n 3, 1) := by decide +kernel
theorem dX9_step_67 : decode cX9_step 67 = .ok (.iload 4, 2) := by decide +kernel
theorem dX9_step_69 : decode cX9_step 69 = .ok (.invokevirtual 91, 3) := by decide +kernel
theorem dX9_step_72 : decode cX9_step 72 = .ok (.iastore, 1) := by decide +kernel
theorem dX9_step_73 : decode cX9_step 73 = .ok (.aload_n 0, 1) := by decide +kernel
theorem dX9_step_74 : decode cX9_step 74 = .ok (.getfield 7, 3) := by decide +kernel
theorem dX9_step_77 : decode cX9_step 77 = .ok (.bipush 115, 2) := by decide +kernel
theorem dX9_step_79 : decode cX9_step 79 = .ok (.iaload, 1) := by decide +kernel
theorem dX9_step_80 : decode cX9_step 80 = .ok (.ifCond .ne 14, 3) := by decide +kernel
theorem dX9_step_83 : decode cX9_step 83 = .ok (.aload_n 0, 1) := by decide +kernel
theorem dX9_step_84 : decode cX9_step 84 = .ok (.iload_n 3, 1) := by decide +kernel
theorem dX9_step_85 : decode cX9_step 85 = .ok (.iload 4, 2) := by decide +kernel
theorem dX9_step_87 : decode cX9_step 87 = .ok (.iload_n 1, 1) := by decide +kernel
theorem dX9_step_88 : decode cX9_step 88 = .ok (.bipush 16, 2) := by decide +kernel
theorem dX9_step_90 : decode cX9_step 90 = .ok (.idiv, 1) := by decide +kernel
theorem dX9_step_91 : decode cX9_step 91 = .ok (.invokevirtual 94, 3) := by decide +kernel
theorem dX9_step_94 : decode cX9_step 94 = .ok (.aload_n 0, 1) := by decide +kernel
theorem dX9_step_95 : decode cX9_step 95 = .ok (.getfield 7, 3) := by decide +kernel
theorem dX9_step_98 : decode cX9_step 98 = .ok (.bipush 115, 2) := by decide +kernel
theorem dX9_step_100 : decode cX9_step 100 = .ok (.iaload, 1) := by decide +kernel
theorem dX9_step_101 : decode cX9_step 101 = .ok (.ifCond .ne 24, 3) := by decide +kernel
theorem dX9_step_104 : decode cX9_step 104 = .ok (.aload_n 0, 1) := by decide +kernel
theorem dX9_step_105 : decode cX9_step 105 = .ok (.getfield 7, 3) := by decide +kernel
theorem dX9_step_108 : decode cX9_step 108 = .ok (.bipush 114, 2) := by decide +kernel
theorem dX9_step_110 : decode cX9_step 110 = .ok (.iaload, 1) := by decide +kernel
theorem dX9_step_111 : decode cX9_step 111 = .ok (.bipush 64, 2) := by decide +kernel
theorem dX9_step_113 : decode cX9_step 113 = .ok (.if_icmp .ne 12, 3) := by decide +kernel
theorem dX9_step_116 : decode cX9_step 116 = .ok (.aload_n 0, 1) := by decide +kernel
theorem dX9_step_117 : decode cX9_step 117 = .ok (.getfield 7, 3) := by decide +kernel
theorem dX9_step_120 : decode cX9_step 120 = .ok (.bipush 115, 2) := by decide +kernel
theorem dX9_step_122 : decode cX9_step 122 = .ok (.bipush 6, 2) := by decide +kernel
theorem dX9_step_124 : decode cX9_step 124 = .ok (.iastore, 1) := by decide +kernel
theorem dX9_step_125 : decode cX9_step 125 = .ok (.return_, 1) := by decide +kernel
theorem dX9_doRun_0 : decode cX9_doRun 0 = .ok (.iconst 0, 1) := by decide +kernel
theorem dX9_doRun_1 : decode cX9_doRun 1 = .ok (.istore_n 2, 1) := by decide +kernel
theorem dX9_doRun_2 : decode cX9_doRun 2 = .ok (.iload_n 2, 1) := by decide +kernel
theorem dX9_doRun_3 : decode cX9_doRun 3 = .ok (.iload_n 1, 1) := by decide +kernel
theorem dX9_doRun_4 : decode cX9_doRun 4 = .ok (.if_icmp .ge 23, 3) := by decide +kernel
theorem dX9_doRun_7 : decode cX9_doRun 7 = .ok (.aload_n 0, 1) := by decide +kernel
theorem dX9_doRun_8 : decode cX9_doRun 8 = .ok (.getfield 7, 3) := by decide +kernel
theorem dX9_doRun_11 : decode cX9_doRun 11 = .ok (.bipush 115, 2) := by decide +kernel
theorem dX9_doRun_13 : decode cX9_doRun 13 = .ok (.iaload, 1) := by decide +kernel
theorem dX9_doRun_14 : decode cX9_doRun 14 = .ok (.ifCond .ne 13, 3) := by decide +kernel
theorem dX9_doRun_17 : decode cX9_doRun 17 = .ok (.aload_n 0, 1) := by decide +kernel
theorem dX9_doRun_18 : decode cX9_doRun 18 = .ok (.invokevirtual 98, 3) := by decide +kernel
theorem dX9_doRun_21 : decode cX9_doRun 21 = .ok (.iinc 2 1, 3) := by decide +kernel
theorem dX9_doRun_24 : decode cX9_doRun 24 = .ok (.goto (-22), 3) := by decide +kernel
theorem dX9_doRun_27 : decode cX9_doRun 27 = .ok (.iload_n 2, 1) := by decide +kernel
theorem dX9_doRun_28 : decode cX9_doRun 28 = .ok (.ireturn, 1) := by decide +kernel
theorem dX9_run_0 : decode cX9_run 0 = .ok (.iload_n 1, 1) := by decide +kernel
theorem dX9_run_1 : decode cX9_run 1 = .ok (.iconst 1, 1) := by decide +kernel
theorem dX9_run_2 : decode cX9_run 2 = .ok (.sipush 999, 3) := by decide +kernel
theorem dX9_run_5 : decode cX9_run 5 = .ok (.invokestatic 28, 3) := by decide +kernel
theorem dX9_run_8 : decode cX9_run 8 = .ok (.ifCond .ne 6, 3) := by decide +kernel
theorem dX9_run_11 : decode cX9_run 11 = .ok (.bipush (-2), 2) := by decide +kernel
theorem dX9_run_13 : decode cX9_run 13 = .ok (.ireturn, 1) := by decide +kernel
theorem dX9_run_14 : decode cX9_run 14 = .ok (.aload_n 0, 1) := by decide +kernel
theorem dX9_run_15 : decode cX9_run 15 = .ok (.getfield 7, 3) := by decide +kernel
theorem dX9_run_18 : decode cX9_run 18 = .ok (.bipush 115, 2) := by decide +kernel
theorem dX9_run_20 : decode cX9_run 20 = .ok (.iaload, 1) := by decide +kernel
theorem dX9_run_21 : decode cX9_run 21 = .ok (.ifCond .le 6, 3) := by decide +kernel
theorem dX9_run_24 : decode cX9_run 24 = .ok (.bipush (-4), 2) := by decide +kernel
theorem dX9_run_26 : decode cX9_run 26 = .ok (.ireturn, 1) := by decide +kernel
theorem dX9_run_27 : decode cX9_run 27 = .ok (.aload_n 0, 1) := by decide +kernel
theorem dX9_run_28 : decode cX9_run 28 = .ok (.getfield 7, 3) := by decide +kernel
theorem dX9_run_31 : decode cX9_run 31 = .ok (.sipush 178, 3) := by decide +kernel
theorem dX9_run_34 : decode cX9_run 34 = .ok (.iaload, 1) := by decide +kernel
theorem dX9_run_35 : decode cX9_run 35 = .ok (.iload_n 1, 1) := by decide +kernel
theorem dX9_run_36 : decode cX9_run 36 = .ok (.iadd, 1) := by decide +kernel
theorem dX9_run_37 : decode cX9_run 37 = .ok (.ldc 101, 2) := by decide +kernel
theorem dX9_run_39 : decode cX9_run 39 = .ok (.if_icmp .le 6, 3) := by decide +kernel
theorem dX9_run_42 : decode cX9_run 42 = .ok (.bipush (-3), 2) := by decide +kernel
theorem dX9_run_44 : decode cX9_run 44 = .ok (.ireturn, 1) := by decide +kernel
theorem dX9_run_45 : decode cX9_run 45 = .ok (.aload_n 0, 1) := by decide +kernel
theorem dX9_run_46 : decode cX9_run 46 = .ok (.invokevirtual 48, 3) := by decide +kernel
theorem dX9_run_49 : decode cX9_run 49 = .ok (.aload_n 0, 1) := by decide +kernel
theorem dX9_run_50 : decode cX9_run 50 = .ok (.iload_n 1, 1) := by decide +kernel
theorem dX9_run_51 : decode cX9_run 51 = .ok (.invokevirtual 102, 3) := by decide +kernel
theorem dX9_run_54 : decode cX9_run 54 = .ok (.ireturn, 1) := by decide +kernel
theorem dX9_type_0 : decode cX9_type 0 = .ok (.aload_n 0, 1) := by decide +kernel
theorem dX9_type_1 : decode cX9_type 1 = .ok (.getfield 105, 3) := by decide +kernel
theorem dX9_type_4 : decode cX9_type 4 = .ok (.bipush 80, 2) := by decide +kernel
theorem dX9_type_6 : decode cX9_type 6 = .ok (.if_icmp .ne 6, 3) := by decide +kernel
theorem dX9_type_9 : decode cX9_type 9 = .ok (.bipush (-3), 2) := by decide +kernel
theorem dX9_type_11 : decode cX9_type 11 = .ok (.ireturn, 1) := by decide +kernel
theorem dX9_type_12 : decode cX9_type 12 = .ok (.aload_n 0, 1) := by decide +kernel
theorem dX9_type_13 : decode cX9_type 13 = .ok (.getfield 22, 3) := by decide +kernel
theorem dX9_type_16 : decode cX9_type 16 = .ok (.aload_n 0, 1) := by decide +kernel
theorem dX9_type_17 : decode cX9_type 17 = .ok (.getfield 105, 3) := by decide +kernel
theorem dX9_type_20 : decode cX9_type 20 = .ok (.iload_n 1, 1) := by decide +kernel
theorem dX9_type_21 : decode cX9_type 21 = .ok (.iastore, 1) := by decide +kernel
theorem dX9_type_22 : decode cX9_type 22 = .ok (.aload_n 0, 1) := by decide +kernel
theorem dX9_type_23 : decode cX9_type 23 = .ok (.dup, 1) := by decide +kernel
theorem dX9_type_24 : decode cX9_type 24 = .ok (.getfield 105, 3) := by decide +kernel
theorem dX9_type_27 : decode cX9_type 27 = .ok (.iconst 1, 1) := by decide +kernel
theorem dX9_type_28 : decode cX9_type 28 = .ok (.iadd, 1) := by decide +kernel
theorem dX9_type_29 : decode cX9_type 29 = .ok (.putfield 105, 3) := by decide +kernel
theorem dX9_type_32 : decode cX9_type 32 = .ok (.aload_n 0, 1) := by decide +kernel
theorem dX9_type_33 : decode cX9_type 33 = .ok (.getfield 105, 3) := by decide +kernel
theorem dX9_type_36 : decode cX9_type 36 = .ok (.ireturn, 1) := by decide +kernel
theorem dX9_clearText_0 : decode cX9_clearText 0 = .ok (.aload_n 0, 1) := by decide +kernel
theorem dX9_clearText_1 : decode cX9_clearText 1 = .ok (.getfield 105, 3) := by decide +kernel
theorem dX9_clearText_4 : decode cX9_clearText 4 = .ok (.istore_n 1, 1) := by decide +kernel
theorem dX9_clearText_5 : decode cX9_clearText 5 = .ok (.aload_n 0, 1) := by decide +kernel
theorem dX9_clearText_6 : decode cX9_clearText 6 = .ok (.iconst 0, 1) := by decide +kernel
theorem dX9_clearText_7 : decode cX9_clearText 7 = .ok (.putfield 105, 3) := by decide +kernel
theorem dX9_clearText_10 : decode cX9_clearText 10 = .ok (.iload_n 1, 1) := by decide +kernel
theorem dX9_clearText_11 : decode cX9_clearText 11 = .ok (.ireturn, 1) := by decide +kernel
theorem dX9_sign_0 : decode cX9_sign 0 = .ok (.aload_n 0, 1) := by decide +kernel
theorem dX9_sign_1 : decode cX9_sign 1 = .ok (.getfield 108, 3) := by decide +kernel
theorem dX9_sign_4 : decode cX9_sign 4 = .ok (.aload_n 0, 1) := by decide +kernel
theorem dX9_sign_5 : decode cX9_sign 5 = .ok (.getfield 105, 3) := by decide +kernel
theorem dX9_sign_8 : decode cX9_sign 8 = .ok (.if_icmp .ge 15, 3) := by decide +kernel
theorem dX9_sign_11 : decode cX9_sign 11 = .ok (.aload_n 0, 1) := by decide +kernel
theorem dX9_sign_12 : decode cX9_sign 12 = .ok (.getfield 22, 3) := by decide +kernel
theorem dX9_sign_15 : decode cX9_sign 15 = .ok (.aload_n 0, 1) := by decide +kernel
theorem dX9_sign_16 : decode cX9_sign 16 = .ok (.getfield 108, 3) := by decide +kernel
end
section
theorem dX9_sign_19 : decode cX9_sign 19 = .ok (.iaload, 1) := by decide +kernel
theorem dX9_sign_20 : decode cX9_sign 20 = .ok (.goto 4, 3) := by decide +kernel
theorem dX9_sign_23 : decode cX9_sign 23 = .ok (.iconst 0, 1) := by decide +kernel
theorem dX9_sign_24 : decode cX9_sign 24 = .ok (.ireturn, 1) := by decide +kernel
theorem dX9_take_0 : decode cX9_take 0 = .ok (.aload_n 0, 1) := by decide +kernel
theorem dX9_take_1 : decode cX9_take 1 = .ok (.aload_n 0, 1) := by decide +kernel
theorem dX9_take_2 : decode cX9_take 2 = .ok (.getfield 111, 3) := by decide +kernel
theorem dX9_take_5 : decode cX9_take 5 = .ok (.ifCond .ne 7, 3) := by decide +kernel
theorem dX9_take_8 : decode cX9_take 8 = .ok (.iload_n 1, 1) := by decide +kernel
theorem dX9_take_9 : decode cX9_take 9 = .ok (.ifCond .ne 7, 3) := by decide +kernel
theorem dX9_take_12 : decode cX9_take 12 = .ok (.iconst 1, 1) := by decide +kernel
theorem dX9_take_13 : decode cX9_take 13 = .ok (.goto 4, 3) := by decide +kernel
theorem dX9_take_16 : decode cX9_take 16 = .ok (.iconst 0, 1) := by decide +kernel
theorem dX9_take_17 : decode cX9_take 17 = .ok (.putfield 111, 3) := by decide +kernel
theorem dX9_take_20 : decode cX9_take 20 = .ok (.aload_n 0, 1) := by decide +kernel
theorem dX9_take_21 : decode cX9_take 21 = .ok (.dup, 1) := by decide +kernel
theorem dX9_take_22 : decode cX9_take 22 = .ok (.getfield 108, 3) := by decide +kernel
theorem dX9_take_25 : decode cX9_take 25 = .ok (.aload_n 0, 1) := by decide +kernel
theorem dX9_take_26 : decode cX9_take 26 = .ok (.getfield 111, 3) := by decide +kernel
theorem dX9_take_29 : decode cX9_take 29 = .ok (.ifCond .eq 7, 3) := by decide +kernel
theorem dX9_take_32 : decode cX9_take 32 = .ok (.iconst 0, 1) := by decide +kernel
theorem dX9_take_33 : decode cX9_take 33 = .ok (.goto 4, 3) := by decide +kernel
theorem dX9_take_36 : decode cX9_take 36 = .ok (.iconst 1, 1) := by decide +kernel
theorem dX9_take_37 : decode cX9_take 37 = .ok (.iadd, 1) := by decide +kernel
theorem dX9_take_38 : decode cX9_take 38 = .ok (.putfield 108, 3) := by decide +kernel
theorem dX9_take_41 : decode cX9_take 41 = .ok (.return_, 1) := by decide +kernel
theorem dX9_takeRest_0 : decode cX9_takeRest 0 = .ok (.aload_n 0, 1) := by decide +kernel
theorem dX9_takeRest_1 : decode cX9_takeRest 1 = .ok (.aload_n 0, 1) := by decide +kernel
theorem dX9_takeRest_2 : decode cX9_takeRest 2 = .ok (.invokevirtual 114, 3) := by decide +kernel
theorem dX9_takeRest_5 : decode cX9_takeRest 5 = .ok (.iload_n 1, 1) := by decide +kernel
theorem dX9_takeRest_6 : decode cX9_takeRest 6 = .ok (.if_icmp .ne 7, 3) := by decide +kernel
theorem dX9_takeRest_9 : decode cX9_takeRest 9 = .ok (.iconst 1, 1) := by decide +kernel
theorem dX9_takeRest_10 : decode cX9_takeRest 10 = .ok (.goto 4, 3) := by decide +kernel
theorem dX9_takeRest_13 : decode cX9_takeRest 13 = .ok (.iconst 0, 1) := by decide +kernel
theorem dX9_takeRest_14 : decode cX9_takeRest 14 = .ok (.invokevirtual 117, 3) := by decide +kernel
theorem dX9_takeRest_17 : decode cX9_takeRest 17 = .ok (.aload_n 0, 1) := by decide +kernel
theorem dX9_takeRest_18 : decode cX9_takeRest 18 = .ok (.aload_n 0, 1) := by decide +kernel
theorem dX9_takeRest_19 : decode cX9_takeRest 19 = .ok (.invokevirtual 114, 3) := by decide +kernel
theorem dX9_takeRest_22 : decode cX9_takeRest 22 = .ok (.iload_n 2, 1) := by decide +kernel
theorem dX9_takeRest_23 : decode cX9_takeRest 23 = .ok (.if_icmp .ne 7, 3) := by decide +kernel
theorem dX9_takeRest_26 : decode cX9_takeRest 26 = .ok (.iconst 1, 1) := by decide +kernel
theorem dX9_takeRest_27 : decode cX9_takeRest 27 = .ok (.goto 4, 3) := by decide +kernel
theorem dX9_takeRest_30 : decode cX9_takeRest 30 = .ok (.iconst 0, 1) := by decide +kernel
theorem dX9_takeRest_31 : decode cX9_takeRest 31 = .ok (.invokevirtual 117, 3) := by decide +kernel
theorem dX9_takeRest_34 : decode cX9_takeRest 34 = .ok (.iload_n 3, 1) := by decide +kernel
theorem dX9_takeRest_35 : decode cX9_takeRest 35 = .ok (.ifCond .le 20, 3) := by decide +kernel
theorem dX9_takeRest_38 : decode cX9_takeRest 38 = .ok (.aload_n 0, 1) := by decide +kernel
theorem dX9_takeRest_39 : decode cX9_takeRest 39 = .ok (.aload_n 0, 1) := by decide +kernel
theorem dX9_takeRest_40 : decode cX9_takeRest 40 = .ok (.invokevirtual 114, 3) := by decide +kernel
theorem dX9_takeRest_43 : decode cX9_takeRest 43 = .ok (.iload_n 3, 1) := by decide +kernel
theorem dX9_takeRest_44 : decode cX9_takeRest 44 = .ok (.if_icmp .ne 7, 3) := by decide +kernel
theorem dX9_takeRest_47 : decode cX9_takeRest 47 = .ok (.iconst 1, 1) := by decide +kernel
theorem dX9_takeRest_48 : decode cX9_takeRest 48 = .ok (.goto 4, 3) := by decide +kernel
theorem dX9_takeRest_51 : decode cX9_takeRest 51 = .ok (.iconst 0, 1) := by decide +kernel
theorem dX9_takeRest_52 : decode cX9_takeRest 52 = .ok (.invokevirtual 117, 3) := by decide +kernel
theorem dX9_takeRest_55 : decode cX9_takeRest 55 = .ok (.iload 4, 2) := by decide +kernel
theorem dX9_takeRest_57 : decode cX9_takeRest 57 = .ok (.ifCond .le 21, 3) := by decide +kernel
theorem dX9_takeRest_60 : decode cX9_takeRest 60 = .ok (.aload_n 0, 1) := by decide +kernel
theorem dX9_takeRest_61 : decode cX9_takeRest 61 = .ok (.aload_n 0, 1) := by decide +kernel
theorem dX9_takeRest_62 : decode cX9_takeRest 62 = .ok (.invokevirtual 114, 3) := by decide +kernel
theorem dX9_takeRest_65 : decode cX9_takeRest 65 = .ok (.iload 4, 2) := by decide +kernel
theorem dX9_takeRest_67 : decode cX9_takeRest 67 = .ok (.if_icmp .ne 7, 3) := by decide +kernel
theorem dX9_takeRest_70 : decode cX9_takeRest 70 = .ok (.iconst 1, 1) := by decide +kernel
theorem dX9_takeRest_71 : decode cX9_takeRest 71 = .ok (.goto 4, 3) := by decide +kernel
theorem dX9_takeRest_74 : decode cX9_takeRest 74 = .ok (.iconst 0, 1) := by decide +kernel
theorem dX9_takeRest_75 : decode cX9_takeRest 75 = .ok (.invokevirtual 117, 3) := by decide +kernel
theorem dX9_takeRest_78 : decode cX9_takeRest 78 = .ok (.return_, 1) := by decide +kernel
theorem dX9_takeNumber_0 : decode cX9_takeNumber 0 = .ok (.aload_n 0, 1) := by decide +kernel
theorem dX9_takeNumber_1 : decode cX9_takeNumber 1 = .ok (.aload_n 0, 1) := by decide +kernel
theorem dX9_takeNumber_2 : decode cX9_takeNumber 2 = .ok (.invokevirtual 114, 3) := by decide +kernel
theorem dX9_takeNumber_5 : decode cX9_takeNumber 5 = .ok (.bipush 32, 2) := by decide +kernel
theorem dX9_takeNumber_7 : decode cX9_takeNumber 7 = .ok (.if_icmp .ne 7, 3) := by decide +kernel
theorem dX9_takeNumber_10 : decode cX9_takeNumber 10 = .ok (.iconst 1, 1) := by decide +kernel
theorem dX9_takeNumber_11 : decode cX9_takeNumber 11 = .ok (.goto 4, 3) := by decide +kernel
theorem dX9_takeNumber_14 : decode cX9_takeNumber 14 = .ok (.iconst 0, 1) := by decide +kernel
theorem dX9_takeNumber_15 : decode cX9_takeNumber 15 = .ok (.invokevirtual 117, 3) := by decide +kernel
theorem dX9_takeNumber_18 : decode cX9_takeNumber 18 = .ok (.aload_n 0, 1) := by decide +kernel
theorem dX9_takeNumber_19 : decode cX9_takeNumber 19 = .ok (.invokevirtual 114, 3) := by decide +kernel
theorem dX9_takeNumber_22 : decode cX9_takeNumber 22 = .ok (.bipush 48, 2) := by decide +kernel
theorem dX9_takeNumber_24 : decode cX9_takeNumber 24 = .ok (.isub, 1) := by decide +kernel
theorem dX9_takeNumber_25 : decode cX9_takeNumber 25 = .ok (.istore_n 2, 1) := by decide +kernel
theorem dX9_takeNumber_26 : decode cX9_takeNumber 26 = .ok (.aload_n 0, 1) := by decide +kernel
theorem dX9_takeNumber_27 : decode cX9_takeNumber 27 = .ok (.iload_n 2, 1) := by decide +kernel
theorem dX9_takeNumber_28 : decode cX9_takeNumber 28 = .ok (.iconst 0, 1) := by decide +kernel
theorem dX9_takeNumber_29 : decode cX9_takeNumber 29 = .ok (.bipush 9, 2) := by decide +kernel
theorem dX9_takeNumber_31 : decode cX9_takeNumber 31 = .ok (.invokestatic 28, 3) := by decide +kernel
theorem dX9_takeNumber_34 : decode cX9_takeNumber 34 = .ok (.ifCond .eq 12, 3) := by decide +kernel
theorem dX9_takeNumber_37 : decode cX9_takeNumber 37 = .ok (.iload_n 2, 1) := by decide +kernel
theorem dX9_takeNumber_38 : decode cX9_takeNumber 38 = .ok (.iload_n 1, 1) := by decide +kernel
theorem dX9_takeNumber_39 : decode cX9_takeNumber 39 = .ok (.if_icmp .gt 7, 3) := by decide +kernel
theorem dX9_takeNumber_42 : decode cX9_takeNumber 42 = .ok (.iconst 1, 1) := by decide +kernel
theorem dX9_takeNumber_43 : decode cX9_takeNumber 43 = .ok (.goto 4, 3) := by decide +kernel
theorem dX9_takeNumber_46 : decode cX9_takeNumber 46 = .ok (.iconst 0, 1) := by decide +kernel
theorem dX9_takeNumber_47 : decode cX9_takeNumber 47 = .ok (.invokevirtual 117, 3) := by decide +kernel
theorem dX9_takeNumber_50 : decode cX9_takeNumber 50 = .ok (.aload_n 0, 1) := by decide +kernel
theorem dX9_takeNumber_51 : decode cX9_takeNumber 51 = .ok (.getfield 111, 3) := by decide +kernel
theorem dX9_takeNumber_54 : decode cX9_takeNumber 54 = .ok (.ifCond .ne 63, 3) := by decide +kernel
theorem dX9_takeNumber_57 : decode cX9_takeNumber 57 = .ok (.iload_n 2, 1) := by decide +kernel
theorem dX9_takeNumber_58 : decode cX9_takeNumber 58 = .ok (.ifCond .le 59, 3) := by decide +kernel
theorem dX9_takeNumber_61 : decode cX9_takeNumber 61 = .ok (.aload_n 0, 1) := by decide +kernel
theorem dX9_takeNumber_62 : decode cX9_takeNumber 62 = .ok (.invokevirtual 114, 3) := by decide +kernel
theorem dX9_takeNumber_65 : decode cX9_takeNumber 65 = .ok (.bipush 48, 2) := by decide +kernel
theorem dX9_takeNumber_67 : decode cX9_takeNumber 67 = .ok (.bipush 57, 2) := by decide +kernel
theorem dX9_takeNumber_69 : decode cX9_takeNumber 69 = .ok (.invokestatic 28, 3) := by decide +kernel
theorem dX9_takeNumber_72 : decode cX9_takeNumber 72 = .ok (.ifCond .eq 45, 3) := by decide +kernel
theorem dX9_takeNumber_75 : decode cX9_takeNumber 75 = .ok (.bipush 10, 2) := by decide +kernel
theorem dX9_takeNumber_77 : decode cX9_takeNumber 77 = .ok (.iload_n 2, 1) := by decide +kernel
theorem dX9_takeNumber_78 : decode cX9_takeNumber 78 = .ok (.imul, 1) := by decide +kernel
theorem dX9_takeNumber_79 : decode cX9_takeNumber 79 = .ok (.aload_n 0, 1) := by decide +kernel
theorem dX9_takeNumber_80 : decode cX9_takeNumber 80 = .ok (.invokevirtual 114, 3) := by decide +kernel
theorem dX9_takeNumber_83 : decode cX9_takeNumber 83 = .ok (.iadd, 1) := by decide +kernel
theorem dX9_takeNumber_84 : decode cX9_takeNumber 84 = .ok (.bipush 48, 2) := by decide +kernel
theorem dX9_takeNumber_86 : decode cX9_takeNumber 86 = .ok (.isub, 1) := by decide +kernel
theorem dX9_takeNumber_87 : decode cX9_takeNumber 87 = .ok (.iload_n 1, 1) := by decide +kernel
theorem dX9_takeNumber_88 : decode cX9_takeNumber 88 = .ok (.if_icmp .gt 29, 3) := by decide +kernel
theorem dX9_takeNumber_91 : decode cX9_takeNumber 91 = .ok (.bipush 10, 2) := by decide +kernel
theorem dX9_takeNumber_93 : decode cX9_takeNumber 93 = .ok (.iload_n 2, 1) := by decide +kernel
theorem dX9_takeNumber_94 : decode cX9_takeNumber 94 = .ok (.imul, 1) := by decide +kernel
theorem dX9_takeNumber_95 : decode cX9_takeNumber 95 = .ok (.aload_n 0, 1) := by decide +kernel
theorem dX9_takeNumber_96 : decode cX9_takeNumber 96 = .ok (.invokevirtual 114, 3) := by decide +kernel
theorem dX9_takeNumber_99 : decode cX9_takeNumber 99 = .ok (.iadd, 1) := by decide +kernel
theorem dX9_takeNumber_100 : decode cX9_takeNumber 100 = .ok (.bipush 48, 2) := by decide +kernel
theorem dX9_takeNumber_102 : decode cX9_takeNumber 102 = .ok (.isub, 1) := by decide +kernel
theorem dX9_takeNumber_103 : decode cX9_takeNumber 103 = .ok (.istore_n 2, 1) := by decide +kernel
theorem dX9_takeNumber_104 : decode cX9_takeNumber 104 = .ok (.aload_n 0, 1) := by decide +kernel
theorem dX9_takeNumber_105 : decode cX9_takeNumber 105 = .ok (.dup, 1) := by decide +kernel
theorem dX9_takeNumber_106 : decode cX9_takeNumber 106 = .ok (.getfield 108, 3) := by decide +kernel
theorem dX9_takeNumber_109 : decode cX9_takeNumber 109 = .ok (.iconst 1, 1) := by decide +kernel
theorem dX9_takeNumber_110 : decode cX9_takeNumber 110 = .ok (.iadd, 1) := by decide +kernel
theorem dX9_takeNumber_111 : decode cX9_takeNumber 111 = .ok (.putfield 108, 3) := by decide +kernel
theorem dX9_takeNumber_114 : decode cX9_takeNumber 114 = .ok (.goto (-64), 3) := by decide +kernel
theorem dX9_takeNumber_117 : decode cX9_takeNumber 117 = .ok (.iload_n 2, 1) := by decide +kernel
theorem dX9_takeNumber_118 : decode cX9_takeNumber 118 = .ok (.ireturn, 1) := by decide +kernel
theorem dX9_takeOrder_0 : decode cX9_takeOrder 0 = .ok (.aload_n 0, 1) := by decide +kernel
theorem dX9_takeOrder_1 : decode cX9_takeOrder 1 = .ok (.invokevirtual 114, 3) := by decide +kernel
theorem dX9_takeOrder_4 : decode cX9_takeOrder 4 = .ok (.istore_n 1, 1) := by decide +kernel
theorem dX9_takeOrder_5 : decode cX9_takeOrder 5 = .ok (.aload_n 0, 1) := by decide +kernel
theorem dX9_takeOrder_6 : decode cX9_takeOrder 6 = .ok (.iload_n 1, 1) := by decide +kernel
theorem dX9_takeOrder_7 : decode cX9_takeOrder 7 = .ok (.bipush 104, 2) := by decide +kernel
theorem dX9_takeOrder_9 : decode cX9_takeOrder 9 = .ok (.if_icmp .eq 51, 3) := by decide +kernel
theorem dX9_takeOrder_12 : decode cX9_takeOrder 12 = .ok (.iload_n 1, 1) := by decide +kernel
theorem dX9_takeOrder_13 : decode cX9_takeOrder 13 = .ok (.bipush 108, 2) := by decide +kernel
theorem dX9_takeOrder_15 : decode cX9_takeOrder 15 = .ok (.if_icmp .eq 45, 3) := by decide +kernel
theorem dX9_takeOrder_18 : decode cX9_takeOrder 18 = .ok (.iload_n 1, 1) := by decide +kernel
theorem dX9_takeOrder_19 : decode cX9_takeOrder 19 = .ok (.bipush 97, 2) := by decide +kernel
theorem dX9_takeOrder_21 : decode cX9_takeOrder 21 = .ok (.if_icmp .eq 39, 3) := by decide +kernel
theorem dX9_takeOrder_24 : decode cX9_takeOrder 24 = .ok (.iload_n 1, 1) := by decide +kernel
theorem dX9_takeOrder_25 : decode cX9_takeOrder 25 = .ok (.bipush 115, 2) := by decide +kernel
theorem dX9_takeOrder_27 : decode cX9_takeOrder 27 = .ok (.if_icmp .eq 33, 3) := by decide +kernel
theorem dX9_takeOrder_30 : decode cX9_takeOrder 30 = .ok (.iload_n 1, 1) := by decide +kernel
theorem dX9_takeOrder_31 : decode cX9_takeOrder 31 = .ok (.bipush 106, 2) := by decide +kernel
theorem dX9_takeOrder_33 : decode cX9_takeOrder 33 = .ok (.if_icmp .eq 27, 3) := by decide +kernel
theorem dX9_takeOrder_36 : decode cX9_takeOrder 36 = .ok (.iload_n 1, 1) := by decide +kernel
theorem dX9_takeOrder_37 : decode cX9_takeOrder 37 = .ok (.bipush 122, 2) := by decide +kernel
theorem dX9_takeOrder_39 : decode cX9_takeOrder 39 = .ok (.if_icmp .eq 21, 3) := by decide +kernel
theorem dX9_takeOrder_42 : decode cX9_takeOrder 42 = .ok (.iload_n 1, 1) := by decide +kernel
theorem dX9_takeOrder_43 : decode cX9_takeOrder 43 = .ok (.bipush 99, 2) := by decide +kernel
theorem dX9_takeOrder_45 : decode cX9_takeOrder 45 = .ok (.if_icmp .eq 15, 3) := by decide +kernel
theorem dX9_takeOrder_48 : decode cX9_takeOrder 48 = .ok (.iload_n 1, 1) := by decide +kernel
theorem dX9_takeOrder_49 : decode cX9_takeOrder 49 = .ok (.bipush 98, 2) := by decide +kernel
theorem dX9_takeOrder_51 : decode cX9_takeOrder 51 = .ok (.if_icmp .eq 9, 3) := by decide +kernel
theorem dX9_takeOrder_54 : decode cX9_takeOrder 54 = .ok (.iload_n 1, 1) := by decide +kernel
theorem dX9_takeOrder_55 : decode cX9_takeOrder 55 = .ok (.bipush 112, 2) := by decide +kernel
theorem dX9_takeOrder_57 : decode cX9_takeOrder 57 = .ok (.if_icmp .ne 7, 3) := by decide +kernel
theorem dX9_takeOrder_60 : decode cX9_takeOrder 60 = .ok (.iconst 1, 1) := by decide +kernel
theorem dX9_takeOrder_61 : decode cX9_takeOrder 61 = .ok (.goto 4, 3) := by decide +kernel
theorem dX9_takeOrder_64 : decode cX9_takeOrder 64 = .ok (.iconst 0, 1) := by decide +kernel
theorem dX9_takeOrder_65 : decode cX9_takeOrder 65 = .ok (.invokevirtual 117, 3) := by decide +kernel
theorem dX9_takeOrder_68 : decode cX9_takeOrder 68 = .ok (.aload_n 0, 1) := by decide +kernel
theorem dX9_takeOrder_69 : decode cX9_takeOrder 69 = .ok (.getfield 111, 3) := by decide +kernel
theorem dX9_takeOrder_72 : decode cX9_takeOrder 72 = .ok (.ifCond .eq 5, 3) := by decide +kernel
theorem dX9_takeOrder_75 : decode cX9_takeOrder 75 = .ok (.iconst 0, 1) := by decide +kernel
theorem dX9_takeOrder_76 : decode cX9_takeOrder 76 = .ok (.ireturn, 1) := by decide +kernel
theorem dX9_takeOrder_77 : decode cX9_takeOrder 77 = .ok (.iload_n 1, 1) := by decide +kernel
theorem dX9_takeOrder_78 : decode cX9_takeOrder 78 = .ok (.tableswitch 286 97 122 #[152, 249, 217, 286, 286, 286, 286, 118, 286, 173, 286, 131, 286, 286, 286, 264, 286, 286, 286, 286, 286, 286, 286, 286, 286, 195], 118) := by decide +kernel
theorem dX9_takeOrder_196 : decode cX9_takeOrder 196 = .ok (.aload_n 0, 1) := by decide +kernel
theorem dX9_takeOrder_197 : decode cX9_takeOrder 197 = .ok (.bipush 97, 2) := by decide +kernel
theorem dX9_takeOrder_199 : decode cX9_takeOrder 199 = .ok (.bipush 108, 2) := by decide +kernel
theorem dX9_takeOrder_201 : decode cX9_takeOrder 201 = .ok (.bipush 116, 2) := by decide +kernel
theorem dX9_takeOrder_203 : decode cX9_takeOrder 203 = .ok (.iconst 0, 1) := by decide +kernel
theorem dX9_takeOrder_204 : decode cX9_takeOrder 204 = .ok (.invokevirtual 121, 3) := by decide +kernel
theorem dX9_takeOrder_207 : decode cX9_takeOrder 207 = .ok (.iconst 0, 1) := by decide +kernel
theorem dX9_takeOrder_208 : decode cX9_takeOrder 208 = .ok (.ireturn, 1) := by decide +kernel
theorem dX9_takeOrder_209 : decode cX9_takeOrder 209 = .ok (.aload_n 0, 1) := by decide +kernel
theorem dX9_takeOrder_210 : decode cX9_takeOrder 210 = .ok (.bipush 111, 2) := by decide +kernel
theorem dX9_takeOrder_212 : decode cX9_takeOrder 212 = .ok (.bipush 97, 2) := by decide +kernel
theorem dX9_takeOrder_214 : decode cX9_takeOrder 214 = .ok (.bipush 100, 2) := by decide +kernel
theorem dX9_takeOrder_216 : decode cX9_takeOrder 216 = .ok (.iconst 0, 1) := by decide +kernel
theorem dX9_takeOrder_217 : decode cX9_takeOrder 217 = .ok (.invokevirtual 121, 3) := by decide +kernel
theorem dX9_takeOrder_220 : decode cX9_takeOrder 220 = .ok (.bipush 100, 2) := by decide +kernel
theorem dX9_takeOrder_222 : decode cX9_takeOrder 222 = .ok (.aload_n 0, 1) := by decide +kernel
theorem dX9_takeOrder_223 : decode cX9_takeOrder 223 = .ok (.bipush 99, 2) := by decide +kernel
theorem dX9_takeOrder_225 : decode cX9_takeOrder 225 = .ok (.invokevirtual 125, 3) := by decide +kernel
theorem dX9_takeOrder_228 : decode cX9_takeOrder 228 = .ok (.iadd, 1) := by decide +kernel
theorem dX9_takeOrder_229 : decode cX9_takeOrder 229 = .ok (.ireturn, 1) := by decide +kernel
theorem dX9_takeOrder_230 : decode cX9_takeOrder 230 = .ok (.aload_n 0, 1) := by decide +kernel
theorem dX9_takeOrder_231 : decode cX9_takeOrder 231 = .ok (.bipush 100, 2) := by decide +kernel
theorem dX9_takeOrder_233 : decode cX9_takeOrder 233 = .ok (.bipush 100, 2) := by decide +kernel
theorem dX9_takeOrder_235 : decode cX9_takeOrder 235 = .ok (.iconst 0, 1) := by decide +kernel
theorem dX9_takeOrder_236 : decode cX9_takeOrder 236 = .ok (.iconst 0, 1) := by decide +kernel
theorem dX9_takeOrder_237 : decode cX9_takeOrder 237 = .ok (.invokevirtual 121, 3) := by decide +kernel
theorem dX9_takeOrder_240 : decode cX9_takeOrder 240 = .ok (.sipush 200, 3) := by decide +kernel
theorem dX9_takeOrder_243 : decode cX9_takeOrder 243 = .ok (.aload_n 0, 1) := by decide +kernel
theorem dX9_takeOrder_244 : decode cX9_takeOrder 244 = .ok (.bipush 63, 2) := by decide +kernel
theorem dX9_takeOrder_246 : decode cX9_takeOrder 246 = .ok (.invokevirtual 125, 3) := by decide +kernel
theorem dX9_takeOrder_249 : decode cX9_takeOrder 249 = .ok (.iadd, 1) := by decide +kernel
theorem dX9_takeOrder_250 : decode cX9_takeOrder 250 = .ok (.ireturn, 1) := by decide +kernel
theorem dX9_takeOrder_251 : decode cX9_takeOrder 251 = .ok (.aload_n 0, 1) := by decide +kernel
theorem dX9_takeOrder_252 : decode cX9_takeOrder 252 = .ok (.bipush 117, 2) := by decide +kernel
theorem dX9_takeOrder_254 : decode cX9_takeOrder 254 = .ok (.bipush 109, 2) := by decide +kernel
theorem dX9_takeOrder_256 : decode cX9_takeOrder 256 = .ok (.bipush 112, 2) := by decide +kernel
theorem dX9_takeOrder_258 : decode cX9_takeOrder 258 = .ok (.iconst 0, 1) := by decide +kernel
theorem dX9_takeOrder_259 : decode cX9_takeOrder 259 = .ok (.invokevirtual 121, 3) := by decide +kernel
theorem dX9_takeOrder_262 : decode cX9_takeOrder 262 = .ok (.sipush 400, 3) := by decide +kernel
theorem dX9_takeOrder_265 : decode cX9_takeOrder 265 = .ok (.aload_n 0, 1) := by decide +kernel
theorem dX9_takeOrder_266 : decode cX9_takeOrder 266 = .ok (.bipush 63, 2) := by decide +kernel
theorem dX9_takeOrder_268 : decode cX9_takeOrder 268 = .ok (.invokevirtual 125, 3) := by decide +kernel
theorem dX9_takeOrder_271 : decode cX9_takeOrder 271 = .ok (.iadd, 1) := by decide +kernel
theorem dX9_takeOrder_272 : decode cX9_takeOrder 272 = .ok (.ireturn, 1) := by decide +kernel
theorem dX9_takeOrder_273 : decode cX9_takeOrder 273 = .ok (.aload_n 0, 1) := by decide +kernel
theorem dX9_takeOrder_274 : decode cX9_takeOrder 274 = .ok (.bipush 101, 2) := by decide +kernel
theorem dX9_takeOrder_276 : decode cX9_takeOrder 276 = .ok (.bipush 114, 2) := by decide +kernel
theorem dX9_takeOrder_278 : decode cX9_takeOrder 278 = .ok (.bipush 111, 2) := by decide +kernel
theorem dX9_takeOrder_280 : decode cX9_takeOrder 280 = .ok (.iconst 0, 1) := by decide +kernel
theorem dX9_takeOrder_281 : decode cX9_takeOrder 281 = .ok (.invokevirtual 121, 3) := by decide +kernel
theorem dX9_takeOrder_284 : decode cX9_takeOrder 284 = .ok (.sipush 500, 3) := by decide +kernel
theorem dX9_takeOrder_287 : decode cX9_takeOrder 287 = .ok (.aload_n 0, 1) := by decide +kernel
theorem dX9_takeOrder_288 : decode cX9_takeOrder 288 = .ok (.bipush 63, 2) := by decide +kernel
theorem dX9_takeOrder_290 : decode cX9_takeOrder 290 = .ok (.invokevirtual 125, 3) := by decide +kernel
theorem dX9_takeOrder_293 : decode cX9_takeOrder 293 = .ok (.iadd, 1) := by decide +kernel
theorem dX9_takeOrder_294 : decode cX9_takeOrder 294 = .ok (.ireturn, 1) := by decide +kernel
theorem dX9_takeOrder_295 : decode cX9_takeOrder 295 = .ok (.aload_n 0, 1) := by decide +kernel
theorem dX9_takeOrder_296 : decode cX9_takeOrder 296 = .ok (.bipush 97, 2) := by decide +kernel
theorem dX9_takeOrder_298 : decode cX9_takeOrder 298 = .ok (.bipush 108, 2) := by decide +kernel
theorem dX9_takeOrder_300 : decode cX9_takeOrder 300 = .ok (.bipush 108, 2) := by decide +kernel
theorem dX9_takeOrder_302 : decode cX9_takeOrder 302 = .ok (.iconst 0, 1) := by decide +kernel
theorem dX9_takeOrder_303 : decode cX9_takeOrder 303 = .ok (.invokevirtual 121, 3) := by decide +kernel
theorem dX9_takeOrder_306 : decode cX9_takeOrder 306 = .ok (.sipush 700, 3) := by decide +kernel
theorem dX9_takeOrder_309 : decode cX9_takeOrder 309 = .ok (.bipush 10, 2) := by decide +kernel
theorem dX9_takeOrder_311 : decode cX9_takeOrder 311 = .ok (.aload_n 0, 1) := by decide +kernel
theorem dX9_takeOrder_312 : decode cX9_takeOrder 312 = .ok (.bipush 7, 2) := by decide +kernel
theorem dX9_takeOrder_314 : decode cX9_takeOrder 314 = .ok (.invokevirtual 125, 3) := by decide +kernel
theorem dX9_takeOrder_317 : decode cX9_takeOrder 317 = .ok (.imul, 1) := by decide +kernel
theorem dX9_takeOrder_318 : decode cX9_takeOrder 318 = .ok (.iadd, 1) := by decide +kernel
theorem dX9_takeOrder_319 : decode cX9_takeOrder 319 = .ok (.aload_n 0, 1) := by decide +kernel
theorem dX9_takeOrder_320 : decode cX9_takeOrder 320 = .ok (.bipush 9, 2) := by decide +kernel
theorem dX9_takeOrder_322 : decode cX9_takeOrder 322 = .ok (.invokevirtual 125, 3) := by decide +kernel
theorem dX9_takeOrder_325 : decode cX9_takeOrder 325 = .ok (.iadd, 1) := by decide +kernel
theorem dX9_takeOrder_326 : decode cX9_takeOrder 326 = .ok (.ireturn, 1) := by decide +kernel
theorem dX9_takeOrder_327 : decode cX9_takeOrder 327 = .ok (.aload_n 0, 1) := by decide +kernel
theorem dX9_takeOrder_328 : decode cX9_takeOrder 328 = .ok (.bipush 97, 2) := by decide +kernel
theorem dX9_takeOrder_330 : decode cX9_takeOrder 330 = .ok (.bipush 99, 2) := by decide +kernel
theorem dX9_takeOrder_332 : decode cX9_takeOrder 332 = .ok (.bipush 107, 2) := by decide +kernel
theorem dX9_takeOrder_334 : decode cX9_takeOrder 334 = .ok (.iconst 0, 1) := by decide +kernel
theorem dX9_takeOrder_335 : decode cX9_takeOrder 335 = .ok (.invokevirtual 121, 3) := by decide +kernel
theorem dX9_takeOrder_338 : decode cX9_takeOrder 338 = .ok (.sipush 800, 3) := by decide +kernel
theorem dX9_takeOrder_341 : decode cX9_takeOrder 341 = .ok (.ireturn, 1) := by decide +kernel
theorem dX9_takeOrder_342 : decode cX9_takeOrder 342 = .ok (.aload_n 0, 1) := by decide +kernel
theorem dX9_takeOrder_343 : decode cX9_takeOrder 343 = .ok (.bipush 108, 2) := by decide +kernel
theorem dX9_takeOrder_345 : decode cX9_takeOrder 345 = .ok (.bipush 117, 2) := by decide +kernel
theorem dX9_takeOrder_347 : decode cX9_takeOrder 347 = .ok (.bipush 115, 2) := by decide +kernel
theorem dX9_takeOrder_349 : decode cX9_takeOrder 349 = .ok (.iconst 0, 1) := by decide +kernel
theorem dX9_takeOrder_350 : decode cX9_takeOrder 350 = .ok (.invokevirtual 121, 3) := by decide +kernel
theorem dX9_takeOrder_353 : decode cX9_takeOrder 353 = .ok (.sipush 900, 3) := by decide +kernel
theorem dX9_takeOrder_356 : decode cX9_takeOrder 356 = .ok (.aload_n 0, 1) := by decide +kernel
theorem dX9_takeOrder_357 : decode cX9_takeOrder 357 = .ok (.bipush 99, 2) := by decide +kernel
theorem dX9_takeOrder_359 : decode cX9_takeOrder 359 = .ok (.invokevirtual 125, 3) := by decide +kernel
theorem dX9_takeOrder_362 : decode cX9_takeOrder 362 = .ok (.iadd, 1) := by decide +kernel
theorem dX9_takeOrder_363 : decode cX9_takeOrder 363 = .ok (.ireturn, 1) := by decide +kernel
theorem dX9_takeOrder_364 : decode cX9_takeOrder 364 = .ok (.aload_n 0, 1) := by decide +kernel
theorem dX9_takeOrder_365 : decode cX9_takeOrder 365 = .ok (.invokevirtual 114, 3) := by decide +kernel
theorem dX9_takeOrder_368 : decode cX9_takeOrder 368 = .ok (.bipush 116, 2) := by decide +kernel
theorem dX9_takeOrder_370 : decode cX9_takeOrder 370 = .ok (.if_icmp .ne 26, 3) := by decide +kernel
theorem dX9_takeOrder_373 : decode cX9_takeOrder 373 = .ok (.aload_n 0, 1) := by decide +kernel
theorem dX9_takeOrder_374 : decode cX9_takeOrder 374 = .ok (.bipush 116, 2) := by decide +kernel
theorem dX9_takeOrder_376 : decode cX9_takeOrder 376 = .ok (.bipush 111, 2) := by decide +kernel
theorem dX9_takeOrder_378 : decode cX9_takeOrder 378 = .ok (.bipush 114, 2) := by decide +kernel
theorem dX9_takeOrder_380 : decode cX9_takeOrder 380 = .ok (.bipush 101, 2) := by decide +kernel
theorem dX9_takeOrder_382 : decode cX9_takeOrder 382 = .ok (.invokevirtual 121, 3) := by decide +kernel
theorem dX9_takeOrder_385 : decode cX9_takeOrder 385 = .ok (.sipush 300, 3) := by decide +kernel
theorem dX9_takeOrder_388 : decode cX9_takeOrder 388 = .ok (.aload_n 0, 1) := by decide +kernel
theorem dX9_takeOrder_389 : decode cX9_takeOrder 389 = .ok (.bipush 63, 2) := by decide +kernel
theorem dX9_takeOrder_391 : decode cX9_takeOrder 391 = .ok (.invokevirtual 125, 3) := by decide +kernel
theorem dX9_takeOrder_394 : decode cX9_takeOrder 394 = .ok (.iadd, 1) := by decide +kernel
theorem dX9_takeOrder_395 : decode cX9_takeOrder 395 = .ok (.ireturn, 1) := by decide +kernel
theorem dX9_takeOrder_396 : decode cX9_takeOrder 396 = .ok (.aload_n 0, 1) := by decide +kernel
theorem dX9_takeOrder_397 : decode cX9_takeOrder 397 = .ok (.bipush 104, 2) := by decide +kernel
theorem dX9_takeOrder_399 : decode cX9_takeOrder 399 = .ok (.bipush 111, 2) := by decide +kernel
theorem dX9_takeOrder_401 : decode cX9_takeOrder 401 = .ok (.bipush 119, 2) := by decide +kernel
theorem dX9_takeOrder_403 : decode cX9_takeOrder 403 = .ok (.iconst 0, 1) := by decide +kernel
theorem dX9_takeOrder_404 : decode cX9_takeOrder 404 = .ok (.invokevirtual 121, 3) := by decide +kernel
theorem dX9_takeOrder_407 : decode cX9_takeOrder 407 = .ok (.sipush 600, 3) := by decide +kernel
theorem dX9_takeOrder_410 : decode cX9_takeOrder 410 = .ok (.bipush 10, 2) := by decide +kernel
theorem dX9_takeOrder_412 : decode cX9_takeOrder 412 = .ok (.aload_n 0, 1) := by decide +kernel
theorem dX9_takeOrder_413 : decode cX9_takeOrder 413 = .ok (.iconst 3, 1) := by decide +kernel
theorem dX9_takeOrder_414 : decode cX9_takeOrder 414 = .ok (.invokevirtual 125, 3) := by decide +kernel
theorem dX9_takeOrder_417 : decode cX9_takeOrder 417 = .ok (.imul, 1) := by decide +kernel
theorem dX9_takeOrder_418 : decode cX9_takeOrder 418 = .ok (.iadd, 1) := by decide +kernel
theorem dX9_takeOrder_419 : decode cX9_takeOrder 419 = .ok (.aload_n 0, 1) := by decide +kernel
theorem dX9_takeOrder_420 : decode cX9_takeOrder 420 = .ok (.bipush 7, 2) := by decide +kernel
theorem dX9_takeOrder_422 : decode cX9_takeOrder 422 = .ok (.invokevirtual 125, 3) := by decide +kernel
theorem dX9_takeOrder_425 : decode cX9_takeOrder 425 = .ok (.iadd, 1) := by decide +kernel
theorem dX9_takeOrder_426 : decode cX9_takeOrder 426 = .ok (.ireturn, 1) := by decide +kernel
theorem dX9_findFault_0 : decode cX9_findFault 0 = .ok (.aload_n 0, 1) := by decide +kernel
theorem dX9_findFault_1 : decode cX9_findFault 1 = .ok (.iconst 0, 1) := by decide +kernel
theorem dX9_findFault_2 : decode cX9_findFault 2 = .ok (.putfield 108, 3) := by decide +kernel
theorem dX9_findFault_5 : decode cX9_findFault 5 = .ok (.aload_n 0, 1) := by decide +kernel
theorem dX9_findFault_6 : decode cX9_findFault 6 = .ok (.iconst 0, 1) := by decide +kernel
theorem dX9_findFault_7 : decode cX9_findFault 7 = .ok (.putfield 111, 3) := by decide +kernel
theorem dX9_findFault_10 : decode cX9_findFault 10 = .ok (.aload_n 0, 1) := by decide +kernel
theorem dX9_findFault_11 : decode cX9_findFault 11 = .ok (.iconst 0, 1) := by decide +kernel
theorem dX9_findFault_12 : decode cX9_findFault 12 = .ok (.putfield 128, 3) := by decide +kernel
theorem dX9_findFault_15 : decode cX9_findFault 15 = .ok (.aload_n 0, 1) := by decide +kernel
theorem dX9_findFault_16 : decode cX9_findFault 16 = .ok (.invokevirtual 131, 3) := by decide +kernel
theorem dX9_findFault_19 : decode cX9_findFault 19 = .ok (.istore_n 1, 1) := by decide +kernel
theorem dX9_findFault_20 : decode cX9_findFault 20 = .ok (.aload_n 0, 1) := by decide +kernel
theorem dX9_findFault_21 : decode cX9_findFault 21 = .ok (.getfield 111, 3) := by decide +kernel
theorem dX9_findFault_24 : decode cX9_findFault 24 = .ok (.ifCond .eq 8, 3) := by decide +kernel
theorem dX9_findFault_27 : decode cX9_findFault 27 = .ok (.aload_n 0, 1) := by decide +kernel
theorem dX9_findFault_28 : decode cX9_findFault 28 = .ok (.getfield 108, 3) := by decide +kernel
theorem dX9_findFault_31 : decode cX9_findFault 31 = .ok (.ireturn, 1) := by decide +kernel
theorem dX9_findFault_32 : decode cX9_findFault 32 = .ok (.aload_n 0, 1) := by decide +kernel
theorem dX9_findFault_33 : decode cX9_findFault 33 = .ok (.getfield 128, 3) := by decide +kernel
theorem dX9_findFault_36 : decode cX9_findFault 36 = .ok (.bipush 16, 2) := by decide +kernel
theorem dX9_findFault_38 : decode cX9_findFault 38 = .ok (.if_icmp .ge 13, 3) := by decide +kernel
theorem dX9_findFault_41 : decode cX9_findFault 41 = .ok (.aload_n 0, 1) := by decide +kernel
theorem dX9_findFault_42 : decode cX9_findFault 42 = .ok (.getfield 25, 3) := by decide +kernel
theorem dX9_findFault_45 : decode cX9_findFault 45 = .ok (.aload_n 0, 1) := by decide +kernel
theorem dX9_findFault_46 : decode cX9_findFault 46 = .ok (.getfield 128, 3) := by decide +kernel
theorem dX9_findFault_49 : decode cX9_findFault 49 = .ok (.iload_n 1, 1) := by decide +kernel
theorem dX9_findFault_50 : decode cX9_findFault 50 = .ok (.iastore, 1) := by decide +kernel
theorem dX9_findFault_51 : decode cX9_findFault 51 = .ok (.aload_n 0, 1) := by decide +kernel
theorem dX9_findFault_52 : decode cX9_findFault 52 = .ok (.dup, 1) := by decide +kernel
theorem dX9_findFault_53 : decode cX9_findFault 53 = .ok (.getfield 128, 3) := by decide +kernel
theorem dX9_findFault_56 : decode cX9_findFault 56 = .ok (.iconst 1, 1) := by decide +kernel
theorem dX9_findFault_57 : decode cX9_findFault 57 = .ok (.iadd, 1) := by decide +kernel
theorem dX9_findFault_58 : decode cX9_findFault 58 = .ok (.putfield 128, 3) := by decide +kernel
theorem dX9_findFault_61 : decode cX9_findFault 61 = .ok (.aload_n 0, 1) := by decide +kernel
theorem dX9_findFault_62 : decode cX9_findFault 62 = .ok (.getfield 108, 3) := by decide +kernel
theorem dX9_findFault_65 : decode cX9_findFault 65 = .ok (.aload_n 0, 1) := by decide +kernel
theorem dX9_findFault_66 : decode cX9_findFault 66 = .ok (.getfield 105, 3) := by decide +kernel
theorem dX9_findFault_69 : decode cX9_findFault 69 = .ok (.if_icmp .ne 6, 3) := by decide +kernel
theorem dX9_findFault_72 : decode cX9_findFault 72 = .ok (.bipush (-5), 2) := by decide +kernel
theorem dX9_findFault_74 : decode cX9_findFault 74 = .ok (.ireturn, 1) := by decide +kernel
theorem dX9_findFault_75 : decode cX9_findFault 75 = .ok (.aload_n 0, 1) := by decide +kernel
theorem dX9_findFault_76 : decode cX9_findFault 76 = .ok (.aload_n 0, 1) := by decide +kernel
theorem dX9_findFault_77 : decode cX9_findFault 77 = .ok (.invokevirtual 114, 3) := by decide +kernel
theorem dX9_findFault_80 : decode cX9_findFault 80 = .ok (.bipush 59, 2) := by decide +kernel
theorem dX9_findFault_82 : decode cX9_findFault 82 = .ok (.if_icmp .ne 7, 3) := by decide +kernel
theorem dX9_findFault_85 : decode cX9_findFault 85 = .ok (.iconst 1, 1) := by decide +kernel
theorem dX9_findFault_86 : decode cX9_findFault 86 = .ok (.goto 4, 3) := by decide +kernel
theorem dX9_findFault_89 : decode cX9_findFault 89 = .ok (.iconst 0, 1) := by decide +kernel
theorem dX9_findFault_90 : decode cX9_findFault 90 = .ok (.invokevirtual 117, 3) := by decide +kernel
theorem dX9_findFault_93 : decode cX9_findFault 93 = .ok (.aload_n 0, 1) := by decide +kernel
theorem dX9_findFault_94 : decode cX9_findFault 94 = .ok (.getfield 111, 3) := by decide +kernel
theorem dX9_findFault_97 : decode cX9_findFault 97 = .ok (.ifCond .eq 8, 3) := by decide +kernel
theorem dX9_findFault_100 : decode cX9_findFault 100 = .ok (.aload_n 0, 1) := by decide +kernel
theorem dX9_findFault_101 : decode cX9_findFault 101 = .ok (.getfield 108, 3) := by decide +kernel
theorem dX9_findFault_104 : decode cX9_findFault 104 = .ok (.ireturn, 1) := by decide +kernel
theorem dX9_findFault_105 : decode cX9_findFault 105 = .ok (.goto (-90), 3) := by decide +kernel
theorem dX9_assemble_0 : decode cX9_assemble 0 = .ok (.iload_n 1, 1) := by decide +kernel
theorem dX9_assemble_1 : decode cX9_assemble 1 = .ok (.invokestatic 51, 3) := by decide +kernel
theorem dX9_assemble_4 : decode cX9_assemble 4 = .ok (.ifCond .eq 10, 3) := by decide +kernel
theorem dX9_assemble_7 : decode cX9_assemble 7 = .ok (.iload_n 2, 1) := by decide +kernel
theorem dX9_assemble_8 : decode cX9_assemble 8 = .ok (.invokestatic 55, 3) := by decide +kernel
theorem dX9_assemble_11 : decode cX9_assemble 11 = .ok (.ifCond .ne 5, 3) := by decide +kernel
theorem dX9_assemble_14 : decode cX9_assemble 14 = .ok (.iconst (-1), 1) := by decide +kernel
theorem dX9_assemble_15 : decode cX9_assemble 15 = .ok (.ireturn, 1) := by decide +kernel
theorem dX9_assemble_16 : decode cX9_assemble 16 = .ok (.aload_n 0, 1) := by decide +kernel
theorem dX9_assemble_17 : decode cX9_assemble 17 = .ok (.invokevirtual 134, 3) := by decide +kernel
theorem dX9_assemble_20 : decode cX9_assemble 20 = .ok (.istore_n 3, 1) := by decide +kernel
theorem dX9_assemble_21 : decode cX9_assemble 21 = .ok (.iload_n 3, 1) := by decide +kernel
theorem dX9_assemble_22 : decode cX9_assemble 22 = .ok (.ifCond .lt 8, 3) := by decide +kernel
theorem dX9_assemble_25 : decode cX9_assemble 25 = .ok (.bipush (-100), 2) := by decide +kernel
theorem dX9_assemble_27 : decode cX9_assemble 27 = .ok (.iload_n 3, 1) := by decide +kernel
theorem dX9_assemble_28 : decode cX9_assemble 28 = .ok (.isub, 1) := by decide +kernel
theorem dX9_assemble_29 : decode cX9_assemble 29 = .ok (.ireturn, 1) := by decide +kernel
theorem dX9_assemble_30 : decode cX9_assemble 30 = .ok (.iload_n 2, 1) := by decide +kernel
theorem dX9_assemble_31 : decode cX9_assemble 31 = .ok (.aload_n 0, 1) := by decide +kernel
theorem dX9_assemble_32 : decode cX9_assemble 32 = .ok (.getfield 128, 3) := by decide +kernel
theorem dX9_assemble_35 : decode cX9_assemble 35 = .ok (.iadd, 1) := by decide +kernel
theorem dX9_assemble_36 : decode cX9_assemble 36 = .ok (.bipush 16, 2) := by decide +kernel
theorem dX9_assemble_38 : decode cX9_assemble 38 = .ok (.if_icmp .le 6, 3) := by decide +kernel
theorem dX9_assemble_41 : decode cX9_assemble 41 = .ok (.bipush (-3), 2) := by decide +kernel
theorem dX9_assemble_43 : decode cX9_assemble 43 = .ok (.ireturn, 1) := by decide +kernel
theorem dX9_assemble_44 : decode cX9_assemble 44 = .ok (.aload_n 0, 1) := by decide +kernel
theorem dX9_assemble_45 : decode cX9_assemble 45 = .ok (.invokevirtual 48, 3) := by decide +kernel
theorem dX9_assemble_48 : decode cX9_assemble 48 = .ok (.iconst 0, 1) := by decide +kernel
theorem dX9_assemble_49 : decode cX9_assemble 49 = .ok (.istore 4, 2) := by decide +kernel
theorem dX9_assemble_51 : decode cX9_assemble 51 = .ok (.iload 4, 2) := by decide +kernel
theorem dX9_assemble_53 : decode cX9_assemble 53 = .ok (.aload_n 0, 1) := by decide +kernel
theorem dX9_assemble_54 : decode cX9_assemble 54 = .ok (.getfield 128, 3) := by decide +kernel
theorem dX9_assemble_57 : decode cX9_assemble 57 = .ok (.if_icmp .ge 29, 3) := by decide +kernel
theorem dX9_assemble_60 : decode cX9_assemble 60 = .ok (.aload_n 0, 1) := by decide +kernel
theorem dX9_assemble_61 : decode cX9_assemble 61 = .ok (.getfield 7, 3) := by decide +kernel
theorem dX9_assemble_64 : decode cX9_assemble 64 = .ok (.iload_n 1, 1) := by decide +kernel
theorem dX9_assemble_65 : decode cX9_assemble 65 = .ok (.iload_n 2, 1) := by decide +kernel
theorem dX9_assemble_66 : decode cX9_assemble 66 = .ok (.iload 4, 2) := by decide +kernel
theorem dX9_assemble_68 : decode cX9_assemble 68 = .ok (.iadd, 1) := by decide +kernel
theorem dX9_assemble_69 : decode cX9_assemble 69 = .ok (.invokestatic 36, 3) := by decide +kernel
theorem dX9_assemble_72 : decode cX9_assemble 72 = .ok (.aload_n 0, 1) := by decide +kernel
theorem dX9_assemble_73 : decode cX9_assemble 73 = .ok (.getfield 25, 3) := by decide +kernel
theorem dX9_assemble_76 : decode cX9_assemble 76 = .ok (.iload 4, 2) := by decide +kernel
theorem dX9_assemble_78 : decode cX9_assemble 78 = .ok (.iaload, 1) := by decide +kernel
theorem dX9_assemble_79 : decode cX9_assemble 79 = .ok (.iastore, 1) := by decide +kernel
theorem dX9_assemble_80 : decode cX9_assemble 80 = .ok (.iinc 4 1, 3) := by decide +kernel
theorem dX9_assemble_83 : decode cX9_assemble 83 = .ok (.goto (-32), 3) := by decide +kernel
theorem dX9_assemble_86 : decode cX9_assemble 86 = .ok (.aload_n 0, 1) := by decide +kernel
theorem dX9_assemble_87 : decode cX9_assemble 87 = .ok (.getfield 128, 3) := by decide +kernel
theorem dX9_assemble_90 : decode cX9_assemble 90 = .ok (.ireturn, 1) := by decide +kernel
theorem dX9_cell_0 : decode cX9_cell 0 = .ok (.iload_n 1, 1) := by decide +kernel
theorem dX9_cell_1 : decode cX9_cell 1 = .ok (.invokestatic 51, 3) := by decide +kernel
theorem dX9_cell_4 : decode cX9_cell 4 = .ok (.ifCond .eq 23, 3) := by decide +kernel
theorem dX9_cell_7 : decode cX9_cell 7 = .ok (.iload_n 2, 1) := by decide +kernel
theorem dX9_cell_8 : decode cX9_cell 8 = .ok (.invokestatic 55, 3) := by decide +kernel
theorem dX9_cell_11 : decode cX9_cell 11 = .ok (.ifCond .eq 16, 3) := by decide +kernel
theorem dX9_cell_14 : decode cX9_cell 14 = .ok (.aload_n 0, 1) := by decide +kernel
theorem dX9_cell_15 : decode cX9_cell 15 = .ok (.getfield 7, 3) := by decide +kernel
theorem dX9_cell_18 : decode cX9_cell 18 = .ok (.iload_n 1, 1) := by decide +kernel
theorem dX9_cell_19 : decode cX9_cell 19 = .ok (.iload_n 2, 1) := by decide +kernel
theorem dX9_cell_20 : decode cX9_cell 20 = .ok (.invokestatic 36, 3) := by decide +kernel
theorem dX9_cell_23 : decode cX9_cell 23 = .ok (.iaload, 1) := by decide +kernel
theorem dX9_cell_24 : decode cX9_cell 24 = .ok (.goto 4, 3) := by decide +kernel
theorem dX9_cell_27 : decode cX9_cell 27 = .ok (.iconst (-1), 1) := by decide +kernel
theorem dX9_cell_28 : decode cX9_cell 28 = .ok (.ireturn, 1) := by decide +kernel
theorem dX9_sameAs_0 : decode cX9_sameAs 0 = .ok (.bipush (-5), 2) := by decide +kernel
theorem dX9_sameAs_2 : decode cX9_sameAs 2 = .ok (.istore_n 2, 1) := by decide +kernel
theorem dX9_sameAs_3 : decode cX9_sameAs 3 = .ok (.bipush 63, 2) := by decide +kernel
theorem dX9_sameAs_5 : decode cX9_sameAs 5 = .ok (.istore_n 3, 1) := by decide +kernel
theorem dX9_sameAs_6 : decode cX9_sameAs 6 = .ok (.iload_n 3, 1) := by decide +kernel
theorem dX9_sameAs_7 : decode cX9_sameAs 7 = .ok (.ifCond .lt 33, 3) := by decide +kernel
theorem dX9_sameAs_10 : decode cX9_sameAs 10 = .ok (.iload_n 3, 1) := by decide +kernel
theorem dX9_sameAs_11 : decode cX9_sameAs 11 = .ok (.iload_n 1, 1) := by decide +kernel
theorem dX9_sameAs_12 : decode cX9_sameAs 12 = .ok (.if_icmp .eq 20, 3) := by decide +kernel
theorem dX9_sameAs_15 : decode cX9_sameAs 15 = .ok (.aload_n 0, 1) := by decide +kernel
theorem dX9_sameAs_16 : decode cX9_sameAs 16 = .ok (.iload_n 3, 1) := by decide +kernel
theorem dX9_sameAs_17 : decode cX9_sameAs 17 = .ok (.invokevirtual 71, 3) := by decide +kernel
theorem dX9_sameAs_20 : decode cX9_sameAs 20 = .ok (.aload_n 0, 1) := by decide +kernel
theorem dX9_sameAs_21 : decode cX9_sameAs 21 = .ok (.iload_n 1, 1) := by decide +kernel
theorem dX9_sameAs_22 : decode cX9_sameAs 22 = .ok (.invokevirtual 71, 3) := by decide +kernel
theorem dX9_sameAs_25 : decode cX9_sameAs 25 = .ok (.if_icmp .ne 7, 3) := by decide +kernel
theorem dX9_sameAs_28 : decode cX9_sameAs 28 = .ok (.iload_n 3, 1) := by decide +kernel
theorem dX9_sameAs_29 : decode cX9_sameAs 29 = .ok (.goto 4, 3) := by decide +kernel
theorem dX9_sameAs_32 : decode cX9_sameAs 32 = .ok (.iload_n 2, 1) := by decide +kernel
theorem dX9_sameAs_33 : decode cX9_sameAs 33 = .ok (.istore_n 2, 1) := by decide +kernel
theorem dX9_sameAs_34 : decode cX9_sameAs 34 = .ok (.iinc 3 (-1), 3) := by decide +kernel
theorem dX9_sameAs_37 : decode cX9_sameAs 37 = .ok (.goto (-31), 3) := by decide +kernel
theorem dX9_sameAs_40 : decode cX9_sameAs 40 = .ok (.iload_n 2, 1) := by decide +kernel
theorem dX9_sameAs_41 : decode cX9_sameAs 41 = .ok (.ireturn, 1) := by decide +kernel
theorem dX9_address_0 : decode cX9_address 0 = .ok (.iload_n 1, 1) := by decide +kernel
theorem dX9_address_1 : decode cX9_address 1 = .ok (.invokestatic 68, 3) := by decide +kernel
theorem dX9_address_4 : decode cX9_address 4 = .ok (.ifCond .ne 5, 3) := by decide +kernel
theorem dX9_address_7 : decode cX9_address 7 = .ok (.iconst (-1), 1) := by decide +kernel
theorem dX9_address_8 : decode cX9_address 8 = .ok (.ireturn, 1) := by decide +kernel
theorem dX9_address_9 : decode cX9_address 9 = .ok (.iload_n 2, 1) := by decide +kernel
theorem dX9_address_10 : decode cX9_address 10 = .ok (.tableswitch 58 0 3 #[30, 41, 47, 52], 30) := by decide +kernel
theorem dX9_address_40 : decode cX9_address 40 = .ok (.aload_n 0, 1) := by decide +kernel
theorem dX9_address_41 : decode cX9_address 41 = .ok (.getfield 7, 3) := by decide +kernel
theorem dX9_address_44 : decode cX9_address 44 = .ok (.aload_n 0, 1) := by decide +kernel
theorem dX9_address_45 : decode cX9_address 45 = .ok (.iload_n 1, 1) := by decide +kernel
theorem dX9_address_46 : decode cX9_address 46 = .ok (.invokevirtual 71, 3) := by decide +kernel
theorem dX9_address_49 : decode cX9_address 49 = .ok (.iaload, 1) := by decide +kernel
theorem dX9_address_50 : decode cX9_address 50 = .ok (.ireturn, 1) := by decide +kernel
theorem dX9_address_51 : decode cX9_address 51 = .ok (.aload_n 0, 1) := by decide +kernel
theorem dX9_address_52 : decode cX9_address 52 = .ok (.iload_n 1, 1) := by decide +kernel
theorem dX9_address_53 : decode cX9_address 53 = .ok (.invokevirtual 32, 3) := by decide +kernel
theorem dX9_address_56 : decode cX9_address 56 = .ok (.ireturn, 1) := by decide +kernel
theorem dX9_address_57 : decode cX9_address 57 = .ok (.iload_n 1, 1) := by decide +kernel
theorem dX9_address_58 : decode cX9_address 58 = .ok (.bipush 16, 2) := by decide +kernel
theorem dX9_address_60 : decode cX9_address 60 = .ok (.irem, 1) := by decide +kernel
theorem dX9_address_61 : decode cX9_address 61 = .ok (.ireturn, 1) := by decide +kernel
theorem dX9_address_62 : decode cX9_address 62 = .ok (.aload_n 0, 1) := by decide +kernel
theorem dX9_address_63 : decode cX9_address 63 = .ok (.iload_n 1, 1) := by decide +kernel
theorem dX9_address_64 : decode cX9_address 64 = .ok (.invokevirtual 137, 3) := by decide +kernel
theorem dX9_address_67 : decode cX9_address 67 = .ok (.ireturn, 1) := by decide +kernel
theorem dX9_address_68 : decode cX9_address 68 = .ok (.bipush (-2), 2) := by decide +kernel
theorem dX9_address_70 : decode cX9_address 70 = .ok (.ireturn, 1) := by decide +kernel
theorem dX9_windowsOf_0 : decode cX9_windowsOf 0 = .ok (.iconst 0, 1) := by decide +kernel
theorem dX9_windowsOf_1 : decode cX9_windowsOf 1 = .ok (.istore_n 2, 1) := by decide +kernel
theorem dX9_windowsOf_2 : decode cX9_windowsOf 2 = .ok (.iconst 0, 1) := by decide +kernel
theorem dX9_windowsOf_3 : decode cX9_windowsOf 3 = .ok (.istore_n 3, 1) := by decide +kernel
theorem dX9_windowsOf_4 : decode cX9_windowsOf 4 = .ok (.iload_n 3, 1) := by decide +kernel
theorem dX9_windowsOf_5 : decode cX9_windowsOf 5 = .ok (.iconst 4, 1) := by decide +kernel
theorem dX9_windowsOf_6 : decode cX9_windowsOf 6 = .ok (.if_icmp .ge 32, 3) := by decide +kernel
theorem dX9_windowsOf_9 : decode cX9_windowsOf 9 = .ok (.iload_n 2, 1) := by decide +kernel
theorem dX9_windowsOf_10 : decode cX9_windowsOf 10 = .ok (.aload_n 0, 1) := by decide +kernel
theorem dX9_windowsOf_11 : decode cX9_windowsOf 11 = .ok (.getfield 7, 3) := by decide +kernel
theorem dX9_windowsOf_14 : decode cX9_windowsOf 14 = .ok (.bipush 100, 2) := by decide +kernel
theorem dX9_windowsOf_16 : decode cX9_windowsOf 16 = .ok (.iload_n 3, 1) := by decide +kernel
theorem dX9_windowsOf_17 : decode cX9_windowsOf 17 = .ok (.iadd, 1) := by decide +kernel
theorem dX9_windowsOf_18 : decode cX9_windowsOf 18 = .ok (.iaload, 1) := by decide +kernel
theorem dX9_windowsOf_19 : decode cX9_windowsOf 19 = .ok (.iload_n 1, 1) := by decide +kernel
theorem dX9_windowsOf_20 : decode cX9_windowsOf 20 = .ok (.if_icmp .ne 9, 3) := by decide +kernel
theorem dX9_windowsOf_23 : decode cX9_windowsOf 23 = .ok (.iconst 1, 1) := by decide +kernel
theorem dX9_windowsOf_24 : decode cX9_windowsOf 24 = .ok (.iload_n 3, 1) := by decide +kernel
theorem dX9_windowsOf_25 : decode cX9_windowsOf 25 = .ok (.ishl, 1) := by decide +kernel
theorem dX9_windowsOf_26 : decode cX9_windowsOf 26 = .ok (.goto 4, 3) := by decide +kernel
theorem dX9_windowsOf_29 : decode cX9_windowsOf 29 = .ok (.iconst 0, 1) := by decide +kernel
theorem dX9_windowsOf_30 : decode cX9_windowsOf 30 = .ok (.ior, 1) := by decide +kernel
theorem dX9_windowsOf_31 : decode cX9_windowsOf 31 = .ok (.istore_n 2, 1) := by decide +kernel
theorem dX9_windowsOf_32 : decode cX9_windowsOf 32 = .ok (.iinc 3 1, 3) := by decide +kernel
theorem dX9_windowsOf_35 : decode cX9_windowsOf 35 = .ok (.goto (-31), 3) := by decide +kernel
theorem dX9_windowsOf_38 : decode cX9_windowsOf 38 = .ok (.iload_n 2, 1) := by decide +kernel
theorem dX9_windowsOf_39 : decode cX9_windowsOf 39 = .ok (.ireturn, 1) := by decide +kernel
theorem dX9_filled_0 : decode cX9_filled 0 = .ok (.iconst 0, 1) := by decide +kernel
theorem dX9_filled_1 : decode cX9_filled 1 = .ok (.istore_n 2, 1) := by decide +kernel
theorem dX9_filled_2 : decode cX9_filled 2 = .ok (.iconst 0, 1) := by decide +kernel
theorem dX9_filled_3 : decode cX9_filled 3 = .ok (.istore_n 3, 1) := by decide +kernel
theorem dX9_filled_4 : decode cX9_filled 4 = .ok (.iload_n 3, 1) := by decide +kernel
theorem dX9_filled_5 : decode cX9_filled 5 = .ok (.bipush 12, 2) := by decide +kernel
theorem dX9_filled_7 : decode cX9_filled 7 = .ok (.if_icmp .ge 30, 3) := by decide +kernel
theorem dX9_filled_10 : decode cX9_filled 10 = .ok (.iload_n 2, 1) := by decide +kernel
theorem dX9_filled_11 : decode cX9_filled 11 = .ok (.aload_n 0, 1) := by decide +kernel
theorem dX9_filled_12 : decode cX9_filled 12 = .ok (.getfield 7, 3) := by decide +kernel
theorem dX9_filled_15 : decode cX9_filled 15 = .ok (.iload_n 1, 1) := by decide +kernel
theorem dX9_filled_16 : decode cX9_filled 16 = .ok (.iload_n 3, 1) := by decide +kernel
theorem dX9_filled_17 : decode cX9_filled 17 = .ok (.invokestatic 36, 3) := by decide +kernel
theorem dX9_filled_20 : decode cX9_filled 20 = .ok (.iaload, 1) := by decide +kernel
theorem dX9_filled_21 : decode cX9_filled 21 = .ok (.ifCond .eq 7, 3) := by decide +kernel
theorem dX9_filled_24 : decode cX9_filled 24 = .ok (.iconst 1, 1) := by decide +kernel
theorem dX9_filled_25 : decode cX9_filled 25 = .ok (.goto 4, 3) := by decide +kernel
theorem dX9_filled_28 : decode cX9_filled 28 = .ok (.iconst 0, 1) := by decide +kernel
theorem dX9_filled_29 : decode cX9_filled 29 = .ok (.iadd, 1) := by decide +kernel
theorem dX9_filled_30 : decode cX9_filled 30 = .ok (.istore_n 2, 1) := by decide +kernel
theorem dX9_filled_31 : decode cX9_filled 31 = .ok (.iinc 3 1, 3) := by decide +kernel
theorem dX9_filled_34 : decode cX9_filled 34 = .ok (.goto (-30), 3) := by decide +kernel
theorem dX9_filled_37 : decode cX9_filled 37 = .ok (.iload_n 2, 1) := by decide +kernel
theorem dX9_filled_38 : decode cX9_filled 38 = .ok (.ireturn, 1) := by decide +kernel
theorem dX9_framesTo_0 : decode cX9_framesTo 0 = .ok (.iconst 0, 1) := by decide +kernel
theorem dX9_framesTo_1 : decode cX9_framesTo 1 = .ok (.istore_n 2, 1) := by decide +kernel
theorem dX9_framesTo_2 : decode cX9_framesTo 2 = .ok (.iconst 0, 1) := by decide +kernel
theorem dX9_framesTo_3 : decode cX9_framesTo 3 = .ok (.istore_n 3, 1) := by decide +kernel
theorem dX9_framesTo_4 : decode cX9_framesTo 4 = .ok (.iload_n 3, 1) := by decide +kernel
theorem dX9_framesTo_5 : decode cX9_framesTo 5 = .ok (.aload_n 0, 1) := by decide +kernel
theorem dX9_framesTo_6 : decode cX9_framesTo 6 = .ok (.getfield 7, 3) := by decide +kernel
theorem dX9_framesTo_9 : decode cX9_framesTo 9 = .ok (.bipush 116, 2) := by decide +kernel
theorem dX9_framesTo_11 : decode cX9_framesTo 11 = .ok (.iaload, 1) := by decide +kernel
theorem dX9_framesTo_12 : decode cX9_framesTo 12 = .ok (.if_icmp .ge 34, 3) := by decide +kernel
theorem dX9_framesTo_15 : decode cX9_framesTo 15 = .ok (.iload_n 2, 1) := by decide +kernel
theorem dX9_framesTo_16 : decode cX9_framesTo 16 = .ok (.aload_n 0, 1) := by decide +kernel
theorem dX9_framesTo_17 : decode cX9_framesTo 17 = .ok (.getfield 7, 3) := by decide +kernel
theorem dX9_framesTo_20 : decode cX9_framesTo 20 = .ok (.bipush 117, 2) := by decide +kernel
theorem dX9_framesTo_22 : decode cX9_framesTo 22 = .ok (.iconst 3, 1) := by decide +kernel
theorem dX9_framesTo_23 : decode cX9_framesTo 23 = .ok (.iload_n 3, 1) := by decide +kernel
theorem dX9_framesTo_24 : decode cX9_framesTo 24 = .ok (.imul, 1) := by decide +kernel
theorem dX9_framesTo_25 : decode cX9_framesTo 25 = .ok (.iadd, 1) := by decide +kernel
theorem dX9_framesTo_26 : decode cX9_framesTo 26 = .ok (.iconst 1, 1) := by decide +kernel
theorem dX9_framesTo_27 : decode cX9_framesTo 27 = .ok (.iadd, 1) := by decide +kernel
theorem dX9_framesTo_28 : decode cX9_framesTo 28 = .ok (.iaload, 1) := by decide +kernel
theorem dX9_framesTo_29 : decode cX9_framesTo 29 = .ok (.iload_n 1, 1) := by decide +kernel
theorem dX9_framesTo_30 : decode cX9_framesTo 30 = .ok (.if_icmp .ne 7, 3) := by decide +kernel
theorem dX9_framesTo_33 : decode cX9_framesTo 33 = .ok (.iconst 1, 1) := by decide +kernel
theorem dX9_framesTo_34 : decode cX9_framesTo 34 = .ok (.goto 4, 3) := by decide +kernel
theorem dX9_framesTo_37 : decode cX9_framesTo 37 = .ok (.iconst 0, 1) := by decide +kernel
theorem dX9_framesTo_38 : decode cX9_framesTo 38 = .ok (.iadd, 1) := by decide +kernel
theorem dX9_framesTo_39 : decode cX9_framesTo 39 = .ok (.istore_n 2, 1) := by decide +kernel
theorem dX9_framesTo_40 : decode cX9_framesTo 40 = .ok (.iinc 3 1, 3) := by decide +kernel
theorem dX9_framesTo_43 : decode cX9_framesTo 43 = .ok (.goto (-39), 3) := by decide +kernel
theorem dX9_framesTo_46 : decode cX9_framesTo 46 = .ok (.iload_n 2, 1) := by decide +kernel
theorem dX9_framesTo_47 : decode cX9_framesTo 47 = .ok (.ireturn, 1) := by decide +kernel
theorem dX9_bank_0 : decode cX9_bank 0 = .ok (.iload_n 1, 1) := by decide +kernel
theorem dX9_bank_1 : decode cX9_bank 1 = .ok (.invokestatic 51, 3) := by decide +kernel
theorem dX9_bank_4 : decode cX9_bank 4 = .ok (.ifCond .ne 5, 3) := by decide +kernel
theorem dX9_bank_7 : decode cX9_bank 7 = .ok (.iconst (-1), 1) := by decide +kernel
theorem dX9_bank_8 : decode cX9_bank 8 = .ok (.ireturn, 1) := by decide +kernel
theorem dX9_bank_9 : decode cX9_bank 9 = .ok (.iload_n 2, 1) := by decide +kernel
theorem dX9_bank_10 : decode cX9_bank 10 = .ok (.tableswitch 88 0 5 #[38, 48, 54, 60, 66, 77], 38) := by decide +kernel
theorem dX9_bank_48 : decode cX9_bank 48 = .ok (.aload_n 0, 1) := by decide +kernel
theorem dX9_bank_49 : decode cX9_bank 49 = .ok (.getfield 7, 3) := by decide +kernel
theorem dX9_bank_52 : decode cX9_bank 52 = .ok (.bipush 104, 2) := by decide +kernel
theorem dX9_bank_54 : decode cX9_bank 54 = .ok (.iload_n 1, 1) := by decide +kernel
theorem dX9_bank_55 : decode cX9_bank 55 = .ok (.iadd, 1) := by decide +kernel
theorem dX9_bank_56 : decode cX9_bank 56 = .ok (.iaload, 1) := by decide +kernel
theorem dX9_bank_57 : decode cX9_bank 57 = .ok (.ireturn, 1) := by decide +kernel
theorem dX9_bank_58 : decode cX9_bank 58 = .ok (.aload_n 0, 1) := by decide +kernel
theorem dX9_bank_59 : decode cX9_bank 59 = .ok (.iload_n 1, 1) := by decide +kernel
theorem dX9_bank_60 : decode cX9_bank 60 = .ok (.invokevirtual 140, 3) := by decide +kernel
theorem dX9_bank_63 : decode cX9_bank 63 = .ok (.ireturn, 1) := by decide +kernel
theorem dX9_bank_64 : decode cX9_bank 64 = .ok (.aload_n 0, 1) := by decide +kernel
theorem dX9_bank_65 : decode cX9_bank 65 = .ok (.iload_n 1, 1) := by decide +kernel
theorem dX9_bank_66 : decode cX9_bank 66 = .ok (.invokevirtual 143, 3) := by decide +kernel
theorem dX9_bank_69 : decode cX9_bank 69 = .ok (.ireturn, 1) := by decide +kernel
theorem dX9_bank_70 : decode cX9_bank 70 = .ok (.aload_n 0, 1) := by decide +kernel
theorem dX9_bank_71 : decode cX9_bank 71 = .ok (.iload_n 1, 1) := by decide +kernel
theorem dX9_bank_72 : decode cX9_bank 72 = .ok (.invokevirtual 146, 3) := by decide +kernel
theorem dX9_bank_75 : decode cX9_bank 75 = .ok (.ireturn, 1) := by decide +kernel
theorem dX9_bank_76 : decode cX9_bank 76 = .ok (.aload_n 0, 1) := by decide +kernel
theorem dX9_bank_77 : decode cX9_bank 77 = .ok (.getfield 7, 3) := by decide +kernel
theorem dX9_bank_80 : decode cX9_bank 80 = .ok (.sipush 182, 3) := by decide +kernel
theorem dX9_bank_83 : decode cX9_bank 83 = .ok (.iload_n 1, 1) := by decide +kernel
theorem dX9_bank_84 : decode cX9_bank 84 = .ok (.iadd, 1) := by decide +kernel
theorem dX9_bank_85 : decode cX9_bank 85 = .ok (.iaload, 1) := by decide +kernel
theorem dX9_bank_86 : decode cX9_bank 86 = .ok (.ireturn, 1) := by decide +kernel
theorem dX9_bank_87 : decode cX9_bank 87 = .ok (.aload_n 0, 1) := by decide +kernel
theorem dX9_bank_88 : decode cX9_bank 88 = .ok (.getfield 7, 3) := by decide +kernel
theorem dX9_bank_91 : decode cX9_bank 91 = .ok (.sipush 190, 3) := by decide +kernel
theorem dX9_bank_94 : decode cX9_bank 94 = .ok (.iload_n 1, 1) := by decide +kernel
theorem dX9_bank_95 : decode cX9_bank 95 = .ok (.iadd, 1) := by decide +kernel
theorem dX9_bank_96 : decode cX9_bank 96 = .ok (.iaload, 1) := by decide +kernel
theorem dX9_bank_97 : decode cX9_bank 97 = .ok (.ireturn, 1) := by decide +kernel
theorem dX9_bank_98 : decode cX9_bank 98 = .ok (.bipush (-2), 2) := by decide +kernel
theorem dX9_bank_100 : decode cX9_bank 100 = .ok (.ireturn, 1) := by decide +kernel
theorem dX9_window_0 : decode cX9_window 0 = .ok (.iload_n 1, 1) := by decide +kernel
theorem dX9_window_1 : decode cX9_window 1 = .ok (.invokestatic 65, 3) := by decide +kernel
theorem dX9_window_4 : decode cX9_window 4 = .ok (.ifCond .eq 15, 3) := by decide +kernel
theorem dX9_window_7 : decode cX9_window 7 = .ok (.aload_n 0, 1) := by decide +kernel
theorem dX9_window_8 : decode cX9_window 8 = .ok (.getfield 7, 3) := by decide +kernel
theorem dX9_window_11 : decode cX9_window 11 = .ok (.bipush 100, 2) := by decide +kernel
theorem dX9_window_13 : decode cX9_window 13 = .ok (.iload_n 1, 1) := by decide +kernel
theorem dX9_window_14 : decode cX9_window 14 = .ok (.iadd, 1) := by decide +kernel
theorem dX9_window_15 : decode cX9_window 15 = .ok (.iaload, 1) := by decide +kernel
theorem dX9_window_16 : decode cX9_window 16 = .ok (.goto 4, 3) := by decide +kernel
theorem dX9_window_19 : decode cX9_window 19 = .ok (.iconst (-1), 1) := by decide +kernel
theorem dX9_window_20 : decode cX9_window 20 = .ok (.ireturn, 1) := by decide +kernel
theorem dX9_frame_0 : decode cX9_frame 0 = .ok (.iload_n 1, 1) := by decide +kernel
theorem dX9_frame_1 : decode cX9_frame 1 = .ok (.ifCond .lt 12, 3) := by decide +kernel
theorem dX9_frame_4 : decode cX9_frame 4 = .ok (.iload_n 2, 1) := by decide +kernel
theorem dX9_frame_5 : decode cX9_frame 5 = .ok (.iconst 0, 1) := by decide +kernel
theorem dX9_frame_6 : decode cX9_frame 6 = .ok (.iconst 2, 1) := by decide +kernel
theorem dX9_frame_7 : decode cX9_frame 7 = .ok (.invokestatic 28, 3) := by decide +kernel
theorem dX9_frame_10 : decode cX9_frame 10 = .ok (.ifCond .ne 6, 3) := by decide +kernel
theorem dX9_frame_13 : decode cX9_frame 13 = .ok (.bipush (-2), 2) := by decide +kernel
theorem dX9_frame_15 : decode cX9_frame 15 = .ok (.ireturn, 1) := by decide +kernel
theorem dX9_frame_16 : decode cX9_frame 16 = .ok (.iload_n 1, 1) := by decide +kernel
theorem dX9_frame_17 : decode cX9_frame 17 = .ok (.aload_n 0, 1) := by decide +kernel
theorem dX9_frame_18 : decode cX9_frame 18 = .ok (.getfield 7, 3) := by decide +kernel
theorem dX9_frame_21 : decode cX9_frame 21 = .ok (.bipush 116, 2) := by decide +kernel
theorem dX9_frame_23 : decode cX9_frame 23 = .ok (.iaload, 1) := by decide +kernel
theorem dX9_frame_24 : decode cX9_frame 24 = .ok (.if_icmp .ge 29, 3) := by decide +kernel
theorem dX9_frame_27 : decode cX9_frame 27 = .ok (.aload_n 0, 1) := by decide +kernel
theorem dX9_frame_28 : decode cX9_frame 28 = .ok (.getfield 7, 3) := by decide +kernel
theorem dX9_frame_31 : decode cX9_frame 31 = .ok (.bipush 117, 2) := by decide +kernel
theorem dX9_frame_33 : decode cX9_frame 33 = .ok (.iconst 3, 1) := by decide +kernel
theorem dX9_frame_34 : decode cX9_frame 34 = .ok (.aload_n 0, 1) := by decide +kernel
theorem dX9_frame_35 : decode cX9_frame 35 = .ok (.getfield 7, 3) := by decide +kernel
theorem dX9_frame_38 : decode cX9_frame 38 = .ok (.bipush 116, 2) := by decide +kernel
theorem dX9_frame_40 : decode cX9_frame 40 = .ok (.iaload, 1) := by decide +kernel
theorem dX9_frame_41 : decode cX9_frame 41 = .ok (.iconst 1, 1) := by decide +kernel
theorem dX9_frame_42 : decode cX9_frame 42 = .ok (.isub, 1) := by decide +kernel
theorem dX9_frame_43 : decode cX9_frame 43 = .ok (.iload_n 1, 1) := by decide +kernel
theorem dX9_frame_44 : decode cX9_frame 44 = .ok (.isub, 1) := by decide +kernel
theorem dX9_frame_45 : decode cX9_frame 45 = .ok (.imul, 1) := by decide +kernel
theorem dX9_frame_46 : decode cX9_frame 46 = .ok (.iadd, 1) := by decide +kernel
theorem dX9_frame_47 : decode cX9_frame 47 = .ok (.iload_n 2, 1) := by decide +kernel
theorem dX9_frame_48 : decode cX9_frame 48 = .ok (.iadd, 1) := by decide +kernel
theorem dX9_frame_49 : decode cX9_frame 49 = .ok (.iaload, 1) := by decide +kernel
theorem dX9_frame_50 : decode cX9_frame 50 = .ok (.goto 5, 3) := by decide +kernel
theorem dX9_frame_53 : decode cX9_frame 53 = .ok (.bipush (-5), 2) := by decide +kernel
theorem dX9_frame_55 : decode cX9_frame 55 = .ok (.ireturn, 1) := by decide +kernel
theorem dX9_latest_0 : decode cX9_latest 0 = .ok (.iload_n 1, 1) := by decide +kernel
theorem dX9_latest_1 : decode cX9_latest 1 = .ok (.ifCond .lt 12, 3) := by decide +kernel
theorem dX9_latest_4 : decode cX9_latest 4 = .ok (.iload_n 2, 1) := by decide +kernel
theorem dX9_latest_5 : decode cX9_latest 5 = .ok (.iconst 0, 1) := by decide +kernel
theorem dX9_latest_6 : decode cX9_latest 6 = .ok (.iconst 2, 1) := by decide +kernel
theorem dX9_latest_7 : decode cX9_latest 7 = .ok (.invokestatic 28, 3) := by decide +kernel
theorem dX9_latest_10 : decode cX9_latest 10 = .ok (.ifCond .ne 6, 3) := by decide +kernel
theorem dX9_latest_13 : decode cX9_latest 13 = .ok (.bipush (-2), 2) := by decide +kernel
theorem dX9_latest_15 : decode cX9_latest 15 = .ok (.ireturn, 1) := by decide +kernel
theorem dX9_latest_16 : decode cX9_latest 16 = .ok (.iload_n 1, 1) := by decide +kernel
theorem dX9_latest_17 : decode cX9_latest 17 = .ok (.aload_n 0, 1) := by decide +kernel
theorem dX9_latest_18 : decode cX9_latest 18 = .ok (.getfield 7, 3) := by decide +kernel
theorem dX9_latest_21 : decode cX9_latest 21 = .ok (.sipush 141, 3) := by decide +kernel
theorem dX9_latest_24 : decode cX9_latest 24 = .ok (.iaload, 1) := by decide +kernel
theorem dX9_latest_25 : decode cX9_latest 25 = .ok (.if_icmp .ge 20, 3) := by decide +kernel
theorem dX9_latest_28 : decode cX9_latest 28 = .ok (.aload_n 0, 1) := by decide +kernel
theorem dX9_latest_29 : decode cX9_latest 29 = .ok (.getfield 7, 3) := by decide +kernel
theorem dX9_latest_32 : decode cX9_latest 32 = .ok (.sipush 142, 3) := by decide +kernel
theorem dX9_latest_35 : decode cX9_latest 35 = .ok (.iconst 3, 1) := by decide +kernel
theorem dX9_latest_36 : decode cX9_latest 36 = .ok (.iload_n 1, 1) := by decide +kernel
theorem dX9_latest_37 : decode cX9_latest 37 = .ok (.imul, 1) := by decide +kernel
theorem dX9_latest_38 : decode cX9_latest 38 = .ok (.iadd, 1) := by decide +kernel
theorem dX9_latest_39 : decode cX9_latest 39 = .ok (.iload_n 2, 1) := by decide +kernel
theorem dX9_latest_40 : decode cX9_latest 40 = .ok (.iadd, 1) := by decide +kernel
theorem dX9_latest_41 : decode cX9_latest 41 = .ok (.iaload, 1) := by decide +kernel
theorem dX9_latest_42 : decode cX9_latest 42 = .ok (.goto 5, 3) := by decide +kernel
theorem dX9_latest_45 : decode cX9_latest 45 = .ok (.bipush (-5), 2) := by decide +kernel
theorem dX9_latest_47 : decode cX9_latest 47 = .ok (.ireturn, 1) := by decide +kernel
theorem dX9_next_0 : decode cX9_next 0 = .ok (.iload_n 1, 1) := by decide +kernel
theorem dX9_next_1 : decode cX9_next 1 = .ok (.iconst 0, 1) := by decide +kernel
theorem dX9_next_2 : decode cX9_next 2 = .ok (.iconst 2, 1) := by decide +kernel
theorem dX9_next_3 : decode cX9_next 3 = .ok (.invokestatic 28, 3) := by decide +kernel
theorem dX9_next_6 : decode cX9_next 6 = .ok (.ifCond .ne 6, 3) := by decide +kernel
theorem dX9_next_9 : decode cX9_next 9 = .ok (.bipush (-2), 2) := by decide +kernel
theorem dX9_next_11 : decode cX9_next 11 = .ok (.ireturn, 1) := by decide +kernel
theorem dX9_next_12 : decode cX9_next 12 = .ok (.aload_n 0, 1) := by decide +kernel
theorem dX9_next_13 : decode cX9_next 13 = .ok (.getfield 7, 3) := by decide +kernel
theorem dX9_next_16 : decode cX9_next 16 = .ok (.bipush 115, 2) := by decide +kernel
theorem dX9_next_18 : decode cX9_next 18 = .ok (.iaload, 1) := by decide +kernel
theorem dX9_next_19 : decode cX9_next 19 = .ok (.ifCond .le 6, 3) := by decide +kernel
theorem dX9_next_22 : decode cX9_next 22 = .ok (.bipush (-5), 2) := by decide +kernel
theorem dX9_next_24 : decode cX9_next 24 = .ok (.ireturn, 1) := by decide +kernel
theorem dX9_next_25 : decode cX9_next 25 = .ok (.aload_n 0, 1) := by decide +kernel
theorem dX9_next_26 : decode cX9_next 26 = .ok (.getfield 7, 3) := by decide +kernel
theorem dX9_next_29 : decode cX9_next 29 = .ok (.aload_n 0, 1) := by decide +kernel
theorem dX9_next_30 : decode cX9_next 30 = .ok (.aload_n 0, 1) := by decide +kernel
theorem dX9_next_31 : decode cX9_next 31 = .ok (.getfield 7, 3) := by decide +kernel
theorem dX9_next_34 : decode cX9_next 34 = .ok (.bipush 114, 2) := by decide +kernel
theorem dX9_next_36 : decode cX9_next 36 = .ok (.iaload, 1) := by decide +kernel
theorem dX9_next_37 : decode cX9_next 37 = .ok (.invokevirtual 71, 3) := by decide +kernel
theorem dX9_next_40 : decode cX9_next 40 = .ok (.iaload, 1) := by decide +kernel
theorem dX9_next_41 : decode cX9_next 41 = .ok (.istore_n 2, 1) := by decide +kernel
theorem dX9_next_42 : decode cX9_next 42 = .ok (.aload_n 0, 1) := by decide +kernel
theorem dX9_next_43 : decode cX9_next 43 = .ok (.invokevirtual 149, 3) := by decide +kernel
theorem dX9_next_46 : decode cX9_next 46 = .ok (.aload_n 0, 1) := by decide +kernel
theorem dX9_next_47 : decode cX9_next 47 = .ok (.invokevirtual 98, 3) := by decide +kernel
theorem dX9_next_50 : decode cX9_next 50 = .ok (.iload_n 1, 1) := by decide +kernel
theorem dX9_next_51 : decode cX9_next 51 = .ok (.ifCond .ne 7, 3) := by decide +kernel
theorem dX9_next_54 : decode cX9_next 54 = .ok (.iload_n 2, 1) := by decide +kernel
theorem dX9_next_55 : decode cX9_next 55 = .ok (.goto 25, 3) := by decide +kernel
theorem dX9_next_58 : decode cX9_next 58 = .ok (.iload_n 1, 1) := by decide +kernel
theorem dX9_next_59 : decode cX9_next 59 = .ok (.iconst 1, 1) := by decide +kernel
theorem dX9_next_60 : decode cX9_next 60 = .ok (.if_icmp .ne 13, 3) := by decide +kernel
theorem dX9_next_63 : decode cX9_next 63 = .ok (.aload_n 0, 1) := by decide +kernel
theorem dX9_next_64 : decode cX9_next 64 = .ok (.getfield 7, 3) := by decide +kernel
theorem dX9_next_67 : decode cX9_next 67 = .ok (.bipush 115, 2) := by decide +kernel
theorem dX9_next_69 : decode cX9_next 69 = .ok (.iaload, 1) := by decide +kernel
theorem dX9_next_70 : decode cX9_next 70 = .ok (.goto 10, 3) := by decide +kernel
theorem dX9_next_73 : decode cX9_next 73 = .ok (.aload_n 0, 1) := by decide +kernel
theorem dX9_next_74 : decode cX9_next 74 = .ok (.getfield 7, 3) := by decide +kernel
theorem dX9_next_77 : decode cX9_next 77 = .ok (.bipush 114, 2) := by decide +kernel
theorem dX9_next_79 : decode cX9_next 79 = .ok (.iaload, 1) := by decide +kernel
theorem dX9_next_80 : decode cX9_next 80 = .ok (.istore_n 3, 1) := by decide +kernel
theorem dX9_next_81 : decode cX9_next 81 = .ok (.aload_n 0, 1) := by decide +kernel
theorem dX9_next_82 : decode cX9_next 82 = .ok (.invokevirtual 152, 3) := by decide +kernel
theorem dX9_next_85 : decode cX9_next 85 = .ok (.iload_n 3, 1) := by decide +kernel
theorem dX9_next_86 : decode cX9_next 86 = .ok (.ireturn, 1) := by decide +kernel
theorem dX9_unlikeCells_0 : decode cX9_unlikeCells 0 = .ok (.iconst 0, 1) := by decide +kernel
theorem dX9_unlikeCells_1 : decode cX9_unlikeCells 1 = .ok (.istore_n 1, 1) := by decide +kernel
theorem dX9_unlikeCells_2 : decode cX9_unlikeCells 2 = .ok (.iconst 0, 1) := by decide +kernel
theorem dX9_unlikeCells_3 : decode cX9_unlikeCells 3 = .ok (.istore_n 2, 1) := by decide +kernel
theorem dX9_unlikeCells_4 : decode cX9_unlikeCells 4 = .ok (.iload_n 2, 1) := by decide +kernel
theorem dX9_unlikeCells_5 : decode cX9_unlikeCells 5 = .ok (.bipush 100, 2) := by decide +kernel
theorem dX9_unlikeCells_7 : decode cX9_unlikeCells 7 = .ok (.if_icmp .ge 32, 3) := by decide +kernel
theorem dX9_unlikeCells_10 : decode cX9_unlikeCells 10 = .ok (.iload_n 1, 1) := by decide +kernel
theorem dX9_unlikeCells_11 : decode cX9_unlikeCells 11 = .ok (.aload_n 0, 1) := by decide +kernel
theorem dX9_unlikeCells_12 : decode cX9_unlikeCells 12 = .ok (.getfield 7, 3) := by decide +kernel
theorem dX9_unlikeCells_15 : decode cX9_unlikeCells 15 = .ok (.iload_n 2, 1) := by decide +kernel
theorem dX9_unlikeCells_16 : decode cX9_unlikeCells 16 = .ok (.iaload, 1) := by decide +kernel
theorem dX9_unlikeCells_17 : decode cX9_unlikeCells 17 = .ok (.aload_n 0, 1) := by decide +kernel
theorem dX9_unlikeCells_18 : decode cX9_unlikeCells 18 = .ok (.getfield 13, 3) := by decide +kernel
theorem dX9_unlikeCells_21 : decode cX9_unlikeCells 21 = .ok (.iload_n 2, 1) := by decide +kernel
theorem dX9_unlikeCells_22 : decode cX9_unlikeCells 22 = .ok (.iaload, 1) := by decide +kernel
theorem dX9_unlikeCells_23 : decode cX9_unlikeCells 23 = .ok (.if_icmp .eq 7, 3) := by decide +kernel
theorem dX9_unlikeCells_26 : decode cX9_unlikeCells 26 = .ok (.iconst 1, 1) := by decide +kernel
theorem dX9_unlikeCells_27 : decode cX9_unlikeCells 27 = .ok (.goto 4, 3) := by decide +kernel
theorem dX9_unlikeCells_30 : decode cX9_unlikeCells 30 = .ok (.iconst 0, 1) := by decide +kernel
theorem dX9_unlikeCells_31 : decode cX9_unlikeCells 31 = .ok (.iadd, 1) := by decide +kernel
theorem dX9_unlikeCells_32 : decode cX9_unlikeCells 32 = .ok (.istore_n 1, 1) := by decide +kernel
theorem dX9_unlikeCells_33 : decode cX9_unlikeCells 33 = .ok (.iinc 2 1, 3) := by decide +kernel
theorem dX9_unlikeCells_36 : decode cX9_unlikeCells 36 = .ok (.goto (-32), 3) := by decide +kernel
theorem dX9_unlikeCells_39 : decode cX9_unlikeCells 39 = .ok (.iload_n 1, 1) := by decide +kernel
theorem dX9_unlikeCells_40 : decode cX9_unlikeCells 40 = .ok (.ireturn, 1) := by decide +kernel
theorem dX9_ifRun_0 : decode cX9_ifRun 0 = .ok (.iload_n 1, 1) := by decide +kernel
theorem dX9_ifRun_1 : decode cX9_ifRun 1 = .ok (.iconst 1, 1) := by decide +kernel
theorem dX9_ifRun_2 : decode cX9_ifRun 2 = .ok (.sipush 999, 3) := by decide +kernel
theorem dX9_ifRun_5 : decode cX9_ifRun 5 = .ok (.invokestatic 28, 3) := by decide +kernel
theorem dX9_ifRun_8 : decode cX9_ifRun 8 = .ok (.ifCond .eq 12, 3) := by decide +kernel
theorem dX9_ifRun_11 : decode cX9_ifRun 11 = .ok (.iload_n 2, 1) := by decide +kernel
theorem dX9_ifRun_12 : decode cX9_ifRun 12 = .ok (.iconst 0, 1) := by decide +kernel
theorem dX9_ifRun_13 : decode cX9_ifRun 13 = .ok (.iconst 4, 1) := by decide +kernel
theorem dX9_ifRun_14 : decode cX9_ifRun 14 = .ok (.invokestatic 28, 3) := by decide +kernel
theorem dX9_ifRun_17 : decode cX9_ifRun 17 = .ok (.ifCond .ne 6, 3) := by decide +kernel
theorem dX9_ifRun_20 : decode cX9_ifRun 20 = .ok (.bipush (-2), 2) := by decide +kernel
theorem dX9_ifRun_22 : decode cX9_ifRun 22 = .ok (.ireturn, 1) := by decide +kernel
theorem dX9_ifRun_23 : decode cX9_ifRun 23 = .ok (.aload_n 0, 1) := by decide +kernel
theorem dX9_ifRun_24 : decode cX9_ifRun 24 = .ok (.getfield 7, 3) := by decide +kernel
theorem dX9_ifRun_27 : decode cX9_ifRun 27 = .ok (.bipush 115, 2) := by decide +kernel
theorem dX9_ifRun_29 : decode cX9_ifRun 29 = .ok (.iaload, 1) := by decide +kernel
theorem dX9_ifRun_30 : decode cX9_ifRun 30 = .ok (.ifCond .le 6, 3) := by decide +kernel
theorem dX9_ifRun_33 : decode cX9_ifRun 33 = .ok (.bipush (-4), 2) := by decide +kernel
theorem dX9_ifRun_35 : decode cX9_ifRun 35 = .ok (.ireturn, 1) := by decide +kernel
theorem dX9_ifRun_36 : decode cX9_ifRun 36 = .ok (.aload_n 0, 1) := by decide +kernel
theorem dX9_ifRun_37 : decode cX9_ifRun 37 = .ok (.invokevirtual 149, 3) := by decide +kernel
theorem dX9_ifRun_40 : decode cX9_ifRun 40 = .ok (.aload_n 0, 1) := by decide +kernel
theorem dX9_ifRun_41 : decode cX9_ifRun 41 = .ok (.iload_n 1, 1) := by decide +kernel
theorem dX9_ifRun_42 : decode cX9_ifRun 42 = .ok (.invokevirtual 102, 3) := by decide +kernel
theorem dX9_ifRun_45 : decode cX9_ifRun 45 = .ok (.istore_n 3, 1) := by decide +kernel
theorem dX9_ifRun_46 : decode cX9_ifRun 46 = .ok (.iload_n 2, 1) := by decide +kernel
theorem dX9_ifRun_47 : decode cX9_ifRun 47 = .ok (.ifCond .ne 7, 3) := by decide +kernel
theorem dX9_ifRun_50 : decode cX9_ifRun 50 = .ok (.iload_n 3, 1) := by decide +kernel
theorem dX9_ifRun_51 : decode cX9_ifRun 51 = .ok (.goto 52, 3) := by decide +kernel
theorem dX9_ifRun_54 : decode cX9_ifRun 54 = .ok (.iload_n 2, 1) := by decide +kernel
theorem dX9_ifRun_55 : decode cX9_ifRun 55 = .ok (.iconst 1, 1) := by decide +kernel
theorem dX9_ifRun_56 : decode cX9_ifRun 56 = .ok (.if_icmp .ne 13, 3) := by decide +kernel
theorem dX9_ifRun_59 : decode cX9_ifRun 59 = .ok (.aload_n 0, 1) := by decide +kernel
theorem dX9_ifRun_60 : decode cX9_ifRun 60 = .ok (.getfield 7, 3) := by decide +kernel
theorem dX9_ifRun_63 : decode cX9_ifRun 63 = .ok (.bipush 115, 2) := by decide +kernel
theorem dX9_ifRun_65 : decode cX9_ifRun 65 = .ok (.iaload, 1) := by decide +kernel
theorem dX9_ifRun_66 : decode cX9_ifRun 66 = .ok (.goto 37, 3) := by decide +kernel
theorem dX9_ifRun_69 : decode cX9_ifRun 69 = .ok (.iload_n 2, 1) := by decide +kernel
theorem dX9_ifRun_70 : decode cX9_ifRun 70 = .ok (.iconst 2, 1) := by decide +kernel
theorem dX9_ifRun_71 : decode cX9_ifRun 71 = .ok (.if_icmp .ne 13, 3) := by decide +kernel
theorem dX9_ifRun_74 : decode cX9_ifRun 74 = .ok (.aload_n 0, 1) := by decide +kernel
theorem dX9_ifRun_75 : decode cX9_ifRun 75 = .ok (.getfield 7, 3) := by decide +kernel
theorem dX9_ifRun_78 : decode cX9_ifRun 78 = .ok (.bipush 113, 2) := by decide +kernel
theorem dX9_ifRun_80 : decode cX9_ifRun 80 = .ok (.iaload, 1) := by decide +kernel
theorem dX9_ifRun_81 : decode cX9_ifRun 81 = .ok (.goto 22, 3) := by decide +kernel
theorem dX9_ifRun_84 : decode cX9_ifRun 84 = .ok (.iload_n 2, 1) := by decide +kernel
theorem dX9_ifRun_85 : decode cX9_ifRun 85 = .ok (.iconst 3, 1) := by decide +kernel
theorem dX9_ifRun_86 : decode cX9_ifRun 86 = .ok (.if_icmp .ne 13, 3) := by decide +kernel
end
section
theorem dX9_ifRun_89 : decode cX9_ifRun 89 = .ok (.aload_n 0, 1) := by decide +kernel
theorem dX9_ifRun_90 : decode cX9_ifRun 90 = .ok (.getfield 7, 3) := by decide +kernel
theorem dX9_ifRun_93 : decode cX9_ifRun 93 = .ok (.bipush 116, 2) := by decide +kernel
theorem dX9_ifRun_95 : decode cX9_ifRun 95 = .ok (.iaload, 1) := by decide +kernel
theorem dX9_ifRun_96 : decode cX9_ifRun 96 = .ok (.goto 7, 3) := by decide +kernel
theorem dX9_ifRun_99 : decode cX9_ifRun 99 = .ok (.aload_n 0, 1) := by decide +kernel
theorem dX9_ifRun_100 : decode cX9_ifRun 100 = .ok (.invokevirtual 155, 3) := by decide +kernel
theorem dX9_ifRun_103 : decode cX9_ifRun 103 = .ok (.istore 4, 2) := by decide +kernel
theorem dX9_ifRun_105 : decode cX9_ifRun 105 = .ok (.aload_n 0, 1) := by decide +kernel
theorem dX9_ifRun_106 : decode cX9_ifRun 106 = .ok (.invokevirtual 152, 3) := by decide +kernel
theorem dX9_ifRun_109 : decode cX9_ifRun 109 = .ok (.iload 4, 2) := by decide +kernel
theorem dX9_ifRun_111 : decode cX9_ifRun 111 = .ok (.ireturn, 1) := by decide +kernel
theorem dX9_backIn_0 : decode cX9_backIn 0 = .ok (.aload_n 0, 1) := by decide +kernel
theorem dX9_backIn_1 : decode cX9_backIn 1 = .ok (.invokevirtual 149, 3) := by decide +kernel
theorem dX9_backIn_4 : decode cX9_backIn 4 = .ok (.aload_n 0, 1) := by decide +kernel
theorem dX9_backIn_5 : decode cX9_backIn 5 = .ok (.getfield 7, 3) := by decide +kernel
theorem dX9_backIn_8 : decode cX9_backIn 8 = .ok (.bipush 116, 2) := by decide +kernel
theorem dX9_backIn_10 : decode cX9_backIn 10 = .ok (.iaload, 1) := by decide +kernel
theorem dX9_backIn_11 : decode cX9_backIn 11 = .ok (.istore_n 1, 1) := by decide +kernel
theorem dX9_backIn_12 : decode cX9_backIn 12 = .ok (.iconst 0, 1) := by decide +kernel
theorem dX9_backIn_13 : decode cX9_backIn 13 = .ok (.istore_n 2, 1) := by decide +kernel
theorem dX9_backIn_14 : decode cX9_backIn 14 = .ok (.iload_n 2, 1) := by decide +kernel
theorem dX9_backIn_15 : decode cX9_backIn 15 = .ok (.sipush 500, 3) := by decide +kernel
theorem dX9_backIn_18 : decode cX9_backIn 18 = .ok (.if_icmp .ge 38, 3) := by decide +kernel
theorem dX9_backIn_21 : decode cX9_backIn 21 = .ok (.aload_n 0, 1) := by decide +kernel
theorem dX9_backIn_22 : decode cX9_backIn 22 = .ok (.getfield 7, 3) := by decide +kernel
theorem dX9_backIn_25 : decode cX9_backIn 25 = .ok (.bipush 115, 2) := by decide +kernel
theorem dX9_backIn_27 : decode cX9_backIn 27 = .ok (.iaload, 1) := by decide +kernel
theorem dX9_backIn_28 : decode cX9_backIn 28 = .ok (.ifCond .ne 28, 3) := by decide +kernel
theorem dX9_backIn_31 : decode cX9_backIn 31 = .ok (.aload_n 0, 1) := by decide +kernel
theorem dX9_backIn_32 : decode cX9_backIn 32 = .ok (.getfield 7, 3) := by decide +kernel
theorem dX9_backIn_35 : decode cX9_backIn 35 = .ok (.bipush 116, 2) := by decide +kernel
theorem dX9_backIn_37 : decode cX9_backIn 37 = .ok (.iaload, 1) := by decide +kernel
theorem dX9_backIn_38 : decode cX9_backIn 38 = .ok (.iload_n 1, 1) := by decide +kernel
theorem dX9_backIn_39 : decode cX9_backIn 39 = .ok (.if_icmp .lt 17, 3) := by decide +kernel
theorem dX9_backIn_42 : decode cX9_backIn 42 = .ok (.iload_n 1, 1) := by decide +kernel
theorem dX9_backIn_43 : decode cX9_backIn 43 = .ok (.ifCond .le 13, 3) := by decide +kernel
theorem dX9_backIn_46 : decode cX9_backIn 46 = .ok (.aload_n 0, 1) := by decide +kernel
theorem dX9_backIn_47 : decode cX9_backIn 47 = .ok (.invokevirtual 98, 3) := by decide +kernel
theorem dX9_backIn_50 : decode cX9_backIn 50 = .ok (.iinc 2 1, 3) := by decide +kernel
theorem dX9_backIn_53 : decode cX9_backIn 53 = .ok (.goto (-39), 3) := by decide +kernel
theorem dX9_backIn_56 : decode cX9_backIn 56 = .ok (.aload_n 0, 1) := by decide +kernel
theorem dX9_backIn_57 : decode cX9_backIn 57 = .ok (.getfield 7, 3) := by decide +kernel
theorem dX9_backIn_60 : decode cX9_backIn 60 = .ok (.bipush 116, 2) := by decide +kernel
theorem dX9_backIn_62 : decode cX9_backIn 62 = .ok (.iaload, 1) := by decide +kernel
theorem dX9_backIn_63 : decode cX9_backIn 63 = .ok (.iload_n 1, 1) := by decide +kernel
theorem dX9_backIn_64 : decode cX9_backIn 64 = .ok (.if_icmp .ge 7, 3) := by decide +kernel
theorem dX9_backIn_67 : decode cX9_backIn 67 = .ok (.iload_n 2, 1) := by decide +kernel
theorem dX9_backIn_68 : decode cX9_backIn 68 = .ok (.goto 5, 3) := by decide +kernel
theorem dX9_backIn_71 : decode cX9_backIn 71 = .ok (.bipush (-5), 2) := by decide +kernel
theorem dX9_backIn_73 : decode cX9_backIn 73 = .ok (.istore_n 3, 1) := by decide +kernel
theorem dX9_backIn_74 : decode cX9_backIn 74 = .ok (.aload_n 0, 1) := by decide +kernel
theorem dX9_backIn_75 : decode cX9_backIn 75 = .ok (.invokevirtual 152, 3) := by decide +kernel
theorem dX9_backIn_78 : decode cX9_backIn 78 = .ok (.iload_n 3, 1) := by decide +kernel
theorem dX9_backIn_79 : decode cX9_backIn 79 = .ok (.ireturn, 1) := by decide +kernel
theorem dX9_count_0 : decode cX9_count 0 = .ok (.iload_n 1, 1) := by decide +kernel
theorem dX9_count_1 : decode cX9_count 1 = .ok (.tableswitch 154 0 11 #[63, 71, 79, 87, 95, 104, 113, 122, 131, 136, 144, 149], 63) := by decide +kernel
theorem dX9_count_64 : decode cX9_count 64 = .ok (.aload_n 0, 1) := by decide +kernel
theorem dX9_count_65 : decode cX9_count 65 = .ok (.getfield 7, 3) := by decide +kernel
theorem dX9_count_68 : decode cX9_count 68 = .ok (.bipush 113, 2) := by decide +kernel
theorem dX9_count_70 : decode cX9_count 70 = .ok (.iaload, 1) := by decide +kernel
theorem dX9_count_71 : decode cX9_count 71 = .ok (.ireturn, 1) := by decide +kernel
theorem dX9_count_72 : decode cX9_count 72 = .ok (.aload_n 0, 1) := by decide +kernel
theorem dX9_count_73 : decode cX9_count 73 = .ok (.getfield 7, 3) := by decide +kernel
theorem dX9_count_76 : decode cX9_count 76 = .ok (.bipush 114, 2) := by decide +kernel
theorem dX9_count_78 : decode cX9_count 78 = .ok (.iaload, 1) := by decide +kernel
theorem dX9_count_79 : decode cX9_count 79 = .ok (.ireturn, 1) := by decide +kernel
theorem dX9_count_80 : decode cX9_count 80 = .ok (.aload_n 0, 1) := by decide +kernel
theorem dX9_count_81 : decode cX9_count 81 = .ok (.getfield 7, 3) := by decide +kernel
theorem dX9_count_84 : decode cX9_count 84 = .ok (.bipush 116, 2) := by decide +kernel
theorem dX9_count_86 : decode cX9_count 86 = .ok (.iaload, 1) := by decide +kernel
theorem dX9_count_87 : decode cX9_count 87 = .ok (.ireturn, 1) := by decide +kernel
theorem dX9_count_88 : decode cX9_count 88 = .ok (.aload_n 0, 1) := by decide +kernel
theorem dX9_count_89 : decode cX9_count 89 = .ok (.getfield 7, 3) := by decide +kernel
theorem dX9_count_92 : decode cX9_count 92 = .ok (.bipush 115, 2) := by decide +kernel
theorem dX9_count_94 : decode cX9_count 94 = .ok (.iaload, 1) := by decide +kernel
theorem dX9_count_95 : decode cX9_count 95 = .ok (.ireturn, 1) := by decide +kernel
theorem dX9_count_96 : decode cX9_count 96 = .ok (.aload_n 0, 1) := by decide +kernel
theorem dX9_count_97 : decode cX9_count 97 = .ok (.getfield 7, 3) := by decide +kernel
theorem dX9_count_100 : decode cX9_count 100 = .ok (.sipush 178, 3) := by decide +kernel
theorem dX9_count_103 : decode cX9_count 103 = .ok (.iaload, 1) := by decide +kernel
theorem dX9_count_104 : decode cX9_count 104 = .ok (.ireturn, 1) := by decide +kernel
theorem dX9_count_105 : decode cX9_count 105 = .ok (.aload_n 0, 1) := by decide +kernel
theorem dX9_count_106 : decode cX9_count 106 = .ok (.getfield 7, 3) := by decide +kernel
theorem dX9_count_109 : decode cX9_count 109 = .ok (.sipush 179, 3) := by decide +kernel
theorem dX9_count_112 : decode cX9_count 112 = .ok (.iaload, 1) := by decide +kernel
theorem dX9_count_113 : decode cX9_count 113 = .ok (.ireturn, 1) := by decide +kernel
theorem dX9_count_114 : decode cX9_count 114 = .ok (.aload_n 0, 1) := by decide +kernel
theorem dX9_count_115 : decode cX9_count 115 = .ok (.getfield 7, 3) := by decide +kernel
theorem dX9_count_118 : decode cX9_count 118 = .ok (.sipush 180, 3) := by decide +kernel
theorem dX9_count_121 : decode cX9_count 121 = .ok (.iaload, 1) := by decide +kernel
theorem dX9_count_122 : decode cX9_count 122 = .ok (.ireturn, 1) := by decide +kernel
theorem dX9_count_123 : decode cX9_count 123 = .ok (.aload_n 0, 1) := by decide +kernel
theorem dX9_count_124 : decode cX9_count 124 = .ok (.getfield 7, 3) := by decide +kernel
theorem dX9_count_127 : decode cX9_count 127 = .ok (.sipush 181, 3) := by decide +kernel
theorem dX9_count_130 : decode cX9_count 130 = .ok (.iaload, 1) := by decide +kernel
theorem dX9_count_131 : decode cX9_count 131 = .ok (.ireturn, 1) := by decide +kernel
theorem dX9_count_132 : decode cX9_count 132 = .ok (.aload_n 0, 1) := by decide +kernel
theorem dX9_count_133 : decode cX9_count 133 = .ok (.invokevirtual 61, 3) := by decide +kernel
theorem dX9_count_136 : decode cX9_count 136 = .ok (.ireturn, 1) := by decide +kernel
theorem dX9_count_137 : decode cX9_count 137 = .ok (.aload_n 0, 1) := by decide +kernel
theorem dX9_count_138 : decode cX9_count 138 = .ok (.getfield 7, 3) := by decide +kernel
theorem dX9_count_141 : decode cX9_count 141 = .ok (.bipush 112, 2) := by decide +kernel
theorem dX9_count_143 : decode cX9_count 143 = .ok (.iaload, 1) := by decide +kernel
theorem dX9_count_144 : decode cX9_count 144 = .ok (.ireturn, 1) := by decide +kernel
theorem dX9_count_145 : decode cX9_count 145 = .ok (.aload_n 0, 1) := by decide +kernel
theorem dX9_count_146 : decode cX9_count 146 = .ok (.getfield 40, 3) := by decide +kernel
theorem dX9_count_149 : decode cX9_count 149 = .ok (.ireturn, 1) := by decide +kernel
theorem dX9_count_150 : decode cX9_count 150 = .ok (.aload_n 0, 1) := by decide +kernel
theorem dX9_count_151 : decode cX9_count 151 = .ok (.getfield 105, 3) := by decide +kernel
theorem dX9_count_154 : decode cX9_count 154 = .ok (.ireturn, 1) := by decide +kernel
theorem dX9_count_155 : decode cX9_count 155 = .ok (.bipush (-2), 2) := by decide +kernel
theorem dX9_count_157 : decode cX9_count 157 = .ok (.ireturn, 1) := by decide +kernel
theorem dJ0_length_8abf5_0 : decode cJ0_length_8abf5 0 = .ok (.aload_n 0, 1) := by decide +kernel
theorem dJ0_length_8abf5_1 : decode cJ0_length_8abf5 1 = .ok (.getfield 9, 3) := by decide +kernel
theorem dJ0_length_8abf5_4 : decode cJ0_length_8abf5 4 = .ok (.arraylength, 1) := by decide +kernel
theorem dJ0_length_8abf5_5 : decode cJ0_length_8abf5 5 = .ok (.aload_n 0, 1) := by decide +kernel
theorem dJ0_length_8abf5_6 : decode cJ0_length_8abf5 6 = .ok (.invokevirtual 335, 3) := by decide +kernel
theorem dJ0_length_8abf5_9 : decode cJ0_length_8abf5 9 = .ok (.ishr, 1) := by decide +kernel
theorem dJ0_length_8abf5_10 : decode cJ0_length_8abf5 10 = .ok (.ireturn, 1) := by decide +kernel
theorem dJ0_charAt_5068e_0 : decode cJ0_charAt_5068e 0 = .ok (.aload_n 0, 1) := by decide +kernel
theorem dJ0_charAt_5068e_1 : decode cJ0_charAt_5068e 1 = .ok (.invokevirtual 492, 3) := by decide +kernel
theorem dJ0_charAt_5068e_4 : decode cJ0_charAt_5068e 4 = .ok (.ifCond .eq 12, 3) := by decide +kernel
theorem dJ0_charAt_5068e_7 : decode cJ0_charAt_5068e 7 = .ok (.aload_n 0, 1) := by decide +kernel
theorem dJ0_charAt_5068e_8 : decode cJ0_charAt_5068e 8 = .ok (.getfield 9, 3) := by decide +kernel
theorem dJ0_charAt_5068e_11 : decode cJ0_charAt_5068e 11 = .ok (.iload_n 1, 1) := by decide +kernel
theorem dJ0_charAt_5068e_12 : decode cJ0_charAt_5068e 12 = .ok (.invokestatic 495, 3) := by decide +kernel
theorem dJ0_charAt_5068e_15 : decode cJ0_charAt_5068e 15 = .ok (.ireturn, 1) := by decide +kernel
theorem dJ0_charAt_5068e_16 : decode cJ0_charAt_5068e 16 = .ok (.aload_n 0, 1) := by decide +kernel
theorem dJ0_charAt_5068e_17 : decode cJ0_charAt_5068e 17 = .ok (.getfield 9, 3) := by decide +kernel
theorem dJ0_charAt_5068e_20 : decode cJ0_charAt_5068e 20 = .ok (.iload_n 1, 1) := by decide +kernel
theorem dJ0_charAt_5068e_21 : decode cJ0_charAt_5068e 21 = .ok (.invokestatic 498, 3) := by decide +kernel
theorem dJ0_charAt_5068e_24 : decode cJ0_charAt_5068e 24 = .ok (.ireturn, 1) := by decide +kernel
theorem dJ0_coder_7d493_0 : decode cJ0_coder_7d493 0 = .ok (.getstatic 38, 3) := by decide +kernel
theorem dJ0_coder_7d493_3 : decode cJ0_coder_7d493 3 = .ok (.ifCond .eq 10, 3) := by decide +kernel
theorem dJ0_coder_7d493_6 : decode cJ0_coder_7d493 6 = .ok (.aload_n 0, 1) := by decide +kernel
theorem dJ0_coder_7d493_7 : decode cJ0_coder_7d493 7 = .ok (.getfield 15, 3) := by decide +kernel
theorem dJ0_coder_7d493_10 : decode cJ0_coder_7d493 10 = .ok (.goto 4, 3) := by decide +kernel
theorem dJ0_coder_7d493_13 : decode cJ0_coder_7d493 13 = .ok (.iconst 1, 1) := by decide +kernel
theorem dJ0_coder_7d493_14 : decode cJ0_coder_7d493 14 = .ok (.ireturn, 1) := by decide +kernel
theorem dJ0_isLatin1_aae02_0 : decode cJ0_isLatin1_aae02 0 = .ok (.getstatic 38, 3) := by decide +kernel
theorem dJ0_isLatin1_aae02_3 : decode cJ0_isLatin1_aae02 3 = .ok (.ifCond .eq 14, 3) := by decide +kernel
theorem dJ0_isLatin1_aae02_6 : decode cJ0_isLatin1_aae02 6 = .ok (.aload_n 0, 1) := by decide +kernel
theorem dJ0_isLatin1_aae02_7 : decode cJ0_isLatin1_aae02 7 = .ok (.getfield 15, 3) := by decide +kernel
theorem dJ0_isLatin1_aae02_10 : decode cJ0_isLatin1_aae02 10 = .ok (.ifCond .ne 7, 3) := by decide +kernel
theorem dJ0_isLatin1_aae02_13 : decode cJ0_isLatin1_aae02 13 = .ok (.iconst 1, 1) := by decide +kernel
theorem dJ0_isLatin1_aae02_14 : decode cJ0_isLatin1_aae02 14 = .ok (.goto 4, 3) := by decide +kernel
theorem dJ0_isLatin1_aae02_17 : decode cJ0_isLatin1_aae02 17 = .ok (.iconst 0, 1) := by decide +kernel
theorem dJ0_isLatin1_aae02_18 : decode cJ0_isLatin1_aae02 18 = .ok (.ireturn, 1) := by decide +kernel
theorem dJ0_checkIndex_df160_0 : decode cJ0_checkIndex_df160 0 = .ok (.iload_n 0, 1) := by decide +kernel
theorem dJ0_checkIndex_df160_1 : decode cJ0_checkIndex_df160 1 = .ok (.iload_n 1, 1) := by decide +kernel
theorem dJ0_checkIndex_df160_2 : decode cJ0_checkIndex_df160 2 = .ok (.getstatic 1053, 3) := by decide +kernel
theorem dJ0_checkIndex_df160_5 : decode cJ0_checkIndex_df160 5 = .ok (.invokestatic 1059, 3) := by decide +kernel
theorem dJ0_checkIndex_df160_8 : decode cJ0_checkIndex_df160 8 = .ok (.pop, 1) := by decide +kernel
theorem dJ0_checkIndex_df160_9 : decode cJ0_checkIndex_df160 9 = .ok (.return_, 1) := by decide +kernel
theorem dJ1_charAt_3b067_0 : decode cJ1_charAt_3b067 0 = .ok (.iload_n 1, 1) := by decide +kernel
theorem dJ1_charAt_3b067_1 : decode cJ1_charAt_3b067 1 = .ok (.aload_n 0, 1) := by decide +kernel
theorem dJ1_charAt_3b067_2 : decode cJ1_charAt_3b067 2 = .ok (.arraylength, 1) := by decide +kernel
theorem dJ1_charAt_3b067_3 : decode cJ1_charAt_3b067 3 = .ok (.invokestatic 9, 3) := by decide +kernel
theorem dJ1_charAt_3b067_6 : decode cJ1_charAt_3b067 6 = .ok (.aload_n 0, 1) := by decide +kernel
theorem dJ1_charAt_3b067_7 : decode cJ1_charAt_3b067 7 = .ok (.iload_n 1, 1) := by decide +kernel
theorem dJ1_charAt_3b067_8 : decode cJ1_charAt_3b067 8 = .ok (.baload, 1) := by decide +kernel
theorem dJ1_charAt_3b067_9 : decode cJ1_charAt_3b067 9 = .ok (.sipush 255, 3) := by decide +kernel
theorem dJ1_charAt_3b067_12 : decode cJ1_charAt_3b067 12 = .ok (.iand, 1) := by decide +kernel
theorem dJ1_charAt_3b067_13 : decode cJ1_charAt_3b067 13 = .ok (.i2c, 1) := by decide +kernel
theorem dJ1_charAt_3b067_14 : decode cJ1_charAt_3b067 14 = .ok (.ireturn, 1) := by decide +kernel
theorem dJ3_checkIndex_8e157_0 : decode cJ3_checkIndex_8e157 0 = .ok (.iload_n 0, 1) := by decide +kernel
theorem dJ3_checkIndex_8e157_1 : decode cJ3_checkIndex_8e157 1 = .ok (.ifCond .lt 8, 3) := by decide +kernel
theorem dJ3_checkIndex_8e157_4 : decode cJ3_checkIndex_8e157 4 = .ok (.iload_n 0, 1) := by decide +kernel
theorem dJ3_checkIndex_8e157_5 : decode cJ3_checkIndex_8e157 5 = .ok (.iload_n 1, 1) := by decide +kernel
theorem dJ3_checkIndex_8e157_6 : decode cJ3_checkIndex_8e157 6 = .ok (.if_icmp .lt 10, 3) := by decide +kernel
theorem dJ3_checkIndex_8e157_9 : decode cJ3_checkIndex_8e157 9 = .ok (.aload_n 2, 1) := by decide +kernel
theorem dJ3_checkIndex_8e157_10 : decode cJ3_checkIndex_8e157 10 = .ok (.iload_n 0, 1) := by decide +kernel
theorem dJ3_checkIndex_8e157_11 : decode cJ3_checkIndex_8e157 11 = .ok (.iload_n 1, 1) := by decide +kernel
theorem dJ3_checkIndex_8e157_12 : decode cJ3_checkIndex_8e157 12 = .ok (.invokestatic 95, 3) := by decide +kernel
theorem dJ3_checkIndex_8e157_15 : decode cJ3_checkIndex_8e157 15 = .ok (.athrow, 1) := by decide +kernel
theorem dJ3_checkIndex_8e157_16 : decode cJ3_checkIndex_8e157 16 = .ok (.iload_n 0, 1) := by decide +kernel
theorem dJ3_checkIndex_8e157_17 : decode cJ3_checkIndex_8e157 17 = .ok (.ireturn, 1) := by decide +kernel
theorem dL_law_0 : decode cL_law 0 = .ok (.new 7, 3) := by decide +kernel
theorem dL_law_3 : decode cL_law 3 = .ok (.dup, 1) := by decide +kernel
theorem dL_law_4 : decode cL_law 4 = .ok (.invokespecial 9, 3) := by decide +kernel
theorem dL_law_7 : decode cL_law 7 = .ok (.astore_n 1, 1) := by decide +kernel
theorem dL_law_8 : decode cL_law 8 = .ok (.new 10, 3) := by decide +kernel
theorem dL_law_11 : decode cL_law 11 = .ok (.dup, 1) := by decide +kernel
theorem dL_law_12 : decode cL_law 12 = .ok (.invokespecial 12, 3) := by decide +kernel
theorem dL_law_15 : decode cL_law 15 = .ok (.astore_n 2, 1) := by decide +kernel
theorem dL_law_16 : decode cL_law 16 = .ok (.iconst 0, 1) := by decide +kernel
theorem dL_law_17 : decode cL_law 17 = .ok (.istore_n 3, 1) := by decide +kernel
theorem dL_law_18 : decode cL_law 18 = .ok (.iload_n 3, 1) := by decide +kernel
theorem dL_law_19 : decode cL_law 19 = .ok (.aload_n 0, 1) := by decide +kernel
theorem dL_law_20 : decode cL_law 20 = .ok (.arraylength, 1) := by decide +kernel
theorem dL_law_21 : decode cL_law 21 = .ok (.iconst 4, 1) := by decide +kernel
theorem dL_law_22 : decode cL_law 22 = .ok (.isub, 1) := by decide +kernel
theorem dL_law_23 : decode cL_law 23 = .ok (.if_icmp .gt 740, 3) := by decide +kernel
theorem dL_law_26 : decode cL_law 26 = .ok (.aload_n 0, 1) := by decide +kernel
theorem dL_law_27 : decode cL_law 27 = .ok (.iload_n 3, 1) := by decide +kernel
theorem dL_law_28 : decode cL_law 28 = .ok (.iaload, 1) := by decide +kernel
theorem dL_law_29 : decode cL_law 29 = .ok (.bipush 31, 2) := by decide +kernel
theorem dL_law_31 : decode cL_law 31 = .ok (.iand, 1) := by decide +kernel
theorem dL_law_32 : decode cL_law 32 = .ok (.tableswitch 725 0 22 #[108, 151, 200, 233, 266, 289, 312, 335, 360, 373, 406, 419, 432, 445, 478, 511, 544, 567, 600, 633, 656, 689, 702], 108) := by decide +kernel
theorem dL_law_140 : decode cL_law 140 = .ok (.aload_n 1, 1) := by decide +kernel
theorem dL_law_141 : decode cL_law 141 = .ok (.aload_n 0, 1) := by decide +kernel
theorem dL_law_142 : decode cL_law 142 = .ok (.iload_n 3, 1) := by decide +kernel
theorem dL_law_143 : decode cL_law 143 = .ok (.iconst 1, 1) := by decide +kernel
theorem dL_law_144 : decode cL_law 144 = .ok (.iadd, 1) := by decide +kernel
theorem dL_law_145 : decode cL_law 145 = .ok (.iaload, 1) := by decide +kernel
theorem dL_law_146 : decode cL_law 146 = .ok (.aload_n 0, 1) := by decide +kernel
theorem dL_law_147 : decode cL_law 147 = .ok (.iload_n 3, 1) := by decide +kernel
theorem dL_law_148 : decode cL_law 148 = .ok (.iconst 2, 1) := by decide +kernel
theorem dL_law_149 : decode cL_law 149 = .ok (.iadd, 1) := by decide +kernel
theorem dL_law_150 : decode cL_law 150 = .ok (.iaload, 1) := by decide +kernel
theorem dL_law_151 : decode cL_law 151 = .ok (.aload_n 0, 1) := by decide +kernel
theorem dL_law_152 : decode cL_law 152 = .ok (.iload_n 3, 1) := by decide +kernel
theorem dL_law_153 : decode cL_law 153 = .ok (.iconst 3, 1) := by decide +kernel
theorem dL_law_154 : decode cL_law 154 = .ok (.iadd, 1) := by decide +kernel
theorem dL_law_155 : decode cL_law 155 = .ok (.iaload, 1) := by decide +kernel
theorem dL_law_156 : decode cL_law 156 = .ok (.invokevirtual 13, 3) := by decide +kernel
theorem dL_law_159 : decode cL_law 159 = .ok (.aload_n 2, 1) := by decide +kernel
theorem dL_law_160 : decode cL_law 160 = .ok (.aload_n 0, 1) := by decide +kernel
theorem dL_law_161 : decode cL_law 161 = .ok (.iload_n 3, 1) := by decide +kernel
theorem dL_law_162 : decode cL_law 162 = .ok (.iconst 1, 1) := by decide +kernel
theorem dL_law_163 : decode cL_law 163 = .ok (.iadd, 1) := by decide +kernel
theorem dL_law_164 : decode cL_law 164 = .ok (.iaload, 1) := by decide +kernel
theorem dL_law_165 : decode cL_law 165 = .ok (.aload_n 0, 1) := by decide +kernel
theorem dL_law_166 : decode cL_law 166 = .ok (.iload_n 3, 1) := by decide +kernel
theorem dL_law_167 : decode cL_law 167 = .ok (.iconst 2, 1) := by decide +kernel
theorem dL_law_168 : decode cL_law 168 = .ok (.iadd, 1) := by decide +kernel
theorem dL_law_169 : decode cL_law 169 = .ok (.iaload, 1) := by decide +kernel
theorem dL_law_170 : decode cL_law 170 = .ok (.aload_n 0, 1) := by decide +kernel
theorem dL_law_171 : decode cL_law 171 = .ok (.iload_n 3, 1) := by decide +kernel
theorem dL_law_172 : decode cL_law 172 = .ok (.iconst 3, 1) := by decide +kernel
theorem dL_law_173 : decode cL_law 173 = .ok (.iadd, 1) := by decide +kernel
theorem dL_law_174 : decode cL_law 174 = .ok (.iaload, 1) := by decide +kernel
theorem dL_law_175 : decode cL_law 175 = .ok (.invokevirtual 17, 3) := by decide +kernel
theorem dL_law_178 : decode cL_law 178 = .ok (.if_icmp .eq 579, 3) := by decide +kernel
theorem dL_law_181 : decode cL_law 181 = .ok (.iconst 0, 1) := by decide +kernel
theorem dL_law_182 : decode cL_law 182 = .ok (.ireturn, 1) := by decide +kernel
theorem dL_law_183 : decode cL_law 183 = .ok (.aload_n 1, 1) := by decide +kernel
theorem dL_law_184 : decode cL_law 184 = .ok (.aload_n 0, 1) := by decide +kernel
theorem dL_law_185 : decode cL_law 185 = .ok (.iload_n 3, 1) := by decide +kernel
theorem dL_law_186 : decode cL_law 186 = .ok (.iconst 1, 1) := by decide +kernel
theorem dL_law_187 : decode cL_law 187 = .ok (.iadd, 1) := by decide +kernel
theorem dL_law_188 : decode cL_law 188 = .ok (.iaload, 1) := by decide +kernel
theorem dL_law_189 : decode cL_law 189 = .ok (.aload_n 0, 1) := by decide +kernel
theorem dL_law_190 : decode cL_law 190 = .ok (.iload_n 3, 1) := by decide +kernel
theorem dL_law_191 : decode cL_law 191 = .ok (.iconst 2, 1) := by decide +kernel
theorem dL_law_192 : decode cL_law 192 = .ok (.iadd, 1) := by decide +kernel
theorem dL_law_193 : decode cL_law 193 = .ok (.iaload, 1) := by decide +kernel
theorem dL_law_194 : decode cL_law 194 = .ok (.ifCond .eq 7, 3) := by decide +kernel
theorem dL_law_197 : decode cL_law 197 = .ok (.iconst 1, 1) := by decide +kernel
theorem dL_law_198 : decode cL_law 198 = .ok (.goto 4, 3) := by decide +kernel
theorem dL_law_201 : decode cL_law 201 = .ok (.iconst 0, 1) := by decide +kernel
theorem dL_law_202 : decode cL_law 202 = .ok (.invokevirtual 18, 3) := by decide +kernel
theorem dL_law_205 : decode cL_law 205 = .ok (.aload_n 2, 1) := by decide +kernel
theorem dL_law_206 : decode cL_law 206 = .ok (.aload_n 0, 1) := by decide +kernel
theorem dL_law_207 : decode cL_law 207 = .ok (.iload_n 3, 1) := by decide +kernel
theorem dL_law_208 : decode cL_law 208 = .ok (.iconst 1, 1) := by decide +kernel
theorem dL_law_209 : decode cL_law 209 = .ok (.iadd, 1) := by decide +kernel
theorem dL_law_210 : decode cL_law 210 = .ok (.iaload, 1) := by decide +kernel
theorem dL_law_211 : decode cL_law 211 = .ok (.aload_n 0, 1) := by decide +kernel
theorem dL_law_212 : decode cL_law 212 = .ok (.iload_n 3, 1) := by decide +kernel
theorem dL_law_213 : decode cL_law 213 = .ok (.iconst 2, 1) := by decide +kernel
theorem dL_law_214 : decode cL_law 214 = .ok (.iadd, 1) := by decide +kernel
theorem dL_law_215 : decode cL_law 215 = .ok (.iaload, 1) := by decide +kernel
theorem dL_law_216 : decode cL_law 216 = .ok (.ifCond .eq 7, 3) := by decide +kernel
theorem dL_law_219 : decode cL_law 219 = .ok (.iconst 1, 1) := by decide +kernel
theorem dL_law_220 : decode cL_law 220 = .ok (.goto 4, 3) := by decide +kernel
theorem dL_law_223 : decode cL_law 223 = .ok (.iconst 0, 1) := by decide +kernel
theorem dL_law_224 : decode cL_law 224 = .ok (.invokevirtual 22, 3) := by decide +kernel
theorem dL_law_227 : decode cL_law 227 = .ok (.if_icmp .eq 530, 3) := by decide +kernel
theorem dL_law_230 : decode cL_law 230 = .ok (.iconst 0, 1) := by decide +kernel
theorem dL_law_231 : decode cL_law 231 = .ok (.ireturn, 1) := by decide +kernel
theorem dL_law_232 : decode cL_law 232 = .ok (.aload_n 1, 1) := by decide +kernel
theorem dL_law_233 : decode cL_law 233 = .ok (.aload_n 0, 1) := by decide +kernel
theorem dL_law_234 : decode cL_law 234 = .ok (.iload_n 3, 1) := by decide +kernel
theorem dL_law_235 : decode cL_law 235 = .ok (.iconst 1, 1) := by decide +kernel
theorem dL_law_236 : decode cL_law 236 = .ok (.iadd, 1) := by decide +kernel
theorem dL_law_237 : decode cL_law 237 = .ok (.iaload, 1) := by decide +kernel
theorem dL_law_238 : decode cL_law 238 = .ok (.aload_n 0, 1) := by decide +kernel
theorem dL_law_239 : decode cL_law 239 = .ok (.iload_n 3, 1) := by decide +kernel
theorem dL_law_240 : decode cL_law 240 = .ok (.iconst 2, 1) := by decide +kernel
theorem dL_law_241 : decode cL_law 241 = .ok (.iadd, 1) := by decide +kernel
theorem dL_law_242 : decode cL_law 242 = .ok (.iaload, 1) := by decide +kernel
theorem dL_law_243 : decode cL_law 243 = .ok (.invokevirtual 23, 3) := by decide +kernel
theorem dL_law_246 : decode cL_law 246 = .ok (.aload_n 2, 1) := by decide +kernel
theorem dL_law_247 : decode cL_law 247 = .ok (.aload_n 0, 1) := by decide +kernel
theorem dL_law_248 : decode cL_law 248 = .ok (.iload_n 3, 1) := by decide +kernel
theorem dL_law_249 : decode cL_law 249 = .ok (.iconst 1, 1) := by decide +kernel
theorem dL_law_250 : decode cL_law 250 = .ok (.iadd, 1) := by decide +kernel
theorem dL_law_251 : decode cL_law 251 = .ok (.iaload, 1) := by decide +kernel
theorem dL_law_252 : decode cL_law 252 = .ok (.aload_n 0, 1) := by decide +kernel
theorem dL_law_253 : decode cL_law 253 = .ok (.iload_n 3, 1) := by decide +kernel
theorem dL_law_254 : decode cL_law 254 = .ok (.iconst 2, 1) := by decide +kernel
theorem dL_law_255 : decode cL_law 255 = .ok (.iadd, 1) := by decide +kernel
theorem dL_law_256 : decode cL_law 256 = .ok (.iaload, 1) := by decide +kernel
theorem dL_law_257 : decode cL_law 257 = .ok (.invokevirtual 27, 3) := by decide +kernel
theorem dL_law_260 : decode cL_law 260 = .ok (.if_icmp .eq 497, 3) := by decide +kernel
theorem dL_law_263 : decode cL_law 263 = .ok (.iconst 0, 1) := by decide +kernel
theorem dL_law_264 : decode cL_law 264 = .ok (.ireturn, 1) := by decide +kernel
theorem dL_law_265 : decode cL_law 265 = .ok (.aload_n 1, 1) := by decide +kernel
theorem dL_law_266 : decode cL_law 266 = .ok (.aload_n 0, 1) := by decide +kernel
theorem dL_law_267 : decode cL_law 267 = .ok (.iload_n 3, 1) := by decide +kernel
theorem dL_law_268 : decode cL_law 268 = .ok (.iconst 1, 1) := by decide +kernel
theorem dL_law_269 : decode cL_law 269 = .ok (.iadd, 1) := by decide +kernel
theorem dL_law_270 : decode cL_law 270 = .ok (.iaload, 1) := by decide +kernel
theorem dL_law_271 : decode cL_law 271 = .ok (.aload_n 0, 1) := by decide +kernel
theorem dL_law_272 : decode cL_law 272 = .ok (.iload_n 3, 1) := by decide +kernel
theorem dL_law_273 : decode cL_law 273 = .ok (.iconst 2, 1) := by decide +kernel
theorem dL_law_274 : decode cL_law 274 = .ok (.iadd, 1) := by decide +kernel
theorem dL_law_275 : decode cL_law 275 = .ok (.iaload, 1) := by decide +kernel
theorem dL_law_276 : decode cL_law 276 = .ok (.invokevirtual 28, 3) := by decide +kernel
theorem dL_law_279 : decode cL_law 279 = .ok (.aload_n 2, 1) := by decide +kernel
theorem dL_law_280 : decode cL_law 280 = .ok (.aload_n 0, 1) := by decide +kernel
theorem dL_law_281 : decode cL_law 281 = .ok (.iload_n 3, 1) := by decide +kernel
theorem dL_law_282 : decode cL_law 282 = .ok (.iconst 1, 1) := by decide +kernel
theorem dL_law_283 : decode cL_law 283 = .ok (.iadd, 1) := by decide +kernel
theorem dL_law_284 : decode cL_law 284 = .ok (.iaload, 1) := by decide +kernel
theorem dL_law_285 : decode cL_law 285 = .ok (.aload_n 0, 1) := by decide +kernel
theorem dL_law_286 : decode cL_law 286 = .ok (.iload_n 3, 1) := by decide +kernel
theorem dL_law_287 : decode cL_law 287 = .ok (.iconst 2, 1) := by decide +kernel
theorem dL_law_288 : decode cL_law 288 = .ok (.iadd, 1) := by decide +kernel
theorem dL_law_289 : decode cL_law 289 = .ok (.iaload, 1) := by decide +kernel
theorem dL_law_290 : decode cL_law 290 = .ok (.invokevirtual 31, 3) := by decide +kernel
theorem dL_law_293 : decode cL_law 293 = .ok (.if_icmp .eq 464, 3) := by decide +kernel
theorem dL_law_296 : decode cL_law 296 = .ok (.iconst 0, 1) := by decide +kernel
theorem dL_law_297 : decode cL_law 297 = .ok (.ireturn, 1) := by decide +kernel
theorem dL_law_298 : decode cL_law 298 = .ok (.aload_n 1, 1) := by decide +kernel
theorem dL_law_299 : decode cL_law 299 = .ok (.aload_n 0, 1) := by decide +kernel
theorem dL_law_300 : decode cL_law 300 = .ok (.iload_n 3, 1) := by decide +kernel
theorem dL_law_301 : decode cL_law 301 = .ok (.iconst 1, 1) := by decide +kernel
theorem dL_law_302 : decode cL_law 302 = .ok (.iadd, 1) := by decide +kernel
theorem dL_law_303 : decode cL_law 303 = .ok (.iaload, 1) := by decide +kernel
theorem dL_law_304 : decode cL_law 304 = .ok (.invokevirtual 32, 3) := by decide +kernel
theorem dL_law_307 : decode cL_law 307 = .ok (.aload_n 2, 1) := by decide +kernel
theorem dL_law_308 : decode cL_law 308 = .ok (.aload_n 0, 1) := by decide +kernel
theorem dL_law_309 : decode cL_law 309 = .ok (.iload_n 3, 1) := by decide +kernel
theorem dL_law_310 : decode cL_law 310 = .ok (.iconst 1, 1) := by decide +kernel
theorem dL_law_311 : decode cL_law 311 = .ok (.iadd, 1) := by decide +kernel
theorem dL_law_312 : decode cL_law 312 = .ok (.iaload, 1) := by decide +kernel
theorem dL_law_313 : decode cL_law 313 = .ok (.invokevirtual 36, 3) := by decide +kernel
theorem dL_law_316 : decode cL_law 316 = .ok (.if_icmp .eq 441, 3) := by decide +kernel
theorem dL_law_319 : decode cL_law 319 = .ok (.iconst 0, 1) := by decide +kernel
theorem dL_law_320 : decode cL_law 320 = .ok (.ireturn, 1) := by decide +kernel
theorem dL_law_321 : decode cL_law 321 = .ok (.aload_n 1, 1) := by decide +kernel
theorem dL_law_322 : decode cL_law 322 = .ok (.aload_n 0, 1) := by decide +kernel
theorem dL_law_323 : decode cL_law 323 = .ok (.iload_n 3, 1) := by decide +kernel
theorem dL_law_324 : decode cL_law 324 = .ok (.iconst 1, 1) := by decide +kernel
theorem dL_law_325 : decode cL_law 325 = .ok (.iadd, 1) := by decide +kernel
theorem dL_law_326 : decode cL_law 326 = .ok (.iaload, 1) := by decide +kernel
theorem dL_law_327 : decode cL_law 327 = .ok (.invokevirtual 37, 3) := by decide +kernel
theorem dL_law_330 : decode cL_law 330 = .ok (.aload_n 2, 1) := by decide +kernel
theorem dL_law_331 : decode cL_law 331 = .ok (.aload_n 0, 1) := by decide +kernel
theorem dL_law_332 : decode cL_law 332 = .ok (.iload_n 3, 1) := by decide +kernel
theorem dL_law_333 : decode cL_law 333 = .ok (.iconst 1, 1) := by decide +kernel
theorem dL_law_334 : decode cL_law 334 = .ok (.iadd, 1) := by decide +kernel
theorem dL_law_335 : decode cL_law 335 = .ok (.iaload, 1) := by decide +kernel
theorem dL_law_336 : decode cL_law 336 = .ok (.invokevirtual 40, 3) := by decide +kernel
theorem dL_law_339 : decode cL_law 339 = .ok (.if_icmp .eq 418, 3) := by decide +kernel
theorem dL_law_342 : decode cL_law 342 = .ok (.iconst 0, 1) := by decide +kernel
theorem dL_law_343 : decode cL_law 343 = .ok (.ireturn, 1) := by decide +kernel
theorem dL_law_344 : decode cL_law 344 = .ok (.aload_n 1, 1) := by decide +kernel
theorem dL_law_345 : decode cL_law 345 = .ok (.aload_n 0, 1) := by decide +kernel
theorem dL_law_346 : decode cL_law 346 = .ok (.iload_n 3, 1) := by decide +kernel
theorem dL_law_347 : decode cL_law 347 = .ok (.iconst 1, 1) := by decide +kernel
theorem dL_law_348 : decode cL_law 348 = .ok (.iadd, 1) := by decide +kernel
theorem dL_law_349 : decode cL_law 349 = .ok (.iaload, 1) := by decide +kernel
theorem dL_law_350 : decode cL_law 350 = .ok (.invokevirtual 41, 3) := by decide +kernel
theorem dL_law_353 : decode cL_law 353 = .ok (.aload_n 2, 1) := by decide +kernel
theorem dL_law_354 : decode cL_law 354 = .ok (.aload_n 0, 1) := by decide +kernel
theorem dL_law_355 : decode cL_law 355 = .ok (.iload_n 3, 1) := by decide +kernel
theorem dL_law_356 : decode cL_law 356 = .ok (.iconst 1, 1) := by decide +kernel
theorem dL_law_357 : decode cL_law 357 = .ok (.iadd, 1) := by decide +kernel
theorem dL_law_358 : decode cL_law 358 = .ok (.iaload, 1) := by decide +kernel
theorem dL_law_359 : decode cL_law 359 = .ok (.invokevirtual 44, 3) := by decide +kernel
theorem dL_law_362 : decode cL_law 362 = .ok (.if_icmp .eq 395, 3) := by decide +kernel
theorem dL_law_365 : decode cL_law 365 = .ok (.iconst 0, 1) := by decide +kernel
theorem dL_law_366 : decode cL_law 366 = .ok (.ireturn, 1) := by decide +kernel
theorem dL_law_367 : decode cL_law 367 = .ok (.aload_n 1, 1) := by decide +kernel
theorem dL_law_368 : decode cL_law 368 = .ok (.aload_n 0, 1) := by decide +kernel
theorem dL_law_369 : decode cL_law 369 = .ok (.iload_n 3, 1) := by decide +kernel
theorem dL_law_370 : decode cL_law 370 = .ok (.iconst 1, 1) := by decide +kernel
theorem dL_law_371 : decode cL_law 371 = .ok (.iadd, 1) := by decide +kernel
theorem dL_law_372 : decode cL_law 372 = .ok (.iaload, 1) := by decide +kernel
theorem dL_law_373 : decode cL_law 373 = .ok (.i2c, 1) := by decide +kernel
theorem dL_law_374 : decode cL_law 374 = .ok (.invokevirtual 45, 3) := by decide +kernel
theorem dL_law_377 : decode cL_law 377 = .ok (.aload_n 2, 1) := by decide +kernel
theorem dL_law_378 : decode cL_law 378 = .ok (.aload_n 0, 1) := by decide +kernel
theorem dL_law_379 : decode cL_law 379 = .ok (.iload_n 3, 1) := by decide +kernel
theorem dL_law_380 : decode cL_law 380 = .ok (.iconst 1, 1) := by decide +kernel
theorem dL_law_381 : decode cL_law 381 = .ok (.iadd, 1) := by decide +kernel
theorem dL_law_382 : decode cL_law 382 = .ok (.iaload, 1) := by decide +kernel
theorem dL_law_383 : decode cL_law 383 = .ok (.i2c, 1) := by decide +kernel
theorem dL_law_384 : decode cL_law 384 = .ok (.invokevirtual 49, 3) := by decide +kernel
theorem dL_law_387 : decode cL_law 387 = .ok (.if_icmp .eq 370, 3) := by decide +kernel
theorem dL_law_390 : decode cL_law 390 = .ok (.iconst 0, 1) := by decide +kernel
theorem dL_law_391 : decode cL_law 391 = .ok (.ireturn, 1) := by decide +kernel
theorem dL_law_392 : decode cL_law 392 = .ok (.aload_n 1, 1) := by decide +kernel
theorem dL_law_393 : decode cL_law 393 = .ok (.invokevirtual 50, 3) := by decide +kernel
theorem dL_law_396 : decode cL_law 396 = .ok (.aload_n 2, 1) := by decide +kernel
theorem dL_law_397 : decode cL_law 397 = .ok (.invokevirtual 54, 3) := by decide +kernel
theorem dL_law_400 : decode cL_law 400 = .ok (.if_icmp .eq 357, 3) := by decide +kernel
theorem dL_law_403 : decode cL_law 403 = .ok (.iconst 0, 1) := by decide +kernel
theorem dL_law_404 : decode cL_law 404 = .ok (.ireturn, 1) := by decide +kernel
theorem dL_law_405 : decode cL_law 405 = .ok (.aload_n 1, 1) := by decide +kernel
theorem dL_law_406 : decode cL_law 406 = .ok (.aload_n 0, 1) := by decide +kernel
theorem dL_law_407 : decode cL_law 407 = .ok (.iload_n 3, 1) := by decide +kernel
theorem dL_law_408 : decode cL_law 408 = .ok (.iconst 1, 1) := by decide +kernel
theorem dL_law_409 : decode cL_law 409 = .ok (.iadd, 1) := by decide +kernel
theorem dL_law_410 : decode cL_law 410 = .ok (.iaload, 1) := by decide +kernel
theorem dL_law_411 : decode cL_law 411 = .ok (.aload_n 0, 1) := by decide +kernel
theorem dL_law_412 : decode cL_law 412 = .ok (.iload_n 3, 1) := by decide +kernel
theorem dL_law_413 : decode cL_law 413 = .ok (.iconst 2, 1) := by decide +kernel
theorem dL_law_414 : decode cL_law 414 = .ok (.iadd, 1) := by decide +kernel
theorem dL_law_415 : decode cL_law 415 = .ok (.iaload, 1) := by decide +kernel
theorem dL_law_416 : decode cL_law 416 = .ok (.invokevirtual 55, 3) := by decide +kernel
theorem dL_law_419 : decode cL_law 419 = .ok (.aload_n 2, 1) := by decide +kernel
theorem dL_law_420 : decode cL_law 420 = .ok (.aload_n 0, 1) := by decide +kernel
theorem dL_law_421 : decode cL_law 421 = .ok (.iload_n 3, 1) := by decide +kernel
theorem dL_law_422 : decode cL_law 422 = .ok (.iconst 1, 1) := by decide +kernel
theorem dL_law_423 : decode cL_law 423 = .ok (.iadd, 1) := by decide +kernel
theorem dL_law_424 : decode cL_law 424 = .ok (.iaload, 1) := by decide +kernel
theorem dL_law_425 : decode cL_law 425 = .ok (.aload_n 0, 1) := by decide +kernel
theorem dL_law_426 : decode cL_law 426 = .ok (.iload_n 3, 1) := by decide +kernel
theorem dL_law_427 : decode cL_law 427 = .ok (.iconst 2, 1) := by decide +kernel
theorem dL_law_428 : decode cL_law 428 = .ok (.iadd, 1) := by decide +kernel
theorem dL_law_429 : decode cL_law 429 = .ok (.iaload, 1) := by decide +kernel
theorem dL_law_430 : decode cL_law 430 = .ok (.invokevirtual 58, 3) := by decide +kernel
theorem dL_law_433 : decode cL_law 433 = .ok (.if_icmp .eq 324, 3) := by decide +kernel
theorem dL_law_436 : decode cL_law 436 = .ok (.iconst 0, 1) := by decide +kernel
theorem dL_law_437 : decode cL_law 437 = .ok (.ireturn, 1) := by decide +kernel
theorem dL_law_438 : decode cL_law 438 = .ok (.aload_n 1, 1) := by decide +kernel
theorem dL_law_439 : decode cL_law 439 = .ok (.invokevirtual 59, 3) := by decide +kernel
theorem dL_law_442 : decode cL_law 442 = .ok (.aload_n 2, 1) := by decide +kernel
theorem dL_law_443 : decode cL_law 443 = .ok (.invokevirtual 62, 3) := by decide +kernel
theorem dL_law_446 : decode cL_law 446 = .ok (.if_icmp .eq 311, 3) := by decide +kernel
theorem dL_law_449 : decode cL_law 449 = .ok (.iconst 0, 1) := by decide +kernel
theorem dL_law_450 : decode cL_law 450 = .ok (.ireturn, 1) := by decide +kernel
theorem dL_law_451 : decode cL_law 451 = .ok (.aload_n 1, 1) := by decide +kernel
theorem dL_law_452 : decode cL_law 452 = .ok (.invokevirtual 63, 3) := by decide +kernel
theorem dL_law_455 : decode cL_law 455 = .ok (.aload_n 2, 1) := by decide +kernel
theorem dL_law_456 : decode cL_law 456 = .ok (.invokevirtual 66, 3) := by decide +kernel
theorem dL_law_459 : decode cL_law 459 = .ok (.if_icmp .eq 298, 3) := by decide +kernel
theorem dL_law_462 : decode cL_law 462 = .ok (.iconst 0, 1) := by decide +kernel
theorem dL_law_463 : decode cL_law 463 = .ok (.ireturn, 1) := by decide +kernel
theorem dL_law_464 : decode cL_law 464 = .ok (.aload_n 1, 1) := by decide +kernel
theorem dL_law_465 : decode cL_law 465 = .ok (.invokevirtual 67, 3) := by decide +kernel
theorem dL_law_468 : decode cL_law 468 = .ok (.aload_n 2, 1) := by decide +kernel
theorem dL_law_469 : decode cL_law 469 = .ok (.invokevirtual 70, 3) := by decide +kernel
theorem dL_law_472 : decode cL_law 472 = .ok (.if_icmp .eq 285, 3) := by decide +kernel
theorem dL_law_475 : decode cL_law 475 = .ok (.iconst 0, 1) := by decide +kernel
theorem dL_law_476 : decode cL_law 476 = .ok (.ireturn, 1) := by decide +kernel
theorem dL_law_477 : decode cL_law 477 = .ok (.aload_n 1, 1) := by decide +kernel
theorem dL_law_478 : decode cL_law 478 = .ok (.aload_n 0, 1) := by decide +kernel
theorem dL_law_479 : decode cL_law 479 = .ok (.iload_n 3, 1) := by decide +kernel
theorem dL_law_480 : decode cL_law 480 = .ok (.iconst 1, 1) := by decide +kernel
theorem dL_law_481 : decode cL_law 481 = .ok (.iadd, 1) := by decide +kernel
theorem dL_law_482 : decode cL_law 482 = .ok (.iaload, 1) := by decide +kernel
theorem dL_law_483 : decode cL_law 483 = .ok (.aload_n 0, 1) := by decide +kernel
theorem dL_law_484 : decode cL_law 484 = .ok (.iload_n 3, 1) := by decide +kernel
theorem dL_law_485 : decode cL_law 485 = .ok (.iconst 2, 1) := by decide +kernel
theorem dL_law_486 : decode cL_law 486 = .ok (.iadd, 1) := by decide +kernel
theorem dL_law_487 : decode cL_law 487 = .ok (.iaload, 1) := by decide +kernel
theorem dL_law_488 : decode cL_law 488 = .ok (.invokevirtual 71, 3) := by decide +kernel
theorem dL_law_491 : decode cL_law 491 = .ok (.aload_n 2, 1) := by decide +kernel
theorem dL_law_492 : decode cL_law 492 = .ok (.aload_n 0, 1) := by decide +kernel
theorem dL_law_493 : decode cL_law 493 = .ok (.iload_n 3, 1) := by decide +kernel
theorem dL_law_494 : decode cL_law 494 = .ok (.iconst 1, 1) := by decide +kernel
theorem dL_law_495 : decode cL_law 495 = .ok (.iadd, 1) := by decide +kernel
theorem dL_law_496 : decode cL_law 496 = .ok (.iaload, 1) := by decide +kernel
theorem dL_law_497 : decode cL_law 497 = .ok (.aload_n 0, 1) := by decide +kernel
theorem dL_law_498 : decode cL_law 498 = .ok (.iload_n 3, 1) := by decide +kernel
theorem dL_law_499 : decode cL_law 499 = .ok (.iconst 2, 1) := by decide +kernel
theorem dL_law_500 : decode cL_law 500 = .ok (.iadd, 1) := by decide +kernel
theorem dL_law_501 : decode cL_law 501 = .ok (.iaload, 1) := by decide +kernel
theorem dL_law_502 : decode cL_law 502 = .ok (.invokevirtual 74, 3) := by decide +kernel
theorem dL_law_505 : decode cL_law 505 = .ok (.if_icmp .eq 252, 3) := by decide +kernel
theorem dL_law_508 : decode cL_law 508 = .ok (.iconst 0, 1) := by decide +kernel
theorem dL_law_509 : decode cL_law 509 = .ok (.ireturn, 1) := by decide +kernel
theorem dL_law_510 : decode cL_law 510 = .ok (.aload_n 1, 1) := by decide +kernel
theorem dL_law_511 : decode cL_law 511 = .ok (.aload_n 0, 1) := by decide +kernel
theorem dL_law_512 : decode cL_law 512 = .ok (.iload_n 3, 1) := by decide +kernel
theorem dL_law_513 : decode cL_law 513 = .ok (.iconst 1, 1) := by decide +kernel
theorem dL_law_514 : decode cL_law 514 = .ok (.iadd, 1) := by decide +kernel
theorem dL_law_515 : decode cL_law 515 = .ok (.iaload, 1) := by decide +kernel
theorem dL_law_516 : decode cL_law 516 = .ok (.aload_n 0, 1) := by decide +kernel
theorem dL_law_517 : decode cL_law 517 = .ok (.iload_n 3, 1) := by decide +kernel
theorem dL_law_518 : decode cL_law 518 = .ok (.iconst 2, 1) := by decide +kernel
theorem dL_law_519 : decode cL_law 519 = .ok (.iadd, 1) := by decide +kernel
theorem dL_law_520 : decode cL_law 520 = .ok (.iaload, 1) := by decide +kernel
theorem dL_law_521 : decode cL_law 521 = .ok (.invokevirtual 75, 3) := by decide +kernel
theorem dL_law_524 : decode cL_law 524 = .ok (.aload_n 2, 1) := by decide +kernel
theorem dL_law_525 : decode cL_law 525 = .ok (.aload_n 0, 1) := by decide +kernel
theorem dL_law_526 : decode cL_law 526 = .ok (.iload_n 3, 1) := by decide +kernel
theorem dL_law_527 : decode cL_law 527 = .ok (.iconst 1, 1) := by decide +kernel
theorem dL_law_528 : decode cL_law 528 = .ok (.iadd, 1) := by decide +kernel
theorem dL_law_529 : decode cL_law 529 = .ok (.iaload, 1) := by decide +kernel
theorem dL_law_530 : decode cL_law 530 = .ok (.aload_n 0, 1) := by decide +kernel
theorem dL_law_531 : decode cL_law 531 = .ok (.iload_n 3, 1) := by decide +kernel
theorem dL_law_532 : decode cL_law 532 = .ok (.iconst 2, 1) := by decide +kernel
theorem dL_law_533 : decode cL_law 533 = .ok (.iadd, 1) := by decide +kernel
theorem dL_law_534 : decode cL_law 534 = .ok (.iaload, 1) := by decide +kernel
theorem dL_law_535 : decode cL_law 535 = .ok (.invokevirtual 78, 3) := by decide +kernel
theorem dL_law_538 : decode cL_law 538 = .ok (.if_icmp .eq 219, 3) := by decide +kernel
theorem dL_law_541 : decode cL_law 541 = .ok (.iconst 0, 1) := by decide +kernel
theorem dL_law_542 : decode cL_law 542 = .ok (.ireturn, 1) := by decide +kernel
theorem dL_law_543 : decode cL_law 543 = .ok (.aload_n 1, 1) := by decide +kernel
theorem dL_law_544 : decode cL_law 544 = .ok (.aload_n 0, 1) := by decide +kernel
theorem dL_law_545 : decode cL_law 545 = .ok (.iload_n 3, 1) := by decide +kernel
theorem dL_law_546 : decode cL_law 546 = .ok (.iconst 1, 1) := by decide +kernel
theorem dL_law_547 : decode cL_law 547 = .ok (.iadd, 1) := by decide +kernel
theorem dL_law_548 : decode cL_law 548 = .ok (.iaload, 1) := by decide +kernel
theorem dL_law_549 : decode cL_law 549 = .ok (.aload_n 0, 1) := by decide +kernel
theorem dL_law_550 : decode cL_law 550 = .ok (.iload_n 3, 1) := by decide +kernel
theorem dL_law_551 : decode cL_law 551 = .ok (.iconst 2, 1) := by decide +kernel
theorem dL_law_552 : decode cL_law 552 = .ok (.iadd, 1) := by decide +kernel
theorem dL_law_553 : decode cL_law 553 = .ok (.iaload, 1) := by decide +kernel
theorem dL_law_554 : decode cL_law 554 = .ok (.invokevirtual 79, 3) := by decide +kernel
theorem dL_law_557 : decode cL_law 557 = .ok (.aload_n 2, 1) := by decide +kernel
theorem dL_law_558 : decode cL_law 558 = .ok (.aload_n 0, 1) := by decide +kernel
theorem dL_law_559 : decode cL_law 559 = .ok (.iload_n 3, 1) := by decide +kernel
theorem dL_law_560 : decode cL_law 560 = .ok (.iconst 1, 1) := by decide +kernel
theorem dL_law_561 : decode cL_law 561 = .ok (.iadd, 1) := by decide +kernel
theorem dL_law_562 : decode cL_law 562 = .ok (.iaload, 1) := by decide +kernel
theorem dL_law_563 : decode cL_law 563 = .ok (.aload_n 0, 1) := by decide +kernel
theorem dL_law_564 : decode cL_law 564 = .ok (.iload_n 3, 1) := by decide +kernel
theorem dL_law_565 : decode cL_law 565 = .ok (.iconst 2, 1) := by decide +kernel
theorem dL_law_566 : decode cL_law 566 = .ok (.iadd, 1) := by decide +kernel
theorem dL_law_567 : decode cL_law 567 = .ok (.iaload, 1) := by decide +kernel
theorem dL_law_568 : decode cL_law 568 = .ok (.invokevirtual 82, 3) := by decide +kernel
theorem dL_law_571 : decode cL_law 571 = .ok (.if_icmp .eq 186, 3) := by decide +kernel
theorem dL_law_574 : decode cL_law 574 = .ok (.iconst 0, 1) := by decide +kernel
theorem dL_law_575 : decode cL_law 575 = .ok (.ireturn, 1) := by decide +kernel
theorem dL_law_576 : decode cL_law 576 = .ok (.aload_n 1, 1) := by decide +kernel
theorem dL_law_577 : decode cL_law 577 = .ok (.aload_n 0, 1) := by decide +kernel
theorem dL_law_578 : decode cL_law 578 = .ok (.iload_n 3, 1) := by decide +kernel
theorem dL_law_579 : decode cL_law 579 = .ok (.iconst 1, 1) := by decide +kernel
theorem dL_law_580 : decode cL_law 580 = .ok (.iadd, 1) := by decide +kernel
theorem dL_law_581 : decode cL_law 581 = .ok (.iaload, 1) := by decide +kernel
theorem dL_law_582 : decode cL_law 582 = .ok (.invokevirtual 83, 3) := by decide +kernel
theorem dL_law_585 : decode cL_law 585 = .ok (.aload_n 2, 1) := by decide +kernel
theorem dL_law_586 : decode cL_law 586 = .ok (.aload_n 0, 1) := by decide +kernel
theorem dL_law_587 : decode cL_law 587 = .ok (.iload_n 3, 1) := by decide +kernel
theorem dL_law_588 : decode cL_law 588 = .ok (.iconst 1, 1) := by decide +kernel
theorem dL_law_589 : decode cL_law 589 = .ok (.iadd, 1) := by decide +kernel
theorem dL_law_590 : decode cL_law 590 = .ok (.iaload, 1) := by decide +kernel
theorem dL_law_591 : decode cL_law 591 = .ok (.invokevirtual 86, 3) := by decide +kernel
theorem dL_law_594 : decode cL_law 594 = .ok (.if_icmp .eq 163, 3) := by decide +kernel
theorem dL_law_597 : decode cL_law 597 = .ok (.iconst 0, 1) := by decide +kernel
theorem dL_law_598 : decode cL_law 598 = .ok (.ireturn, 1) := by decide +kernel
theorem dL_law_599 : decode cL_law 599 = .ok (.aload_n 1, 1) := by decide +kernel
theorem dL_law_600 : decode cL_law 600 = .ok (.aload_n 0, 1) := by decide +kernel
theorem dL_law_601 : decode cL_law 601 = .ok (.iload_n 3, 1) := by decide +kernel
theorem dL_law_602 : decode cL_law 602 = .ok (.iconst 1, 1) := by decide +kernel
theorem dL_law_603 : decode cL_law 603 = .ok (.iadd, 1) := by decide +kernel
theorem dL_law_604 : decode cL_law 604 = .ok (.iaload, 1) := by decide +kernel
theorem dL_law_605 : decode cL_law 605 = .ok (.aload_n 0, 1) := by decide +kernel
theorem dL_law_606 : decode cL_law 606 = .ok (.iload_n 3, 1) := by decide +kernel
theorem dL_law_607 : decode cL_law 607 = .ok (.iconst 2, 1) := by decide +kernel
theorem dL_law_608 : decode cL_law 608 = .ok (.iadd, 1) := by decide +kernel
theorem dL_law_609 : decode cL_law 609 = .ok (.iaload, 1) := by decide +kernel
theorem dL_law_610 : decode cL_law 610 = .ok (.invokevirtual 87, 3) := by decide +kernel
theorem dL_law_613 : decode cL_law 613 = .ok (.aload_n 2, 1) := by decide +kernel
theorem dL_law_614 : decode cL_law 614 = .ok (.aload_n 0, 1) := by decide +kernel
theorem dL_law_615 : decode cL_law 615 = .ok (.iload_n 3, 1) := by decide +kernel
theorem dL_law_616 : decode cL_law 616 = .ok (.iconst 1, 1) := by decide +kernel
theorem dL_law_617 : decode cL_law 617 = .ok (.iadd, 1) := by decide +kernel
theorem dL_law_618 : decode cL_law 618 = .ok (.iaload, 1) := by decide +kernel
theorem dL_law_619 : decode cL_law 619 = .ok (.aload_n 0, 1) := by decide +kernel
theorem dL_law_620 : decode cL_law 620 = .ok (.iload_n 3, 1) := by decide +kernel
theorem dL_law_621 : decode cL_law 621 = .ok (.iconst 2, 1) := by decide +kernel
theorem dL_law_622 : decode cL_law 622 = .ok (.iadd, 1) := by decide +kernel
theorem dL_law_623 : decode cL_law 623 = .ok (.iaload, 1) := by decide +kernel
theorem dL_law_624 : decode cL_law 624 = .ok (.invokevirtual 90, 3) := by decide +kernel
theorem dL_law_627 : decode cL_law 627 = .ok (.if_icmp .eq 130, 3) := by decide +kernel
theorem dL_law_630 : decode cL_law 630 = .ok (.iconst 0, 1) := by decide +kernel
theorem dL_law_631 : decode cL_law 631 = .ok (.ireturn, 1) := by decide +kernel
theorem dL_law_632 : decode cL_law 632 = .ok (.aload_n 1, 1) := by decide +kernel
theorem dL_law_633 : decode cL_law 633 = .ok (.aload_n 0, 1) := by decide +kernel
theorem dL_law_634 : decode cL_law 634 = .ok (.iload_n 3, 1) := by decide +kernel
theorem dL_law_635 : decode cL_law 635 = .ok (.iconst 1, 1) := by decide +kernel
theorem dL_law_636 : decode cL_law 636 = .ok (.iadd, 1) := by decide +kernel
theorem dL_law_637 : decode cL_law 637 = .ok (.iaload, 1) := by decide +kernel
theorem dL_law_638 : decode cL_law 638 = .ok (.aload_n 0, 1) := by decide +kernel
theorem dL_law_639 : decode cL_law 639 = .ok (.iload_n 3, 1) := by decide +kernel
theorem dL_law_640 : decode cL_law 640 = .ok (.iconst 2, 1) := by decide +kernel
theorem dL_law_641 : decode cL_law 641 = .ok (.iadd, 1) := by decide +kernel
theorem dL_law_642 : decode cL_law 642 = .ok (.iaload, 1) := by decide +kernel
theorem dL_law_643 : decode cL_law 643 = .ok (.invokevirtual 91, 3) := by decide +kernel
theorem dL_law_646 : decode cL_law 646 = .ok (.aload_n 2, 1) := by decide +kernel
theorem dL_law_647 : decode cL_law 647 = .ok (.aload_n 0, 1) := by decide +kernel
theorem dL_law_648 : decode cL_law 648 = .ok (.iload_n 3, 1) := by decide +kernel
theorem dL_law_649 : decode cL_law 649 = .ok (.iconst 1, 1) := by decide +kernel
theorem dL_law_650 : decode cL_law 650 = .ok (.iadd, 1) := by decide +kernel
theorem dL_law_651 : decode cL_law 651 = .ok (.iaload, 1) := by decide +kernel
theorem dL_law_652 : decode cL_law 652 = .ok (.aload_n 0, 1) := by decide +kernel
theorem dL_law_653 : decode cL_law 653 = .ok (.iload_n 3, 1) := by decide +kernel
theorem dL_law_654 : decode cL_law 654 = .ok (.iconst 2, 1) := by decide +kernel
theorem dL_law_655 : decode cL_law 655 = .ok (.iadd, 1) := by decide +kernel
theorem dL_law_656 : decode cL_law 656 = .ok (.iaload, 1) := by decide +kernel
theorem dL_law_657 : decode cL_law 657 = .ok (.invokevirtual 94, 3) := by decide +kernel
theorem dL_law_660 : decode cL_law 660 = .ok (.if_icmp .eq 97, 3) := by decide +kernel
theorem dL_law_663 : decode cL_law 663 = .ok (.iconst 0, 1) := by decide +kernel
theorem dL_law_664 : decode cL_law 664 = .ok (.ireturn, 1) := by decide +kernel
theorem dL_law_665 : decode cL_law 665 = .ok (.aload_n 1, 1) := by decide +kernel
theorem dL_law_666 : decode cL_law 666 = .ok (.aload_n 0, 1) := by decide +kernel
theorem dL_law_667 : decode cL_law 667 = .ok (.iload_n 3, 1) := by decide +kernel
theorem dL_law_668 : decode cL_law 668 = .ok (.iconst 1, 1) := by decide +kernel
theorem dL_law_669 : decode cL_law 669 = .ok (.iadd, 1) := by decide +kernel
theorem dL_law_670 : decode cL_law 670 = .ok (.iaload, 1) := by decide +kernel
theorem dL_law_671 : decode cL_law 671 = .ok (.invokevirtual 95, 3) := by decide +kernel
theorem dL_law_674 : decode cL_law 674 = .ok (.aload_n 2, 1) := by decide +kernel
theorem dL_law_675 : decode cL_law 675 = .ok (.aload_n 0, 1) := by decide +kernel
theorem dL_law_676 : decode cL_law 676 = .ok (.iload_n 3, 1) := by decide +kernel
theorem dL_law_677 : decode cL_law 677 = .ok (.iconst 1, 1) := by decide +kernel
theorem dL_law_678 : decode cL_law 678 = .ok (.iadd, 1) := by decide +kernel
theorem dL_law_679 : decode cL_law 679 = .ok (.iaload, 1) := by decide +kernel
theorem dL_law_680 : decode cL_law 680 = .ok (.invokevirtual 98, 3) := by decide +kernel
theorem dL_law_683 : decode cL_law 683 = .ok (.if_icmp .eq 74, 3) := by decide +kernel
theorem dL_law_686 : decode cL_law 686 = .ok (.iconst 0, 1) := by decide +kernel
theorem dL_law_687 : decode cL_law 687 = .ok (.ireturn, 1) := by decide +kernel
theorem dL_law_688 : decode cL_law 688 = .ok (.aload_n 1, 1) := by decide +kernel
theorem dL_law_689 : decode cL_law 689 = .ok (.aload_n 0, 1) := by decide +kernel
theorem dL_law_690 : decode cL_law 690 = .ok (.iload_n 3, 1) := by decide +kernel
theorem dL_law_691 : decode cL_law 691 = .ok (.iconst 1, 1) := by decide +kernel
theorem dL_law_692 : decode cL_law 692 = .ok (.iadd, 1) := by decide +kernel
theorem dL_law_693 : decode cL_law 693 = .ok (.iaload, 1) := by decide +kernel
theorem dL_law_694 : decode cL_law 694 = .ok (.aload_n 0, 1) := by decide +kernel
theorem dL_law_695 : decode cL_law 695 = .ok (.iload_n 3, 1) := by decide +kernel
theorem dL_law_696 : decode cL_law 696 = .ok (.iconst 2, 1) := by decide +kernel
theorem dL_law_697 : decode cL_law 697 = .ok (.iadd, 1) := by decide +kernel
theorem dL_law_698 : decode cL_law 698 = .ok (.iaload, 1) := by decide +kernel
theorem dL_law_699 : decode cL_law 699 = .ok (.invokevirtual 99, 3) := by decide +kernel
theorem dL_law_702 : decode cL_law 702 = .ok (.aload_n 2, 1) := by decide +kernel
theorem dL_law_703 : decode cL_law 703 = .ok (.aload_n 0, 1) := by decide +kernel
theorem dL_law_704 : decode cL_law 704 = .ok (.iload_n 3, 1) := by decide +kernel
theorem dL_law_705 : decode cL_law 705 = .ok (.iconst 1, 1) := by decide +kernel
theorem dL_law_706 : decode cL_law 706 = .ok (.iadd, 1) := by decide +kernel
theorem dL_law_707 : decode cL_law 707 = .ok (.iaload, 1) := by decide +kernel
theorem dL_law_708 : decode cL_law 708 = .ok (.aload_n 0, 1) := by decide +kernel
theorem dL_law_709 : decode cL_law 709 = .ok (.iload_n 3, 1) := by decide +kernel
theorem dL_law_710 : decode cL_law 710 = .ok (.iconst 2, 1) := by decide +kernel
theorem dL_law_711 : decode cL_law 711 = .ok (.iadd, 1) := by decide +kernel
theorem dL_law_712 : decode cL_law 712 = .ok (.iaload, 1) := by decide +kernel
theorem dL_law_713 : decode cL_law 713 = .ok (.invokevirtual 102, 3) := by decide +kernel
theorem dL_law_716 : decode cL_law 716 = .ok (.if_icmp .eq 41, 3) := by decide +kernel
theorem dL_law_719 : decode cL_law 719 = .ok (.iconst 0, 1) := by decide +kernel
theorem dL_law_720 : decode cL_law 720 = .ok (.ireturn, 1) := by decide +kernel
theorem dL_law_721 : decode cL_law 721 = .ok (.aload_n 1, 1) := by decide +kernel
theorem dL_law_722 : decode cL_law 722 = .ok (.invokevirtual 103, 3) := by decide +kernel
theorem dL_law_725 : decode cL_law 725 = .ok (.aload_n 2, 1) := by decide +kernel
theorem dL_law_726 : decode cL_law 726 = .ok (.invokevirtual 106, 3) := by decide +kernel
theorem dL_law_729 : decode cL_law 729 = .ok (.if_icmp .eq 28, 3) := by decide +kernel
theorem dL_law_732 : decode cL_law 732 = .ok (.iconst 0, 1) := by decide +kernel
theorem dL_law_733 : decode cL_law 733 = .ok (.ireturn, 1) := by decide +kernel
theorem dL_law_734 : decode cL_law 734 = .ok (.aload_n 1, 1) := by decide +kernel
theorem dL_law_735 : decode cL_law 735 = .ok (.aload_n 0, 1) := by decide +kernel
theorem dL_law_736 : decode cL_law 736 = .ok (.iload_n 3, 1) := by decide +kernel
theorem dL_law_737 : decode cL_law 737 = .ok (.iconst 1, 1) := by decide +kernel
theorem dL_law_738 : decode cL_law 738 = .ok (.iadd, 1) := by decide +kernel
theorem dL_law_739 : decode cL_law 739 = .ok (.iaload, 1) := by decide +kernel
theorem dL_law_740 : decode cL_law 740 = .ok (.invokevirtual 107, 3) := by decide +kernel
theorem dL_law_743 : decode cL_law 743 = .ok (.aload_n 2, 1) := by decide +kernel
theorem dL_law_744 : decode cL_law 744 = .ok (.aload_n 0, 1) := by decide +kernel
theorem dL_law_745 : decode cL_law 745 = .ok (.iload_n 3, 1) := by decide +kernel
theorem dL_law_746 : decode cL_law 746 = .ok (.iconst 1, 1) := by decide +kernel
theorem dL_law_747 : decode cL_law 747 = .ok (.iadd, 1) := by decide +kernel
theorem dL_law_748 : decode cL_law 748 = .ok (.iaload, 1) := by decide +kernel
theorem dL_law_749 : decode cL_law 749 = .ok (.invokevirtual 110, 3) := by decide +kernel
theorem dL_law_752 : decode cL_law 752 = .ok (.if_icmp .eq 5, 3) := by decide +kernel
theorem dL_law_755 : decode cL_law 755 = .ok (.iconst 0, 1) := by decide +kernel
theorem dL_law_756 : decode cL_law 756 = .ok (.ireturn, 1) := by decide +kernel
theorem dL_law_757 : decode cL_law 757 = .ok (.iinc 3 4, 3) := by decide +kernel
theorem dL_law_760 : decode cL_law 760 = .ok (.goto (-742), 3) := by decide +kernel
theorem dL_law_763 : decode cL_law 763 = .ok (.iconst 1, 1) := by decide +kernel
theorem dL_law_764 : decode cL_law 764 = .ok (.ireturn, 1) := by decide +kernel
end
section
/-! ===== the logical memory: group, object, slot; every int of a field or an array is nI of a Nat ===== -/
def fU {α : Type} (f : Nat → α) (i : Nat) (x : α) : Nat → α := fun j => if j = i then x else f j
theorem fU_s {α : Type} (f : Nat → α) (i : Nat) (x : α) : fU f i x i = x := if_pos rfl
theorem fU_n {α : Type} (f : Nat → α) {i j : Nat} (x : α) (h : ¬ j = i) : fU f i x j = f j := if_neg h
theorem fU_u {α : Type} (f : Nat → α) (i : Nat) (x y : α) : fU (fU f i x) i y = fU f i y := by
  funext j
  unfold fU
  by_cases h : j = i
  · rw [if_pos h, if_pos h]
  · rw [if_neg h, if_neg h, if_neg h]
theorem fU_self {α : Type} (f : Nat → α) (i : Nat) : fU f i (f i) = f := by
  funext j
  unfold fU
  by_cases h : j = i
  · rw [if_pos h, h]
  · rw [if_neg h]
theorem fU_map {α β : Type} (h : α → β) (f : Nat → α) (i : Nat) (x : α) (j : Nat) : h (fU f i x j) = fU (fun k => h (f k)) i (h x) j := by
  unfold fU
  by_cases e : j = i
  · rw [if_pos e, if_pos e]
  · rw [if_neg e, if_neg e]
abbrev gM : Type := Nat → Nat → Nat → Nat
/-- an object's slots anew -/
def gP (mem : gM) (k o : Nat) (f : Nat → Nat) : gM := fU mem k (fU (mem k) o f)
theorem gP_s (mem : gM) (k o : Nat) (f : Nat → Nat) : gP mem k o f k o = f := by unfold gP; rw [fU_s, fU_s]
theorem gP_k (mem : gM) (k o : Nat) (f : Nat → Nat) : gP mem k o f k = fU (mem k) o f := by unfold gP; rw [fU_s]
theorem gP_n (mem : gM) {k o k' o' : Nat} (f : Nat → Nat) (h : ¬ (k' = k ∧ o' = o)) : gP mem k o f k' o' = mem k' o' := by
  unfold gP
  by_cases e : k' = k
  · subst e
    rw [fU_s, fU_n _ _ (fun z => h ⟨rfl, z⟩)]
  · rw [fU_n _ _ e]
theorem gP_nk (mem : gM) {k o k' : Nat} (f : Nat → Nat) (h : ¬ k' = k) : gP mem k o f k' = mem k' := by
  unfold gP
  rw [fU_n _ _ h]
theorem gP_u (mem : gM) (k o : Nat) (f g : Nat → Nat) : gP (gP mem k o f) k o g = gP mem k o g := by
  unfold gP
  rw [fU_s, fU_u, fU_u]
theorem gP_self (mem : gM) (k o : Nat) : gP mem k o (mem k o) = mem := by
  unfold gP
  rw [fU_self, fU_self]
/-! what the addresses are, the array classes (0 int, 1 char, 2 Machine), where our own cells begin, the Strings and their bytes -/
abbrev gX : Type := va_G × (Nat → Nat → Nat) × (Nat → ClassId) × Nat × (Nat → Nat) × (Nat → Nat)
def gD (X : gX) : va_G := X.1
def gAd (X : gX) : Nat → Nat → Nat := X.2.1
def gCl (X : gX) : Nat → ClassId := X.2.2.1
def gSz (X : gX) : Nat := X.2.2.2.1
def gKs (X : gX) : Nat → Nat := X.2.2.2.2.1
def gVs (X : gX) : Nat → Nat := X.2.2.2.2.2
def gA (X : gX) : Nat → Prop := fun q => gSz X ≤ q
def gAr (X : gX) (n : Nat) (g : Nat → Nat) : va_E := .inl (gCl X 0, n, .inl (fun j => nI (g j)))
def gRw (X : gX) (k a : Nat) : va_E := .inr (5, [.ref (gAd X k a)])
def gEm (X : gX) (k : Nat) (g : Nat → Nat) (o : Nat) : va_E := match o with
  | 0 => .inr (4, [.ref (gAd X k 1), .ref (gAd X k 12), .ref (gAd X k 15), .int (nI (g 3)), .int (nI (g 4)), .int (nI (g 5)), .int (nI (g 6)), .int (nI (g 7))])
  | 1 => .inr (0, [.ref (gAd X k 2), .ref (gAd X k 4), .ref (gAd X k 6), .ref (gAd X k 8), .ref (gAd X k 10)])
  | 2 => gRw X k 3
  | 3 => gAr X 100 g
  | 4 => gRw X k 5
  | 5 => gAr X 8 g
  | 6 => gRw X k 7
  | 7 => gAr X 4 g
  | 8 => gRw X k 9
  | 9 => gAr X 8 g
  | 10 => gRw X k 11
  | 11 => gAr X 8 g
  | 12 => .inr (2, [.ref (gAd X k 13), .int (nI (g 1))])
  | 13 => gRw X k 14
  | 14 => gAr X 24 g
  | 15 => .inr (7, [.ref (gAd X k 16), .int (nI (g 1))])
  | 16 => gRw X k 17
  | _ => gAr X 36 g
def gEf (X : gX) (g : Nat → Nat) (o : Nat) : va_E := match o with
  | 0 => .inr (8, [.ref (gAd X 0 0), .ref (gAd X 1 0), .ref (gAd X 2 0), .ref (gAd X 7 1), .ref (gAd X 7 3), .ref (gAd X 7 5), .int (nI (g 6))])
  | 1 => .inr (3, [.ref (gAd X 7 2), .int (nI (g 1))])
  | 2 => .inl (gCl X 2, 4, .inr (.inr (.inr (.inr (fun j => some (gAd X (g j) 0))))))
  | 3 => .inr (6, [.ref (gAd X 7 4), .int (nI (g 1))])
  | 4 => .inl (gCl X 1, 80, .inl (fun j => nI (g j)))
  | 5 => .inr (1, [.ref (gAd X 7 6), .int (nI (g 1)), .int (nI (g 2)), .int (nI (g 3))])
  | 6 => gRw X 7 7
  | _ => gAr X 16 g
def gEr (X : gX) (g : Nat → Nat) (o : Nat) : va_E := match o with
  | 0 => .inr (9, [.ref (gAd X 8 1), .ref (gAd X 8 2), .ref (gAd X 8 3), .int (nI (g 3)), .ref (gAd X 8 4), .int (nI (g 5)), .ref (gAd X 8 5), .int (nI (g 7)), .int (nI (g 8)), .int (nI (g 9)), .ref (gAd X 8 6), .int (nI (g 11))])
  | 1 => gAr X 198 g
  | 2 => gAr X 198 g
  | 3 => gAr X 792 g
  | 4 => gAr X 198 g
  | 5 => gAr X 80 g
  | _ => gAr X 16 g
/-- what an object's cell holds, by its slots -/
def gE (X : gX) (k o : Nat) (g : Nat → Nat) : va_E := if k < 7 then gEm X k g o else if k = 7 then gEf X g o else gEr X g o
theorem gE_m {X : gX} {k : Nat} (h : k < 7) (o : Nat) (g : Nat → Nat) : gE X k o g = gEm X k g o := if_pos h
theorem gE_f (X : gX) (o : Nat) (g : Nat → Nat) : gE X 7 o g = gEf X g o := rfl
theorem gE_r (X : gX) (o : Nat) (g : Nat → Nat) : gE X 8 o g = gEr X g o := rfl
def gIds : List (Nat × Nat) := (List.range 7).flatMap (fun k => (List.range 18).map (fun o => (k, o))) ++ ((List.range 8).map (fun o => (7, o)) ++ (List.range 7).map (fun o => (8, o)))
theorem gI_m {k o : Nat} (hk : k < 7) (ho : o < 18) : (k, o) ∈ gIds := List.mem_append_left _ (List.mem_flatMap.mpr ⟨k, List.mem_range.mpr hk, List.mem_map.mpr ⟨o, List.mem_range.mpr ho, rfl⟩⟩)
theorem gI_f {o : Nat} (ho : o < 8) : (7, o) ∈ gIds := List.mem_append_right _ (List.mem_append_left _ (List.mem_map.mpr ⟨o, List.mem_range.mpr ho, rfl⟩))
theorem gI_r {o : Nat} (ho : o < 7) : (8, o) ∈ gIds := List.mem_append_right _ (List.mem_append_right _ (List.mem_map.mpr ⟨o, List.mem_range.mpr ho, rfl⟩))
theorem gIds_len : gIds.length = 141 := by decide +kernel
theorem gIds_inj0 : ∀ i, i < 141 → ∀ j, j < 141 → gIds[i]? = gIds[j]? → i = j := by decide +kernel
theorem gIds_inj {i j : Nat} {q : Nat × Nat} (hi : gIds[i]? = some q) (hj : gIds[j]? = some q) : i = j := by
  have h1 : i < gIds.length := (List.getElem?_eq_some_iff.mp hi).1
  have h2 : j < gIds.length := (List.getElem?_eq_some_iff.mp hj).1
  rw [gIds_len] at h1 h2
  exact gIds_inj0 i h1 j h2 (hi.trans hj.symm)
def gWs (X : gX) (mem : gM) : va_W := gIds.map (fun q => (gAd X q.1 q.2, gE X q.1 q.2 (mem q.1 q.2)))
theorem gWs_at {X : gX} {mem : gM} {q0 k o : Nat} (h : gIds[q0]? = some (k, o)) : (gWs X mem)[q0]? = some (gAd X k o, gE X k o (mem k o)) := by
  unfold gWs
  rw [List.getElem?_map, h]
  rfl
theorem gWs_set {X : gX} {mem : gM} {q0 k o : Nat} (h : gIds[q0]? = some (k, o)) (f : Nat → Nat) : (gWs X mem).set q0 (gAd X k o, gE X k o f) = gWs X (gP mem k o f) := by
  have hl : q0 < (gWs X mem).length := (List.getElem?_eq_some_iff.mp (gWs_at (X := X) (mem := mem) h)).1
  apply List.ext_getElem?
  intro j
  by_cases hj : j = q0
  · subst hj
    rw [List.getElem?_set_self hl, gWs_at h, gP_s]
  · rw [List.getElem?_set_ne (Ne.symm hj)]
    cases hq : gIds[j]? with
    | none =>
      unfold gWs
      rw [List.getElem?_map, List.getElem?_map, hq]
      rfl
    | some q =>
      obtain ⟨k', o'⟩ := q
      rw [gWs_at hq, gWs_at hq, gP_n]
      rintro ⟨e1, e2⟩
      subst e1
      subst e2
      exact hj (gIds_inj hq h)
def gRep (X : gX) (mem : gM) (H : Heap) : Prop := va_P (gD X) vwCl (gWs X mem) H
def gInj (X : gX) : Prop := ∀ mem : gM, va_D (gA X) (gWs X mem)
def gTy (X : gX) : List (ClassId × FieldType) := [(gCl X 0, .int), (gCl X 1, .char), (gCl X 2, .object RX4)]
/-- two memories that agree where a cell can show it -/
theorem gRep_congr {X : gX} {mem mem' : gM} {H : Heap} (h : gRep X mem H) (he : ∀ k o, (k, o) ∈ gIds → ∀ D cl, va_at D cl (gAd X k o, gE X k o (mem k o)) H → va_at D cl (gAd X k o, gE X k o (mem' k o)) H) : gRep X mem' H := by
  intro k q hq
  unfold gWs at hq
  rw [List.getElem?_map] at hq
  cases hi : gIds[k]? with
  | none => rw [hi] at hq; cases hq
  | some z =>
    obtain ⟨k', o'⟩ := z
    rw [hi] at hq
    cases hq
    exact he k' o' (List.mem_of_getElem? hi) _ _ (h k _ (gWs_at hi))
/-- an int array's cell is what stands below its length -/
theorem gAr_congr {X : gX} {D : va_G} {cl : List vw_C} {a n : Nat} {f g : Nat → Nat} {H : Heap} (he : ∀ j, j < n → f j = g j) (h : va_at D cl (a, gAr X n f) H) : va_at D cl (a, gAr X n g) H := by
  have e : vp_cell (gCl X 0) (n, .inl (fun j => nI (f j))) = vp_cell (gCl X 0) (n, .inl (fun j => nI (g j))) := by
    rw [vp_cell_i, vp_cell_i]
    unfold arrV
    congr 1
    apply Array.ext
    · simp
    · intro i h1 h2
      simp only [Array.getElem_ofFn]
      rw [he i (by simpa using h1)]
  show H[a]? = some (vp_cell (gCl X 0) (n, .inl (fun j => nI (g j))))
  rw [← e]
  exact h
end
section
def gNf : List (String × Nat × String × String × String × String) := [(RX8, 210, "FarBanks$Banks", "cells", "LFarBanks$Row;", "FarBanks"), (RX8, 69, "FarBanks$Banks", "alone", "LFarBanks$Row;", "FarBanks"), (RX8, 83, "FarBanks$Banks", "shown", "LFarBanks$Row;", "FarBanks"), (RX4, 93, "FarBanks$Banks", "shown", "LFarBanks$Row;", "FarBanks"), (RX8, 188, "FarBanks$Banks", "written", "LFarBanks$Row;", "FarBanks"), (RX8, 191, "FarBanks$Banks", "refused", "LFarBanks$Row;", "FarBanks"), (RX4, 58, "FarBanks$Frames", "size", "I", "FarBanks"), (RX8, 194, "FarBanks$Frames", "size", "I", "FarBanks"), (RX8, 117, "FarBanks$Trail", "total", "I", "FarBanks"), (RX8, 47, "FarBanks$Machine", "banks", "LFarBanks$Banks;", "FarBanks"), (RX8, 179, "FarBanks$Machine", "frames", "LFarBanks$Frames;", "FarBanks"), (RX8, 113, "FarBanks$Machine", "trail", "LFarBanks$Trail;", "FarBanks"), (RX8, 207, "FarBanks$Machine", "number", "I", "FarBanks"), (RX8, 100, "FarBanks$Machine", "place", "I", "FarBanks"), (RX8, 110, "FarBanks$Machine", "reason", "I", "FarBanks"), (RX8, 96, "FarBanks$Machine", "strict", "I", "FarBanks"), (RX8, 217, "FarBanks$Machine", "calls", "I", "FarBanks"), (RX8, 154, "FarBanks$History", "size", "I", "FarBanks"), (RX8, 134, "FarBanks$Text", "length", "I", "FarBanks"), (RX8, 151, "FarBanks$Code", "orders", "LFarBanks$Row;", "FarBanks"), (RX8, 148, "FarBanks$Code", "size", "I", "FarBanks"), (RX8, 145, "FarBanks$Code", "position", "I", "FarBanks"), (RX8, 141, "FarBanks$Code", "isSound", "Z", "FarBanks")]
def gNm : List (String × Nat × MethodName × String) := [(RX8, 9, yX4_init, "FarBanks"), (RX4, 20, yX2_init, "FarBanks"), (RX4, 27, yX7_init, "FarBanks"), (RX3, 17, yX4_init, "FarBanks"), (RX8, 31, yX6_init, "FarBanks"), (RX8, 38, yX1_init, "FarBanks")]
theorem fn_X8_210 : (RX8, 210, "FarBanks$Banks", "cells", "LFarBanks$Row;", "FarBanks") ∈ gNf := List.mem_of_getElem? (i := 0) rfl
theorem fn_X8_69 : (RX8, 69, "FarBanks$Banks", "alone", "LFarBanks$Row;", "FarBanks") ∈ gNf := List.mem_of_getElem? (i := 1) rfl
theorem fn_X8_83 : (RX8, 83, "FarBanks$Banks", "shown", "LFarBanks$Row;", "FarBanks") ∈ gNf := List.mem_of_getElem? (i := 2) rfl
theorem fn_X4_93 : (RX4, 93, "FarBanks$Banks", "shown", "LFarBanks$Row;", "FarBanks") ∈ gNf := List.mem_of_getElem? (i := 3) rfl
theorem fn_X8_188 : (RX8, 188, "FarBanks$Banks", "written", "LFarBanks$Row;", "FarBanks") ∈ gNf := List.mem_of_getElem? (i := 4) rfl
theorem fn_X8_191 : (RX8, 191, "FarBanks$Banks", "refused", "LFarBanks$Row;", "FarBanks") ∈ gNf := List.mem_of_getElem? (i := 5) rfl
theorem fn_X4_58 : (RX4, 58, "FarBanks$Frames", "size", "I", "FarBanks") ∈ gNf := List.mem_of_getElem? (i := 6) rfl
theorem fn_X8_194 : (RX8, 194, "FarBanks$Frames", "size", "I", "FarBanks") ∈ gNf := List.mem_of_getElem? (i := 7) rfl
theorem fn_X8_117 : (RX8, 117, "FarBanks$Trail", "total", "I", "FarBanks") ∈ gNf := List.mem_of_getElem? (i := 8) rfl
theorem fn_X8_47 : (RX8, 47, "FarBanks$Machine", "banks", "LFarBanks$Banks;", "FarBanks") ∈ gNf := List.mem_of_getElem? (i := 9) rfl
theorem fn_X8_179 : (RX8, 179, "FarBanks$Machine", "frames", "LFarBanks$Frames;", "FarBanks") ∈ gNf := List.mem_of_getElem? (i := 10) rfl
theorem fn_X8_113 : (RX8, 113, "FarBanks$Machine", "trail", "LFarBanks$Trail;", "FarBanks") ∈ gNf := List.mem_of_getElem? (i := 11) rfl
theorem fn_X8_207 : (RX8, 207, "FarBanks$Machine", "number", "I", "FarBanks") ∈ gNf := List.mem_of_getElem? (i := 12) rfl
theorem fn_X8_100 : (RX8, 100, "FarBanks$Machine", "place", "I", "FarBanks") ∈ gNf := List.mem_of_getElem? (i := 13) rfl
theorem fn_X8_110 : (RX8, 110, "FarBanks$Machine", "reason", "I", "FarBanks") ∈ gNf := List.mem_of_getElem? (i := 14) rfl
theorem fn_X8_96 : (RX8, 96, "FarBanks$Machine", "strict", "I", "FarBanks") ∈ gNf := List.mem_of_getElem? (i := 15) rfl
theorem fn_X8_217 : (RX8, 217, "FarBanks$Machine", "calls", "I", "FarBanks") ∈ gNf := List.mem_of_getElem? (i := 16) rfl
theorem fn_X8_154 : (RX8, 154, "FarBanks$History", "size", "I", "FarBanks") ∈ gNf := List.mem_of_getElem? (i := 17) rfl
theorem fn_X8_134 : (RX8, 134, "FarBanks$Text", "length", "I", "FarBanks") ∈ gNf := List.mem_of_getElem? (i := 18) rfl
theorem fn_X8_151 : (RX8, 151, "FarBanks$Code", "orders", "LFarBanks$Row;", "FarBanks") ∈ gNf := List.mem_of_getElem? (i := 19) rfl
theorem fn_X8_148 : (RX8, 148, "FarBanks$Code", "size", "I", "FarBanks") ∈ gNf := List.mem_of_getElem? (i := 20) rfl
theorem fn_X8_145 : (RX8, 145, "FarBanks$Code", "position", "I", "FarBanks") ∈ gNf := List.mem_of_getElem? (i := 21) rfl
theorem fn_X8_141 : (RX8, 141, "FarBanks$Code", "isSound", "Z", "FarBanks") ∈ gNf := List.mem_of_getElem? (i := 22) rfl
theorem mn_X8_9 : (RX8, 9, yX4_init, "FarBanks") ∈ gNm := List.mem_of_getElem? (i := 0) rfl
theorem mn_X4_20 : (RX4, 20, yX2_init, "FarBanks") ∈ gNm := List.mem_of_getElem? (i := 1) rfl
theorem mn_X4_27 : (RX4, 27, yX7_init, "FarBanks") ∈ gNm := List.mem_of_getElem? (i := 2) rfl
theorem mn_X3_17 : (RX3, 17, yX4_init, "FarBanks") ∈ gNm := List.mem_of_getElem? (i := 3) rfl
theorem mn_X8_31 : (RX8, 31, yX6_init, "FarBanks") ∈ gNm := List.mem_of_getElem? (i := 4) rfl
theorem mn_X8_38 : (RX8, 38, yX1_init, "FarBanks") ∈ gNm := List.mem_of_getElem? (i := 5) rfl
theorem gNf_tbl : ∀ q ∈ gNf, Cond.fieldLinkNest q.1 q.2.1 q.2.2.1 q.2.2.2.1 q.2.2.2.2.1 q.2.2.2.2.2 ∈ lw_tbl := List.forall_mem_cons.mpr ⟨tb1 56 rfl, List.forall_mem_cons.mpr ⟨tb1 58 rfl, List.forall_mem_cons.mpr ⟨tb1 60 rfl, List.forall_mem_cons.mpr ⟨tb1 61 rfl, List.forall_mem_cons.mpr ⟨tb1 63 rfl, List.forall_mem_cons.mpr ⟨tb1 65 rfl, List.forall_mem_cons.mpr ⟨tb1 87 rfl, List.forall_mem_cons.mpr ⟨tb1 88 rfl, List.forall_mem_cons.mpr ⟨tb1 104 rfl, List.forall_mem_cons.mpr ⟨tb1 111 rfl, List.forall_mem_cons.mpr ⟨tb1 113 rfl, List.forall_mem_cons.mpr ⟨tb1 115 rfl, List.forall_mem_cons.mpr ⟨tb1 117 rfl, List.forall_mem_cons.mpr ⟨tb1 119 rfl, List.forall_mem_cons.mpr ⟨tb1 121 rfl, List.forall_mem_cons.mpr ⟨tb1 123 rfl, List.forall_mem_cons.mpr ⟨tb1 125 rfl, List.forall_mem_cons.mpr ⟨tb1 154 rfl, List.forall_mem_cons.mpr ⟨tb1 168 rfl, List.forall_mem_cons.mpr ⟨tb1 184 rfl, List.forall_mem_cons.mpr ⟨tb1 186 rfl, List.forall_mem_cons.mpr ⟨tb1 188 rfl, List.forall_mem_cons.mpr ⟨tb1 190 rfl, fun _ h => absurd h List.not_mem_nil⟩⟩⟩⟩⟩⟩⟩⟩⟩⟩⟩⟩⟩⟩⟩⟩⟩⟩⟩⟩⟩⟩⟩
theorem gNm_tbl : ∀ q ∈ gNm, Cond.methodLinkNest q.1 q.2.1 q.2.2.1 q.2.2.2 ∈ lw_tbl := List.forall_mem_cons.mpr ⟨tb1 27 rfl, List.forall_mem_cons.mpr ⟨tb1 79 rfl, List.forall_mem_cons.mpr ⟨tb1 96 rfl, List.forall_mem_cons.mpr ⟨tb1 151 rfl, List.forall_mem_cons.mpr ⟨tb1 162 rfl, List.forall_mem_cons.mpr ⟨tb1 177 rfl, fun _ h => absurd h List.not_mem_nil⟩⟩⟩⟩⟩⟩
def gTx : Nat → String × Nat := fun i => match i with
  | 0 => ("halt", 79)
  | 1 => ("load", 81)
  | 2 => ("add", 83)
  | 3 => ("store", 85)
  | 4 => ("jump", 87)
  | 5 => ("zero", 89)
  | 6 => ("show", 91)
  | 7 => ("call", 93)
  | 8 => ("back", 95)
  | _ => ("plus", 97)
def gLen : List Nat := [4, 4, 3, 5, 4, 4, 4, 4, 4, 4]
def gByt : List (List Int32) := [[104, 97, 108, 116], [108, 111, 97, 100], [97, 100, 100], [115, 116, 111, 114, 101], [106, 117, 109, 112], [122, 101, 114, 111], [115, 104, 111, 119], [99, 97, 108, 108], [98, 97, 99, 107], [112, 108, 117, 115]]
/-! ===== what stands still: tables, nest words, Strings, statics of the JDK ===== -/
def gNst (U : State) : Prop := (∀ q ∈ gNf, va_Nw (.fieldLinkNest q.1 q.2.1 q.2.2.1 q.2.2.2.1 q.2.2.2.2.1 q.2.2.2.2.2) U) ∧ ∀ q ∈ gNm, va_Nw (.methodLinkNest q.1 q.2.1 q.2.2.1 q.2.2.2) U
def gEnv (X : gX) (U : State) (H : Heap) : Prop :=
  va_K (gD X) vwCl (gTy X) U ∧ gNst U ∧ gSz X ≤ H.size ∧ vk_S 10 gLen gByt (gKs X) (gVs X) (gA X) U H ∧ (∀ i, i < 10 → vk_R RX1 (gTx i).2 (gTx i).1 (gKs X i) U) ∧ va_Z "java/lang/String" "COMPACT_STRINGS" "Z" (.int 1) (gA X) U H ∧ va_Zq "jdk/internal/util/Preconditions" "SIOOBE_FORMATTER" "Ljava/util/function/BiFunction;" (gA X) U H
theorem gEnv.to {X : gX} {s t : State} {H0 H1 : Heap} (h : gEnv X s H0) (hW : s.WarmedH t.vm) (hz : H0.size ≤ H1.size) (hq : ∀ q : Nat, q < H0.size → ¬ gA X q → H1[q]? = H0[q]?) : gEnv X t H1 := by
  obtain ⟨h1, h2, h3, h4, h5, h6, h7⟩ := h
  exact ⟨va_K.moved hW.alike h1, ⟨fun q hq => va_Nw.warmF hW (h2.1 q hq), fun q hq => va_Nw.warmM hW (h2.2 q hq)⟩, Nat.le_trans h3 hz, (vk_S.moved hW.alike h4).kept hq, fun i hi => (h5 i hi).warm hW, (va_Z.moved hW.alike h6).kept hq, (va_Zq.moved hW.alike h7).kept hq⟩
def gB (X : gX) (mem : gM) (U : State) : Prop := gRep X mem U.heap ∧ gEnv X U U.heap
def gQ (X : gX) (post : Option Value → gM → Prop) : Array Value → State → Outcome → State → Prop := fun _ st oc t => (∃ (v : Option Value) (mem' : gM), oc = .returned v ∧ post v mem' ∧ gB X mem' t) ∧ va_F (gA X) st t
/-- a method's contract: from any heap that holds mem it ends, with an answer and a memory of which 'post' holds -/
def gMt (l : Launch) (y : MethodName) (cc : ByteArray) (nL : Nat) (ret : Option FieldType) (fr lo : Nat) (X : gX) (av : List Value) (mem : gM) (post : Option Value → gM → Prop) : Prop :=
  Met l y (.code y cc nL ret :: wA) { frames := fr, cells := 0, slots := 0, locals := lo } (va_Pc av (gB X mem)) (gQ X post) 0 0 (gA X)
/-- the same, with the answer and the memory told -/
def gF (l : Launch) (y : MethodName) (cc : ByteArray) (nL : Nat) (ret : Option FieldType) (fr lo : Nat) (X : gX) (av : List Value) (mem : gM) (r : Option Value) (mem2 : gM) : Prop :=
  gMt l y cc nL ret fr lo X av mem (fun v m => v = r ∧ m = mem2)
/-- where a body stands: the machine, its code, the words, what stands still -/
def gC (X : gX) (own : String) (cc : ByteArray) (ret : Option FieldType) (nL : Nat) (p : Program) (s : State) (m : MethodId) (args : Array Value) (meth : Method) (c : Code) : Prop :=
  p.tables.exec = Jvm.exec ∧ c.code = cc ∧ meth.sig.returnType = ret ∧ c.maxLocals = nL ∧ s.vm.findClass own = some m.cls ∧ (∀ w ∈ wA, w.before args s = true) ∧ meth.locks = false ∧ gInj X ∧ gEnv X s s.heap
/-! locals -/
def gL (ls : Array Slot) (vs : List (Option Value)) : Prop := ls.size = vs.length ∧ lv_wf ls ∧ ∀ (i : Nat) (v : Value), vs[i]? = some (some v) → v.category = 1 ∧ ls[i]? = some (.val v)
theorem gL.at {ls : Array Slot} {vs : List (Option Value)} (h : gL ls vs) (i : Nat) {v : Value} (hi : vs[i]? = some (some v)) : ls[i]? = some (.val v) := (h.2.2 i v hi).2
def gLs (vs : List (Option Value)) : List (Nat × Value) := (List.range vs.length).filterMap (fun i => (vs[i]?.join).map (fun v => (i, v)))
theorem gLs_mem {vs : List (Option Value)} {q : Nat × Value} : q ∈ gLs vs ↔ vs[q.1]? = some (some q.2) := by
  unfold gLs
  rw [List.mem_filterMap]
  constructor
  · rintro ⟨i, -, hi⟩
    cases h : vs[i]? with
    | none => rw [h] at hi; cases hi
    | some o =>
      cases o with
      | none => rw [h] at hi; cases hi
      | some v => rw [h] at hi; cases hi; exact h
  · intro h
    exact ⟨q.1, List.mem_range.mpr (List.getElem?_eq_some_iff.mp h).1, by rw [h]; rfl⟩
theorem gL.has {ls : Array Slot} {vs : List (Option Value)} (h : gL ls vs) : lv_has ls vs.length (gLs vs) := ⟨h.1, h.2.1, fun q hq => (h.2.2 q.1 q.2 (gLs_mem.mp hq)).2⟩
theorem gL.set {ls ls' : Array Slot} {vs : List (Option Value)} {i : Nat} {v : Value} (h : gL ls vs) (hi : i < vs.length) (hc : v.category = 1) (h' : lv_has ls' vs.length ((i, v) :: (gLs vs).filter (fun q => !(q.1 == i) && !(q.1 + 1 == i && q.2.category == 2)))) : gL ls' (vs.set i (some v)) := by
  refine ⟨by rw [List.length_set]; exact h'.1, h'.2.1, fun j w hj => ?_⟩
  by_cases e : j = i
  · subst e
    rw [List.getElem?_set_self hi] at hj
    cases hj
    exact ⟨hc, h'.2.2 (j, v) List.mem_cons_self⟩
  · rw [List.getElem?_set_ne (Ne.symm e)] at hj
    obtain ⟨c1, -⟩ := h.2.2 j w hj
    refine ⟨c1, h'.2.2 (j, w) (List.mem_cons_of_mem _ (List.mem_filter.mpr ⟨gLs_mem.mpr hj, ?_⟩))⟩
    simp [e, c1]
theorem gL.entry (vs : List Value) (n : Nat) (hc : ∀ v ∈ vs, v.category = 1) (hn : vs.length ≤ n) : gL ((lg_sl vs ++ List.replicate (n - (lg_sl vs).length) Slot.unset).toArray) (vs.map some ++ List.replicate (n - vs.length) none) := by
  have e : ∀ us : List Value, (∀ v ∈ us, v.category = 1) → lg_sl us = us.map Slot.val := by
    intro us
    induction us with
    | nil => intro _; rfl
    | cons a t ih =>
      intro h
      have ha : ¬ a.category = 2 := by rw [h a List.mem_cons_self]; decide
      show (if a.category = 2 then [Slot.val a, .second] else [Slot.val a]) ++ lg_sl t = _
      rw [if_neg ha, ih (fun v hv => h v (List.mem_cons_of_mem _ hv))]
      rfl
  rw [e vs hc, List.length_map]
  have hget : ∀ j : Nat, ((vs.map Slot.val ++ List.replicate (n - vs.length) Slot.unset).toArray)[j]? = if j < vs.length then (vs[j]?).map Slot.val else if j < n then some Slot.unset else none := by
    intro j
    rw [List.getElem?_toArray]
    by_cases h1 : j < vs.length
    · rw [if_pos h1, List.getElem?_append_left (by rw [List.length_map]; exact h1), List.getElem?_map]
    · rw [if_neg h1, List.getElem?_append_right (by rw [List.length_map]; omega), List.length_map, List.getElem?_replicate]
      by_cases h2 : j < n
      · rw [if_pos h2, if_pos (by omega)]
      · rw [if_neg h2, if_neg (by omega)]
  refine ⟨by simp, ⟨fun i v hi hv => ?_, fun i hi => ?_⟩, fun i v hi => ?_⟩
  · rw [hget i] at hi
    by_cases h1 : i < vs.length
    · rw [if_pos h1, List.getElem?_eq_getElem h1] at hi
      cases hi
      rw [hc _ (List.getElem_mem h1)] at hv
      cases hv
    · rw [if_neg h1] at hi
      by_cases h2 : i < n
      · rw [if_pos h2] at hi; cases hi
      · rw [if_neg h2] at hi; cases hi
  · rw [hget i] at hi
    by_cases h1 : i < vs.length
    · rw [if_pos h1, List.getElem?_eq_getElem h1] at hi
      cases hi
    · rw [if_neg h1] at hi
      by_cases h2 : i < n
      · rw [if_pos h2] at hi; cases hi
      · rw [if_neg h2] at hi; cases hi
  · by_cases h1 : i < vs.length
    · rw [List.getElem?_append_left (by rw [List.length_map]; exact h1), List.getElem?_map, List.getElem?_eq_getElem h1] at hi
      cases hi
      refine ⟨hc _ (List.getElem_mem h1), ?_⟩
      rw [hget i, if_pos h1, List.getElem?_eq_getElem h1]
      rfl
    · rw [List.getElem?_append_right (by rw [List.length_map]; omega), List.getElem?_replicate] at hi
      by_cases h2 : i - (vs.map some).length < n - vs.length
      · rw [if_pos h2] at hi; cases hi
      · rw [if_neg h2] at hi; cases hi
/-- a body walked is a contract -/
theorem gMt.of {l : Launch} {own : String} {y : MethodName} {cc : ByteArray} {nL : Nat} {ret : Option FieldType} {fr lo : Nat} {X : gX} {av : List Value} {mem : gM} {post : Option Value → gM → Prop} (hy : plainName y.cls = true) (ho : y.cls = own) (hI : gInj X) (hc : ∀ v ∈ av, v.category = 1) (hn : av.length ≤ nL)
    (body : ∀ (p : Program) (e : Env) (s : State) (m : MethodId) (args : Array Value) (below : List Frame) (meth : Method) (c : Code) (ls : Array Slot) (H : Heap) (locs : List Loc), gC X own cc ret nL p s m args meth c → meth.name = y.name → gL ls (av.map some ++ List.replicate (nL - av.length) none) → gRep X mem H → va_S (gA X) s.heap H locs →
      W p l e { frames := fr, cells := 0, slots := 0, locals := lo } s m args below meth c H locs 0 0 (MQ below (gQ X post) args s 0 0 (gA X)) (F0 m 0 ls [])) : gMt l y cc nL ret fr lo X av mem post := by
  refine Met.ofW (cc := cc) (maxL := nL) (ret := ret) hy rfl ?_
  intro p e s m args below meth c s₁ B hml hv
  obtain ⟨rfl, hR, hE⟩ := hv
  have hts := atoms_spec (ws := Cond.code y cc nL ret :: wA) B.pre
  rw [lg_entry_eq]
  exact body p e s m _ below meth c _ s.heap [] ⟨B.exec, B.bytes, B.returns, hml, by rw [← ho]; exact findClass_of_methodNamed B.named, fun w hw => hts w (List.mem_cons_of_mem _ hw), B.notSynchronized, hI, hE⟩ (name_of_methodNamed B.named B.method).1 (gL.entry av nL hc hn) hR va_S.rf
section GB
variable {p : Program} {l : Launch} {e : Env} {R : Room} {s : State} {m : MethodId} {args : Array Value} {below : List Frame} {meth : Method} {c : Code} {H : Heap} {locs : List Loc} {cells slots : Nat} {Q : State → Prop}
variable {cc : ByteArray} {pc : Nat} {ls : Array Slot} {rest : List Value} {X : gX} {own : String} {ret : Option FieldType} {nL : Nat} {mem : gM}
theorem gC.env {H1 : Heap} {t : State} {locs1 : List Loc} (C : gC X own cc ret nL p s m args meth c) (hS : va_S (gA X) s.heap H1 locs1) (ht : t.heap = H1) (hW : s.WarmedH t.vm) : gEnv X t t.heap := by
  obtain ⟨-, -, -, -, -, -, -, -, hE⟩ := C
  rw [ht]
  exact hE.to hW hS.1 hS.2.1
/-! ends -/
theorem g_iret {R0 : Room} {post : Option Value → gM → Prop} {v : Int32} (C : gC X own cc (some .int) nL p s m args meth c) (hR : gRep X mem H) (hS : va_S (gA X) s.heap H locs) (hdg : decode cc pc = .ok (.ireturn, 1)) (hp : post (some (.int v)) mem) : W p l e R0 s m args below meth c H locs 0 0 (MQ below (gQ X post) args s 0 0 (gA X)) (F0 m pc ls [.int v]) := by
  have C' := C
  obtain ⟨hx, hb, hr, -, -, -, hlocks, -, -⟩ := C
  exact W.iret hx hb hr (fun t ht hW => ⟨⟨_, mem, rfl, hp, by rw [ht]; exact hR, C'.env hS ht hW⟩, hS.F ht⟩) hS.2.2 hdg hlocks
theorem g_zret {R0 : Room} {post : Option Value → gM → Prop} {v : Int32} {ty : FieldType} (C : gC X own cc (some ty) nL p s m args meth c) (hR : gRep X mem H) (hS : va_S (gA X) s.heap H locs) (hdg : decode cc pc = .ok (.ireturn, 1)) (hn : narrow ty (.int v) = .int v) (hp : post (some (.int v)) mem) : W p l e R0 s m args below meth c H locs 0 0 (MQ below (gQ X post) args s 0 0 (gA X)) (F0 m pc ls [.int v]) := by
  have C' := C
  obtain ⟨hx, hb, hr, -, -, -, hlocks, -, -⟩ := C
  exact W.zret hx hb hr hn (fun t ht hW => ⟨⟨_, mem, rfl, hp, by rw [ht]; exact hR, C'.env hS ht hW⟩, hS.F ht⟩) hS.2.2 hdg hlocks
theorem g_vret {R0 : Room} {post : Option Value → gM → Prop} (C : gC X own cc none nL p s m args meth c) (hR : gRep X mem H) (hS : va_S (gA X) s.heap H locs) (hdg : decode cc pc = .ok (.return_, 1)) (hp : post none mem) : W p l e R0 s m args below meth c H locs 0 0 (MQ below (gQ X post) args s 0 0 (gA X)) (F0 m pc ls []) := by
  have C' := C
  obtain ⟨hx, hb, hr, -, -, -, hlocks, -, -⟩ := C
  exact W.vret hx hb hr (fun t ht hW => ⟨⟨_, mem, rfl, hp, by rw [ht]; exact hR, C'.env hS ht hW⟩, hS.F ht⟩) hS.2.2 hdg hlocks
theorem g_aret {R0 : Room} {post : Option Value → gM → Prop} {a : Nat} {cn : String} (C : gC X own cc (some (.object cn)) nL p s m args meth c) (hR : gRep X mem H) (hS : va_S (gA X) s.heap H locs) (hdg : decode cc pc = .ok (.areturn, 1)) (hp : post (some (.ref a)) mem) : W p l e R0 s m args below meth c H locs 0 0 (MQ below (gQ X post) args s 0 0 (gA X)) (F0 m pc ls [.ref a]) := by
  have C' := C
  obtain ⟨hx, hb, hr, -, -, -, hlocks, -, -⟩ := C
  exact W.aret hx hb hr (Or.inl ⟨_, rfl⟩) (Or.inr ⟨_, rfl⟩) (fun t ht hW => ⟨⟨_, mem, rfl, hp, by rw [ht]; exact hR, C'.env hS ht hW⟩, hS.F ht⟩) hS.2.2 hdg hlocks
/-! locals and numbers -/
theorem g_iload_n {vs : List (Option Value)} {k : Fin 4} {x : Int32} (C : gC X own cc ret nL p s m args meth c) (hl : gL ls vs) (hdg : decode cc pc = .ok (.iload_n k, 1)) (hi : vs[(k : Nat)]? = some (some (.int x))) (kk : W p l e R s m args below meth c H locs cells slots Q (F0 m (pc + 1) ls (.int x :: rest))) : W p l e R s m args below meth c H locs cells slots Q (F0 m pc ls rest) := lv_iload_n C.1 C.2.1 hdg rfl (hl.at _ hi) kk
theorem g_iload {vs : List (Option Value)} {i : Nat} {x : Int32} (C : gC X own cc ret nL p s m args meth c) (hl : gL ls vs) (hdg : decode cc pc = .ok (.iload i, 2)) (hi : vs[i]? = some (some (.int x))) (kk : W p l e R s m args below meth c H locs cells slots Q (F0 m (pc + 2) ls (.int x :: rest))) : W p l e R s m args below meth c H locs cells slots Q (F0 m pc ls rest) := lv_iload C.1 C.2.1 hdg (hl.at _ hi) kk
theorem g_aload_n {vs : List (Option Value)} {k : Fin 4} {x : Nat} (C : gC X own cc ret nL p s m args meth c) (hl : gL ls vs) (hdg : decode cc pc = .ok (.aload_n k, 1)) (hi : vs[(k : Nat)]? = some (some (.ref x))) (kk : W p l e R s m args below meth c H locs cells slots Q (F0 m (pc + 1) ls (.ref x :: rest))) : W p l e R s m args below meth c H locs cells slots Q (F0 m pc ls rest) := lv_aload_n C.1 C.2.1 hdg rfl (hl.at _ hi) kk
theorem g_aload {vs : List (Option Value)} {i : Nat} {x : Nat} (C : gC X own cc ret nL p s m args meth c) (hl : gL ls vs) (hdg : decode cc pc = .ok (.aload i, 2)) (hi : vs[i]? = some (some (.ref x))) (kk : W p l e R s m args below meth c H locs cells slots Q (F0 m (pc + 2) ls (.ref x :: rest))) : W p l e R s m args below meth c H locs cells slots Q (F0 m pc ls rest) := lv_aload C.1 C.2.1 hdg (hl.at _ hi) kk
theorem g_istore_n {vs : List (Option Value)} {k : Fin 4} {x : Int32} (C : gC X own cc ret nL p s m args meth c) (hl : gL ls vs) (hdg : decode cc pc = .ok (.istore_n k, 1)) (hi : (k : Nat) < vs.length) (kk : ∀ ls' : Array Slot, gL ls' (vs.set k (some (.int x))) → W p l e R s m args below meth c H locs cells slots Q (F0 m (pc + 1) ls' rest)) : W p l e R s m args below meth c H locs cells slots Q (F0 m pc ls (.int x :: rest)) := lv_istore_n C.1 C.2.1 hdg rfl hl.has hi rfl (fun ls' h' => kk ls' (hl.set hi rfl h'))
theorem g_istore {vs : List (Option Value)} {i : Nat} {x : Int32} (C : gC X own cc ret nL p s m args meth c) (hl : gL ls vs) (hdg : decode cc pc = .ok (.istore i, 2)) (hi : i < vs.length) (kk : ∀ ls' : Array Slot, gL ls' (vs.set i (some (.int x))) → W p l e R s m args below meth c H locs cells slots Q (F0 m (pc + 2) ls' rest)) : W p l e R s m args below meth c H locs cells slots Q (F0 m pc ls (.int x :: rest)) := lv_istore C.1 C.2.1 hdg hl.has hi rfl (fun ls' h' => kk ls' (hl.set hi rfl h'))
theorem g_astore_n {vs : List (Option Value)} {k : Fin 4} {x : Nat} (C : gC X own cc ret nL p s m args meth c) (hl : gL ls vs) (hdg : decode cc pc = .ok (.astore_n k, 1)) (hi : (k : Nat) < vs.length) (kk : ∀ ls' : Array Slot, gL ls' (vs.set k (some (.ref x))) → W p l e R s m args below meth c H locs cells slots Q (F0 m (pc + 1) ls' rest)) : W p l e R s m args below meth c H locs cells slots Q (F0 m pc ls (.ref x :: rest)) := lv_astore_n C.1 C.2.1 hdg rfl hl.has hi rfl (fun ls' h' => kk ls' (hl.set hi rfl h'))
theorem g_astore {vs : List (Option Value)} {i : Nat} {x : Nat} (C : gC X own cc ret nL p s m args meth c) (hl : gL ls vs) (hdg : decode cc pc = .ok (.astore i, 2)) (hi : i < vs.length) (kk : ∀ ls' : Array Slot, gL ls' (vs.set i (some (.ref x))) → W p l e R s m args below meth c H locs cells slots Q (F0 m (pc + 2) ls' rest)) : W p l e R s m args below meth c H locs cells slots Q (F0 m pc ls (.ref x :: rest)) := lv_astore C.1 C.2.1 hdg hl.has hi rfl (fun ls' h' => kk ls' (hl.set hi rfl h'))
/-- a local that is a Nat grows -/
theorem g_iinc {vs : List (Option Value)} {i k a : Nat} {n : Int} (C : gC X own cc ret nL p s m args meth c) (hl : gL ls vs) (hdg : decode cc pc = .ok (.iinc i n, 3)) (hi : vs[i]? = some (some (.int (nI a)))) (hn : Int32.ofInt n = nI k) (kk : ∀ ls' : Array Slot, gL ls' (vs.set i (some (.int (nI (a + k))))) → W p l e R s m args below meth c H locs cells slots Q (F0 m (pc + 3) ls' rest)) : W p l e R s m args below meth c H locs cells slots Q (F0 m pc ls rest) := by
  have hlt := (List.getElem?_eq_some_iff.mp hi).1
  obtain ⟨q, hq⟩ := List.getElem?_of_mem (gLs_mem (q := (i, .int (nI a))).mpr hi)
  exact lv_iinc (v := nI (a + k)) C.1 C.2.1 hdg hl.has hq (by rw [hn, nI_add]) hlt rfl (fun ls' h' => kk ls' (hl.set hlt rfl h'))
/-- a local that is a Nat falls -/
theorem g_idec {vs : List (Option Value)} {i a : Nat} {n : Int} (C : gC X own cc ret nL p s m args meth c) (hl : gL ls vs) (hdg : decode cc pc = .ok (.iinc i n, 3)) (hi : vs[i]? = some (some (.int (nI (a + 1))))) (hn : Int32.ofInt n = -1) (kk : ∀ ls' : Array Slot, gL ls' (vs.set i (some (.int (nI a)))) → W p l e R s m args below meth c H locs cells slots Q (F0 m (pc + 3) ls' rest)) : W p l e R s m args below meth c H locs cells slots Q (F0 m pc ls rest) := by
  have hlt := (List.getElem?_eq_some_iff.mp hi).1
  obtain ⟨q, hq⟩ := List.getElem?_of_mem (gLs_mem (q := (i, .int (nI (a + 1)))).mpr hi)
  exact lv_iinc (v := nI a) C.1 C.2.1 hdg hl.has hq (by rw [hn, pk_m1]) hlt rfl (fun ls' h' => kk ls' (hl.set hlt rfl h'))
theorem g_iconst {n : Int} (k : Nat) (C : gC X own cc ret nL p s m args meth c) (hdg : decode cc pc = .ok (.iconst n, 1)) (hn : Int32.ofInt n = nI k) (kk : W p l e R s m args below meth c H locs cells slots Q (F0 m (pc + 1) ls (.int (nI k) :: rest))) : W p l e R s m args below meth c H locs cells slots Q (F0 m pc ls rest) := lv_iconst C.1 C.2.1 hdg hn kk
theorem g_iconstM {n : Int} (v : Int32) (C : gC X own cc ret nL p s m args meth c) (hdg : decode cc pc = .ok (.iconst n, 1)) (hn : Int32.ofInt n = v) (kk : W p l e R s m args below meth c H locs cells slots Q (F0 m (pc + 1) ls (.int v :: rest))) : W p l e R s m args below meth c H locs cells slots Q (F0 m pc ls rest) := lv_iconst C.1 C.2.1 hdg hn kk
theorem g_bipush {n : Int} (k : Nat) (C : gC X own cc ret nL p s m args meth c) (hdg : decode cc pc = .ok (.bipush n, 2)) (hn : (Int8.ofInt n).toInt32 = nI k) (kk : W p l e R s m args below meth c H locs cells slots Q (F0 m (pc + 2) ls (.int (nI k) :: rest))) : W p l e R s m args below meth c H locs cells slots Q (F0 m pc ls rest) := lv_bipush C.1 C.2.1 hdg hn kk
theorem g_bipushM {n : Int} (v : Int32) (C : gC X own cc ret nL p s m args meth c) (hdg : decode cc pc = .ok (.bipush n, 2)) (hn : (Int8.ofInt n).toInt32 = v) (kk : W p l e R s m args below meth c H locs cells slots Q (F0 m (pc + 2) ls (.int v :: rest))) : W p l e R s m args below meth c H locs cells slots Q (F0 m pc ls rest) := lv_bipush C.1 C.2.1 hdg hn kk
theorem g_sipush {n : Int} (k : Nat) (C : gC X own cc ret nL p s m args meth c) (hdg : decode cc pc = .ok (.sipush n, 3)) (hn : (Int16.ofInt n).toInt32 = nI k) (kk : W p l e R s m args below meth c H locs cells slots Q (F0 m (pc + 3) ls (.int (nI k) :: rest))) : W p l e R s m args below meth c H locs cells slots Q (F0 m pc ls rest) := lv_sipush C.1 C.2.1 hdg hn kk
theorem g_ldc {index : Nat} {v : Int32} (k : Nat) (C : gC X own cc ret nL p s m args meth c) (hw : Cond.constant own index v ∈ wA) (hv : v = nI k) (hdg : decode cc pc = .ok (.ldc index, 2)) (kk : W p l e R s m args below meth c H locs cells slots Q (F0 m (pc + 2) ls (.int (nI k) :: rest))) : W p l e R s m args below meth c H locs cells slots Q (F0 m pc ls rest) := by
  subst hv
  obtain ⟨hx, hb, -, -, hown, hA, -, -, -⟩ := C
  exact lv_ldc hx hb hown (hA _ hw) hdg kk
theorem g_iadd {a b : Nat} (C : gC X own cc ret nL p s m args meth c) (hdg : decode cc pc = .ok (.iadd, 1)) (kk : W p l e R s m args below meth c H locs cells slots Q (F0 m (pc + 1) ls (.int (nI (a + b)) :: rest))) : W p l e R s m args below meth c H locs cells slots Q (F0 m pc ls (.int (nI b) :: .int (nI a) :: rest)) := lv_iadd C.1 C.2.1 hdg (by rw [nI_add]; exact kk)
theorem g_isub {a b : Nat} (C : gC X own cc ret nL p s m args meth c) (hdg : decode cc pc = .ok (.isub, 1)) (h : b ≤ a) (kk : W p l e R s m args below meth c H locs cells slots Q (F0 m (pc + 1) ls (.int (nI (a - b)) :: rest))) : W p l e R s m args below meth c H locs cells slots Q (F0 m pc ls (.int (nI b) :: .int (nI a) :: rest)) := lv_isub C.1 C.2.1 hdg (by rw [pk_sub h]; exact kk)
theorem g_imul {a b : Nat} (C : gC X own cc ret nL p s m args meth c) (hdg : decode cc pc = .ok (.imul, 1)) (kk : W p l e R s m args below meth c H locs cells slots Q (F0 m (pc + 1) ls (.int (nI (a * b)) :: rest))) : W p l e R s m args below meth c H locs cells slots Q (F0 m pc ls (.int (nI b) :: .int (nI a) :: rest)) := lv_imul C.1 C.2.1 hdg (by rw [pk_mul]; exact kk)
theorem g_idiv {a b : Nat} (C : gC X own cc ret nL p s m args meth c) (hdg : decode cc pc = .ok (.idiv, 1)) (ha : a < 2 ^ 31) (h0 : 0 < b) (hb : b < 2 ^ 31) (kk : W p l e R s m args below meth c H locs cells slots Q (F0 m (pc + 1) ls (.int (nI (a / b)) :: rest))) : W p l e R s m args below meth c H locs cells slots Q (F0 m pc ls (.int (nI b) :: .int (nI a) :: rest)) := lv_idiv C.1 C.2.1 hdg (nI_ne0 h0 hb) (by rw [pk_div ha h0 hb]; exact kk)
theorem g_irem {a b : Nat} (C : gC X own cc ret nL p s m args meth c) (hdg : decode cc pc = .ok (.irem, 1)) (ha : a < 2 ^ 31) (h0 : 0 < b) (hb : b < 2 ^ 31) (kk : W p l e R s m args below meth c H locs cells slots Q (F0 m (pc + 1) ls (.int (nI (a % b)) :: rest))) : W p l e R s m args below meth c H locs cells slots Q (F0 m pc ls (.int (nI b) :: .int (nI a) :: rest)) := lv_irem C.1 C.2.1 hdg (nI_ne0 h0 hb) (by rw [pk_rem ha h0 hb]; exact kk)
theorem g_dup {v : Value} (C : gC X own cc ret nL p s m args meth c) (hdg : decode cc pc = .ok (.dup, 1)) (hc : v.category = 1) (kk : W p l e R s m args below meth c H locs cells slots Q (F0 m (pc + 1) ls (v :: v :: rest))) : W p l e R s m args below meth c H locs cells slots Q (F0 m pc ls (v :: rest)) := lv_dup C.1 C.2.1 hdg hc kk
theorem g_dup2 {v w : Value} (C : gC X own cc ret nL p s m args meth c) (hdg : decode cc pc = .ok (.dup2, 1)) (hv : v.category = 1) (hw : w.category = 1) (kk : W p l e R s m args below meth c H locs cells slots Q (F0 m (pc + 1) ls (v :: w :: v :: w :: rest))) : W p l e R s m args below meth c H locs cells slots Q (F0 m pc ls (v :: w :: rest)) := lv_dup2_11 C.1 C.2.1 hdg hv hw kk
theorem g_pop {v : Value} (C : gC X own cc ret nL p s m args meth c) (hdg : decode cc pc = .ok (.pop, 1)) (hc : v.category = 1) (kk : W p l e R s m args below meth c H locs cells slots Q (F0 m (pc + 1) ls rest)) : W p l e R s m args below meth c H locs cells slots Q (F0 m pc ls (v :: rest)) := lv_pop C.1 C.2.1 hdg hc kk
theorem g_goto {off : Int} {tgt : Nat} (C : gC X own cc ret nL p s m args meth c) (hdg : decode cc pc = .ok (.goto off, 3)) (ht : (pc : Int) + off = (tgt : Int)) (kk : W p l e R s m args below meth c H locs cells slots Q (F0 m tgt ls rest)) : W p l e R s m args below meth c H locs cells slots Q (F0 m pc ls rest) := lv_goto C.1 C.2.1 hdg ht kk
end GB
end
section
/-! ===== rows over the logical memory: branches, fields, arrays, calls ===== -/
section GC
variable {p : Program} {l : Launch} {e : Env} {R : Room} {s : State} {m : MethodId} {args : Array Value} {below : List Frame} {meth : Method} {c : Code} {H : Heap} {locs : List Loc} {cells slots : Nat} {Q : State → Prop}
variable {cc : ByteArray} {pc : Nat} {ls : Array Slot} {rest : List Value} {X : gX} {own : String} {ret : Option FieldType} {nL : Nat} {mem : gM}
theorem g_icmp_eq {a b tgt : Nat} {off : Int} (C : gC X own cc ret nL p s m args meth c) (hdg : decode cc pc = .ok (.if_icmp .eq off, 3)) (ht : (pc : Int) + off = (tgt : Int)) (ha : a < 2 ^ 31) (hb : b < 2 ^ 31) (kt : a = b → W p l e R s m args below meth c H locs cells slots Q (F0 m tgt ls rest)) (kf : ¬ a = b → W p l e R s m args below meth c H locs cells slots Q (F0 m (pc + 3) ls rest)) : W p l e R s m args below meth c H locs cells slots Q (F0 m pc ls (.int (nI b) :: .int (nI a) :: rest)) := lv_icmp_eq C.1 C.2.1 hdg ht (fun h => kt ((nI_eq ha hb).mp h)) (fun h => kf (fun z => h ((nI_eq ha hb).mpr z)))
theorem g_icmp_ne {a b tgt : Nat} {off : Int} (C : gC X own cc ret nL p s m args meth c) (hdg : decode cc pc = .ok (.if_icmp .ne off, 3)) (ht : (pc : Int) + off = (tgt : Int)) (ha : a < 2 ^ 31) (hb : b < 2 ^ 31) (kt : ¬ a = b → W p l e R s m args below meth c H locs cells slots Q (F0 m tgt ls rest)) (kf : a = b → W p l e R s m args below meth c H locs cells slots Q (F0 m (pc + 3) ls rest)) : W p l e R s m args below meth c H locs cells slots Q (F0 m pc ls (.int (nI b) :: .int (nI a) :: rest)) := lv_icmp_ne C.1 C.2.1 hdg ht (fun h => kt (fun z => h ((nI_eq ha hb).mpr z))) (fun h => kf ((nI_eq ha hb).mp h))
theorem g_icmp_lt {a b tgt : Nat} {off : Int} (C : gC X own cc ret nL p s m args meth c) (hdg : decode cc pc = .ok (.if_icmp .lt off, 3)) (ht : (pc : Int) + off = (tgt : Int)) (ha : a < 2 ^ 31) (hb : b < 2 ^ 31) (kt : a < b → W p l e R s m args below meth c H locs cells slots Q (F0 m tgt ls rest)) (kf : b ≤ a → W p l e R s m args below meth c H locs cells slots Q (F0 m (pc + 3) ls rest)) : W p l e R s m args below meth c H locs cells slots Q (F0 m pc ls (.int (nI b) :: .int (nI a) :: rest)) := lv_icmp_lt C.1 C.2.1 hdg ht (fun h => kt ((nI_ltI ha hb).mp h)) (fun h => kf (Nat.not_lt.mp (fun z => h ((nI_ltI ha hb).mpr z))))
theorem g_icmp_ge {a b tgt : Nat} {off : Int} (C : gC X own cc ret nL p s m args meth c) (hdg : decode cc pc = .ok (.if_icmp .ge off, 3)) (ht : (pc : Int) + off = (tgt : Int)) (ha : a < 2 ^ 31) (hb : b < 2 ^ 31) (kt : b ≤ a → W p l e R s m args below meth c H locs cells slots Q (F0 m tgt ls rest)) (kf : a < b → W p l e R s m args below meth c H locs cells slots Q (F0 m (pc + 3) ls rest)) : W p l e R s m args below meth c H locs cells slots Q (F0 m pc ls (.int (nI b) :: .int (nI a) :: rest)) := lv_icmp_ge C.1 C.2.1 hdg ht (fun h => kt ((nI_leI hb ha).mp h)) (fun h => kf (Nat.not_le.mp (fun z => h ((nI_leI hb ha).mpr z))))
theorem g_icmp_gt {a b tgt : Nat} {off : Int} (C : gC X own cc ret nL p s m args meth c) (hdg : decode cc pc = .ok (.if_icmp .gt off, 3)) (ht : (pc : Int) + off = (tgt : Int)) (ha : a < 2 ^ 31) (hb : b < 2 ^ 31) (kt : b < a → W p l e R s m args below meth c H locs cells slots Q (F0 m tgt ls rest)) (kf : a ≤ b → W p l e R s m args below meth c H locs cells slots Q (F0 m (pc + 3) ls rest)) : W p l e R s m args below meth c H locs cells slots Q (F0 m pc ls (.int (nI b) :: .int (nI a) :: rest)) := lv_icmp_gt C.1 C.2.1 hdg ht (fun h => kt ((nI_ltI hb ha).mp h)) (fun h => kf (Nat.not_lt.mp (fun z => h ((nI_ltI hb ha).mpr z))))
theorem g_icmp_le {a b tgt : Nat} {off : Int} (C : gC X own cc ret nL p s m args meth c) (hdg : decode cc pc = .ok (.if_icmp .le off, 3)) (ht : (pc : Int) + off = (tgt : Int)) (ha : a < 2 ^ 31) (hb : b < 2 ^ 31) (kt : a ≤ b → W p l e R s m args below meth c H locs cells slots Q (F0 m tgt ls rest)) (kf : b < a → W p l e R s m args below meth c H locs cells slots Q (F0 m (pc + 3) ls rest)) : W p l e R s m args below meth c H locs cells slots Q (F0 m pc ls (.int (nI b) :: .int (nI a) :: rest)) := lv_icmp_le C.1 C.2.1 hdg ht (fun h => kt ((nI_leI ha hb).mp h)) (fun h => kf (Nat.not_le.mp (fun z => h ((nI_leI ha hb).mpr z))))
theorem g_if_eq {a tgt : Nat} {off : Int} (C : gC X own cc ret nL p s m args meth c) (hdg : decode cc pc = .ok (.ifCond .eq off, 3)) (ht : (pc : Int) + off = (tgt : Int)) (ha : a < 2 ^ 31) (kt : a = 0 → W p l e R s m args below meth c H locs cells slots Q (F0 m tgt ls rest)) (kf : ¬ a = 0 → W p l e R s m args below meth c H locs cells slots Q (F0 m (pc + 3) ls rest)) : W p l e R s m args below meth c H locs cells slots Q (F0 m pc ls (.int (nI a) :: rest)) := lv_if_eq C.1 C.2.1 hdg ht (fun h => kt ((nI_eq ha (by decide)).mp h)) (fun h => kf (fun z => h ((nI_eq ha (by decide)).mpr z)))
theorem g_if_ne {a tgt : Nat} {off : Int} (C : gC X own cc ret nL p s m args meth c) (hdg : decode cc pc = .ok (.ifCond .ne off, 3)) (ht : (pc : Int) + off = (tgt : Int)) (ha : a < 2 ^ 31) (kt : ¬ a = 0 → W p l e R s m args below meth c H locs cells slots Q (F0 m tgt ls rest)) (kf : a = 0 → W p l e R s m args below meth c H locs cells slots Q (F0 m (pc + 3) ls rest)) : W p l e R s m args below meth c H locs cells slots Q (F0 m pc ls (.int (nI a) :: rest)) := lv_if_ne C.1 C.2.1 hdg ht (fun h => kt (fun z => h ((nI_eq ha (by decide)).mpr z))) (fun h => kf ((nI_eq ha (by decide)).mp h))
theorem g_if_gt {a tgt : Nat} {off : Int} (C : gC X own cc ret nL p s m args meth c) (hdg : decode cc pc = .ok (.ifCond .gt off, 3)) (ht : (pc : Int) + off = (tgt : Int)) (ha : a < 2 ^ 31) (kt : 0 < a → W p l e R s m args below meth c H locs cells slots Q (F0 m tgt ls rest)) (kf : a = 0 → W p l e R s m args below meth c H locs cells slots Q (F0 m (pc + 3) ls rest)) : W p l e R s m args below meth c H locs cells slots Q (F0 m pc ls (.int (nI a) :: rest)) := lv_if_gt C.1 C.2.1 hdg ht (fun h => kt ((nI_ltI (by decide) ha).mp h)) (fun h => kf (Nat.le_zero.mp (Nat.not_lt.mp (fun z => h ((nI_ltI (by decide) ha).mpr z)))))
theorem g_if_le {a tgt : Nat} {off : Int} (C : gC X own cc ret nL p s m args meth c) (hdg : decode cc pc = .ok (.ifCond .le off, 3)) (ht : (pc : Int) + off = (tgt : Int)) (ha : a < 2 ^ 31) (kt : a = 0 → W p l e R s m args below meth c H locs cells slots Q (F0 m tgt ls rest)) (kf : 0 < a → W p l e R s m args below meth c H locs cells slots Q (F0 m (pc + 3) ls rest)) : W p l e R s m args below meth c H locs cells slots Q (F0 m pc ls (.int (nI a) :: rest)) := lv_if_le C.1 C.2.1 hdg ht (fun h => kt (Nat.le_zero.mp ((nI_leI ha (by decide)).mp h))) (fun h => kf (Nat.not_le.mp (fun z => h ((nI_leI ha (by decide)).mpr z))))
theorem g_if_lt {a tgt : Nat} {off : Int} (C : gC X own cc ret nL p s m args meth c) (hdg : decode cc pc = .ok (.ifCond .lt off, 3)) (ht : (pc : Int) + off = (tgt : Int)) (ha : a < 2 ^ 31) (kf : W p l e R s m args below meth c H locs cells slots Q (F0 m (pc + 3) ls rest)) : W p l e R s m args below meth c H locs cells slots Q (F0 m pc ls (.int (nI a) :: rest)) := lv_if_lt C.1 C.2.1 hdg ht (fun h => absurd h (nI_pos ha)) (fun _ => kf)
theorem g_if_ge {a tgt : Nat} {off : Int} (C : gC X own cc ret nL p s m args meth c) (hdg : decode cc pc = .ok (.ifCond .ge off, 3)) (ht : (pc : Int) + off = (tgt : Int)) (ha : a < 2 ^ 31) (kt : W p l e R s m args below meth c H locs cells slots Q (F0 m tgt ls rest)) : W p l e R s m args below meth c H locs cells slots Q (F0 m pc ls (.int (nI a) :: rest)) := lv_if_ge C.1 C.2.1 hdg ht (fun _ => kt) (fun h => absurd (nI_pos' ha) h)
theorem g_get {k o ci N index : Nat} {ref Cn : String} {T : u_T} {fs : List Value} {v : Value} (C : gC X own cc ret nL p s m args meth c) (hR : gRep X mem H) (hv : (k, o) ∈ gIds) (hsh : gE X k o (mem k o) = .inr (ci, fs)) (hc : vwCl[ci]? = some (Cn, T, N)) (hin : ∀ w ∈ u_ws Cn T N, w ∈ wA) (i : Nat) (hi : i < N) (hlink : Cond.fieldLink own index ref (T i).2.1 (T i).2.2.1 ∈ wA) (hsame : (T i).1 = ref) (hval : fs[i]? = some v) (hdg : decode cc pc = .ok (.getfield index, 3)) (kk : W p l e R s m args below meth c H locs cells slots Q (F0 m (pc + 3) ls (v :: rest))) : W p l e R s m args below meth c H locs cells slots Q (F0 m pc ls (.ref (gAd X k o) :: rest)) := by
  obtain ⟨hx, hb, -, -, hown, hA, -, -, hE⟩ := C
  obtain ⟨q0, hq⟩ := List.getElem?_of_mem hv
  have he : (gWs X mem)[q0]? = some (gAd X k o, .inr (ci, fs)) := by rw [gWs_at hq, hsh]
  exact va_get hx hb hA hin hown hE.1 hR q0 he hc i hi (hA _ hlink) (fun x h => by rw [← hsame]; exact h) hval hdg kk
theorem g_getN {k o ci N index : Nat} {ref Cn host : String} {T : u_T} {fs : List Value} {v : Value} (C : gC X own cc ret nL p s m args meth c) (hR : gRep X mem H) (hv : (k, o) ∈ gIds) (hsh : gE X k o (mem k o) = .inr (ci, fs)) (hc : vwCl[ci]? = some (Cn, T, N)) (hin : ∀ w ∈ u_ws Cn T N, w ∈ wA) (i : Nat) (hi : i < N) (hlink : (own, index, ref, (T i).2.1, (T i).2.2.1, host) ∈ gNf) (hsame : (T i).1 = ref) (hval : fs[i]? = some v) (hdg : decode cc pc = .ok (.getfield index, 3)) (kk : W p l e R s m args below meth c H locs cells slots Q (F0 m (pc + 3) ls (v :: rest))) : W p l e R s m args below meth c H locs cells slots Q (F0 m pc ls (.ref (gAd X k o) :: rest)) := by
  obtain ⟨hx, hb, -, -, hown, hA, -, -, hE⟩ := C
  obtain ⟨q0, hq⟩ := List.getElem?_of_mem hv
  have he : (gWs X mem)[q0]? = some (gAd X k o, .inr (ci, fs)) := by rw [gWs_at hq, hsh]
  have hl := hE.2.1.1 _ hlink
  exact va_getN hx hb hA hin hown hE.1 hR q0 he hc i hi (va_Nw.use rfl hl) (fun x h => by rw [← hsame]; exact h) hval hdg kk
theorem g_put {k o ci N index : Nat} {ref Cn : String} {T : u_T} {fs : List Value} {v : Value} {ty0 : Nat → FieldType} {ty : FieldType} (C : gC X own cc ret nL p s m args meth c) (hR : gRep X mem H) (hS : va_S (gA X) s.heap H locs) (hv : (k, o) ∈ gIds) (hsh : gE X k o (mem k o) = .inr (ci, fs)) (hc : vwCl[ci]? = some (Cn, T, N)) (hin : ∀ w ∈ u_ws Cn T N, w ∈ wA) (hty : ∀ k, k < N → parseFieldDescriptor (T k).2.2.1 = some (ty0 k)) (hnm : ∀ a, a < N → ∀ b, b < N → a ≠ b → (T a).2.1 ≠ (T b).2.1) (i : Nat) (hi : i < N) (hlink : Cond.fieldLink own index ref (T i).2.1 (T i).2.2.1 ∈ wA) (hsame : (T i).1 = ref) (hfin : (T i).2.2.2 = false) (hd : parseFieldDescriptor (T i).2.2.1 = some ty) (hn : narrow ty v = v) (hfit : fits ty v = true) (hl : i < fs.length) (f : Nat → Nat) (hnew : gE X k o f = .inr (ci, fs.set i v)) (hdg : decode cc pc = .ok (.putfield index, 3)) (kk : ∀ (H1 : Heap) (locs1 : List Loc), gRep X (gP mem k o f) H1 → va_S (gA X) s.heap H1 locs1 → W p l e R s m args below meth c H1 locs1 cells slots Q (F0 m (pc + 3) ls rest)) : W p l e R s m args below meth c H locs cells slots Q (F0 m pc ls (v :: .ref (gAd X k o) :: rest)) := by
  obtain ⟨hx, hb, -, -, hown, hA, -, hI, hE⟩ := C
  obtain ⟨q0, hq⟩ := List.getElem?_of_mem hv
  have he : (gWs X mem)[q0]? = some (gAd X k o, .inr (ci, fs)) := by rw [gWs_at hq, hsh]
  refine va_put hx hb hA hin ty0 hty hnm hown hE.1 hR (hI mem) hS q0 he hc i hi (hA _ hlink) (fun x h => by rw [← hsame]; exact h) hfin hd hn hfit hl hdg (fun H1 locs1 hP hD hS1 => kk H1 locs1 ?_ hS1)
  rw [← hnew, gWs_set hq] at hP
  exact hP
theorem g_putN {k o ci N index : Nat} {ref Cn host : String} {T : u_T} {fs : List Value} {v : Value} {ty0 : Nat → FieldType} {ty : FieldType} (C : gC X own cc ret nL p s m args meth c) (hR : gRep X mem H) (hS : va_S (gA X) s.heap H locs) (hv : (k, o) ∈ gIds) (hsh : gE X k o (mem k o) = .inr (ci, fs)) (hc : vwCl[ci]? = some (Cn, T, N)) (hin : ∀ w ∈ u_ws Cn T N, w ∈ wA) (hty : ∀ k, k < N → parseFieldDescriptor (T k).2.2.1 = some (ty0 k)) (hnm : ∀ a, a < N → ∀ b, b < N → a ≠ b → (T a).2.1 ≠ (T b).2.1) (i : Nat) (hi : i < N) (hlink : (own, index, ref, (T i).2.1, (T i).2.2.1, host) ∈ gNf) (hsame : (T i).1 = ref) (hfin : (T i).2.2.2 = false) (hd : parseFieldDescriptor (T i).2.2.1 = some ty) (hn : narrow ty v = v) (hfit : fits ty v = true) (hl : i < fs.length) (f : Nat → Nat) (hnew : gE X k o f = .inr (ci, fs.set i v)) (hdg : decode cc pc = .ok (.putfield index, 3)) (kk : ∀ (H1 : Heap) (locs1 : List Loc), gRep X (gP mem k o f) H1 → va_S (gA X) s.heap H1 locs1 → W p l e R s m args below meth c H1 locs1 cells slots Q (F0 m (pc + 3) ls rest)) : W p l e R s m args below meth c H locs cells slots Q (F0 m pc ls (v :: .ref (gAd X k o) :: rest)) := by
  obtain ⟨hx, hb, -, -, hown, hA, -, hI, hE⟩ := C
  obtain ⟨q0, hq⟩ := List.getElem?_of_mem hv
  have he : (gWs X mem)[q0]? = some (gAd X k o, .inr (ci, fs)) := by rw [gWs_at hq, hsh]
  have hl9 := hE.2.1.1 _ hlink
  refine va_putN hx hb hA hin ty0 hty hnm hown hE.1 hR (hI mem) hS q0 he hc i hi (va_Nw.use rfl hl9) (fun x h => by rw [← hsame]; exact h) hfin hd hn hfit hl hdg (fun H1 locs1 hP hD hS1 => kk H1 locs1 ?_ hS1)
  rw [← hnew, gWs_set hq] at hP
  exact hP
/-! arrays of ints -/
theorem g_iald {k o n i : Nat} (C : gC X own cc ret nL p s m args meth c) (hR : gRep X mem H) (hv : (k, o) ∈ gIds) (hsh : ∀ g, gE X k o g = gAr X n g) (hi : i < n) (hn : n < 2 ^ 31) (hdg : decode cc pc = .ok (.iaload, 1)) (kk : W p l e R s m args below meth c H locs cells slots Q (F0 m (pc + 1) ls (.int (nI (mem k o i)) :: rest))) : W p l e R s m args below meth c H locs cells slots Q (F0 m pc ls (.int (nI i) :: .ref (gAd X k o) :: rest)) := by
  obtain ⟨hx, hb, -, -, hown, hA, -, -, hE⟩ := C
  obtain ⟨q0, hq⟩ := List.getElem?_of_mem hv
  have he : (gWs X mem)[q0]? = some (gAd X k o, .inl (gCl X 0, n, .inl (fun j => nI (mem k o j)))) := by rw [gWs_at hq, hsh]; rfl
  refine va_iald hx hb hE.1 hR q0 0 he rfl (vp_in_nI hi hn) hdg ?_
  rw [nI_clamp (by omega)]
  exact kk
theorem g_iast {k o n i x : Nat} (C : gC X own cc ret nL p s m args meth c) (hR : gRep X mem H) (hS : va_S (gA X) s.heap H locs) (hv : (k, o) ∈ gIds) (hsh : ∀ g, gE X k o g = gAr X n g) (hi : i < n) (hn : n < 2 ^ 31) (hdg : decode cc pc = .ok (.iastore, 1)) (kk : ∀ (H1 : Heap) (locs1 : List Loc), gRep X (gP mem k o (fU (mem k o) i x)) H1 → va_S (gA X) s.heap H1 locs1 → W p l e R s m args below meth c H1 locs1 cells slots Q (F0 m (pc + 1) ls rest)) : W p l e R s m args below meth c H locs cells slots Q (F0 m pc ls (.int (nI x) :: .int (nI i) :: .ref (gAd X k o) :: rest)) := by
  obtain ⟨hx, hb, -, -, hown, hA, -, hI, hE⟩ := C
  obtain ⟨q0, hq⟩ := List.getElem?_of_mem hv
  have he : (gWs X mem)[q0]? = some (gAd X k o, .inl (gCl X 0, n, .inl (fun j => nI (mem k o j)))) := by rw [gWs_at hq, hsh]; rfl
  refine va_iast hx hb hE.1 hR (hI mem) hS q0 0 he rfl (vp_in_nI hi hn) hdg (fun H1 locs1 hP hD hS1 => kk H1 locs1 ?_ hS1)
  rw [nI_clamp (by omega)] at hP
  have e9 : (.inl (gCl X 0, n, .inl (upd (fun j => nI (mem k o j)) i (nI x))) : va_E) = gE X k o (fU (mem k o) i x) := by
    rw [hsh]
    show _ = (.inl (gCl X 0, n, .inl (fun j => nI (fU (mem k o) i x j))) : va_E)
    have e8 : upd (fun j => nI (mem k o j)) i (nI x) = fun j => nI (fU (mem k o) i x j) := by
      funext j
      unfold upd fU
      by_cases h : j = i
      · rw [if_pos h, if_pos h]
      · rw [if_neg h, if_neg h]
    rw [e8]
  rw [e9, gWs_set hq] at hP
  exact hP
theorem g_alen {k o n : Nat} (C : gC X own cc ret nL p s m args meth c) (hR : gRep X mem H) (hv : (k, o) ∈ gIds) (hsh : ∀ g, gE X k o g = gAr X n g) (hdg : decode cc pc = .ok (.arraylength, 1)) (kk : W p l e R s m args below meth c H locs cells slots Q (F0 m (pc + 1) ls (.int (nI n) :: rest))) : W p l e R s m args below meth c H locs cells slots Q (F0 m pc ls (.ref (gAd X k o) :: rest)) := by
  obtain ⟨hx, hb, -, -, hown, hA, -, -, hE⟩ := C
  obtain ⟨q0, hq⟩ := List.getElem?_of_mem hv
  have he : (gWs X mem)[q0]? = some (gAd X k o, .inl (gCl X 0, n, .inl (fun j => nI (mem k o j)))) := by rw [gWs_at hq, hsh]; rfl
  exact va_alen hx hb hE.1 hR q0 0 he (ty := .int) rfl rfl hdg kk
/-! the text's characters, the history's states -/
theorem g_cald {i : Nat} (C : gC X own cc ret nL p s m args meth c) (hR : gRep X mem H) (hi : i < 80) (hdg : decode cc pc = .ok (.caload, 1)) (kk : W p l e R s m args below meth c H locs cells slots Q (F0 m (pc + 1) ls (.int (nI (mem 7 4 i)) :: rest))) : W p l e R s m args below meth c H locs cells slots Q (F0 m pc ls (.int (nI i) :: .ref (gAd X 7 4) :: rest)) := by
  obtain ⟨hx, hb, -, -, hown, hA, -, -, hE⟩ := C
  obtain ⟨q0, hq⟩ := List.getElem?_of_mem (gI_f (o := 4) (by decide))
  have he : (gWs X mem)[q0]? = some (gAd X 7 4, .inl (gCl X 1, 80, .inl (fun j => nI (mem 7 4 j)))) := by rw [gWs_at hq]; rfl
  refine va_cald hx hb hE.1 hR q0 1 he rfl (vp_in_nI hi (by decide)) hdg ?_
  rw [nI_clamp (by omega)]
  exact kk
theorem g_cast {i x : Nat} (C : gC X own cc ret nL p s m args meth c) (hR : gRep X mem H) (hS : va_S (gA X) s.heap H locs) (hi : i < 80) (hx9 : x < 65536) (hdg : decode cc pc = .ok (.castore, 1)) (kk : ∀ (H1 : Heap) (locs1 : List Loc), gRep X (gP mem 7 4 (fU (mem 7 4) i x)) H1 → va_S (gA X) s.heap H1 locs1 → W p l e R s m args below meth c H1 locs1 cells slots Q (F0 m (pc + 1) ls rest)) : W p l e R s m args below meth c H locs cells slots Q (F0 m pc ls (.int (nI x) :: .int (nI i) :: .ref (gAd X 7 4) :: rest)) := by
  obtain ⟨hx, hb, -, -, hown, hA, -, hI, hE⟩ := C
  obtain ⟨q0, hq⟩ := List.getElem?_of_mem (gI_f (o := 4) (by decide))
  have he : (gWs X mem)[q0]? = some (gAd X 7 4, .inl (gCl X 1, 80, .inl (fun j => nI (mem 7 4 j)))) := by rw [gWs_at hq]; rfl
  refine va_cast hx hb hE.1 hR (hI mem) hS q0 1 he rfl (vp_in_nI hi (by decide)) hdg (fun H1 locs1 hP hD hS1 => kk H1 locs1 ?_ hS1)
  have e7 : vp_nar .char (nI x) = nI x := by
    unfold vp_nar
    rw [(pk_charN hx9).1]
  rw [nI_clamp (by omega), e7] at hP
  have e9 : (.inl (gCl X 1, 80, .inl (upd (fun j => nI (mem 7 4 j)) i (nI x))) : va_E) = gE X 7 4 (fU (mem 7 4) i x) := by
    show _ = (.inl (gCl X 1, 80, .inl (fun j => nI (fU (mem 7 4) i x j))) : va_E)
    have e8 : upd (fun j => nI (mem 7 4 j)) i (nI x) = fun j => nI (fU (mem 7 4) i x j) := by
      funext j
      unfold upd fU
      by_cases h : j = i
      · rw [if_pos h, if_pos h]
      · rw [if_neg h, if_neg h]
    rw [e8]
  rw [e9, gWs_set hq] at hP
  exact hP
theorem g_clen (C : gC X own cc ret nL p s m args meth c) (hR : gRep X mem H) (hdg : decode cc pc = .ok (.arraylength, 1)) (kk : W p l e R s m args below meth c H locs cells slots Q (F0 m (pc + 1) ls (.int (nI 80) :: rest))) : W p l e R s m args below meth c H locs cells slots Q (F0 m pc ls (.ref (gAd X 7 4) :: rest)) := by
  obtain ⟨hx, hb, -, -, hown, hA, -, -, hE⟩ := C
  obtain ⟨q0, hq⟩ := List.getElem?_of_mem (gI_f (o := 4) (by decide))
  have he : (gWs X mem)[q0]? = some (gAd X 7 4, .inl (gCl X 1, 80, .inl (fun j => nI (mem 7 4 j)))) := by rw [gWs_at hq]; rfl
  exact va_alen hx hb hE.1 hR q0 1 he (ty := .char) rfl rfl hdg kk
theorem g_slen (C : gC X own cc ret nL p s m args meth c) (hR : gRep X mem H) (hdg : decode cc pc = .ok (.arraylength, 1)) (kk : W p l e R s m args below meth c H locs cells slots Q (F0 m (pc + 1) ls (.int (nI 4) :: rest))) : W p l e R s m args below meth c H locs cells slots Q (F0 m pc ls (.ref (gAd X 7 2) :: rest)) := by
  obtain ⟨hx, hb, -, -, hown, hA, -, -, hE⟩ := C
  obtain ⟨q0, hq⟩ := List.getElem?_of_mem (gI_f (o := 2) (by decide))
  have he : (gWs X mem)[q0]? = some (gAd X 7 2, .inl (gCl X 2, 4, .inr (.inr (.inr (.inr (fun j => some (gAd X (mem 7 2 j) 0))))))) := by rw [gWs_at hq]; rfl
  exact va_alen hx hb hE.1 hR q0 2 he (ty := .object RX4) rfl rfl hdg kk
theorem g_aald {i : Nat} (C : gC X own cc ret nL p s m args meth c) (hR : gRep X mem H) (hi : i < 4) (hdg : decode cc pc = .ok (.aaload, 1)) (kk : W p l e R s m args below meth c H locs cells slots Q (F0 m (pc + 1) ls (.ref (gAd X (mem 7 2 i) 0) :: rest))) : W p l e R s m args below meth c H locs cells slots Q (F0 m pc ls (.int (nI i) :: .ref (gAd X 7 2) :: rest)) := by
  obtain ⟨hx, hb, -, -, hown, hA, -, -, hE⟩ := C
  obtain ⟨q0, hq⟩ := List.getElem?_of_mem (gI_f (o := 2) (by decide))
  have he : (gWs X mem)[q0]? = some (gAd X 7 2, .inl (gCl X 2, 4, .inr (.inr (.inr (.inr (fun j => some (gAd X (mem 7 2 j) 0))))))) := by rw [gWs_at hq]; rfl
  refine va_aldq hx hb hE.1 hR q0 2 he rfl (vp_in_nI hi (by decide)) hdg ?_
  rw [nI_clamp (by omega)]
  exact kk
theorem g_aast {i q : Nat} (C : gC X own cc ret nL p s m args meth c) (hR : gRep X mem H) (hS : va_S (gA X) s.heap H locs) (hi : i < 4) (hq7 : q < 7) (hdg : decode cc pc = .ok (.aastore, 1)) (kk : ∀ (H1 : Heap) (locs1 : List Loc), gRep X (gP mem 7 2 (fU (mem 7 2) i q)) H1 → va_S (gA X) s.heap H1 locs1 → W p l e R s m args below meth c H1 locs1 cells slots Q (F0 m (pc + 1) ls rest)) : W p l e R s m args below meth c H locs cells slots Q (F0 m pc ls (.ref (gAd X q 0) :: .int (nI i) :: .ref (gAd X 7 2) :: rest)) := by
  obtain ⟨hx, hb, -, -, hown, hA, -, hI, hE⟩ := C
  obtain ⟨q0, hq⟩ := List.getElem?_of_mem (gI_f (o := 2) (by decide))
  obtain ⟨q1, hq1⟩ := List.getElem?_of_mem (gI_m (o := 0) hq7 (by decide))
  have he : (gWs X mem)[q0]? = some (gAd X 7 2, .inl (gCl X 2, 4, .inr (.inr (.inr (.inr (fun j => some (gAd X (mem 7 2 j) 0))))))) := by rw [gWs_at hq]; rfl
  have he1 : (gWs X mem)[q1]? = some (gAd X q 0, gEm X q (mem q 0) 0) := by rw [gWs_at hq1, gE_m hq7]
  refine va_astq hx hb hE.1 hR (hI mem) hS q0 2 q1 4 he rfl he1 rfl (vp_in_nI hi (by decide)) hdg (fun H1 locs1 hP hD hS1 => kk H1 locs1 ?_ hS1)
  rw [nI_clamp (by omega)] at hP
  have e9 : (.inl (gCl X 2, 4, .inr (.inr (.inr (.inr (va_up (fun j => some (gAd X (mem 7 2 j) 0)) i (some (gAd X q 0))))))) : va_E) = gE X 7 2 (fU (mem 7 2) i q) := by
    show _ = (.inl (gCl X 2, 4, .inr (.inr (.inr (.inr (fun j => some (gAd X (fU (mem 7 2) i q j) 0)))))) : va_E)
    have e8 : va_up (fun j => some (gAd X (mem 7 2 j) 0)) i (some (gAd X q 0)) = fun j => some (gAd X (fU (mem 7 2) i q j) 0) := by
      funext j
      unfold va_up fU
      by_cases h : j = i
      · rw [if_pos h, if_pos h]
      · rw [if_neg h, if_neg h]
    rw [e8]
  rw [e9, gWs_set hq] at hP
  exact hP
/-! calls -/
def gRc (k o : Nat) (cn : String) : Prop := (k, o) ∈ gIds ∧ ∀ (X : gX) (g : Nat → Nat), ∃ (ci : Nat) (T : u_T) (N : Nat) (fs : List Value), gE X k o g = .inr (ci, fs) ∧ vwCl[ci]? = some (cn, T, N)
def gMd (y : MethodName) (cc : ByteArray) (nL : Nat) (ret : Option FieldType) (n : Nat) : Prop := Cond.instanceMethod y ∈ wA ∧ Cond.selects y.cls y y ∈ wA ∧ Cond.code y cc nL ret ∈ wA ∧ Cond.initialized y.cls ∈ wA ∧ (y.cls ≠ "java/lang/invoke/MethodHandle" ∧ y.cls ≠ "java/lang/invoke/VarHandle" ∧ (parseMethodDescriptor y.desc).map (fun d => d.parameters.length) = some n)
def gMs (y : MethodName) (cc : ByteArray) (nL : Nat) (ret : Option FieldType) (n : Nat) : Prop := Cond.static y ∈ wA ∧ Cond.code y cc nL ret ∈ wA ∧ Cond.initialized y.cls ∈ wA ∧ (y.cls ≠ "java/lang/invoke/MethodHandle" ∧ y.cls ≠ "java/lang/invoke/VarHandle" ∧ (parseMethodDescriptor y.desc).map (fun d => d.parameters.length) = some n)
theorem g_good {y : MethodName} {cc2 : ByteArray} {nL2 : Nat} {ret2 : Option FieldType} (h : Cond.code y cc2 nL2 ret2 ∈ wA) : GoodIn wA (Cond.code y cc2 nL2 ret2 :: wA) := fun w hw => by
  rcases List.mem_cons.mp hw with e | h'
  · subst e
    exact wA_good _ h
  · exact wA_good w h'
theorem gB_blind {av : List Value} : FrameBlind (va_Pc av (gB X mem)) := fun a U g mk q => ⟨q.1, q.2.1, q.2.2.to (State.WarmedH.refl U) (Nat.le_refl _) (fun _ _ _ => rfl)⟩
theorem g_go {a : Array Value} {post : Option Value → gM → Prop} {st0 : List Value} (hr : va_Run p l e R s m args below meth c H locs cells slots 0 0 (F0 m pc ls st0) rest (gQ X post a) (gA X)) (hS : va_S (gA X) s.heap H locs) (kk : ∀ (v : Option Value) (mem' : gM) (H1 : Heap) (locs1 : List Loc), post v mem' → gRep X mem' H1 → va_S (gA X) s.heap H1 locs1 → W p l e R s m args below meth c H1 locs1 cells slots Q (F0 m (pc + 3) ls (v.toList ++ rest))) : W p l e R s m args below meth c H locs cells slots Q (F0 m pc ls st0) := by
  intro T hT X9
  obtain ⟨v, st₀, t, T', L, h0, X', hL, e1, e2, ⟨⟨v2, mem', hv, hp, hb⟩, hz, hk⟩, st⟩ := hr T hT X9
  cases hv
  rw [h0] at hz hk
  obtain ⟨t2, a1, b1⟩ := kk v mem' T'.heap (locs ++ L) hp (by rw [e1]; exact hb.1)
    ⟨Nat.le_trans hS.1 (by rw [e1]; exact hz), fun q h1 h2 => by rw [e1, hk q (Nat.lt_of_lt_of_le h1 hS.1) h2]; exact hS.2.1 q h1 h2, fun q hq => by
      rcases List.mem_append.mp hq with h | h
      · exact hS.2.2 q h
      · exact hL q h⟩ T' rfl X'
  exact ⟨t2, st t2 a1, b1⟩
theorem g_callV {k o index fr2 lo2 nL2 n : Nat} {y : MethodName} {cc2 : ByteArray} {ret2 : Option FieldType} {As st0 : List Value} {post : Option Value → gM → Prop} (C : gC X own cc ret nL p s m args meth c) (hz : ls.size = nL) (hR : gRep X mem H) (hS : va_S (gA X) s.heap H locs) (hrc : gRc k o y.cls) (md : gMd y cc2 nL2 ret2 n) (hlink : Cond.methodLink own index y ∈ wA) (hM : gMt l y cc2 nL2 ret2 fr2 lo2 X (.ref (gAd X k o) :: As) mem post) (hn : As.length = n) (hst : st0 = As.reverse ++ .ref (gAd X k o) :: rest) (hroom : fr2 + 1 ≤ R.frames ∧ 8 + (nL2 + 11) + lo2 ≤ R.locals) (hf : cells ≤ R.cells ∧ slots ≤ R.slots) (hw : (rest.map fun v => v.category).sum ≤ 8) (hdg : decode cc pc = .ok (.invokevirtual index, 3)) (kk : ∀ (v : Option Value) (mem' : gM) (H1 : Heap) (locs1 : List Loc), post v mem' → gRep X mem' H1 → va_S (gA X) s.heap H1 locs1 → W p l e R s m args below meth c H1 locs1 cells slots Q (F0 m (pc + 3) ls (v.toList ++ rest))) : W p l e R s m args below meth c H locs cells slots Q (F0 m pc ls st0) := by
  obtain ⟨hx, hb, -, hml, hown, hA, -, -, hE⟩ := C
  obtain ⟨i1, i2, i3, i4, i5⟩ := md
  obtain ⟨hv, hsh⟩ := hrc
  obtain ⟨ci, T, N, fs, g1, g2⟩ := hsh X (mem k o)
  obtain ⟨q0, hq⟩ := List.getElem?_of_mem hv
  have he : (gWs X mem)[q0]? = some (gAd X k o, .inr (ci, fs)) := by rw [gWs_at hq, g1]
  have cb := callB_of (R := R) (rm := { frames := fr2, cells := 0, slots := 0, locals := lo2 }) (mc := 0) (ms := 0) n hA (g_good i3) rfl rfl rfl (hA _ i4) (hA _ hlink) i5 hroom
  refine g_go (rest := rest) (va_runV (C := y.cls) (rest := rest) ⟨hx, hb, hml, hown, hA⟩ hM ⟨cb, hA _ i1, hA _ i2⟩ ⟨gB_blind, va_recv hE.1 hR g2 he, fun U hU hW => ⟨rfl, by rw [hU]; exact hR, by rw [hU]; exact hE.to hW hS.1 hS.2.1⟩⟩ rfl hn hz hst (lv_room hw) hdg hf) hS kk
theorem g_callS {index fr2 lo2 nL2 n : Nat} {y : MethodName} {cc2 : ByteArray} {ret2 : Option FieldType} {As st0 : List Value} {post : Option Value → gM → Prop} (C : gC X own cc ret nL p s m args meth c) (hz : ls.size = nL) (hR : gRep X mem H) (hS : va_S (gA X) s.heap H locs) (md : gMs y cc2 nL2 ret2 n) (hlink : Cond.methodLink own index y ∈ wA) (hM : gMt l y cc2 nL2 ret2 fr2 lo2 X As mem post) (hn : As.length = n) (hst : st0 = As.reverse ++ rest) (hroom : fr2 + 1 ≤ R.frames ∧ 8 + (nL2 + 11) + lo2 ≤ R.locals) (hf : cells ≤ R.cells ∧ slots ≤ R.slots) (hw : (rest.map fun v => v.category).sum ≤ 8) (hdg : decode cc pc = .ok (.invokestatic index, 3)) (kk : ∀ (v : Option Value) (mem' : gM) (H1 : Heap) (locs1 : List Loc), post v mem' → gRep X mem' H1 → va_S (gA X) s.heap H1 locs1 → W p l e R s m args below meth c H1 locs1 cells slots Q (F0 m (pc + 3) ls (v.toList ++ rest))) : W p l e R s m args below meth c H locs cells slots Q (F0 m pc ls st0) := by
  obtain ⟨hx, hb, -, hml, hown, hA, -, -, hE⟩ := C
  obtain ⟨i1, i3, i4, i5⟩ := md
  have cb := callB_of (R := R) (rm := { frames := fr2, cells := 0, slots := 0, locals := lo2 }) (mc := 0) (ms := 0) n hA (g_good i3) rfl rfl rfl (hA _ i4) (hA _ hlink) i5 hroom
  refine g_go (rest := rest) (va_runS (rest := rest) ⟨hx, hb, hml, hown, hA⟩ hM ⟨cb, hA _ i1⟩ ⟨gB_blind, fun U hU hW => ⟨rfl, by rw [hU]; exact hR, by rw [hU]; exact hE.to hW hS.1 hS.2.1⟩⟩ rfl hn hz hst (lv_room hw) hdg hf) hS kk
theorem g_callVi {k o index fr2 lo2 nL2 n : Nat} {x : Int32} {mem2 : gM} {y : MethodName} {cc2 : ByteArray} {ret2 : Option FieldType} {As st0 : List Value} (C : gC X own cc ret nL p s m args meth c) (hz : ls.size = nL) (hR : gRep X mem H) (hS : va_S (gA X) s.heap H locs) (hrc : gRc k o y.cls) (md : gMd y cc2 nL2 ret2 n) (hlink : Cond.methodLink own index y ∈ wA) (hM : gF l y cc2 nL2 ret2 fr2 lo2 X (.ref (gAd X k o) :: As) mem (some (.int x)) mem2) (hn : As.length = n) (hst : st0 = As.reverse ++ .ref (gAd X k o) :: rest) (hroom : fr2 + 1 ≤ R.frames ∧ 8 + (nL2 + 11) + lo2 ≤ R.locals) (hf : cells ≤ R.cells ∧ slots ≤ R.slots) (hw : (rest.map fun v => v.category).sum ≤ 8) (hdg : decode cc pc = .ok (.invokevirtual index, 3)) (kk : ∀ (H1 : Heap) (locs1 : List Loc), gRep X mem2 H1 → va_S (gA X) s.heap H1 locs1 → W p l e R s m args below meth c H1 locs1 cells slots Q (F0 m (pc + 3) ls (.int x :: rest))) : W p l e R s m args below meth c H locs cells slots Q (F0 m pc ls st0) := g_callV C hz hR hS hrc md hlink hM hn hst hroom hf hw hdg (fun v mem' H1 locs1 hp => by
  obtain ⟨rfl, rfl⟩ := hp
  exact kk H1 locs1)
theorem g_callVv {k o index fr2 lo2 nL2 n : Nat} {mem2 : gM} {y : MethodName} {cc2 : ByteArray} {ret2 : Option FieldType} {As st0 : List Value} (C : gC X own cc ret nL p s m args meth c) (hz : ls.size = nL) (hR : gRep X mem H) (hS : va_S (gA X) s.heap H locs) (hrc : gRc k o y.cls) (md : gMd y cc2 nL2 ret2 n) (hlink : Cond.methodLink own index y ∈ wA) (hM : gF l y cc2 nL2 ret2 fr2 lo2 X (.ref (gAd X k o) :: As) mem none mem2) (hn : As.length = n) (hst : st0 = As.reverse ++ .ref (gAd X k o) :: rest) (hroom : fr2 + 1 ≤ R.frames ∧ 8 + (nL2 + 11) + lo2 ≤ R.locals) (hf : cells ≤ R.cells ∧ slots ≤ R.slots) (hw : (rest.map fun v => v.category).sum ≤ 8) (hdg : decode cc pc = .ok (.invokevirtual index, 3)) (kk : ∀ (H1 : Heap) (locs1 : List Loc), gRep X mem2 H1 → va_S (gA X) s.heap H1 locs1 → W p l e R s m args below meth c H1 locs1 cells slots Q (F0 m (pc + 3) ls rest)) : W p l e R s m args below meth c H locs cells slots Q (F0 m pc ls st0) := g_callV C hz hR hS hrc md hlink hM hn hst hroom hf hw hdg (fun v mem' H1 locs1 hp => by
  obtain ⟨rfl, rfl⟩ := hp
  exact kk H1 locs1)
theorem g_callSi {index fr2 lo2 nL2 n : Nat} {x : Int32} {mem2 : gM} {y : MethodName} {cc2 : ByteArray} {ret2 : Option FieldType} {As st0 : List Value} (C : gC X own cc ret nL p s m args meth c) (hz : ls.size = nL) (hR : gRep X mem H) (hS : va_S (gA X) s.heap H locs) (md : gMs y cc2 nL2 ret2 n) (hlink : Cond.methodLink own index y ∈ wA) (hM : gF l y cc2 nL2 ret2 fr2 lo2 X As mem (some (.int x)) mem2) (hn : As.length = n) (hst : st0 = As.reverse ++ rest) (hroom : fr2 + 1 ≤ R.frames ∧ 8 + (nL2 + 11) + lo2 ≤ R.locals) (hf : cells ≤ R.cells ∧ slots ≤ R.slots) (hw : (rest.map fun v => v.category).sum ≤ 8) (hdg : decode cc pc = .ok (.invokestatic index, 3)) (kk : ∀ (H1 : Heap) (locs1 : List Loc), gRep X mem2 H1 → va_S (gA X) s.heap H1 locs1 → W p l e R s m args below meth c H1 locs1 cells slots Q (F0 m (pc + 3) ls (.int x :: rest))) : W p l e R s m args below meth c H locs cells slots Q (F0 m pc ls st0) := g_callS C hz hR hS md hlink hM hn hst hroom hf hw hdg (fun v mem' H1 locs1 hp => by
  obtain ⟨rfl, rfl⟩ := hp
  exact kk H1 locs1)
theorem g_callSr {index fr2 lo2 nL2 n a : Nat} {mem2 : gM} {y : MethodName} {cc2 : ByteArray} {ret2 : Option FieldType} {As st0 : List Value} (C : gC X own cc ret nL p s m args meth c) (hz : ls.size = nL) (hR : gRep X mem H) (hS : va_S (gA X) s.heap H locs) (md : gMs y cc2 nL2 ret2 n) (hlink : Cond.methodLink own index y ∈ wA) (hM : gF l y cc2 nL2 ret2 fr2 lo2 X As mem (some (.ref a)) mem2) (hn : As.length = n) (hst : st0 = As.reverse ++ rest) (hroom : fr2 + 1 ≤ R.frames ∧ 8 + (nL2 + 11) + lo2 ≤ R.locals) (hf : cells ≤ R.cells ∧ slots ≤ R.slots) (hw : (rest.map fun v => v.category).sum ≤ 8) (hdg : decode cc pc = .ok (.invokestatic index, 3)) (kk : ∀ (H1 : Heap) (locs1 : List Loc), gRep X mem2 H1 → va_S (gA X) s.heap H1 locs1 → W p l e R s m args below meth c H1 locs1 cells slots Q (F0 m (pc + 3) ls (.ref a :: rest))) : W p l e R s m args below meth c H locs cells slots Q (F0 m pc ls st0) := g_callS C hz hR hS md hlink hM hn hst hroom hf hw hdg (fun v mem' H1 locs1 hp => by
  obtain ⟨rfl, rfl⟩ := hp
  exact kk H1 locs1)
theorem g_callSv {index fr2 lo2 nL2 n : Nat} {mem2 : gM} {y : MethodName} {cc2 : ByteArray} {ret2 : Option FieldType} {As st0 : List Value} (C : gC X own cc ret nL p s m args meth c) (hz : ls.size = nL) (hR : gRep X mem H) (hS : va_S (gA X) s.heap H locs) (md : gMs y cc2 nL2 ret2 n) (hlink : Cond.methodLink own index y ∈ wA) (hM : gF l y cc2 nL2 ret2 fr2 lo2 X As mem none mem2) (hn : As.length = n) (hst : st0 = As.reverse ++ rest) (hroom : fr2 + 1 ≤ R.frames ∧ 8 + (nL2 + 11) + lo2 ≤ R.locals) (hf : cells ≤ R.cells ∧ slots ≤ R.slots) (hw : (rest.map fun v => v.category).sum ≤ 8) (hdg : decode cc pc = .ok (.invokestatic index, 3)) (kk : ∀ (H1 : Heap) (locs1 : List Loc), gRep X mem2 H1 → va_S (gA X) s.heap H1 locs1 → W p l e R s m args below meth c H1 locs1 cells slots Q (F0 m (pc + 3) ls rest)) : W p l e R s m args below meth c H locs cells slots Q (F0 m pc ls st0) := g_callS C hz hR hS md hlink hM hn hst hroom hf hw hdg (fun v mem' H1 locs1 hp => by
  obtain ⟨rfl, rfl⟩ := hp
  exact kk H1 locs1)
end GC
end
section
/-! ===== rows, a field each ===== -/
section GD
variable {p : Program} {l : Launch} {e : Env} {R : Room} {s : State} {m : MethodId} {args : Array Value} {below : List Frame} {meth : Method} {c : Code} {H : Heap} {locs : List Loc} {cells slots : Nat} {Q : State → Prop}
variable {cc : ByteArray} {pc : Nat} {ls : Array Slot} {rest : List Value} {X : gX} {own : String} {ret : Option FieldType} {nL : Nat} {mem : gM}
def gRow (k o a n : Nat) : Prop := (k, o) ∈ gIds ∧ (k, a) ∈ gIds ∧ n < 2 ^ 31 ∧ (∀ (X : gX) (g : Nat → Nat), gE X k o g = gRw X k a) ∧ ∀ (X : gX) (g : Nat → Nat), gE X k a g = gAr X n g
theorem gRow_2 {k : Nat} (hk : k < 7) : gRow k 2 3 100 := ⟨gI_m hk (by decide), gI_m hk (by decide), by decide, fun X g => gE_m hk 2 g, fun X g => gE_m hk 3 g⟩
theorem gRow_4 {k : Nat} (hk : k < 7) : gRow k 4 5 8 := ⟨gI_m hk (by decide), gI_m hk (by decide), by decide, fun X g => gE_m hk 4 g, fun X g => gE_m hk 5 g⟩
theorem gRow_6 {k : Nat} (hk : k < 7) : gRow k 6 7 4 := ⟨gI_m hk (by decide), gI_m hk (by decide), by decide, fun X g => gE_m hk 6 g, fun X g => gE_m hk 7 g⟩
theorem gRow_8 {k : Nat} (hk : k < 7) : gRow k 8 9 8 := ⟨gI_m hk (by decide), gI_m hk (by decide), by decide, fun X g => gE_m hk 8 g, fun X g => gE_m hk 9 g⟩
theorem gRow_10 {k : Nat} (hk : k < 7) : gRow k 10 11 8 := ⟨gI_m hk (by decide), gI_m hk (by decide), by decide, fun X g => gE_m hk 10 g, fun X g => gE_m hk 11 g⟩
theorem gRow_13 {k : Nat} (hk : k < 7) : gRow k 13 14 24 := ⟨gI_m hk (by decide), gI_m hk (by decide), by decide, fun X g => gE_m hk 13 g, fun X g => gE_m hk 14 g⟩
theorem gRow_16 {k : Nat} (hk : k < 7) : gRow k 16 17 36 := ⟨gI_m hk (by decide), gI_m hk (by decide), by decide, fun X g => gE_m hk 16 g, fun X g => gE_m hk 17 g⟩
theorem gRow_c : gRow 7 6 7 16 := ⟨gI_f (by decide), gI_f (by decide), by decide, fun X g => rfl, fun X g => rfl⟩
theorem rc_X5 {k o a n : Nat} (h : gRow k o a n) : gRc k o RX5 := ⟨h.1, fun X g => ⟨5, TX5, 1, _, h.2.2.2.1 X g, rfl⟩⟩
theorem rc_X4 {k : Nat} (hk : k < 7) : gRc k 0 RX4 := ⟨gI_m hk (by decide), fun X g => ⟨4, TX4, 8, _, gE_m hk 0 g, rfl⟩⟩
theorem rc_X0 {k : Nat} (hk : k < 7) : gRc k 1 RX0 := ⟨gI_m hk (by decide), fun X g => ⟨0, TX0, 5, _, gE_m hk 1 g, rfl⟩⟩
theorem rc_X2 {k : Nat} (hk : k < 7) : gRc k 12 RX2 := ⟨gI_m hk (by decide), fun X g => ⟨2, TX2, 2, _, gE_m hk 12 g, rfl⟩⟩
theorem rc_X7 {k : Nat} (hk : k < 7) : gRc k 15 RX7 := ⟨gI_m hk (by decide), fun X g => ⟨7, TX7, 2, _, gE_m hk 15 g, rfl⟩⟩
theorem rc_X8 : gRc 7 0 RX8 := ⟨gI_f (by decide), fun X g => ⟨8, TX8, 7, _, rfl, rfl⟩⟩
theorem rc_X3 : gRc 7 1 RX3 := ⟨gI_f (by decide), fun X g => ⟨3, TX3, 2, _, rfl, rfl⟩⟩
theorem rc_X6 : gRc 7 3 RX6 := ⟨gI_f (by decide), fun X g => ⟨6, TX6, 2, _, rfl, rfl⟩⟩
theorem rc_X1 : gRc 7 5 RX1 := ⟨gI_f (by decide), fun X g => ⟨1, TX1, 4, _, rfl, rfl⟩⟩
theorem rc_X9 : gRc 8 0 RX9 := ⟨gI_r (by decide), fun X g => ⟨9, TX9, 12, _, rfl, rfl⟩⟩
theorem gt_X5 {k o a n index : Nat} (C : gC X own cc ret nL p s m args meth c) (hw : gRow k o a n) (hR : gRep X mem H) (hlink : Cond.fieldLink own index "FarBanks$Row" "numbers" "[I" ∈ wA) (hdg : decode cc pc = .ok (.getfield index, 3)) (kk : W p l e R s m args below meth c H locs cells slots Q (F0 m (pc + 3) ls (.ref (gAd X k a) :: rest))) : W p l e R s m args below meth c H locs cells slots Q (F0 m pc ls (.ref (gAd X k o) :: rest)) := g_get (ci := 5) (fs := [.ref (gAd X k a)]) C hR hw.1 (hw.2.2.2.1 X _) rfl ilX5 0 (by decide) hlink rfl rfl hdg kk
theorem gn_X5 {k o a n index : Nat} {host : String} (C : gC X own cc ret nL p s m args meth c) (hw : gRow k o a n) (hR : gRep X mem H) (hlink : (own, index, "FarBanks$Row", "numbers", "[I", host) ∈ gNf) (hdg : decode cc pc = .ok (.getfield index, 3)) (kk : W p l e R s m args below meth c H locs cells slots Q (F0 m (pc + 3) ls (.ref (gAd X k a) :: rest))) : W p l e R s m args below meth c H locs cells slots Q (F0 m pc ls (.ref (gAd X k o) :: rest)) := g_getN (ci := 5) (fs := [.ref (gAd X k a)]) C hR hw.1 (hw.2.2.2.1 X _) rfl ilX5 0 (by decide) hlink rfl rfl hdg kk
theorem gt_X4_0 {k index : Nat} (C : gC X own cc ret nL p s m args meth c) (hk : k < 7) (hR : gRep X mem H) (hlink : Cond.fieldLink own index "FarBanks$Machine" "banks" "LFarBanks$Banks;" ∈ wA) (hdg : decode cc pc = .ok (.getfield index, 3)) (kk : W p l e R s m args below meth c H locs cells slots Q (F0 m (pc + 3) ls (.ref (gAd X k 1) :: rest))) : W p l e R s m args below meth c H locs cells slots Q (F0 m pc ls (.ref (gAd X k 0) :: rest)) := g_get C hR (gI_m hk (by decide)) (gE_m hk 0 _) rfl ilX4 0 (by decide) hlink rfl rfl hdg kk
theorem gn_X4_0 {k index : Nat} {host : String} (C : gC X own cc ret nL p s m args meth c) (hk : k < 7) (hR : gRep X mem H) (hlink : (own, index, "FarBanks$Machine", "banks", "LFarBanks$Banks;", host) ∈ gNf) (hdg : decode cc pc = .ok (.getfield index, 3)) (kk : W p l e R s m args below meth c H locs cells slots Q (F0 m (pc + 3) ls (.ref (gAd X k 1) :: rest))) : W p l e R s m args below meth c H locs cells slots Q (F0 m pc ls (.ref (gAd X k 0) :: rest)) := g_getN C hR (gI_m hk (by decide)) (gE_m hk 0 _) rfl ilX4 0 (by decide) hlink rfl rfl hdg kk
theorem gt_X4_1 {k index : Nat} (C : gC X own cc ret nL p s m args meth c) (hk : k < 7) (hR : gRep X mem H) (hlink : Cond.fieldLink own index "FarBanks$Machine" "frames" "LFarBanks$Frames;" ∈ wA) (hdg : decode cc pc = .ok (.getfield index, 3)) (kk : W p l e R s m args below meth c H locs cells slots Q (F0 m (pc + 3) ls (.ref (gAd X k 12) :: rest))) : W p l e R s m args below meth c H locs cells slots Q (F0 m pc ls (.ref (gAd X k 0) :: rest)) := g_get C hR (gI_m hk (by decide)) (gE_m hk 0 _) rfl ilX4 1 (by decide) hlink rfl rfl hdg kk
theorem gn_X4_1 {k index : Nat} {host : String} (C : gC X own cc ret nL p s m args meth c) (hk : k < 7) (hR : gRep X mem H) (hlink : (own, index, "FarBanks$Machine", "frames", "LFarBanks$Frames;", host) ∈ gNf) (hdg : decode cc pc = .ok (.getfield index, 3)) (kk : W p l e R s m args below meth c H locs cells slots Q (F0 m (pc + 3) ls (.ref (gAd X k 12) :: rest))) : W p l e R s m args below meth c H locs cells slots Q (F0 m pc ls (.ref (gAd X k 0) :: rest)) := g_getN C hR (gI_m hk (by decide)) (gE_m hk 0 _) rfl ilX4 1 (by decide) hlink rfl rfl hdg kk
theorem gt_X4_2 {k index : Nat} (C : gC X own cc ret nL p s m args meth c) (hk : k < 7) (hR : gRep X mem H) (hlink : Cond.fieldLink own index "FarBanks$Machine" "trail" "LFarBanks$Trail;" ∈ wA) (hdg : decode cc pc = .ok (.getfield index, 3)) (kk : W p l e R s m args below meth c H locs cells slots Q (F0 m (pc + 3) ls (.ref (gAd X k 15) :: rest))) : W p l e R s m args below meth c H locs cells slots Q (F0 m pc ls (.ref (gAd X k 0) :: rest)) := g_get C hR (gI_m hk (by decide)) (gE_m hk 0 _) rfl ilX4 2 (by decide) hlink rfl rfl hdg kk
theorem gn_X4_2 {k index : Nat} {host : String} (C : gC X own cc ret nL p s m args meth c) (hk : k < 7) (hR : gRep X mem H) (hlink : (own, index, "FarBanks$Machine", "trail", "LFarBanks$Trail;", host) ∈ gNf) (hdg : decode cc pc = .ok (.getfield index, 3)) (kk : W p l e R s m args below meth c H locs cells slots Q (F0 m (pc + 3) ls (.ref (gAd X k 15) :: rest))) : W p l e R s m args below meth c H locs cells slots Q (F0 m pc ls (.ref (gAd X k 0) :: rest)) := g_getN C hR (gI_m hk (by decide)) (gE_m hk 0 _) rfl ilX4 2 (by decide) hlink rfl rfl hdg kk
theorem gt_X4_3 {k index : Nat} (C : gC X own cc ret nL p s m args meth c) (hk : k < 7) (hR : gRep X mem H) (hlink : Cond.fieldLink own index "FarBanks$Machine" "number" "I" ∈ wA) (hdg : decode cc pc = .ok (.getfield index, 3)) (kk : W p l e R s m args below meth c H locs cells slots Q (F0 m (pc + 3) ls (.int (nI (mem k 0 3)) :: rest))) : W p l e R s m args below meth c H locs cells slots Q (F0 m pc ls (.ref (gAd X k 0) :: rest)) := g_get C hR (gI_m hk (by decide)) (gE_m hk 0 _) rfl ilX4 3 (by decide) hlink rfl rfl hdg kk
theorem pt_X4_3 {k index x : Nat} (C : gC X own cc ret nL p s m args meth c) (hk : k < 7) (hR : gRep X mem H) (hS : va_S (gA X) s.heap H locs) (hlink : Cond.fieldLink own index "FarBanks$Machine" "number" "I" ∈ wA) (hdg : decode cc pc = .ok (.putfield index, 3)) (kk : ∀ (H1 : Heap) (locs1 : List Loc), gRep X (gP mem k 0 (fU (mem k 0) 3 x)) H1 → va_S (gA X) s.heap H1 locs1 → W p l e R s m args below meth c H1 locs1 cells slots Q (F0 m (pc + 3) ls rest)) : W p l e R s m args below meth c H locs cells slots Q (F0 m pc ls (.int (nI x) :: .ref (gAd X k 0) :: rest)) := g_put C hR hS (gI_m hk (by decide)) (gE_m hk 0 _) rfl ilX4 tyX4_ok nmX4 3 (by decide) hlink rfl rfl (tyX4_ok 3 (by decide)) rfl rfl (Nat.le_of_ble_eq_true rfl) _ (by rw [gE_m hk]; rfl) hdg kk
theorem gn_X4_3 {k index : Nat} {host : String} (C : gC X own cc ret nL p s m args meth c) (hk : k < 7) (hR : gRep X mem H) (hlink : (own, index, "FarBanks$Machine", "number", "I", host) ∈ gNf) (hdg : decode cc pc = .ok (.getfield index, 3)) (kk : W p l e R s m args below meth c H locs cells slots Q (F0 m (pc + 3) ls (.int (nI (mem k 0 3)) :: rest))) : W p l e R s m args below meth c H locs cells slots Q (F0 m pc ls (.ref (gAd X k 0) :: rest)) := g_getN C hR (gI_m hk (by decide)) (gE_m hk 0 _) rfl ilX4 3 (by decide) hlink rfl rfl hdg kk
theorem pn_X4_3 {k index x : Nat} {host : String} (C : gC X own cc ret nL p s m args meth c) (hk : k < 7) (hR : gRep X mem H) (hS : va_S (gA X) s.heap H locs) (hlink : (own, index, "FarBanks$Machine", "number", "I", host) ∈ gNf) (hdg : decode cc pc = .ok (.putfield index, 3)) (kk : ∀ (H1 : Heap) (locs1 : List Loc), gRep X (gP mem k 0 (fU (mem k 0) 3 x)) H1 → va_S (gA X) s.heap H1 locs1 → W p l e R s m args below meth c H1 locs1 cells slots Q (F0 m (pc + 3) ls rest)) : W p l e R s m args below meth c H locs cells slots Q (F0 m pc ls (.int (nI x) :: .ref (gAd X k 0) :: rest)) := g_putN C hR hS (gI_m hk (by decide)) (gE_m hk 0 _) rfl ilX4 tyX4_ok nmX4 3 (by decide) hlink rfl rfl (tyX4_ok 3 (by decide)) rfl rfl (Nat.le_of_ble_eq_true rfl) _ (by rw [gE_m hk]; rfl) hdg kk
theorem gt_X4_4 {k index : Nat} (C : gC X own cc ret nL p s m args meth c) (hk : k < 7) (hR : gRep X mem H) (hlink : Cond.fieldLink own index "FarBanks$Machine" "place" "I" ∈ wA) (hdg : decode cc pc = .ok (.getfield index, 3)) (kk : W p l e R s m args below meth c H locs cells slots Q (F0 m (pc + 3) ls (.int (nI (mem k 0 4)) :: rest))) : W p l e R s m args below meth c H locs cells slots Q (F0 m pc ls (.ref (gAd X k 0) :: rest)) := g_get C hR (gI_m hk (by decide)) (gE_m hk 0 _) rfl ilX4 4 (by decide) hlink rfl rfl hdg kk
theorem pt_X4_4 {k index x : Nat} (C : gC X own cc ret nL p s m args meth c) (hk : k < 7) (hR : gRep X mem H) (hS : va_S (gA X) s.heap H locs) (hlink : Cond.fieldLink own index "FarBanks$Machine" "place" "I" ∈ wA) (hdg : decode cc pc = .ok (.putfield index, 3)) (kk : ∀ (H1 : Heap) (locs1 : List Loc), gRep X (gP mem k 0 (fU (mem k 0) 4 x)) H1 → va_S (gA X) s.heap H1 locs1 → W p l e R s m args below meth c H1 locs1 cells slots Q (F0 m (pc + 3) ls rest)) : W p l e R s m args below meth c H locs cells slots Q (F0 m pc ls (.int (nI x) :: .ref (gAd X k 0) :: rest)) := g_put C hR hS (gI_m hk (by decide)) (gE_m hk 0 _) rfl ilX4 tyX4_ok nmX4 4 (by decide) hlink rfl rfl (tyX4_ok 4 (by decide)) rfl rfl (Nat.le_of_ble_eq_true rfl) _ (by rw [gE_m hk]; rfl) hdg kk
theorem gn_X4_4 {k index : Nat} {host : String} (C : gC X own cc ret nL p s m args meth c) (hk : k < 7) (hR : gRep X mem H) (hlink : (own, index, "FarBanks$Machine", "place", "I", host) ∈ gNf) (hdg : decode cc pc = .ok (.getfield index, 3)) (kk : W p l e R s m args below meth c H locs cells slots Q (F0 m (pc + 3) ls (.int (nI (mem k 0 4)) :: rest))) : W p l e R s m args below meth c H locs cells slots Q (F0 m pc ls (.ref (gAd X k 0) :: rest)) := g_getN C hR (gI_m hk (by decide)) (gE_m hk 0 _) rfl ilX4 4 (by decide) hlink rfl rfl hdg kk
theorem pn_X4_4 {k index x : Nat} {host : String} (C : gC X own cc ret nL p s m args meth c) (hk : k < 7) (hR : gRep X mem H) (hS : va_S (gA X) s.heap H locs) (hlink : (own, index, "FarBanks$Machine", "place", "I", host) ∈ gNf) (hdg : decode cc pc = .ok (.putfield index, 3)) (kk : ∀ (H1 : Heap) (locs1 : List Loc), gRep X (gP mem k 0 (fU (mem k 0) 4 x)) H1 → va_S (gA X) s.heap H1 locs1 → W p l e R s m args below meth c H1 locs1 cells slots Q (F0 m (pc + 3) ls rest)) : W p l e R s m args below meth c H locs cells slots Q (F0 m pc ls (.int (nI x) :: .ref (gAd X k 0) :: rest)) := g_putN C hR hS (gI_m hk (by decide)) (gE_m hk 0 _) rfl ilX4 tyX4_ok nmX4 4 (by decide) hlink rfl rfl (tyX4_ok 4 (by decide)) rfl rfl (Nat.le_of_ble_eq_true rfl) _ (by rw [gE_m hk]; rfl) hdg kk
theorem gt_X4_5 {k index : Nat} (C : gC X own cc ret nL p s m args meth c) (hk : k < 7) (hR : gRep X mem H) (hlink : Cond.fieldLink own index "FarBanks$Machine" "reason" "I" ∈ wA) (hdg : decode cc pc = .ok (.getfield index, 3)) (kk : W p l e R s m args below meth c H locs cells slots Q (F0 m (pc + 3) ls (.int (nI (mem k 0 5)) :: rest))) : W p l e R s m args below meth c H locs cells slots Q (F0 m pc ls (.ref (gAd X k 0) :: rest)) := g_get C hR (gI_m hk (by decide)) (gE_m hk 0 _) rfl ilX4 5 (by decide) hlink rfl rfl hdg kk
theorem pt_X4_5 {k index x : Nat} (C : gC X own cc ret nL p s m args meth c) (hk : k < 7) (hR : gRep X mem H) (hS : va_S (gA X) s.heap H locs) (hlink : Cond.fieldLink own index "FarBanks$Machine" "reason" "I" ∈ wA) (hdg : decode cc pc = .ok (.putfield index, 3)) (kk : ∀ (H1 : Heap) (locs1 : List Loc), gRep X (gP mem k 0 (fU (mem k 0) 5 x)) H1 → va_S (gA X) s.heap H1 locs1 → W p l e R s m args below meth c H1 locs1 cells slots Q (F0 m (pc + 3) ls rest)) : W p l e R s m args below meth c H locs cells slots Q (F0 m pc ls (.int (nI x) :: .ref (gAd X k 0) :: rest)) := g_put C hR hS (gI_m hk (by decide)) (gE_m hk 0 _) rfl ilX4 tyX4_ok nmX4 5 (by decide) hlink rfl rfl (tyX4_ok 5 (by decide)) rfl rfl (Nat.le_of_ble_eq_true rfl) _ (by rw [gE_m hk]; rfl) hdg kk
theorem gn_X4_5 {k index : Nat} {host : String} (C : gC X own cc ret nL p s m args meth c) (hk : k < 7) (hR : gRep X mem H) (hlink : (own, index, "FarBanks$Machine", "reason", "I", host) ∈ gNf) (hdg : decode cc pc = .ok (.getfield index, 3)) (kk : W p l e R s m args below meth c H locs cells slots Q (F0 m (pc + 3) ls (.int (nI (mem k 0 5)) :: rest))) : W p l e R s m args below meth c H locs cells slots Q (F0 m pc ls (.ref (gAd X k 0) :: rest)) := g_getN C hR (gI_m hk (by decide)) (gE_m hk 0 _) rfl ilX4 5 (by decide) hlink rfl rfl hdg kk
theorem pn_X4_5 {k index x : Nat} {host : String} (C : gC X own cc ret nL p s m args meth c) (hk : k < 7) (hR : gRep X mem H) (hS : va_S (gA X) s.heap H locs) (hlink : (own, index, "FarBanks$Machine", "reason", "I", host) ∈ gNf) (hdg : decode cc pc = .ok (.putfield index, 3)) (kk : ∀ (H1 : Heap) (locs1 : List Loc), gRep X (gP mem k 0 (fU (mem k 0) 5 x)) H1 → va_S (gA X) s.heap H1 locs1 → W p l e R s m args below meth c H1 locs1 cells slots Q (F0 m (pc + 3) ls rest)) : W p l e R s m args below meth c H locs cells slots Q (F0 m pc ls (.int (nI x) :: .ref (gAd X k 0) :: rest)) := g_putN C hR hS (gI_m hk (by decide)) (gE_m hk 0 _) rfl ilX4 tyX4_ok nmX4 5 (by decide) hlink rfl rfl (tyX4_ok 5 (by decide)) rfl rfl (Nat.le_of_ble_eq_true rfl) _ (by rw [gE_m hk]; rfl) hdg kk
theorem gt_X4_6 {k index : Nat} (C : gC X own cc ret nL p s m args meth c) (hk : k < 7) (hR : gRep X mem H) (hlink : Cond.fieldLink own index "FarBanks$Machine" "strict" "I" ∈ wA) (hdg : decode cc pc = .ok (.getfield index, 3)) (kk : W p l e R s m args below meth c H locs cells slots Q (F0 m (pc + 3) ls (.int (nI (mem k 0 6)) :: rest))) : W p l e R s m args below meth c H locs cells slots Q (F0 m pc ls (.ref (gAd X k 0) :: rest)) := g_get C hR (gI_m hk (by decide)) (gE_m hk 0 _) rfl ilX4 6 (by decide) hlink rfl rfl hdg kk
theorem pt_X4_6 {k index x : Nat} (C : gC X own cc ret nL p s m args meth c) (hk : k < 7) (hR : gRep X mem H) (hS : va_S (gA X) s.heap H locs) (hlink : Cond.fieldLink own index "FarBanks$Machine" "strict" "I" ∈ wA) (hdg : decode cc pc = .ok (.putfield index, 3)) (kk : ∀ (H1 : Heap) (locs1 : List Loc), gRep X (gP mem k 0 (fU (mem k 0) 6 x)) H1 → va_S (gA X) s.heap H1 locs1 → W p l e R s m args below meth c H1 locs1 cells slots Q (F0 m (pc + 3) ls rest)) : W p l e R s m args below meth c H locs cells slots Q (F0 m pc ls (.int (nI x) :: .ref (gAd X k 0) :: rest)) := g_put C hR hS (gI_m hk (by decide)) (gE_m hk 0 _) rfl ilX4 tyX4_ok nmX4 6 (by decide) hlink rfl rfl (tyX4_ok 6 (by decide)) rfl rfl (Nat.le_of_ble_eq_true rfl) _ (by rw [gE_m hk]; rfl) hdg kk
theorem gn_X4_6 {k index : Nat} {host : String} (C : gC X own cc ret nL p s m args meth c) (hk : k < 7) (hR : gRep X mem H) (hlink : (own, index, "FarBanks$Machine", "strict", "I", host) ∈ gNf) (hdg : decode cc pc = .ok (.getfield index, 3)) (kk : W p l e R s m args below meth c H locs cells slots Q (F0 m (pc + 3) ls (.int (nI (mem k 0 6)) :: rest))) : W p l e R s m args below meth c H locs cells slots Q (F0 m pc ls (.ref (gAd X k 0) :: rest)) := g_getN C hR (gI_m hk (by decide)) (gE_m hk 0 _) rfl ilX4 6 (by decide) hlink rfl rfl hdg kk
theorem pn_X4_6 {k index x : Nat} {host : String} (C : gC X own cc ret nL p s m args meth c) (hk : k < 7) (hR : gRep X mem H) (hS : va_S (gA X) s.heap H locs) (hlink : (own, index, "FarBanks$Machine", "strict", "I", host) ∈ gNf) (hdg : decode cc pc = .ok (.putfield index, 3)) (kk : ∀ (H1 : Heap) (locs1 : List Loc), gRep X (gP mem k 0 (fU (mem k 0) 6 x)) H1 → va_S (gA X) s.heap H1 locs1 → W p l e R s m args below meth c H1 locs1 cells slots Q (F0 m (pc + 3) ls rest)) : W p l e R s m args below meth c H locs cells slots Q (F0 m pc ls (.int (nI x) :: .ref (gAd X k 0) :: rest)) := g_putN C hR hS (gI_m hk (by decide)) (gE_m hk 0 _) rfl ilX4 tyX4_ok nmX4 6 (by decide) hlink rfl rfl (tyX4_ok 6 (by decide)) rfl rfl (Nat.le_of_ble_eq_true rfl) _ (by rw [gE_m hk]; rfl) hdg kk
theorem gt_X4_7 {k index : Nat} (C : gC X own cc ret nL p s m args meth c) (hk : k < 7) (hR : gRep X mem H) (hlink : Cond.fieldLink own index "FarBanks$Machine" "calls" "I" ∈ wA) (hdg : decode cc pc = .ok (.getfield index, 3)) (kk : W p l e R s m args below meth c H locs cells slots Q (F0 m (pc + 3) ls (.int (nI (mem k 0 7)) :: rest))) : W p l e R s m args below meth c H locs cells slots Q (F0 m pc ls (.ref (gAd X k 0) :: rest)) := g_get C hR (gI_m hk (by decide)) (gE_m hk 0 _) rfl ilX4 7 (by decide) hlink rfl rfl hdg kk
theorem pt_X4_7 {k index x : Nat} (C : gC X own cc ret nL p s m args meth c) (hk : k < 7) (hR : gRep X mem H) (hS : va_S (gA X) s.heap H locs) (hlink : Cond.fieldLink own index "FarBanks$Machine" "calls" "I" ∈ wA) (hdg : decode cc pc = .ok (.putfield index, 3)) (kk : ∀ (H1 : Heap) (locs1 : List Loc), gRep X (gP mem k 0 (fU (mem k 0) 7 x)) H1 → va_S (gA X) s.heap H1 locs1 → W p l e R s m args below meth c H1 locs1 cells slots Q (F0 m (pc + 3) ls rest)) : W p l e R s m args below meth c H locs cells slots Q (F0 m pc ls (.int (nI x) :: .ref (gAd X k 0) :: rest)) := g_put C hR hS (gI_m hk (by decide)) (gE_m hk 0 _) rfl ilX4 tyX4_ok nmX4 7 (by decide) hlink rfl rfl (tyX4_ok 7 (by decide)) rfl rfl (Nat.le_of_ble_eq_true rfl) _ (by rw [gE_m hk]; rfl) hdg kk
theorem gn_X4_7 {k index : Nat} {host : String} (C : gC X own cc ret nL p s m args meth c) (hk : k < 7) (hR : gRep X mem H) (hlink : (own, index, "FarBanks$Machine", "calls", "I", host) ∈ gNf) (hdg : decode cc pc = .ok (.getfield index, 3)) (kk : W p l e R s m args below meth c H locs cells slots Q (F0 m (pc + 3) ls (.int (nI (mem k 0 7)) :: rest))) : W p l e R s m args below meth c H locs cells slots Q (F0 m pc ls (.ref (gAd X k 0) :: rest)) := g_getN C hR (gI_m hk (by decide)) (gE_m hk 0 _) rfl ilX4 7 (by decide) hlink rfl rfl hdg kk
theorem pn_X4_7 {k index x : Nat} {host : String} (C : gC X own cc ret nL p s m args meth c) (hk : k < 7) (hR : gRep X mem H) (hS : va_S (gA X) s.heap H locs) (hlink : (own, index, "FarBanks$Machine", "calls", "I", host) ∈ gNf) (hdg : decode cc pc = .ok (.putfield index, 3)) (kk : ∀ (H1 : Heap) (locs1 : List Loc), gRep X (gP mem k 0 (fU (mem k 0) 7 x)) H1 → va_S (gA X) s.heap H1 locs1 → W p l e R s m args below meth c H1 locs1 cells slots Q (F0 m (pc + 3) ls rest)) : W p l e R s m args below meth c H locs cells slots Q (F0 m pc ls (.int (nI x) :: .ref (gAd X k 0) :: rest)) := g_putN C hR hS (gI_m hk (by decide)) (gE_m hk 0 _) rfl ilX4 tyX4_ok nmX4 7 (by decide) hlink rfl rfl (tyX4_ok 7 (by decide)) rfl rfl (Nat.le_of_ble_eq_true rfl) _ (by rw [gE_m hk]; rfl) hdg kk
theorem gt_X0_0 {k index : Nat} (C : gC X own cc ret nL p s m args meth c) (hk : k < 7) (hR : gRep X mem H) (hlink : Cond.fieldLink own index "FarBanks$Banks" "cells" "LFarBanks$Row;" ∈ wA) (hdg : decode cc pc = .ok (.getfield index, 3)) (kk : W p l e R s m args below meth c H locs cells slots Q (F0 m (pc + 3) ls (.ref (gAd X k 2) :: rest))) : W p l e R s m args below meth c H locs cells slots Q (F0 m pc ls (.ref (gAd X k 1) :: rest)) := g_get C hR (gI_m hk (by decide)) (gE_m hk 1 _) rfl ilX0 0 (by decide) hlink rfl rfl hdg kk
theorem gn_X0_0 {k index : Nat} {host : String} (C : gC X own cc ret nL p s m args meth c) (hk : k < 7) (hR : gRep X mem H) (hlink : (own, index, "FarBanks$Banks", "cells", "LFarBanks$Row;", host) ∈ gNf) (hdg : decode cc pc = .ok (.getfield index, 3)) (kk : W p l e R s m args below meth c H locs cells slots Q (F0 m (pc + 3) ls (.ref (gAd X k 2) :: rest))) : W p l e R s m args below meth c H locs cells slots Q (F0 m pc ls (.ref (gAd X k 1) :: rest)) := g_getN C hR (gI_m hk (by decide)) (gE_m hk 1 _) rfl ilX0 0 (by decide) hlink rfl rfl hdg kk
theorem gt_X0_1 {k index : Nat} (C : gC X own cc ret nL p s m args meth c) (hk : k < 7) (hR : gRep X mem H) (hlink : Cond.fieldLink own index "FarBanks$Banks" "alone" "LFarBanks$Row;" ∈ wA) (hdg : decode cc pc = .ok (.getfield index, 3)) (kk : W p l e R s m args below meth c H locs cells slots Q (F0 m (pc + 3) ls (.ref (gAd X k 4) :: rest))) : W p l e R s m args below meth c H locs cells slots Q (F0 m pc ls (.ref (gAd X k 1) :: rest)) := g_get C hR (gI_m hk (by decide)) (gE_m hk 1 _) rfl ilX0 1 (by decide) hlink rfl rfl hdg kk
theorem gn_X0_1 {k index : Nat} {host : String} (C : gC X own cc ret nL p s m args meth c) (hk : k < 7) (hR : gRep X mem H) (hlink : (own, index, "FarBanks$Banks", "alone", "LFarBanks$Row;", host) ∈ gNf) (hdg : decode cc pc = .ok (.getfield index, 3)) (kk : W p l e R s m args below meth c H locs cells slots Q (F0 m (pc + 3) ls (.ref (gAd X k 4) :: rest))) : W p l e R s m args below meth c H locs cells slots Q (F0 m pc ls (.ref (gAd X k 1) :: rest)) := g_getN C hR (gI_m hk (by decide)) (gE_m hk 1 _) rfl ilX0 1 (by decide) hlink rfl rfl hdg kk
theorem gt_X0_2 {k index : Nat} (C : gC X own cc ret nL p s m args meth c) (hk : k < 7) (hR : gRep X mem H) (hlink : Cond.fieldLink own index "FarBanks$Banks" "shown" "LFarBanks$Row;" ∈ wA) (hdg : decode cc pc = .ok (.getfield index, 3)) (kk : W p l e R s m args below meth c H locs cells slots Q (F0 m (pc + 3) ls (.ref (gAd X k 6) :: rest))) : W p l e R s m args below meth c H locs cells slots Q (F0 m pc ls (.ref (gAd X k 1) :: rest)) := g_get C hR (gI_m hk (by decide)) (gE_m hk 1 _) rfl ilX0 2 (by decide) hlink rfl rfl hdg kk
theorem gn_X0_2 {k index : Nat} {host : String} (C : gC X own cc ret nL p s m args meth c) (hk : k < 7) (hR : gRep X mem H) (hlink : (own, index, "FarBanks$Banks", "shown", "LFarBanks$Row;", host) ∈ gNf) (hdg : decode cc pc = .ok (.getfield index, 3)) (kk : W p l e R s m args below meth c H locs cells slots Q (F0 m (pc + 3) ls (.ref (gAd X k 6) :: rest))) : W p l e R s m args below meth c H locs cells slots Q (F0 m pc ls (.ref (gAd X k 1) :: rest)) := g_getN C hR (gI_m hk (by decide)) (gE_m hk 1 _) rfl ilX0 2 (by decide) hlink rfl rfl hdg kk
theorem gt_X0_3 {k index : Nat} (C : gC X own cc ret nL p s m args meth c) (hk : k < 7) (hR : gRep X mem H) (hlink : Cond.fieldLink own index "FarBanks$Banks" "written" "LFarBanks$Row;" ∈ wA) (hdg : decode cc pc = .ok (.getfield index, 3)) (kk : W p l e R s m args below meth c H locs cells slots Q (F0 m (pc + 3) ls (.ref (gAd X k 8) :: rest))) : W p l e R s m args below meth c H locs cells slots Q (F0 m pc ls (.ref (gAd X k 1) :: rest)) := g_get C hR (gI_m hk (by decide)) (gE_m hk 1 _) rfl ilX0 3 (by decide) hlink rfl rfl hdg kk
theorem gn_X0_3 {k index : Nat} {host : String} (C : gC X own cc ret nL p s m args meth c) (hk : k < 7) (hR : gRep X mem H) (hlink : (own, index, "FarBanks$Banks", "written", "LFarBanks$Row;", host) ∈ gNf) (hdg : decode cc pc = .ok (.getfield index, 3)) (kk : W p l e R s m args below meth c H locs cells slots Q (F0 m (pc + 3) ls (.ref (gAd X k 8) :: rest))) : W p l e R s m args below meth c H locs cells slots Q (F0 m pc ls (.ref (gAd X k 1) :: rest)) := g_getN C hR (gI_m hk (by decide)) (gE_m hk 1 _) rfl ilX0 3 (by decide) hlink rfl rfl hdg kk
theorem gt_X0_4 {k index : Nat} (C : gC X own cc ret nL p s m args meth c) (hk : k < 7) (hR : gRep X mem H) (hlink : Cond.fieldLink own index "FarBanks$Banks" "refused" "LFarBanks$Row;" ∈ wA) (hdg : decode cc pc = .ok (.getfield index, 3)) (kk : W p l e R s m args below meth c H locs cells slots Q (F0 m (pc + 3) ls (.ref (gAd X k 10) :: rest))) : W p l e R s m args below meth c H locs cells slots Q (F0 m pc ls (.ref (gAd X k 1) :: rest)) := g_get C hR (gI_m hk (by decide)) (gE_m hk 1 _) rfl ilX0 4 (by decide) hlink rfl rfl hdg kk
theorem gn_X0_4 {k index : Nat} {host : String} (C : gC X own cc ret nL p s m args meth c) (hk : k < 7) (hR : gRep X mem H) (hlink : (own, index, "FarBanks$Banks", "refused", "LFarBanks$Row;", host) ∈ gNf) (hdg : decode cc pc = .ok (.getfield index, 3)) (kk : W p l e R s m args below meth c H locs cells slots Q (F0 m (pc + 3) ls (.ref (gAd X k 10) :: rest))) : W p l e R s m args below meth c H locs cells slots Q (F0 m pc ls (.ref (gAd X k 1) :: rest)) := g_getN C hR (gI_m hk (by decide)) (gE_m hk 1 _) rfl ilX0 4 (by decide) hlink rfl rfl hdg kk
theorem gt_X2_0 {k index : Nat} (C : gC X own cc ret nL p s m args meth c) (hk : k < 7) (hR : gRep X mem H) (hlink : Cond.fieldLink own index "FarBanks$Frames" "parts" "LFarBanks$Row;" ∈ wA) (hdg : decode cc pc = .ok (.getfield index, 3)) (kk : W p l e R s m args below meth c H locs cells slots Q (F0 m (pc + 3) ls (.ref (gAd X k 13) :: rest))) : W p l e R s m args below meth c H locs cells slots Q (F0 m pc ls (.ref (gAd X k 12) :: rest)) := g_get C hR (gI_m hk (by decide)) (gE_m hk 12 _) rfl ilX2 0 (by decide) hlink rfl rfl hdg kk
theorem gn_X2_0 {k index : Nat} {host : String} (C : gC X own cc ret nL p s m args meth c) (hk : k < 7) (hR : gRep X mem H) (hlink : (own, index, "FarBanks$Frames", "parts", "LFarBanks$Row;", host) ∈ gNf) (hdg : decode cc pc = .ok (.getfield index, 3)) (kk : W p l e R s m args below meth c H locs cells slots Q (F0 m (pc + 3) ls (.ref (gAd X k 13) :: rest))) : W p l e R s m args below meth c H locs cells slots Q (F0 m pc ls (.ref (gAd X k 12) :: rest)) := g_getN C hR (gI_m hk (by decide)) (gE_m hk 12 _) rfl ilX2 0 (by decide) hlink rfl rfl hdg kk
theorem gt_X2_1 {k index : Nat} (C : gC X own cc ret nL p s m args meth c) (hk : k < 7) (hR : gRep X mem H) (hlink : Cond.fieldLink own index "FarBanks$Frames" "size" "I" ∈ wA) (hdg : decode cc pc = .ok (.getfield index, 3)) (kk : W p l e R s m args below meth c H locs cells slots Q (F0 m (pc + 3) ls (.int (nI (mem k 12 1)) :: rest))) : W p l e R s m args below meth c H locs cells slots Q (F0 m pc ls (.ref (gAd X k 12) :: rest)) := g_get C hR (gI_m hk (by decide)) (gE_m hk 12 _) rfl ilX2 1 (by decide) hlink rfl rfl hdg kk
theorem pt_X2_1 {k index x : Nat} (C : gC X own cc ret nL p s m args meth c) (hk : k < 7) (hR : gRep X mem H) (hS : va_S (gA X) s.heap H locs) (hlink : Cond.fieldLink own index "FarBanks$Frames" "size" "I" ∈ wA) (hdg : decode cc pc = .ok (.putfield index, 3)) (kk : ∀ (H1 : Heap) (locs1 : List Loc), gRep X (gP mem k 12 (fU (mem k 12) 1 x)) H1 → va_S (gA X) s.heap H1 locs1 → W p l e R s m args below meth c H1 locs1 cells slots Q (F0 m (pc + 3) ls rest)) : W p l e R s m args below meth c H locs cells slots Q (F0 m pc ls (.int (nI x) :: .ref (gAd X k 12) :: rest)) := g_put C hR hS (gI_m hk (by decide)) (gE_m hk 12 _) rfl ilX2 tyX2_ok nmX2 1 (by decide) hlink rfl rfl (tyX2_ok 1 (by decide)) rfl rfl (Nat.le_of_ble_eq_true rfl) _ (by rw [gE_m hk]; rfl) hdg kk
theorem gn_X2_1 {k index : Nat} {host : String} (C : gC X own cc ret nL p s m args meth c) (hk : k < 7) (hR : gRep X mem H) (hlink : (own, index, "FarBanks$Frames", "size", "I", host) ∈ gNf) (hdg : decode cc pc = .ok (.getfield index, 3)) (kk : W p l e R s m args below meth c H locs cells slots Q (F0 m (pc + 3) ls (.int (nI (mem k 12 1)) :: rest))) : W p l e R s m args below meth c H locs cells slots Q (F0 m pc ls (.ref (gAd X k 12) :: rest)) := g_getN C hR (gI_m hk (by decide)) (gE_m hk 12 _) rfl ilX2 1 (by decide) hlink rfl rfl hdg kk
theorem pn_X2_1 {k index x : Nat} {host : String} (C : gC X own cc ret nL p s m args meth c) (hk : k < 7) (hR : gRep X mem H) (hS : va_S (gA X) s.heap H locs) (hlink : (own, index, "FarBanks$Frames", "size", "I", host) ∈ gNf) (hdg : decode cc pc = .ok (.putfield index, 3)) (kk : ∀ (H1 : Heap) (locs1 : List Loc), gRep X (gP mem k 12 (fU (mem k 12) 1 x)) H1 → va_S (gA X) s.heap H1 locs1 → W p l e R s m args below meth c H1 locs1 cells slots Q (F0 m (pc + 3) ls rest)) : W p l e R s m args below meth c H locs cells slots Q (F0 m pc ls (.int (nI x) :: .ref (gAd X k 12) :: rest)) := g_putN C hR hS (gI_m hk (by decide)) (gE_m hk 12 _) rfl ilX2 tyX2_ok nmX2 1 (by decide) hlink rfl rfl (tyX2_ok 1 (by decide)) rfl rfl (Nat.le_of_ble_eq_true rfl) _ (by rw [gE_m hk]; rfl) hdg kk
theorem gt_X7_0 {k index : Nat} (C : gC X own cc ret nL p s m args meth c) (hk : k < 7) (hR : gRep X mem H) (hlink : Cond.fieldLink own index "FarBanks$Trail" "parts" "LFarBanks$Row;" ∈ wA) (hdg : decode cc pc = .ok (.getfield index, 3)) (kk : W p l e R s m args below meth c H locs cells slots Q (F0 m (pc + 3) ls (.ref (gAd X k 16) :: rest))) : W p l e R s m args below meth c H locs cells slots Q (F0 m pc ls (.ref (gAd X k 15) :: rest)) := g_get C hR (gI_m hk (by decide)) (gE_m hk 15 _) rfl ilX7 0 (by decide) hlink rfl rfl hdg kk
theorem gn_X7_0 {k index : Nat} {host : String} (C : gC X own cc ret nL p s m args meth c) (hk : k < 7) (hR : gRep X mem H) (hlink : (own, index, "FarBanks$Trail", "parts", "LFarBanks$Row;", host) ∈ gNf) (hdg : decode cc pc = .ok (.getfield index, 3)) (kk : W p l e R s m args below meth c H locs cells slots Q (F0 m (pc + 3) ls (.ref (gAd X k 16) :: rest))) : W p l e R s m args below meth c H locs cells slots Q (F0 m pc ls (.ref (gAd X k 15) :: rest)) := g_getN C hR (gI_m hk (by decide)) (gE_m hk 15 _) rfl ilX7 0 (by decide) hlink rfl rfl hdg kk
theorem gt_X7_1 {k index : Nat} (C : gC X own cc ret nL p s m args meth c) (hk : k < 7) (hR : gRep X mem H) (hlink : Cond.fieldLink own index "FarBanks$Trail" "total" "I" ∈ wA) (hdg : decode cc pc = .ok (.getfield index, 3)) (kk : W p l e R s m args below meth c H locs cells slots Q (F0 m (pc + 3) ls (.int (nI (mem k 15 1)) :: rest))) : W p l e R s m args below meth c H locs cells slots Q (F0 m pc ls (.ref (gAd X k 15) :: rest)) := g_get C hR (gI_m hk (by decide)) (gE_m hk 15 _) rfl ilX7 1 (by decide) hlink rfl rfl hdg kk
theorem pt_X7_1 {k index x : Nat} (C : gC X own cc ret nL p s m args meth c) (hk : k < 7) (hR : gRep X mem H) (hS : va_S (gA X) s.heap H locs) (hlink : Cond.fieldLink own index "FarBanks$Trail" "total" "I" ∈ wA) (hdg : decode cc pc = .ok (.putfield index, 3)) (kk : ∀ (H1 : Heap) (locs1 : List Loc), gRep X (gP mem k 15 (fU (mem k 15) 1 x)) H1 → va_S (gA X) s.heap H1 locs1 → W p l e R s m args below meth c H1 locs1 cells slots Q (F0 m (pc + 3) ls rest)) : W p l e R s m args below meth c H locs cells slots Q (F0 m pc ls (.int (nI x) :: .ref (gAd X k 15) :: rest)) := g_put C hR hS (gI_m hk (by decide)) (gE_m hk 15 _) rfl ilX7 tyX7_ok nmX7 1 (by decide) hlink rfl rfl (tyX7_ok 1 (by decide)) rfl rfl (Nat.le_of_ble_eq_true rfl) _ (by rw [gE_m hk]; rfl) hdg kk
theorem gn_X7_1 {k index : Nat} {host : String} (C : gC X own cc ret nL p s m args meth c) (hk : k < 7) (hR : gRep X mem H) (hlink : (own, index, "FarBanks$Trail", "total", "I", host) ∈ gNf) (hdg : decode cc pc = .ok (.getfield index, 3)) (kk : W p l e R s m args below meth c H locs cells slots Q (F0 m (pc + 3) ls (.int (nI (mem k 15 1)) :: rest))) : W p l e R s m args below meth c H locs cells slots Q (F0 m pc ls (.ref (gAd X k 15) :: rest)) := g_getN C hR (gI_m hk (by decide)) (gE_m hk 15 _) rfl ilX7 1 (by decide) hlink rfl rfl hdg kk
theorem pn_X7_1 {k index x : Nat} {host : String} (C : gC X own cc ret nL p s m args meth c) (hk : k < 7) (hR : gRep X mem H) (hS : va_S (gA X) s.heap H locs) (hlink : (own, index, "FarBanks$Trail", "total", "I", host) ∈ gNf) (hdg : decode cc pc = .ok (.putfield index, 3)) (kk : ∀ (H1 : Heap) (locs1 : List Loc), gRep X (gP mem k 15 (fU (mem k 15) 1 x)) H1 → va_S (gA X) s.heap H1 locs1 → W p l e R s m args below meth c H1 locs1 cells slots Q (F0 m (pc + 3) ls rest)) : W p l e R s m args below meth c H locs cells slots Q (F0 m pc ls (.int (nI x) :: .ref (gAd X k 15) :: rest)) := g_putN C hR hS (gI_m hk (by decide)) (gE_m hk 15 _) rfl ilX7 tyX7_ok nmX7 1 (by decide) hlink rfl rfl (tyX7_ok 1 (by decide)) rfl rfl (Nat.le_of_ble_eq_true rfl) _ (by rw [gE_m hk]; rfl) hdg kk
theorem gt_X8_0 {index : Nat} (C : gC X own cc ret nL p s m args meth c) (hR : gRep X mem H) (hlink : Cond.fieldLink own index "FarBanks" "now" "LFarBanks$Machine;" ∈ wA) (hdg : decode cc pc = .ok (.getfield index, 3)) (kk : W p l e R s m args below meth c H locs cells slots Q (F0 m (pc + 3) ls (.ref (gAd X 0 0) :: rest))) : W p l e R s m args below meth c H locs cells slots Q (F0 m pc ls (.ref (gAd X 7 0) :: rest)) := g_get C hR (gI_f (by decide)) rfl rfl ilX8 0 (by decide) hlink rfl rfl hdg kk
theorem gn_X8_0 {index : Nat} {host : String} (C : gC X own cc ret nL p s m args meth c) (hR : gRep X mem H) (hlink : (own, index, "FarBanks", "now", "LFarBanks$Machine;", host) ∈ gNf) (hdg : decode cc pc = .ok (.getfield index, 3)) (kk : W p l e R s m args below meth c H locs cells slots Q (F0 m (pc + 3) ls (.ref (gAd X 0 0) :: rest))) : W p l e R s m args below meth c H locs cells slots Q (F0 m pc ls (.ref (gAd X 7 0) :: rest)) := g_getN C hR (gI_f (by decide)) rfl rfl ilX8 0 (by decide) hlink rfl rfl hdg kk
theorem gt_X8_1 {index : Nat} (C : gC X own cc ret nL p s m args meth c) (hR : gRep X mem H) (hlink : Cond.fieldLink own index "FarBanks" "trial" "LFarBanks$Machine;" ∈ wA) (hdg : decode cc pc = .ok (.getfield index, 3)) (kk : W p l e R s m args below meth c H locs cells slots Q (F0 m (pc + 3) ls (.ref (gAd X 1 0) :: rest))) : W p l e R s m args below meth c H locs cells slots Q (F0 m pc ls (.ref (gAd X 7 0) :: rest)) := g_get C hR (gI_f (by decide)) rfl rfl ilX8 1 (by decide) hlink rfl rfl hdg kk
theorem gn_X8_1 {index : Nat} {host : String} (C : gC X own cc ret nL p s m args meth c) (hR : gRep X mem H) (hlink : (own, index, "FarBanks", "trial", "LFarBanks$Machine;", host) ∈ gNf) (hdg : decode cc pc = .ok (.getfield index, 3)) (kk : W p l e R s m args below meth c H locs cells slots Q (F0 m (pc + 3) ls (.ref (gAd X 1 0) :: rest))) : W p l e R s m args below meth c H locs cells slots Q (F0 m pc ls (.ref (gAd X 7 0) :: rest)) := g_getN C hR (gI_f (by decide)) rfl rfl ilX8 1 (by decide) hlink rfl rfl hdg kk
theorem gt_X8_2 {index : Nat} (C : gC X own cc ret nL p s m args meth c) (hR : gRep X mem H) (hlink : Cond.fieldLink own index "FarBanks" "snapshot" "LFarBanks$Machine;" ∈ wA) (hdg : decode cc pc = .ok (.getfield index, 3)) (kk : W p l e R s m args below meth c H locs cells slots Q (F0 m (pc + 3) ls (.ref (gAd X 2 0) :: rest))) : W p l e R s m args below meth c H locs cells slots Q (F0 m pc ls (.ref (gAd X 7 0) :: rest)) := g_get C hR (gI_f (by decide)) rfl rfl ilX8 2 (by decide) hlink rfl rfl hdg kk
theorem gn_X8_2 {index : Nat} {host : String} (C : gC X own cc ret nL p s m args meth c) (hR : gRep X mem H) (hlink : (own, index, "FarBanks", "snapshot", "LFarBanks$Machine;", host) ∈ gNf) (hdg : decode cc pc = .ok (.getfield index, 3)) (kk : W p l e R s m args below meth c H locs cells slots Q (F0 m (pc + 3) ls (.ref (gAd X 2 0) :: rest))) : W p l e R s m args below meth c H locs cells slots Q (F0 m pc ls (.ref (gAd X 7 0) :: rest)) := g_getN C hR (gI_f (by decide)) rfl rfl ilX8 2 (by decide) hlink rfl rfl hdg kk
theorem gt_X8_3 {index : Nat} (C : gC X own cc ret nL p s m args meth c) (hR : gRep X mem H) (hlink : Cond.fieldLink own index "FarBanks" "history" "LFarBanks$History;" ∈ wA) (hdg : decode cc pc = .ok (.getfield index, 3)) (kk : W p l e R s m args below meth c H locs cells slots Q (F0 m (pc + 3) ls (.ref (gAd X 7 1) :: rest))) : W p l e R s m args below meth c H locs cells slots Q (F0 m pc ls (.ref (gAd X 7 0) :: rest)) := g_get C hR (gI_f (by decide)) rfl rfl ilX8 3 (by decide) hlink rfl rfl hdg kk
theorem gn_X8_3 {index : Nat} {host : String} (C : gC X own cc ret nL p s m args meth c) (hR : gRep X mem H) (hlink : (own, index, "FarBanks", "history", "LFarBanks$History;", host) ∈ gNf) (hdg : decode cc pc = .ok (.getfield index, 3)) (kk : W p l e R s m args below meth c H locs cells slots Q (F0 m (pc + 3) ls (.ref (gAd X 7 1) :: rest))) : W p l e R s m args below meth c H locs cells slots Q (F0 m pc ls (.ref (gAd X 7 0) :: rest)) := g_getN C hR (gI_f (by decide)) rfl rfl ilX8 3 (by decide) hlink rfl rfl hdg kk
theorem gt_X8_4 {index : Nat} (C : gC X own cc ret nL p s m args meth c) (hR : gRep X mem H) (hlink : Cond.fieldLink own index "FarBanks" "text" "LFarBanks$Text;" ∈ wA) (hdg : decode cc pc = .ok (.getfield index, 3)) (kk : W p l e R s m args below meth c H locs cells slots Q (F0 m (pc + 3) ls (.ref (gAd X 7 3) :: rest))) : W p l e R s m args below meth c H locs cells slots Q (F0 m pc ls (.ref (gAd X 7 0) :: rest)) := g_get C hR (gI_f (by decide)) rfl rfl ilX8 4 (by decide) hlink rfl rfl hdg kk
theorem gn_X8_4 {index : Nat} {host : String} (C : gC X own cc ret nL p s m args meth c) (hR : gRep X mem H) (hlink : (own, index, "FarBanks", "text", "LFarBanks$Text;", host) ∈ gNf) (hdg : decode cc pc = .ok (.getfield index, 3)) (kk : W p l e R s m args below meth c H locs cells slots Q (F0 m (pc + 3) ls (.ref (gAd X 7 3) :: rest))) : W p l e R s m args below meth c H locs cells slots Q (F0 m pc ls (.ref (gAd X 7 0) :: rest)) := g_getN C hR (gI_f (by decide)) rfl rfl ilX8 4 (by decide) hlink rfl rfl hdg kk
theorem gt_X8_5 {index : Nat} (C : gC X own cc ret nL p s m args meth c) (hR : gRep X mem H) (hlink : Cond.fieldLink own index "FarBanks" "code" "LFarBanks$Code;" ∈ wA) (hdg : decode cc pc = .ok (.getfield index, 3)) (kk : W p l e R s m args below meth c H locs cells slots Q (F0 m (pc + 3) ls (.ref (gAd X 7 5) :: rest))) : W p l e R s m args below meth c H locs cells slots Q (F0 m pc ls (.ref (gAd X 7 0) :: rest)) := g_get C hR (gI_f (by decide)) rfl rfl ilX8 5 (by decide) hlink rfl rfl hdg kk
theorem gn_X8_5 {index : Nat} {host : String} (C : gC X own cc ret nL p s m args meth c) (hR : gRep X mem H) (hlink : (own, index, "FarBanks", "code", "LFarBanks$Code;", host) ∈ gNf) (hdg : decode cc pc = .ok (.getfield index, 3)) (kk : W p l e R s m args below meth c H locs cells slots Q (F0 m (pc + 3) ls (.ref (gAd X 7 5) :: rest))) : W p l e R s m args below meth c H locs cells slots Q (F0 m pc ls (.ref (gAd X 7 0) :: rest)) := g_getN C hR (gI_f (by decide)) rfl rfl ilX8 5 (by decide) hlink rfl rfl hdg kk
theorem gt_X8_6 {index : Nat} (C : gC X own cc ret nL p s m args meth c) (hR : gRep X mem H) (hlink : Cond.fieldLink own index "FarBanks" "hasSnapshot" "Z" ∈ wA) (hdg : decode cc pc = .ok (.getfield index, 3)) (kk : W p l e R s m args below meth c H locs cells slots Q (F0 m (pc + 3) ls (.int (nI (mem 7 0 6)) :: rest))) : W p l e R s m args below meth c H locs cells slots Q (F0 m pc ls (.ref (gAd X 7 0) :: rest)) := g_get C hR (gI_f (by decide)) rfl rfl ilX8 6 (by decide) hlink rfl rfl hdg kk
theorem pt_X8_6 {index x : Nat} (C : gC X own cc ret nL p s m args meth c) (hR : gRep X mem H) (hS : va_S (gA X) s.heap H locs) (hx9 : x < 2) (hlink : Cond.fieldLink own index "FarBanks" "hasSnapshot" "Z" ∈ wA) (hdg : decode cc pc = .ok (.putfield index, 3)) (kk : ∀ (H1 : Heap) (locs1 : List Loc), gRep X (gP mem 7 0 (fU (mem 7 0) 6 x)) H1 → va_S (gA X) s.heap H1 locs1 → W p l e R s m args below meth c H1 locs1 cells slots Q (F0 m (pc + 3) ls rest)) : W p l e R s m args below meth c H locs cells slots Q (F0 m pc ls (.int (nI x) :: .ref (gAd X 7 0) :: rest)) := g_put C hR hS (gI_f (by decide)) rfl rfl ilX8 tyX8_ok nmX8 6 (by decide) hlink rfl rfl (tyX8_ok 6 (by decide)) (by rcases (show x = 0 ∨ x = 1 by omega) with e | e <;> subst e <;> rfl) (by rcases (show x = 0 ∨ x = 1 by omega) with e | e <;> subst e <;> rfl) (Nat.le_of_ble_eq_true rfl) _ rfl hdg kk
theorem gn_X8_6 {index : Nat} {host : String} (C : gC X own cc ret nL p s m args meth c) (hR : gRep X mem H) (hlink : (own, index, "FarBanks", "hasSnapshot", "Z", host) ∈ gNf) (hdg : decode cc pc = .ok (.getfield index, 3)) (kk : W p l e R s m args below meth c H locs cells slots Q (F0 m (pc + 3) ls (.int (nI (mem 7 0 6)) :: rest))) : W p l e R s m args below meth c H locs cells slots Q (F0 m pc ls (.ref (gAd X 7 0) :: rest)) := g_getN C hR (gI_f (by decide)) rfl rfl ilX8 6 (by decide) hlink rfl rfl hdg kk
theorem pn_X8_6 {index x : Nat} {host : String} (C : gC X own cc ret nL p s m args meth c) (hR : gRep X mem H) (hS : va_S (gA X) s.heap H locs) (hx9 : x < 2) (hlink : (own, index, "FarBanks", "hasSnapshot", "Z", host) ∈ gNf) (hdg : decode cc pc = .ok (.putfield index, 3)) (kk : ∀ (H1 : Heap) (locs1 : List Loc), gRep X (gP mem 7 0 (fU (mem 7 0) 6 x)) H1 → va_S (gA X) s.heap H1 locs1 → W p l e R s m args below meth c H1 locs1 cells slots Q (F0 m (pc + 3) ls rest)) : W p l e R s m args below meth c H locs cells slots Q (F0 m pc ls (.int (nI x) :: .ref (gAd X 7 0) :: rest)) := g_putN C hR hS (gI_f (by decide)) rfl rfl ilX8 tyX8_ok nmX8 6 (by decide) hlink rfl rfl (tyX8_ok 6 (by decide)) (by rcases (show x = 0 ∨ x = 1 by omega) with e | e <;> subst e <;> rfl) (by rcases (show x = 0 ∨ x = 1 by omega) with e | e <;> subst e <;> rfl) (Nat.le_of_ble_eq_true rfl) _ rfl hdg kk
theorem gt_X3_0 {index : Nat} (C : gC X own cc ret nL p s m args meth c) (hR : gRep X mem H) (hlink : Cond.fieldLink own index "FarBanks$History" "states" "[LFarBanks$Machine;" ∈ wA) (hdg : decode cc pc = .ok (.getfield index, 3)) (kk : W p l e R s m args below meth c H locs cells slots Q (F0 m (pc + 3) ls (.ref (gAd X 7 2) :: rest))) : W p l e R s m args below meth c H locs cells slots Q (F0 m pc ls (.ref (gAd X 7 1) :: rest)) := g_get C hR (gI_f (by decide)) rfl rfl ilX3 0 (by decide) hlink rfl rfl hdg kk
theorem gn_X3_0 {index : Nat} {host : String} (C : gC X own cc ret nL p s m args meth c) (hR : gRep X mem H) (hlink : (own, index, "FarBanks$History", "states", "[LFarBanks$Machine;", host) ∈ gNf) (hdg : decode cc pc = .ok (.getfield index, 3)) (kk : W p l e R s m args below meth c H locs cells slots Q (F0 m (pc + 3) ls (.ref (gAd X 7 2) :: rest))) : W p l e R s m args below meth c H locs cells slots Q (F0 m pc ls (.ref (gAd X 7 1) :: rest)) := g_getN C hR (gI_f (by decide)) rfl rfl ilX3 0 (by decide) hlink rfl rfl hdg kk
theorem gt_X3_1 {index : Nat} (C : gC X own cc ret nL p s m args meth c) (hR : gRep X mem H) (hlink : Cond.fieldLink own index "FarBanks$History" "size" "I" ∈ wA) (hdg : decode cc pc = .ok (.getfield index, 3)) (kk : W p l e R s m args below meth c H locs cells slots Q (F0 m (pc + 3) ls (.int (nI (mem 7 1 1)) :: rest))) : W p l e R s m args below meth c H locs cells slots Q (F0 m pc ls (.ref (gAd X 7 1) :: rest)) := g_get C hR (gI_f (by decide)) rfl rfl ilX3 1 (by decide) hlink rfl rfl hdg kk
theorem pt_X3_1 {index x : Nat} (C : gC X own cc ret nL p s m args meth c) (hR : gRep X mem H) (hS : va_S (gA X) s.heap H locs) (hlink : Cond.fieldLink own index "FarBanks$History" "size" "I" ∈ wA) (hdg : decode cc pc = .ok (.putfield index, 3)) (kk : ∀ (H1 : Heap) (locs1 : List Loc), gRep X (gP mem 7 1 (fU (mem 7 1) 1 x)) H1 → va_S (gA X) s.heap H1 locs1 → W p l e R s m args below meth c H1 locs1 cells slots Q (F0 m (pc + 3) ls rest)) : W p l e R s m args below meth c H locs cells slots Q (F0 m pc ls (.int (nI x) :: .ref (gAd X 7 1) :: rest)) := g_put C hR hS (gI_f (by decide)) rfl rfl ilX3 tyX3_ok nmX3 1 (by decide) hlink rfl rfl (tyX3_ok 1 (by decide)) rfl rfl (Nat.le_of_ble_eq_true rfl) _ rfl hdg kk
theorem gn_X3_1 {index : Nat} {host : String} (C : gC X own cc ret nL p s m args meth c) (hR : gRep X mem H) (hlink : (own, index, "FarBanks$History", "size", "I", host) ∈ gNf) (hdg : decode cc pc = .ok (.getfield index, 3)) (kk : W p l e R s m args below meth c H locs cells slots Q (F0 m (pc + 3) ls (.int (nI (mem 7 1 1)) :: rest))) : W p l e R s m args below meth c H locs cells slots Q (F0 m pc ls (.ref (gAd X 7 1) :: rest)) := g_getN C hR (gI_f (by decide)) rfl rfl ilX3 1 (by decide) hlink rfl rfl hdg kk
theorem pn_X3_1 {index x : Nat} {host : String} (C : gC X own cc ret nL p s m args meth c) (hR : gRep X mem H) (hS : va_S (gA X) s.heap H locs) (hlink : (own, index, "FarBanks$History", "size", "I", host) ∈ gNf) (hdg : decode cc pc = .ok (.putfield index, 3)) (kk : ∀ (H1 : Heap) (locs1 : List Loc), gRep X (gP mem 7 1 (fU (mem 7 1) 1 x)) H1 → va_S (gA X) s.heap H1 locs1 → W p l e R s m args below meth c H1 locs1 cells slots Q (F0 m (pc + 3) ls rest)) : W p l e R s m args below meth c H locs cells slots Q (F0 m pc ls (.int (nI x) :: .ref (gAd X 7 1) :: rest)) := g_putN C hR hS (gI_f (by decide)) rfl rfl ilX3 tyX3_ok nmX3 1 (by decide) hlink rfl rfl (tyX3_ok 1 (by decide)) rfl rfl (Nat.le_of_ble_eq_true rfl) _ rfl hdg kk
theorem gt_X6_0 {index : Nat} (C : gC X own cc ret nL p s m args meth c) (hR : gRep X mem H) (hlink : Cond.fieldLink own index "FarBanks$Text" "characters" "[C" ∈ wA) (hdg : decode cc pc = .ok (.getfield index, 3)) (kk : W p l e R s m args below meth c H locs cells slots Q (F0 m (pc + 3) ls (.ref (gAd X 7 4) :: rest))) : W p l e R s m args below meth c H locs cells slots Q (F0 m pc ls (.ref (gAd X 7 3) :: rest)) := g_get C hR (gI_f (by decide)) rfl rfl ilX6 0 (by decide) hlink rfl rfl hdg kk
theorem gn_X6_0 {index : Nat} {host : String} (C : gC X own cc ret nL p s m args meth c) (hR : gRep X mem H) (hlink : (own, index, "FarBanks$Text", "characters", "[C", host) ∈ gNf) (hdg : decode cc pc = .ok (.getfield index, 3)) (kk : W p l e R s m args below meth c H locs cells slots Q (F0 m (pc + 3) ls (.ref (gAd X 7 4) :: rest))) : W p l e R s m args below meth c H locs cells slots Q (F0 m pc ls (.ref (gAd X 7 3) :: rest)) := g_getN C hR (gI_f (by decide)) rfl rfl ilX6 0 (by decide) hlink rfl rfl hdg kk
theorem gt_X6_1 {index : Nat} (C : gC X own cc ret nL p s m args meth c) (hR : gRep X mem H) (hlink : Cond.fieldLink own index "FarBanks$Text" "length" "I" ∈ wA) (hdg : decode cc pc = .ok (.getfield index, 3)) (kk : W p l e R s m args below meth c H locs cells slots Q (F0 m (pc + 3) ls (.int (nI (mem 7 3 1)) :: rest))) : W p l e R s m args below meth c H locs cells slots Q (F0 m pc ls (.ref (gAd X 7 3) :: rest)) := g_get C hR (gI_f (by decide)) rfl rfl ilX6 1 (by decide) hlink rfl rfl hdg kk
theorem pt_X6_1 {index x : Nat} (C : gC X own cc ret nL p s m args meth c) (hR : gRep X mem H) (hS : va_S (gA X) s.heap H locs) (hlink : Cond.fieldLink own index "FarBanks$Text" "length" "I" ∈ wA) (hdg : decode cc pc = .ok (.putfield index, 3)) (kk : ∀ (H1 : Heap) (locs1 : List Loc), gRep X (gP mem 7 3 (fU (mem 7 3) 1 x)) H1 → va_S (gA X) s.heap H1 locs1 → W p l e R s m args below meth c H1 locs1 cells slots Q (F0 m (pc + 3) ls rest)) : W p l e R s m args below meth c H locs cells slots Q (F0 m pc ls (.int (nI x) :: .ref (gAd X 7 3) :: rest)) := g_put C hR hS (gI_f (by decide)) rfl rfl ilX6 tyX6_ok nmX6 1 (by decide) hlink rfl rfl (tyX6_ok 1 (by decide)) rfl rfl (Nat.le_of_ble_eq_true rfl) _ rfl hdg kk
theorem gn_X6_1 {index : Nat} {host : String} (C : gC X own cc ret nL p s m args meth c) (hR : gRep X mem H) (hlink : (own, index, "FarBanks$Text", "length", "I", host) ∈ gNf) (hdg : decode cc pc = .ok (.getfield index, 3)) (kk : W p l e R s m args below meth c H locs cells slots Q (F0 m (pc + 3) ls (.int (nI (mem 7 3 1)) :: rest))) : W p l e R s m args below meth c H locs cells slots Q (F0 m pc ls (.ref (gAd X 7 3) :: rest)) := g_getN C hR (gI_f (by decide)) rfl rfl ilX6 1 (by decide) hlink rfl rfl hdg kk
theorem pn_X6_1 {index x : Nat} {host : String} (C : gC X own cc ret nL p s m args meth c) (hR : gRep X mem H) (hS : va_S (gA X) s.heap H locs) (hlink : (own, index, "FarBanks$Text", "length", "I", host) ∈ gNf) (hdg : decode cc pc = .ok (.putfield index, 3)) (kk : ∀ (H1 : Heap) (locs1 : List Loc), gRep X (gP mem 7 3 (fU (mem 7 3) 1 x)) H1 → va_S (gA X) s.heap H1 locs1 → W p l e R s m args below meth c H1 locs1 cells slots Q (F0 m (pc + 3) ls rest)) : W p l e R s m args below meth c H locs cells slots Q (F0 m pc ls (.int (nI x) :: .ref (gAd X 7 3) :: rest)) := g_putN C hR hS (gI_f (by decide)) rfl rfl ilX6 tyX6_ok nmX6 1 (by decide) hlink rfl rfl (tyX6_ok 1 (by decide)) rfl rfl (Nat.le_of_ble_eq_true rfl) _ rfl hdg kk
theorem gt_X1_0 {index : Nat} (C : gC X own cc ret nL p s m args meth c) (hR : gRep X mem H) (hlink : Cond.fieldLink own index "FarBanks$Code" "orders" "LFarBanks$Row;" ∈ wA) (hdg : decode cc pc = .ok (.getfield index, 3)) (kk : W p l e R s m args below meth c H locs cells slots Q (F0 m (pc + 3) ls (.ref (gAd X 7 6) :: rest))) : W p l e R s m args below meth c H locs cells slots Q (F0 m pc ls (.ref (gAd X 7 5) :: rest)) := g_get C hR (gI_f (by decide)) rfl rfl ilX1 0 (by decide) hlink rfl rfl hdg kk
theorem gn_X1_0 {index : Nat} {host : String} (C : gC X own cc ret nL p s m args meth c) (hR : gRep X mem H) (hlink : (own, index, "FarBanks$Code", "orders", "LFarBanks$Row;", host) ∈ gNf) (hdg : decode cc pc = .ok (.getfield index, 3)) (kk : W p l e R s m args below meth c H locs cells slots Q (F0 m (pc + 3) ls (.ref (gAd X 7 6) :: rest))) : W p l e R s m args below meth c H locs cells slots Q (F0 m pc ls (.ref (gAd X 7 5) :: rest)) := g_getN C hR (gI_f (by decide)) rfl rfl ilX1 0 (by decide) hlink rfl rfl hdg kk
theorem gt_X1_1 {index : Nat} (C : gC X own cc ret nL p s m args meth c) (hR : gRep X mem H) (hlink : Cond.fieldLink own index "FarBanks$Code" "size" "I" ∈ wA) (hdg : decode cc pc = .ok (.getfield index, 3)) (kk : W p l e R s m args below meth c H locs cells slots Q (F0 m (pc + 3) ls (.int (nI (mem 7 5 1)) :: rest))) : W p l e R s m args below meth c H locs cells slots Q (F0 m pc ls (.ref (gAd X 7 5) :: rest)) := g_get C hR (gI_f (by decide)) rfl rfl ilX1 1 (by decide) hlink rfl rfl hdg kk
theorem pt_X1_1 {index x : Nat} (C : gC X own cc ret nL p s m args meth c) (hR : gRep X mem H) (hS : va_S (gA X) s.heap H locs) (hlink : Cond.fieldLink own index "FarBanks$Code" "size" "I" ∈ wA) (hdg : decode cc pc = .ok (.putfield index, 3)) (kk : ∀ (H1 : Heap) (locs1 : List Loc), gRep X (gP mem 7 5 (fU (mem 7 5) 1 x)) H1 → va_S (gA X) s.heap H1 locs1 → W p l e R s m args below meth c H1 locs1 cells slots Q (F0 m (pc + 3) ls rest)) : W p l e R s m args below meth c H locs cells slots Q (F0 m pc ls (.int (nI x) :: .ref (gAd X 7 5) :: rest)) := g_put C hR hS (gI_f (by decide)) rfl rfl ilX1 tyX1_ok nmX1 1 (by decide) hlink rfl rfl (tyX1_ok 1 (by decide)) rfl rfl (Nat.le_of_ble_eq_true rfl) _ rfl hdg kk
theorem gn_X1_1 {index : Nat} {host : String} (C : gC X own cc ret nL p s m args meth c) (hR : gRep X mem H) (hlink : (own, index, "FarBanks$Code", "size", "I", host) ∈ gNf) (hdg : decode cc pc = .ok (.getfield index, 3)) (kk : W p l e R s m args below meth c H locs cells slots Q (F0 m (pc + 3) ls (.int (nI (mem 7 5 1)) :: rest))) : W p l e R s m args below meth c H locs cells slots Q (F0 m pc ls (.ref (gAd X 7 5) :: rest)) := g_getN C hR (gI_f (by decide)) rfl rfl ilX1 1 (by decide) hlink rfl rfl hdg kk
theorem pn_X1_1 {index x : Nat} {host : String} (C : gC X own cc ret nL p s m args meth c) (hR : gRep X mem H) (hS : va_S (gA X) s.heap H locs) (hlink : (own, index, "FarBanks$Code", "size", "I", host) ∈ gNf) (hdg : decode cc pc = .ok (.putfield index, 3)) (kk : ∀ (H1 : Heap) (locs1 : List Loc), gRep X (gP mem 7 5 (fU (mem 7 5) 1 x)) H1 → va_S (gA X) s.heap H1 locs1 → W p l e R s m args below meth c H1 locs1 cells slots Q (F0 m (pc + 3) ls rest)) : W p l e R s m args below meth c H locs cells slots Q (F0 m pc ls (.int (nI x) :: .ref (gAd X 7 5) :: rest)) := g_putN C hR hS (gI_f (by decide)) rfl rfl ilX1 tyX1_ok nmX1 1 (by decide) hlink rfl rfl (tyX1_ok 1 (by decide)) rfl rfl (Nat.le_of_ble_eq_true rfl) _ rfl hdg kk
theorem gt_X1_2 {index : Nat} (C : gC X own cc ret nL p s m args meth c) (hR : gRep X mem H) (hlink : Cond.fieldLink own index "FarBanks$Code" "position" "I" ∈ wA) (hdg : decode cc pc = .ok (.getfield index, 3)) (kk : W p l e R s m args below meth c H locs cells slots Q (F0 m (pc + 3) ls (.int (nI (mem 7 5 2)) :: rest))) : W p l e R s m args below meth c H locs cells slots Q (F0 m pc ls (.ref (gAd X 7 5) :: rest)) := g_get C hR (gI_f (by decide)) rfl rfl ilX1 2 (by decide) hlink rfl rfl hdg kk
theorem pt_X1_2 {index x : Nat} (C : gC X own cc ret nL p s m args meth c) (hR : gRep X mem H) (hS : va_S (gA X) s.heap H locs) (hlink : Cond.fieldLink own index "FarBanks$Code" "position" "I" ∈ wA) (hdg : decode cc pc = .ok (.putfield index, 3)) (kk : ∀ (H1 : Heap) (locs1 : List Loc), gRep X (gP mem 7 5 (fU (mem 7 5) 2 x)) H1 → va_S (gA X) s.heap H1 locs1 → W p l e R s m args below meth c H1 locs1 cells slots Q (F0 m (pc + 3) ls rest)) : W p l e R s m args below meth c H locs cells slots Q (F0 m pc ls (.int (nI x) :: .ref (gAd X 7 5) :: rest)) := g_put C hR hS (gI_f (by decide)) rfl rfl ilX1 tyX1_ok nmX1 2 (by decide) hlink rfl rfl (tyX1_ok 2 (by decide)) rfl rfl (Nat.le_of_ble_eq_true rfl) _ rfl hdg kk
theorem gn_X1_2 {index : Nat} {host : String} (C : gC X own cc ret nL p s m args meth c) (hR : gRep X mem H) (hlink : (own, index, "FarBanks$Code", "position", "I", host) ∈ gNf) (hdg : decode cc pc = .ok (.getfield index, 3)) (kk : W p l e R s m args below meth c H locs cells slots Q (F0 m (pc + 3) ls (.int (nI (mem 7 5 2)) :: rest))) : W p l e R s m args below meth c H locs cells slots Q (F0 m pc ls (.ref (gAd X 7 5) :: rest)) := g_getN C hR (gI_f (by decide)) rfl rfl ilX1 2 (by decide) hlink rfl rfl hdg kk
theorem pn_X1_2 {index x : Nat} {host : String} (C : gC X own cc ret nL p s m args meth c) (hR : gRep X mem H) (hS : va_S (gA X) s.heap H locs) (hlink : (own, index, "FarBanks$Code", "position", "I", host) ∈ gNf) (hdg : decode cc pc = .ok (.putfield index, 3)) (kk : ∀ (H1 : Heap) (locs1 : List Loc), gRep X (gP mem 7 5 (fU (mem 7 5) 2 x)) H1 → va_S (gA X) s.heap H1 locs1 → W p l e R s m args below meth c H1 locs1 cells slots Q (F0 m (pc + 3) ls rest)) : W p l e R s m args below meth c H locs cells slots Q (F0 m pc ls (.int (nI x) :: .ref (gAd X 7 5) :: rest)) := g_putN C hR hS (gI_f (by decide)) rfl rfl ilX1 tyX1_ok nmX1 2 (by decide) hlink rfl rfl (tyX1_ok 2 (by decide)) rfl rfl (Nat.le_of_ble_eq_true rfl) _ rfl hdg kk
theorem gt_X1_3 {index : Nat} (C : gC X own cc ret nL p s m args meth c) (hR : gRep X mem H) (hlink : Cond.fieldLink own index "FarBanks$Code" "isSound" "Z" ∈ wA) (hdg : decode cc pc = .ok (.getfield index, 3)) (kk : W p l e R s m args below meth c H locs cells slots Q (F0 m (pc + 3) ls (.int (nI (mem 7 5 3)) :: rest))) : W p l e R s m args below meth c H locs cells slots Q (F0 m pc ls (.ref (gAd X 7 5) :: rest)) := g_get C hR (gI_f (by decide)) rfl rfl ilX1 3 (by decide) hlink rfl rfl hdg kk
theorem pt_X1_3 {index x : Nat} (C : gC X own cc ret nL p s m args meth c) (hR : gRep X mem H) (hS : va_S (gA X) s.heap H locs) (hx9 : x < 2) (hlink : Cond.fieldLink own index "FarBanks$Code" "isSound" "Z" ∈ wA) (hdg : decode cc pc = .ok (.putfield index, 3)) (kk : ∀ (H1 : Heap) (locs1 : List Loc), gRep X (gP mem 7 5 (fU (mem 7 5) 3 x)) H1 → va_S (gA X) s.heap H1 locs1 → W p l e R s m args below meth c H1 locs1 cells slots Q (F0 m (pc + 3) ls rest)) : W p l e R s m args below meth c H locs cells slots Q (F0 m pc ls (.int (nI x) :: .ref (gAd X 7 5) :: rest)) := g_put C hR hS (gI_f (by decide)) rfl rfl ilX1 tyX1_ok nmX1 3 (by decide) hlink rfl rfl (tyX1_ok 3 (by decide)) (by rcases (show x = 0 ∨ x = 1 by omega) with e | e <;> subst e <;> rfl) (by rcases (show x = 0 ∨ x = 1 by omega) with e | e <;> subst e <;> rfl) (Nat.le_of_ble_eq_true rfl) _ rfl hdg kk
theorem gn_X1_3 {index : Nat} {host : String} (C : gC X own cc ret nL p s m args meth c) (hR : gRep X mem H) (hlink : (own, index, "FarBanks$Code", "isSound", "Z", host) ∈ gNf) (hdg : decode cc pc = .ok (.getfield index, 3)) (kk : W p l e R s m args below meth c H locs cells slots Q (F0 m (pc + 3) ls (.int (nI (mem 7 5 3)) :: rest))) : W p l e R s m args below meth c H locs cells slots Q (F0 m pc ls (.ref (gAd X 7 5) :: rest)) := g_getN C hR (gI_f (by decide)) rfl rfl ilX1 3 (by decide) hlink rfl rfl hdg kk
theorem pn_X1_3 {index x : Nat} {host : String} (C : gC X own cc ret nL p s m args meth c) (hR : gRep X mem H) (hS : va_S (gA X) s.heap H locs) (hx9 : x < 2) (hlink : (own, index, "FarBanks$Code", "isSound", "Z", host) ∈ gNf) (hdg : decode cc pc = .ok (.putfield index, 3)) (kk : ∀ (H1 : Heap) (locs1 : List Loc), gRep X (gP mem 7 5 (fU (mem 7 5) 3 x)) H1 → va_S (gA X) s.heap H1 locs1 → W p l e R s m args below meth c H1 locs1 cells slots Q (F0 m (pc + 3) ls rest)) : W p l e R s m args below meth c H locs cells slots Q (F0 m pc ls (.int (nI x) :: .ref (gAd X 7 5) :: rest)) := g_putN C hR hS (gI_f (by decide)) rfl rfl ilX1 tyX1_ok nmX1 3 (by decide) hlink rfl rfl (tyX1_ok 3 (by decide)) (by rcases (show x = 0 ∨ x = 1 by omega) with e | e <;> subst e <;> rfl) (by rcases (show x = 0 ∨ x = 1 by omega) with e | e <;> subst e <;> rfl) (Nat.le_of_ble_eq_true rfl) _ rfl hdg kk
theorem gt_X9_0 {index : Nat} (C : gC X own cc ret nL p s m args meth c) (hR : gRep X mem H) (hlink : Cond.fieldLink own index "FarBanksModel" "z" "[I" ∈ wA) (hdg : decode cc pc = .ok (.getfield index, 3)) (kk : W p l e R s m args below meth c H locs cells slots Q (F0 m (pc + 3) ls (.ref (gAd X 8 1) :: rest))) : W p l e R s m args below meth c H locs cells slots Q (F0 m pc ls (.ref (gAd X 8 0) :: rest)) := g_get C hR (gI_r (by decide)) rfl rfl ilX9 0 (by decide) hlink rfl rfl hdg kk
theorem gn_X9_0 {index : Nat} {host : String} (C : gC X own cc ret nL p s m args meth c) (hR : gRep X mem H) (hlink : (own, index, "FarBanksModel", "z", "[I", host) ∈ gNf) (hdg : decode cc pc = .ok (.getfield index, 3)) (kk : W p l e R s m args below meth c H locs cells slots Q (F0 m (pc + 3) ls (.ref (gAd X 8 1) :: rest))) : W p l e R s m args below meth c H locs cells slots Q (F0 m pc ls (.ref (gAd X 8 0) :: rest)) := g_getN C hR (gI_r (by decide)) rfl rfl ilX9 0 (by decide) hlink rfl rfl hdg kk
theorem gt_X9_1 {index : Nat} (C : gC X own cc ret nL p s m args meth c) (hR : gRep X mem H) (hlink : Cond.fieldLink own index "FarBanksModel" "aside" "[I" ∈ wA) (hdg : decode cc pc = .ok (.getfield index, 3)) (kk : W p l e R s m args below meth c H locs cells slots Q (F0 m (pc + 3) ls (.ref (gAd X 8 2) :: rest))) : W p l e R s m args below meth c H locs cells slots Q (F0 m pc ls (.ref (gAd X 8 0) :: rest)) := g_get C hR (gI_r (by decide)) rfl rfl ilX9 1 (by decide) hlink rfl rfl hdg kk
theorem gn_X9_1 {index : Nat} {host : String} (C : gC X own cc ret nL p s m args meth c) (hR : gRep X mem H) (hlink : (own, index, "FarBanksModel", "aside", "[I", host) ∈ gNf) (hdg : decode cc pc = .ok (.getfield index, 3)) (kk : W p l e R s m args below meth c H locs cells slots Q (F0 m (pc + 3) ls (.ref (gAd X 8 2) :: rest))) : W p l e R s m args below meth c H locs cells slots Q (F0 m pc ls (.ref (gAd X 8 0) :: rest)) := g_getN C hR (gI_r (by decide)) rfl rfl ilX9 1 (by decide) hlink rfl rfl hdg kk
theorem gt_X9_2 {index : Nat} (C : gC X own cc ret nL p s m args meth c) (hR : gRep X mem H) (hlink : Cond.fieldLink own index "FarBanksModel" "old" "[I" ∈ wA) (hdg : decode cc pc = .ok (.getfield index, 3)) (kk : W p l e R s m args below meth c H locs cells slots Q (F0 m (pc + 3) ls (.ref (gAd X 8 3) :: rest))) : W p l e R s m args below meth c H locs cells slots Q (F0 m pc ls (.ref (gAd X 8 0) :: rest)) := g_get C hR (gI_r (by decide)) rfl rfl ilX9 2 (by decide) hlink rfl rfl hdg kk
theorem gn_X9_2 {index : Nat} {host : String} (C : gC X own cc ret nL p s m args meth c) (hR : gRep X mem H) (hlink : (own, index, "FarBanksModel", "old", "[I", host) ∈ gNf) (hdg : decode cc pc = .ok (.getfield index, 3)) (kk : W p l e R s m args below meth c H locs cells slots Q (F0 m (pc + 3) ls (.ref (gAd X 8 3) :: rest))) : W p l e R s m args below meth c H locs cells slots Q (F0 m pc ls (.ref (gAd X 8 0) :: rest)) := g_getN C hR (gI_r (by decide)) rfl rfl ilX9 2 (by decide) hlink rfl rfl hdg kk
theorem gt_X9_3 {index : Nat} (C : gC X own cc ret nL p s m args meth c) (hR : gRep X mem H) (hlink : Cond.fieldLink own index "FarBanksModel" "states" "I" ∈ wA) (hdg : decode cc pc = .ok (.getfield index, 3)) (kk : W p l e R s m args below meth c H locs cells slots Q (F0 m (pc + 3) ls (.int (nI (mem 8 0 3)) :: rest))) : W p l e R s m args below meth c H locs cells slots Q (F0 m pc ls (.ref (gAd X 8 0) :: rest)) := g_get C hR (gI_r (by decide)) rfl rfl ilX9 3 (by decide) hlink rfl rfl hdg kk
theorem pt_X9_3 {index x : Nat} (C : gC X own cc ret nL p s m args meth c) (hR : gRep X mem H) (hS : va_S (gA X) s.heap H locs) (hlink : Cond.fieldLink own index "FarBanksModel" "states" "I" ∈ wA) (hdg : decode cc pc = .ok (.putfield index, 3)) (kk : ∀ (H1 : Heap) (locs1 : List Loc), gRep X (gP mem 8 0 (fU (mem 8 0) 3 x)) H1 → va_S (gA X) s.heap H1 locs1 → W p l e R s m args below meth c H1 locs1 cells slots Q (F0 m (pc + 3) ls rest)) : W p l e R s m args below meth c H locs cells slots Q (F0 m pc ls (.int (nI x) :: .ref (gAd X 8 0) :: rest)) := g_put C hR hS (gI_r (by decide)) rfl rfl ilX9 tyX9_ok nmX9 3 (by decide) hlink rfl rfl (tyX9_ok 3 (by decide)) rfl rfl (Nat.le_of_ble_eq_true rfl) _ rfl hdg kk
theorem gn_X9_3 {index : Nat} {host : String} (C : gC X own cc ret nL p s m args meth c) (hR : gRep X mem H) (hlink : (own, index, "FarBanksModel", "states", "I", host) ∈ gNf) (hdg : decode cc pc = .ok (.getfield index, 3)) (kk : W p l e R s m args below meth c H locs cells slots Q (F0 m (pc + 3) ls (.int (nI (mem 8 0 3)) :: rest))) : W p l e R s m args below meth c H locs cells slots Q (F0 m pc ls (.ref (gAd X 8 0) :: rest)) := g_getN C hR (gI_r (by decide)) rfl rfl ilX9 3 (by decide) hlink rfl rfl hdg kk
theorem pn_X9_3 {index x : Nat} {host : String} (C : gC X own cc ret nL p s m args meth c) (hR : gRep X mem H) (hS : va_S (gA X) s.heap H locs) (hlink : (own, index, "FarBanksModel", "states", "I", host) ∈ gNf) (hdg : decode cc pc = .ok (.putfield index, 3)) (kk : ∀ (H1 : Heap) (locs1 : List Loc), gRep X (gP mem 8 0 (fU (mem 8 0) 3 x)) H1 → va_S (gA X) s.heap H1 locs1 → W p l e R s m args below meth c H1 locs1 cells slots Q (F0 m (pc + 3) ls rest)) : W p l e R s m args below meth c H locs cells slots Q (F0 m pc ls (.int (nI x) :: .ref (gAd X 8 0) :: rest)) := g_putN C hR hS (gI_r (by decide)) rfl rfl ilX9 tyX9_ok nmX9 3 (by decide) hlink rfl rfl (tyX9_ok 3 (by decide)) rfl rfl (Nat.le_of_ble_eq_true rfl) _ rfl hdg kk
theorem gt_X9_4 {index : Nat} (C : gC X own cc ret nL p s m args meth c) (hR : gRep X mem H) (hlink : Cond.fieldLink own index "FarBanksModel" "kept" "[I" ∈ wA) (hdg : decode cc pc = .ok (.getfield index, 3)) (kk : W p l e R s m args below meth c H locs cells slots Q (F0 m (pc + 3) ls (.ref (gAd X 8 4) :: rest))) : W p l e R s m args below meth c H locs cells slots Q (F0 m pc ls (.ref (gAd X 8 0) :: rest)) := g_get C hR (gI_r (by decide)) rfl rfl ilX9 4 (by decide) hlink rfl rfl hdg kk
theorem gn_X9_4 {index : Nat} {host : String} (C : gC X own cc ret nL p s m args meth c) (hR : gRep X mem H) (hlink : (own, index, "FarBanksModel", "kept", "[I", host) ∈ gNf) (hdg : decode cc pc = .ok (.getfield index, 3)) (kk : W p l e R s m args below meth c H locs cells slots Q (F0 m (pc + 3) ls (.ref (gAd X 8 4) :: rest))) : W p l e R s m args below meth c H locs cells slots Q (F0 m pc ls (.ref (gAd X 8 0) :: rest)) := g_getN C hR (gI_r (by decide)) rfl rfl ilX9 4 (by decide) hlink rfl rfl hdg kk
theorem gt_X9_5 {index : Nat} (C : gC X own cc ret nL p s m args meth c) (hR : gRep X mem H) (hlink : Cond.fieldLink own index "FarBanksModel" "isKept" "Z" ∈ wA) (hdg : decode cc pc = .ok (.getfield index, 3)) (kk : W p l e R s m args below meth c H locs cells slots Q (F0 m (pc + 3) ls (.int (nI (mem 8 0 5)) :: rest))) : W p l e R s m args below meth c H locs cells slots Q (F0 m pc ls (.ref (gAd X 8 0) :: rest)) := g_get C hR (gI_r (by decide)) rfl rfl ilX9 5 (by decide) hlink rfl rfl hdg kk
theorem pt_X9_5 {index x : Nat} (C : gC X own cc ret nL p s m args meth c) (hR : gRep X mem H) (hS : va_S (gA X) s.heap H locs) (hx9 : x < 2) (hlink : Cond.fieldLink own index "FarBanksModel" "isKept" "Z" ∈ wA) (hdg : decode cc pc = .ok (.putfield index, 3)) (kk : ∀ (H1 : Heap) (locs1 : List Loc), gRep X (gP mem 8 0 (fU (mem 8 0) 5 x)) H1 → va_S (gA X) s.heap H1 locs1 → W p l e R s m args below meth c H1 locs1 cells slots Q (F0 m (pc + 3) ls rest)) : W p l e R s m args below meth c H locs cells slots Q (F0 m pc ls (.int (nI x) :: .ref (gAd X 8 0) :: rest)) := g_put C hR hS (gI_r (by decide)) rfl rfl ilX9 tyX9_ok nmX9 5 (by decide) hlink rfl rfl (tyX9_ok 5 (by decide)) (by rcases (show x = 0 ∨ x = 1 by omega) with e | e <;> subst e <;> rfl) (by rcases (show x = 0 ∨ x = 1 by omega) with e | e <;> subst e <;> rfl) (Nat.le_of_ble_eq_true rfl) _ rfl hdg kk
theorem gn_X9_5 {index : Nat} {host : String} (C : gC X own cc ret nL p s m args meth c) (hR : gRep X mem H) (hlink : (own, index, "FarBanksModel", "isKept", "Z", host) ∈ gNf) (hdg : decode cc pc = .ok (.getfield index, 3)) (kk : W p l e R s m args below meth c H locs cells slots Q (F0 m (pc + 3) ls (.int (nI (mem 8 0 5)) :: rest))) : W p l e R s m args below meth c H locs cells slots Q (F0 m pc ls (.ref (gAd X 8 0) :: rest)) := g_getN C hR (gI_r (by decide)) rfl rfl ilX9 5 (by decide) hlink rfl rfl hdg kk
theorem pn_X9_5 {index x : Nat} {host : String} (C : gC X own cc ret nL p s m args meth c) (hR : gRep X mem H) (hS : va_S (gA X) s.heap H locs) (hx9 : x < 2) (hlink : (own, index, "FarBanksModel", "isKept", "Z", host) ∈ gNf) (hdg : decode cc pc = .ok (.putfield index, 3)) (kk : ∀ (H1 : Heap) (locs1 : List Loc), gRep X (gP mem 8 0 (fU (mem 8 0) 5 x)) H1 → va_S (gA X) s.heap H1 locs1 → W p l e R s m args below meth c H1 locs1 cells slots Q (F0 m (pc + 3) ls rest)) : W p l e R s m args below meth c H locs cells slots Q (F0 m pc ls (.int (nI x) :: .ref (gAd X 8 0) :: rest)) := g_putN C hR hS (gI_r (by decide)) rfl rfl ilX9 tyX9_ok nmX9 5 (by decide) hlink rfl rfl (tyX9_ok 5 (by decide)) (by rcases (show x = 0 ∨ x = 1 by omega) with e | e <;> subst e <;> rfl) (by rcases (show x = 0 ∨ x = 1 by omega) with e | e <;> subst e <;> rfl) (Nat.le_of_ble_eq_true rfl) _ rfl hdg kk
theorem gt_X9_6 {index : Nat} (C : gC X own cc ret nL p s m args meth c) (hR : gRep X mem H) (hlink : Cond.fieldLink own index "FarBanksModel" "text" "[I" ∈ wA) (hdg : decode cc pc = .ok (.getfield index, 3)) (kk : W p l e R s m args below meth c H locs cells slots Q (F0 m (pc + 3) ls (.ref (gAd X 8 5) :: rest))) : W p l e R s m args below meth c H locs cells slots Q (F0 m pc ls (.ref (gAd X 8 0) :: rest)) := g_get C hR (gI_r (by decide)) rfl rfl ilX9 6 (by decide) hlink rfl rfl hdg kk
theorem gn_X9_6 {index : Nat} {host : String} (C : gC X own cc ret nL p s m args meth c) (hR : gRep X mem H) (hlink : (own, index, "FarBanksModel", "text", "[I", host) ∈ gNf) (hdg : decode cc pc = .ok (.getfield index, 3)) (kk : W p l e R s m args below meth c H locs cells slots Q (F0 m (pc + 3) ls (.ref (gAd X 8 5) :: rest))) : W p l e R s m args below meth c H locs cells slots Q (F0 m pc ls (.ref (gAd X 8 0) :: rest)) := g_getN C hR (gI_r (by decide)) rfl rfl ilX9 6 (by decide) hlink rfl rfl hdg kk
theorem gt_X9_7 {index : Nat} (C : gC X own cc ret nL p s m args meth c) (hR : gRep X mem H) (hlink : Cond.fieldLink own index "FarBanksModel" "length" "I" ∈ wA) (hdg : decode cc pc = .ok (.getfield index, 3)) (kk : W p l e R s m args below meth c H locs cells slots Q (F0 m (pc + 3) ls (.int (nI (mem 8 0 7)) :: rest))) : W p l e R s m args below meth c H locs cells slots Q (F0 m pc ls (.ref (gAd X 8 0) :: rest)) := g_get C hR (gI_r (by decide)) rfl rfl ilX9 7 (by decide) hlink rfl rfl hdg kk
theorem pt_X9_7 {index x : Nat} (C : gC X own cc ret nL p s m args meth c) (hR : gRep X mem H) (hS : va_S (gA X) s.heap H locs) (hlink : Cond.fieldLink own index "FarBanksModel" "length" "I" ∈ wA) (hdg : decode cc pc = .ok (.putfield index, 3)) (kk : ∀ (H1 : Heap) (locs1 : List Loc), gRep X (gP mem 8 0 (fU (mem 8 0) 7 x)) H1 → va_S (gA X) s.heap H1 locs1 → W p l e R s m args below meth c H1 locs1 cells slots Q (F0 m (pc + 3) ls rest)) : W p l e R s m args below meth c H locs cells slots Q (F0 m pc ls (.int (nI x) :: .ref (gAd X 8 0) :: rest)) := g_put C hR hS (gI_r (by decide)) rfl rfl ilX9 tyX9_ok nmX9 7 (by decide) hlink rfl rfl (tyX9_ok 7 (by decide)) rfl rfl (Nat.le_of_ble_eq_true rfl) _ rfl hdg kk
theorem gn_X9_7 {index : Nat} {host : String} (C : gC X own cc ret nL p s m args meth c) (hR : gRep X mem H) (hlink : (own, index, "FarBanksModel", "length", "I", host) ∈ gNf) (hdg : decode cc pc = .ok (.getfield index, 3)) (kk : W p l e R s m args below meth c H locs cells slots Q (F0 m (pc + 3) ls (.int (nI (mem 8 0 7)) :: rest))) : W p l e R s m args below meth c H locs cells slots Q (F0 m pc ls (.ref (gAd X 8 0) :: rest)) := g_getN C hR (gI_r (by decide)) rfl rfl ilX9 7 (by decide) hlink rfl rfl hdg kk
theorem pn_X9_7 {index x : Nat} {host : String} (C : gC X own cc ret nL p s m args meth c) (hR : gRep X mem H) (hS : va_S (gA X) s.heap H locs) (hlink : (own, index, "FarBanksModel", "length", "I", host) ∈ gNf) (hdg : decode cc pc = .ok (.putfield index, 3)) (kk : ∀ (H1 : Heap) (locs1 : List Loc), gRep X (gP mem 8 0 (fU (mem 8 0) 7 x)) H1 → va_S (gA X) s.heap H1 locs1 → W p l e R s m args below meth c H1 locs1 cells slots Q (F0 m (pc + 3) ls rest)) : W p l e R s m args below meth c H locs cells slots Q (F0 m pc ls (.int (nI x) :: .ref (gAd X 8 0) :: rest)) := g_putN C hR hS (gI_r (by decide)) rfl rfl ilX9 tyX9_ok nmX9 7 (by decide) hlink rfl rfl (tyX9_ok 7 (by decide)) rfl rfl (Nat.le_of_ble_eq_true rfl) _ rfl hdg kk
theorem gt_X9_8 {index : Nat} (C : gC X own cc ret nL p s m args meth c) (hR : gRep X mem H) (hlink : Cond.fieldLink own index "FarBanksModel" "place" "I" ∈ wA) (hdg : decode cc pc = .ok (.getfield index, 3)) (kk : W p l e R s m args below meth c H locs cells slots Q (F0 m (pc + 3) ls (.int (nI (mem 8 0 8)) :: rest))) : W p l e R s m args below meth c H locs cells slots Q (F0 m pc ls (.ref (gAd X 8 0) :: rest)) := g_get C hR (gI_r (by decide)) rfl rfl ilX9 8 (by decide) hlink rfl rfl hdg kk
theorem pt_X9_8 {index x : Nat} (C : gC X own cc ret nL p s m args meth c) (hR : gRep X mem H) (hS : va_S (gA X) s.heap H locs) (hlink : Cond.fieldLink own index "FarBanksModel" "place" "I" ∈ wA) (hdg : decode cc pc = .ok (.putfield index, 3)) (kk : ∀ (H1 : Heap) (locs1 : List Loc), gRep X (gP mem 8 0 (fU (mem 8 0) 8 x)) H1 → va_S (gA X) s.heap H1 locs1 → W p l e R s m args below meth c H1 locs1 cells slots Q (F0 m (pc + 3) ls rest)) : W p l e R s m args below meth c H locs cells slots Q (F0 m pc ls (.int (nI x) :: .ref (gAd X 8 0) :: rest)) := g_put C hR hS (gI_r (by decide)) rfl rfl ilX9 tyX9_ok nmX9 8 (by decide) hlink rfl rfl (tyX9_ok 8 (by decide)) rfl rfl (Nat.le_of_ble_eq_true rfl) _ rfl hdg kk
theorem gn_X9_8 {index : Nat} {host : String} (C : gC X own cc ret nL p s m args meth c) (hR : gRep X mem H) (hlink : (own, index, "FarBanksModel", "place", "I", host) ∈ gNf) (hdg : decode cc pc = .ok (.getfield index, 3)) (kk : W p l e R s m args below meth c H locs cells slots Q (F0 m (pc + 3) ls (.int (nI (mem 8 0 8)) :: rest))) : W p l e R s m args below meth c H locs cells slots Q (F0 m pc ls (.ref (gAd X 8 0) :: rest)) := g_getN C hR (gI_r (by decide)) rfl rfl ilX9 8 (by decide) hlink rfl rfl hdg kk
theorem pn_X9_8 {index x : Nat} {host : String} (C : gC X own cc ret nL p s m args meth c) (hR : gRep X mem H) (hS : va_S (gA X) s.heap H locs) (hlink : (own, index, "FarBanksModel", "place", "I", host) ∈ gNf) (hdg : decode cc pc = .ok (.putfield index, 3)) (kk : ∀ (H1 : Heap) (locs1 : List Loc), gRep X (gP mem 8 0 (fU (mem 8 0) 8 x)) H1 → va_S (gA X) s.heap H1 locs1 → W p l e R s m args below meth c H1 locs1 cells slots Q (F0 m (pc + 3) ls rest)) : W p l e R s m args below meth c H locs cells slots Q (F0 m pc ls (.int (nI x) :: .ref (gAd X 8 0) :: rest)) := g_putN C hR hS (gI_r (by decide)) rfl rfl ilX9 tyX9_ok nmX9 8 (by decide) hlink rfl rfl (tyX9_ok 8 (by decide)) rfl rfl (Nat.le_of_ble_eq_true rfl) _ rfl hdg kk
theorem gt_X9_9 {index : Nat} (C : gC X own cc ret nL p s m args meth c) (hR : gRep X mem H) (hlink : Cond.fieldLink own index "FarBanksModel" "isWrong" "Z" ∈ wA) (hdg : decode cc pc = .ok (.getfield index, 3)) (kk : W p l e R s m args below meth c H locs cells slots Q (F0 m (pc + 3) ls (.int (nI (mem 8 0 9)) :: rest))) : W p l e R s m args below meth c H locs cells slots Q (F0 m pc ls (.ref (gAd X 8 0) :: rest)) := g_get C hR (gI_r (by decide)) rfl rfl ilX9 9 (by decide) hlink rfl rfl hdg kk
theorem pt_X9_9 {index x : Nat} (C : gC X own cc ret nL p s m args meth c) (hR : gRep X mem H) (hS : va_S (gA X) s.heap H locs) (hx9 : x < 2) (hlink : Cond.fieldLink own index "FarBanksModel" "isWrong" "Z" ∈ wA) (hdg : decode cc pc = .ok (.putfield index, 3)) (kk : ∀ (H1 : Heap) (locs1 : List Loc), gRep X (gP mem 8 0 (fU (mem 8 0) 9 x)) H1 → va_S (gA X) s.heap H1 locs1 → W p l e R s m args below meth c H1 locs1 cells slots Q (F0 m (pc + 3) ls rest)) : W p l e R s m args below meth c H locs cells slots Q (F0 m pc ls (.int (nI x) :: .ref (gAd X 8 0) :: rest)) := g_put C hR hS (gI_r (by decide)) rfl rfl ilX9 tyX9_ok nmX9 9 (by decide) hlink rfl rfl (tyX9_ok 9 (by decide)) (by rcases (show x = 0 ∨ x = 1 by omega) with e | e <;> subst e <;> rfl) (by rcases (show x = 0 ∨ x = 1 by omega) with e | e <;> subst e <;> rfl) (Nat.le_of_ble_eq_true rfl) _ rfl hdg kk
theorem gn_X9_9 {index : Nat} {host : String} (C : gC X own cc ret nL p s m args meth c) (hR : gRep X mem H) (hlink : (own, index, "FarBanksModel", "isWrong", "Z", host) ∈ gNf) (hdg : decode cc pc = .ok (.getfield index, 3)) (kk : W p l e R s m args below meth c H locs cells slots Q (F0 m (pc + 3) ls (.int (nI (mem 8 0 9)) :: rest))) : W p l e R s m args below meth c H locs cells slots Q (F0 m pc ls (.ref (gAd X 8 0) :: rest)) := g_getN C hR (gI_r (by decide)) rfl rfl ilX9 9 (by decide) hlink rfl rfl hdg kk
theorem pn_X9_9 {index x : Nat} {host : String} (C : gC X own cc ret nL p s m args meth c) (hR : gRep X mem H) (hS : va_S (gA X) s.heap H locs) (hx9 : x < 2) (hlink : (own, index, "FarBanksModel", "isWrong", "Z", host) ∈ gNf) (hdg : decode cc pc = .ok (.putfield index, 3)) (kk : ∀ (H1 : Heap) (locs1 : List Loc), gRep X (gP mem 8 0 (fU (mem 8 0) 9 x)) H1 → va_S (gA X) s.heap H1 locs1 → W p l e R s m args below meth c H1 locs1 cells slots Q (F0 m (pc + 3) ls rest)) : W p l e R s m args below meth c H locs cells slots Q (F0 m pc ls (.int (nI x) :: .ref (gAd X 8 0) :: rest)) := g_putN C hR hS (gI_r (by decide)) rfl rfl ilX9 tyX9_ok nmX9 9 (by decide) hlink rfl rfl (tyX9_ok 9 (by decide)) (by rcases (show x = 0 ∨ x = 1 by omega) with e | e <;> subst e <;> rfl) (by rcases (show x = 0 ∨ x = 1 by omega) with e | e <;> subst e <;> rfl) (Nat.le_of_ble_eq_true rfl) _ rfl hdg kk
theorem gt_X9_10 {index : Nat} (C : gC X own cc ret nL p s m args meth c) (hR : gRep X mem H) (hlink : Cond.fieldLink own index "FarBanksModel" "orders" "[I" ∈ wA) (hdg : decode cc pc = .ok (.getfield index, 3)) (kk : W p l e R s m args below meth c H locs cells slots Q (F0 m (pc + 3) ls (.ref (gAd X 8 6) :: rest))) : W p l e R s m args below meth c H locs cells slots Q (F0 m pc ls (.ref (gAd X 8 0) :: rest)) := g_get C hR (gI_r (by decide)) rfl rfl ilX9 10 (by decide) hlink rfl rfl hdg kk
theorem gn_X9_10 {index : Nat} {host : String} (C : gC X own cc ret nL p s m args meth c) (hR : gRep X mem H) (hlink : (own, index, "FarBanksModel", "orders", "[I", host) ∈ gNf) (hdg : decode cc pc = .ok (.getfield index, 3)) (kk : W p l e R s m args below meth c H locs cells slots Q (F0 m (pc + 3) ls (.ref (gAd X 8 6) :: rest))) : W p l e R s m args below meth c H locs cells slots Q (F0 m pc ls (.ref (gAd X 8 0) :: rest)) := g_getN C hR (gI_r (by decide)) rfl rfl ilX9 10 (by decide) hlink rfl rfl hdg kk
theorem gt_X9_11 {index : Nat} (C : gC X own cc ret nL p s m args meth c) (hR : gRep X mem H) (hlink : Cond.fieldLink own index "FarBanksModel" "many" "I" ∈ wA) (hdg : decode cc pc = .ok (.getfield index, 3)) (kk : W p l e R s m args below meth c H locs cells slots Q (F0 m (pc + 3) ls (.int (nI (mem 8 0 11)) :: rest))) : W p l e R s m args below meth c H locs cells slots Q (F0 m pc ls (.ref (gAd X 8 0) :: rest)) := g_get C hR (gI_r (by decide)) rfl rfl ilX9 11 (by decide) hlink rfl rfl hdg kk
theorem pt_X9_11 {index x : Nat} (C : gC X own cc ret nL p s m args meth c) (hR : gRep X mem H) (hS : va_S (gA X) s.heap H locs) (hlink : Cond.fieldLink own index "FarBanksModel" "many" "I" ∈ wA) (hdg : decode cc pc = .ok (.putfield index, 3)) (kk : ∀ (H1 : Heap) (locs1 : List Loc), gRep X (gP mem 8 0 (fU (mem 8 0) 11 x)) H1 → va_S (gA X) s.heap H1 locs1 → W p l e R s m args below meth c H1 locs1 cells slots Q (F0 m (pc + 3) ls rest)) : W p l e R s m args below meth c H locs cells slots Q (F0 m pc ls (.int (nI x) :: .ref (gAd X 8 0) :: rest)) := g_put C hR hS (gI_r (by decide)) rfl rfl ilX9 tyX9_ok nmX9 11 (by decide) hlink rfl rfl (tyX9_ok 11 (by decide)) rfl rfl (Nat.le_of_ble_eq_true rfl) _ rfl hdg kk
theorem gn_X9_11 {index : Nat} {host : String} (C : gC X own cc ret nL p s m args meth c) (hR : gRep X mem H) (hlink : (own, index, "FarBanksModel", "many", "I", host) ∈ gNf) (hdg : decode cc pc = .ok (.getfield index, 3)) (kk : W p l e R s m args below meth c H locs cells slots Q (F0 m (pc + 3) ls (.int (nI (mem 8 0 11)) :: rest))) : W p l e R s m args below meth c H locs cells slots Q (F0 m pc ls (.ref (gAd X 8 0) :: rest)) := g_getN C hR (gI_r (by decide)) rfl rfl ilX9 11 (by decide) hlink rfl rfl hdg kk
theorem pn_X9_11 {index x : Nat} {host : String} (C : gC X own cc ret nL p s m args meth c) (hR : gRep X mem H) (hS : va_S (gA X) s.heap H locs) (hlink : (own, index, "FarBanksModel", "many", "I", host) ∈ gNf) (hdg : decode cc pc = .ok (.putfield index, 3)) (kk : ∀ (H1 : Heap) (locs1 : List Loc), gRep X (gP mem 8 0 (fU (mem 8 0) 11 x)) H1 → va_S (gA X) s.heap H1 locs1 → W p l e R s m args below meth c H1 locs1 cells slots Q (F0 m (pc + 3) ls rest)) : W p l e R s m args below meth c H locs cells slots Q (F0 m pc ls (.int (nI x) :: .ref (gAd X 8 0) :: rest)) := g_putN C hR hS (gI_r (by decide)) rfl rfl ilX9 tyX9_ok nmX9 11 (by decide) hlink rfl rfl (tyX9_ok 11 (by decide)) rfl rfl (Nat.le_of_ble_eq_true rfl) _ rfl hdg kk
theorem g_iald_w {k o a n i : Nat} (C : gC X own cc ret nL p s m args meth c) (hw : gRow k o a n) (hR : gRep X mem H) (hi : i < n) (hdg : decode cc pc = .ok (.iaload, 1)) (kk : W p l e R s m args below meth c H locs cells slots Q (F0 m (pc + 1) ls (.int (nI (mem k a i)) :: rest))) : W p l e R s m args below meth c H locs cells slots Q (F0 m pc ls (.int (nI i) :: .ref (gAd X k a) :: rest)) := g_iald C hR hw.2.1 (hw.2.2.2.2 X) hi hw.2.2.1 hdg kk
theorem g_iast_w {k o a n i x : Nat} (C : gC X own cc ret nL p s m args meth c) (hw : gRow k o a n) (hR : gRep X mem H) (hS : va_S (gA X) s.heap H locs) (hi : i < n) (hdg : decode cc pc = .ok (.iastore, 1)) (kk : ∀ (H1 : Heap) (locs1 : List Loc), gRep X (gP mem k a (fU (mem k a) i x)) H1 → va_S (gA X) s.heap H1 locs1 → W p l e R s m args below meth c H1 locs1 cells slots Q (F0 m (pc + 1) ls rest)) : W p l e R s m args below meth c H locs cells slots Q (F0 m pc ls (.int (nI x) :: .int (nI i) :: .ref (gAd X k a) :: rest)) := g_iast C hR hS hw.2.1 (hw.2.2.2.2 X) hi hw.2.2.1 hdg kk
theorem g_alen_w {k o a n : Nat} (C : gC X own cc ret nL p s m args meth c) (hw : gRow k o a n) (hR : gRep X mem H) (hdg : decode cc pc = .ok (.arraylength, 1)) (kk : W p l e R s m args below meth c H locs cells slots Q (F0 m (pc + 1) ls (.int (nI n) :: rest))) : W p l e R s m args below meth c H locs cells slots Q (F0 m pc ls (.ref (gAd X k a) :: rest)) := g_alen C hR hw.2.1 (hw.2.2.2.2 X) hdg kk
end GD
theorem md_J0_charAt_5068e : gMd yJ0_charAt_5068e cJ0_charAt_5068e 2 (some .char) 1 := ⟨im_J0_charAt_5068e, se_J0_charAt_5068e, co_J0_charAt_5068e, in_J0, by decide +kernel⟩
theorem md_J0_checkIndex_df160 : gMs yJ0_checkIndex_df160 cJ0_checkIndex_df160 2 none 2 := ⟨st_J0_checkIndex_df160, co_J0_checkIndex_df160, in_J0, by decide +kernel⟩
theorem md_J0_coder_7d493 : gMd yJ0_coder_7d493 cJ0_coder_7d493 1 (some .byte) 0 := ⟨im_J0_coder_7d493, se_J0_coder_7d493, co_J0_coder_7d493, in_J0, by decide +kernel⟩
theorem md_J0_isLatin1_aae02 : gMd yJ0_isLatin1_aae02 cJ0_isLatin1_aae02 1 (some .boolean) 0 := ⟨im_J0_isLatin1_aae02, se_J0_isLatin1_aae02, co_J0_isLatin1_aae02, in_J0, by decide +kernel⟩
theorem md_J0_length_8abf5 : gMd yJ0_length_8abf5 cJ0_length_8abf5 1 (some .int) 0 := ⟨im_J0_length_8abf5, se_J0_length_8abf5, co_J0_length_8abf5, in_J0, by decide +kernel⟩
theorem md_J1_charAt_3b067 : gMs yJ1_charAt_3b067 cJ1_charAt_3b067 2 (some .char) 2 := ⟨st_J1_charAt_3b067, co_J1_charAt_3b067, in_J1, by decide +kernel⟩
theorem md_J2_charAt_3b067 : gMs yJ2_charAt_3b067 cJ2_charAt_3b067 2 (some .char) 2 := ⟨st_J2_charAt_3b067, co_J2_charAt_3b067, in_J2, by decide +kernel⟩
theorem md_J2_checkIndex_2214a : gMs yJ2_checkIndex_2214a cJ2_checkIndex_2214a 2 none 2 := ⟨st_J2_checkIndex_2214a, co_J2_checkIndex_2214a, in_J2, by decide +kernel⟩
theorem md_J2_getChar_3b067 : gMs yJ2_getChar_3b067 cJ2_getChar_3b067 2 (some .char) 2 := ⟨st_J2_getChar_3b067, co_J2_getChar_3b067, in_J2, by decide +kernel⟩
theorem md_J2_length_9d52b : gMs yJ2_length_9d52b cJ2_length_9d52b 1 (some .int) 1 := ⟨st_J2_length_9d52b, co_J2_length_9d52b, in_J2, by decide +kernel⟩
theorem md_J3_checkIndex_8e157 : gMs yJ3_checkIndex_8e157 cJ3_checkIndex_8e157 3 (some .int) 3 := ⟨st_J3_checkIndex_8e157, co_J3_checkIndex_8e157, in_J3, by decide +kernel⟩
theorem md_X0_bankAt : gMd yX0_bankAt cX0_bankAt 2 (some .int) 1 := ⟨im_X0_bankAt, se_X0_bankAt, co_X0_bankAt, in_X0, by decide +kernel⟩
theorem md_X0_copyCells : gMd yX0_copyCells cX0_copyCells 4 none 2 := ⟨im_X0_copyCells, se_X0_copyCells, co_X0_copyCells, in_X0, by decide +kernel⟩
theorem md_X0_copyFrom : gMd yX0_copyFrom cX0_copyFrom 2 none 1 := ⟨im_X0_copyFrom, se_X0_copyFrom, co_X0_copyFrom, in_X0, by decide +kernel⟩
theorem md_X0_differencesOf : gMd yX0_differencesOf cX0_differencesOf 5 (some .int) 2 := ⟨im_X0_differencesOf, se_X0_differencesOf, co_X0_differencesOf, in_X0, by decide +kernel⟩
theorem md_X0_fill : gMd yX0_fill cX0_fill 4 none 3 := ⟨im_X0_fill, se_X0_fill, co_X0_fill, in_X0, by decide +kernel⟩
theorem md_X0_indexOf : gMs yX0_indexOf cX0_indexOf 2 (some .int) 2 := ⟨st_X0_indexOf, co_X0_indexOf, in_X0, by decide +kernel⟩
theorem md_X0_isAlone : gMd yX0_isAlone cX0_isAlone 2 (some .boolean) 1 := ⟨im_X0_isAlone, se_X0_isAlone, co_X0_isAlone, in_X0, by decide +kernel⟩
theorem md_X0_numberAt : gMd yX0_numberAt cX0_numberAt 2 (some .int) 1 := ⟨im_X0_numberAt, se_X0_numberAt, co_X0_numberAt, in_X0, by decide +kernel⟩
theorem md_X0_numberIn : gMd yX0_numberIn cX0_numberIn 3 (some .int) 2 := ⟨im_X0_numberIn, se_X0_numberIn, co_X0_numberIn, in_X0, by decide +kernel⟩
theorem md_X0_storeUnlessAlone : gMd yX0_storeUnlessAlone cX0_storeUnlessAlone 4 (some .boolean) 2 := ⟨im_X0_storeUnlessAlone, se_X0_storeUnlessAlone, co_X0_storeUnlessAlone, in_X0, by decide +kernel⟩
theorem md_X0_twinOf : gMd yX0_twinOf cX0_twinOf 6 (some .int) 1 := ⟨im_X0_twinOf, se_X0_twinOf, co_X0_twinOf, in_X0, by decide +kernel⟩
theorem md_X0_usedCellsOf : gMd yX0_usedCellsOf cX0_usedCellsOf 4 (some .int) 1 := ⟨im_X0_usedCellsOf, se_X0_usedCellsOf, co_X0_usedCellsOf, in_X0, by decide +kernel⟩
theorem md_X0_windowsOf : gMd yX0_windowsOf cX0_windowsOf 4 (some .int) 1 := ⟨im_X0_windowsOf, se_X0_windowsOf, co_X0_windowsOf, in_X0, by decide +kernel⟩
theorem md_X1_digitAt : gMs yX1_digitAt cX1_digitAt 3 (some .int) 2 := ⟨st_X1_digitAt, co_X1_digitAt, in_X1, by decide +kernel⟩
theorem md_X1_lengthOfBeginning : gMd yX1_lengthOfBeginning cX1_lengthOfBeginning 4 (some .int) 2 := ⟨im_X1_lengthOfBeginning, se_X1_lengthOfBeginning, co_X1_lengthOfBeginning, in_X1, by decide +kernel⟩
theorem md_X1_mostFirst : gMs yX1_mostFirst cX1_mostFirst 1 (some .int) 1 := ⟨st_X1_mostFirst, co_X1_mostFirst, in_X1, by decide +kernel⟩
theorem md_X1_mostSecond : gMs yX1_mostSecond cX1_mostSecond 1 (some .int) 1 := ⟨st_X1_mostSecond, co_X1_mostSecond, in_X1, by decide +kernel⟩
theorem md_X1_readFrom : gMd yX1_readFrom cX1_readFrom 3 none 1 := ⟨im_X1_readFrom, se_X1_readFrom, co_X1_readFrom, in_X1, by decide +kernel⟩
theorem md_X1_readKind : gMd yX1_readKind cX1_readKind 6 (some .int) 1 := ⟨im_X1_readKind, se_X1_readKind, co_X1_readKind, in_X1, by decide +kernel⟩
theorem md_X1_readNumber : gMd yX1_readNumber cX1_readNumber 5 (some .int) 2 := ⟨im_X1_readNumber, se_X1_readNumber, co_X1_readNumber, in_X1, by decide +kernel⟩
theorem md_X1_readOrder : gMd yX1_readOrder cX1_readOrder 4 (some .int) 1 := ⟨im_X1_readOrder, se_X1_readOrder, co_X1_readOrder, in_X1, by decide +kernel⟩
theorem md_X1_wordOf : gMs yX1_wordOf cX1_wordOf 1 (some (.object "java/lang/String")) 1 := ⟨st_X1_wordOf, co_X1_wordOf, in_X1, by decide +kernel⟩
theorem md_X2_add : gMd yX2_add cX2_add 5 none 3 := ⟨im_X2_add, se_X2_add, co_X2_add, in_X2, by decide +kernel⟩
theorem md_X2_copyFrom : gMd yX2_copyFrom cX2_copyFrom 2 none 1 := ⟨im_X2_copyFrom, se_X2_copyFrom, co_X2_copyFrom, in_X2, by decide +kernel⟩
theorem md_X2_howManyBackTo : gMd yX2_howManyBackTo cX2_howManyBackTo 4 (some .int) 1 := ⟨im_X2_howManyBackTo, se_X2_howManyBackTo, co_X2_howManyBackTo, in_X2, by decide +kernel⟩
theorem md_X2_tell : gMd yX2_tell cX2_tell 3 (some .int) 2 := ⟨im_X2_tell, se_X2_tell, co_X2_tell, in_X2, by decide +kernel⟩
theorem md_X3_bringBack : gMd yX3_bringBack cX3_bringBack 2 none 1 := ⟨im_X3_bringBack, se_X3_bringBack, co_X3_bringBack, in_X3, by decide +kernel⟩
theorem md_X3_dropOldest : gMd yX3_dropOldest cX3_dropOldest 3 none 0 := ⟨im_X3_dropOldest, se_X3_dropOldest, co_X3_dropOldest, in_X3, by decide +kernel⟩
theorem md_X3_remember : gMd yX3_remember cX3_remember 2 none 1 := ⟨im_X3_remember, se_X3_remember, co_X3_remember, in_X3, by decide +kernel⟩
theorem md_X4_callFrom : gMd yX4_callFrom cX4_callFrom 3 none 2 := ⟨im_X4_callFrom, se_X4_callFrom, co_X4_callFrom, in_X4, by decide +kernel⟩
theorem md_X4_carryOut : gMd yX4_carryOut cX4_carryOut 4 none 3 := ⟨im_X4_carryOut, se_X4_carryOut, co_X4_carryOut, in_X4, by decide +kernel⟩
theorem md_X4_comeBack : gMd yX4_comeBack cX4_comeBack 1 none 0 := ⟨im_X4_comeBack, se_X4_comeBack, co_X4_comeBack, in_X4, by decide +kernel⟩
theorem md_X4_copyFrom : gMd yX4_copyFrom cX4_copyFrom 2 none 1 := ⟨im_X4_copyFrom, se_X4_copyFrom, co_X4_copyFrom, in_X4, by decide +kernel⟩
theorem md_X4_hindranceOf : gMd yX4_hindranceOf cX4_hindranceOf 3 (some .int) 2 := ⟨im_X4_hindranceOf, se_X4_hindranceOf, co_X4_hindranceOf, in_X4, by decide +kernel⟩
theorem md_X4_increase : gMd yX4_increase cX4_increase 3 none 1 := ⟨im_X4_increase, se_X4_increase, co_X4_increase, in_X4, by decide +kernel⟩
theorem md_X4_isBeyond : gMs yX4_isBeyond cX4_isBeyond 2 (some .boolean) 2 := ⟨st_X4_isBeyond, co_X4_isBeyond, in_X4, by decide +kernel⟩
theorem md_X4_startAt : gMd yX4_startAt cX4_startAt 2 none 1 := ⟨im_X4_startAt, se_X4_startAt, co_X4_startAt, in_X4, by decide +kernel⟩
theorem md_X4_step : gMd yX4_step cX4_step 5 none 0 := ⟨im_X4_step, se_X4_step, co_X4_step, in_X4, by decide +kernel⟩
theorem md_X4_takeSteps : gMd yX4_takeSteps cX4_takeSteps 3 (some .int) 1 := ⟨im_X4_takeSteps, se_X4_takeSteps, co_X4_takeSteps, in_X4, by decide +kernel⟩
theorem md_X5_copyFrom : gMd yX5_copyFrom cX5_copyFrom 2 none 1 := ⟨im_X5_copyFrom, se_X5_copyFrom, co_X5_copyFrom, in_X5, by decide +kernel⟩
theorem md_X5_differencesTo : gMd yX5_differencesTo cX5_differencesTo 4 (some .int) 1 := ⟨im_X5_differencesTo, se_X5_differencesTo, co_X5_differencesTo, in_X5, by decide +kernel⟩
theorem md_X5_read : gMd yX5_read cX5_read 2 (some .int) 1 := ⟨im_X5_read, se_X5_read, co_X5_read, in_X5, by decide +kernel⟩
theorem md_X5_sum : gMd yX5_sum cX5_sum 6 (some .int) 0 := ⟨im_X5_sum, se_X5_sum, co_X5_sum, in_X5, by decide +kernel⟩
theorem md_X5_write : gMd yX5_write cX5_write 3 none 2 := ⟨im_X5_write, se_X5_write, co_X5_write, in_X5, by decide +kernel⟩
theorem md_X6_append : gMd yX6_append cX6_append 2 none 1 := ⟨im_X6_append, se_X6_append, co_X6_append, in_X6, by decide +kernel⟩
theorem md_X6_at : gMd yX6_at cX6_at 2 (some .int) 1 := ⟨im_X6_at, se_X6_at, co_X6_at, in_X6, by decide +kernel⟩
theorem md_X6_isFull : gMd yX6_isFull cX6_isFull 1 (some .boolean) 0 := ⟨im_X6_isFull, se_X6_isFull, co_X6_isFull, in_X6, by decide +kernel⟩
theorem md_X7_add : gMd yX7_add cX7_add 5 none 3 := ⟨im_X7_add, se_X7_add, co_X7_add, in_X7, by decide +kernel⟩
theorem md_X7_copyFrom : gMd yX7_copyFrom cX7_copyFrom 2 none 1 := ⟨im_X7_copyFrom, se_X7_copyFrom, co_X7_copyFrom, in_X7, by decide +kernel⟩
theorem md_X7_tell : gMd yX7_tell cX7_tell 3 (some .int) 2 := ⟨im_X7_tell, se_X7_tell, co_X7_tell, in_X7, by decide +kernel⟩
theorem md_X8_address : gMd yX8_address cX8_address 3 (some .int) 2 := ⟨im_X8_address, se_X8_address, co_X8_address, in_X8, by decide +kernel⟩
theorem md_X8_assemble : gMd yX8_assemble cX8_assemble 4 (some .int) 2 := ⟨im_X8_assemble, se_X8_assemble, co_X8_assemble, in_X8, by decide +kernel⟩
theorem md_X8_backIn : gMd yX8_backIn cX8_backIn 3 (some .int) 0 := ⟨im_X8_backIn, se_X8_backIn, co_X8_backIn, in_X8, by decide +kernel⟩
theorem md_X8_bank : gMd yX8_bank cX8_bank 3 (some .int) 2 := ⟨im_X8_bank, se_X8_bank, co_X8_bank, in_X8, by decide +kernel⟩
theorem md_X8_begin : gMd yX8_begin cX8_begin 3 (some .int) 1 := ⟨im_X8_begin, se_X8_begin, co_X8_begin, in_X8, by decide +kernel⟩
theorem md_X8_cell : gMd yX8_cell cX8_cell 3 (some .int) 2 := ⟨im_X8_cell, se_X8_cell, co_X8_cell, in_X8, by decide +kernel⟩
theorem md_X8_clearText : gMd yX8_clearText cX8_clearText 2 (some .int) 0 := ⟨im_X8_clearText, se_X8_clearText, co_X8_clearText, in_X8, by decide +kernel⟩
theorem md_X8_copyBank : gMd yX8_copyBank cX8_copyBank 4 (some .int) 2 := ⟨im_X8_copyBank, se_X8_copyBank, co_X8_copyBank, in_X8, by decide +kernel⟩
theorem md_X8_count : gMd yX8_count cX8_count 2 (some .int) 1 := ⟨im_X8_count, se_X8_count, co_X8_count, in_X8, by decide +kernel⟩
theorem md_X8_frame : gMd yX8_frame cX8_frame 3 (some .int) 2 := ⟨im_X8_frame, se_X8_frame, co_X8_frame, in_X8, by decide +kernel⟩
theorem md_X8_ifRun : gMd yX8_ifRun cX8_ifRun 4 (some .int) 2 := ⟨im_X8_ifRun, se_X8_ifRun, co_X8_ifRun, in_X8, by decide +kernel⟩
theorem md_X8_isBelow : gMs yX8_isBelow cX8_isBelow 2 (some .boolean) 2 := ⟨st_X8_isBelow, co_X8_isBelow, in_X8, by decide +kernel⟩
theorem md_X8_isStepsOfRun : gMs yX8_isStepsOfRun cX8_isStepsOfRun 1 (some .boolean) 1 := ⟨st_X8_isStepsOfRun, co_X8_isStepsOfRun, in_X8, by decide +kernel⟩
theorem md_X8_keep : gMd yX8_keep cX8_keep 1 (some .int) 0 := ⟨im_X8_keep, se_X8_keep, co_X8_keep, in_X8, by decide +kernel⟩
theorem md_X8_latest : gMd yX8_latest cX8_latest 3 (some .int) 2 := ⟨im_X8_latest, se_X8_latest, co_X8_latest, in_X8, by decide +kernel⟩
theorem md_X8_lock : gMd yX8_lock cX8_lock 3 (some .int) 2 := ⟨im_X8_lock, se_X8_lock, co_X8_lock, in_X8, by decide +kernel⟩
theorem md_X8_next : gMd yX8_next cX8_next 2 (some .int) 1 := ⟨im_X8_next, se_X8_next, co_X8_next, in_X8, by decide +kernel⟩
theorem md_X8_put : gMd yX8_put cX8_put 5 (some .int) 3 := ⟨im_X8_put, se_X8_put, co_X8_put, in_X8, by decide +kernel⟩
theorem md_X8_restore : gMd yX8_restore cX8_restore 1 (some .int) 0 := ⟨im_X8_restore, se_X8_restore, co_X8_restore, in_X8, by decide +kernel⟩
theorem md_X8_run : gMd yX8_run cX8_run 2 (some .int) 1 := ⟨im_X8_run, se_X8_run, co_X8_run, in_X8, by decide +kernel⟩
theorem md_X8_set : gMd yX8_set cX8_set 3 (some .int) 1 := ⟨im_X8_set, se_X8_set, co_X8_set, in_X8, by decide +kernel⟩
theorem md_X8_show : gMd yX8_show cX8_show 4 (some .int) 2 := ⟨im_X8_show, se_X8_show, co_X8_show, in_X8, by decide +kernel⟩
theorem md_X8_type : gMd yX8_type cX8_type 2 (some .int) 1 := ⟨im_X8_type, se_X8_type, co_X8_type, in_X8, by decide +kernel⟩
theorem md_X8_undo : gMd yX8_undo cX8_undo 1 (some .int) 0 := ⟨im_X8_undo, se_X8_undo, co_X8_undo, in_X8, by decide +kernel⟩
theorem md_X8_window : gMd yX8_window cX8_window 2 (some .int) 1 := ⟨im_X8_window, se_X8_window, co_X8_window, in_X8, by decide +kernel⟩
theorem md_X9_address : gMd yX9_address cX9_address 3 (some .int) 2 := ⟨im_X9_address, se_X9_address, co_X9_address, in_X9, by decide +kernel⟩
theorem md_X9_assemble : gMd yX9_assemble cX9_assemble 5 (some .int) 2 := ⟨im_X9_assemble, se_X9_assemble, co_X9_assemble, in_X9, by decide +kernel⟩
theorem md_X9_back : gMd yX9_back cX9_back 2 none 0 := ⟨im_X9_back, se_X9_back, co_X9_back, in_X9, by decide +kernel⟩
theorem md_X9_backIn : gMd yX9_backIn cX9_backIn 4 (some .int) 0 := ⟨im_X9_backIn, se_X9_backIn, co_X9_backIn, in_X9, by decide +kernel⟩
theorem md_X9_bank : gMd yX9_bank cX9_bank 3 (some .int) 2 := ⟨im_X9_bank, se_X9_bank, co_X9_bank, in_X9, by decide +kernel⟩
theorem md_X9_bankAt : gMd yX9_bankAt cX9_bankAt 2 (some .int) 1 := ⟨im_X9_bankAt, se_X9_bankAt, co_X9_bankAt, in_X9, by decide +kernel⟩
theorem md_X9_begin : gMd yX9_begin cX9_begin 3 (some .int) 1 := ⟨im_X9_begin, se_X9_begin, co_X9_begin, in_X9, by decide +kernel⟩
theorem md_X9_call : gMd yX9_call cX9_call 4 none 2 := ⟨im_X9_call, se_X9_call, co_X9_call, in_X9, by decide +kernel⟩
theorem md_X9_cell : gMd yX9_cell cX9_cell 3 (some .int) 2 := ⟨im_X9_cell, se_X9_cell, co_X9_cell, in_X9, by decide +kernel⟩
theorem md_X9_change : gMd yX9_change cX9_change 4 (some .int) 2 := ⟨im_X9_change, se_X9_change, co_X9_change, in_X9, by decide +kernel⟩
theorem md_X9_clearText : gMd yX9_clearText cX9_clearText 2 (some .int) 0 := ⟨im_X9_clearText, se_X9_clearText, co_X9_clearText, in_X9, by decide +kernel⟩
theorem md_X9_copyBank : gMd yX9_copyBank cX9_copyBank 5 (some .int) 2 := ⟨im_X9_copyBank, se_X9_copyBank, co_X9_copyBank, in_X9, by decide +kernel⟩
theorem md_X9_count : gMd yX9_count cX9_count 2 (some .int) 1 := ⟨im_X9_count, se_X9_count, co_X9_count, in_X9, by decide +kernel⟩
theorem md_X9_doRun : gMd yX9_doRun cX9_doRun 3 (some .int) 1 := ⟨im_X9_doRun, se_X9_doRun, co_X9_doRun, in_X9, by decide +kernel⟩
theorem md_X9_filled : gMd yX9_filled cX9_filled 4 (some .int) 1 := ⟨im_X9_filled, se_X9_filled, co_X9_filled, in_X9, by decide +kernel⟩
theorem md_X9_findFault : gMd yX9_findFault cX9_findFault 2 (some .int) 0 := ⟨im_X9_findFault, se_X9_findFault, co_X9_findFault, in_X9, by decide +kernel⟩
theorem md_X9_frame : gMd yX9_frame cX9_frame 3 (some .int) 2 := ⟨im_X9_frame, se_X9_frame, co_X9_frame, in_X9, by decide +kernel⟩
theorem md_X9_framesTo : gMd yX9_framesTo cX9_framesTo 4 (some .int) 1 := ⟨im_X9_framesTo, se_X9_framesTo, co_X9_framesTo, in_X9, by decide +kernel⟩
theorem md_X9_ifRun : gMd yX9_ifRun cX9_ifRun 5 (some .int) 2 := ⟨im_X9_ifRun, se_X9_ifRun, co_X9_ifRun, in_X9, by decide +kernel⟩
theorem md_X9_in : gMs yX9_in cX9_in 3 (some .boolean) 3 := ⟨st_X9_in, co_X9_in, in_X9, by decide +kernel⟩
theorem md_X9_index : gMs yX9_index cX9_index 2 (some .int) 2 := ⟨st_X9_index, co_X9_index, in_X9, by decide +kernel⟩
theorem md_X9_indexAt : gMd yX9_indexAt cX9_indexAt 2 (some .int) 1 := ⟨im_X9_indexAt, se_X9_indexAt, co_X9_indexAt, in_X9, by decide +kernel⟩
theorem md_X9_isAddress : gMs yX9_isAddress cX9_isAddress 1 (some .boolean) 1 := ⟨st_X9_isAddress, co_X9_isAddress, in_X9, by decide +kernel⟩
theorem md_X9_isBank : gMs yX9_isBank cX9_isBank 1 (some .boolean) 1 := ⟨st_X9_isBank, co_X9_isBank, in_X9, by decide +kernel⟩
theorem md_X9_isCell : gMs yX9_isCell cX9_isCell 1 (some .boolean) 1 := ⟨st_X9_isCell, co_X9_isCell, in_X9, by decide +kernel⟩
theorem md_X9_isWindow : gMs yX9_isWindow cX9_isWindow 1 (some .boolean) 1 := ⟨st_X9_isWindow, co_X9_isWindow, in_X9, by decide +kernel⟩
theorem md_X9_keep : gMd yX9_keep cX9_keep 2 (some .int) 0 := ⟨im_X9_keep, se_X9_keep, co_X9_keep, in_X9, by decide +kernel⟩
theorem md_X9_keepStep : gMd yX9_keepStep cX9_keepStep 4 none 2 := ⟨im_X9_keepStep, se_X9_keepStep, co_X9_keepStep, in_X9, by decide +kernel⟩
theorem md_X9_latest : gMd yX9_latest cX9_latest 3 (some .int) 2 := ⟨im_X9_latest, se_X9_latest, co_X9_latest, in_X9, by decide +kernel⟩
theorem md_X9_lock : gMd yX9_lock cX9_lock 3 (some .int) 2 := ⟨im_X9_lock, se_X9_lock, co_X9_lock, in_X9, by decide +kernel⟩
theorem md_X9_locked : gMd yX9_locked cX9_locked 3 (some .int) 0 := ⟨im_X9_locked, se_X9_locked, co_X9_locked, in_X9, by decide +kernel⟩
theorem md_X9_next : gMd yX9_next cX9_next 4 (some .int) 1 := ⟨im_X9_next, se_X9_next, co_X9_next, in_X9, by decide +kernel⟩
theorem md_X9_order : gMd yX9_order cX9_order 4 none 3 := ⟨im_X9_order, se_X9_order, co_X9_order, in_X9, by decide +kernel⟩
theorem md_X9_put : gMd yX9_put cX9_put 4 (some .int) 3 := ⟨im_X9_put, se_X9_put, co_X9_put, in_X9, by decide +kernel⟩
theorem md_X9_putAside : gMd yX9_putAside cX9_putAside 2 none 0 := ⟨im_X9_putAside, se_X9_putAside, co_X9_putAside, in_X9, by decide +kernel⟩
theorem md_X9_putBack : gMd yX9_putBack cX9_putBack 2 none 0 := ⟨im_X9_putBack, se_X9_putBack, co_X9_putBack, in_X9, by decide +kernel⟩
theorem md_X9_record : gMd yX9_record cX9_record 2 none 0 := ⟨im_X9_record, se_X9_record, co_X9_record, in_X9, by decide +kernel⟩
theorem md_X9_restore : gMd yX9_restore cX9_restore 2 (some .int) 0 := ⟨im_X9_restore, se_X9_restore, co_X9_restore, in_X9, by decide +kernel⟩
theorem md_X9_run : gMd yX9_run cX9_run 2 (some .int) 1 := ⟨im_X9_run, se_X9_run, co_X9_run, in_X9, by decide +kernel⟩
theorem md_X9_sameAs : gMd yX9_sameAs cX9_sameAs 4 (some .int) 1 := ⟨im_X9_sameAs, se_X9_sameAs, co_X9_sameAs, in_X9, by decide +kernel⟩
theorem md_X9_set : gMd yX9_set cX9_set 2 (some .int) 1 := ⟨im_X9_set, se_X9_set, co_X9_set, in_X9, by decide +kernel⟩
theorem md_X9_show : gMd yX9_show cX9_show 3 (some .int) 2 := ⟨im_X9_show, se_X9_show, co_X9_show, in_X9, by decide +kernel⟩
theorem md_X9_sign : gMd yX9_sign cX9_sign 1 (some .int) 0 := ⟨im_X9_sign, se_X9_sign, co_X9_sign, in_X9, by decide +kernel⟩
theorem md_X9_step : gMd yX9_step cX9_step 5 none 0 := ⟨im_X9_step, se_X9_step, co_X9_step, in_X9, by decide +kernel⟩
theorem md_X9_sum : gMs yX9_sum cX9_sum 2 (some .int) 2 := ⟨st_X9_sum, co_X9_sum, in_X9, by decide +kernel⟩
theorem md_X9_take : gMd yX9_take cX9_take 2 none 1 := ⟨im_X9_take, se_X9_take, co_X9_take, in_X9, by decide +kernel⟩
theorem md_X9_takeNumber : gMd yX9_takeNumber cX9_takeNumber 3 (some .int) 1 := ⟨im_X9_takeNumber, se_X9_takeNumber, co_X9_takeNumber, in_X9, by decide +kernel⟩
theorem md_X9_takeOrder : gMd yX9_takeOrder cX9_takeOrder 2 (some .int) 0 := ⟨im_X9_takeOrder, se_X9_takeOrder, co_X9_takeOrder, in_X9, by decide +kernel⟩
theorem md_X9_takeRest : gMd yX9_takeRest cX9_takeRest 5 none 4 := ⟨im_X9_takeRest, se_X9_takeRest, co_X9_takeRest, in_X9, by decide +kernel⟩
theorem md_X9_type : gMd yX9_type cX9_type 2 (some .int) 1 := ⟨im_X9_type, se_X9_type, co_X9_type, in_X9, by decide +kernel⟩
theorem md_X9_undo : gMd yX9_undo cX9_undo 2 (some .int) 0 := ⟨im_X9_undo, se_X9_undo, co_X9_undo, in_X9, by decide +kernel⟩
theorem md_X9_unlikeCells : gMd yX9_unlikeCells cX9_unlikeCells 3 (some .int) 0 := ⟨im_X9_unlikeCells, se_X9_unlikeCells, co_X9_unlikeCells, in_X9, by decide +kernel⟩
theorem md_X9_whyNot : gMd yX9_whyNot cX9_whyNot 4 (some .int) 2 := ⟨im_X9_whyNot, se_X9_whyNot, co_X9_whyNot, in_X9, by decide +kernel⟩
theorem md_X9_window : gMd yX9_window cX9_window 2 (some .int) 1 := ⟨im_X9_window, se_X9_window, co_X9_window, in_X9, by decide +kernel⟩
theorem md_X9_windowsOf : gMd yX9_windowsOf cX9_windowsOf 4 (some .int) 1 := ⟨im_X9_windowsOf, se_X9_windowsOf, co_X9_windowsOf, in_X9, by decide +kernel⟩
theorem md_X9_write : gMd yX9_write cX9_write 3 none 1 := ⟨im_X9_write, se_X9_write, co_X9_write, in_X9, by decide +kernel⟩
end
section
/-! ===== Row ===== -/
def gSum (f : Nat → Nat) : Nat → Nat
  | 0 => 0
  | n + 1 => gSum f n + f n
theorem gRep_arr {X : gX} {mem : gM} {H : Heap} {k a n : Nat} {f f' : Nat → Nat} (h : gRep X (gP mem k a f) H) (hsh : ∀ g, gE X k a g = gAr X n g) (he : ∀ j, j < n → f j = f' j) : gRep X (gP mem k a f') H := gRep_congr h (fun k' o' hv D cl hat => by
  by_cases hko : k' = k ∧ o' = a
  · obtain ⟨rfl, rfl⟩ := hko
    rw [gP_s, hsh] at hat ⊢
    exact gAr_congr he hat
  · rw [gP_n _ _ hko] at hat ⊢
    exact hat)
section GR
variable {p : Program} {l : Launch} {e : Env} {R : Room} {s : State} {m : MethodId} {args : Array Value} {below : List Frame} {meth : Method} {c : Code} {H : Heap} {locs : List Loc} {cells slots : Nat} {Q : State → Prop}
variable {cc : ByteArray} {pc : Nat} {ls : Array Slot} {rest : List Value} {X : gX} {own : String} {ret : Option FieldType} {nL : Nat} {mem : gM}
theorem g_min {index n : Nat} (C : gC X own cc ret nL p s m args meth c) (hz : ls.size = nL) (hlink : Cond.methodLink own index Lib.Math.min.name ∈ wA) (hf : cells ≤ R.cells ∧ slots ≤ R.slots) (hfr : 1 ≤ R.frames) (hlo : (rest.map fun v => v.category).sum + 13 ≤ R.locals) (hdg : decode cc pc = .ok (.invokestatic index, 3)) (kk : W p l e R s m args below meth c H locs cells slots Q (F0 m (pc + 3) ls (.int (nI n) :: rest))) : W p l e R s m args below meth c H locs cells slots Q (F0 m pc ls (.int (nI n) :: .int (nI n) :: rest)) := by
  obtain ⟨hx, hb, -, hml, hown, hA, -, -, hE⟩ := C
  refine va_mmin hx hb (hml.trans hz.symm) hown (hA _ hlink) (hA _ st_min) (hA _ in_J9) (hA _ co_min) hfr hlo hf.1 hf.2 hdg ?_
  rw [ite_self]
  exact kk
theorem g_acopy {index n k a k2 a2 : Nat} (C : gC X own cc ret nL p s m args meth c) (hz : ls.size = nL) (hlink : Cond.methodLink own index arraycopyName ∈ wA) (hR : gRep X mem H) (hS : va_S (gA X) s.heap H locs) (hv : (k, a) ∈ gIds) (hv2 : (k2, a2) ∈ gIds) (hsh : ∀ g, gE X k a g = gAr X n g) (hsh2 : ∀ g, gE X k2 a2 g = gAr X n g) (hn : n < 2 ^ 31) (hfr : 1 ≤ R.frames) (hlo : (rest.map fun v => v.category).sum + (nativeFrameWords "java/lang/System" "arraycopy" 5 + 11) ≤ R.locals) (hdg : decode cc pc = .ok (.invokestatic index, 3)) (kk : ∀ (H1 : Heap) (locs1 : List Loc), gRep X (gP mem k a (mem k2 a2)) H1 → va_S (gA X) s.heap H1 locs1 → W p l e R s m args below meth c H1 locs1 cells slots Q (F0 m (pc + 3) ls rest)) : W p l e R s m args below meth c H locs cells slots Q (F0 m pc ls (.int (nI n) :: .int (nI 0) :: .ref (gAd X k a) :: .int (nI 0) :: .ref (gAd X k2 a2) :: rest)) := by
  obtain ⟨hx, hb, -, hml, hown, hA, -, hI, hE⟩ := C
  obtain ⟨q1, hq⟩ := List.getElem?_of_mem hv
  obtain ⟨q0, hq2⟩ := List.getElem?_of_mem hv2
  have he : (gWs X mem)[q1]? = some (gAd X k a, .inl (gCl X 0, n, .inl (fun j => nI (mem k a j)))) := by rw [gWs_at hq, hsh]; rfl
  have he2 : (gWs X mem)[q0]? = some (gAd X k2 a2, .inl (gCl X 0, n, .inl (fun j => nI (mem k2 a2 j)))) := by rw [gWs_at hq2, hsh2]; rfl
  refine va_copyi hx hb (hml.trans hz.symm) hown (hA _ hlink) (hA _ nt_acopy) (hA _ st_acopy) (hA _ in_J10) hE.1 hR (hI mem) hS q0 q1 0 0 he2 he rfl rfl rfl (nI_pos (by decide)) (nI_pos (by decide)) (nI_pos hn) (by rw [nI_clamp hn, nI_clamp (by decide)]; omega) (by rw [nI_clamp hn, nI_clamp (by decide)]; omega) (fun i _ => rfl) hfr hlo hdg (fun H1 locs1 hP hD hS1 => kk H1 locs1 ?_ hS1)
  rw [nI_clamp hn, nI_clamp (by decide)] at hP
  have e9 : (.inl (gCl X 0, n, .inl (va_cpy (fun j => nI (mem k2 a2 j)) (fun j => nI (mem k a j)) 0 0 n)) : va_E) = gE X k a (fun j => if j < n then mem k2 a2 j else mem k a j) := by
    rw [hsh]
    show _ = (.inl (gCl X 0, n, .inl (fun j => nI (if j < n then mem k2 a2 j else mem k a j))) : va_E)
    have e8 : va_cpy (fun j => nI (mem k2 a2 j)) (fun j => nI (mem k a j)) 0 0 n = fun j => nI (if j < n then mem k2 a2 j else mem k a j) := by
      funext j
      unfold va_cpy
      by_cases h : j < n
      · rw [if_pos ⟨Nat.zero_le _, by omega⟩, if_pos h, Nat.zero_add, Nat.sub_zero]
      · rw [if_neg (by omega), if_neg h]
    rw [e8]
  rw [e9, gWs_set hq] at hP
  exact gRep_arr hP hsh (fun j hj => if_pos hj)
end GR
set_option maxRecDepth 100000 in
set_option maxHeartbeats 4000000 in
/-- Row.read, in range -/
theorem c_X5_read (l : Launch) {X : gX} (hI : gInj X) {mem : gM} {k o a n i : Nat} (hw : gRow k o a n) (hi : i < n) : gF l yX5_read cX5_read 2 (some .int) 0 0 X [.ref (gAd X k o), .int (nI i)] mem (some (.int (nI (mem k a i)))) mem := by
  refine gMt.of (own := RX5) (by decide) rfl hI (by simp [Value.category]) (Nat.le_of_ble_eq_true rfl) ?_
  intro p e s m args below meth c ls H locs C hnm hl hR hS
  have hn := hw.2.2.1
  refine g_iload_n C hl dX5_read_0 rfl ?_
  refine g_if_lt (tgt := 22) C dX5_read_1 (by decide) (by omega) ?_
  refine g_iload_n C hl dX5_read_4 rfl ?_
  refine g_aload_n C hl dX5_read_5 rfl ?_
  refine gt_X5 C hw hR fl_X5_13 dX5_read_6 ?_
  refine g_alen_w C hw hR dX5_read_9 ?_
  refine g_icmp_ge (tgt := 22) C dX5_read_10 (by decide) (by omega) (by omega) (fun z9 => absurd z9 (by omega)) (fun c10 => ?_)
  refine g_aload_n C hl dX5_read_13 rfl ?_
  refine gt_X5 C hw hR fl_X5_13 dX5_read_14 ?_
  refine g_iload_n C hl dX5_read_17 rfl ?_
  refine g_iald_w C hw hR (by omega) dX5_read_18 ?_
  refine g_goto (tgt := 23) C dX5_read_19 (by decide) ?_
  refine g_iret C hR hS dX5_read_23 ?_
  exact ⟨rfl, rfl⟩
set_option maxRecDepth 100000 in
set_option maxHeartbeats 4000000 in
/-- Row.write, in range -/
theorem c_X5_write (l : Launch) {X : gX} (hI : gInj X) {mem : gM} {k o a n i x : Nat} (hw : gRow k o a n) (hi : i < n) : gF l yX5_write cX5_write 3 none 0 0 X [.ref (gAd X k o), .int (nI i), .int (nI x)] mem none (gP mem k a (fU (mem k a) i x)) := by
  refine gMt.of (own := RX5) (by decide) rfl hI (by simp [Value.category]) (Nat.le_of_ble_eq_true rfl) ?_
  intro p e s m args below meth c ls H locs C hnm hl hR hS
  have hn := hw.2.2.1
  refine g_iload_n C hl dX5_write_0 rfl ?_
  refine g_if_lt (tgt := 20) C dX5_write_1 (by decide) (by omega) ?_
  refine g_iload_n C hl dX5_write_4 rfl ?_
  refine g_aload_n C hl dX5_write_5 rfl ?_
  refine gt_X5 C hw hR fl_X5_13 dX5_write_6 ?_
  refine g_alen_w C hw hR dX5_write_9 ?_
  refine g_icmp_ge (tgt := 20) C dX5_write_10 (by decide) (by omega) (by omega) (fun z9 => absurd z9 (by omega)) (fun c10 => ?_)
  refine g_aload_n C hl dX5_write_13 rfl ?_
  refine gt_X5 C hw hR fl_X5_13 dX5_write_14 ?_
  refine g_iload_n C hl dX5_write_17 rfl ?_
  refine g_iload_n C hl dX5_write_18 rfl ?_
  refine g_iast_w C hw hR hS (by omega) dX5_write_19 (fun H locs hR hS => ?_)
  refine g_vret C hR hS dX5_write_20 ?_
  exact ⟨rfl, rfl⟩
set_option maxRecDepth 100000 in
set_option maxHeartbeats 4000000 in
/-- Row.write, beyond -/
theorem c_X5_write_out (l : Launch) {X : gX} (hI : gInj X) {mem : gM} {k o a n i x : Nat} (hw : gRow k o a n) (hi : n ≤ i) (hi2 : i < 2 ^ 31) : gF l yX5_write cX5_write 3 none 0 0 X [.ref (gAd X k o), .int (nI i), .int (nI x)] mem none mem := by
  refine gMt.of (own := RX5) (by decide) rfl hI (by simp [Value.category]) (Nat.le_of_ble_eq_true rfl) ?_
  intro p e s m args below meth c ls H locs C hnm hl hR hS
  have hn := hw.2.2.1
  refine g_iload_n C hl dX5_write_0 rfl ?_
  refine g_if_lt (tgt := 20) C dX5_write_1 (by decide) (by omega) ?_
  refine g_iload_n C hl dX5_write_4 rfl ?_
  refine g_aload_n C hl dX5_write_5 rfl ?_
  refine gt_X5 C hw hR fl_X5_13 dX5_write_6 ?_
  refine g_alen_w C hw hR dX5_write_9 ?_
  refine g_icmp_ge (tgt := 20) C dX5_write_10 (by decide) (by omega) (by omega) (fun c10 => ?_) (fun z9 => absurd z9 (by omega))
  refine g_vret C hR hS dX5_write_20 ?_
  exact ⟨rfl, rfl⟩
set_option maxRecDepth 100000 in
set_option maxHeartbeats 4000000 in
/-- Row.sum -/
theorem c_X5_sum (l : Launch) {X : gX} (hI : gInj X) {mem : gM} {k o a n : Nat} (hw : gRow k o a n) : gF l yX5_sum cX5_sum 6 (some .int) 0 0 X [.ref (gAd X k o)] mem (some (.int (nI (gSum (mem k a) n)))) mem := by
  refine gMt.of (own := RX5) (by decide) rfl hI (by simp [Value.category]) (Nat.le_of_ble_eq_true rfl) ?_
  intro p e s m args below meth c ls H locs C hnm hl hR hS
  have hn := hw.2.2.1
  have loop : ∀ (d i : Nat), i + d = n → ∀ (ls : Array Slot) (w : Option Value), gL ls [some (.ref (gAd X k o)), some (.int (nI (gSum (mem k a) i))), some (.ref (gAd X k a)), some (.int (nI n)), some (.int (nI i)), w] → W p l e { frames := 0, cells := 0, slots := 0, locals := 0 } s m args below meth c H locs 0 0 (MQ below (gQ X (fun v m => v = some (.int (nI (gSum (mem k a) n))) ∧ m = mem)) args s 0 0 (gA X)) (F0 m 13 ls []) := by
    intro d
    induction d with
    | zero =>
      intro i hi ls w hl
      have hi2 : i = n := by omega
      subst hi2
      refine g_iload C hl dX5_sum_13 rfl ?_
      refine g_iload_n C hl dX5_sum_15 rfl ?_
      refine g_icmp_ge (tgt := 36) C dX5_sum_16 (by decide) (by omega) (by omega) (fun c16 => ?_) (fun z9 => absurd z9 (by omega))
      refine g_iload_n C hl dX5_sum_36 rfl ?_
      refine g_iret C hR hS dX5_sum_37 ?_
      exact ⟨rfl, rfl⟩
    | succ d ih =>
      intro i hi ls w hl
      refine g_iload C hl dX5_sum_13 rfl ?_
      refine g_iload_n C hl dX5_sum_15 rfl ?_
      refine g_icmp_ge (tgt := 36) C dX5_sum_16 (by decide) (by omega) (by omega) (fun z9 => absurd z9 (by omega)) (fun c16 => ?_)
      refine g_aload_n C hl dX5_sum_19 rfl ?_
      refine g_iload C hl dX5_sum_20 rfl ?_
      refine g_iald_w C hw hR (by omega) dX5_sum_22 ?_
      refine g_istore C hl dX5_sum_23 (Nat.le_of_ble_eq_true rfl) (fun ls hl => ?_)
      refine g_iload_n C hl dX5_sum_25 rfl ?_
      refine g_iload C hl dX5_sum_26 rfl ?_
      refine g_iadd C dX5_sum_28 ?_
      refine g_istore_n C hl dX5_sum_29 (Nat.le_of_ble_eq_true rfl) (fun ls hl => ?_)
      refine g_iinc (k := 1) C hl dX5_sum_30 rfl (by decide) (fun ls hl => ?_)
      refine g_goto (tgt := 13) C dX5_sum_33 (by decide) ?_
      exact ih (i + 1) (by omega) _ _ hl
  refine g_iconst 0 C dX5_sum_0 (by decide) ?_
  refine g_istore_n C hl dX5_sum_1 (Nat.le_of_ble_eq_true rfl) (fun ls hl => ?_)
  refine g_aload_n C hl dX5_sum_2 rfl ?_
  refine gt_X5 C hw hR fl_X5_13 dX5_sum_3 ?_
  refine g_astore_n C hl dX5_sum_6 (Nat.le_of_ble_eq_true rfl) (fun ls hl => ?_)
  refine g_aload_n C hl dX5_sum_7 rfl ?_
  refine g_alen_w C hw hR dX5_sum_8 ?_
  refine g_istore_n C hl dX5_sum_9 (Nat.le_of_ble_eq_true rfl) (fun ls hl => ?_)
  refine g_iconst 0 C dX5_sum_10 (by decide) ?_
  refine g_istore C hl dX5_sum_11 (Nat.le_of_ble_eq_true rfl) (fun ls hl => ?_)
  exact loop n 0 (by omega) _ _ hl
set_option maxRecDepth 100000 in
set_option maxHeartbeats 4000000 in
/-- Row.copyFrom, of one length -/
theorem c_X5_copyFrom (l : Launch) {X : gX} (hI : gInj X) {mem : gM} {k o a n k2 o2 a2 : Nat} (hw : gRow k o a n) (hw2 : gRow k2 o2 a2 n) : gF l yX5_copyFrom cX5_copyFrom 2 none 1 48 X [.ref (gAd X k o), .ref (gAd X k2 o2)] mem none (gP mem k a (mem k2 a2)) := by
  refine gMt.of (own := RX5) (by decide) rfl hI (by simp [Value.category]) (Nat.le_of_ble_eq_true rfl) ?_
  intro p e s m args below meth c ls H locs C hnm hl hR hS
  refine g_aload_n C hl dX5_copyFrom_0 rfl ?_
  refine gt_X5 C hw2 hR fl_X5_13 dX5_copyFrom_1 ?_
  refine g_iconst 0 C dX5_copyFrom_4 (by decide) ?_
  refine g_aload_n C hl dX5_copyFrom_5 rfl ?_
  refine gt_X5 C hw hR fl_X5_13 dX5_copyFrom_6 ?_
  refine g_iconst 0 C dX5_copyFrom_9 (by decide) ?_
  refine g_aload_n C hl dX5_copyFrom_10 rfl ?_
  refine gt_X5 C hw hR fl_X5_13 dX5_copyFrom_11 ?_
  refine g_alen_w C hw hR dX5_copyFrom_14 ?_
  refine g_aload_n C hl dX5_copyFrom_15 rfl ?_
  refine gt_X5 C hw2 hR fl_X5_13 dX5_copyFrom_16 ?_
  refine g_alen_w C hw2 hR dX5_copyFrom_19 ?_
  refine g_min C hl.1 ml_X5_23 ⟨Nat.le_refl _, Nat.le_refl _⟩ (Nat.le_of_ble_eq_true rfl) (Nat.le_of_ble_eq_true rfl) dX5_copyFrom_20 ?_
  refine g_acopy C hl.1 ml_X5_26 hR hS hw.2.1 hw2.2.1 (hw.2.2.2.2 X) (hw2.2.2.2.2 X) hw.2.2.1 (Nat.le_of_ble_eq_true rfl) (Nat.le_of_ble_eq_true rfl) dX5_copyFrom_23 (fun H locs hR hS => ?_)
  refine g_vret C hR hS dX5_copyFrom_26 ?_
  exact ⟨rfl, rfl⟩
end
section
/-! ===== the reference's seven cells side by side, and rows over them ===== -/
def gM8 (mem : gM) (f z a o k t r : Nat → Nat) : gM := fU mem 8 (fun j => match j with
  | 0 => f
  | 1 => z
  | 2 => a
  | 3 => o
  | 4 => k
  | 5 => t
  | 6 => r
  | j => mem 8 j)
theorem gM8_of (mem : gM) : mem = gM8 mem (mem 8 0) (mem 8 1) (mem 8 2) (mem 8 3) (mem 8 4) (mem 8 5) (mem 8 6) := by
  funext k
  unfold gM8 fU
  by_cases h : k = 8
  · rw [if_pos h, h]
    funext j
    match j with
    | 0 => rfl
    | 1 => rfl
    | 2 => rfl
    | 3 => rfl
    | 4 => rfl
    | 5 => rfl
    | 6 => rfl
    | j + 7 => rfl
  · rw [if_neg h]
theorem gM8_n (mem : gM) (f z a o k t r : Nat → Nat) {q : Nat} (h : ¬ q = 8) : gM8 mem f z a o k t r q = mem q := by
  unfold gM8
  rw [fU_n _ _ h]
theorem gM8_s (mem : gM) (f z a o k t r : Nat → Nat) : gM8 mem f z a o k t r 8 = (fun j => match j with
  | 0 => f
  | 1 => z
  | 2 => a
  | 3 => o
  | 4 => k
  | 5 => t
  | 6 => r
  | j => mem 8 j) := by
  unfold gM8
  rw [fU_s]
theorem gM8_u (mem : gM) (f z a o k t r f' z' a' o' k' t' r' : Nat → Nat) : gM8 (gM8 mem f z a o k t r) f' z' a' o' k' t' r' = gM8 mem f' z' a' o' k' t' r' := by
  unfold gM8
  rw [fU_u, fU_s]
  congr 1
  funext j
  match j with
  | 0 => rfl
  | 1 => rfl
  | 2 => rfl
  | 3 => rfl
  | 4 => rfl
  | 5 => rfl
  | 6 => rfl
  | j + 7 => rfl
theorem gM8_p0 (mem : gM) (f z a o k t r x : Nat → Nat) : gP (gM8 mem f z a o k t r) 8 0 x = gM8 mem x z a o k t r := by
  unfold gP gM8
  rw [fU_u, fU_s]
  congr 1
  funext j
  unfold fU
  match j with
  | 0 => rfl
  | 1 => rfl
  | 2 => rfl
  | 3 => rfl
  | 4 => rfl
  | 5 => rfl
  | 6 => rfl
  | j + 7 => rfl
theorem gM8_p1 (mem : gM) (f z a o k t r x : Nat → Nat) : gP (gM8 mem f z a o k t r) 8 1 x = gM8 mem f x a o k t r := by
  unfold gP gM8
  rw [fU_u, fU_s]
  congr 1
  funext j
  unfold fU
  match j with
  | 0 => rfl
  | 1 => rfl
  | 2 => rfl
  | 3 => rfl
  | 4 => rfl
  | 5 => rfl
  | 6 => rfl
  | j + 7 => rfl
theorem gM8_p2 (mem : gM) (f z a o k t r x : Nat → Nat) : gP (gM8 mem f z a o k t r) 8 2 x = gM8 mem f z x o k t r := by
  unfold gP gM8
  rw [fU_u, fU_s]
  congr 1
  funext j
  unfold fU
  match j with
  | 0 => rfl
  | 1 => rfl
  | 2 => rfl
  | 3 => rfl
  | 4 => rfl
  | 5 => rfl
  | 6 => rfl
  | j + 7 => rfl
theorem gM8_p3 (mem : gM) (f z a o k t r x : Nat → Nat) : gP (gM8 mem f z a o k t r) 8 3 x = gM8 mem f z a x k t r := by
  unfold gP gM8
  rw [fU_u, fU_s]
  congr 1
  funext j
  unfold fU
  match j with
  | 0 => rfl
  | 1 => rfl
  | 2 => rfl
  | 3 => rfl
  | 4 => rfl
  | 5 => rfl
  | 6 => rfl
  | j + 7 => rfl
theorem gM8_p4 (mem : gM) (f z a o k t r x : Nat → Nat) : gP (gM8 mem f z a o k t r) 8 4 x = gM8 mem f z a o x t r := by
  unfold gP gM8
  rw [fU_u, fU_s]
  congr 1
  funext j
  unfold fU
  match j with
  | 0 => rfl
  | 1 => rfl
  | 2 => rfl
  | 3 => rfl
  | 4 => rfl
  | 5 => rfl
  | 6 => rfl
  | j + 7 => rfl
theorem gM8_p5 (mem : gM) (f z a o k t r x : Nat → Nat) : gP (gM8 mem f z a o k t r) 8 5 x = gM8 mem f z a o k x r := by
  unfold gP gM8
  rw [fU_u, fU_s]
  congr 1
  funext j
  unfold fU
  match j with
  | 0 => rfl
  | 1 => rfl
  | 2 => rfl
  | 3 => rfl
  | 4 => rfl
  | 5 => rfl
  | 6 => rfl
  | j + 7 => rfl
theorem gM8_p6 (mem : gM) (f z a o k t r x : Nat → Nat) : gP (gM8 mem f z a o k t r) 8 6 x = gM8 mem f z a o k t x := by
  unfold gP gM8
  rw [fU_u, fU_s]
  congr 1
  funext j
  unfold fU
  match j with
  | 0 => rfl
  | 1 => rfl
  | 2 => rfl
  | 3 => rfl
  | 4 => rfl
  | 5 => rfl
  | 6 => rfl
  | j + 7 => rfl
section GR8
variable {p : Program} {l : Launch} {e : Env} {R : Room} {s : State} {m : MethodId} {args : Array Value} {below : List Frame} {meth : Method} {c : Code} {H : Heap} {locs : List Loc} {cells slots : Nat} {Q : State → Prop}
variable {cc : ByteArray} {pc : Nat} {ls : Array Slot} {rest : List Value} {X : gX} {own : String} {ret : Option FieldType} {nL : Nat} {mem : gM} {f z a o k t r : Nat → Nat}
theorem rt_3 {index : Nat} (C : gC X own cc ret nL p s m args meth c) (hR : gRep X (gM8 mem f z a o k t r) H) (hlink : Cond.fieldLink own index "FarBanksModel" "states" "I" ∈ wA) (hdg : decode cc pc = .ok (.getfield index, 3)) (kk : W p l e R s m args below meth c H locs cells slots Q (F0 m (pc + 3) ls (.int (nI (f 3)) :: rest))) : W p l e R s m args below meth c H locs cells slots Q (F0 m pc ls (.ref (gAd X 8 0) :: rest)) := gt_X9_3 C hR hlink hdg kk
theorem rp_3 {index x : Nat} (C : gC X own cc ret nL p s m args meth c) (hR : gRep X (gM8 mem f z a o k t r) H) (hS : va_S (gA X) s.heap H locs) (hlink : Cond.fieldLink own index "FarBanksModel" "states" "I" ∈ wA) (hdg : decode cc pc = .ok (.putfield index, 3)) (kk : ∀ (H1 : Heap) (locs1 : List Loc), gRep X (gM8 mem (fU f 3 x) z a o k t r) H1 → va_S (gA X) s.heap H1 locs1 → W p l e R s m args below meth c H1 locs1 cells slots Q (F0 m (pc + 3) ls rest)) : W p l e R s m args below meth c H locs cells slots Q (F0 m pc ls (.int (nI x) :: .ref (gAd X 8 0) :: rest)) := pt_X9_3 C hR hS hlink hdg (fun H1 l1 h => by
  rw [gM8_p0] at h
  exact kk H1 l1 h)
theorem rt_5 {index : Nat} (C : gC X own cc ret nL p s m args meth c) (hR : gRep X (gM8 mem f z a o k t r) H) (hlink : Cond.fieldLink own index "FarBanksModel" "isKept" "Z" ∈ wA) (hdg : decode cc pc = .ok (.getfield index, 3)) (kk : W p l e R s m args below meth c H locs cells slots Q (F0 m (pc + 3) ls (.int (nI (f 5)) :: rest))) : W p l e R s m args below meth c H locs cells slots Q (F0 m pc ls (.ref (gAd X 8 0) :: rest)) := gt_X9_5 C hR hlink hdg kk
theorem rp_5 {index x : Nat} (C : gC X own cc ret nL p s m args meth c) (hR : gRep X (gM8 mem f z a o k t r) H) (hS : va_S (gA X) s.heap H locs) (hx9 : x < 2) (hlink : Cond.fieldLink own index "FarBanksModel" "isKept" "Z" ∈ wA) (hdg : decode cc pc = .ok (.putfield index, 3)) (kk : ∀ (H1 : Heap) (locs1 : List Loc), gRep X (gM8 mem (fU f 5 x) z a o k t r) H1 → va_S (gA X) s.heap H1 locs1 → W p l e R s m args below meth c H1 locs1 cells slots Q (F0 m (pc + 3) ls rest)) : W p l e R s m args below meth c H locs cells slots Q (F0 m pc ls (.int (nI x) :: .ref (gAd X 8 0) :: rest)) := pt_X9_5 C hR hS hx9 hlink hdg (fun H1 l1 h => by
  rw [gM8_p0] at h
  exact kk H1 l1 h)
theorem rt_7 {index : Nat} (C : gC X own cc ret nL p s m args meth c) (hR : gRep X (gM8 mem f z a o k t r) H) (hlink : Cond.fieldLink own index "FarBanksModel" "length" "I" ∈ wA) (hdg : decode cc pc = .ok (.getfield index, 3)) (kk : W p l e R s m args below meth c H locs cells slots Q (F0 m (pc + 3) ls (.int (nI (f 7)) :: rest))) : W p l e R s m args below meth c H locs cells slots Q (F0 m pc ls (.ref (gAd X 8 0) :: rest)) := gt_X9_7 C hR hlink hdg kk
theorem rp_7 {index x : Nat} (C : gC X own cc ret nL p s m args meth c) (hR : gRep X (gM8 mem f z a o k t r) H) (hS : va_S (gA X) s.heap H locs) (hlink : Cond.fieldLink own index "FarBanksModel" "length" "I" ∈ wA) (hdg : decode cc pc = .ok (.putfield index, 3)) (kk : ∀ (H1 : Heap) (locs1 : List Loc), gRep X (gM8 mem (fU f 7 x) z a o k t r) H1 → va_S (gA X) s.heap H1 locs1 → W p l e R s m args below meth c H1 locs1 cells slots Q (F0 m (pc + 3) ls rest)) : W p l e R s m args below meth c H locs cells slots Q (F0 m pc ls (.int (nI x) :: .ref (gAd X 8 0) :: rest)) := pt_X9_7 C hR hS hlink hdg (fun H1 l1 h => by
  rw [gM8_p0] at h
  exact kk H1 l1 h)
theorem rt_8 {index : Nat} (C : gC X own cc ret nL p s m args meth c) (hR : gRep X (gM8 mem f z a o k t r) H) (hlink : Cond.fieldLink own index "FarBanksModel" "place" "I" ∈ wA) (hdg : decode cc pc = .ok (.getfield index, 3)) (kk : W p l e R s m args below meth c H locs cells slots Q (F0 m (pc + 3) ls (.int (nI (f 8)) :: rest))) : W p l e R s m args below meth c H locs cells slots Q (F0 m pc ls (.ref (gAd X 8 0) :: rest)) := gt_X9_8 C hR hlink hdg kk
theorem rp_8 {index x : Nat} (C : gC X own cc ret nL p s m args meth c) (hR : gRep X (gM8 mem f z a o k t r) H) (hS : va_S (gA X) s.heap H locs) (hlink : Cond.fieldLink own index "FarBanksModel" "place" "I" ∈ wA) (hdg : decode cc pc = .ok (.putfield index, 3)) (kk : ∀ (H1 : Heap) (locs1 : List Loc), gRep X (gM8 mem (fU f 8 x) z a o k t r) H1 → va_S (gA X) s.heap H1 locs1 → W p l e R s m args below meth c H1 locs1 cells slots Q (F0 m (pc + 3) ls rest)) : W p l e R s m args below meth c H locs cells slots Q (F0 m pc ls (.int (nI x) :: .ref (gAd X 8 0) :: rest)) := pt_X9_8 C hR hS hlink hdg (fun H1 l1 h => by
  rw [gM8_p0] at h
  exact kk H1 l1 h)
theorem rt_9 {index : Nat} (C : gC X own cc ret nL p s m args meth c) (hR : gRep X (gM8 mem f z a o k t r) H) (hlink : Cond.fieldLink own index "FarBanksModel" "isWrong" "Z" ∈ wA) (hdg : decode cc pc = .ok (.getfield index, 3)) (kk : W p l e R s m args below meth c H locs cells slots Q (F0 m (pc + 3) ls (.int (nI (f 9)) :: rest))) : W p l e R s m args below meth c H locs cells slots Q (F0 m pc ls (.ref (gAd X 8 0) :: rest)) := gt_X9_9 C hR hlink hdg kk
theorem rp_9 {index x : Nat} (C : gC X own cc ret nL p s m args meth c) (hR : gRep X (gM8 mem f z a o k t r) H) (hS : va_S (gA X) s.heap H locs) (hx9 : x < 2) (hlink : Cond.fieldLink own index "FarBanksModel" "isWrong" "Z" ∈ wA) (hdg : decode cc pc = .ok (.putfield index, 3)) (kk : ∀ (H1 : Heap) (locs1 : List Loc), gRep X (gM8 mem (fU f 9 x) z a o k t r) H1 → va_S (gA X) s.heap H1 locs1 → W p l e R s m args below meth c H1 locs1 cells slots Q (F0 m (pc + 3) ls rest)) : W p l e R s m args below meth c H locs cells slots Q (F0 m pc ls (.int (nI x) :: .ref (gAd X 8 0) :: rest)) := pt_X9_9 C hR hS hx9 hlink hdg (fun H1 l1 h => by
  rw [gM8_p0] at h
  exact kk H1 l1 h)
theorem rt_11 {index : Nat} (C : gC X own cc ret nL p s m args meth c) (hR : gRep X (gM8 mem f z a o k t r) H) (hlink : Cond.fieldLink own index "FarBanksModel" "many" "I" ∈ wA) (hdg : decode cc pc = .ok (.getfield index, 3)) (kk : W p l e R s m args below meth c H locs cells slots Q (F0 m (pc + 3) ls (.int (nI (f 11)) :: rest))) : W p l e R s m args below meth c H locs cells slots Q (F0 m pc ls (.ref (gAd X 8 0) :: rest)) := gt_X9_11 C hR hlink hdg kk
theorem rp_11 {index x : Nat} (C : gC X own cc ret nL p s m args meth c) (hR : gRep X (gM8 mem f z a o k t r) H) (hS : va_S (gA X) s.heap H locs) (hlink : Cond.fieldLink own index "FarBanksModel" "many" "I" ∈ wA) (hdg : decode cc pc = .ok (.putfield index, 3)) (kk : ∀ (H1 : Heap) (locs1 : List Loc), gRep X (gM8 mem (fU f 11 x) z a o k t r) H1 → va_S (gA X) s.heap H1 locs1 → W p l e R s m args below meth c H1 locs1 cells slots Q (F0 m (pc + 3) ls rest)) : W p l e R s m args below meth c H locs cells slots Q (F0 m pc ls (.int (nI x) :: .ref (gAd X 8 0) :: rest)) := pt_X9_11 C hR hS hlink hdg (fun H1 l1 h => by
  rw [gM8_p0] at h
  exact kk H1 l1 h)
theorem r_ald1 {i : Nat} (C : gC X own cc ret nL p s m args meth c) (hR : gRep X (gM8 mem f z a o k t r) H) (hi : i < 198) (hdg : decode cc pc = .ok (.iaload, 1)) (kk : W p l e R s m args below meth c H locs cells slots Q (F0 m (pc + 1) ls (.int (nI (z i)) :: rest))) : W p l e R s m args below meth c H locs cells slots Q (F0 m pc ls (.int (nI i) :: .ref (gAd X 8 1) :: rest)) := g_iald C hR (gI_r (by decide)) (fun _ => rfl) hi (by decide) hdg kk
theorem r_ast1 {i x : Nat} (C : gC X own cc ret nL p s m args meth c) (hR : gRep X (gM8 mem f z a o k t r) H) (hS : va_S (gA X) s.heap H locs) (hi : i < 198) (hdg : decode cc pc = .ok (.iastore, 1)) (kk : ∀ (H1 : Heap) (locs1 : List Loc), gRep X (gM8 mem f (fU z i x) a o k t r) H1 → va_S (gA X) s.heap H1 locs1 → W p l e R s m args below meth c H1 locs1 cells slots Q (F0 m (pc + 1) ls rest)) : W p l e R s m args below meth c H locs cells slots Q (F0 m pc ls (.int (nI x) :: .int (nI i) :: .ref (gAd X 8 1) :: rest)) := g_iast C hR hS (gI_r (by decide)) (fun _ => rfl) hi (by decide) hdg (fun H1 l1 h => by
  rw [gM8_p1] at h
  exact kk H1 l1 h)
theorem r_arr1 {g : Nat → Nat} (h : gRep X (gM8 mem f z a o k t r) H) (he : ∀ i, i < 198 → z i = g i) : gRep X (gM8 mem f g a o k t r) H := by
  rw [← gM8_p1 mem f z a o k t r g]
  refine gRep_arr (f := z) (n := 198) ?_ (fun _ => rfl) he
  rw [gM8_p1]
  exact h
theorem r_ald2 {i : Nat} (C : gC X own cc ret nL p s m args meth c) (hR : gRep X (gM8 mem f z a o k t r) H) (hi : i < 198) (hdg : decode cc pc = .ok (.iaload, 1)) (kk : W p l e R s m args below meth c H locs cells slots Q (F0 m (pc + 1) ls (.int (nI (a i)) :: rest))) : W p l e R s m args below meth c H locs cells slots Q (F0 m pc ls (.int (nI i) :: .ref (gAd X 8 2) :: rest)) := g_iald C hR (gI_r (by decide)) (fun _ => rfl) hi (by decide) hdg kk
theorem r_ast2 {i x : Nat} (C : gC X own cc ret nL p s m args meth c) (hR : gRep X (gM8 mem f z a o k t r) H) (hS : va_S (gA X) s.heap H locs) (hi : i < 198) (hdg : decode cc pc = .ok (.iastore, 1)) (kk : ∀ (H1 : Heap) (locs1 : List Loc), gRep X (gM8 mem f z (fU a i x) o k t r) H1 → va_S (gA X) s.heap H1 locs1 → W p l e R s m args below meth c H1 locs1 cells slots Q (F0 m (pc + 1) ls rest)) : W p l e R s m args below meth c H locs cells slots Q (F0 m pc ls (.int (nI x) :: .int (nI i) :: .ref (gAd X 8 2) :: rest)) := g_iast C hR hS (gI_r (by decide)) (fun _ => rfl) hi (by decide) hdg (fun H1 l1 h => by
  rw [gM8_p2] at h
  exact kk H1 l1 h)
theorem r_arr2 {g : Nat → Nat} (h : gRep X (gM8 mem f z a o k t r) H) (he : ∀ i, i < 198 → a i = g i) : gRep X (gM8 mem f z g o k t r) H := by
  rw [← gM8_p2 mem f z a o k t r g]
  refine gRep_arr (f := a) (n := 198) ?_ (fun _ => rfl) he
  rw [gM8_p2]
  exact h
theorem r_ald3 {i : Nat} (C : gC X own cc ret nL p s m args meth c) (hR : gRep X (gM8 mem f z a o k t r) H) (hi : i < 792) (hdg : decode cc pc = .ok (.iaload, 1)) (kk : W p l e R s m args below meth c H locs cells slots Q (F0 m (pc + 1) ls (.int (nI (o i)) :: rest))) : W p l e R s m args below meth c H locs cells slots Q (F0 m pc ls (.int (nI i) :: .ref (gAd X 8 3) :: rest)) := g_iald C hR (gI_r (by decide)) (fun _ => rfl) hi (by decide) hdg kk
theorem r_ast3 {i x : Nat} (C : gC X own cc ret nL p s m args meth c) (hR : gRep X (gM8 mem f z a o k t r) H) (hS : va_S (gA X) s.heap H locs) (hi : i < 792) (hdg : decode cc pc = .ok (.iastore, 1)) (kk : ∀ (H1 : Heap) (locs1 : List Loc), gRep X (gM8 mem f z a (fU o i x) k t r) H1 → va_S (gA X) s.heap H1 locs1 → W p l e R s m args below meth c H1 locs1 cells slots Q (F0 m (pc + 1) ls rest)) : W p l e R s m args below meth c H locs cells slots Q (F0 m pc ls (.int (nI x) :: .int (nI i) :: .ref (gAd X 8 3) :: rest)) := g_iast C hR hS (gI_r (by decide)) (fun _ => rfl) hi (by decide) hdg (fun H1 l1 h => by
  rw [gM8_p3] at h
  exact kk H1 l1 h)
theorem r_arr3 {g : Nat → Nat} (h : gRep X (gM8 mem f z a o k t r) H) (he : ∀ i, i < 792 → o i = g i) : gRep X (gM8 mem f z a g k t r) H := by
  rw [← gM8_p3 mem f z a o k t r g]
  refine gRep_arr (f := o) (n := 792) ?_ (fun _ => rfl) he
  rw [gM8_p3]
  exact h
theorem r_ald4 {i : Nat} (C : gC X own cc ret nL p s m args meth c) (hR : gRep X (gM8 mem f z a o k t r) H) (hi : i < 198) (hdg : decode cc pc = .ok (.iaload, 1)) (kk : W p l e R s m args below meth c H locs cells slots Q (F0 m (pc + 1) ls (.int (nI (k i)) :: rest))) : W p l e R s m args below meth c H locs cells slots Q (F0 m pc ls (.int (nI i) :: .ref (gAd X 8 4) :: rest)) := g_iald C hR (gI_r (by decide)) (fun _ => rfl) hi (by decide) hdg kk
theorem r_ast4 {i x : Nat} (C : gC X own cc ret nL p s m args meth c) (hR : gRep X (gM8 mem f z a o k t r) H) (hS : va_S (gA X) s.heap H locs) (hi : i < 198) (hdg : decode cc pc = .ok (.iastore, 1)) (kk : ∀ (H1 : Heap) (locs1 : List Loc), gRep X (gM8 mem f z a o (fU k i x) t r) H1 → va_S (gA X) s.heap H1 locs1 → W p l e R s m args below meth c H1 locs1 cells slots Q (F0 m (pc + 1) ls rest)) : W p l e R s m args below meth c H locs cells slots Q (F0 m pc ls (.int (nI x) :: .int (nI i) :: .ref (gAd X 8 4) :: rest)) := g_iast C hR hS (gI_r (by decide)) (fun _ => rfl) hi (by decide) hdg (fun H1 l1 h => by
  rw [gM8_p4] at h
  exact kk H1 l1 h)
theorem r_arr4 {g : Nat → Nat} (h : gRep X (gM8 mem f z a o k t r) H) (he : ∀ i, i < 198 → k i = g i) : gRep X (gM8 mem f z a o g t r) H := by
  rw [← gM8_p4 mem f z a o k t r g]
  refine gRep_arr (f := k) (n := 198) ?_ (fun _ => rfl) he
  rw [gM8_p4]
  exact h
theorem r_ald5 {i : Nat} (C : gC X own cc ret nL p s m args meth c) (hR : gRep X (gM8 mem f z a o k t r) H) (hi : i < 80) (hdg : decode cc pc = .ok (.iaload, 1)) (kk : W p l e R s m args below meth c H locs cells slots Q (F0 m (pc + 1) ls (.int (nI (t i)) :: rest))) : W p l e R s m args below meth c H locs cells slots Q (F0 m pc ls (.int (nI i) :: .ref (gAd X 8 5) :: rest)) := g_iald C hR (gI_r (by decide)) (fun _ => rfl) hi (by decide) hdg kk
theorem r_ast5 {i x : Nat} (C : gC X own cc ret nL p s m args meth c) (hR : gRep X (gM8 mem f z a o k t r) H) (hS : va_S (gA X) s.heap H locs) (hi : i < 80) (hdg : decode cc pc = .ok (.iastore, 1)) (kk : ∀ (H1 : Heap) (locs1 : List Loc), gRep X (gM8 mem f z a o k (fU t i x) r) H1 → va_S (gA X) s.heap H1 locs1 → W p l e R s m args below meth c H1 locs1 cells slots Q (F0 m (pc + 1) ls rest)) : W p l e R s m args below meth c H locs cells slots Q (F0 m pc ls (.int (nI x) :: .int (nI i) :: .ref (gAd X 8 5) :: rest)) := g_iast C hR hS (gI_r (by decide)) (fun _ => rfl) hi (by decide) hdg (fun H1 l1 h => by
  rw [gM8_p5] at h
  exact kk H1 l1 h)
theorem r_arr5 {g : Nat → Nat} (h : gRep X (gM8 mem f z a o k t r) H) (he : ∀ i, i < 80 → t i = g i) : gRep X (gM8 mem f z a o k g r) H := by
  rw [← gM8_p5 mem f z a o k t r g]
  refine gRep_arr (f := t) (n := 80) ?_ (fun _ => rfl) he
  rw [gM8_p5]
  exact h
theorem r_ald6 {i : Nat} (C : gC X own cc ret nL p s m args meth c) (hR : gRep X (gM8 mem f z a o k t r) H) (hi : i < 16) (hdg : decode cc pc = .ok (.iaload, 1)) (kk : W p l e R s m args below meth c H locs cells slots Q (F0 m (pc + 1) ls (.int (nI (r i)) :: rest))) : W p l e R s m args below meth c H locs cells slots Q (F0 m pc ls (.int (nI i) :: .ref (gAd X 8 6) :: rest)) := g_iald C hR (gI_r (by decide)) (fun _ => rfl) hi (by decide) hdg kk
theorem r_ast6 {i x : Nat} (C : gC X own cc ret nL p s m args meth c) (hR : gRep X (gM8 mem f z a o k t r) H) (hS : va_S (gA X) s.heap H locs) (hi : i < 16) (hdg : decode cc pc = .ok (.iastore, 1)) (kk : ∀ (H1 : Heap) (locs1 : List Loc), gRep X (gM8 mem f z a o k t (fU r i x)) H1 → va_S (gA X) s.heap H1 locs1 → W p l e R s m args below meth c H1 locs1 cells slots Q (F0 m (pc + 1) ls rest)) : W p l e R s m args below meth c H locs cells slots Q (F0 m pc ls (.int (nI x) :: .int (nI i) :: .ref (gAd X 8 6) :: rest)) := g_iast C hR hS (gI_r (by decide)) (fun _ => rfl) hi (by decide) hdg (fun H1 l1 h => by
  rw [gM8_p6] at h
  exact kk H1 l1 h)
theorem r_arr6 {g : Nat → Nat} (h : gRep X (gM8 mem f z a o k t r) H) (he : ∀ i, i < 16 → r i = g i) : gRep X (gM8 mem f z a o k t g) H := by
  rw [← gM8_p6 mem f z a o k t r g]
  refine gRep_arr (f := r) (n := 16) ?_ (fun _ => rfl) he
  rw [gM8_p6]
  exact h
end GR8
end
section
/-! ===== the machine as the reference has it: a row of 198 numbers, and what a step does to it ===== -/
def zIx (b c : Nat) : Nat := if c < 12 then 12 * b + c else 84 + c
def zBk (z : Nat → Nat) (a : Nat) : Nat := z (100 + a / 16)
def zAt (z : Nat → Nat) (a : Nat) : Nat := zIx (zBk z a) (a % 16)
def zSm (a b : Nat) : Nat := if a + b ≤ 999 then a + b else a + b - 1000
def zWhy (z : Nat → Nat) (kind n : Nat) : Nat := if (2 ≤ kind ∧ kind ≤ 5 ∧ 64 ≤ n) ∨ (kind = 6 ∧ (4 ≤ n / 10 ∨ 8 ≤ n % 10)) ∨ (kind = 7 ∧ 8 ≤ n / 10) then 3 else if kind = 7 ∧ z 116 = 8 then 4 else if kind = 8 ∧ z 116 = 0 then 5 else 0
def zWr1 (z : Nat → Nat) (b : Nat) : Nat → Nat := fU z 181 (z 181 + 1)
def zWr2 (z : Nat → Nat) (b : Nat) : Nat → Nat := fU (zWr1 z b) (190 + b) (zWr1 z b (190 + b) + 1)
def zWr3 (z : Nat → Nat) (b : Nat) : Nat → Nat := fU (zWr2 z b) 115 (if zWr2 z b 112 = 1 then 2 else 0)
def zWs1 (z : Nat → Nat) (b a : Nat) : Nat → Nat := fU z (zAt z a) (z 113)
def zWs2 (z : Nat → Nat) (b a : Nat) : Nat → Nat := fU (zWs1 z b a) 180 (zWs1 z b a 180 + 1)
def zWs3 (z : Nat → Nat) (b a : Nat) : Nat → Nat := fU (zWs2 z b a) (182 + b) (zWs2 z b a (182 + b) + 1)
def zWr (z : Nat → Nat) (a : Nat) : Nat → Nat := if z (104 + zBk z a) = 1 then zWr3 z (zBk z a) else zWs3 z (zBk z a) a
def zCl1 (z : Nat → Nat) (w : Nat) : Nat → Nat := fU z (117 + 3 * z 116) w
def zCl2 (z : Nat → Nat) (w : Nat) : Nat → Nat := fU (zCl1 z w) (117 + 3 * z 116 + 1) (zCl1 z w (100 + w))
def zCl3 (z : Nat → Nat) (w : Nat) : Nat → Nat := fU (zCl2 z w) (117 + 3 * z 116 + 2) (zCl2 z w 114)
def zCl4 (z : Nat → Nat) (w : Nat) : Nat → Nat := fU (zCl3 z w) 116 (zCl3 z w 116 + 1)
def zCl5 (z : Nat → Nat) (w : Nat) : Nat → Nat := fU (zCl4 z w) 179 (zCl4 z w 179 + 1)
def zCl (z : Nat → Nat) (w n : Nat) : Nat → Nat := fU (fU (zCl5 z w) (100 + w) (n / 10)) 114 (16 * w + n % 10)
def zBc1 (z : Nat → Nat) : Nat → Nat := fU z 116 (z 116 - 1)
def zBc2 (z : Nat → Nat) : Nat → Nat := fU (zBc1 z) (100 + z (117 + 3 * (z 116 - 1))) (zBc1 z (117 + 3 * (z 116 - 1) + 1))
def zBc (z : Nat → Nat) : Nat → Nat := fU (zBc2 z) 114 (zBc2 z (117 + 3 * (z 116 - 1) + 2))
def zOrd (z : Nat → Nat) (kind n w : Nat) : Nat → Nat := match kind with
  | 0 => fU z 115 1
  | 1 => fU z 113 n
  | 2 => fU z 113 (zSm (z 113) (z (zAt z n)))
  | 3 => zWr z n
  | 4 => fU z 114 n
  | 5 => fU z 114 (if z 113 = 0 then n else z 114)
  | 6 => fU z (100 + n / 10) (n % 10)
  | 7 => zCl z w n
  | 8 => zBc z
  | _ => fU z 113 (zSm (z 113) n)
def zKp0 (z : Nat → Nat) : Nat → Nat := if z 141 < 12 then fU z 141 (z 141 + 1) else z
/-- the rows of the latest steps, those beyond place k moved on -/
def zSh (z : Nat → Nat) (k : Nat) : Nat → Nat := fun j => if 142 + k ≤ j ∧ j < 142 + 3 * z 141 then z (j - 3) else z j
def zKp1 (z : Nat → Nat) (a : Nat) : Nat → Nat := fU (zSh (zKp0 z) 3) 142 a
def zKp2 (z : Nat → Nat) (a : Nat) : Nat → Nat := fU (zKp1 z a) 143 (zBk (zKp1 z a) a)
def zKp (z : Nat → Nat) (a num : Nat) : Nat → Nat := fU (zKp2 z a) 144 num
def zSt1 (z : Nat → Nat) : Nat → Nat := zKp z (z 114) (z (zAt z (z 114)))
def zSt2 (z : Nat → Nat) : Nat → Nat := fU (zSt1 z) 178 (zSt1 z 178 + 1)
def zSt3 (z : Nat → Nat) : Nat → Nat := fU (zSt2 z) 114 (zSt2 z 114 + 1)
def zSt4 (z : Nat → Nat) : Nat → Nat := fU (zSt3 z) 115 (zWhy (zSt3 z) (z (zAt z (z 114)) / 100) (z (zAt z (z 114)) % 100))
def zSt5 (z : Nat → Nat) : Nat → Nat := if zSt4 z 115 = 0 then zOrd (zSt4 z) (z (zAt z (z 114)) / 100) (z (zAt z (z 114)) % 100) (z 114 / 16) else zSt4 z
def zStep (z : Nat → Nat) : Nat → Nat := if zSt5 z 115 = 0 ∧ zSt5 z 114 = 64 then fU (zSt5 z) 115 6 else zSt5 z
/-- what always holds of the row -/
def zI (z : Nat → Nat) : Prop := (∀ i, i < 100 → z i ≤ 999) ∧ (∀ w, w < 4 → z (100 + w) < 8) ∧ (∀ b, b < 8 → z (104 + b) < 2) ∧ z 112 < 2 ∧ z 113 ≤ 999 ∧ z 114 ≤ 64 ∧ z 115 ≤ 6 ∧ z 116 ≤ 8 ∧ (∀ q, q < 8 → z (117 + 3 * q) < 4 ∧ z (118 + 3 * q) < 8 ∧ z (119 + 3 * q) ≤ 64) ∧ z 141 ≤ 12
theorem zI.bk {z : Nat → Nat} (h : zI z) {a : Nat} (ha : a < 64) : zBk z a < 8 := h.2.1 (a / 16) (by omega)
theorem zIx_lt {b c : Nat} (hb : b < 8) (hc : c < 16) : zIx b c < 100 := by
  unfold zIx
  by_cases h : c < 12
  · rw [if_pos h]; omega
  · rw [if_neg h]; omega
theorem zI.upd9 {z : Nat → Nat} {i x : Nat} (h : zI z) (h1 : i < 100 → x ≤ 999) (h2 : 100 ≤ i → i < 104 → x < 8) (h3 : 104 ≤ i → i < 112 → x < 2) (h4 : i = 112 → x < 2) (h5 : i = 113 → x ≤ 999) (h6 : i = 114 → x ≤ 64) (h7 : i = 115 → x ≤ 6) (h8 : i = 116 → x ≤ 8) (h9 : ∀ q, q < 8 → (i = 117 + 3 * q → x < 4) ∧ (i = 118 + 3 * q → x < 8) ∧ (i = 119 + 3 * q → x ≤ 64)) (h10 : i = 141 → x ≤ 12) : zI (fU z i x) := by
  obtain ⟨g1, g2, g3, g4, g5, g6, g7, g8, g9, g10⟩ := h
  have key : ∀ j : Nat, (j = i → fU z i x j = x) ∧ (¬ j = i → fU z i x j = z j) := fun j => ⟨fun e => by rw [e]; exact fU_s z i x, fun e => fU_n z x e⟩
  have one : ∀ (j b : Nat), (j = i → x < b) → z j < b → fU z i x j < b := by
    intro j b ha hb
    by_cases e : j = i
    · rw [(key j).1 e]; exact ha e
    · rw [(key j).2 e]; exact hb
  have two : ∀ (j b : Nat), (j = i → x ≤ b) → z j ≤ b → fU z i x j ≤ b := by
    intro j b ha hb
    by_cases e : j = i
    · rw [(key j).1 e]; exact ha e
    · rw [(key j).2 e]; exact hb
  refine ⟨fun j hj => two j _ (fun e => h1 (by omega)) (g1 j hj), fun w hw => one _ _ (fun e => h2 (by omega) (by omega)) (g2 w hw), fun b hb => one _ _ (fun e => h3 (by omega) (by omega)) (g3 b hb), one _ _ (fun e => h4 e.symm) g4, two _ _ (fun e => h5 e.symm) g5, two _ _ (fun e => h6 e.symm) g6, two _ _ (fun e => h7 e.symm) g7, two _ _ (fun e => h8 e.symm) g8, fun q hq => ⟨one _ _ (fun e => (h9 q hq).1 e.symm) (g9 q hq).1, one _ _ (fun e => (h9 q hq).2.1 e.symm) (g9 q hq).2.1, two _ _ (fun e => (h9 q hq).2.2 e.symm) (g9 q hq).2.2⟩, two _ _ (fun e => h10 e.symm) g10⟩
theorem zI.at {z : Nat → Nat} (h : zI z) {a : Nat} (ha : a < 64) : zAt z a < 100 := zIx_lt (h.bk ha) (by omega)
end
section
/-! ===== truth values; the reference's tests ===== -/
def gb (P : Prop) [Decidable P] : Nat := if P then 1 else 0
theorem gb_t {P : Prop} [Decidable P] (h : P) : gb P = 1 := if_pos h
theorem gb_f {P : Prop} [Decidable P] (h : ¬ P) : gb P = 0 := if_neg h
theorem gb_lt (P : Prop) [Decidable P] : gb P < 2 := by
  unfold gb
  by_cases h : P
  · rw [if_pos h]; decide
  · rw [if_neg h]; decide
theorem gb_0 {P : Prop} [Decidable P] : gb P = 0 ↔ ¬ P := by
  unfold gb
  by_cases h : P
  · rw [if_pos h]; simp [h]
  · rw [if_neg h]; simp [h]
/-- an int that lies between two bounds -/
def gIw (v : Int32) (lo hi : Nat) : Bool := decide ((lo : Int) ≤ v.toInt) && decide (v.toInt ≤ (hi : Int))
theorem gIw_iff {v : Int32} {lo hi : Nat} : gIw v lo hi = true ↔ (lo : Int) ≤ v.toInt ∧ v.toInt ≤ (hi : Int) := by
  unfold gIw
  rw [Bool.and_eq_true, decide_eq_true_eq, decide_eq_true_eq]
theorem gIw_n {a lo hi : Nat} (ha : a < 2 ^ 31) : gIw (nI a) lo hi = true ↔ lo ≤ a ∧ a ≤ hi := by
  rw [gIw_iff, nI_toInt ha]
  omega
theorem gIw_t {v : Int32} {lo hi : Nat} (h : gIw v lo hi = true) (hh : hi < 2 ^ 31) : ∃ a : Nat, v = nI a ∧ lo ≤ a ∧ a ≤ hi := by
  rw [gIw_iff] at h
  have h0 : ¬ v < 0 := by
    rw [Int32.lt_iff_toInt_lt]
    have : (0 : Int32).toInt = 0 := rfl
    omega
  obtain ⟨j, hj, rfl⟩ := nI_of h0
  rw [nI_toInt hj] at h
  exact ⟨j, rfl, by omega, by omega⟩
theorem gIw_lt {v : Int32} {a : Nat} (ha : a < 2 ^ 31) : v < nI a ↔ v.toInt < (a : Int) := by
  rw [Int32.lt_iff_toInt_lt, nI_toInt ha]
theorem gIw_gt {v : Int32} {a : Nat} (ha : a < 2 ^ 31) : nI a < v ↔ (a : Int) < v.toInt := by
  rw [Int32.lt_iff_toInt_lt, nI_toInt ha]
section GT
variable {p : Program} {l : Launch} {e : Env} {R : Room} {s : State} {m : MethodId} {args : Array Value} {below : List Frame} {meth : Method} {c : Code} {H : Heap} {locs : List Loc} {cells slots : Nat} {Q : State → Prop}
variable {cc : ByteArray} {pc : Nat} {ls : Array Slot} {rest : List Value} {X : gX} {own : String} {ret : Option FieldType} {nL : Nat} {mem : gM}
theorem g_ifb_eq {P : Prop} [Decidable P] {tgt : Nat} {off : Int} (C : gC X own cc ret nL p s m args meth c) (hdg : decode cc pc = .ok (.ifCond .eq off, 3)) (ht : (pc : Int) + off = (tgt : Int)) (kt : ¬ P → W p l e R s m args below meth c H locs cells slots Q (F0 m tgt ls rest)) (kf : P → W p l e R s m args below meth c H locs cells slots Q (F0 m (pc + 3) ls rest)) : W p l e R s m args below meth c H locs cells slots Q (F0 m pc ls (.int (nI (gb P)) :: rest)) := g_if_eq C hdg ht (Nat.lt_trans (gb_lt P) (by decide)) (fun h => kt (gb_0.mp h)) (fun h => kf (Decidable.byContradiction (fun z => h (gb_0.mpr z))))
theorem g_ifw_eq {a lo hi tgt : Nat} {off : Int} (C : gC X own cc ret nL p s m args meth c) (hdg : decode cc pc = .ok (.ifCond .eq off, 3)) (ht : (pc : Int) + off = (tgt : Int)) (ha : a < 2 ^ 31) (kt : ¬ (lo ≤ a ∧ a ≤ hi) → W p l e R s m args below meth c H locs cells slots Q (F0 m tgt ls rest)) (kf : lo ≤ a ∧ a ≤ hi → W p l e R s m args below meth c H locs cells slots Q (F0 m (pc + 3) ls rest)) : W p l e R s m args below meth c H locs cells slots Q (F0 m pc ls (.int (nI (gb (gIw (nI a) lo hi = true))) :: rest)) := g_ifb_eq C hdg ht (fun h => kt (fun z => h ((gIw_n ha).mpr z))) (fun h => kf ((gIw_n ha).mp h))
theorem g_ifv_eq {v : Int32} {lo hi tgt : Nat} {off : Int} (C : gC X own cc ret nL p s m args meth c) (hdg : decode cc pc = .ok (.ifCond .eq off, 3)) (ht : (pc : Int) + off = (tgt : Int)) (hh : hi < 2 ^ 31) (kt : gIw v lo hi = false → W p l e R s m args below meth c H locs cells slots Q (F0 m tgt ls rest)) (kf : ∀ a : Nat, v = nI a → lo ≤ a → a ≤ hi → W p l e R s m args below meth c H locs cells slots Q (F0 m (pc + 3) ls rest)) : W p l e R s m args below meth c H locs cells slots Q (F0 m pc ls (.int (nI (gb (gIw v lo hi = true))) :: rest)) := g_ifb_eq C hdg ht (fun h => kt (by simpa using h)) (fun h => by obtain ⟨a, h1, h2, h3⟩ := gIw_t h hh; exact kf a h1 h2 h3)
theorem g_ifb_ne {P : Prop} [Decidable P] {tgt : Nat} {off : Int} (C : gC X own cc ret nL p s m args meth c) (hdg : decode cc pc = .ok (.ifCond .ne off, 3)) (ht : (pc : Int) + off = (tgt : Int)) (kt : P → W p l e R s m args below meth c H locs cells slots Q (F0 m tgt ls rest)) (kf : ¬ P → W p l e R s m args below meth c H locs cells slots Q (F0 m (pc + 3) ls rest)) : W p l e R s m args below meth c H locs cells slots Q (F0 m pc ls (.int (nI (gb P)) :: rest)) := g_if_ne C hdg ht (Nat.lt_trans (gb_lt P) (by decide)) (fun h => kt (Decidable.byContradiction (fun z => h (gb_0.mpr z)))) (fun h => kf (gb_0.mp h))
theorem g_ifw_ne {a lo hi tgt : Nat} {off : Int} (C : gC X own cc ret nL p s m args meth c) (hdg : decode cc pc = .ok (.ifCond .ne off, 3)) (ht : (pc : Int) + off = (tgt : Int)) (ha : a < 2 ^ 31) (kt : lo ≤ a ∧ a ≤ hi → W p l e R s m args below meth c H locs cells slots Q (F0 m tgt ls rest)) (kf : ¬ (lo ≤ a ∧ a ≤ hi) → W p l e R s m args below meth c H locs cells slots Q (F0 m (pc + 3) ls rest)) : W p l e R s m args below meth c H locs cells slots Q (F0 m pc ls (.int (nI (gb (gIw (nI a) lo hi = true))) :: rest)) := g_ifb_ne C hdg ht (fun h => kt ((gIw_n ha).mp h)) (fun h => kf (fun z => h ((gIw_n ha).mpr z)))
theorem g_ifv_ne {v : Int32} {lo hi tgt : Nat} {off : Int} (C : gC X own cc ret nL p s m args meth c) (hdg : decode cc pc = .ok (.ifCond .ne off, 3)) (ht : (pc : Int) + off = (tgt : Int)) (hh : hi < 2 ^ 31) (kt : ∀ a : Nat, v = nI a → lo ≤ a → a ≤ hi → W p l e R s m args below meth c H locs cells slots Q (F0 m tgt ls rest)) (kf : gIw v lo hi = false → W p l e R s m args below meth c H locs cells slots Q (F0 m (pc + 3) ls rest)) : W p l e R s m args below meth c H locs cells slots Q (F0 m pc ls (.int (nI (gb (gIw v lo hi = true))) :: rest)) := g_ifb_ne C hdg ht (fun h => by obtain ⟨a, h1, h2, h3⟩ := gIw_t h hh; exact kt a h1 h2 h3) (fun h => kf (by simpa using h))
end GT
set_option maxRecDepth 100000 in
set_option maxHeartbeats 4000000 in
/-- in -/
theorem c_X9_in (l : Launch) {X : gX} (hI : gInj X) {mem : gM} {v : Int32} {lo hi : Nat} (hlo : lo < 2 ^ 31) (hhi : hi < 2 ^ 31) : gF l yX9_in cX9_in 3 (some .boolean) 0 0 X [.int v, .int (nI lo), .int (nI hi)] mem (some (.int (nI (gb (gIw v lo hi = true))))) mem := by
  refine gMt.of (own := RX9) (by decide) rfl hI (by simp [Value.category]) (Nat.le_of_ble_eq_true rfl) ?_
  intro p e s m args below meth c ls H locs C hnm hl hR hS
  refine g_iload_n C hl dX9_in_0 rfl ?_
  refine g_iload_n C hl dX9_in_1 rfl ?_
  refine lv_icmp_lt (tgt := 14) C.1 C.2.1 dX9_in_2 (by decide) (fun c2 => ?_) (fun c2 => ?_)
  · refine g_iconst 0 C dX9_in_14 (by decide) ?_
    refine g_zret C hR hS dX9_in_15 rfl ⟨?_, rfl⟩
    rw [gb_f (fun z => by rw [gIw_lt hlo] at c2; rw [gIw_iff] at z; omega)]
  refine g_iload_n C hl dX9_in_5 rfl ?_
  refine g_iload_n C hl dX9_in_6 rfl ?_
  refine lv_icmp_gt (tgt := 14) C.1 C.2.1 dX9_in_7 (by decide) (fun c7 => ?_) (fun c7 => ?_)
  · refine g_iconst 0 C dX9_in_14 (by decide) ?_
    refine g_zret C hR hS dX9_in_15 rfl ⟨?_, rfl⟩
    rw [gb_f (fun z => by rw [gIw_gt hhi] at c7; rw [gIw_iff] at z; omega)]
  refine g_iconst 1 C dX9_in_10 (by decide) ?_
  refine g_goto (tgt := 15) C dX9_in_11 (by decide) ?_
  refine g_zret C hR hS dX9_in_15 rfl ?_
  refine ⟨?_, rfl⟩
  rw [gb_t (by rw [gIw_lt hlo] at c2; rw [gIw_gt hhi] at c7; rw [gIw_iff]; omega)]
set_option maxRecDepth 100000 in
set_option maxHeartbeats 4000000 in
/-- isBank -/
theorem c_X9_isBank (l : Launch) {X : gX} (hI : gInj X) {mem : gM} {v : Int32} : gF l yX9_isBank cX9_isBank 1 (some .boolean) 1 22 X [.int v] mem (some (.int (nI (gb (gIw v 0 7 = true))))) mem := by
  refine gMt.of (own := RX9) (by decide) rfl hI (by simp [Value.category]) (Nat.le_of_ble_eq_true rfl) ?_
  intro p e s m args below meth c ls H locs C hnm hl hR hS
  refine g_iload_n C hl dX9_isBank_0 rfl ?_
  refine g_iconst 0 C dX9_isBank_1 (by decide) ?_
  refine g_bipush 7 C dX9_isBank_2 (by decide) ?_
  refine g_callSi C hl.1 hR hS md_X9_in ml_X9_28 (c_X9_in l hI (by decide) (by decide)) rfl rfl ⟨Nat.le_of_ble_eq_true rfl, Nat.le_of_ble_eq_true rfl⟩ ⟨Nat.le_refl _, Nat.le_refl _⟩ (Nat.le_of_ble_eq_true rfl) dX9_isBank_4 (fun H locs hR hS => ?_)
  refine g_zret C hR hS dX9_isBank_7 (by unfold gb; by_cases h : gIw v 0 7 = true <;> simp [h] <;> rfl) ?_
  exact ⟨rfl, rfl⟩
set_option maxRecDepth 100000 in
set_option maxHeartbeats 4000000 in
/-- isCell -/
theorem c_X9_isCell (l : Launch) {X : gX} (hI : gInj X) {mem : gM} {v : Int32} : gF l yX9_isCell cX9_isCell 1 (some .boolean) 1 22 X [.int v] mem (some (.int (nI (gb (gIw v 0 15 = true))))) mem := by
  refine gMt.of (own := RX9) (by decide) rfl hI (by simp [Value.category]) (Nat.le_of_ble_eq_true rfl) ?_
  intro p e s m args below meth c ls H locs C hnm hl hR hS
  refine g_iload_n C hl dX9_isCell_0 rfl ?_
  refine g_iconst 0 C dX9_isCell_1 (by decide) ?_
  refine g_bipush 15 C dX9_isCell_2 (by decide) ?_
  refine g_callSi C hl.1 hR hS md_X9_in ml_X9_28 (c_X9_in l hI (by decide) (by decide)) rfl rfl ⟨Nat.le_of_ble_eq_true rfl, Nat.le_of_ble_eq_true rfl⟩ ⟨Nat.le_refl _, Nat.le_refl _⟩ (Nat.le_of_ble_eq_true rfl) dX9_isCell_4 (fun H locs hR hS => ?_)
  refine g_zret C hR hS dX9_isCell_7 (by unfold gb; by_cases h : gIw v 0 15 = true <;> simp [h] <;> rfl) ?_
  exact ⟨rfl, rfl⟩
set_option maxRecDepth 100000 in
set_option maxHeartbeats 4000000 in
/-- isWindow -/
theorem c_X9_isWindow (l : Launch) {X : gX} (hI : gInj X) {mem : gM} {v : Int32} : gF l yX9_isWindow cX9_isWindow 1 (some .boolean) 1 22 X [.int v] mem (some (.int (nI (gb (gIw v 0 3 = true))))) mem := by
  refine gMt.of (own := RX9) (by decide) rfl hI (by simp [Value.category]) (Nat.le_of_ble_eq_true rfl) ?_
  intro p e s m args below meth c ls H locs C hnm hl hR hS
  refine g_iload_n C hl dX9_isWindow_0 rfl ?_
  refine g_iconst 0 C dX9_isWindow_1 (by decide) ?_
  refine g_iconst 3 C dX9_isWindow_2 (by decide) ?_
  refine g_callSi C hl.1 hR hS md_X9_in ml_X9_28 (c_X9_in l hI (by decide) (by decide)) rfl rfl ⟨Nat.le_of_ble_eq_true rfl, Nat.le_of_ble_eq_true rfl⟩ ⟨Nat.le_refl _, Nat.le_refl _⟩ (Nat.le_of_ble_eq_true rfl) dX9_isWindow_3 (fun H locs hR hS => ?_)
  refine g_zret C hR hS dX9_isWindow_6 (by unfold gb; by_cases h : gIw v 0 3 = true <;> simp [h] <;> rfl) ?_
  exact ⟨rfl, rfl⟩
set_option maxRecDepth 100000 in
set_option maxHeartbeats 4000000 in
/-- isAddress -/
theorem c_X9_isAddress (l : Launch) {X : gX} (hI : gInj X) {mem : gM} {v : Int32} : gF l yX9_isAddress cX9_isAddress 1 (some .boolean) 1 22 X [.int v] mem (some (.int (nI (gb (gIw v 0 63 = true))))) mem := by
  refine gMt.of (own := RX9) (by decide) rfl hI (by simp [Value.category]) (Nat.le_of_ble_eq_true rfl) ?_
  intro p e s m args below meth c ls H locs C hnm hl hR hS
  refine g_iload_n C hl dX9_isAddress_0 rfl ?_
  refine g_iconst 0 C dX9_isAddress_1 (by decide) ?_
  refine g_bipush 63 C dX9_isAddress_2 (by decide) ?_
  refine g_callSi C hl.1 hR hS md_X9_in ml_X9_28 (c_X9_in l hI (by decide) (by decide)) rfl rfl ⟨Nat.le_of_ble_eq_true rfl, Nat.le_of_ble_eq_true rfl⟩ ⟨Nat.le_refl _, Nat.le_refl _⟩ (Nat.le_of_ble_eq_true rfl) dX9_isAddress_4 (fun H locs hR hS => ?_)
  refine g_zret C hR hS dX9_isAddress_7 (by unfold gb; by_cases h : gIw v 0 63 = true <;> simp [h] <;> rfl) ?_
  exact ⟨rfl, rfl⟩
set_option maxRecDepth 100000 in
set_option maxHeartbeats 4000000 in
/-- index -/
theorem c_X9_index (l : Launch) {X : gX} (hI : gInj X) {mem : gM} {b c9 : Nat} (hb : b < 8) (hc : c9 < 16) : gF l yX9_index cX9_index 2 (some .int) 0 0 X [.int (nI b), .int (nI c9)] mem (some (.int (nI (zIx b c9)))) mem := by
  refine gMt.of (own := RX9) (by decide) rfl hI (by simp [Value.category]) (Nat.le_of_ble_eq_true rfl) ?_
  intro p e s m args below meth c ls H locs C hnm hl hR hS
  refine g_iload_n C hl dX9_index_0 rfl ?_
  refine g_bipush 12 C dX9_index_1 (by decide) ?_
  refine g_icmp_ge (tgt := 15) C dX9_index_3 (by decide) (by omega) (by omega) (fun c3 => ?_) (fun c3 => ?_)
  · -- 3 T
    refine g_bipush 96 C dX9_index_15 (by decide) ?_
    refine g_iload_n C hl dX9_index_17 rfl ?_
    refine g_iadd C dX9_index_18 ?_
    refine g_bipush 12 C dX9_index_19 (by decide) ?_
    refine g_isub C dX9_index_21 (by omega) ?_
    refine g_iret C hR hS dX9_index_22 ?_
    refine ⟨?_, rfl⟩
    unfold zIx
    first | (rw [if_neg (by omega), show 96 + c9 - 12 = 84 + c9 by omega]) | rw [if_pos (by omega)]
  · -- 3 F
    refine g_bipush 12 C dX9_index_6 (by decide) ?_
    refine g_iload_n C hl dX9_index_8 rfl ?_
    refine g_imul C dX9_index_9 ?_
    refine g_iload_n C hl dX9_index_10 rfl ?_
    refine g_iadd C dX9_index_11 ?_
    refine g_goto (tgt := 22) C dX9_index_12 (by decide) ?_
    refine g_iret C hR hS dX9_index_22 ?_
    refine ⟨?_, rfl⟩
    unfold zIx
    first | (rw [if_neg (by omega), show 96 + c9 - 12 = 84 + c9 by omega]) | rw [if_pos (by omega)]
set_option maxRecDepth 100000 in
set_option maxHeartbeats 4000000 in
/-- bankAt -/
theorem c_X9_bankAt (l : Launch) {X : gX} (hI : gInj X) {mem : gM} {f z a o k t r : Nat → Nat} {i : Nat} (hi : i < 64) : gF l yX9_bankAt cX9_bankAt 2 (some .int) 0 0 X [.ref (gAd X 8 0), .int (nI i)] (gM8 mem f z a o k t r) (some (.int (nI (zBk z i)))) (gM8 mem f z a o k t r) := by
  refine gMt.of (own := RX9) (by decide) rfl hI (by simp [Value.category]) (Nat.le_of_ble_eq_true rfl) ?_
  intro p e s m args below meth c ls H locs C hnm hl hR hS
  refine g_aload_n C hl dX9_bankAt_0 rfl ?_
  refine gt_X9_0 C hR fl_X9_7 dX9_bankAt_1 ?_
  refine g_bipush 100 C dX9_bankAt_4 (by decide) ?_
  refine g_iload_n C hl dX9_bankAt_6 rfl ?_
  refine g_bipush 16 C dX9_bankAt_7 (by decide) ?_
  refine g_idiv C dX9_bankAt_9 (by omega) (by decide) (by decide) ?_
  refine g_iadd C dX9_bankAt_10 ?_
  refine r_ald1 C hR (by omega) dX9_bankAt_11 ?_
  refine g_iret C hR hS dX9_bankAt_12 ?_
  exact ⟨rfl, rfl⟩
set_option maxRecDepth 100000 in
set_option maxHeartbeats 4000000 in
/-- indexAt -/
theorem c_X9_indexAt (l : Launch) {X : gX} (hI : gInj X) {mem : gM} {f z a o k t r : Nat → Nat} {i : Nat} (hz : zI z) (hi : i < 64) : gF l yX9_indexAt cX9_indexAt 2 (some .int) 1 21 X [.ref (gAd X 8 0), .int (nI i)] (gM8 mem f z a o k t r) (some (.int (nI (zAt z i)))) (gM8 mem f z a o k t r) := by
  refine gMt.of (own := RX9) (by decide) rfl hI (by simp [Value.category]) (Nat.le_of_ble_eq_true rfl) ?_
  intro p e s m args below meth c ls H locs C hnm hl hR hS
  refine g_aload_n C hl dX9_indexAt_0 rfl ?_
  refine g_iload_n C hl dX9_indexAt_1 rfl ?_
  refine g_callVi C hl.1 hR hS rc_X9 md_X9_bankAt ml_X9_32 (c_X9_bankAt l hI hi) rfl rfl ⟨Nat.le_of_ble_eq_true rfl, Nat.le_of_ble_eq_true rfl⟩ ⟨Nat.le_refl _, Nat.le_refl _⟩ (Nat.le_of_ble_eq_true rfl) dX9_indexAt_2 (fun H locs hR hS => ?_)
  refine g_iload_n C hl dX9_indexAt_5 rfl ?_
  refine g_bipush 16 C dX9_indexAt_6 (by decide) ?_
  refine g_irem C dX9_indexAt_8 (by omega) (by decide) (by decide) ?_
  refine g_callSi C hl.1 hR hS md_X9_index ml_X9_36 (c_X9_index l hI (hz.bk hi) (by omega)) rfl rfl ⟨Nat.le_of_ble_eq_true rfl, Nat.le_of_ble_eq_true rfl⟩ ⟨Nat.le_refl _, Nat.le_refl _⟩ (Nat.le_of_ble_eq_true rfl) dX9_indexAt_9 (fun H locs hR hS => ?_)
  refine g_iret C hR hS dX9_indexAt_12 ?_
  exact ⟨rfl, rfl⟩
set_option maxRecDepth 100000 in
set_option maxHeartbeats 4000000 in
/-- sum -/
theorem c_X9_sum (l : Launch) {X : gX} (hI : gInj X) {mem : gM} {x y : Nat} (hx9 : x < 100000) (hy : y < 100000) : gF l yX9_sum cX9_sum 2 (some .int) 0 0 X [.int (nI x), .int (nI y)] mem (some (.int (nI (zSm x y)))) mem := by
  refine gMt.of (own := RX9) (by decide) rfl hI (by simp [Value.category]) (Nat.le_of_ble_eq_true rfl) ?_
  intro p e s m args below meth c ls H locs C hnm hl hR hS
  refine g_iload_n C hl dX9_sum_0 rfl ?_
  refine g_iload_n C hl dX9_sum_1 rfl ?_
  refine g_iadd C dX9_sum_2 ?_
  refine g_sipush 999 C dX9_sum_3 (by decide) ?_
  refine g_icmp_le (tgt := 19) C dX9_sum_6 (by decide) (by omega) (by omega) (fun c6 => ?_) (fun c6 => ?_)
  · -- 6 T
    refine g_iload_n C hl dX9_sum_19 rfl ?_
    refine g_iload_n C hl dX9_sum_20 rfl ?_
    refine g_iadd C dX9_sum_21 ?_
    refine g_iret C hR hS dX9_sum_22 ?_
    refine ⟨?_, rfl⟩
    unfold zSm
    first | rw [if_pos (by omega)] | rw [if_neg (by omega)]
  · -- 6 F
    refine g_iload_n C hl dX9_sum_9 rfl ?_
    refine g_iload_n C hl dX9_sum_10 rfl ?_
    refine g_iadd C dX9_sum_11 ?_
    refine g_sipush 1000 C dX9_sum_12 (by decide) ?_
    refine g_isub C dX9_sum_15 (by omega) ?_
    refine g_goto (tgt := 22) C dX9_sum_16 (by decide) ?_
    refine g_iret C hR hS dX9_sum_22 ?_
    refine ⟨?_, rfl⟩
    unfold zSm
    first | rw [if_pos (by omega)] | rw [if_neg (by omega)]
end
section
/-! ===== the reference: a step ===== -/
set_option maxRecDepth 100000 in
set_option maxHeartbeats 4000000 in
/-- whyNot -/
theorem c_X9_whyNot (l : Launch) {X : gX} (hI : gInj X) {mem : gM} {f z a o k t r : Nat → Nat} {kind n : Nat} (hz : zI z) (hk : kind < 10) (hn : n < 100) : gF l yX9_whyNot cX9_whyNot 4 (some .int) 2 42 X [.ref (gAd X 8 0), .int (nI kind), .int (nI n)] (gM8 mem f z a o k t r) (some (.int (nI (zWhy z kind n)))) (gM8 mem f z a o k t r) := by
  refine gMt.of (own := RX9) (by decide) rfl hI (by simp [Value.category]) (Nat.le_of_ble_eq_true rfl) ?_
  intro p e s m args below meth c ls H locs C hnm hl hR hS
  have h116 := hz.2.2.2.2.2.2.2.1
  refine g_iload_n C hl dX9_whyNot_0 rfl ?_
  refine g_iconst 2 C dX9_whyNot_1 (by decide) ?_
  refine g_iconst 5 C dX9_whyNot_2 (by decide) ?_
  refine g_callSi C hl.1 hR hS md_X9_in ml_X9_28 (c_X9_in l hI (by decide) (by decide)) rfl rfl ⟨Nat.le_of_ble_eq_true rfl, Nat.le_of_ble_eq_true rfl⟩ ⟨Nat.le_refl _, Nat.le_refl _⟩ (Nat.le_of_ble_eq_true rfl) dX9_whyNot_3 (fun H locs hR hS => ?_)
  refine g_ifw_eq (tgt := 20) C dX9_whyNot_6 (by decide) (by omega) (fun c6 => ?_) (fun c6 => ?_)
  · -- 6 T
    refine g_iconst 0 C dX9_whyNot_20 (by decide) ?_
    refine g_istore_n C hl dX9_whyNot_21 (Nat.le_of_ble_eq_true rfl) (fun ls hl => ?_)
    refine g_iload_n C hl dX9_whyNot_22 rfl ?_
    refine g_if_ne (tgt := 68) C dX9_whyNot_23 (by decide) (by omega) (fun z9 => absurd z9 (by omega)) (fun c23 => ?_)
    refine g_iload_n C hl dX9_whyNot_26 rfl ?_
    refine g_bipush 6 C dX9_whyNot_27 (by decide) ?_
    refine g_icmp_ne (tgt := 52) C dX9_whyNot_29 (by decide) (by omega) (by omega) (fun c29 => ?_) (fun c29 => ?_)
    · -- 29 T
      refine g_iload_n C hl dX9_whyNot_52 rfl ?_
      refine g_bipush 7 C dX9_whyNot_53 (by decide) ?_
      refine g_icmp_ne (tgt := 72) C dX9_whyNot_55 (by decide) (by omega) (by omega) (fun c55 => ?_) (fun c55 => ?_)
      · -- 55 T
        refine g_iconst 0 C dX9_whyNot_72 (by decide) ?_
        refine g_istore_n C hl dX9_whyNot_73 (Nat.le_of_ble_eq_true rfl) (fun ls hl => ?_)
        refine g_iload_n C hl dX9_whyNot_74 rfl ?_
        refine g_if_eq (tgt := 80) C dX9_whyNot_75 (by decide) (by omega) (fun c75 => ?_) (fun z9 => absurd z9 (by omega))
        refine g_iload_n C hl dX9_whyNot_80 rfl ?_
        refine g_bipush 7 C dX9_whyNot_81 (by decide) ?_
        refine g_icmp_ne (tgt := 102) C dX9_whyNot_83 (by decide) (by omega) (by omega) (fun c83 => ?_) (fun c83 => ?_)
        · -- 83 T
          refine g_iload_n C hl dX9_whyNot_102 rfl ?_
          refine g_bipush 8 C dX9_whyNot_103 (by decide) ?_
          refine g_icmp_ne (tgt := 122) C dX9_whyNot_105 (by decide) (by omega) (by omega) (fun c105 => ?_) (fun c105 => ?_)
          · -- 105 T
            refine g_iconst 0 C dX9_whyNot_122 (by decide) ?_
            refine g_iret C hR hS dX9_whyNot_123 ?_
            refine ⟨?_, rfl⟩
            unfold zWhy
            first | (exfalso; omega) | rw [if_pos (by omega)] | rw [if_neg (by omega), if_pos (by omega)] | rw [if_neg (by omega), if_neg (by omega), if_pos (by omega)] | rw [if_neg (by omega), if_neg (by omega), if_neg (by omega)]
          · -- 105 F
            refine g_aload_n C hl dX9_whyNot_108 rfl ?_
            refine gt_X9_0 C hR fl_X9_7 dX9_whyNot_109 ?_
            refine g_bipush 116 C dX9_whyNot_112 (by decide) ?_
            refine r_ald1 C hR (by omega) dX9_whyNot_114 ?_
            refine g_if_ne (tgt := 122) C dX9_whyNot_115 (by decide) (by omega) (fun c115 => ?_) (fun c115 => ?_)
            · -- 115 T
              refine g_iconst 0 C dX9_whyNot_122 (by decide) ?_
              refine g_iret C hR hS dX9_whyNot_123 ?_
              refine ⟨?_, rfl⟩
              unfold zWhy
              first | (exfalso; omega) | rw [if_pos (by omega)] | rw [if_neg (by omega), if_pos (by omega)] | rw [if_neg (by omega), if_neg (by omega), if_pos (by omega)] | rw [if_neg (by omega), if_neg (by omega), if_neg (by omega)]
            · -- 115 F
              refine g_iconst 5 C dX9_whyNot_118 (by decide) ?_
              refine g_goto (tgt := 123) C dX9_whyNot_119 (by decide) ?_
              refine g_iret C hR hS dX9_whyNot_123 ?_
              refine ⟨?_, rfl⟩
              unfold zWhy
              first | (exfalso; omega) | rw [if_pos (by omega)] | rw [if_neg (by omega), if_pos (by omega)] | rw [if_neg (by omega), if_neg (by omega), if_pos (by omega)] | rw [if_neg (by omega), if_neg (by omega), if_neg (by omega)]
        · -- 83 F
          refine g_aload_n C hl dX9_whyNot_86 rfl ?_
          refine gt_X9_0 C hR fl_X9_7 dX9_whyNot_87 ?_
          refine g_bipush 116 C dX9_whyNot_90 (by decide) ?_
          refine r_ald1 C hR (by omega) dX9_whyNot_92 ?_
          refine g_bipush 8 C dX9_whyNot_93 (by decide) ?_
          refine g_icmp_ne (tgt := 102) C dX9_whyNot_95 (by decide) (by omega) (by omega) (fun c95 => ?_) (fun c95 => ?_)
          · -- 95 T
            refine g_iload_n C hl dX9_whyNot_102 rfl ?_
            refine g_bipush 8 C dX9_whyNot_103 (by decide) ?_
            refine g_icmp_ne (tgt := 122) C dX9_whyNot_105 (by decide) (by omega) (by omega) (fun c105 => ?_) (fun c105 => ?_)
            · -- 105 T
              refine g_iconst 0 C dX9_whyNot_122 (by decide) ?_
              refine g_iret C hR hS dX9_whyNot_123 ?_
              refine ⟨?_, rfl⟩
              unfold zWhy
              first | (exfalso; omega) | rw [if_pos (by omega)] | rw [if_neg (by omega), if_pos (by omega)] | rw [if_neg (by omega), if_neg (by omega), if_pos (by omega)] | rw [if_neg (by omega), if_neg (by omega), if_neg (by omega)]
            · -- 105 F
              refine g_aload_n C hl dX9_whyNot_108 rfl ?_
              refine gt_X9_0 C hR fl_X9_7 dX9_whyNot_109 ?_
              refine g_bipush 116 C dX9_whyNot_112 (by decide) ?_
              refine r_ald1 C hR (by omega) dX9_whyNot_114 ?_
              refine g_if_ne (tgt := 122) C dX9_whyNot_115 (by decide) (by omega) (fun c115 => ?_) (fun c115 => ?_)
              · -- 115 T
                refine g_iconst 0 C dX9_whyNot_122 (by decide) ?_
                refine g_iret C hR hS dX9_whyNot_123 ?_
                refine ⟨?_, rfl⟩
                unfold zWhy
                first | (exfalso; omega) | rw [if_pos (by omega)] | rw [if_neg (by omega), if_pos (by omega)] | rw [if_neg (by omega), if_neg (by omega), if_pos (by omega)] | rw [if_neg (by omega), if_neg (by omega), if_neg (by omega)]
              · -- 115 F
                refine g_iconst 5 C dX9_whyNot_118 (by decide) ?_
                refine g_goto (tgt := 123) C dX9_whyNot_119 (by decide) ?_
                refine g_iret C hR hS dX9_whyNot_123 ?_
                refine ⟨?_, rfl⟩
                unfold zWhy
                first | (exfalso; omega) | rw [if_pos (by omega)] | rw [if_neg (by omega), if_pos (by omega)] | rw [if_neg (by omega), if_neg (by omega), if_pos (by omega)] | rw [if_neg (by omega), if_neg (by omega), if_neg (by omega)]
          · -- 95 F
            refine g_iconst 4 C dX9_whyNot_98 (by decide) ?_
            refine g_goto (tgt := 123) C dX9_whyNot_99 (by decide) ?_
            refine g_iret C hR hS dX9_whyNot_123 ?_
            refine ⟨?_, rfl⟩
            unfold zWhy
            first | (exfalso; omega) | rw [if_pos (by omega)] | rw [if_neg (by omega), if_pos (by omega)] | rw [if_neg (by omega), if_neg (by omega), if_pos (by omega)] | rw [if_neg (by omega), if_neg (by omega), if_neg (by omega)]
      · -- 55 F
        refine g_iload_n C hl dX9_whyNot_58 rfl ?_
        refine g_bipush 10 C dX9_whyNot_59 (by decide) ?_
        refine g_idiv C dX9_whyNot_61 (by omega) (by decide) (by decide) ?_
        refine g_callSi C hl.1 hR hS md_X9_isBank ml_X9_51 (c_X9_isBank l hI) rfl rfl ⟨Nat.le_of_ble_eq_true rfl, Nat.le_of_ble_eq_true rfl⟩ ⟨Nat.le_refl _, Nat.le_refl _⟩ (Nat.le_of_ble_eq_true rfl) dX9_whyNot_62 (fun H locs hR hS => ?_)
        refine g_ifw_ne (tgt := 72) C dX9_whyNot_65 (by decide) (by omega) (fun c65 => ?_) (fun c65 => ?_)
        · -- 65 T
          refine g_iconst 0 C dX9_whyNot_72 (by decide) ?_
          refine g_istore_n C hl dX9_whyNot_73 (Nat.le_of_ble_eq_true rfl) (fun ls hl => ?_)
          refine g_iload_n C hl dX9_whyNot_74 rfl ?_
          refine g_if_eq (tgt := 80) C dX9_whyNot_75 (by decide) (by omega) (fun c75 => ?_) (fun z9 => absurd z9 (by omega))
          refine g_iload_n C hl dX9_whyNot_80 rfl ?_
          refine g_bipush 7 C dX9_whyNot_81 (by decide) ?_
          refine g_icmp_ne (tgt := 102) C dX9_whyNot_83 (by decide) (by omega) (by omega) (fun c83 => ?_) (fun c83 => ?_)
          · -- 83 T
            refine g_iload_n C hl dX9_whyNot_102 rfl ?_
            refine g_bipush 8 C dX9_whyNot_103 (by decide) ?_
            refine g_icmp_ne (tgt := 122) C dX9_whyNot_105 (by decide) (by omega) (by omega) (fun c105 => ?_) (fun c105 => ?_)
            · -- 105 T
              refine g_iconst 0 C dX9_whyNot_122 (by decide) ?_
              refine g_iret C hR hS dX9_whyNot_123 ?_
              refine ⟨?_, rfl⟩
              unfold zWhy
              first | (exfalso; omega) | rw [if_pos (by omega)] | rw [if_neg (by omega), if_pos (by omega)] | rw [if_neg (by omega), if_neg (by omega), if_pos (by omega)] | rw [if_neg (by omega), if_neg (by omega), if_neg (by omega)]
            · -- 105 F
              refine g_aload_n C hl dX9_whyNot_108 rfl ?_
              refine gt_X9_0 C hR fl_X9_7 dX9_whyNot_109 ?_
              refine g_bipush 116 C dX9_whyNot_112 (by decide) ?_
              refine r_ald1 C hR (by omega) dX9_whyNot_114 ?_
              refine g_if_ne (tgt := 122) C dX9_whyNot_115 (by decide) (by omega) (fun c115 => ?_) (fun c115 => ?_)
              · -- 115 T
                refine g_iconst 0 C dX9_whyNot_122 (by decide) ?_
                refine g_iret C hR hS dX9_whyNot_123 ?_
                refine ⟨?_, rfl⟩
                unfold zWhy
                first | (exfalso; omega) | rw [if_pos (by omega)] | rw [if_neg (by omega), if_pos (by omega)] | rw [if_neg (by omega), if_neg (by omega), if_pos (by omega)] | rw [if_neg (by omega), if_neg (by omega), if_neg (by omega)]
              · -- 115 F
                refine g_iconst 5 C dX9_whyNot_118 (by decide) ?_
                refine g_goto (tgt := 123) C dX9_whyNot_119 (by decide) ?_
                refine g_iret C hR hS dX9_whyNot_123 ?_
                refine ⟨?_, rfl⟩
                unfold zWhy
                first | (exfalso; omega) | rw [if_pos (by omega)] | rw [if_neg (by omega), if_pos (by omega)] | rw [if_neg (by omega), if_neg (by omega), if_pos (by omega)] | rw [if_neg (by omega), if_neg (by omega), if_neg (by omega)]
          · -- 83 F
            refine g_aload_n C hl dX9_whyNot_86 rfl ?_
            refine gt_X9_0 C hR fl_X9_7 dX9_whyNot_87 ?_
            refine g_bipush 116 C dX9_whyNot_90 (by decide) ?_
            refine r_ald1 C hR (by omega) dX9_whyNot_92 ?_
            refine g_bipush 8 C dX9_whyNot_93 (by decide) ?_
            refine g_icmp_ne (tgt := 102) C dX9_whyNot_95 (by decide) (by omega) (by omega) (fun c95 => ?_) (fun c95 => ?_)
            · -- 95 T
              refine g_iload_n C hl dX9_whyNot_102 rfl ?_
              refine g_bipush 8 C dX9_whyNot_103 (by decide) ?_
              refine g_icmp_ne (tgt := 122) C dX9_whyNot_105 (by decide) (by omega) (by omega) (fun c105 => ?_) (fun c105 => ?_)
              · -- 105 T
                refine g_iconst 0 C dX9_whyNot_122 (by decide) ?_
                refine g_iret C hR hS dX9_whyNot_123 ?_
                refine ⟨?_, rfl⟩
                unfold zWhy
                first | (exfalso; omega) | rw [if_pos (by omega)] | rw [if_neg (by omega), if_pos (by omega)] | rw [if_neg (by omega), if_neg (by omega), if_pos (by omega)] | rw [if_neg (by omega), if_neg (by omega), if_neg (by omega)]
              · -- 105 F
                refine g_aload_n C hl dX9_whyNot_108 rfl ?_
                refine gt_X9_0 C hR fl_X9_7 dX9_whyNot_109 ?_
                refine g_bipush 116 C dX9_whyNot_112 (by decide) ?_
                refine r_ald1 C hR (by omega) dX9_whyNot_114 ?_
                refine g_if_ne (tgt := 122) C dX9_whyNot_115 (by decide) (by omega) (fun c115 => ?_) (fun c115 => ?_)
                · -- 115 T
                  refine g_iconst 0 C dX9_whyNot_122 (by decide) ?_
                  refine g_iret C hR hS dX9_whyNot_123 ?_
                  refine ⟨?_, rfl⟩
                  unfold zWhy
                  first | (exfalso; omega) | rw [if_pos (by omega)] | rw [if_neg (by omega), if_pos (by omega)] | rw [if_neg (by omega), if_neg (by omega), if_pos (by omega)] | rw [if_neg (by omega), if_neg (by omega), if_neg (by omega)]
                · -- 115 F
                  refine g_iconst 5 C dX9_whyNot_118 (by decide) ?_
                  refine g_goto (tgt := 123) C dX9_whyNot_119 (by decide) ?_
                  refine g_iret C hR hS dX9_whyNot_123 ?_
                  refine ⟨?_, rfl⟩
                  unfold zWhy
                  first | (exfalso; omega) | rw [if_pos (by omega)] | rw [if_neg (by omega), if_pos (by omega)] | rw [if_neg (by omega), if_neg (by omega), if_pos (by omega)] | rw [if_neg (by omega), if_neg (by omega), if_neg (by omega)]
            · -- 95 F
              refine g_iconst 4 C dX9_whyNot_98 (by decide) ?_
              refine g_goto (tgt := 123) C dX9_whyNot_99 (by decide) ?_
              refine g_iret C hR hS dX9_whyNot_123 ?_
              refine ⟨?_, rfl⟩
              unfold zWhy
              first | (exfalso; omega) | rw [if_pos (by omega)] | rw [if_neg (by omega), if_pos (by omega)] | rw [if_neg (by omega), if_neg (by omega), if_pos (by omega)] | rw [if_neg (by omega), if_neg (by omega), if_neg (by omega)]
        · -- 65 F
          refine g_iconst 1 C dX9_whyNot_68 (by decide) ?_
          refine g_goto (tgt := 73) C dX9_whyNot_69 (by decide) ?_
          refine g_istore_n C hl dX9_whyNot_73 (Nat.le_of_ble_eq_true rfl) (fun ls hl => ?_)
          refine g_iload_n C hl dX9_whyNot_74 rfl ?_
          refine g_if_eq (tgt := 80) C dX9_whyNot_75 (by decide) (by omega) (fun z9 => absurd z9 (by omega)) (fun c75 => ?_)
          refine g_iconst 3 C dX9_whyNot_78 (by decide) ?_
          refine g_iret C hR hS dX9_whyNot_79 ?_
          refine ⟨?_, rfl⟩
          unfold zWhy
          first | (exfalso; omega) | rw [if_pos (by omega)] | rw [if_neg (by omega), if_pos (by omega)] | rw [if_neg (by omega), if_neg (by omega), if_pos (by omega)] | rw [if_neg (by omega), if_neg (by omega), if_neg (by omega)]
    · -- 29 F
      refine g_iload_n C hl dX9_whyNot_32 rfl ?_
      refine g_bipush 10 C dX9_whyNot_33 (by decide) ?_
      refine g_idiv C dX9_whyNot_35 (by omega) (by decide) (by decide) ?_
      refine g_callSi C hl.1 hR hS md_X9_isWindow ml_X9_65 (c_X9_isWindow l hI) rfl rfl ⟨Nat.le_of_ble_eq_true rfl, Nat.le_of_ble_eq_true rfl⟩ ⟨Nat.le_refl _, Nat.le_refl _⟩ (Nat.le_of_ble_eq_true rfl) dX9_whyNot_36 (fun H locs hR hS => ?_)
      refine g_ifw_eq (tgt := 68) C dX9_whyNot_39 (by decide) (by omega) (fun c39 => ?_) (fun c39 => ?_)
      · -- 39 T
        refine g_iconst 1 C dX9_whyNot_68 (by decide) ?_
        refine g_goto (tgt := 73) C dX9_whyNot_69 (by decide) ?_
        refine g_istore_n C hl dX9_whyNot_73 (Nat.le_of_ble_eq_true rfl) (fun ls hl => ?_)
        refine g_iload_n C hl dX9_whyNot_74 rfl ?_
        refine g_if_eq (tgt := 80) C dX9_whyNot_75 (by decide) (by omega) (fun z9 => absurd z9 (by omega)) (fun c75 => ?_)
        refine g_iconst 3 C dX9_whyNot_78 (by decide) ?_
        refine g_iret C hR hS dX9_whyNot_79 ?_
        refine ⟨?_, rfl⟩
        unfold zWhy
        first | (exfalso; omega) | rw [if_pos (by omega)] | rw [if_neg (by omega), if_pos (by omega)] | rw [if_neg (by omega), if_neg (by omega), if_pos (by omega)] | rw [if_neg (by omega), if_neg (by omega), if_neg (by omega)]
      · -- 39 F
        refine g_iload_n C hl dX9_whyNot_42 rfl ?_
        refine g_bipush 10 C dX9_whyNot_43 (by decide) ?_
        refine g_irem C dX9_whyNot_45 (by omega) (by decide) (by decide) ?_
        refine g_callSi C hl.1 hR hS md_X9_isBank ml_X9_51 (c_X9_isBank l hI) rfl rfl ⟨Nat.le_of_ble_eq_true rfl, Nat.le_of_ble_eq_true rfl⟩ ⟨Nat.le_refl _, Nat.le_refl _⟩ (Nat.le_of_ble_eq_true rfl) dX9_whyNot_46 (fun H locs hR hS => ?_)
        refine g_ifw_eq (tgt := 68) C dX9_whyNot_49 (by decide) (by omega) (fun c49 => ?_) (fun c49 => ?_)
        · -- 49 T
          refine g_iconst 1 C dX9_whyNot_68 (by decide) ?_
          refine g_goto (tgt := 73) C dX9_whyNot_69 (by decide) ?_
          refine g_istore_n C hl dX9_whyNot_73 (Nat.le_of_ble_eq_true rfl) (fun ls hl => ?_)
          refine g_iload_n C hl dX9_whyNot_74 rfl ?_
          refine g_if_eq (tgt := 80) C dX9_whyNot_75 (by decide) (by omega) (fun z9 => absurd z9 (by omega)) (fun c75 => ?_)
          refine g_iconst 3 C dX9_whyNot_78 (by decide) ?_
          refine g_iret C hR hS dX9_whyNot_79 ?_
          refine ⟨?_, rfl⟩
          unfold zWhy
          first | (exfalso; omega) | rw [if_pos (by omega)] | rw [if_neg (by omega), if_pos (by omega)] | rw [if_neg (by omega), if_neg (by omega), if_pos (by omega)] | rw [if_neg (by omega), if_neg (by omega), if_neg (by omega)]
        · -- 49 F
          refine g_iload_n C hl dX9_whyNot_52 rfl ?_
          refine g_bipush 7 C dX9_whyNot_53 (by decide) ?_
          refine g_icmp_ne (tgt := 72) C dX9_whyNot_55 (by decide) (by omega) (by omega) (fun c55 => ?_) (fun c55 => ?_)
          · -- 55 T
            refine g_iconst 0 C dX9_whyNot_72 (by decide) ?_
            refine g_istore_n C hl dX9_whyNot_73 (Nat.le_of_ble_eq_true rfl) (fun ls hl => ?_)
            refine g_iload_n C hl dX9_whyNot_74 rfl ?_
            refine g_if_eq (tgt := 80) C dX9_whyNot_75 (by decide) (by omega) (fun c75 => ?_) (fun z9 => absurd z9 (by omega))
            refine g_iload_n C hl dX9_whyNot_80 rfl ?_
            refine g_bipush 7 C dX9_whyNot_81 (by decide) ?_
            refine g_icmp_ne (tgt := 102) C dX9_whyNot_83 (by decide) (by omega) (by omega) (fun c83 => ?_) (fun c83 => ?_)
            · -- 83 T
              refine g_iload_n C hl dX9_whyNot_102 rfl ?_
              refine g_bipush 8 C dX9_whyNot_103 (by decide) ?_
              refine g_icmp_ne (tgt := 122) C dX9_whyNot_105 (by decide) (by omega) (by omega) (fun c105 => ?_) (fun c105 => ?_)
              · -- 105 T
                refine g_iconst 0 C dX9_whyNot_122 (by decide) ?_
                refine g_iret C hR hS dX9_whyNot_123 ?_
                refine ⟨?_, rfl⟩
                unfold zWhy
                first | (exfalso; omega) | rw [if_pos (by omega)] | rw [if_neg (by omega), if_pos (by omega)] | rw [if_neg (by omega), if_neg (by omega), if_pos (by omega)] | rw [if_neg (by omega), if_neg (by omega), if_neg (by omega)]
              · -- 105 F
                refine g_aload_n C hl dX9_whyNot_108 rfl ?_
                refine gt_X9_0 C hR fl_X9_7 dX9_whyNot_109 ?_
                refine g_bipush 116 C dX9_whyNot_112 (by decide) ?_
                refine r_ald1 C hR (by omega) dX9_whyNot_114 ?_
                refine g_if_ne (tgt := 122) C dX9_whyNot_115 (by decide) (by omega) (fun c115 => ?_) (fun c115 => ?_)
                · -- 115 T
                  refine g_iconst 0 C dX9_whyNot_122 (by decide) ?_
                  refine g_iret C hR hS dX9_whyNot_123 ?_
                  refine ⟨?_, rfl⟩
                  unfold zWhy
                  first | (exfalso; omega) | rw [if_pos (by omega)] | rw [if_neg (by omega), if_pos (by omega)] | rw [if_neg (by omega), if_neg (by omega), if_pos (by omega)] | rw [if_neg (by omega), if_neg (by omega), if_neg (by omega)]
                · -- 115 F
                  refine g_iconst 5 C dX9_whyNot_118 (by decide) ?_
                  refine g_goto (tgt := 123) C dX9_whyNot_119 (by decide) ?_
                  refine g_iret C hR hS dX9_whyNot_123 ?_
                  refine ⟨?_, rfl⟩
                  unfold zWhy
                  first | (exfalso; omega) | rw [if_pos (by omega)] | rw [if_neg (by omega), if_pos (by omega)] | rw [if_neg (by omega), if_neg (by omega), if_pos (by omega)] | rw [if_neg (by omega), if_neg (by omega), if_neg (by omega)]
            · -- 83 F
              refine g_aload_n C hl dX9_whyNot_86 rfl ?_
              refine gt_X9_0 C hR fl_X9_7 dX9_whyNot_87 ?_
              refine g_bipush 116 C dX9_whyNot_90 (by decide) ?_
              refine r_ald1 C hR (by omega) dX9_whyNot_92 ?_
              refine g_bipush 8 C dX9_whyNot_93 (by decide) ?_
              refine g_icmp_ne (tgt := 102) C dX9_whyNot_95 (by decide) (by omega) (by omega) (fun c95 => ?_) (fun c95 => ?_)
              · -- 95 T
                refine g_iload_n C hl dX9_whyNot_102 rfl ?_
                refine g_bipush 8 C dX9_whyNot_103 (by decide) ?_
                refine g_icmp_ne (tgt := 122) C dX9_whyNot_105 (by decide) (by omega) (by omega) (fun c105 => ?_) (fun c105 => ?_)
                · -- 105 T
                  refine g_iconst 0 C dX9_whyNot_122 (by decide) ?_
                  refine g_iret C hR hS dX9_whyNot_123 ?_
                  refine ⟨?_, rfl⟩
                  unfold zWhy
                  first | (exfalso; omega) | rw [if_pos (by omega)] | rw [if_neg (by omega), if_pos (by omega)] | rw [if_neg (by omega), if_neg (by omega), if_pos (by omega)] | rw [if_neg (by omega), if_neg (by omega), if_neg (by omega)]
                · -- 105 F
                  refine g_aload_n C hl dX9_whyNot_108 rfl ?_
                  refine gt_X9_0 C hR fl_X9_7 dX9_whyNot_109 ?_
                  refine g_bipush 116 C dX9_whyNot_112 (by decide) ?_
                  refine r_ald1 C hR (by omega) dX9_whyNot_114 ?_
                  refine g_if_ne (tgt := 122) C dX9_whyNot_115 (by decide) (by omega) (fun c115 => ?_) (fun c115 => ?_)
                  · -- 115 T
                    refine g_iconst 0 C dX9_whyNot_122 (by decide) ?_
                    refine g_iret C hR hS dX9_whyNot_123 ?_
                    refine ⟨?_, rfl⟩
                    unfold zWhy
                    first | (exfalso; omega) | rw [if_pos (by omega)] | rw [if_neg (by omega), if_pos (by omega)] | rw [if_neg (by omega), if_neg (by omega), if_pos (by omega)] | rw [if_neg (by omega), if_neg (by omega), if_neg (by omega)]
                  · -- 115 F
                    refine g_iconst 5 C dX9_whyNot_118 (by decide) ?_
                    refine g_goto (tgt := 123) C dX9_whyNot_119 (by decide) ?_
                    refine g_iret C hR hS dX9_whyNot_123 ?_
                    refine ⟨?_, rfl⟩
                    unfold zWhy
                    first | (exfalso; omega) | rw [if_pos (by omega)] | rw [if_neg (by omega), if_pos (by omega)] | rw [if_neg (by omega), if_neg (by omega), if_pos (by omega)] | rw [if_neg (by omega), if_neg (by omega), if_neg (by omega)]
              · -- 95 F
                refine g_iconst 4 C dX9_whyNot_98 (by decide) ?_
                refine g_goto (tgt := 123) C dX9_whyNot_99 (by decide) ?_
                refine g_iret C hR hS dX9_whyNot_123 ?_
                refine ⟨?_, rfl⟩
                unfold zWhy
                first | (exfalso; omega) | rw [if_pos (by omega)] | rw [if_neg (by omega), if_pos (by omega)] | rw [if_neg (by omega), if_neg (by omega), if_pos (by omega)] | rw [if_neg (by omega), if_neg (by omega), if_neg (by omega)]
          · -- 55 F
            refine g_iload_n C hl dX9_whyNot_58 rfl ?_
            refine g_bipush 10 C dX9_whyNot_59 (by decide) ?_
            refine g_idiv C dX9_whyNot_61 (by omega) (by decide) (by decide) ?_
            refine g_callSi C hl.1 hR hS md_X9_isBank ml_X9_51 (c_X9_isBank l hI) rfl rfl ⟨Nat.le_of_ble_eq_true rfl, Nat.le_of_ble_eq_true rfl⟩ ⟨Nat.le_refl _, Nat.le_refl _⟩ (Nat.le_of_ble_eq_true rfl) dX9_whyNot_62 (fun H locs hR hS => ?_)
            refine g_ifw_ne (tgt := 72) C dX9_whyNot_65 (by decide) (by omega) (fun c65 => ?_) (fun c65 => ?_)
            · -- 65 T
              refine g_iconst 0 C dX9_whyNot_72 (by decide) ?_
              refine g_istore_n C hl dX9_whyNot_73 (Nat.le_of_ble_eq_true rfl) (fun ls hl => ?_)
              refine g_iload_n C hl dX9_whyNot_74 rfl ?_
              refine g_if_eq (tgt := 80) C dX9_whyNot_75 (by decide) (by omega) (fun c75 => ?_) (fun z9 => absurd z9 (by omega))
              refine g_iload_n C hl dX9_whyNot_80 rfl ?_
              refine g_bipush 7 C dX9_whyNot_81 (by decide) ?_
              refine g_icmp_ne (tgt := 102) C dX9_whyNot_83 (by decide) (by omega) (by omega) (fun c83 => ?_) (fun c83 => ?_)
              · -- 83 T
                refine g_iload_n C hl dX9_whyNot_102 rfl ?_
                refine g_bipush 8 C dX9_whyNot_103 (by decide) ?_
                refine g_icmp_ne (tgt := 122) C dX9_whyNot_105 (by decide) (by omega) (by omega) (fun c105 => ?_) (fun c105 => ?_)
                · -- 105 T
                  refine g_iconst 0 C dX9_whyNot_122 (by decide) ?_
                  refine g_iret C hR hS dX9_whyNot_123 ?_
                  refine ⟨?_, rfl⟩
                  unfold zWhy
                  first | (exfalso; omega) | rw [if_pos (by omega)] | rw [if_neg (by omega), if_pos (by omega)] | rw [if_neg (by omega), if_neg (by omega), if_pos (by omega)] | rw [if_neg (by omega), if_neg (by omega), if_neg (by omega)]
                · -- 105 F
                  refine g_aload_n C hl dX9_whyNot_108 rfl ?_
                  refine gt_X9_0 C hR fl_X9_7 dX9_whyNot_109 ?_
                  refine g_bipush 116 C dX9_whyNot_112 (by decide) ?_
                  refine r_ald1 C hR (by omega) dX9_whyNot_114 ?_
                  refine g_if_ne (tgt := 122) C dX9_whyNot_115 (by decide) (by omega) (fun c115 => ?_) (fun c115 => ?_)
                  · -- 115 T
                    refine g_iconst 0 C dX9_whyNot_122 (by decide) ?_
                    refine g_iret C hR hS dX9_whyNot_123 ?_
                    refine ⟨?_, rfl⟩
                    unfold zWhy
                    first | (exfalso; omega) | rw [if_pos (by omega)] | rw [if_neg (by omega), if_pos (by omega)] | rw [if_neg (by omega), if_neg (by omega), if_pos (by omega)] | rw [if_neg (by omega), if_neg (by omega), if_neg (by omega)]
                  · -- 115 F
                    refine g_iconst 5 C dX9_whyNot_118 (by decide) ?_
                    refine g_goto (tgt := 123) C dX9_whyNot_119 (by decide) ?_
                    refine g_iret C hR hS dX9_whyNot_123 ?_
                    refine ⟨?_, rfl⟩
                    unfold zWhy
                    first | (exfalso; omega) | rw [if_pos (by omega)] | rw [if_neg (by omega), if_pos (by omega)] | rw [if_neg (by omega), if_neg (by omega), if_pos (by omega)] | rw [if_neg (by omega), if_neg (by omega), if_neg (by omega)]
              · -- 83 F
                refine g_aload_n C hl dX9_whyNot_86 rfl ?_
                refine gt_X9_0 C hR fl_X9_7 dX9_whyNot_87 ?_
                refine g_bipush 116 C dX9_whyNot_90 (by decide) ?_
                refine r_ald1 C hR (by omega) dX9_whyNot_92 ?_
                refine g_bipush 8 C dX9_whyNot_93 (by decide) ?_
                refine g_icmp_ne (tgt := 102) C dX9_whyNot_95 (by decide) (by omega) (by omega) (fun c95 => ?_) (fun c95 => ?_)
                · -- 95 T
                  refine g_iload_n C hl dX9_whyNot_102 rfl ?_
                  refine g_bipush 8 C dX9_whyNot_103 (by decide) ?_
                  refine g_icmp_ne (tgt := 122) C dX9_whyNot_105 (by decide) (by omega) (by omega) (fun c105 => ?_) (fun c105 => ?_)
                  · -- 105 T
                    refine g_iconst 0 C dX9_whyNot_122 (by decide) ?_
                    refine g_iret C hR hS dX9_whyNot_123 ?_
                    refine ⟨?_, rfl⟩
                    unfold zWhy
                    first | (exfalso; omega) | rw [if_pos (by omega)] | rw [if_neg (by omega), if_pos (by omega)] | rw [if_neg (by omega), if_neg (by omega), if_pos (by omega)] | rw [if_neg (by omega), if_neg (by omega), if_neg (by omega)]
                  · -- 105 F
                    refine g_aload_n C hl dX9_whyNot_108 rfl ?_
                    refine gt_X9_0 C hR fl_X9_7 dX9_whyNot_109 ?_
                    refine g_bipush 116 C dX9_whyNot_112 (by decide) ?_
                    refine r_ald1 C hR (by omega) dX9_whyNot_114 ?_
                    refine g_if_ne (tgt := 122) C dX9_whyNot_115 (by decide) (by omega) (fun c115 => ?_) (fun c115 => ?_)
                    · -- 115 T
                      refine g_iconst 0 C dX9_whyNot_122 (by decide) ?_
                      refine g_iret C hR hS dX9_whyNot_123 ?_
                      refine ⟨?_, rfl⟩
                      unfold zWhy
                      first | (exfalso; omega) | rw [if_pos (by omega)] | rw [if_neg (by omega), if_pos (by omega)] | rw [if_neg (by omega), if_neg (by omega), if_pos (by omega)] | rw [if_neg (by omega), if_neg (by omega), if_neg (by omega)]
                    · -- 115 F
                      refine g_iconst 5 C dX9_whyNot_118 (by decide) ?_
                      refine g_goto (tgt := 123) C dX9_whyNot_119 (by decide) ?_
                      refine g_iret C hR hS dX9_whyNot_123 ?_
                      refine ⟨?_, rfl⟩
                      unfold zWhy
                      first | (exfalso; omega) | rw [if_pos (by omega)] | rw [if_neg (by omega), if_pos (by omega)] | rw [if_neg (by omega), if_neg (by omega), if_pos (by omega)] | rw [if_neg (by omega), if_neg (by omega), if_neg (by omega)]
                · -- 95 F
                  refine g_iconst 4 C dX9_whyNot_98 (by decide) ?_
                  refine g_goto (tgt := 123) C dX9_whyNot_99 (by decide) ?_
                  refine g_iret C hR hS dX9_whyNot_123 ?_
                  refine ⟨?_, rfl⟩
                  unfold zWhy
                  first | (exfalso; omega) | rw [if_pos (by omega)] | rw [if_neg (by omega), if_pos (by omega)] | rw [if_neg (by omega), if_neg (by omega), if_pos (by omega)] | rw [if_neg (by omega), if_neg (by omega), if_neg (by omega)]
            · -- 65 F
              refine g_iconst 1 C dX9_whyNot_68 (by decide) ?_
              refine g_goto (tgt := 73) C dX9_whyNot_69 (by decide) ?_
              refine g_istore_n C hl dX9_whyNot_73 (Nat.le_of_ble_eq_true rfl) (fun ls hl => ?_)
              refine g_iload_n C hl dX9_whyNot_74 rfl ?_
              refine g_if_eq (tgt := 80) C dX9_whyNot_75 (by decide) (by omega) (fun z9 => absurd z9 (by omega)) (fun c75 => ?_)
              refine g_iconst 3 C dX9_whyNot_78 (by decide) ?_
              refine g_iret C hR hS dX9_whyNot_79 ?_
              refine ⟨?_, rfl⟩
              unfold zWhy
              first | (exfalso; omega) | rw [if_pos (by omega)] | rw [if_neg (by omega), if_pos (by omega)] | rw [if_neg (by omega), if_neg (by omega), if_pos (by omega)] | rw [if_neg (by omega), if_neg (by omega), if_neg (by omega)]
  · -- 6 F
    refine g_iload_n C hl dX9_whyNot_9 rfl ?_
    refine g_callSi C hl.1 hR hS md_X9_isAddress ml_X9_68 (c_X9_isAddress l hI) rfl rfl ⟨Nat.le_of_ble_eq_true rfl, Nat.le_of_ble_eq_true rfl⟩ ⟨Nat.le_refl _, Nat.le_refl _⟩ (Nat.le_of_ble_eq_true rfl) dX9_whyNot_10 (fun H locs hR hS => ?_)
    refine g_ifw_ne (tgt := 20) C dX9_whyNot_13 (by decide) (by omega) (fun c13 => ?_) (fun c13 => ?_)
    · -- 13 T
      refine g_iconst 0 C dX9_whyNot_20 (by decide) ?_
      refine g_istore_n C hl dX9_whyNot_21 (Nat.le_of_ble_eq_true rfl) (fun ls hl => ?_)
      refine g_iload_n C hl dX9_whyNot_22 rfl ?_
      refine g_if_ne (tgt := 68) C dX9_whyNot_23 (by decide) (by omega) (fun z9 => absurd z9 (by omega)) (fun c23 => ?_)
      refine g_iload_n C hl dX9_whyNot_26 rfl ?_
      refine g_bipush 6 C dX9_whyNot_27 (by decide) ?_
      refine g_icmp_ne (tgt := 52) C dX9_whyNot_29 (by decide) (by omega) (by omega) (fun c29 => ?_) (fun c29 => ?_)
      · -- 29 T
        refine g_iload_n C hl dX9_whyNot_52 rfl ?_
        refine g_bipush 7 C dX9_whyNot_53 (by decide) ?_
        refine g_icmp_ne (tgt := 72) C dX9_whyNot_55 (by decide) (by omega) (by omega) (fun c55 => ?_) (fun c55 => ?_)
        · -- 55 T
          refine g_iconst 0 C dX9_whyNot_72 (by decide) ?_
          refine g_istore_n C hl dX9_whyNot_73 (Nat.le_of_ble_eq_true rfl) (fun ls hl => ?_)
          refine g_iload_n C hl dX9_whyNot_74 rfl ?_
          refine g_if_eq (tgt := 80) C dX9_whyNot_75 (by decide) (by omega) (fun c75 => ?_) (fun z9 => absurd z9 (by omega))
          refine g_iload_n C hl dX9_whyNot_80 rfl ?_
          refine g_bipush 7 C dX9_whyNot_81 (by decide) ?_
          refine g_icmp_ne (tgt := 102) C dX9_whyNot_83 (by decide) (by omega) (by omega) (fun c83 => ?_) (fun c83 => ?_)
          · -- 83 T
            refine g_iload_n C hl dX9_whyNot_102 rfl ?_
            refine g_bipush 8 C dX9_whyNot_103 (by decide) ?_
            refine g_icmp_ne (tgt := 122) C dX9_whyNot_105 (by decide) (by omega) (by omega) (fun c105 => ?_) (fun c105 => ?_)
            · -- 105 T
              refine g_iconst 0 C dX9_whyNot_122 (by decide) ?_
              refine g_iret C hR hS dX9_whyNot_123 ?_
              refine ⟨?_, rfl⟩
              unfold zWhy
              first | (exfalso; omega) | rw [if_pos (by omega)] | rw [if_neg (by omega), if_pos (by omega)] | rw [if_neg (by omega), if_neg (by omega), if_pos (by omega)] | rw [if_neg (by omega), if_neg (by omega), if_neg (by omega)]
            · -- 105 F
              refine g_aload_n C hl dX9_whyNot_108 rfl ?_
              refine gt_X9_0 C hR fl_X9_7 dX9_whyNot_109 ?_
              refine g_bipush 116 C dX9_whyNot_112 (by decide) ?_
              refine r_ald1 C hR (by omega) dX9_whyNot_114 ?_
              refine g_if_ne (tgt := 122) C dX9_whyNot_115 (by decide) (by omega) (fun c115 => ?_) (fun c115 => ?_)
              · -- 115 T
                refine g_iconst 0 C dX9_whyNot_122 (by decide) ?_
                refine g_iret C hR hS dX9_whyNot_123 ?_
                refine ⟨?_, rfl⟩
                unfold zWhy
                first | (exfalso; omega) | rw [if_pos (by omega)] | rw [if_neg (by omega), if_pos (by omega)] | rw [if_neg (by omega), if_neg (by omega), if_pos (by omega)] | rw [if_neg (by omega), if_neg (by omega), if_neg (by omega)]
              · -- 115 F
                refine g_iconst 5 C dX9_whyNot_118 (by decide) ?_
                refine g_goto (tgt := 123) C dX9_whyNot_119 (by decide) ?_
                refine g_iret C hR hS dX9_whyNot_123 ?_
                refine ⟨?_, rfl⟩
                unfold zWhy
                first | (exfalso; omega) | rw [if_pos (by omega)] | rw [if_neg (by omega), if_pos (by omega)] | rw [if_neg (by omega), if_neg (by omega), if_pos (by omega)] | rw [if_neg (by omega), if_neg (by omega), if_neg (by omega)]
          · -- 83 F
            refine g_aload_n C hl dX9_whyNot_86 rfl ?_
            refine gt_X9_0 C hR fl_X9_7 dX9_whyNot_87 ?_
            refine g_bipush 116 C dX9_whyNot_90 (by decide) ?_
            refine r_ald1 C hR (by omega) dX9_whyNot_92 ?_
            refine g_bipush 8 C dX9_whyNot_93 (by decide) ?_
            refine g_icmp_ne (tgt := 102) C dX9_whyNot_95 (by decide) (by omega) (by omega) (fun c95 => ?_) (fun c95 => ?_)
            · -- 95 T
              refine g_iload_n C hl dX9_whyNot_102 rfl ?_
              refine g_bipush 8 C dX9_whyNot_103 (by decide) ?_
              refine g_icmp_ne (tgt := 122) C dX9_whyNot_105 (by decide) (by omega) (by omega) (fun c105 => ?_) (fun c105 => ?_)
              · -- 105 T
                refine g_iconst 0 C dX9_whyNot_122 (by decide) ?_
                refine g_iret C hR hS dX9_whyNot_123 ?_
                refine ⟨?_, rfl⟩
                unfold zWhy
                first | (exfalso; omega) | rw [if_pos (by omega)] | rw [if_neg (by omega), if_pos (by omega)] | rw [if_neg (by omega), if_neg (by omega), if_pos (by omega)] | rw [if_neg (by omega), if_neg (by omega), if_neg (by omega)]
              · -- 105 F
                refine g_aload_n C hl dX9_whyNot_108 rfl ?_
                refine gt_X9_0 C hR fl_X9_7 dX9_whyNot_109 ?_
                refine g_bipush 116 C dX9_whyNot_112 (by decide) ?_
                refine r_ald1 C hR (by omega) dX9_whyNot_114 ?_
                refine g_if_ne (tgt := 122) C dX9_whyNot_115 (by decide) (by omega) (fun c115 => ?_) (fun c115 => ?_)
                · -- 115 T
                  refine g_iconst 0 C dX9_whyNot_122 (by decide) ?_
                  refine g_iret C hR hS dX9_whyNot_123 ?_
                  refine ⟨?_, rfl⟩
                  unfold zWhy
                  first | (exfalso; omega) | rw [if_pos (by omega)] | rw [if_neg (by omega), if_pos (by omega)] | rw [if_neg (by omega), if_neg (by omega), if_pos (by omega)] | rw [if_neg (by omega), if_neg (by omega), if_neg (by omega)]
                · -- 115 F
                  refine g_iconst 5 C dX9_whyNot_118 (by decide) ?_
                  refine g_goto (tgt := 123) C dX9_whyNot_119 (by decide) ?_
                  refine g_iret C hR hS dX9_whyNot_123 ?_
                  refine ⟨?_, rfl⟩
                  unfold zWhy
                  first | (exfalso; omega) | rw [if_pos (by omega)] | rw [if_neg (by omega), if_pos (by omega)] | rw [if_neg (by omega), if_neg (by omega), if_pos (by omega)] | rw [if_neg (by omega), if_neg (by omega), if_neg (by omega)]
            · -- 95 F
              refine g_iconst 4 C dX9_whyNot_98 (by decide) ?_
              refine g_goto (tgt := 123) C dX9_whyNot_99 (by decide) ?_
              refine g_iret C hR hS dX9_whyNot_123 ?_
              refine ⟨?_, rfl⟩
              unfold zWhy
              first | (exfalso; omega) | rw [if_pos (by omega)] | rw [if_neg (by omega), if_pos (by omega)] | rw [if_neg (by omega), if_neg (by omega), if_pos (by omega)] | rw [if_neg (by omega), if_neg (by omega), if_neg (by omega)]
        · -- 55 F
          refine g_iload_n C hl dX9_whyNot_58 rfl ?_
          refine g_bipush 10 C dX9_whyNot_59 (by decide) ?_
          refine g_idiv C dX9_whyNot_61 (by omega) (by decide) (by decide) ?_
          refine g_callSi C hl.1 hR hS md_X9_isBank ml_X9_51 (c_X9_isBank l hI) rfl rfl ⟨Nat.le_of_ble_eq_true rfl, Nat.le_of_ble_eq_true rfl⟩ ⟨Nat.le_refl _, Nat.le_refl _⟩ (Nat.le_of_ble_eq_true rfl) dX9_whyNot_62 (fun H locs hR hS => ?_)
          refine g_ifw_ne (tgt := 72) C dX9_whyNot_65 (by decide) (by omega) (fun c65 => ?_) (fun c65 => ?_)
          · -- 65 T
            refine g_iconst 0 C dX9_whyNot_72 (by decide) ?_
            refine g_istore_n C hl dX9_whyNot_73 (Nat.le_of_ble_eq_true rfl) (fun ls hl => ?_)
            refine g_iload_n C hl dX9_whyNot_74 rfl ?_
            refine g_if_eq (tgt := 80) C dX9_whyNot_75 (by decide) (by omega) (fun c75 => ?_) (fun z9 => absurd z9 (by omega))
            refine g_iload_n C hl dX9_whyNot_80 rfl ?_
            refine g_bipush 7 C dX9_whyNot_81 (by decide) ?_
            refine g_icmp_ne (tgt := 102) C dX9_whyNot_83 (by decide) (by omega) (by omega) (fun c83 => ?_) (fun c83 => ?_)
            · -- 83 T
              refine g_iload_n C hl dX9_whyNot_102 rfl ?_
              refine g_bipush 8 C dX9_whyNot_103 (by decide) ?_
              refine g_icmp_ne (tgt := 122) C dX9_whyNot_105 (by decide) (by omega) (by omega) (fun c105 => ?_) (fun c105 => ?_)
              · -- 105 T
                refine g_iconst 0 C dX9_whyNot_122 (by decide) ?_
                refine g_iret C hR hS dX9_whyNot_123 ?_
                refine ⟨?_, rfl⟩
                unfold zWhy
                first | (exfalso; omega) | rw [if_pos (by omega)] | rw [if_neg (by omega), if_pos (by omega)] | rw [if_neg (by omega), if_neg (by omega), if_pos (by omega)] | rw [if_neg (by omega), if_neg (by omega), if_neg (by omega)]
              · -- 105 F
                refine g_aload_n C hl dX9_whyNot_108 rfl ?_
                refine gt_X9_0 C hR fl_X9_7 dX9_whyNot_109 ?_
                refine g_bipush 116 C dX9_whyNot_112 (by decide) ?_
                refine r_ald1 C hR (by omega) dX9_whyNot_114 ?_
                refine g_if_ne (tgt := 122) C dX9_whyNot_115 (by decide) (by omega) (fun c115 => ?_) (fun c115 => ?_)
                · -- 115 T
                  refine g_iconst 0 C dX9_whyNot_122 (by decide) ?_
                  refine g_iret C hR hS dX9_whyNot_123 ?_
                  refine ⟨?_, rfl⟩
                  unfold zWhy
                  first | (exfalso; omega) | rw [if_pos (by omega)] | rw [if_neg (by omega), if_pos (by omega)] | rw [if_neg (by omega), if_neg (by omega), if_pos (by omega)] | rw [if_neg (by omega), if_neg (by omega), if_neg (by omega)]
                · -- 115 F
                  refine g_iconst 5 C dX9_whyNot_118 (by decide) ?_
                  refine g_goto (tgt := 123) C dX9_whyNot_119 (by decide) ?_
                  refine g_iret C hR hS dX9_whyNot_123 ?_
                  refine ⟨?_, rfl⟩
                  unfold zWhy
                  first | (exfalso; omega) | rw [if_pos (by omega)] | rw [if_neg (by omega), if_pos (by omega)] | rw [if_neg (by omega), if_neg (by omega), if_pos (by omega)] | rw [if_neg (by omega), if_neg (by omega), if_neg (by omega)]
            · -- 83 F
              refine g_aload_n C hl dX9_whyNot_86 rfl ?_
              refine gt_X9_0 C hR fl_X9_7 dX9_whyNot_87 ?_
              refine g_bipush 116 C dX9_whyNot_90 (by decide) ?_
              refine r_ald1 C hR (by omega) dX9_whyNot_92 ?_
              refine g_bipush 8 C dX9_whyNot_93 (by decide) ?_
              refine g_icmp_ne (tgt := 102) C dX9_whyNot_95 (by decide) (by omega) (by omega) (fun c95 => ?_) (fun c95 => ?_)
              · -- 95 T
                refine g_iload_n C hl dX9_whyNot_102 rfl ?_
                refine g_bipush 8 C dX9_whyNot_103 (by decide) ?_
                refine g_icmp_ne (tgt := 122) C dX9_whyNot_105 (by decide) (by omega) (by omega) (fun c105 => ?_) (fun c105 => ?_)
                · -- 105 T
                  refine g_iconst 0 C dX9_whyNot_122 (by decide) ?_
                  refine g_iret C hR hS dX9_whyNot_123 ?_
                  refine ⟨?_, rfl⟩
                  unfold zWhy
                  first | (exfalso; omega) | rw [if_pos (by omega)] | rw [if_neg (by omega), if_pos (by omega)] | rw [if_neg (by omega), if_neg (by omega), if_pos (by omega)] | rw [if_neg (by omega), if_neg (by omega), if_neg (by omega)]
                · -- 105 F
                  refine g_aload_n C hl dX9_whyNot_108 rfl ?_
                  refine gt_X9_0 C hR fl_X9_7 dX9_whyNot_109 ?_
                  refine g_bipush 116 C dX9_whyNot_112 (by decide) ?_
                  refine r_ald1 C hR (by omega) dX9_whyNot_114 ?_
                  refine g_if_ne (tgt := 122) C dX9_whyNot_115 (by decide) (by omega) (fun c115 => ?_) (fun c115 => ?_)
                  · -- 115 T
                    refine g_iconst 0 C dX9_whyNot_122 (by decide) ?_
                    refine g_iret C hR hS dX9_whyNot_123 ?_
                    refine ⟨?_, rfl⟩
                    unfold zWhy
                    first | (exfalso; omega) | rw [if_pos (by omega)] | rw [if_neg (by omega), if_pos (by omega)] | rw [if_neg (by omega), if_neg (by omega), if_pos (by omega)] | rw [if_neg (by omega), if_neg (by omega), if_neg (by omega)]
                  · -- 115 F
                    refine g_iconst 5 C dX9_whyNot_118 (by decide) ?_
                    refine g_goto (tgt := 123) C dX9_whyNot_119 (by decide) ?_
                    refine g_iret C hR hS dX9_whyNot_123 ?_
                    refine ⟨?_, rfl⟩
                    unfold zWhy
                    first | (exfalso; omega) | rw [if_pos (by omega)] | rw [if_neg (by omega), if_pos (by omega)] | rw [if_neg (by omega), if_neg (by omega), if_pos (by omega)] | rw [if_neg (by omega), if_neg (by omega), if_neg (by omega)]
              · -- 95 F
                refine g_iconst 4 C dX9_whyNot_98 (by decide) ?_
                refine g_goto (tgt := 123) C dX9_whyNot_99 (by decide) ?_
                refine g_iret C hR hS dX9_whyNot_123 ?_
                refine ⟨?_, rfl⟩
                unfold zWhy
                first | (exfalso; omega) | rw [if_pos (by omega)] | rw [if_neg (by omega), if_pos (by omega)] | rw [if_neg (by omega), if_neg (by omega), if_pos (by omega)] | rw [if_neg (by omega), if_neg (by omega), if_neg (by omega)]
          · -- 65 F
            refine g_iconst 1 C dX9_whyNot_68 (by decide) ?_
            refine g_goto (tgt := 73) C dX9_whyNot_69 (by decide) ?_
            refine g_istore_n C hl dX9_whyNot_73 (Nat.le_of_ble_eq_true rfl) (fun ls hl => ?_)
            refine g_iload_n C hl dX9_whyNot_74 rfl ?_
            refine g_if_eq (tgt := 80) C dX9_whyNot_75 (by decide) (by omega) (fun z9 => absurd z9 (by omega)) (fun c75 => ?_)
            refine g_iconst 3 C dX9_whyNot_78 (by decide) ?_
            refine g_iret C hR hS dX9_whyNot_79 ?_
            refine ⟨?_, rfl⟩
            unfold zWhy
            first | (exfalso; omega) | rw [if_pos (by omega)] | rw [if_neg (by omega), if_pos (by omega)] | rw [if_neg (by omega), if_neg (by omega), if_pos (by omega)] | rw [if_neg (by omega), if_neg (by omega), if_neg (by omega)]
      · -- 29 F
        refine g_iload_n C hl dX9_whyNot_32 rfl ?_
        refine g_bipush 10 C dX9_whyNot_33 (by decide) ?_
        refine g_idiv C dX9_whyNot_35 (by omega) (by decide) (by decide) ?_
        refine g_callSi C hl.1 hR hS md_X9_isWindow ml_X9_65 (c_X9_isWindow l hI) rfl rfl ⟨Nat.le_of_ble_eq_true rfl, Nat.le_of_ble_eq_true rfl⟩ ⟨Nat.le_refl _, Nat.le_refl _⟩ (Nat.le_of_ble_eq_true rfl) dX9_whyNot_36 (fun H locs hR hS => ?_)
        refine g_ifw_eq (tgt := 68) C dX9_whyNot_39 (by decide) (by omega) (fun c39 => ?_) (fun c39 => ?_)
        · -- 39 T
          refine g_iconst 1 C dX9_whyNot_68 (by decide) ?_
          refine g_goto (tgt := 73) C dX9_whyNot_69 (by decide) ?_
          refine g_istore_n C hl dX9_whyNot_73 (Nat.le_of_ble_eq_true rfl) (fun ls hl => ?_)
          refine g_iload_n C hl dX9_whyNot_74 rfl ?_
          refine g_if_eq (tgt := 80) C dX9_whyNot_75 (by decide) (by omega) (fun z9 => absurd z9 (by omega)) (fun c75 => ?_)
          refine g_iconst 3 C dX9_whyNot_78 (by decide) ?_
          refine g_iret C hR hS dX9_whyNot_79 ?_
          refine ⟨?_, rfl⟩
          unfold zWhy
          first | (exfalso; omega) | rw [if_pos (by omega)] | rw [if_neg (by omega), if_pos (by omega)] | rw [if_neg (by omega), if_neg (by omega), if_pos (by omega)] | rw [if_neg (by omega), if_neg (by omega), if_neg (by omega)]
        · -- 39 F
          refine g_iload_n C hl dX9_whyNot_42 rfl ?_
          refine g_bipush 10 C dX9_whyNot_43 (by decide) ?_
          refine g_irem C dX9_whyNot_45 (by omega) (by decide) (by decide) ?_
          refine g_callSi C hl.1 hR hS md_X9_isBank ml_X9_51 (c_X9_isBank l hI) rfl rfl ⟨Nat.le_of_ble_eq_true rfl, Nat.le_of_ble_eq_true rfl⟩ ⟨Nat.le_refl _, Nat.le_refl _⟩ (Nat.le_of_ble_eq_true rfl) dX9_whyNot_46 (fun H locs hR hS => ?_)
          refine g_ifw_eq (tgt := 68) C dX9_whyNot_49 (by decide) (by omega) (fun c49 => ?_) (fun c49 => ?_)
          · -- 49 T
            refine g_iconst 1 C dX9_whyNot_68 (by decide) ?_
            refine g_goto (tgt := 73) C dX9_whyNot_69 (by decide) ?_
            refine g_istore_n C hl dX9_whyNot_73 (Nat.le_of_ble_eq_true rfl) (fun ls hl => ?_)
            refine g_iload_n C hl dX9_whyNot_74 rfl ?_
            refine g_if_eq (tgt := 80) C dX9_whyNot_75 (by decide) (by omega) (fun z9 => absurd z9 (by omega)) (fun c75 => ?_)
            refine g_iconst 3 C dX9_whyNot_78 (by decide) ?_
            refine g_iret C hR hS dX9_whyNot_79 ?_
            refine ⟨?_, rfl⟩
            unfold zWhy
            first | (exfalso; omega) | rw [if_pos (by omega)] | rw [if_neg (by omega), if_pos (by omega)] | rw [if_neg (by omega), if_neg (by omega), if_pos (by omega)] | rw [if_neg (by omega), if_neg (by omega), if_neg (by omega)]
          · -- 49 F
            refine g_iload_n C hl dX9_whyNot_52 rfl ?_
            refine g_bipush 7 C dX9_whyNot_53 (by decide) ?_
            refine g_icmp_ne (tgt := 72) C dX9_whyNot_55 (by decide) (by omega) (by omega) (fun c55 => ?_) (fun c55 => ?_)
            · -- 55 T
              refine g_iconst 0 C dX9_whyNot_72 (by decide) ?_
              refine g_istore_n C hl dX9_whyNot_73 (Nat.le_of_ble_eq_true rfl) (fun ls hl => ?_)
              refine g_iload_n C hl dX9_whyNot_74 rfl ?_
              refine g_if_eq (tgt := 80) C dX9_whyNot_75 (by decide) (by omega) (fun c75 => ?_) (fun z9 => absurd z9 (by omega))
              refine g_iload_n C hl dX9_whyNot_80 rfl ?_
              refine g_bipush 7 C dX9_whyNot_81 (by decide) ?_
              refine g_icmp_ne (tgt := 102) C dX9_whyNot_83 (by decide) (by omega) (by omega) (fun c83 => ?_) (fun c83 => ?_)
              · -- 83 T
                refine g_iload_n C hl dX9_whyNot_102 rfl ?_
                refine g_bipush 8 C dX9_whyNot_103 (by decide) ?_
                refine g_icmp_ne (tgt := 122) C dX9_whyNot_105 (by decide) (by omega) (by omega) (fun c105 => ?_) (fun c105 => ?_)
                · -- 105 T
                  refine g_iconst 0 C dX9_whyNot_122 (by decide) ?_
                  refine g_iret C hR hS dX9_whyNot_123 ?_
                  refine ⟨?_, rfl⟩
                  unfold zWhy
                  first | (exfalso; omega) | rw [if_pos (by omega)] | rw [if_neg (by omega), if_pos (by omega)] | rw [if_neg (by omega), if_neg (by omega), if_pos (by omega)] | rw [if_neg (by omega), if_neg (by omega), if_neg (by omega)]
                · -- 105 F
                  refine g_aload_n C hl dX9_whyNot_108 rfl ?_
                  refine gt_X9_0 C hR fl_X9_7 dX9_whyNot_109 ?_
                  refine g_bipush 116 C dX9_whyNot_112 (by decide) ?_
                  refine r_ald1 C hR (by omega) dX9_whyNot_114 ?_
                  refine g_if_ne (tgt := 122) C dX9_whyNot_115 (by decide) (by omega) (fun c115 => ?_) (fun c115 => ?_)
                  · -- 115 T
                    refine g_iconst 0 C dX9_whyNot_122 (by decide) ?_
                    refine g_iret C hR hS dX9_whyNot_123 ?_
                    refine ⟨?_, rfl⟩
                    unfold zWhy
                    first | (exfalso; omega) | rw [if_pos (by omega)] | rw [if_neg (by omega), if_pos (by omega)] | rw [if_neg (by omega), if_neg (by omega), if_pos (by omega)] | rw [if_neg (by omega), if_neg (by omega), if_neg (by omega)]
                  · -- 115 F
                    refine g_iconst 5 C dX9_whyNot_118 (by decide) ?_
                    refine g_goto (tgt := 123) C dX9_whyNot_119 (by decide) ?_
                    refine g_iret C hR hS dX9_whyNot_123 ?_
                    refine ⟨?_, rfl⟩
                    unfold zWhy
                    first | (exfalso; omega) | rw [if_pos (by omega)] | rw [if_neg (by omega), if_pos (by omega)] | rw [if_neg (by omega), if_neg (by omega), if_pos (by omega)] | rw [if_neg (by omega), if_neg (by omega), if_neg (by omega)]
              · -- 83 F
                refine g_aload_n C hl dX9_whyNot_86 rfl ?_
                refine gt_X9_0 C hR fl_X9_7 dX9_whyNot_87 ?_
                refine g_bipush 116 C dX9_whyNot_90 (by decide) ?_
                refine r_ald1 C hR (by omega) dX9_whyNot_92 ?_
                refine g_bipush 8 C dX9_whyNot_93 (by decide) ?_
                refine g_icmp_ne (tgt := 102) C dX9_whyNot_95 (by decide) (by omega) (by omega) (fun c95 => ?_) (fun c95 => ?_)
                · -- 95 T
                  refine g_iload_n C hl dX9_whyNot_102 rfl ?_
                  refine g_bipush 8 C dX9_whyNot_103 (by decide) ?_
                  refine g_icmp_ne (tgt := 122) C dX9_whyNot_105 (by decide) (by omega) (by omega) (fun c105 => ?_) (fun c105 => ?_)
                  · -- 105 T
                    refine g_iconst 0 C dX9_whyNot_122 (by decide) ?_
                    refine g_iret C hR hS dX9_whyNot_123 ?_
                    refine ⟨?_, rfl⟩
                    unfold zWhy
                    first | (exfalso; omega) | rw [if_pos (by omega)] | rw [if_neg (by omega), if_pos (by omega)] | rw [if_neg (by omega), if_neg (by omega), if_pos (by omega)] | rw [if_neg (by omega), if_neg (by omega), if_neg (by omega)]
                  · -- 105 F
                    refine g_aload_n C hl dX9_whyNot_108 rfl ?_
                    refine gt_X9_0 C hR fl_X9_7 dX9_whyNot_109 ?_
                    refine g_bipush 116 C dX9_whyNot_112 (by decide) ?_
                    refine r_ald1 C hR (by omega) dX9_whyNot_114 ?_
                    refine g_if_ne (tgt := 122) C dX9_whyNot_115 (by decide) (by omega) (fun c115 => ?_) (fun c115 => ?_)
                    · -- 115 T
                      refine g_iconst 0 C dX9_whyNot_122 (by decide) ?_
                      refine g_iret C hR hS dX9_whyNot_123 ?_
                      refine ⟨?_, rfl⟩
                      unfold zWhy
                      first | (exfalso; omega) | rw [if_pos (by omega)] | rw [if_neg (by omega), if_pos (by omega)] | rw [if_neg (by omega), if_neg (by omega), if_pos (by omega)] | rw [if_neg (by omega), if_neg (by omega), if_neg (by omega)]
                    · -- 115 F
                      refine g_iconst 5 C dX9_whyNot_118 (by decide) ?_
                      refine g_goto (tgt := 123) C dX9_whyNot_119 (by decide) ?_
                      refine g_iret C hR hS dX9_whyNot_123 ?_
                      refine ⟨?_, rfl⟩
                      unfold zWhy
                      first | (exfalso; omega) | rw [if_pos (by omega)] | rw [if_neg (by omega), if_pos (by omega)] | rw [if_neg (by omega), if_neg (by omega), if_pos (by omega)] | rw [if_neg (by omega), if_neg (by omega), if_neg (by omega)]
                · -- 95 F
                  refine g_iconst 4 C dX9_whyNot_98 (by decide) ?_
                  refine g_goto (tgt := 123) C dX9_whyNot_99 (by decide) ?_
                  refine g_iret C hR hS dX9_whyNot_123 ?_
                  refine ⟨?_, rfl⟩
                  unfold zWhy
                  first | (exfalso; omega) | rw [if_pos (by omega)] | rw [if_neg (by omega), if_pos (by omega)] | rw [if_neg (by omega), if_neg (by omega), if_pos (by omega)] | rw [if_neg (by omega), if_neg (by omega), if_neg (by omega)]
            · -- 55 F
              refine g_iload_n C hl dX9_whyNot_58 rfl ?_
              refine g_bipush 10 C dX9_whyNot_59 (by decide) ?_
              refine g_idiv C dX9_whyNot_61 (by omega) (by decide) (by decide) ?_
              refine g_callSi C hl.1 hR hS md_X9_isBank ml_X9_51 (c_X9_isBank l hI) rfl rfl ⟨Nat.le_of_ble_eq_true rfl, Nat.le_of_ble_eq_true rfl⟩ ⟨Nat.le_refl _, Nat.le_refl _⟩ (Nat.le_of_ble_eq_true rfl) dX9_whyNot_62 (fun H locs hR hS => ?_)
              refine g_ifw_ne (tgt := 72) C dX9_whyNot_65 (by decide) (by omega) (fun c65 => ?_) (fun c65 => ?_)
              · -- 65 T
                refine g_iconst 0 C dX9_whyNot_72 (by decide) ?_
                refine g_istore_n C hl dX9_whyNot_73 (Nat.le_of_ble_eq_true rfl) (fun ls hl => ?_)
                refine g_iload_n C hl dX9_whyNot_74 rfl ?_
                refine g_if_eq (tgt := 80) C dX9_whyNot_75 (by decide) (by omega) (fun c75 => ?_) (fun z9 => absurd z9 (by omega))
                refine g_iload_n C hl dX9_whyNot_80 rfl ?_
                refine g_bipush 7 C dX9_whyNot_81 (by decide) ?_
                refine g_icmp_ne (tgt := 102) C dX9_whyNot_83 (by decide) (by omega) (by omega) (fun c83 => ?_) (fun c83 => ?_)
                · -- 83 T
                  refine g_iload_n C hl dX9_whyNot_102 rfl ?_
                  refine g_bipush 8 C dX9_whyNot_103 (by decide) ?_
                  refine g_icmp_ne (tgt := 122) C dX9_whyNot_105 (by decide) (by omega) (by omega) (fun c105 => ?_) (fun c105 => ?_)
                  · -- 105 T
                    refine g_iconst 0 C dX9_whyNot_122 (by decide) ?_
                    refine g_iret C hR hS dX9_whyNot_123 ?_
                    refine ⟨?_, rfl⟩
                    unfold zWhy
                    first | (exfalso; omega) | rw [if_pos (by omega)] | rw [if_neg (by omega), if_pos (by omega)] | rw [if_neg (by omega), if_neg (by omega), if_pos (by omega)] | rw [if_neg (by omega), if_neg (by omega), if_neg (by omega)]
                  · -- 105 F
                    refine g_aload_n C hl dX9_whyNot_108 rfl ?_
                    refine gt_X9_0 C hR fl_X9_7 dX9_whyNot_109 ?_
                    refine g_bipush 116 C dX9_whyNot_112 (by decide) ?_
                    refine r_ald1 C hR (by omega) dX9_whyNot_114 ?_
                    refine g_if_ne (tgt := 122) C dX9_whyNot_115 (by decide) (by omega) (fun c115 => ?_) (fun c115 => ?_)
                    · -- 115 T
                      refine g_iconst 0 C dX9_whyNot_122 (by decide) ?_
                      refine g_iret C hR hS dX9_whyNot_123 ?_
                      refine ⟨?_, rfl⟩
                      unfold zWhy
                      first | (exfalso; omega) | rw [if_pos (by omega)] | rw [if_neg (by omega), if_pos (by omega)] | rw [if_neg (by omega), if_neg (by omega), if_pos (by omega)] | rw [if_neg (by omega), if_neg (by omega), if_neg (by omega)]
                    · -- 115 F
                      refine g_iconst 5 C dX9_whyNot_118 (by decide) ?_
                      refine g_goto (tgt := 123) C dX9_whyNot_119 (by decide) ?_
                      refine g_iret C hR hS dX9_whyNot_123 ?_
                      refine ⟨?_, rfl⟩
                      unfold zWhy
                      first | (exfalso; omega) | rw [if_pos (by omega)] | rw [if_neg (by omega), if_pos (by omega)] | rw [if_neg (by omega), if_neg (by omega), if_pos (by omega)] | rw [if_neg (by omega), if_neg (by omega), if_neg (by omega)]
                · -- 83 F
                  refine g_aload_n C hl dX9_whyNot_86 rfl ?_
                  refine gt_X9_0 C hR fl_X9_7 dX9_whyNot_87 ?_
                  refine g_bipush 116 C dX9_whyNot_90 (by decide) ?_
                  refine r_ald1 C hR (by omega) dX9_whyNot_92 ?_
                  refine g_bipush 8 C dX9_whyNot_93 (by decide) ?_
                  refine g_icmp_ne (tgt := 102) C dX9_whyNot_95 (by decide) (by omega) (by omega) (fun c95 => ?_) (fun c95 => ?_)
                  · -- 95 T
                    refine g_iload_n C hl dX9_whyNot_102 rfl ?_
                    refine g_bipush 8 C dX9_whyNot_103 (by decide) ?_
                    refine g_icmp_ne (tgt := 122) C dX9_whyNot_105 (by decide) (by omega) (by omega) (fun c105 => ?_) (fun c105 => ?_)
                    · -- 105 T
                      refine g_iconst 0 C dX9_whyNot_122 (by decide) ?_
                      refine g_iret C hR hS dX9_whyNot_123 ?_
                      refine ⟨?_, rfl⟩
                      unfold zWhy
                      first | (exfalso; omega) | rw [if_pos (by omega)] | rw [if_neg (by omega), if_pos (by omega)] | rw [if_neg (by omega), if_neg (by omega), if_pos (by omega)] | rw [if_neg (by omega), if_neg (by omega), if_neg (by omega)]
                    · -- 105 F
                      refine g_aload_n C hl dX9_whyNot_108 rfl ?_
                      refine gt_X9_0 C hR fl_X9_7 dX9_whyNot_109 ?_
                      refine g_bipush 116 C dX9_whyNot_112 (by decide) ?_
                      refine r_ald1 C hR (by omega) dX9_whyNot_114 ?_
                      refine g_if_ne (tgt := 122) C dX9_whyNot_115 (by decide) (by omega) (fun c115 => ?_) (fun c115 => ?_)
                      · -- 115 T
                        refine g_iconst 0 C dX9_whyNot_122 (by decide) ?_
                        refine g_iret C hR hS dX9_whyNot_123 ?_
                        refine ⟨?_, rfl⟩
                        unfold zWhy
                        first | (exfalso; omega) | rw [if_pos (by omega)] | rw [if_neg (by omega), if_pos (by omega)] | rw [if_neg (by omega), if_neg (by omega), if_pos (by omega)] | rw [if_neg (by omega), if_neg (by omega), if_neg (by omega)]
                      · -- 115 F
                        refine g_iconst 5 C dX9_whyNot_118 (by decide) ?_
                        refine g_goto (tgt := 123) C dX9_whyNot_119 (by decide) ?_
                        refine g_iret C hR hS dX9_whyNot_123 ?_
                        refine ⟨?_, rfl⟩
                        unfold zWhy
                        first | (exfalso; omega) | rw [if_pos (by omega)] | rw [if_neg (by omega), if_pos (by omega)] | rw [if_neg (by omega), if_neg (by omega), if_pos (by omega)] | rw [if_neg (by omega), if_neg (by omega), if_neg (by omega)]
                  · -- 95 F
                    refine g_iconst 4 C dX9_whyNot_98 (by decide) ?_
                    refine g_goto (tgt := 123) C dX9_whyNot_99 (by decide) ?_
                    refine g_iret C hR hS dX9_whyNot_123 ?_
                    refine ⟨?_, rfl⟩
                    unfold zWhy
                    first | (exfalso; omega) | rw [if_pos (by omega)] | rw [if_neg (by omega), if_pos (by omega)] | rw [if_neg (by omega), if_neg (by omega), if_pos (by omega)] | rw [if_neg (by omega), if_neg (by omega), if_neg (by omega)]
              · -- 65 F
                refine g_iconst 1 C dX9_whyNot_68 (by decide) ?_
                refine g_goto (tgt := 73) C dX9_whyNot_69 (by decide) ?_
                refine g_istore_n C hl dX9_whyNot_73 (Nat.le_of_ble_eq_true rfl) (fun ls hl => ?_)
                refine g_iload_n C hl dX9_whyNot_74 rfl ?_
                refine g_if_eq (tgt := 80) C dX9_whyNot_75 (by decide) (by omega) (fun z9 => absurd z9 (by omega)) (fun c75 => ?_)
                refine g_iconst 3 C dX9_whyNot_78 (by decide) ?_
                refine g_iret C hR hS dX9_whyNot_79 ?_
                refine ⟨?_, rfl⟩
                unfold zWhy
                first | (exfalso; omega) | rw [if_pos (by omega)] | rw [if_neg (by omega), if_pos (by omega)] | rw [if_neg (by omega), if_neg (by omega), if_pos (by omega)] | rw [if_neg (by omega), if_neg (by omega), if_neg (by omega)]
    · -- 13 F
      refine g_iconst 1 C dX9_whyNot_16 (by decide) ?_
      refine g_goto (tgt := 21) C dX9_whyNot_17 (by decide) ?_
      refine g_istore_n C hl dX9_whyNot_21 (Nat.le_of_ble_eq_true rfl) (fun ls hl => ?_)
      refine g_iload_n C hl dX9_whyNot_22 rfl ?_
      refine g_if_ne (tgt := 68) C dX9_whyNot_23 (by decide) (by omega) (fun c23 => ?_) (fun z9 => absurd z9 (by omega))
      refine g_iconst 1 C dX9_whyNot_68 (by decide) ?_
      refine g_goto (tgt := 73) C dX9_whyNot_69 (by decide) ?_
      refine g_istore_n C hl dX9_whyNot_73 (Nat.le_of_ble_eq_true rfl) (fun ls hl => ?_)
      refine g_iload_n C hl dX9_whyNot_74 rfl ?_
      refine g_if_eq (tgt := 80) C dX9_whyNot_75 (by decide) (by omega) (fun z9 => absurd z9 (by omega)) (fun c75 => ?_)
      refine g_iconst 3 C dX9_whyNot_78 (by decide) ?_
      refine g_iret C hR hS dX9_whyNot_79 ?_
      refine ⟨?_, rfl⟩
      unfold zWhy
      first | (exfalso; omega) | rw [if_pos (by omega)] | rw [if_neg (by omega), if_pos (by omega)] | rw [if_neg (by omega), if_neg (by omega), if_pos (by omega)] | rw [if_neg (by omega), if_neg (by omega), if_neg (by omega)]
set_option maxRecDepth 100000 in
set_option maxHeartbeats 4000000 in
/-- write -/
theorem c_X9_write (l : Launch) {X : gX} (hI : gInj X) {mem : gM} {f z a o k t r : Nat → Nat} {i : Nat} (hz : zI z) (hi : i < 64) : gF l yX9_write cX9_write 3 none 2 42 X [.ref (gAd X 8 0), .int (nI i)] (gM8 mem f z a o k t r) none (gM8 mem f (zWr z i) a o k t r) := by
  refine gMt.of (own := RX9) (by decide) rfl hI (by simp [Value.category]) (Nat.le_of_ble_eq_true rfl) ?_
  intro p e s m args below meth c ls H locs C hnm hl hR hS
  have hb := hz.bk hi
  have h104 := hz.2.2.1 _ hb
  have h112 := hz.2.2.2.1
  have hat := hz.at hi
  refine g_aload_n C hl dX9_write_0 rfl ?_
  refine g_iload_n C hl dX9_write_1 rfl ?_
  refine g_callVi C hl.1 hR hS rc_X9 md_X9_bankAt ml_X9_32 (c_X9_bankAt l hI hi) rfl rfl ⟨Nat.le_of_ble_eq_true rfl, Nat.le_of_ble_eq_true rfl⟩ ⟨Nat.le_refl _, Nat.le_refl _⟩ (Nat.le_of_ble_eq_true rfl) dX9_write_2 (fun H locs hR hS => ?_)
  refine g_istore_n C hl dX9_write_5 (Nat.le_of_ble_eq_true rfl) (fun ls hl => ?_)
  refine g_aload_n C hl dX9_write_6 rfl ?_
  refine gt_X9_0 C hR fl_X9_7 dX9_write_7 ?_
  refine g_bipush 104 C dX9_write_10 (by decide) ?_
  refine g_iload_n C hl dX9_write_12 rfl ?_
  refine g_iadd C dX9_write_13 ?_
  refine r_ald1 C hR (by omega) dX9_write_14 ?_
  refine g_iconst 1 C dX9_write_15 (by decide) ?_
  refine g_icmp_ne (tgt := 71) C dX9_write_16 (by decide) (by omega) (by omega) (fun c16 => ?_) (fun c16 => ?_)
  · -- 16 T
    refine g_aload_n C hl dX9_write_71 rfl ?_
    refine gt_X9_0 C hR fl_X9_7 dX9_write_72 ?_
    refine g_aload_n C hl dX9_write_75 rfl ?_
    refine g_iload_n C hl dX9_write_76 rfl ?_
    refine g_callVi C hl.1 hR hS rc_X9 md_X9_indexAt ml_X9_71 (c_X9_indexAt l hI hz hi) rfl rfl ⟨Nat.le_of_ble_eq_true rfl, Nat.le_of_ble_eq_true rfl⟩ ⟨Nat.le_refl _, Nat.le_refl _⟩ (Nat.le_of_ble_eq_true rfl) dX9_write_77 (fun H locs hR hS => ?_)
    refine g_aload_n C hl dX9_write_80 rfl ?_
    refine gt_X9_0 C hR fl_X9_7 dX9_write_81 ?_
    refine g_bipush 113 C dX9_write_84 (by decide) ?_
    refine r_ald1 C hR (by omega) dX9_write_86 ?_
    refine r_ast1 C hR hS (by omega) dX9_write_87 (fun H locs hR hS => ?_)
    refine g_aload_n C hl dX9_write_88 rfl ?_
    refine gt_X9_0 C hR fl_X9_7 dX9_write_89 ?_
    refine g_sipush 180 C dX9_write_92 (by decide) ?_
    refine g_dup2 C dX9_write_95 rfl rfl ?_
    refine r_ald1 C hR (by omega) dX9_write_96 ?_
    refine g_iconst 1 C dX9_write_97 (by decide) ?_
    refine g_iadd C dX9_write_98 ?_
    refine r_ast1 C hR hS (by omega) dX9_write_99 (fun H locs hR hS => ?_)
    refine g_aload_n C hl dX9_write_100 rfl ?_
    refine gt_X9_0 C hR fl_X9_7 dX9_write_101 ?_
    refine g_sipush 182 C dX9_write_104 (by decide) ?_
    refine g_iload_n C hl dX9_write_107 rfl ?_
    refine g_iadd C dX9_write_108 ?_
    refine g_dup2 C dX9_write_109 rfl rfl ?_
    refine r_ald1 C hR (by omega) dX9_write_110 ?_
    refine g_iconst 1 C dX9_write_111 (by decide) ?_
    refine g_iadd C dX9_write_112 ?_
    refine r_ast1 C hR hS (by omega) dX9_write_113 (fun H locs hR hS => ?_)
    refine g_vret C hR hS dX9_write_114 ?_
    refine ⟨rfl, ?_⟩
    unfold zWr
    rw [if_neg c16]
    rfl
  · -- 16 F
    refine g_aload_n C hl dX9_write_19 rfl ?_
    refine gt_X9_0 C hR fl_X9_7 dX9_write_20 ?_
    refine g_sipush 181 C dX9_write_23 (by decide) ?_
    refine g_dup2 C dX9_write_26 rfl rfl ?_
    refine r_ald1 C hR (by omega) dX9_write_27 ?_
    refine g_iconst 1 C dX9_write_28 (by decide) ?_
    refine g_iadd C dX9_write_29 ?_
    refine r_ast1 C hR hS (by omega) dX9_write_30 (fun H locs hR hS => ?_)
    refine g_aload_n C hl dX9_write_31 rfl ?_
    refine gt_X9_0 C hR fl_X9_7 dX9_write_32 ?_
    refine g_sipush 190 C dX9_write_35 (by decide) ?_
    refine g_iload_n C hl dX9_write_38 rfl ?_
    refine g_iadd C dX9_write_39 ?_
    refine g_dup2 C dX9_write_40 rfl rfl ?_
    refine r_ald1 C hR (by omega) dX9_write_41 ?_
    refine g_iconst 1 C dX9_write_42 (by decide) ?_
    refine g_iadd C dX9_write_43 ?_
    refine r_ast1 C hR hS (by omega) dX9_write_44 (fun H locs hR hS => ?_)
    refine g_aload_n C hl dX9_write_45 rfl ?_
    refine gt_X9_0 C hR fl_X9_7 dX9_write_46 ?_
    refine g_bipush 115 C dX9_write_49 (by decide) ?_
    refine g_aload_n C hl dX9_write_51 rfl ?_
    refine gt_X9_0 C hR fl_X9_7 dX9_write_52 ?_
    refine g_bipush 112 C dX9_write_55 (by decide) ?_
    refine r_ald1 C hR (by omega) dX9_write_57 ?_
    refine g_iconst 1 C dX9_write_58 (by decide) ?_
    refine g_icmp_ne (tgt := 66) C dX9_write_59 (by decide) (by rw [fU_n _ _ (by omega), fU_n _ _ (by omega)]; omega) (by decide) (fun c59 => ?_) (fun c59 => ?_)
    · -- 59 T
      refine g_iconst 0 C dX9_write_66 (by decide) ?_
      refine r_ast1 C hR hS (by omega) dX9_write_67 (fun H locs hR hS => ?_)
      refine g_goto (tgt := 114) C dX9_write_68 (by decide) ?_
      refine g_vret C hR hS dX9_write_114 ?_
      refine ⟨rfl, ?_⟩
      unfold zWr
      rw [if_pos c16]
      unfold zWr3
      rw [if_neg (show ¬ zWr2 z (zBk z i) 112 = 1 from c59)]
      rfl
    · -- 59 F
      refine g_iconst 2 C dX9_write_62 (by decide) ?_
      refine g_goto (tgt := 67) C dX9_write_63 (by decide) ?_
      refine r_ast1 C hR hS (by omega) dX9_write_67 (fun H locs hR hS => ?_)
      refine g_goto (tgt := 114) C dX9_write_68 (by decide) ?_
      refine g_vret C hR hS dX9_write_114 ?_
      refine ⟨rfl, ?_⟩
      unfold zWr
      rw [if_pos c16]
      unfold zWr3
      rw [if_pos (show zWr2 z (zBk z i) 112 = 1 from c59)]
      rfl
set_option maxRecDepth 100000 in
set_option maxHeartbeats 4000000 in
/-- call -/
theorem c_X9_call (l : Launch) {X : gX} (hI : gInj X) {mem : gM} {f z a o k t r : Nat → Nat} {w n : Nat} (hz : zI z) (hw9 : w < 4) (hn : n < 100) (h8 : z 116 < 8) : gF l yX9_call cX9_call 4 none 0 0 X [.ref (gAd X 8 0), .int (nI w), .int (nI n)] (gM8 mem f z a o k t r) none (gM8 mem f (zCl z w n) a o k t r) := by
  refine gMt.of (own := RX9) (by decide) rfl hI (by simp [Value.category]) (Nat.le_of_ble_eq_true rfl) ?_
  intro p e s m args below meth c ls H locs C hnm hl hR hS
  refine g_bipush 117 C dX9_call_0 (by decide) ?_
  refine g_iconst 3 C dX9_call_2 (by decide) ?_
  refine g_aload_n C hl dX9_call_3 rfl ?_
  refine gt_X9_0 C hR fl_X9_7 dX9_call_4 ?_
  refine g_bipush 116 C dX9_call_7 (by decide) ?_
  refine r_ald1 C hR (by omega) dX9_call_9 ?_
  refine g_imul C dX9_call_10 ?_
  refine g_iadd C dX9_call_11 ?_
  refine g_istore_n C hl dX9_call_12 (Nat.le_of_ble_eq_true rfl) (fun ls hl => ?_)
  refine g_aload_n C hl dX9_call_13 rfl ?_
  refine gt_X9_0 C hR fl_X9_7 dX9_call_14 ?_
  refine g_iload_n C hl dX9_call_17 rfl ?_
  refine g_iload_n C hl dX9_call_18 rfl ?_
  refine r_ast1 C hR hS (by omega) dX9_call_19 (fun H locs hR hS => ?_)
  refine g_aload_n C hl dX9_call_20 rfl ?_
  refine gt_X9_0 C hR fl_X9_7 dX9_call_21 ?_
  refine g_iload_n C hl dX9_call_24 rfl ?_
  refine g_iconst 1 C dX9_call_25 (by decide) ?_
  refine g_iadd C dX9_call_26 ?_
  refine g_aload_n C hl dX9_call_27 rfl ?_
  refine gt_X9_0 C hR fl_X9_7 dX9_call_28 ?_
  refine g_bipush 100 C dX9_call_31 (by decide) ?_
  refine g_iload_n C hl dX9_call_33 rfl ?_
  refine g_iadd C dX9_call_34 ?_
  refine r_ald1 C hR (by omega) dX9_call_35 ?_
  refine r_ast1 C hR hS (by omega) dX9_call_36 (fun H locs hR hS => ?_)
  refine g_aload_n C hl dX9_call_37 rfl ?_
  refine gt_X9_0 C hR fl_X9_7 dX9_call_38 ?_
  refine g_iload_n C hl dX9_call_41 rfl ?_
  refine g_iconst 2 C dX9_call_42 (by decide) ?_
  refine g_iadd C dX9_call_43 ?_
  refine g_aload_n C hl dX9_call_44 rfl ?_
  refine gt_X9_0 C hR fl_X9_7 dX9_call_45 ?_
  refine g_bipush 114 C dX9_call_48 (by decide) ?_
  refine r_ald1 C hR (by omega) dX9_call_50 ?_
  refine r_ast1 C hR hS (by omega) dX9_call_51 (fun H locs hR hS => ?_)
  refine g_aload_n C hl dX9_call_52 rfl ?_
  refine gt_X9_0 C hR fl_X9_7 dX9_call_53 ?_
  refine g_bipush 116 C dX9_call_56 (by decide) ?_
  refine g_dup2 C dX9_call_58 rfl rfl ?_
  refine r_ald1 C hR (by omega) dX9_call_59 ?_
  refine g_iconst 1 C dX9_call_60 (by decide) ?_
  refine g_iadd C dX9_call_61 ?_
  refine r_ast1 C hR hS (by omega) dX9_call_62 (fun H locs hR hS => ?_)
  refine g_aload_n C hl dX9_call_63 rfl ?_
  refine gt_X9_0 C hR fl_X9_7 dX9_call_64 ?_
  refine g_sipush 179 C dX9_call_67 (by decide) ?_
  refine g_dup2 C dX9_call_70 rfl rfl ?_
  refine r_ald1 C hR (by omega) dX9_call_71 ?_
  refine g_iconst 1 C dX9_call_72 (by decide) ?_
  refine g_iadd C dX9_call_73 ?_
  refine r_ast1 C hR hS (by omega) dX9_call_74 (fun H locs hR hS => ?_)
  refine g_aload_n C hl dX9_call_75 rfl ?_
  refine gt_X9_0 C hR fl_X9_7 dX9_call_76 ?_
  refine g_bipush 100 C dX9_call_79 (by decide) ?_
  refine g_iload_n C hl dX9_call_81 rfl ?_
  refine g_iadd C dX9_call_82 ?_
  refine g_iload_n C hl dX9_call_83 rfl ?_
  refine g_bipush 10 C dX9_call_84 (by decide) ?_
  refine g_idiv C dX9_call_86 (by omega) (by decide) (by decide) ?_
  refine r_ast1 C hR hS (by omega) dX9_call_87 (fun H locs hR hS => ?_)
  refine g_aload_n C hl dX9_call_88 rfl ?_
  refine gt_X9_0 C hR fl_X9_7 dX9_call_89 ?_
  refine g_bipush 114 C dX9_call_92 (by decide) ?_
  refine g_bipush 16 C dX9_call_94 (by decide) ?_
  refine g_iload_n C hl dX9_call_96 rfl ?_
  refine g_imul C dX9_call_97 ?_
  refine g_iload_n C hl dX9_call_98 rfl ?_
  refine g_bipush 10 C dX9_call_99 (by decide) ?_
  refine g_irem C dX9_call_101 (by omega) (by decide) (by decide) ?_
  refine g_iadd C dX9_call_102 ?_
  refine r_ast1 C hR hS (by omega) dX9_call_103 (fun H locs hR hS => ?_)
  refine g_vret C hR hS dX9_call_104 ?_
  exact ⟨rfl, rfl⟩
set_option maxRecDepth 100000 in
set_option maxHeartbeats 4000000 in
/-- back -/
theorem c_X9_back (l : Launch) {X : gX} (hI : gInj X) {mem : gM} {f z a o k t r : Nat → Nat} (hz : zI z) (h8 : 0 < z 116) : gF l yX9_back cX9_back 2 none 0 0 X [.ref (gAd X 8 0)] (gM8 mem f z a o k t r) none (gM8 mem f (zBc z) a o k t r) := by
  refine gMt.of (own := RX9) (by decide) rfl hI (by simp [Value.category]) (Nat.le_of_ble_eq_true rfl) ?_
  intro p e s m args below meth c ls H locs C hnm hl hR hS
  have h116 := hz.2.2.2.2.2.2.2.1
  have hw9 := (hz.2.2.2.2.2.2.2.2.1 (z 116 - 1) (by omega)).1
  refine g_aload_n C hl dX9_back_0 rfl ?_
  refine gt_X9_0 C hR fl_X9_7 dX9_back_1 ?_
  refine g_bipush 116 C dX9_back_4 (by decide) ?_
  refine g_dup2 C dX9_back_6 rfl rfl ?_
  refine r_ald1 C hR (by omega) dX9_back_7 ?_
  refine g_iconst 1 C dX9_back_8 (by decide) ?_
  refine g_isub C dX9_back_9 (by omega) ?_
  refine r_ast1 C hR hS (by omega) dX9_back_10 (fun H locs hR hS => ?_)
  refine g_bipush 117 C dX9_back_11 (by decide) ?_
  refine g_iconst 3 C dX9_back_13 (by decide) ?_
  refine g_aload_n C hl dX9_back_14 rfl ?_
  refine gt_X9_0 C hR fl_X9_7 dX9_back_15 ?_
  refine g_bipush 116 C dX9_back_18 (by decide) ?_
  refine r_ald1 C hR (by omega) dX9_back_20 ?_
  rw [fU_s]
  refine g_imul C dX9_back_21 ?_
  refine g_iadd C dX9_back_22 ?_
  refine g_istore_n C hl dX9_back_23 (Nat.le_of_ble_eq_true rfl) (fun ls hl => ?_)
  refine g_aload_n C hl dX9_back_24 rfl ?_
  refine gt_X9_0 C hR fl_X9_7 dX9_back_25 ?_
  refine g_bipush 100 C dX9_back_28 (by decide) ?_
  refine g_aload_n C hl dX9_back_30 rfl ?_
  refine gt_X9_0 C hR fl_X9_7 dX9_back_31 ?_
  refine g_iload_n C hl dX9_back_34 rfl ?_
  refine r_ald1 C hR (by omega) dX9_back_35 ?_
  rw [fU_n _ _ (by omega)]
  refine g_iadd C dX9_back_36 ?_
  refine g_aload_n C hl dX9_back_37 rfl ?_
  refine gt_X9_0 C hR fl_X9_7 dX9_back_38 ?_
  refine g_iload_n C hl dX9_back_41 rfl ?_
  refine g_iconst 1 C dX9_back_42 (by decide) ?_
  refine g_iadd C dX9_back_43 ?_
  refine r_ald1 C hR (by omega) dX9_back_44 ?_
  refine r_ast1 C hR hS (by omega) dX9_back_45 (fun H locs hR hS => ?_)
  refine g_aload_n C hl dX9_back_46 rfl ?_
  refine gt_X9_0 C hR fl_X9_7 dX9_back_47 ?_
  refine g_bipush 114 C dX9_back_50 (by decide) ?_
  refine g_aload_n C hl dX9_back_52 rfl ?_
  refine gt_X9_0 C hR fl_X9_7 dX9_back_53 ?_
  refine g_iload_n C hl dX9_back_56 rfl ?_
  refine g_iconst 2 C dX9_back_57 (by decide) ?_
  refine g_iadd C dX9_back_58 ?_
  refine r_ald1 C hR (by omega) dX9_back_59 ?_
  refine r_ast1 C hR hS (by omega) dX9_back_60 (fun H locs hR hS => ?_)
  refine g_vret C hR hS dX9_back_61 ?_
  exact ⟨rfl, rfl⟩
theorem zWhy_0 {z : Nat → Nat} {kind n : Nat} (h : zWhy z kind n = 0) : ¬ ((2 ≤ kind ∧ kind ≤ 5 ∧ 64 ≤ n) ∨ (kind = 6 ∧ (4 ≤ n / 10 ∨ 8 ≤ n % 10)) ∨ (kind = 7 ∧ 8 ≤ n / 10)) ∧ ¬ (kind = 7 ∧ z 116 = 8) ∧ ¬ (kind = 8 ∧ z 116 = 0) := by
  unfold zWhy at h
  by_cases h1 : (2 ≤ kind ∧ kind ≤ 5 ∧ 64 ≤ n) ∨ (kind = 6 ∧ (4 ≤ n / 10 ∨ 8 ≤ n % 10)) ∨ (kind = 7 ∧ 8 ≤ n / 10)
  · rw [if_pos h1] at h; omega
  · rw [if_neg h1] at h
    by_cases h2 : kind = 7 ∧ z 116 = 8
    · rw [if_pos h2] at h; omega
    · rw [if_neg h2] at h
      by_cases h3 : kind = 8 ∧ z 116 = 0
      · rw [if_pos h3] at h; omega
      · exact ⟨h1, h2, h3⟩
set_option maxRecDepth 100000 in
set_option maxHeartbeats 4000000 in
theorem c_X9_order_0 (l : Launch) {X : gX} (hI : gInj X) {mem : gM} {f z a o k t r : Nat → Nat} {n w : Nat} (hz : zI z) (hn : n < 100) (hw9 : w < 4) (hy : zWhy z 0 n = 0) : gF l yX9_order cX9_order 4 none 3 64 X [.ref (gAd X 8 0), .int (nI 0), .int (nI n), .int (nI w)] (gM8 mem f z a o k t r) none (gM8 mem f (zOrd z 0 n w) a o k t r) := by
  refine gMt.of (own := RX9) (by decide) rfl hI (by simp [Value.category]) (Nat.le_of_ble_eq_true rfl) ?_
  intro p e s m args below meth c ls H locs C hnm hl hR hS
  obtain ⟨y1, y2, y3⟩ := zWhy_0 hy
  have h113 := hz.2.2.2.2.1
  have h116 := hz.2.2.2.2.2.2.2.1
  refine g_iload_n C hl dX9_order_0 rfl ?_
  refine lv_tableIn (tgt := 52) C.1 C.2.1 dX9_order_1 (by decide) (by decide) rfl (by decide) ?_
  refine g_aload_n C hl dX9_order_52 rfl ?_
  refine gt_X9_0 C hR fl_X9_7 dX9_order_53 ?_
  refine g_bipush 115 C dX9_order_56 (by decide) ?_
  refine g_iconst 1 C dX9_order_58 (by decide) ?_
  refine r_ast1 C hR hS (by omega) dX9_order_59 (fun H locs hR hS => ?_)
  refine g_goto (tgt := 207) C dX9_order_60 (by decide) ?_
  refine g_vret C hR hS dX9_order_207 ?_
  exact ⟨rfl, rfl⟩
set_option maxRecDepth 100000 in
set_option maxHeartbeats 4000000 in
theorem c_X9_order_1 (l : Launch) {X : gX} (hI : gInj X) {mem : gM} {f z a o k t r : Nat → Nat} {n w : Nat} (hz : zI z) (hn : n < 100) (hw9 : w < 4) (hy : zWhy z 1 n = 0) : gF l yX9_order cX9_order 4 none 3 64 X [.ref (gAd X 8 0), .int (nI 1), .int (nI n), .int (nI w)] (gM8 mem f z a o k t r) none (gM8 mem f (zOrd z 1 n w) a o k t r) := by
  refine gMt.of (own := RX9) (by decide) rfl hI (by simp [Value.category]) (Nat.le_of_ble_eq_true rfl) ?_
  intro p e s m args below meth c ls H locs C hnm hl hR hS
  obtain ⟨y1, y2, y3⟩ := zWhy_0 hy
  have h113 := hz.2.2.2.2.1
  have h116 := hz.2.2.2.2.2.2.2.1
  refine g_iload_n C hl dX9_order_0 rfl ?_
  refine lv_tableIn (tgt := 63) C.1 C.2.1 dX9_order_1 (by decide) (by decide) rfl (by decide) ?_
  refine g_aload_n C hl dX9_order_63 rfl ?_
  refine gt_X9_0 C hR fl_X9_7 dX9_order_64 ?_
  refine g_bipush 113 C dX9_order_67 (by decide) ?_
  refine g_iload_n C hl dX9_order_69 rfl ?_
  refine r_ast1 C hR hS (by omega) dX9_order_70 (fun H locs hR hS => ?_)
  refine g_goto (tgt := 207) C dX9_order_71 (by decide) ?_
  refine g_vret C hR hS dX9_order_207 ?_
  exact ⟨rfl, rfl⟩
set_option maxRecDepth 100000 in
set_option maxHeartbeats 4000000 in
theorem c_X9_order_2 (l : Launch) {X : gX} (hI : gInj X) {mem : gM} {f z a o k t r : Nat → Nat} {n w : Nat} (hz : zI z) (hn : n < 100) (hw9 : w < 4) (hy : zWhy z 2 n = 0) : gF l yX9_order cX9_order 4 none 3 64 X [.ref (gAd X 8 0), .int (nI 2), .int (nI n), .int (nI w)] (gM8 mem f z a o k t r) none (gM8 mem f (zOrd z 2 n w) a o k t r) := by
  refine gMt.of (own := RX9) (by decide) rfl hI (by simp [Value.category]) (Nat.le_of_ble_eq_true rfl) ?_
  intro p e s m args below meth c ls H locs C hnm hl hR hS
  obtain ⟨y1, y2, y3⟩ := zWhy_0 hy
  have h113 := hz.2.2.2.2.1
  have h116 := hz.2.2.2.2.2.2.2.1
  have hat := hz.1 _ (hz.at (show n < 64 by omega))
  have hat2 := hz.at (show n < 64 by omega)
  refine g_iload_n C hl dX9_order_0 rfl ?_
  refine lv_tableIn (tgt := 74) C.1 C.2.1 dX9_order_1 (by decide) (by decide) rfl (by decide) ?_
  refine g_aload_n C hl dX9_order_74 rfl ?_
  refine gt_X9_0 C hR fl_X9_7 dX9_order_75 ?_
  refine g_bipush 113 C dX9_order_78 (by decide) ?_
  refine g_aload_n C hl dX9_order_80 rfl ?_
  refine gt_X9_0 C hR fl_X9_7 dX9_order_81 ?_
  refine g_bipush 113 C dX9_order_84 (by decide) ?_
  refine r_ald1 C hR (by omega) dX9_order_86 ?_
  refine g_aload_n C hl dX9_order_87 rfl ?_
  refine gt_X9_0 C hR fl_X9_7 dX9_order_88 ?_
  refine g_aload_n C hl dX9_order_91 rfl ?_
  refine g_iload_n C hl dX9_order_92 rfl ?_
  refine g_callVi C hl.1 hR hS rc_X9 md_X9_indexAt ml_X9_71 (c_X9_indexAt l hI hz (by omega)) rfl rfl ⟨Nat.le_of_ble_eq_true rfl, Nat.le_of_ble_eq_true rfl⟩ ⟨Nat.le_refl _, Nat.le_refl _⟩ (Nat.le_of_ble_eq_true rfl) dX9_order_93 (fun H locs hR hS => ?_)
  refine r_ald1 C hR (by omega) dX9_order_96 ?_
  refine g_callSi C hl.1 hR hS md_X9_sum ml_X9_74 (c_X9_sum l hI (by omega) (by omega)) rfl rfl ⟨Nat.le_of_ble_eq_true rfl, Nat.le_of_ble_eq_true rfl⟩ ⟨Nat.le_refl _, Nat.le_refl _⟩ (Nat.le_of_ble_eq_true rfl) dX9_order_97 (fun H locs hR hS => ?_)
  refine r_ast1 C hR hS (by omega) dX9_order_100 (fun H locs hR hS => ?_)
  refine g_goto (tgt := 207) C dX9_order_101 (by decide) ?_
  refine g_vret C hR hS dX9_order_207 ?_
  exact ⟨rfl, rfl⟩
set_option maxRecDepth 100000 in
set_option maxHeartbeats 4000000 in
theorem c_X9_order_3 (l : Launch) {X : gX} (hI : gInj X) {mem : gM} {f z a o k t r : Nat → Nat} {n w : Nat} (hz : zI z) (hn : n < 100) (hw9 : w < 4) (hy : zWhy z 3 n = 0) : gF l yX9_order cX9_order 4 none 3 64 X [.ref (gAd X 8 0), .int (nI 3), .int (nI n), .int (nI w)] (gM8 mem f z a o k t r) none (gM8 mem f (zOrd z 3 n w) a o k t r) := by
  refine gMt.of (own := RX9) (by decide) rfl hI (by simp [Value.category]) (Nat.le_of_ble_eq_true rfl) ?_
  intro p e s m args below meth c ls H locs C hnm hl hR hS
  obtain ⟨y1, y2, y3⟩ := zWhy_0 hy
  have h113 := hz.2.2.2.2.1
  have h116 := hz.2.2.2.2.2.2.2.1
  refine g_iload_n C hl dX9_order_0 rfl ?_
  refine lv_tableIn (tgt := 104) C.1 C.2.1 dX9_order_1 (by decide) (by decide) rfl (by decide) ?_
  refine g_aload_n C hl dX9_order_104 rfl ?_
  refine g_iload_n C hl dX9_order_105 rfl ?_
  refine g_callVv C hl.1 hR hS rc_X9 md_X9_write ml_X9_77 (c_X9_write l hI hz (by omega)) rfl rfl ⟨Nat.le_of_ble_eq_true rfl, Nat.le_of_ble_eq_true rfl⟩ ⟨Nat.le_refl _, Nat.le_refl _⟩ (Nat.le_of_ble_eq_true rfl) dX9_order_106 (fun H locs hR hS => ?_)
  refine g_goto (tgt := 207) C dX9_order_109 (by decide) ?_
  refine g_vret C hR hS dX9_order_207 ?_
  exact ⟨rfl, rfl⟩
set_option maxRecDepth 100000 in
set_option maxHeartbeats 4000000 in
theorem c_X9_order_4 (l : Launch) {X : gX} (hI : gInj X) {mem : gM} {f z a o k t r : Nat → Nat} {n w : Nat} (hz : zI z) (hn : n < 100) (hw9 : w < 4) (hy : zWhy z 4 n = 0) : gF l yX9_order cX9_order 4 none 3 64 X [.ref (gAd X 8 0), .int (nI 4), .int (nI n), .int (nI w)] (gM8 mem f z a o k t r) none (gM8 mem f (zOrd z 4 n w) a o k t r) := by
  refine gMt.of (own := RX9) (by decide) rfl hI (by simp [Value.category]) (Nat.le_of_ble_eq_true rfl) ?_
  intro p e s m args below meth c ls H locs C hnm hl hR hS
  obtain ⟨y1, y2, y3⟩ := zWhy_0 hy
  have h113 := hz.2.2.2.2.1
  have h116 := hz.2.2.2.2.2.2.2.1
  refine g_iload_n C hl dX9_order_0 rfl ?_
  refine lv_tableIn (tgt := 112) C.1 C.2.1 dX9_order_1 (by decide) (by decide) rfl (by decide) ?_
  refine g_aload_n C hl dX9_order_112 rfl ?_
  refine gt_X9_0 C hR fl_X9_7 dX9_order_113 ?_
  refine g_bipush 114 C dX9_order_116 (by decide) ?_
  refine g_iload_n C hl dX9_order_118 rfl ?_
  refine r_ast1 C hR hS (by omega) dX9_order_119 (fun H locs hR hS => ?_)
  refine g_goto (tgt := 207) C dX9_order_120 (by decide) ?_
  refine g_vret C hR hS dX9_order_207 ?_
  exact ⟨rfl, rfl⟩
set_option maxRecDepth 100000 in
set_option maxHeartbeats 4000000 in
theorem c_X9_order_5 (l : Launch) {X : gX} (hI : gInj X) {mem : gM} {f z a o k t r : Nat → Nat} {n w : Nat} (hz : zI z) (hn : n < 100) (hw9 : w < 4) (hy : zWhy z 5 n = 0) : gF l yX9_order cX9_order 4 none 3 64 X [.ref (gAd X 8 0), .int (nI 5), .int (nI n), .int (nI w)] (gM8 mem f z a o k t r) none (gM8 mem f (zOrd z 5 n w) a o k t r) := by
  refine gMt.of (own := RX9) (by decide) rfl hI (by simp [Value.category]) (Nat.le_of_ble_eq_true rfl) ?_
  intro p e s m args below meth c ls H locs C hnm hl hR hS
  obtain ⟨y1, y2, y3⟩ := zWhy_0 hy
  have h113 := hz.2.2.2.2.1
  have h116 := hz.2.2.2.2.2.2.2.1
  refine g_iload_n C hl dX9_order_0 rfl ?_
  refine lv_tableIn (tgt := 123) C.1 C.2.1 dX9_order_1 (by decide) (by decide) rfl (by decide) ?_
  refine g_aload_n C hl dX9_order_123 rfl ?_
  refine gt_X9_0 C hR fl_X9_7 dX9_order_124 ?_
  refine g_bipush 114 C dX9_order_127 (by decide) ?_
  refine g_aload_n C hl dX9_order_129 rfl ?_
  refine gt_X9_0 C hR fl_X9_7 dX9_order_130 ?_
  refine g_bipush 113 C dX9_order_133 (by decide) ?_
  refine r_ald1 C hR (by omega) dX9_order_135 ?_
  refine g_if_ne (tgt := 143) C dX9_order_136 (by decide) (by omega) (fun c136 => ?_) (fun c136 => ?_)
  · -- 136 T
    refine g_aload_n C hl dX9_order_143 rfl ?_
    refine gt_X9_0 C hR fl_X9_7 dX9_order_144 ?_
    refine g_bipush 114 C dX9_order_147 (by decide) ?_
    refine r_ald1 C hR (by omega) dX9_order_149 ?_
    refine r_ast1 C hR hS (by omega) dX9_order_150 (fun H locs hR hS => ?_)
    refine g_goto (tgt := 207) C dX9_order_151 (by decide) ?_
    refine g_vret C hR hS dX9_order_207 ?_
    refine ⟨rfl, ?_⟩
    show _ = gM8 mem f (fU z 114 (if z 113 = 0 then n else z 114)) a o k t r
    first | rw [if_pos c136] | rw [if_neg c136]
  · -- 136 F
    refine g_iload_n C hl dX9_order_139 rfl ?_
    refine g_goto (tgt := 150) C dX9_order_140 (by decide) ?_
    refine r_ast1 C hR hS (by omega) dX9_order_150 (fun H locs hR hS => ?_)
    refine g_goto (tgt := 207) C dX9_order_151 (by decide) ?_
    refine g_vret C hR hS dX9_order_207 ?_
    refine ⟨rfl, ?_⟩
    show _ = gM8 mem f (fU z 114 (if z 113 = 0 then n else z 114)) a o k t r
    first | rw [if_pos c136] | rw [if_neg c136]
set_option maxRecDepth 100000 in
set_option maxHeartbeats 4000000 in
theorem c_X9_order_6 (l : Launch) {X : gX} (hI : gInj X) {mem : gM} {f z a o k t r : Nat → Nat} {n w : Nat} (hz : zI z) (hn : n < 100) (hw9 : w < 4) (hy : zWhy z 6 n = 0) : gF l yX9_order cX9_order 4 none 3 64 X [.ref (gAd X 8 0), .int (nI 6), .int (nI n), .int (nI w)] (gM8 mem f z a o k t r) none (gM8 mem f (zOrd z 6 n w) a o k t r) := by
  refine gMt.of (own := RX9) (by decide) rfl hI (by simp [Value.category]) (Nat.le_of_ble_eq_true rfl) ?_
  intro p e s m args below meth c ls H locs C hnm hl hR hS
  obtain ⟨y1, y2, y3⟩ := zWhy_0 hy
  have h113 := hz.2.2.2.2.1
  have h116 := hz.2.2.2.2.2.2.2.1
  refine g_iload_n C hl dX9_order_0 rfl ?_
  refine lv_tableIn (tgt := 154) C.1 C.2.1 dX9_order_1 (by decide) (by decide) rfl (by decide) ?_
  refine g_aload_n C hl dX9_order_154 rfl ?_
  refine gt_X9_0 C hR fl_X9_7 dX9_order_155 ?_
  refine g_bipush 100 C dX9_order_158 (by decide) ?_
  refine g_iload_n C hl dX9_order_160 rfl ?_
  refine g_bipush 10 C dX9_order_161 (by decide) ?_
  refine g_idiv C dX9_order_163 (by omega) (by decide) (by decide) ?_
  refine g_iadd C dX9_order_164 ?_
  refine g_iload_n C hl dX9_order_165 rfl ?_
  refine g_bipush 10 C dX9_order_166 (by decide) ?_
  refine g_irem C dX9_order_168 (by omega) (by decide) (by decide) ?_
  refine r_ast1 C hR hS (by omega) dX9_order_169 (fun H locs hR hS => ?_)
  refine g_goto (tgt := 207) C dX9_order_170 (by decide) ?_
  refine g_vret C hR hS dX9_order_207 ?_
  exact ⟨rfl, rfl⟩
set_option maxRecDepth 100000 in
set_option maxHeartbeats 4000000 in
theorem c_X9_order_7 (l : Launch) {X : gX} (hI : gInj X) {mem : gM} {f z a o k t r : Nat → Nat} {n w : Nat} (hz : zI z) (hn : n < 100) (hw9 : w < 4) (hy : zWhy z 7 n = 0) : gF l yX9_order cX9_order 4 none 3 64 X [.ref (gAd X 8 0), .int (nI 7), .int (nI n), .int (nI w)] (gM8 mem f z a o k t r) none (gM8 mem f (zOrd z 7 n w) a o k t r) := by
  refine gMt.of (own := RX9) (by decide) rfl hI (by simp [Value.category]) (Nat.le_of_ble_eq_true rfl) ?_
  intro p e s m args below meth c ls H locs C hnm hl hR hS
  obtain ⟨y1, y2, y3⟩ := zWhy_0 hy
  have h113 := hz.2.2.2.2.1
  have h116 := hz.2.2.2.2.2.2.2.1
  refine g_iload_n C hl dX9_order_0 rfl ?_
  refine lv_tableIn (tgt := 173) C.1 C.2.1 dX9_order_1 (by decide) (by decide) rfl (by decide) ?_
  refine g_aload_n C hl dX9_order_173 rfl ?_
  refine g_iload_n C hl dX9_order_174 rfl ?_
  refine g_iload_n C hl dX9_order_175 rfl ?_
  refine g_callVv C hl.1 hR hS rc_X9 md_X9_call ml_X9_81 (c_X9_call l hI hz hw9 hn (by omega)) rfl rfl ⟨Nat.le_of_ble_eq_true rfl, Nat.le_of_ble_eq_true rfl⟩ ⟨Nat.le_refl _, Nat.le_refl _⟩ (Nat.le_of_ble_eq_true rfl) dX9_order_176 (fun H locs hR hS => ?_)
  refine g_goto (tgt := 207) C dX9_order_179 (by decide) ?_
  refine g_vret C hR hS dX9_order_207 ?_
  exact ⟨rfl, rfl⟩
set_option maxRecDepth 100000 in
set_option maxHeartbeats 4000000 in
theorem c_X9_order_8 (l : Launch) {X : gX} (hI : gInj X) {mem : gM} {f z a o k t r : Nat → Nat} {n w : Nat} (hz : zI z) (hn : n < 100) (hw9 : w < 4) (hy : zWhy z 8 n = 0) : gF l yX9_order cX9_order 4 none 3 64 X [.ref (gAd X 8 0), .int (nI 8), .int (nI n), .int (nI w)] (gM8 mem f z a o k t r) none (gM8 mem f (zOrd z 8 n w) a o k t r) := by
  refine gMt.of (own := RX9) (by decide) rfl hI (by simp [Value.category]) (Nat.le_of_ble_eq_true rfl) ?_
  intro p e s m args below meth c ls H locs C hnm hl hR hS
  obtain ⟨y1, y2, y3⟩ := zWhy_0 hy
  have h113 := hz.2.2.2.2.1
  have h116 := hz.2.2.2.2.2.2.2.1
  refine g_iload_n C hl dX9_order_0 rfl ?_
  refine lv_tableIn (tgt := 182) C.1 C.2.1 dX9_order_1 (by decide) (by decide) rfl (by decide) ?_
  refine g_aload_n C hl dX9_order_182 rfl ?_
  refine g_callVv C hl.1 hR hS rc_X9 md_X9_back ml_X9_85 (c_X9_back l hI hz (by omega)) rfl rfl ⟨Nat.le_of_ble_eq_true rfl, Nat.le_of_ble_eq_true rfl⟩ ⟨Nat.le_refl _, Nat.le_refl _⟩ (Nat.le_of_ble_eq_true rfl) dX9_order_183 (fun H locs hR hS => ?_)
  refine g_goto (tgt := 207) C dX9_order_186 (by decide) ?_
  refine g_vret C hR hS dX9_order_207 ?_
  exact ⟨rfl, rfl⟩
set_option maxRecDepth 100000 in
set_option maxHeartbeats 4000000 in
theorem c_X9_order_9 (l : Launch) {X : gX} (hI : gInj X) {mem : gM} {f z a o k t r : Nat → Nat} {n w : Nat} (hz : zI z) (hn : n < 100) (hw9 : w < 4) (hy : zWhy z 9 n = 0) : gF l yX9_order cX9_order 4 none 3 64 X [.ref (gAd X 8 0), .int (nI 9), .int (nI n), .int (nI w)] (gM8 mem f z a o k t r) none (gM8 mem f (zOrd z 9 n w) a o k t r) := by
  refine gMt.of (own := RX9) (by decide) rfl hI (by simp [Value.category]) (Nat.le_of_ble_eq_true rfl) ?_
  intro p e s m args below meth c ls H locs C hnm hl hR hS
  obtain ⟨y1, y2, y3⟩ := zWhy_0 hy
  have h113 := hz.2.2.2.2.1
  have h116 := hz.2.2.2.2.2.2.2.1
  refine g_iload_n C hl dX9_order_0 rfl ?_
  refine lv_tableOut (tgt := 189) C.1 C.2.1 dX9_order_1 (Or.inr (by decide)) (by decide) ?_
  refine g_aload_n C hl dX9_order_189 rfl ?_
  refine gt_X9_0 C hR fl_X9_7 dX9_order_190 ?_
  refine g_bipush 113 C dX9_order_193 (by decide) ?_
  refine g_aload_n C hl dX9_order_195 rfl ?_
  refine gt_X9_0 C hR fl_X9_7 dX9_order_196 ?_
  refine g_bipush 113 C dX9_order_199 (by decide) ?_
  refine r_ald1 C hR (by omega) dX9_order_201 ?_
  refine g_iload_n C hl dX9_order_202 rfl ?_
  refine g_callSi C hl.1 hR hS md_X9_sum ml_X9_74 (c_X9_sum l hI (by omega) (by omega)) rfl rfl ⟨Nat.le_of_ble_eq_true rfl, Nat.le_of_ble_eq_true rfl⟩ ⟨Nat.le_refl _, Nat.le_refl _⟩ (Nat.le_of_ble_eq_true rfl) dX9_order_203 (fun H locs hR hS => ?_)
  refine r_ast1 C hR hS (by omega) dX9_order_206 (fun H locs hR hS => ?_)
  refine g_vret C hR hS dX9_order_207 ?_
  exact ⟨rfl, rfl⟩
theorem c_X9_order (l : Launch) {X : gX} (hI : gInj X) {mem : gM} {f z a o k t r : Nat → Nat} {kind n w : Nat} (hz : zI z) (hk : kind < 10) (hn : n < 100) (hw9 : w < 4) (hy : zWhy z kind n = 0) : gF l yX9_order cX9_order 4 none 3 64 X [.ref (gAd X 8 0), .int (nI kind), .int (nI n), .int (nI w)] (gM8 mem f z a o k t r) none (gM8 mem f (zOrd z kind n w) a o k t r) := match kind, hk, hy with
  | 0, _, hy => c_X9_order_0 l hI hz hn hw9 hy
  | 1, _, hy => c_X9_order_1 l hI hz hn hw9 hy
  | 2, _, hy => c_X9_order_2 l hI hz hn hw9 hy
  | 3, _, hy => c_X9_order_3 l hI hz hn hw9 hy
  | 4, _, hy => c_X9_order_4 l hI hz hn hw9 hy
  | 5, _, hy => c_X9_order_5 l hI hz hn hw9 hy
  | 6, _, hy => c_X9_order_6 l hI hz hn hw9 hy
  | 7, _, hy => c_X9_order_7 l hI hz hn hw9 hy
  | 8, _, hy => c_X9_order_8 l hI hz hn hw9 hy
  | 9, _, hy => c_X9_order_9 l hI hz hn hw9 hy
  | q + 10, h, _ => absurd h (by omega)
theorem zSh_step {z : Nat → Nat} {i : Nat} (h : 2 ≤ i) (hi : i + 1 < 3 * z 141) : zSh z (i + 1) = fU (zSh z (i + 1 + 1)) (142 + (i + 1)) (zSh z (i + 1 + 1) (142 + (i + 1) - 3)) := by
  funext j
  unfold zSh fU
  by_cases e : j = 142 + (i + 1)
  · subst e
    rw [if_pos rfl, if_pos (by omega), if_neg (by omega)]
  · rw [if_neg e]
    dsimp only
    by_cases g : 142 + (i + 1) ≤ j ∧ j < 142 + 3 * z 141
    · rw [if_pos g, if_pos (by omega)]
    · rw [if_neg g, if_neg (by omega)]
theorem zSh_0 (z : Nat → Nat) : zSh z (3 * z 141) = z := by
  funext j
  unfold zSh
  rw [if_neg (by omega)]
theorem zKp0_141 {z : Nat → Nat} (h : z 141 ≤ 12) : 1 ≤ zKp0 z 141 ∧ zKp0 z 141 ≤ 12 := by
  unfold zKp0
  by_cases e : z 141 < 12
  · rw [if_pos e, fU_s]; omega
  · rw [if_neg e]; omega
set_option maxRecDepth 100000 in
set_option maxHeartbeats 4000000 in
/-- keepStep -/
theorem c_X9_keepStep (l : Launch) {X : gX} (hI : gInj X) {mem : gM} {f z a o k t r : Nat → Nat} {ad num : Nat} (hz : zI z) (had : ad < 64) : gF l yX9_keepStep cX9_keepStep 4 none 1 21 X [.ref (gAd X 8 0), .int (nI ad), .int (nI num)] (gM8 mem f z a o k t r) none (gM8 mem f (zKp z ad num) a o k t r) := by
  refine gMt.of (own := RX9) (by decide) rfl hI (by simp [Value.category]) (Nat.le_of_ble_eq_true rfl) ?_
  intro p e s m args below meth c ls H locs C hnm hl hR hS
  have h141 := hz.2.2.2.2.2.2.2.2.2
  obtain ⟨k1, k2⟩ := zKp0_141 h141
  have loop : ∀ (d i : Nat), i = d + 2 → i < 3 * zKp0 z 141 → ∀ (ls : Array Slot) (H : Heap) (locs : List Loc), gL ls [some (.ref (gAd X 8 0)), some (.int (nI ad)), some (.int (nI num)), some (.int (nI i))] → gRep X (gM8 mem f (zSh (zKp0 z) (i + 1)) a o k t r) H → va_S (gA X) s.heap H locs → W p l e { frames := 1, cells := 0, slots := 0, locals := 21 } s m args below meth c H locs 0 0 (MQ below (gQ X (fun v m => v = none ∧ m = gM8 mem f (zKp z ad num) a o k t r)) args s 0 0 (gA X)) (F0 m 38 ls []) := by
    intro d
    induction d with
    | zero =>
      intro i hi hi2 ls H locs hl hR hS
      subst hi
      refine g_iload_n C hl dX9_keepStep_38 rfl ?_
      refine g_iconst 3 C dX9_keepStep_39 (by decide) ?_
      refine g_icmp_lt (tgt := 71) C dX9_keepStep_40 (by decide) (by omega) (by omega) (fun c40 => ?_) (fun z9 => absurd z9 (by omega))
      refine g_aload_n C hl dX9_keepStep_71 rfl ?_
      refine gt_X9_0 C hR fl_X9_7 dX9_keepStep_72 ?_
      refine g_sipush 142 C dX9_keepStep_75 (by decide) ?_
      refine g_iload_n C hl dX9_keepStep_78 rfl ?_
      refine r_ast1 C hR hS (by omega) dX9_keepStep_79 (fun H locs hR hS => ?_)
      refine g_aload_n C hl dX9_keepStep_80 rfl ?_
      refine gt_X9_0 C hR fl_X9_7 dX9_keepStep_81 ?_
      refine g_sipush 143 C dX9_keepStep_84 (by decide) ?_
      refine g_aload_n C hl dX9_keepStep_87 rfl ?_
      refine g_iload_n C hl dX9_keepStep_88 rfl ?_
      refine g_callVi C hl.1 hR hS rc_X9 md_X9_bankAt ml_X9_32 (c_X9_bankAt l hI had) rfl rfl ⟨Nat.le_of_ble_eq_true rfl, Nat.le_of_ble_eq_true rfl⟩ ⟨Nat.le_refl _, Nat.le_refl _⟩ (Nat.le_of_ble_eq_true rfl) dX9_keepStep_89 (fun H locs hR hS => ?_)
      refine r_ast1 C hR hS (by omega) dX9_keepStep_92 (fun H locs hR hS => ?_)
      refine g_aload_n C hl dX9_keepStep_93 rfl ?_
      refine gt_X9_0 C hR fl_X9_7 dX9_keepStep_94 ?_
      refine g_sipush 144 C dX9_keepStep_97 (by decide) ?_
      refine g_iload_n C hl dX9_keepStep_100 rfl ?_
      refine r_ast1 C hR hS (by omega) dX9_keepStep_101 (fun H locs hR hS => ?_)
      refine g_vret C hR hS dX9_keepStep_102 ?_
      exact ⟨rfl, rfl⟩
    | succ d ih =>
      intro i hi hi2 ls H locs hl hR hS
      refine g_iload_n C hl dX9_keepStep_38 rfl ?_
      refine g_iconst 3 C dX9_keepStep_39 (by decide) ?_
      refine g_icmp_lt (tgt := 71) C dX9_keepStep_40 (by decide) (by omega) (by omega) (fun z9 => absurd z9 (by omega)) (fun c40 => ?_)
      refine g_aload_n C hl dX9_keepStep_43 rfl ?_
      refine gt_X9_0 C hR fl_X9_7 dX9_keepStep_44 ?_
      refine g_sipush 142 C dX9_keepStep_47 (by decide) ?_
      refine g_iload_n C hl dX9_keepStep_50 rfl ?_
      refine g_iadd C dX9_keepStep_51 ?_
      refine g_aload_n C hl dX9_keepStep_52 rfl ?_
      refine gt_X9_0 C hR fl_X9_7 dX9_keepStep_53 ?_
      refine g_sipush 142 C dX9_keepStep_56 (by decide) ?_
      refine g_iload_n C hl dX9_keepStep_59 rfl ?_
      refine g_iadd C dX9_keepStep_60 ?_
      refine g_iconst 3 C dX9_keepStep_61 (by decide) ?_
      refine g_isub C dX9_keepStep_62 (by omega) ?_
      refine r_ald1 C hR (by omega) dX9_keepStep_63 ?_
      refine r_ast1 C hR hS (by omega) dX9_keepStep_64 (fun H locs hR hS => ?_)
      obtain ⟨i9, e9⟩ : ∃ i9, i = i9 + 1 := ⟨i - 1, by omega⟩
      subst e9
      refine g_idec C hl dX9_keepStep_65 rfl (by decide) (fun ls hl => ?_)
      refine g_goto (tgt := 38) C dX9_keepStep_68 (by decide) ?_
      refine ih i9 (by omega) (by omega) ls H locs hl ?_ hS
      rw [zSh_step (by omega) (by omega)]
      exact hR
  refine g_aload_n C hl dX9_keepStep_0 rfl ?_
  refine gt_X9_0 C hR fl_X9_7 dX9_keepStep_1 ?_
  refine g_sipush 141 C dX9_keepStep_4 (by decide) ?_
  refine r_ald1 C hR (by omega) dX9_keepStep_7 ?_
  refine g_bipush 12 C dX9_keepStep_8 (by decide) ?_
  refine g_icmp_ge (tgt := 25) C dX9_keepStep_10 (by decide) (by omega) (by omega) (fun c10 => ?_) (fun c10 => ?_)
  · -- 10 T
    have e9 : z = zKp0 z := by unfold zKp0; rw [if_neg (by omega)]
    rw [e9] at hR
    refine g_iconst 3 C dX9_keepStep_25 (by decide) ?_
    refine g_aload_n C hl dX9_keepStep_26 rfl ?_
    refine gt_X9_0 C hR fl_X9_7 dX9_keepStep_27 ?_
    refine g_sipush 141 C dX9_keepStep_30 (by decide) ?_
    refine r_ald1 C hR (by omega) dX9_keepStep_33 ?_
    refine g_imul C dX9_keepStep_34 ?_
    refine g_iconst 1 C dX9_keepStep_35 (by decide) ?_
    refine g_isub C dX9_keepStep_36 (by omega) ?_
    refine g_istore_n C hl dX9_keepStep_37 (Nat.le_of_ble_eq_true rfl) (fun ls hl => ?_)
    have e8 : 3 * zKp0 z 141 - 1 = 3 * zKp0 z 141 - 1 - 2 + 2 := by omega
    exact loop (3 * zKp0 z 141 - 1 - 2) (3 * zKp0 z 141 - 1) e8 (by omega) _ _ _ hl (by rw [show 3 * zKp0 z 141 - 1 + 1 = 3 * zKp0 z 141 by omega, zSh_0]; exact hR) hS
  · -- 10 F
    refine g_aload_n C hl dX9_keepStep_13 rfl ?_
    refine gt_X9_0 C hR fl_X9_7 dX9_keepStep_14 ?_
    refine g_sipush 141 C dX9_keepStep_17 (by decide) ?_
    refine g_dup2 C dX9_keepStep_20 rfl rfl ?_
    refine r_ald1 C hR (by omega) dX9_keepStep_21 ?_
    refine g_iconst 1 C dX9_keepStep_22 (by decide) ?_
    refine g_iadd C dX9_keepStep_23 ?_
    refine r_ast1 C hR hS (by omega) dX9_keepStep_24 (fun H locs hR hS => ?_)
    have e9 : fU z 141 (z 141 + 1) = zKp0 z := by unfold zKp0; rw [if_pos c10]
    rw [e9] at hR
    refine g_iconst 3 C dX9_keepStep_25 (by decide) ?_
    refine g_aload_n C hl dX9_keepStep_26 rfl ?_
    refine gt_X9_0 C hR fl_X9_7 dX9_keepStep_27 ?_
    refine g_sipush 141 C dX9_keepStep_30 (by decide) ?_
    refine r_ald1 C hR (by omega) dX9_keepStep_33 ?_
    refine g_imul C dX9_keepStep_34 ?_
    refine g_iconst 1 C dX9_keepStep_35 (by decide) ?_
    refine g_isub C dX9_keepStep_36 (by omega) ?_
    refine g_istore_n C hl dX9_keepStep_37 (Nat.le_of_ble_eq_true rfl) (fun ls hl => ?_)
    have e8 : 3 * zKp0 z 141 - 1 = 3 * zKp0 z 141 - 1 - 2 + 2 := by omega
    exact loop (3 * zKp0 z 141 - 1 - 2) (3 * zKp0 z 141 - 1) e8 (by omega) _ _ _ hl (by rw [show 3 * zKp0 z 141 - 1 + 1 = 3 * zKp0 z 141 by omega, zSh_0]; exact hR) hS
end
section
/-! ===== what a step keeps ===== -/
theorem zI_congr {z y : Nat → Nat} (h : zI z) (e : ∀ j, j < 142 → y j = z j) : zI y := by
  obtain ⟨g1, g2, g3, g4, g5, g6, g7, g8, g9, g10⟩ := h
  refine ⟨fun i hi => by rw [e i (by omega)]; exact g1 i hi, fun i hi => by rw [e _ (by omega)]; exact g2 i hi, fun i hi => by rw [e _ (by omega)]; exact g3 i hi, by rw [e _ (by omega)]; exact g4, by rw [e _ (by omega)]; exact g5, by rw [e _ (by omega)]; exact g6, by rw [e _ (by omega)]; exact g7, by rw [e _ (by omega)]; exact g8, fun q hq => by rw [e _ (by omega), e _ (by omega), e _ (by omega)]; exact g9 q hq, by rw [e _ (by omega)]; exact g10⟩
theorem zSm_le {x y : Nat} (hx : x ≤ 999) (hy : y ≤ 999) : zSm x y ≤ 999 := by
  unfold zSm
  by_cases h : x + y ≤ 999
  · rw [if_pos h]; exact h
  · rw [if_neg h]; omega
theorem zI_wr {z : Nat → Nat} {i : Nat} (hz : zI z) (hi : i < 64) : zI (zWr z i) := by
  have hb := hz.bk hi
  have hat := hz.at hi
  have h113 := hz.2.2.2.2.1
  unfold zWr
  by_cases c : z (104 + zBk z i) = 1
  · rw [if_pos c]
    have h1 : zI (zWr1 z (zBk z i)) := (hz).upd9 (by omega) (by omega) (by omega) (by omega) (by omega) (by omega) (by omega) (by omega) (fun q hq => by omega) (by omega)
    have h2 : zI (zWr2 z (zBk z i)) := (h1).upd9 (by omega) (by omega) (by omega) (by omega) (by omega) (by omega) (by omega) (by omega) (fun q hq => by omega) (by omega)
    have hx : (if zWr2 z (zBk z i) 112 = 1 then 2 else 0) ≤ 2 := by split <;> omega
    unfold zWr3
    generalize (if zWr2 z (zBk z i) 112 = 1 then 2 else 0) = x at hx
    exact (h2).upd9 (by omega) (by omega) (by omega) (by omega) (by omega) (by omega) (by omega) (by omega) (fun q hq => by omega) (by omega)
  · rw [if_neg c]
    have h1 : zI (zWs1 z (zBk z i) i) := (hz).upd9 (by omega) (by omega) (by omega) (by omega) (by omega) (by omega) (by omega) (by omega) (fun q hq => by omega) (by omega)
    have h2 : zI (zWs2 z (zBk z i) i) := (h1).upd9 (by omega) (by omega) (by omega) (by omega) (by omega) (by omega) (by omega) (by omega) (fun q hq => by omega) (by omega)
    exact (h2).upd9 (by omega) (by omega) (by omega) (by omega) (by omega) (by omega) (by omega) (by omega) (fun q hq => by omega) (by omega)
theorem zI_cl {z : Nat → Nat} {w n : Nat} (hz : zI z) (hw : w < 4) (hn : n / 10 < 8) (h8 : z 116 < 8) : zI (zCl z w n) := by
  have h1 : zI (zCl1 z w) := (hz).upd9 (by omega) (by omega) (by omega) (by omega) (by omega) (by omega) (by omega) (by omega) (fun q hq => by omega) (by omega)
  have v1 : zCl1 z w (100 + w) < 8 := h1.2.1 w hw
  have h2 : zI (zCl2 z w) := (h1).upd9 (by omega) (by omega) (by omega) (by omega) (by omega) (by omega) (by omega) (by omega) (fun q hq => by omega) (by omega)
  have v2 : zCl2 z w 114 ≤ 64 := h2.2.2.2.2.2.1
  have h3 : zI (zCl3 z w) := (h2).upd9 (by omega) (by omega) (by omega) (by omega) (by omega) (by omega) (by omega) (by omega) (fun q hq => by omega) (by omega)
  have v3 : zCl3 z w 116 = z 116 := by
    unfold zCl3 zCl2 zCl1
    rw [fU_n _ _ (by omega), fU_n _ _ (by omega), fU_n _ _ (by omega)]
  have h4 : zI (zCl4 z w) := (h3).upd9 (by omega) (by omega) (by omega) (by omega) (by omega) (by omega) (by omega) (by omega) (fun q hq => by omega) (by omega)
  have h5 : zI (zCl5 z w) := (h4).upd9 (by omega) (by omega) (by omega) (by omega) (by omega) (by omega) (by omega) (by omega) (fun q hq => by omega) (by omega)
  have h6 : zI (fU (zCl5 z w) (100 + w) (n / 10)) := (h5).upd9 (by omega) (by omega) (by omega) (by omega) (by omega) (by omega) (by omega) (by omega) (fun q hq => by omega) (by omega)
  exact (h6).upd9 (by omega) (by omega) (by omega) (by omega) (by omega) (by omega) (by omega) (by omega) (fun q hq => by omega) (by omega)
theorem zI_bc {z : Nat → Nat} (hz : zI z) (h8 : 0 < z 116) : zI (zBc z) := by
  have h116 := hz.2.2.2.2.2.2.2.1
  obtain ⟨q1, q2, q3⟩ := hz.2.2.2.2.2.2.2.2.1 (z 116 - 1) (by omega)
  have h1 : zI (zBc1 z) := (hz).upd9 (by omega) (by omega) (by omega) (by omega) (by omega) (by omega) (by omega) (by omega) (fun q hq => by omega) (by omega)
  obtain ⟨r1, r2, r3⟩ := h1.2.2.2.2.2.2.2.2.1 (z 116 - 1) (by omega)
  have e2 : 118 + 3 * (z 116 - 1) = 117 + 3 * (z 116 - 1) + 1 := by omega
  rw [e2] at r2
  have h2 : zI (zBc2 z) := (h1).upd9 (by omega) (by omega) (by omega) (by omega) (by omega) (by omega) (by omega) (by omega) (fun q hq => by omega) (by omega)
  obtain ⟨s1, s2, s3⟩ := h2.2.2.2.2.2.2.2.2.1 (z 116 - 1) (by omega)
  have e3 : 119 + 3 * (z 116 - 1) = 117 + 3 * (z 116 - 1) + 2 := by omega
  rw [e3] at s3
  exact (h2).upd9 (by omega) (by omega) (by omega) (by omega) (by omega) (by omega) (by omega) (by omega) (fun q hq => by omega) (by omega)
theorem zI_ord {z : Nat → Nat} {kind n w : Nat} (hz : zI z) (hk : kind < 10) (hn : n < 100) (hw : w < 4) (hy : zWhy z kind n = 0) : zI (zOrd z kind n w) := by
  have h113 := hz.2.2.2.2.1
  have h114 := hz.2.2.2.2.2.1
  have h116 := hz.2.2.2.2.2.2.2.1
  obtain ⟨y1, y2, y3⟩ := zWhy_0 hy
  match kind, hk with
  | 0, _ => exact (hz).upd9 (by omega) (by omega) (by omega) (by omega) (by omega) (by omega) (by omega) (by omega) (fun q hq => by omega) (by omega)
  | 1, _ => exact (hz).upd9 (by omega) (by omega) (by omega) (by omega) (by omega) (by omega) (by omega) (by omega) (fun q hq => by omega) (by omega)
  | 2, _ =>
    have hx := zSm_le h113 (hz.1 _ (hz.at (show n < 64 by omega)))
    show zI (fU z 113 (zSm (z 113) (z (zAt z n))))
    exact (hz).upd9 (by omega) (by omega) (by omega) (by omega) (by omega) (by omega) (by omega) (by omega) (fun q hq => by omega) (by omega)
  | 3, _ => exact zI_wr hz (by omega)
  | 4, _ => exact (hz).upd9 (by omega) (by omega) (by omega) (by omega) (by omega) (by omega) (by omega) (by omega) (fun q hq => by omega) (by omega)
  | 5, _ =>
    have hx : (if z 113 = 0 then n else z 114) ≤ 64 := by split <;> omega
    show zI (fU z 114 (if z 113 = 0 then n else z 114))
    generalize (if z 113 = 0 then n else z 114) = x at hx
    exact (hz).upd9 (by omega) (by omega) (by omega) (by omega) (by omega) (by omega) (by omega) (by omega) (fun q hq => by omega) (by omega)
  | 6, _ => exact (hz).upd9 (by omega) (by omega) (by omega) (by omega) (by omega) (by omega) (by omega) (by omega) (fun q hq => by omega) (by omega)
  | 7, _ => exact zI_cl hz hw (by omega) (by omega)
  | 8, _ => exact zI_bc hz (by omega)
  | 9, _ =>
    have hx := zSm_le h113 (show n ≤ 999 by omega)
    show zI (fU z 113 (zSm (z 113) n))
    exact (hz).upd9 (by omega) (by omega) (by omega) (by omega) (by omega) (by omega) (by omega) (by omega) (fun q hq => by omega) (by omega)
  | k + 10, h => exact absurd h (by omega)
theorem zKp0_lo {z : Nat → Nat} {j : Nat} (h : j < 141) : zKp0 z j = z j := by
  unfold zKp0
  by_cases e : z 141 < 12
  · rw [if_pos e, fU_n _ _ (by omega)]
  · rw [if_neg e]
theorem zKp_lo {z : Nat → Nat} {ad num j : Nat} (h : j < 142) : zKp z ad num j = zKp0 z j := by
  unfold zKp zKp2 zKp1 zSh
  rw [fU_n _ _ (by omega), fU_n _ _ (by omega), fU_n _ _ (by omega)]
  rw [if_neg (by omega)]
theorem zI_kp {z : Nat → Nat} {ad num : Nat} (hz : zI z) : zI (zKp z ad num) := by
  have h0 : zI (zKp0 z) := by
    unfold zKp0
    by_cases e : z 141 < 12
    · rw [if_pos e]
      exact (hz).upd9 (by omega) (by omega) (by omega) (by omega) (by omega) (by omega) (by omega) (by omega) (fun q hq => by omega) (by omega)
    · rw [if_neg e]
      exact hz
  exact zI_congr h0 (fun j hj => zKp_lo hj)
theorem zWhy_le (z : Nat → Nat) (kind n : Nat) : zWhy z kind n ≤ 5 := by
  unfold zWhy
  split
  · decide
  · split
    · decide
    · split <;> decide
theorem zWhy_eq {z y : Nat → Nat} (h : y 116 = z 116) (kind n : Nat) : zWhy y kind n = zWhy z kind n := by
  unfold zWhy
  rw [h]
theorem zI_st1 {z : Nat → Nat} (hz : zI z) : zI (zSt1 z) := zI_kp hz
theorem zSt1_lo {z : Nat → Nat} {j : Nat} (h : j < 141) : zSt1 z j = z j := by
  unfold zSt1
  rw [zKp_lo (by omega), zKp0_lo h]
theorem zI_st2 {z : Nat → Nat} (hz : zI z) : zI (zSt2 z) := ((zI_st1 hz)).upd9 (by omega) (by omega) (by omega) (by omega) (by omega) (by omega) (by omega) (by omega) (fun q hq => by omega) (by omega)
theorem zSt2_lo {z : Nat → Nat} {j : Nat} (h : j < 141) : zSt2 z j = z j := by
  unfold zSt2
  rw [fU_n _ _ (by omega), zSt1_lo h]
theorem zI_st3 {z : Nat → Nat} (hz : zI z) (had : z 114 < 64) : zI (zSt3 z) := by
  have e := zSt2_lo (z := z) (j := 114) (by decide)
  have h2 := zI_st2 hz
  exact (h2).upd9 (by omega) (by omega) (by omega) (by omega) (by omega) (by omega) (by omega) (by omega) (fun q hq => by omega) (by omega)
theorem zI_st4 {z : Nat → Nat} (hz : zI z) (had : z 114 < 64) : zI (zSt4 z) := by
  have h3 := zI_st3 hz had
  have hy := zWhy_le (zSt3 z) (z (zAt z (z 114)) / 100) (z (zAt z (z 114)) % 100)
  exact (h3).upd9 (by omega) (by omega) (by omega) (by omega) (by omega) (by omega) (by omega) (by omega) (fun q hq => by omega) (by omega)
theorem zSt4_115 (z : Nat → Nat) : zSt4 z 115 = zWhy (zSt3 z) (z (zAt z (z 114)) / 100) (z (zAt z (z 114)) % 100) := by
  unfold zSt4
  rw [fU_s]
theorem zSt4_why {z : Nat → Nat} (h : zSt4 z 115 = 0) : zWhy (zSt4 z) (z (zAt z (z 114)) / 100) (z (zAt z (z 114)) % 100) = 0 := by
  rw [zSt4_115] at h
  rw [zWhy_eq (z := zSt3 z) (by unfold zSt4; rw [fU_n _ _ (by omega)]), h]
theorem zI_num {z : Nat → Nat} (hz : zI z) (had : z 114 < 64) : z (zAt z (z 114)) ≤ 999 := hz.1 _ (hz.at had)
theorem zI_st5 {z : Nat → Nat} (hz : zI z) (had : z 114 < 64) : zI (zSt5 z) := by
  have h4 := zI_st4 hz had
  have hn := zI_num hz had
  unfold zSt5
  by_cases c : zSt4 z 115 = 0
  · rw [if_pos c]
    exact zI_ord h4 (by omega) (by omega) (by omega) (zSt4_why c)
  · rw [if_neg c]
    exact h4
theorem zI_step {z : Nat → Nat} (hz : zI z) (had : z 114 < 64) : zI (zStep z) := by
  have h5 := zI_st5 hz had
  unfold zStep
  by_cases c : zSt5 z 115 = 0 ∧ zSt5 z 114 = 64
  · rw [if_pos c]
    exact (h5).upd9 (by omega) (by omega) (by omega) (by omega) (by omega) (by omega) (by omega) (by omega) (fun q hq => by omega) (by omega)
  · rw [if_neg c]
    exact h5
/-- a machine that runs stands in the windows -/
def zG (z : Nat → Nat) : Prop := z 115 = 0 → z 114 < 64
theorem zG_step {z : Nat → Nat} (hz : zI z) (had : z 114 < 64) : zG (zStep z) := by
  have h5 := (zI_st5 hz had).2.2.2.2.2.1
  unfold zG zStep
  by_cases c : zSt5 z 115 = 0 ∧ zSt5 z 114 = 64
  · rw [if_pos c, fU_s]
    intro h
    cases h
  · rw [if_neg c]
    intro h
    omega
set_option maxRecDepth 100000 in
set_option maxHeartbeats 4000000 in
/-- step -/
theorem c_X9_step (l : Launch) {X : gX} (hI : gInj X) {mem : gM} {f z a o k t r : Nat → Nat} (hz : zI z) (had : z 114 < 64) : gF l yX9_step cX9_step 5 none 4 87 X [.ref (gAd X 8 0)] (gM8 mem f z a o k t r) none (gM8 mem f (zStep z) a o k t r) := by
  refine gMt.of (own := RX9) (by decide) rfl hI (by simp [Value.category]) (Nat.le_of_ble_eq_true rfl) ?_
  intro p e s m args below meth c ls H locs C hnm hl hR hS
  have hn := zI_num hz had
  have h1 := zI_st1 hz
  have h2 := zI_st2 hz
  have h3 := zI_st3 hz had
  have h4 := zI_st4 hz had
  have h5 := zI_st5 hz had
  have b4 := h4.2.2.2.2.2.2.1
  have b5 := h5.2.2.2.2.2.2.1
  have p5 := h5.2.2.2.2.2.1
  have hat := hz.at had
  refine g_aload_n C hl dX9_step_0 rfl ?_
  refine gt_X9_0 C hR fl_X9_7 dX9_step_1 ?_
  refine g_bipush 114 C dX9_step_4 (by decide) ?_
  refine r_ald1 C hR (by omega) dX9_step_6 ?_
  refine g_istore_n C hl dX9_step_7 (Nat.le_of_ble_eq_true rfl) (fun ls hl => ?_)
  refine g_aload_n C hl dX9_step_8 rfl ?_
  refine gt_X9_0 C hR fl_X9_7 dX9_step_9 ?_
  refine g_aload_n C hl dX9_step_12 rfl ?_
  refine g_iload_n C hl dX9_step_13 rfl ?_
  refine g_callVi C hl.1 hR hS rc_X9 md_X9_indexAt ml_X9_71 (c_X9_indexAt l hI hz had) rfl rfl ⟨Nat.le_of_ble_eq_true rfl, Nat.le_of_ble_eq_true rfl⟩ ⟨Nat.le_refl _, Nat.le_refl _⟩ (Nat.le_of_ble_eq_true rfl) dX9_step_14 (fun H locs hR hS => ?_)
  refine r_ald1 C hR (by omega) dX9_step_17 ?_
  refine g_istore_n C hl dX9_step_18 (Nat.le_of_ble_eq_true rfl) (fun ls hl => ?_)
  refine g_iload_n C hl dX9_step_19 rfl ?_
  refine g_bipush 100 C dX9_step_20 (by decide) ?_
  refine g_idiv C dX9_step_22 (by omega) (by decide) (by decide) ?_
  refine g_istore_n C hl dX9_step_23 (Nat.le_of_ble_eq_true rfl) (fun ls hl => ?_)
  refine g_iload_n C hl dX9_step_24 rfl ?_
  refine g_bipush 100 C dX9_step_25 (by decide) ?_
  refine g_irem C dX9_step_27 (by omega) (by decide) (by decide) ?_
  refine g_istore C hl dX9_step_28 (Nat.le_of_ble_eq_true rfl) (fun ls hl => ?_)
  refine g_aload_n C hl dX9_step_30 rfl ?_
  refine g_iload_n C hl dX9_step_31 rfl ?_
  refine g_iload_n C hl dX9_step_32 rfl ?_
  refine g_callVv C hl.1 hR hS rc_X9 md_X9_keepStep ml_X9_88 (c_X9_keepStep l hI hz had) rfl rfl ⟨Nat.le_of_ble_eq_true rfl, Nat.le_of_ble_eq_true rfl⟩ ⟨Nat.le_refl _, Nat.le_refl _⟩ (Nat.le_of_ble_eq_true rfl) dX9_step_33 (fun H locs hR hS => ?_)
  have hR : gRep X (gM8 mem f (zSt1 z) a o k t r) H := hR
  refine g_aload_n C hl dX9_step_36 rfl ?_
  refine gt_X9_0 C hR fl_X9_7 dX9_step_37 ?_
  refine g_sipush 178 C dX9_step_40 (by decide) ?_
  refine g_dup2 C dX9_step_43 rfl rfl ?_
  refine r_ald1 C hR (by omega) dX9_step_44 ?_
  refine g_iconst 1 C dX9_step_45 (by decide) ?_
  refine g_iadd C dX9_step_46 ?_
  refine r_ast1 C hR hS (by omega) dX9_step_47 (fun H locs hR hS => ?_)
  have hR : gRep X (gM8 mem f (zSt2 z) a o k t r) H := hR
  refine g_aload_n C hl dX9_step_48 rfl ?_
  refine gt_X9_0 C hR fl_X9_7 dX9_step_49 ?_
  refine g_bipush 114 C dX9_step_52 (by decide) ?_
  refine g_dup2 C dX9_step_54 rfl rfl ?_
  refine r_ald1 C hR (by omega) dX9_step_55 ?_
  refine g_iconst 1 C dX9_step_56 (by decide) ?_
  refine g_iadd C dX9_step_57 ?_
  refine r_ast1 C hR hS (by omega) dX9_step_58 (fun H locs hR hS => ?_)
  have hR : gRep X (gM8 mem f (zSt3 z) a o k t r) H := hR
  refine g_aload_n C hl dX9_step_59 rfl ?_
  refine gt_X9_0 C hR fl_X9_7 dX9_step_60 ?_
  refine g_bipush 115 C dX9_step_63 (by decide) ?_
  refine g_aload_n C hl dX9_step_65 rfl ?_
  refine g_iload_n C hl dX9_step_66 rfl ?_
  refine g_iload C hl dX9_step_67 rfl ?_
  refine g_callVi C hl.1 hR hS rc_X9 md_X9_whyNot ml_X9_91 (c_X9_whyNot l hI h3 (by omega) (by omega)) rfl rfl ⟨Nat.le_of_ble_eq_true rfl, Nat.le_of_ble_eq_true rfl⟩ ⟨Nat.le_refl _, Nat.le_refl _⟩ (Nat.le_of_ble_eq_true rfl) dX9_step_69 (fun H locs hR hS => ?_)
  refine r_ast1 C hR hS (by omega) dX9_step_72 (fun H locs hR hS => ?_)
  have hR : gRep X (gM8 mem f (zSt4 z) a o k t r) H := hR
  refine g_aload_n C hl dX9_step_73 rfl ?_
  refine gt_X9_0 C hR fl_X9_7 dX9_step_74 ?_
  refine g_bipush 115 C dX9_step_77 (by decide) ?_
  refine r_ald1 C hR (by omega) dX9_step_79 ?_
  refine g_if_ne (tgt := 94) C dX9_step_80 (by decide) (by omega) (fun c80 => ?_) (fun c80 => ?_)
  · -- 80 T
    refine g_aload_n C hl dX9_step_94 rfl ?_
    refine gt_X9_0 C hR fl_X9_7 dX9_step_95 ?_
    refine g_bipush 115 C dX9_step_98 (by decide) ?_
    refine r_ald1 C hR (by omega) dX9_step_100 ?_
    refine g_if_ne (tgt := 125) C dX9_step_101 (by decide) (by omega) (fun c101 => ?_) (fun z9 => absurd z9 (by omega))
    refine g_vret C hR hS dX9_step_125 ?_
    refine ⟨rfl, ?_⟩
    have e5 : zSt5 z = zSt4 z := if_neg c80
    have e6 : zStep z = zSt4 z := by unfold zStep; rw [e5, if_neg (by omega)]
    rw [e6]
  · -- 80 F
    refine g_aload_n C hl dX9_step_83 rfl ?_
    refine g_iload_n C hl dX9_step_84 rfl ?_
    refine g_iload C hl dX9_step_85 rfl ?_
    refine g_iload_n C hl dX9_step_87 rfl ?_
    refine g_bipush 16 C dX9_step_88 (by decide) ?_
    refine g_idiv C dX9_step_90 (by omega) (by decide) (by decide) ?_
    refine g_callVv C hl.1 hR hS rc_X9 md_X9_order ml_X9_94 (c_X9_order l hI h4 (by omega) (by omega) (by omega) (zSt4_why c80)) rfl rfl ⟨Nat.le_of_ble_eq_true rfl, Nat.le_of_ble_eq_true rfl⟩ ⟨Nat.le_refl _, Nat.le_refl _⟩ (Nat.le_of_ble_eq_true rfl) dX9_step_91 (fun H locs hR hS => ?_)
    have e5 : zOrd (zSt4 z) (z (zAt z (z 114)) / 100) (z (zAt z (z 114)) % 100) (z 114 / 16) = zSt5 z := (if_pos c80).symm
    rw [e5] at hR
    refine g_aload_n C hl dX9_step_94 rfl ?_
    refine gt_X9_0 C hR fl_X9_7 dX9_step_95 ?_
    refine g_bipush 115 C dX9_step_98 (by decide) ?_
    refine r_ald1 C hR (by omega) dX9_step_100 ?_
    refine g_if_ne (tgt := 125) C dX9_step_101 (by decide) (by omega) (fun c101 => ?_) (fun c101 => ?_)
    · -- 101 T
      refine g_vret C hR hS dX9_step_125 ?_
      refine ⟨rfl, ?_⟩
      have e6 : zStep z = zSt5 z := by unfold zStep; rw [if_neg (by omega)]
      rw [e6]
    · -- 101 F
      refine g_aload_n C hl dX9_step_104 rfl ?_
      refine gt_X9_0 C hR fl_X9_7 dX9_step_105 ?_
      refine g_bipush 114 C dX9_step_108 (by decide) ?_
      refine r_ald1 C hR (by omega) dX9_step_110 ?_
      refine g_bipush 64 C dX9_step_111 (by decide) ?_
      refine g_icmp_ne (tgt := 125) C dX9_step_113 (by decide) (by omega) (by omega) (fun c113 => ?_) (fun c113 => ?_)
      · -- 113 T
        refine g_vret C hR hS dX9_step_125 ?_
        refine ⟨rfl, ?_⟩
        have e6 : zStep z = zSt5 z := by unfold zStep; rw [if_neg (by omega)]
        rw [e6]
      · -- 113 F
        refine g_aload_n C hl dX9_step_116 rfl ?_
        refine gt_X9_0 C hR fl_X9_7 dX9_step_117 ?_
        refine g_bipush 115 C dX9_step_120 (by decide) ?_
        refine g_bipush 6 C dX9_step_122 (by decide) ?_
        refine r_ast1 C hR hS (by omega) dX9_step_124 (fun H locs hR hS => ?_)
        refine g_vret C hR hS dX9_step_125 ?_
        refine ⟨rfl, ?_⟩
        have e6 : zStep z = fU (zSt5 z) 115 6 := by unfold zStep; rw [if_pos ⟨c101, c113⟩]
        rw [e6]
/-- some steps, as long as it runs; and how many -/
def zRun (z : Nat → Nat) : Nat → (Nat → Nat)
  | 0 => z
  | n + 1 => if zRun z n 115 = 0 then zStep (zRun z n) else zRun z n
def zTk (z : Nat → Nat) : Nat → Nat
  | 0 => 0
  | n + 1 => if zRun z n 115 = 0 then n + 1 else zTk z n
theorem zRun_I {z : Nat → Nat} (hz : zI z) (hg : zG z) : ∀ n, zI (zRun z n) ∧ zG (zRun z n)
  | 0 => ⟨hz, hg⟩
  | n + 1 => by
    obtain ⟨h1, h2⟩ := zRun_I hz hg n
    show zI (if zRun z n 115 = 0 then zStep (zRun z n) else zRun z n) ∧ zG (if zRun z n 115 = 0 then zStep (zRun z n) else zRun z n)
    by_cases c : zRun z n 115 = 0
    · rw [if_pos c]
      exact ⟨zI_step h1 (h2 c), zG_step h1 (h2 c)⟩
    · rw [if_neg c]
      exact ⟨h1, h2⟩
theorem zRun_stop {z : Nat → Nat} {i : Nat} (h : ¬ zRun z i 115 = 0) : ∀ d, zRun z (i + d) = zRun z i ∧ zTk z (i + d) = zTk z i
  | 0 => ⟨rfl, rfl⟩
  | d + 1 => by
    obtain ⟨h1, h2⟩ := zRun_stop h d
    show (if zRun z (i + d) 115 = 0 then zStep (zRun z (i + d)) else zRun z (i + d)) = zRun z i ∧ (if zRun z (i + d) 115 = 0 then i + d + 1 else zTk z (i + d)) = zTk z i
    rw [h1, if_neg h, if_neg h]
    exact ⟨rfl, h2⟩
theorem zTk_run {z : Nat → Nat} : ∀ i, zRun z i 115 = 0 → zTk z i = i
  | 0, _ => rfl
  | i + 1, h => by
    show (if zRun z i 115 = 0 then i + 1 else zTk z i) = i + 1
    by_cases c : zRun z i 115 = 0
    · rw [if_pos c]
    · have e : zRun z (i + 1) = zRun z i := (zRun_stop c 1).1
      rw [e] at h
      exact absurd h c
theorem zTk_le {z : Nat → Nat} : ∀ i, zTk z i ≤ i
  | 0 => Nat.le_refl _
  | i + 1 => by
    have h := zTk_le (z := z) i
    show (if zRun z i 115 = 0 then i + 1 else zTk z i) ≤ i + 1
    split <;> omega
set_option maxRecDepth 100000 in
set_option maxHeartbeats 4000000 in
/-- doRun -/
theorem c_X9_doRun (l : Launch) {X : gX} (hI : gInj X) {mem : gM} {f z a o k t r : Nat → Nat} {n : Nat} (hz : zI z) (hg : zG z) (hn : n < 2000) : gF l yX9_doRun cX9_doRun 3 (some .int) 5 111 X [.ref (gAd X 8 0), .int (nI n)] (gM8 mem f z a o k t r) (some (.int (nI (zTk z n)))) (gM8 mem f (zRun z n) a o k t r) := by
  refine gMt.of (own := RX9) (by decide) rfl hI (by simp [Value.category]) (Nat.le_of_ble_eq_true rfl) ?_
  intro p e s m args below meth c ls H locs C hnm hl hR hS
  have loop : ∀ (d i : Nat), i + d = n → zTk z i = i → ∀ (ls : Array Slot) (H : Heap) (locs : List Loc), gL ls [some (.ref (gAd X 8 0)), some (.int (nI n)), some (.int (nI i))] → gRep X (gM8 mem f (zRun z i) a o k t r) H → va_S (gA X) s.heap H locs → W p l e { frames := 5, cells := 0, slots := 0, locals := 111 } s m args below meth c H locs 0 0 (MQ below (gQ X (fun v m => v = some (.int (nI (zTk z n))) ∧ m = gM8 mem f (zRun z n) a o k t r)) args s 0 0 (gA X)) (F0 m 2 ls []) := by
    intro d
    induction d with
    | zero =>
      intro i hi ht ls H locs hl hR hS
      have hi2 : i = n := by omega
      subst hi2
      refine g_iload_n C hl dX9_doRun_2 rfl ?_
      refine g_iload_n C hl dX9_doRun_3 rfl ?_
      refine g_icmp_ge (tgt := 27) C dX9_doRun_4 (by decide) (by omega) (by omega) (fun c4 => ?_) (fun z9 => absurd z9 (by omega))
      refine g_iload_n C hl dX9_doRun_27 rfl ?_
      refine g_iret C hR hS dX9_doRun_28 ?_
      refine ⟨?_, rfl⟩
      rw [ht]
    | succ d ih =>
      intro i hi ht ls H locs hl hR hS
      obtain ⟨hzi, hgi⟩ := zRun_I hz hg i
      have b5 := hzi.2.2.2.2.2.2.1
      refine g_iload_n C hl dX9_doRun_2 rfl ?_
      refine g_iload_n C hl dX9_doRun_3 rfl ?_
      refine g_icmp_ge (tgt := 27) C dX9_doRun_4 (by decide) (by omega) (by omega) (fun z9 => absurd z9 (by omega)) (fun c4 => ?_)
      refine g_aload_n C hl dX9_doRun_7 rfl ?_
      refine gt_X9_0 C hR fl_X9_7 dX9_doRun_8 ?_
      refine g_bipush 115 C dX9_doRun_11 (by decide) ?_
      refine r_ald1 C hR (by omega) dX9_doRun_13 ?_
      refine g_if_ne (tgt := 27) C dX9_doRun_14 (by decide) (by omega) (fun c14 => ?_) (fun c14 => ?_)
      · -- 14 T
        refine g_iload_n C hl dX9_doRun_27 rfl ?_
        refine g_iret C hR hS dX9_doRun_28 ?_
        obtain ⟨e1, e2⟩ := zRun_stop c14 (n - i)
        rw [show i + (n - i) = n by omega] at e1 e2
        rw [e1, e2, ht]
        exact ⟨rfl, rfl⟩
      · -- 14 F
        refine g_aload_n C hl dX9_doRun_17 rfl ?_
        refine g_callVv C hl.1 hR hS rc_X9 md_X9_step ml_X9_98 (c_X9_step l hI hzi (hgi c14)) rfl rfl ⟨Nat.le_of_ble_eq_true rfl, Nat.le_of_ble_eq_true rfl⟩ ⟨Nat.le_refl _, Nat.le_refl _⟩ (Nat.le_of_ble_eq_true rfl) dX9_doRun_18 (fun H locs hR hS => ?_)
        refine g_iinc (k := 1) C hl dX9_doRun_21 rfl (by decide) (fun ls hl => ?_)
        refine g_goto (tgt := 2) C dX9_doRun_24 (by decide) ?_
        have e1 : zRun z (i + 1) = zStep (zRun z i) := if_pos c14
        have e2 : zTk z (i + 1) = i + 1 := if_pos c14
        exact ih (i + 1) (by omega) e2 ls H locs hl (by rw [e1]; exact hR) hS
  refine g_iconst 0 C dX9_doRun_0 (by decide) ?_
  refine g_istore_n C hl dX9_doRun_1 (Nat.le_of_ble_eq_true rfl) (fun ls hl => ?_)
  exact loop n 0 (by omega) rfl _ _ _ hl hR hS
end
section
/-! ===== the reference: rows copied, records, what is told ===== -/
def cpF (src dst : Nat → Nat) (s d n : Nat) : Nat → Nat := fun j => if d ≤ j ∧ j < d + n then src (s + (j - d)) else dst j
theorem cpF_0 (src dst : Nat → Nat) (s d : Nat) : cpF src dst s d 0 = dst := by
  funext j
  unfold cpF
  rw [if_neg (by omega)]
theorem cpF_s (src dst : Nat → Nat) (s d i : Nat) : fU (cpF src dst s d i) (d + i) (src (s + i)) = cpF src dst s d (i + 1) := by
  funext j
  unfold cpF fU
  by_cases e : j = d + i
  · rw [if_pos e, if_pos (by omega), e, show d + i - d = i by omega]
  · rw [if_neg e]
    dsimp only
    by_cases g : d ≤ j ∧ j < d + i
    · rw [if_pos g, if_pos (by omega)]
    · rw [if_neg g, if_neg (by omega)]
theorem cpF_in {src dst : Nat → Nat} {s d n j : Nat} (h : d ≤ j) (h2 : j < d + n) : cpF src dst s d n j = src (s + (j - d)) := by
  unfold cpF
  rw [if_pos ⟨h, h2⟩]
theorem cpF_out {src dst : Nat → Nat} {s d n j : Nat} (h : ¬ (d ≤ j ∧ j < d + n)) : cpF src dst s d n j = dst j := by
  unfold cpF
  rw [if_neg h]
def shF (o : Nat → Nat) (i : Nat) : Nat → Nat := fun j => if j < i then o (198 + j) else o j
theorem shF_0 (o : Nat → Nat) : shF o 0 = o := by
  funext j
  unfold shF
  rw [if_neg (by omega)]
theorem shF_s (o : Nat → Nat) (i : Nat) : fU (shF o i) i (shF o i (198 + i)) = shF o (i + 1) := by
  funext j
  unfold shF fU
  by_cases e : j = i
  · rw [if_pos e, if_neg (show ¬ 198 + i < i by omega), if_pos (by omega), e]
  · rw [if_neg e]
    dsimp only
    by_cases g : j < i
    · rw [if_pos g, if_pos (by omega)]
    · rw [if_neg g, if_neg (by omega)]
def rN (n : Nat) : Nat := if n = 4 then 4 else n + 1
def oRec (n : Nat) (o z : Nat → Nat) : Nat → Nat := if n = 4 then cpF z (shF o 594) 0 594 198 else cpF z o 0 (198 * n) 198
set_option maxRecDepth 100000 in
set_option maxHeartbeats 4000000 in
/-- X9_putAside -/
theorem c_X9_putAside (l : Launch) {X : gX} (hI : gInj X) {mem : gM} {f z a o k t r : Nat → Nat} : gF l yX9_putAside cX9_putAside 2 none 0 0 X [.ref (gAd X 8 0)] (gM8 mem f z a o k t r) none (gM8 mem f z z o k t r) := by
  refine gMt.of (own := RX9) (by decide) rfl hI (by simp [Value.category]) (Nat.le_of_ble_eq_true rfl) ?_
  intro p e s m args below meth c ls H locs C hnm hl hR hS
  have loop : ∀ (d i : Nat), i + d = 198 → ∀ (ls : Array Slot) (H : Heap) (locs : List Loc), gL ls [some (.ref (gAd X 8 0)), some (.int (nI i))] → gRep X (gM8 mem f z (cpF z a 0 0 i) o k t r) H → va_S (gA X) s.heap H locs → W p l e { frames := 0, cells := 0, slots := 0, locals := 0 } s m args below meth c H locs 0 0 (MQ below (gQ X (fun v m => v = none ∧ m = gM8 mem f z z o k t r)) args s 0 0 (gA X)) (F0 m 2 ls []) := by
    intro d
    induction d with
    | zero =>
      intro i hi  ls H locs  hl hR hS
      have hi2 : i = 198 := by omega
      subst hi2
      refine g_iload_n C hl dX9_putAside_2 rfl ?_
      refine g_sipush 198 C dX9_putAside_3 (by decide) ?_
      refine g_icmp_ge (tgt := 27) C dX9_putAside_6 (by decide) (by omega) (by omega) (fun c6 => ?_) (fun z9 => absurd z9 (by omega))
      have hR := r_arr2 (g := z) hR (fun j hj => by rw [cpF_in (by omega) (by omega), Nat.zero_add, Nat.sub_zero])
      refine g_vret C hR hS dX9_putAside_27 ?_
      exact ⟨rfl, rfl⟩
    | succ d ih =>
      intro i hi  ls H locs  hl hR hS
      refine g_iload_n C hl dX9_putAside_2 rfl ?_
      refine g_sipush 198 C dX9_putAside_3 (by decide) ?_
      refine g_icmp_ge (tgt := 27) C dX9_putAside_6 (by decide) (by omega) (by omega) (fun z9 => absurd z9 (by omega)) (fun c6 => ?_)
      refine g_aload_n C hl dX9_putAside_9 rfl ?_
      refine gt_X9_1 C hR fl_X9_13 dX9_putAside_10 ?_
      refine g_iload_n C hl dX9_putAside_13 rfl ?_
      refine g_aload_n C hl dX9_putAside_14 rfl ?_
      refine gt_X9_0 C hR fl_X9_7 dX9_putAside_15 ?_
      refine g_iload_n C hl dX9_putAside_18 rfl ?_
      refine r_ald1 C hR (by omega) dX9_putAside_19 ?_
      refine r_ast2 C hR hS (by omega) dX9_putAside_20 (fun H locs hR hS => ?_)
      refine g_iinc (k := 1) C hl dX9_putAside_21 rfl (by decide) (fun ls hl => ?_)
      refine g_goto (tgt := 2) C dX9_putAside_24 (by decide) ?_
      refine ih (i + 1) (by omega)  ls H locs hl ?_ hS
      rw [← cpF_s, Nat.zero_add]
      exact hR
  refine g_iconst 0 C dX9_putAside_0 (by decide) ?_
  refine g_istore_n C hl dX9_putAside_1 (Nat.le_of_ble_eq_true rfl) (fun ls hl => ?_)
  exact loop 198 0 (by omega) _ _ _ hl (by rw [cpF_0]; exact hR) hS
set_option maxRecDepth 100000 in
set_option maxHeartbeats 4000000 in
/-- X9_putBack -/
theorem c_X9_putBack (l : Launch) {X : gX} (hI : gInj X) {mem : gM} {f z a o k t r : Nat → Nat} : gF l yX9_putBack cX9_putBack 2 none 0 0 X [.ref (gAd X 8 0)] (gM8 mem f z a o k t r) none (gM8 mem f a a o k t r) := by
  refine gMt.of (own := RX9) (by decide) rfl hI (by simp [Value.category]) (Nat.le_of_ble_eq_true rfl) ?_
  intro p e s m args below meth c ls H locs C hnm hl hR hS
  have loop : ∀ (d i : Nat), i + d = 198 → ∀ (ls : Array Slot) (H : Heap) (locs : List Loc), gL ls [some (.ref (gAd X 8 0)), some (.int (nI i))] → gRep X (gM8 mem f (cpF a z 0 0 i) a o k t r) H → va_S (gA X) s.heap H locs → W p l e { frames := 0, cells := 0, slots := 0, locals := 0 } s m args below meth c H locs 0 0 (MQ below (gQ X (fun v m => v = none ∧ m = gM8 mem f a a o k t r)) args s 0 0 (gA X)) (F0 m 2 ls []) := by
    intro d
    induction d with
    | zero =>
      intro i hi  ls H locs  hl hR hS
      have hi2 : i = 198 := by omega
      subst hi2
      refine g_iload_n C hl dX9_putBack_2 rfl ?_
      refine g_sipush 198 C dX9_putBack_3 (by decide) ?_
      refine g_icmp_ge (tgt := 27) C dX9_putBack_6 (by decide) (by omega) (by omega) (fun c6 => ?_) (fun z9 => absurd z9 (by omega))
      have hR := r_arr1 (g := a) hR (fun j hj => by rw [cpF_in (by omega) (by omega), Nat.zero_add, Nat.sub_zero])
      refine g_vret C hR hS dX9_putBack_27 ?_
      exact ⟨rfl, rfl⟩
    | succ d ih =>
      intro i hi  ls H locs  hl hR hS
      refine g_iload_n C hl dX9_putBack_2 rfl ?_
      refine g_sipush 198 C dX9_putBack_3 (by decide) ?_
      refine g_icmp_ge (tgt := 27) C dX9_putBack_6 (by decide) (by omega) (by omega) (fun z9 => absurd z9 (by omega)) (fun c6 => ?_)
      refine g_aload_n C hl dX9_putBack_9 rfl ?_
      refine gt_X9_0 C hR fl_X9_7 dX9_putBack_10 ?_
      refine g_iload_n C hl dX9_putBack_13 rfl ?_
      refine g_aload_n C hl dX9_putBack_14 rfl ?_
      refine gt_X9_1 C hR fl_X9_13 dX9_putBack_15 ?_
      refine g_iload_n C hl dX9_putBack_18 rfl ?_
      refine r_ald2 C hR (by omega) dX9_putBack_19 ?_
      refine r_ast1 C hR hS (by omega) dX9_putBack_20 (fun H locs hR hS => ?_)
      refine g_iinc (k := 1) C hl dX9_putBack_21 rfl (by decide) (fun ls hl => ?_)
      refine g_goto (tgt := 2) C dX9_putBack_24 (by decide) ?_
      refine ih (i + 1) (by omega)  ls H locs hl ?_ hS
      rw [← cpF_s, Nat.zero_add]
      exact hR
  refine g_iconst 0 C dX9_putBack_0 (by decide) ?_
  refine g_istore_n C hl dX9_putBack_1 (Nat.le_of_ble_eq_true rfl) (fun ls hl => ?_)
  exact loop 198 0 (by omega) _ _ _ hl (by rw [cpF_0]; exact hR) hS
set_option maxRecDepth 100000 in
set_option maxHeartbeats 4000000 in
/-- X9_record -/
theorem c_X9_record (l : Launch) {X : gX} (hI : gInj X) {mem : gM} {f z a o k t r : Nat → Nat} (h4 : f 3 ≤ 4) : gF l yX9_record cX9_record 2 none 0 0 X [.ref (gAd X 8 0)] (gM8 mem f z a o k t r) none (gM8 mem (fU f 3 (rN (f 3))) z a (oRec (f 3) o z) k t r) := by
  refine gMt.of (own := RX9) (by decide) rfl hI (by simp [Value.category]) (Nat.le_of_ble_eq_true rfl) ?_
  intro p e s m args below meth c ls H locs C hnm hl hR hS
  have loop4 : ∀ (d i : Nat), i + d = 198 → (f 3 = 4) → ∀ (ls : Array Slot) (H : Heap) (locs : List Loc), gL ls [some (.ref (gAd X 8 0)), some (.int (nI i))] → gRep X (gM8 mem (fU f 3 3) z a (cpF z (shF o 594) 0 (198 * 3) i) k t r) H → va_S (gA X) s.heap H locs → W p l e { frames := 0, cells := 0, slots := 0, locals := 0 } s m args below meth c H locs 0 0 (MQ below (gQ X (fun v m => v = none ∧ m = gM8 mem (fU f 3 (rN (f 3))) z a (oRec (f 3) o z) k t r)) args s 0 0 (gA X)) (F0 m 51 ls []) := by
    intro d
    induction d with
    | zero =>
      intro i hi c5 ls H locs  hl hR hS
      have hi2 : i = 198 := by omega
      subst hi2
      refine g_iload_n C hl dX9_record_51 rfl ?_
      refine g_sipush 198 C dX9_record_52 (by decide) ?_
      refine g_icmp_ge (tgt := 85) C dX9_record_55 (by decide) (by omega) (by omega) (fun c55 => ?_) (fun z9 => absurd z9 (by omega))
      refine g_aload_n C hl dX9_record_85 rfl ?_
      refine g_dup C dX9_record_86 rfl ?_
      refine rt_3 C hR fl_X9_40 dX9_record_87 ?_
      rw [fU_s]
      refine g_iconst 1 C dX9_record_90 (by decide) ?_
      refine g_iadd C dX9_record_91 ?_
      refine rp_3 C hR hS fl_X9_40 dX9_record_92 (fun H locs hR hS => ?_)
      refine g_vret C hR hS dX9_record_95 ?_
      refine ⟨rfl, ?_⟩
      rw [fU_u]
      unfold rN oRec
      rw [if_pos c5, if_pos c5]
    | succ d ih =>
      intro i hi c5 ls H locs  hl hR hS
      refine g_iload_n C hl dX9_record_51 rfl ?_
      refine g_sipush 198 C dX9_record_52 (by decide) ?_
      refine g_icmp_ge (tgt := 85) C dX9_record_55 (by decide) (by omega) (by omega) (fun z9 => absurd z9 (by omega)) (fun c55 => ?_)
      refine g_aload_n C hl dX9_record_58 rfl ?_
      refine gt_X9_2 C hR fl_X9_16 dX9_record_59 ?_
      refine g_sipush 198 C dX9_record_62 (by decide) ?_
      refine g_aload_n C hl dX9_record_65 rfl ?_
      refine rt_3 C hR fl_X9_40 dX9_record_66 ?_
      rw [fU_s]
      refine g_imul C dX9_record_69 ?_
      refine g_iload_n C hl dX9_record_70 rfl ?_
      refine g_iadd C dX9_record_71 ?_
      refine g_aload_n C hl dX9_record_72 rfl ?_
      refine gt_X9_0 C hR fl_X9_7 dX9_record_73 ?_
      refine g_iload_n C hl dX9_record_76 rfl ?_
      refine r_ald1 C hR (by omega) dX9_record_77 ?_
      refine r_ast3 C hR hS (by omega) dX9_record_78 (fun H locs hR hS => ?_)
      refine g_iinc (k := 1) C hl dX9_record_79 rfl (by decide) (fun ls hl => ?_)
      refine g_goto (tgt := 51) C dX9_record_82 (by decide) ?_
      refine ih (i + 1) (by omega) c5 ls H locs hl ?_ hS
      rw [← cpF_s, Nat.zero_add]
      exact hR
  have loopn : ∀ (d i : Nat), i + d = 198 → (¬ f 3 = 4) → ∀ (ls : Array Slot) (H : Heap) (locs : List Loc), gL ls [some (.ref (gAd X 8 0)), some (.int (nI i))] → gRep X (gM8 mem f z a (cpF z (o) 0 (198 * f 3) i) k t r) H → va_S (gA X) s.heap H locs → W p l e { frames := 0, cells := 0, slots := 0, locals := 0 } s m args below meth c H locs 0 0 (MQ below (gQ X (fun v m => v = none ∧ m = gM8 mem (fU f 3 (rN (f 3))) z a (oRec (f 3) o z) k t r)) args s 0 0 (gA X)) (F0 m 51 ls []) := by
    intro d
    induction d with
    | zero =>
      intro i hi c5 ls H locs  hl hR hS
      have hi2 : i = 198 := by omega
      subst hi2
      refine g_iload_n C hl dX9_record_51 rfl ?_
      refine g_sipush 198 C dX9_record_52 (by decide) ?_
      refine g_icmp_ge (tgt := 85) C dX9_record_55 (by decide) (by omega) (by omega) (fun c55 => ?_) (fun z9 => absurd z9 (by omega))
      refine g_aload_n C hl dX9_record_85 rfl ?_
      refine g_dup C dX9_record_86 rfl ?_
      refine rt_3 C hR fl_X9_40 dX9_record_87 ?_
      refine g_iconst 1 C dX9_record_90 (by decide) ?_
      refine g_iadd C dX9_record_91 ?_
      refine rp_3 C hR hS fl_X9_40 dX9_record_92 (fun H locs hR hS => ?_)
      refine g_vret C hR hS dX9_record_95 ?_
      refine ⟨rfl, ?_⟩
      unfold rN oRec
      rw [if_neg c5, if_neg c5]
    | succ d ih =>
      intro i hi c5 ls H locs  hl hR hS
      refine g_iload_n C hl dX9_record_51 rfl ?_
      refine g_sipush 198 C dX9_record_52 (by decide) ?_
      refine g_icmp_ge (tgt := 85) C dX9_record_55 (by decide) (by omega) (by omega) (fun z9 => absurd z9 (by omega)) (fun c55 => ?_)
      refine g_aload_n C hl dX9_record_58 rfl ?_
      refine gt_X9_2 C hR fl_X9_16 dX9_record_59 ?_
      refine g_sipush 198 C dX9_record_62 (by decide) ?_
      refine g_aload_n C hl dX9_record_65 rfl ?_
      refine rt_3 C hR fl_X9_40 dX9_record_66 ?_
      refine g_imul C dX9_record_69 ?_
      refine g_iload_n C hl dX9_record_70 rfl ?_
      refine g_iadd C dX9_record_71 ?_
      refine g_aload_n C hl dX9_record_72 rfl ?_
      refine gt_X9_0 C hR fl_X9_7 dX9_record_73 ?_
      refine g_iload_n C hl dX9_record_76 rfl ?_
      refine r_ald1 C hR (by omega) dX9_record_77 ?_
      refine r_ast3 C hR hS (by omega) dX9_record_78 (fun H locs hR hS => ?_)
      refine g_iinc (k := 1) C hl dX9_record_79 rfl (by decide) (fun ls hl => ?_)
      refine g_goto (tgt := 51) C dX9_record_82 (by decide) ?_
      refine ih (i + 1) (by omega) c5 ls H locs hl ?_ hS
      rw [← cpF_s, Nat.zero_add]
      exact hR
  have loop1 : ∀ (d i : Nat), i + d = 594 → (f 3 = 4) → ∀ (ls : Array Slot) (H : Heap) (locs : List Loc), gL ls [some (.ref (gAd X 8 0)), some (.int (nI i))] → gRep X (gM8 mem f z a (shF o i) k t r) H → va_S (gA X) s.heap H locs → W p l e { frames := 0, cells := 0, slots := 0, locals := 0 } s m args below meth c H locs 0 0 (MQ below (gQ X (fun v m => v = none ∧ m = gM8 mem (fU f 3 (rN (f 3))) z a (oRec (f 3) o z) k t r)) args s 0 0 (gA X)) (F0 m 10 ls []) := by
    intro d
    induction d with
    | zero =>
      intro i hi c5 ls H locs  hl hR hS
      have hi2 : i = 594 := by omega
      subst hi2
      refine g_iload_n C hl dX9_record_10 rfl ?_
      refine g_sipush 594 C dX9_record_11 (by decide) ?_
      refine g_icmp_ge (tgt := 39) C dX9_record_14 (by decide) (by omega) (by omega) (fun c14 => ?_) (fun z9 => absurd z9 (by omega))
      refine g_aload_n C hl dX9_record_39 rfl ?_
      refine g_dup C dX9_record_40 rfl ?_
      refine rt_3 C hR fl_X9_40 dX9_record_41 ?_
      refine g_iconst 1 C dX9_record_44 (by decide) ?_
      refine g_isub C dX9_record_45 (by omega) ?_
      refine rp_3 C hR hS fl_X9_40 dX9_record_46 (fun H locs hR hS => ?_)
      rw [c5] at hR
      refine g_iconst 0 C dX9_record_49 (by decide) ?_
      refine g_istore_n C hl dX9_record_50 (Nat.le_of_ble_eq_true rfl) (fun ls hl => ?_)
      exact loop4 198 0 (by omega) c5 _ _ _ hl (by rw [cpF_0]; exact hR) hS
    | succ d ih =>
      intro i hi c5 ls H locs  hl hR hS
      refine g_iload_n C hl dX9_record_10 rfl ?_
      refine g_sipush 594 C dX9_record_11 (by decide) ?_
      refine g_icmp_ge (tgt := 39) C dX9_record_14 (by decide) (by omega) (by omega) (fun z9 => absurd z9 (by omega)) (fun c14 => ?_)
      refine g_aload_n C hl dX9_record_17 rfl ?_
      refine gt_X9_2 C hR fl_X9_16 dX9_record_18 ?_
      refine g_iload_n C hl dX9_record_21 rfl ?_
      refine g_aload_n C hl dX9_record_22 rfl ?_
      refine gt_X9_2 C hR fl_X9_16 dX9_record_23 ?_
      refine g_sipush 198 C dX9_record_26 (by decide) ?_
      refine g_iload_n C hl dX9_record_29 rfl ?_
      refine g_iadd C dX9_record_30 ?_
      refine r_ald3 C hR (by omega) dX9_record_31 ?_
      refine r_ast3 C hR hS (by omega) dX9_record_32 (fun H locs hR hS => ?_)
      refine g_iinc (k := 1) C hl dX9_record_33 rfl (by decide) (fun ls hl => ?_)
      refine g_goto (tgt := 10) C dX9_record_36 (by decide) ?_
      refine ih (i + 1) (by omega) c5 ls H locs hl ?_ hS
      rw [← shF_s]
      exact hR
  refine g_aload_n C hl dX9_record_0 rfl ?_
  refine rt_3 C hR fl_X9_40 dX9_record_1 ?_
  refine g_iconst 4 C dX9_record_4 (by decide) ?_
  refine g_icmp_ne (tgt := 49) C dX9_record_5 (by decide) (by omega) (by omega) (fun c5 => ?_) (fun c5 => ?_)
  · -- 5 T
    refine g_iconst 0 C dX9_record_49 (by decide) ?_
    refine g_istore_n C hl dX9_record_50 (Nat.le_of_ble_eq_true rfl) (fun ls hl => ?_)
    exact loopn 198 0 (by omega) c5 _ _ _ hl (by rw [cpF_0]; exact hR) hS
  · -- 5 F
    refine g_iconst 0 C dX9_record_8 (by decide) ?_
    refine g_istore_n C hl dX9_record_9 (Nat.le_of_ble_eq_true rfl) (fun ls hl => ?_)
    exact loop1 594 0 (by omega) c5 _ _ _ hl (by rw [shF_0]; exact hR) hS
theorem gIw_ok {j lo hi : Nat} (h1 : lo ≤ j) (h2 : j ≤ hi) (hh : hi < 2 ^ 31) : gIw (nI j) lo hi = true := (gIw_n (Nat.lt_of_le_of_lt h2 hh)).mpr ⟨h1, h2⟩
def oSl (o : Nat → Nat) (i : Nat) : Nat → Nat := fun j => o (198 * i + j)
set_option maxRecDepth 100000 in
set_option maxHeartbeats 4000000 in
/-- X9_keep -/
theorem c_X9_keep (l : Launch) {X : gX} (hI : gInj X) {mem : gM} {f z a o k t r : Nat → Nat} : gF l yX9_keep cX9_keep 2 (some .int) 0 0 X [.ref (gAd X 8 0)] (gM8 mem f z a o k t r) (some (.int (nI (z 114)))) (gM8 mem (fU f 5 1) z a o z t r) := by
  refine gMt.of (own := RX9) (by decide) rfl hI (by simp [Value.category]) (Nat.le_of_ble_eq_true rfl) ?_
  intro p e s m args below meth c ls H locs C hnm hl hR hS
  have loop : ∀ (d i : Nat), i + d = 198 → ∀ (ls : Array Slot) (H : Heap) (locs : List Loc), gL ls [some (.ref (gAd X 8 0)), some (.int (nI i))] → gRep X (gM8 mem f z a o (cpF z k 0 0 i) t r) H → va_S (gA X) s.heap H locs → W p l e { frames := 0, cells := 0, slots := 0, locals := 0 } s m args below meth c H locs 0 0 (MQ below (gQ X (fun v m => v = some (.int (nI (z 114))) ∧ m = gM8 mem (fU f 5 1) z a o z t r)) args s 0 0 (gA X)) (F0 m 2 ls []) := by
    intro d
    induction d with
    | zero =>
      intro i hi  ls H locs  hl hR hS
      have hi2 : i = 198 := by omega
      subst hi2
      refine g_iload_n C hl dX9_keep_2 rfl ?_
      refine g_sipush 198 C dX9_keep_3 (by decide) ?_
      refine g_icmp_ge (tgt := 27) C dX9_keep_6 (by decide) (by omega) (by omega) (fun c6 => ?_) (fun z9 => absurd z9 (by omega))
      have hR := r_arr4 (g := z) hR (fun j hj => by rw [cpF_in (by omega) (by omega), Nat.zero_add, Nat.sub_zero])
      refine g_aload_n C hl dX9_keep_27 rfl ?_
      refine g_iconst 1 C dX9_keep_28 (by decide) ?_
      refine rp_5 C hR hS (by omega) fl_X9_44 dX9_keep_29 (fun H locs hR hS => ?_)
      refine g_aload_n C hl dX9_keep_32 rfl ?_
      refine gt_X9_0 C hR fl_X9_7 dX9_keep_33 ?_
      refine g_bipush 114 C dX9_keep_36 (by decide) ?_
      refine r_ald1 C hR (by omega) dX9_keep_38 ?_
      refine g_iret C hR hS dX9_keep_39 ?_
      exact ⟨rfl, rfl⟩
    | succ d ih =>
      intro i hi  ls H locs  hl hR hS
      refine g_iload_n C hl dX9_keep_2 rfl ?_
      refine g_sipush 198 C dX9_keep_3 (by decide) ?_
      refine g_icmp_ge (tgt := 27) C dX9_keep_6 (by decide) (by omega) (by omega) (fun z9 => absurd z9 (by omega)) (fun c6 => ?_)
      refine g_aload_n C hl dX9_keep_9 rfl ?_
      refine gt_X9_4 C hR fl_X9_19 dX9_keep_10 ?_
      refine g_iload_n C hl dX9_keep_13 rfl ?_
      refine g_aload_n C hl dX9_keep_14 rfl ?_
      refine gt_X9_0 C hR fl_X9_7 dX9_keep_15 ?_
      refine g_iload_n C hl dX9_keep_18 rfl ?_
      refine r_ald1 C hR (by omega) dX9_keep_19 ?_
      refine r_ast4 C hR hS (by omega) dX9_keep_20 (fun H locs hR hS => ?_)
      refine g_iinc (k := 1) C hl dX9_keep_21 rfl (by decide) (fun ls hl => ?_)
      refine g_goto (tgt := 2) C dX9_keep_24 (by decide) ?_
      refine ih (i + 1) (by omega)  ls H locs hl ?_ hS
      rw [← cpF_s, Nat.zero_add]
      exact hR
  refine g_iconst 0 C dX9_keep_0 (by decide) ?_
  refine g_istore_n C hl dX9_keep_1 (Nat.le_of_ble_eq_true rfl) (fun ls hl => ?_)
  exact loop 198 0 (by omega) _ _ _ hl (by rw [cpF_0]; exact hR) hS
set_option maxRecDepth 100000 in
set_option maxHeartbeats 4000000 in
/-- restore, no snapshot -/
theorem c_X9_restore_0 (l : Launch) {X : gX} (hI : gInj X) {mem : gM} {f z a o k t r : Nat → Nat} (h5 : f 5 = 0) : gF l yX9_restore cX9_restore 2 (some .int) 1 21 X [.ref (gAd X 8 0)] (gM8 mem f z a o k t r) (some (.int (-5))) (gM8 mem f z a o k t r) := by
  refine gMt.of (own := RX9) (by decide) rfl hI (by simp [Value.category]) (Nat.le_of_ble_eq_true rfl) ?_
  intro p e s m args below meth c ls H locs C hnm hl hR hS
  refine g_aload_n C hl dX9_restore_0 rfl ?_
  refine rt_5 C hR fl_X9_44 dX9_restore_1 ?_
  refine g_if_ne (tgt := 10) C dX9_restore_4 (by decide) (by omega) (fun z9 => absurd z9 (by omega)) (fun c4 => ?_)
  refine g_bipushM (-5) C dX9_restore_7 (by decide) ?_
  refine g_iret C hR hS dX9_restore_9 ?_
  exact ⟨rfl, rfl⟩
set_option maxRecDepth 100000 in
set_option maxHeartbeats 4000000 in
/-- restore -/
theorem c_X9_restore_1 (l : Launch) {X : gX} (hI : gInj X) {mem : gM} {f z a o k t r : Nat → Nat} (h5 : f 5 = 1) (h4 : f 3 ≤ 4) : gF l yX9_restore cX9_restore 2 (some .int) 1 21 X [.ref (gAd X 8 0)] (gM8 mem f z a o k t r) (some (.int (nI (k 114)))) (gM8 mem (fU f 3 (rN (f 3))) k a (oRec (f 3) o z) k t r) := by
  refine gMt.of (own := RX9) (by decide) rfl hI (by simp [Value.category]) (Nat.le_of_ble_eq_true rfl) ?_
  intro p e s m args below meth c ls H locs C hnm hl hR hS
  have loop : ∀ (d i : Nat), i + d = 198 → ∀ (ls : Array Slot) (H : Heap) (locs : List Loc), gL ls [some (.ref (gAd X 8 0)), some (.int (nI i))] → gRep X (gM8 mem (fU f 3 (rN (f 3))) (cpF k z 0 0 i) a (oRec (f 3) o z) k t r) H → va_S (gA X) s.heap H locs → W p l e { frames := 1, cells := 0, slots := 0, locals := 21 } s m args below meth c H locs 0 0 (MQ below (gQ X (fun v m => v = some (.int (nI (k 114))) ∧ m = gM8 mem (fU f 3 (rN (f 3))) k a (oRec (f 3) o z) k t r)) args s 0 0 (gA X)) (F0 m 16 ls []) := by
    intro d
    induction d with
    | zero =>
      intro i hi  ls H locs  hl hR hS
      have hi2 : i = 198 := by omega
      subst hi2
      refine g_iload_n C hl dX9_restore_16 rfl ?_
      refine g_sipush 198 C dX9_restore_17 (by decide) ?_
      refine g_icmp_ge (tgt := 41) C dX9_restore_20 (by decide) (by omega) (by omega) (fun c20 => ?_) (fun z9 => absurd z9 (by omega))
      have hR := r_arr1 (g := k) hR (fun j hj => by rw [cpF_in (by omega) (by omega), Nat.zero_add, Nat.sub_zero])
      refine g_aload_n C hl dX9_restore_41 rfl ?_
      refine gt_X9_0 C hR fl_X9_7 dX9_restore_42 ?_
      refine g_bipush 114 C dX9_restore_45 (by decide) ?_
      refine r_ald1 C hR (by omega) dX9_restore_47 ?_
      refine g_iret C hR hS dX9_restore_48 ?_
      exact ⟨rfl, rfl⟩
    | succ d ih =>
      intro i hi  ls H locs  hl hR hS
      refine g_iload_n C hl dX9_restore_16 rfl ?_
      refine g_sipush 198 C dX9_restore_17 (by decide) ?_
      refine g_icmp_ge (tgt := 41) C dX9_restore_20 (by decide) (by omega) (by omega) (fun z9 => absurd z9 (by omega)) (fun c20 => ?_)
      refine g_aload_n C hl dX9_restore_23 rfl ?_
      refine gt_X9_0 C hR fl_X9_7 dX9_restore_24 ?_
      refine g_iload_n C hl dX9_restore_27 rfl ?_
      refine g_aload_n C hl dX9_restore_28 rfl ?_
      refine gt_X9_4 C hR fl_X9_19 dX9_restore_29 ?_
      refine g_iload_n C hl dX9_restore_32 rfl ?_
      refine r_ald4 C hR (by omega) dX9_restore_33 ?_
      refine r_ast1 C hR hS (by omega) dX9_restore_34 (fun H locs hR hS => ?_)
      refine g_iinc (k := 1) C hl dX9_restore_35 rfl (by decide) (fun ls hl => ?_)
      refine g_goto (tgt := 16) C dX9_restore_38 (by decide) ?_
      refine ih (i + 1) (by omega)  ls H locs hl ?_ hS
      rw [← cpF_s, Nat.zero_add]
      exact hR
  refine g_aload_n C hl dX9_restore_0 rfl ?_
  refine rt_5 C hR fl_X9_44 dX9_restore_1 ?_
  refine g_if_ne (tgt := 10) C dX9_restore_4 (by decide) (by omega) (fun c4 => ?_) (fun z9 => absurd z9 (by omega))
  refine g_aload_n C hl dX9_restore_10 rfl ?_
  refine g_callVv C hl.1 hR hS rc_X9 md_X9_record ml_X9_48 (c_X9_record l hI h4) rfl rfl ⟨Nat.le_of_ble_eq_true rfl, Nat.le_of_ble_eq_true rfl⟩ ⟨Nat.le_refl _, Nat.le_refl _⟩ (Nat.le_of_ble_eq_true rfl) dX9_restore_11 (fun H locs hR hS => ?_)
  refine g_iconst 0 C dX9_restore_14 (by decide) ?_
  refine g_istore_n C hl dX9_restore_15 (Nat.le_of_ble_eq_true rfl) (fun ls hl => ?_)
  exact loop 198 0 (by omega) _ _ _ hl (by rw [cpF_0]; exact hR) hS
set_option maxRecDepth 100000 in
set_option maxHeartbeats 4000000 in
/-- undo, empty history -/
theorem c_X9_undo_0 (l : Launch) {X : gX} (hI : gInj X) {mem : gM} {f z a o k t r : Nat → Nat} (h4 : f 3 = 0) : gF l yX9_undo cX9_undo 2 (some .int) 0 0 X [.ref (gAd X 8 0)] (gM8 mem f z a o k t r) (some (.int (-5))) (gM8 mem f z a o k t r) := by
  refine gMt.of (own := RX9) (by decide) rfl hI (by simp [Value.category]) (Nat.le_of_ble_eq_true rfl) ?_
  intro p e s m args below meth c ls H locs C hnm hl hR hS
  refine g_aload_n C hl dX9_undo_0 rfl ?_
  refine rt_3 C hR fl_X9_40 dX9_undo_1 ?_
  refine g_if_ne (tgt := 10) C dX9_undo_4 (by decide) (by omega) (fun z9 => absurd z9 (by omega)) (fun c4 => ?_)
  refine g_bipushM (-5) C dX9_undo_7 (by decide) ?_
  refine g_iret C hR hS dX9_undo_9 ?_
  exact ⟨rfl, rfl⟩
set_option maxRecDepth 100000 in
set_option maxHeartbeats 4000000 in
/-- undo -/
theorem c_X9_undo_1 (l : Launch) {X : gX} (hI : gInj X) {mem : gM} {f z a o k t r : Nat → Nat} (h0 : 0 < f 3) (h4 : f 3 ≤ 4) : gF l yX9_undo cX9_undo 2 (some .int) 0 0 X [.ref (gAd X 8 0)] (gM8 mem f z a o k t r) (some (.int (nI (f 3 - 1)))) (gM8 mem (fU f 3 (f 3 - 1)) (oSl o (f 3 - 1)) a o k t r) := by
  refine gMt.of (own := RX9) (by decide) rfl hI (by simp [Value.category]) (Nat.le_of_ble_eq_true rfl) ?_
  intro p e s m args below meth c ls H locs C hnm hl hR hS
  have loop : ∀ (d i : Nat), i + d = 198 → ∀ (ls : Array Slot) (H : Heap) (locs : List Loc), gL ls [some (.ref (gAd X 8 0)), some (.int (nI i))] → gRep X (gM8 mem (fU f 3 (f 3 - 1)) (cpF o z (198 * (f 3 - 1)) 0 i) a o k t r) H → va_S (gA X) s.heap H locs → W p l e { frames := 0, cells := 0, slots := 0, locals := 0 } s m args below meth c H locs 0 0 (MQ below (gQ X (fun v m => v = some (.int (nI (f 3 - 1))) ∧ m = gM8 mem (fU f 3 (f 3 - 1)) (oSl o (f 3 - 1)) a o k t r)) args s 0 0 (gA X)) (F0 m 22 ls []) := by
    intro d
    induction d with
    | zero =>
      intro i hi  ls H locs  hl hR hS
      have hi2 : i = 198 := by omega
      subst hi2
      refine g_iload_n C hl dX9_undo_22 rfl ?_
      refine g_sipush 198 C dX9_undo_23 (by decide) ?_
      refine g_icmp_ge (tgt := 56) C dX9_undo_26 (by decide) (by omega) (by omega) (fun c26 => ?_) (fun z9 => absurd z9 (by omega))
      have hR := r_arr1 (g := oSl o (f 3 - 1)) hR (fun j hj => by rw [cpF_in (by omega) (by omega), Nat.sub_zero]; rfl)
      refine g_aload_n C hl dX9_undo_56 rfl ?_
      refine rt_3 C hR fl_X9_40 dX9_undo_57 ?_
      rw [fU_s]
      refine g_iret C hR hS dX9_undo_60 ?_
      exact ⟨rfl, rfl⟩
    | succ d ih =>
      intro i hi  ls H locs  hl hR hS
      refine g_iload_n C hl dX9_undo_22 rfl ?_
      refine g_sipush 198 C dX9_undo_23 (by decide) ?_
      refine g_icmp_ge (tgt := 56) C dX9_undo_26 (by decide) (by omega) (by omega) (fun z9 => absurd z9 (by omega)) (fun c26 => ?_)
      refine g_aload_n C hl dX9_undo_29 rfl ?_
      refine gt_X9_0 C hR fl_X9_7 dX9_undo_30 ?_
      refine g_iload_n C hl dX9_undo_33 rfl ?_
      refine g_aload_n C hl dX9_undo_34 rfl ?_
      refine gt_X9_2 C hR fl_X9_16 dX9_undo_35 ?_
      refine g_sipush 198 C dX9_undo_38 (by decide) ?_
      refine g_aload_n C hl dX9_undo_41 rfl ?_
      refine rt_3 C hR fl_X9_40 dX9_undo_42 ?_
      rw [fU_s]
      refine g_imul C dX9_undo_45 ?_
      refine g_iload_n C hl dX9_undo_46 rfl ?_
      refine g_iadd C dX9_undo_47 ?_
      refine r_ald3 C hR (by omega) dX9_undo_48 ?_
      refine r_ast1 C hR hS (by omega) dX9_undo_49 (fun H locs hR hS => ?_)
      refine g_iinc (k := 1) C hl dX9_undo_50 rfl (by decide) (fun ls hl => ?_)
      refine g_goto (tgt := 22) C dX9_undo_53 (by decide) ?_
      refine ih (i + 1) (by omega)  ls H locs hl ?_ hS
      rw [← cpF_s, Nat.zero_add]
      exact hR
  refine g_aload_n C hl dX9_undo_0 rfl ?_
  refine rt_3 C hR fl_X9_40 dX9_undo_1 ?_
  refine g_if_ne (tgt := 10) C dX9_undo_4 (by decide) (by omega) (fun c4 => ?_) (fun z9 => absurd z9 (by omega))
  refine g_aload_n C hl dX9_undo_10 rfl ?_
  refine g_dup C dX9_undo_11 rfl ?_
  refine rt_3 C hR fl_X9_40 dX9_undo_12 ?_
  refine g_iconst 1 C dX9_undo_15 (by decide) ?_
  refine g_isub C dX9_undo_16 (by omega) ?_
  refine rp_3 C hR hS fl_X9_40 dX9_undo_17 (fun H locs hR hS => ?_)
  refine g_iconst 0 C dX9_undo_20 (by decide) ?_
  refine g_istore_n C hl dX9_undo_21 (Nat.le_of_ble_eq_true rfl) (fun ls hl => ?_)
  exact loop 198 0 (by omega) _ _ _ hl (by rw [cpF_0]; exact hR) hS
set_option maxRecDepth 100000 in
set_option maxHeartbeats 4000000 in
/-- change, so already -/
theorem c_X9_change_0 (l : Launch) {X : gX} (hI : gInj X) {mem : gM} {f z a o k t r : Nat → Nat} {i v : Nat} (h4 : f 3 ≤ 4) (hi : i < 198) (hv : v < 2 ^ 31) (hb : z i < 2 ^ 31) (he : z i = v) : gF l yX9_change cX9_change 4 (some .int) 1 21 X [.ref (gAd X 8 0), .int (nI i), .int (nI v)] (gM8 mem f z a o k t r) (some (.int (-5))) (gM8 mem f z a o k t r) := by
  refine gMt.of (own := RX9) (by decide) rfl hI (by simp [Value.category]) (Nat.le_of_ble_eq_true rfl) ?_
  intro p e s m args below meth c ls H locs C hnm hl hR hS
  refine g_aload_n C hl dX9_change_0 rfl ?_
  refine gt_X9_0 C hR fl_X9_7 dX9_change_1 ?_
  refine g_iload_n C hl dX9_change_4 rfl ?_
  refine r_ald1 C hR (by omega) dX9_change_5 ?_
  refine g_iload_n C hl dX9_change_6 rfl ?_
  refine g_icmp_ne (tgt := 13) C dX9_change_7 (by decide) (by omega) (by omega) (fun z9 => absurd z9 (by omega)) (fun c7 => ?_)
  refine g_bipushM (-5) C dX9_change_10 (by decide) ?_
  refine g_iret C hR hS dX9_change_12 ?_
  exact ⟨rfl, rfl⟩
set_option maxRecDepth 100000 in
set_option maxHeartbeats 4000000 in
/-- change -/
theorem c_X9_change_1 (l : Launch) {X : gX} (hI : gInj X) {mem : gM} {f z a o k t r : Nat → Nat} {i v : Nat} (h4 : f 3 ≤ 4) (hi : i < 198) (hv : v < 2 ^ 31) (hb : z i < 2 ^ 31) (he : ¬ z i = v) : gF l yX9_change cX9_change 4 (some .int) 1 21 X [.ref (gAd X 8 0), .int (nI i), .int (nI v)] (gM8 mem f z a o k t r) (some (.int (nI (z i)))) (gM8 mem (fU f 3 (rN (f 3))) (fU z i v) a (oRec (f 3) o z) k t r) := by
  refine gMt.of (own := RX9) (by decide) rfl hI (by simp [Value.category]) (Nat.le_of_ble_eq_true rfl) ?_
  intro p e s m args below meth c ls H locs C hnm hl hR hS
  refine g_aload_n C hl dX9_change_0 rfl ?_
  refine gt_X9_0 C hR fl_X9_7 dX9_change_1 ?_
  refine g_iload_n C hl dX9_change_4 rfl ?_
  refine r_ald1 C hR (by omega) dX9_change_5 ?_
  refine g_iload_n C hl dX9_change_6 rfl ?_
  refine g_icmp_ne (tgt := 13) C dX9_change_7 (by decide) (by omega) (by omega) (fun c7 => ?_) (fun z9 => absurd z9 (by omega))
  refine g_aload_n C hl dX9_change_13 rfl ?_
  refine g_callVv C hl.1 hR hS rc_X9 md_X9_record ml_X9_48 (c_X9_record l hI h4) rfl rfl ⟨Nat.le_of_ble_eq_true rfl, Nat.le_of_ble_eq_true rfl⟩ ⟨Nat.le_refl _, Nat.le_refl _⟩ (Nat.le_of_ble_eq_true rfl) dX9_change_14 (fun H locs hR hS => ?_)
  refine g_aload_n C hl dX9_change_17 rfl ?_
  refine gt_X9_0 C hR fl_X9_7 dX9_change_18 ?_
  refine g_iload_n C hl dX9_change_21 rfl ?_
  refine r_ald1 C hR (by omega) dX9_change_22 ?_
  refine g_istore_n C hl dX9_change_23 (Nat.le_of_ble_eq_true rfl) (fun ls hl => ?_)
  refine g_aload_n C hl dX9_change_24 rfl ?_
  refine gt_X9_0 C hR fl_X9_7 dX9_change_25 ?_
  refine g_iload_n C hl dX9_change_28 rfl ?_
  refine g_iload_n C hl dX9_change_29 rfl ?_
  refine r_ast1 C hR hS (by omega) dX9_change_30 (fun H locs hR hS => ?_)
  refine g_iload_n C hl dX9_change_31 rfl ?_
  refine g_iret C hR hS dX9_change_32 ?_
  exact ⟨rfl, rfl⟩
set_option maxRecDepth 100000 in
set_option maxHeartbeats 4000000 in
/-- X9_locked -/
theorem c_X9_locked (l : Launch) {X : gX} (hI : gInj X) {mem : gM} {f z a o k t r : Nat → Nat} : gF l yX9_locked cX9_locked 3 (some .int) 0 0 X [.ref (gAd X 8 0)] (gM8 mem f z a o k t r) (some (.int (nI (gSum (fun b => z (104 + b)) 8)))) (gM8 mem f z a o k t r) := by
  refine gMt.of (own := RX9) (by decide) rfl hI (by simp [Value.category]) (Nat.le_of_ble_eq_true rfl) ?_
  intro p e s m args below meth c ls H locs C hnm hl hR hS
  have loop : ∀ (d i : Nat), i + d = 8 → ∀ (ls : Array Slot) (H : Heap) (locs : List Loc), gL ls [some (.ref (gAd X 8 0)), some (.int (nI (gSum (fun b => z (104 + b)) i))), some (.int (nI i))] → gRep X (gM8 mem f z a o k t r) H → va_S (gA X) s.heap H locs → W p l e { frames := 0, cells := 0, slots := 0, locals := 0 } s m args below meth c H locs 0 0 (MQ below (gQ X (fun v m => v = some (.int (nI (gSum (fun b => z (104 + b)) 8))) ∧ m = gM8 mem f z a o k t r)) args s 0 0 (gA X)) (F0 m 4 ls []) := by
    intro d
    induction d with
    | zero =>
      intro i hi  ls H locs  hl hR hS
      have hi2 : i = 8 := by omega
      subst hi2
      refine g_iload_n C hl dX9_locked_4 rfl ?_
      refine g_bipush 8 C dX9_locked_5 (by decide) ?_
      refine g_icmp_ge (tgt := 28) C dX9_locked_7 (by decide) (by omega) (by omega) (fun c7 => ?_) (fun z9 => absurd z9 (by omega))
      refine g_iload_n C hl dX9_locked_28 rfl ?_
      refine g_iret C hR hS dX9_locked_29 ?_
      exact ⟨rfl, rfl⟩
    | succ d ih =>
      intro i hi  ls H locs  hl hR hS
      refine g_iload_n C hl dX9_locked_4 rfl ?_
      refine g_bipush 8 C dX9_locked_5 (by decide) ?_
      refine g_icmp_ge (tgt := 28) C dX9_locked_7 (by decide) (by omega) (by omega) (fun z9 => absurd z9 (by omega)) (fun c7 => ?_)
      refine g_iload_n C hl dX9_locked_10 rfl ?_
      refine g_aload_n C hl dX9_locked_11 rfl ?_
      refine gt_X9_0 C hR fl_X9_7 dX9_locked_12 ?_
      refine g_bipush 104 C dX9_locked_15 (by decide) ?_
      refine g_iload_n C hl dX9_locked_17 rfl ?_
      refine g_iadd C dX9_locked_18 ?_
      refine r_ald1 C hR (by omega) dX9_locked_19 ?_
      refine g_iadd C dX9_locked_20 ?_
      refine g_istore_n C hl dX9_locked_21 (Nat.le_of_ble_eq_true rfl) (fun ls hl => ?_)
      refine g_iinc (k := 1) C hl dX9_locked_22 rfl (by decide) (fun ls hl => ?_)
      refine g_goto (tgt := 4) C dX9_locked_25 (by decide) ?_
      refine ih (i + 1) (by omega)  ls H locs hl ?_ hS
      exact hR
  refine g_iconst 0 C dX9_locked_0 (by decide) ?_
  refine g_istore_n C hl dX9_locked_1 (Nat.le_of_ble_eq_true rfl) (fun ls hl => ?_)
  refine g_iconst 0 C dX9_locked_2 (by decide) ?_
  refine g_istore_n C hl dX9_locked_3 (Nat.le_of_ble_eq_true rfl) (fun ls hl => ?_)
  exact loop 8 0 (by omega) _ _ _ hl hR hS
set_option maxRecDepth 100000 in
set_option maxHeartbeats 4000000 in
/-- X9_filled -/
theorem c_X9_filled (l : Launch) {X : gX} (hI : gInj X) {mem : gM} {f z a o k t r : Nat → Nat} {b : Nat} (hz : zI z) (hb : b < 8) : gF l yX9_filled cX9_filled 4 (some .int) 1 21 X [.ref (gAd X 8 0), .int (nI b)] (gM8 mem f z a o k t r) (some (.int (nI (gSum (fun c9 => if z (zIx b c9) = 0 then 0 else 1) 12)))) (gM8 mem f z a o k t r) := by
  refine gMt.of (own := RX9) (by decide) rfl hI (by simp [Value.category]) (Nat.le_of_ble_eq_true rfl) ?_
  intro p e s m args below meth c ls H locs C hnm hl hR hS
  have hx : ∀ i, i < 12 → z (zIx b i) ≤ 999 := fun i hi => hz.1 _ (zIx_lt hb (by omega))
  have loop : ∀ (d i : Nat), i + d = 12 → ∀ (ls : Array Slot) (H : Heap) (locs : List Loc), gL ls [some (.ref (gAd X 8 0)), some (.int (nI b)), some (.int (nI (gSum (fun c9 => if z (zIx b c9) = 0 then 0 else 1) i))), some (.int (nI i))] → gRep X (gM8 mem f z a o k t r) H → va_S (gA X) s.heap H locs → W p l e { frames := 1, cells := 0, slots := 0, locals := 21 } s m args below meth c H locs 0 0 (MQ below (gQ X (fun v m => v = some (.int (nI (gSum (fun c9 => if z (zIx b c9) = 0 then 0 else 1) 12))) ∧ m = gM8 mem f z a o k t r)) args s 0 0 (gA X)) (F0 m 4 ls []) := by
    intro d
    induction d with
    | zero =>
      intro i hi  ls H locs  hl hR hS
      have hi2 : i = 12 := by omega
      subst hi2
      refine g_iload_n C hl dX9_filled_4 rfl ?_
      refine g_bipush 12 C dX9_filled_5 (by decide) ?_
      refine g_icmp_ge (tgt := 37) C dX9_filled_7 (by decide) (by omega) (by omega) (fun c7 => ?_) (fun z9 => absurd z9 (by omega))
      refine g_iload_n C hl dX9_filled_37 rfl ?_
      refine g_iret C hR hS dX9_filled_38 ?_
      exact ⟨rfl, rfl⟩
    | succ d ih =>
      intro i hi  ls H locs  hl hR hS
      refine g_iload_n C hl dX9_filled_4 rfl ?_
      refine g_bipush 12 C dX9_filled_5 (by decide) ?_
      refine g_icmp_ge (tgt := 37) C dX9_filled_7 (by decide) (by omega) (by omega) (fun z9 => absurd z9 (by omega)) (fun c7 => ?_)
      refine g_iload_n C hl dX9_filled_10 rfl ?_
      refine g_aload_n C hl dX9_filled_11 rfl ?_
      refine gt_X9_0 C hR fl_X9_7 dX9_filled_12 ?_
      refine g_iload_n C hl dX9_filled_15 rfl ?_
      refine g_iload_n C hl dX9_filled_16 rfl ?_
      refine g_callSi C hl.1 hR hS md_X9_index ml_X9_36 (c_X9_index l hI hb (by omega)) rfl rfl ⟨Nat.le_of_ble_eq_true rfl, Nat.le_of_ble_eq_true rfl⟩ ⟨Nat.le_refl _, Nat.le_refl _⟩ (Nat.le_of_ble_eq_true rfl) dX9_filled_17 (fun H locs hR hS => ?_)
      refine r_ald1 C hR (by have := zIx_lt hb (show i < 16 by omega); omega) dX9_filled_20 ?_
      refine g_if_eq (tgt := 28) C dX9_filled_21 (by decide) (by have := hx i (by omega); omega) (fun c21 => ?_) (fun c21 => ?_)
      · -- 21 T
        refine g_iconst 0 C dX9_filled_28 (by decide) ?_
        refine g_iadd C dX9_filled_29 ?_
        refine g_istore_n C hl dX9_filled_30 (Nat.le_of_ble_eq_true rfl) (fun ls hl => ?_)
        refine g_iinc (k := 1) C hl dX9_filled_31 rfl (by decide) (fun ls hl => ?_)
        refine g_goto (tgt := 4) C dX9_filled_34 (by decide) ?_
        have e9 : gSum (fun c9 => if z (zIx b c9) = 0 then 0 else 1) (i + 1) = gSum (fun c9 => if z (zIx b c9) = 0 then 0 else 1) i + (if z (zIx b i) = 0 then 0 else 1) := rfl
        first | rw [if_pos c21] at e9 | rw [if_neg c21] at e9
        rw [← e9] at hl
        refine ih (i + 1) (by omega)  ls H locs hl ?_ hS
        exact hR
      · -- 21 F
        refine g_iconst 1 C dX9_filled_24 (by decide) ?_
        refine g_goto (tgt := 29) C dX9_filled_25 (by decide) ?_
        refine g_iadd C dX9_filled_29 ?_
        refine g_istore_n C hl dX9_filled_30 (Nat.le_of_ble_eq_true rfl) (fun ls hl => ?_)
        refine g_iinc (k := 1) C hl dX9_filled_31 rfl (by decide) (fun ls hl => ?_)
        refine g_goto (tgt := 4) C dX9_filled_34 (by decide) ?_
        have e9 : gSum (fun c9 => if z (zIx b c9) = 0 then 0 else 1) (i + 1) = gSum (fun c9 => if z (zIx b c9) = 0 then 0 else 1) i + (if z (zIx b i) = 0 then 0 else 1) := rfl
        first | rw [if_pos c21] at e9 | rw [if_neg c21] at e9
        rw [← e9] at hl
        refine ih (i + 1) (by omega)  ls H locs hl ?_ hS
        exact hR
  refine g_iconst 0 C dX9_filled_0 (by decide) ?_
  refine g_istore_n C hl dX9_filled_1 (Nat.le_of_ble_eq_true rfl) (fun ls hl => ?_)
  refine g_iconst 0 C dX9_filled_2 (by decide) ?_
  refine g_istore_n C hl dX9_filled_3 (Nat.le_of_ble_eq_true rfl) (fun ls hl => ?_)
  exact loop 12 0 (by omega) _ _ _ hl hR hS
set_option maxRecDepth 100000 in
set_option maxHeartbeats 4000000 in
/-- X9_framesTo -/
theorem c_X9_framesTo (l : Launch) {X : gX} (hI : gInj X) {mem : gM} {f z a o k t r : Nat → Nat} {b : Nat} (hz : zI z) (hb : b < 8) : gF l yX9_framesTo cX9_framesTo 4 (some .int) 0 0 X [.ref (gAd X 8 0), .int (nI b)] (gM8 mem f z a o k t r) (some (.int (nI (gSum (fun q => if z (118 + 3 * q) = b then 1 else 0) (z 116))))) (gM8 mem f z a o k t r) := by
  refine gMt.of (own := RX9) (by decide) rfl hI (by simp [Value.category]) (Nat.le_of_ble_eq_true rfl) ?_
  intro p e s m args below meth c ls H locs C hnm hl hR hS
  have h116 := hz.2.2.2.2.2.2.2.1
  have loop : ∀ (d i : Nat), i + d = z 116 → ∀ (ls : Array Slot) (H : Heap) (locs : List Loc), gL ls [some (.ref (gAd X 8 0)), some (.int (nI b)), some (.int (nI (gSum (fun q => if z (118 + 3 * q) = b then 1 else 0) i))), some (.int (nI i))] → gRep X (gM8 mem f z a o k t r) H → va_S (gA X) s.heap H locs → W p l e { frames := 0, cells := 0, slots := 0, locals := 0 } s m args below meth c H locs 0 0 (MQ below (gQ X (fun v m => v = some (.int (nI (gSum (fun q => if z (118 + 3 * q) = b then 1 else 0) (z 116)))) ∧ m = gM8 mem f z a o k t r)) args s 0 0 (gA X)) (F0 m 4 ls []) := by
    intro d
    induction d with
    | zero =>
      intro i hi  ls H locs  hl hR hS
      have hi2 : i = z 116 := by omega
      subst hi2
      refine g_iload_n C hl dX9_framesTo_4 rfl ?_
      refine g_aload_n C hl dX9_framesTo_5 rfl ?_
      refine gt_X9_0 C hR fl_X9_7 dX9_framesTo_6 ?_
      refine g_bipush 116 C dX9_framesTo_9 (by decide) ?_
      refine r_ald1 C hR (by omega) dX9_framesTo_11 ?_
      refine g_icmp_ge (tgt := 46) C dX9_framesTo_12 (by decide) (by omega) (by omega) (fun c12 => ?_) (fun z9 => absurd z9 (by omega))
      refine g_iload_n C hl dX9_framesTo_46 rfl ?_
      refine g_iret C hR hS dX9_framesTo_47 ?_
      exact ⟨rfl, rfl⟩
    | succ d ih =>
      intro i hi  ls H locs  hl hR hS
      refine g_iload_n C hl dX9_framesTo_4 rfl ?_
      refine g_aload_n C hl dX9_framesTo_5 rfl ?_
      refine gt_X9_0 C hR fl_X9_7 dX9_framesTo_6 ?_
      refine g_bipush 116 C dX9_framesTo_9 (by decide) ?_
      refine r_ald1 C hR (by omega) dX9_framesTo_11 ?_
      refine g_icmp_ge (tgt := 46) C dX9_framesTo_12 (by decide) (by omega) (by omega) (fun z9 => absurd z9 (by omega)) (fun c12 => ?_)
      refine g_iload_n C hl dX9_framesTo_15 rfl ?_
      refine g_aload_n C hl dX9_framesTo_16 rfl ?_
      refine gt_X9_0 C hR fl_X9_7 dX9_framesTo_17 ?_
      refine g_bipush 117 C dX9_framesTo_20 (by decide) ?_
      refine g_iconst 3 C dX9_framesTo_22 (by decide) ?_
      refine g_iload_n C hl dX9_framesTo_23 rfl ?_
      refine g_imul C dX9_framesTo_24 ?_
      refine g_iadd C dX9_framesTo_25 ?_
      refine g_iconst 1 C dX9_framesTo_26 (by decide) ?_
      refine g_iadd C dX9_framesTo_27 ?_
      refine r_ald1 C hR (by omega) dX9_framesTo_28 ?_
      rw [show 117 + 3 * i + 1 = 118 + 3 * i by omega]
      have hx := (hz.2.2.2.2.2.2.2.2.1 i (by omega)).2.1
      refine g_iload_n C hl dX9_framesTo_29 rfl ?_
      refine g_icmp_ne (tgt := 37) C dX9_framesTo_30 (by decide) (by omega) (by omega) (fun c30 => ?_) (fun c30 => ?_)
      · -- 30 T
        refine g_iconst 0 C dX9_framesTo_37 (by decide) ?_
        refine g_iadd C dX9_framesTo_38 ?_
        refine g_istore_n C hl dX9_framesTo_39 (Nat.le_of_ble_eq_true rfl) (fun ls hl => ?_)
        refine g_iinc (k := 1) C hl dX9_framesTo_40 rfl (by decide) (fun ls hl => ?_)
        refine g_goto (tgt := 4) C dX9_framesTo_43 (by decide) ?_
        have e9 : gSum (fun q => if z (118 + 3 * q) = b then 1 else 0) (i + 1) = gSum (fun q => if z (118 + 3 * q) = b then 1 else 0) i + (if z (118 + 3 * i) = b then 1 else 0) := rfl
        first | rw [if_pos c30] at e9 | rw [if_neg c30] at e9
        rw [← e9] at hl
        refine ih (i + 1) (by omega)  ls H locs hl ?_ hS
        exact hR
      · -- 30 F
        refine g_iconst 1 C dX9_framesTo_33 (by decide) ?_
        refine g_goto (tgt := 38) C dX9_framesTo_34 (by decide) ?_
        refine g_iadd C dX9_framesTo_38 ?_
        refine g_istore_n C hl dX9_framesTo_39 (Nat.le_of_ble_eq_true rfl) (fun ls hl => ?_)
        refine g_iinc (k := 1) C hl dX9_framesTo_40 rfl (by decide) (fun ls hl => ?_)
        refine g_goto (tgt := 4) C dX9_framesTo_43 (by decide) ?_
        have e9 : gSum (fun q => if z (118 + 3 * q) = b then 1 else 0) (i + 1) = gSum (fun q => if z (118 + 3 * q) = b then 1 else 0) i + (if z (118 + 3 * i) = b then 1 else 0) := rfl
        first | rw [if_pos c30] at e9 | rw [if_neg c30] at e9
        rw [← e9] at hl
        refine ih (i + 1) (by omega)  ls H locs hl ?_ hS
        exact hR
  refine g_iconst 0 C dX9_framesTo_0 (by decide) ?_
  refine g_istore_n C hl dX9_framesTo_1 (Nat.le_of_ble_eq_true rfl) (fun ls hl => ?_)
  refine g_iconst 0 C dX9_framesTo_2 (by decide) ?_
  refine g_istore_n C hl dX9_framesTo_3 (Nat.le_of_ble_eq_true rfl) (fun ls hl => ?_)
  exact loop (z 116) 0 (by omega) _ _ _ hl hR hS
set_option maxRecDepth 100000 in
set_option maxHeartbeats 4000000 in
/-- X9_unlikeCells -/
theorem c_X9_unlikeCells (l : Launch) {X : gX} (hI : gInj X) {mem : gM} {f z a o k t r : Nat → Nat} (hz : zI z) (ha : zI a) : gF l yX9_unlikeCells cX9_unlikeCells 3 (some .int) 0 0 X [.ref (gAd X 8 0)] (gM8 mem f z a o k t r) (some (.int (nI (gSum (fun j => if z j = a j then 0 else 1) 100)))) (gM8 mem f z a o k t r) := by
  refine gMt.of (own := RX9) (by decide) rfl hI (by simp [Value.category]) (Nat.le_of_ble_eq_true rfl) ?_
  intro p e s m args below meth c ls H locs C hnm hl hR hS
  have loop : ∀ (d i : Nat), i + d = 100 → ∀ (ls : Array Slot) (H : Heap) (locs : List Loc), gL ls [some (.ref (gAd X 8 0)), some (.int (nI (gSum (fun j => if z j = a j then 0 else 1) i))), some (.int (nI i))] → gRep X (gM8 mem f z a o k t r) H → va_S (gA X) s.heap H locs → W p l e { frames := 0, cells := 0, slots := 0, locals := 0 } s m args below meth c H locs 0 0 (MQ below (gQ X (fun v m => v = some (.int (nI (gSum (fun j => if z j = a j then 0 else 1) 100))) ∧ m = gM8 mem f z a o k t r)) args s 0 0 (gA X)) (F0 m 4 ls []) := by
    intro d
    induction d with
    | zero =>
      intro i hi  ls H locs  hl hR hS
      have hi2 : i = 100 := by omega
      subst hi2
      refine g_iload_n C hl dX9_unlikeCells_4 rfl ?_
      refine g_bipush 100 C dX9_unlikeCells_5 (by decide) ?_
      refine g_icmp_ge (tgt := 39) C dX9_unlikeCells_7 (by decide) (by omega) (by omega) (fun c7 => ?_) (fun z9 => absurd z9 (by omega))
      refine g_iload_n C hl dX9_unlikeCells_39 rfl ?_
      refine g_iret C hR hS dX9_unlikeCells_40 ?_
      exact ⟨rfl, rfl⟩
    | succ d ih =>
      intro i hi  ls H locs  hl hR hS
      refine g_iload_n C hl dX9_unlikeCells_4 rfl ?_
      refine g_bipush 100 C dX9_unlikeCells_5 (by decide) ?_
      refine g_icmp_ge (tgt := 39) C dX9_unlikeCells_7 (by decide) (by omega) (by omega) (fun z9 => absurd z9 (by omega)) (fun c7 => ?_)
      refine g_iload_n C hl dX9_unlikeCells_10 rfl ?_
      refine g_aload_n C hl dX9_unlikeCells_11 rfl ?_
      refine gt_X9_0 C hR fl_X9_7 dX9_unlikeCells_12 ?_
      refine g_iload_n C hl dX9_unlikeCells_15 rfl ?_
      refine r_ald1 C hR (by omega) dX9_unlikeCells_16 ?_
      refine g_aload_n C hl dX9_unlikeCells_17 rfl ?_
      refine gt_X9_1 C hR fl_X9_13 dX9_unlikeCells_18 ?_
      refine g_iload_n C hl dX9_unlikeCells_21 rfl ?_
      refine r_ald2 C hR (by omega) dX9_unlikeCells_22 ?_
      refine g_icmp_eq (tgt := 30) C dX9_unlikeCells_23 (by decide) (by have := hz.1 i (by omega); omega) (by have := ha.1 i (by omega); omega) (fun c23 => ?_) (fun c23 => ?_)
      · -- 23 T
        refine g_iconst 0 C dX9_unlikeCells_30 (by decide) ?_
        refine g_iadd C dX9_unlikeCells_31 ?_
        refine g_istore_n C hl dX9_unlikeCells_32 (Nat.le_of_ble_eq_true rfl) (fun ls hl => ?_)
        refine g_iinc (k := 1) C hl dX9_unlikeCells_33 rfl (by decide) (fun ls hl => ?_)
        refine g_goto (tgt := 4) C dX9_unlikeCells_36 (by decide) ?_
        have e9 : gSum (fun j => if z j = a j then 0 else 1) (i + 1) = gSum (fun j => if z j = a j then 0 else 1) i + (if z i = a i then 0 else 1) := rfl
        first | rw [if_pos c23] at e9 | rw [if_neg c23] at e9
        rw [← e9] at hl
        refine ih (i + 1) (by omega)  ls H locs hl ?_ hS
        exact hR
      · -- 23 F
        refine g_iconst 1 C dX9_unlikeCells_26 (by decide) ?_
        refine g_goto (tgt := 31) C dX9_unlikeCells_27 (by decide) ?_
        refine g_iadd C dX9_unlikeCells_31 ?_
        refine g_istore_n C hl dX9_unlikeCells_32 (Nat.le_of_ble_eq_true rfl) (fun ls hl => ?_)
        refine g_iinc (k := 1) C hl dX9_unlikeCells_33 rfl (by decide) (fun ls hl => ?_)
        refine g_goto (tgt := 4) C dX9_unlikeCells_36 (by decide) ?_
        have e9 : gSum (fun j => if z j = a j then 0 else 1) (i + 1) = gSum (fun j => if z j = a j then 0 else 1) i + (if z i = a i then 0 else 1) := rfl
        first | rw [if_pos c23] at e9 | rw [if_neg c23] at e9
        rw [← e9] at hl
        refine ih (i + 1) (by omega)  ls H locs hl ?_ hS
        exact hR
  refine g_iconst 0 C dX9_unlikeCells_0 (by decide) ?_
  refine g_istore_n C hl dX9_unlikeCells_1 (Nat.le_of_ble_eq_true rfl) (fun ls hl => ?_)
  refine g_iconst 0 C dX9_unlikeCells_2 (by decide) ?_
  refine g_istore_n C hl dX9_unlikeCells_3 (Nat.le_of_ble_eq_true rfl) (fun ls hl => ?_)
  exact loop 100 0 (by omega) _ _ _ hl hR hS
end
section
/-! ===== the state that both sides stand for: how many states are recorded, they, the machine, whether there is a snapshot, it, the text's length, it ===== -/
abbrev aS : Type := Nat × (Nat → Nat → Nat) × (Nat → Nat) × Nat × (Nat → Nat) × Nat × (Nat → Nat)
def aN (S : aS) : Nat := S.1
def aH (S : aS) : Nat → Nat → Nat := S.2.1
def aZ (S : aS) : Nat → Nat := S.2.2.1
def aK (S : aS) : Nat := S.2.2.2.1
def aKz (S : aS) : Nat → Nat := S.2.2.2.2.1
def aL (S : aS) : Nat := S.2.2.2.2.2.1
def aT (S : aS) : Nat → Nat := S.2.2.2.2.2.2
def aPz (S : aS) (z : Nat → Nat) : aS := (aN S, aH S, z, aK S, aKz S, aL S, aT S)
def aHr (n : Nat) (h : Nat → Nat → Nat) (z : Nat → Nat) : Nat → Nat → Nat := if n = 4 then fun i => if i = 3 then z else h (i + 1) else fU h n z
def aRec (S : aS) : aS := (rN (aN S), aHr (aN S) (aH S) (aZ S), aZ S, aK S, aKz S, aL S, aT S)
/-- how the reference holds it -/
def aRf (S : aS) (f z o k t : Nat → Nat) : Prop := f 3 = aN S ∧ aN S ≤ 4 ∧ (∀ i, i < aN S → ∀ j, j < 198 → o (198 * i + j) = aH S i j) ∧ z = aZ S ∧ f 5 = aK S ∧ aK S < 2 ∧ (aK S = 1 → k = aKz S) ∧ f 7 = aL S ∧ aL S ≤ 80 ∧ ∀ j, j < aL S → t j = aT S j
def aRm (S : aS) (mem m' : gM) : Prop := ∃ f z a o k t r, m' = gM8 mem f z a o k t r ∧ aRf S f z o k t
/-- what always holds of it -/
def zB (z : Nat → Nat) : Prop := z 178 ≤ 999999
def zT (z : Nat → Nat) : Prop := z 141 = min (z 178) 12 ∧ z 180 = gSum (fun b => z (182 + b)) 8 ∧ z 181 = gSum (fun b => z (190 + b)) 8
def zV (z : Nat → Nat) : Prop := zI z ∧ zG z ∧ zB z ∧ zT z
def aI (S : aS) : Prop := zV (aZ S) ∧ (∀ i, i < aN S → zV (aH S i)) ∧ (aK S = 1 → zV (aKz S)) ∧ ∀ j, j < aL S → aT S j < 65536
theorem aRf_z {S : aS} {f z o k t y : Nat → Nat} (h : aRf S f z o k t) : aRf (aPz S y) f y o k t := by
  obtain ⟨h1, h2, h3, h4, h5⟩ := h
  exact ⟨h1, h2, h3, rfl, h5⟩
theorem aRf_rec {S : aS} {f z o k t : Nat → Nat} (h : aRf S f z o k t) : aRf (aRec S) (fU f 3 (rN (f 3))) z (oRec (f 3) o z) k t := by
  obtain ⟨h1, h2, h3, h4, h5, h6, h7, h8, h9, h10⟩ := h
  refine ⟨?_, ?_, ?_, h4, ?_, h6, h7, ?_, h9, h10⟩
  · show fU f 3 (rN (f 3)) 3 = rN (aN S)
    rw [fU_s, h1]
  · show rN (aN S) ≤ 4
    unfold rN
    split <;> omega
  · intro i hi j hj
    have hi' : i < rN (aN S) := hi
    show oRec (f 3) o z (198 * i + j) = aHr (aN S) (aH S) (aZ S) i j
    rw [h1]
    unfold oRec aHr
    unfold rN at hi'
    by_cases c : aN S = 4
    · rw [if_pos c] at hi'
      rw [if_pos c, if_pos c]
      by_cases e : i = 3
      · rw [if_pos e, cpF_in (by omega) (by omega), ← h4, show 0 + (198 * i + j - 594) = j by omega]
      · rw [if_neg e, cpF_out (by omega)]
        unfold shF
        rw [if_pos (by omega), ← h3 (i + 1) (by omega) j hj, show 198 + (198 * i + j) = 198 * (i + 1) + j by omega]
    · rw [if_neg c] at hi'
      rw [if_neg c, if_neg c]
      by_cases e : i = aN S
      · rw [e, fU_s, cpF_in (by omega) (by omega), ← h4, show 0 + (198 * aN S + j - 198 * aN S) = j by omega]
      · rw [fU_n _ _ e, cpF_out (by omega)]
        exact h3 i (by omega) j hj
  · show fU f 3 (rN (f 3)) 5 = aK S
    rw [fU_n _ _ (by omega)]
    exact h5
  · show fU f 3 (rN (f 3)) 7 = aL S
    rw [fU_n _ _ (by omega)]
    exact h8
/-! the calls' answers and what they leave -/
def aPut (S : aS) (b c9 n : Int32) : Int32 × aS := if gIw b 0 7 = true then if gIw c9 0 15 = true then if gIw n 0 999 = true then
  (if aZ S (zIx b.toNatClampNeg c9.toNatClampNeg) = n.toNatClampNeg then (-5, S) else (nI (aZ S (zIx b.toNatClampNeg c9.toNatClampNeg)), aPz (aRec S) (fU (aZ S) (zIx b.toNatClampNeg c9.toNatClampNeg) n.toNatClampNeg)))
  else (-2, S) else (-1, S) else (-1, S)
theorem aPut_1 {S : aS} {b c9 n : Int32} (h : gIw b 0 7 = false) : aPut S b c9 n = (-1, S) := by
  unfold aPut
  rw [if_neg (by rw [h]; decide)]
theorem aPut_2 {S : aS} {b c9 n : Int32} (h : gIw c9 0 15 = false) : aPut S b c9 n = (-1, S) := by
  unfold aPut
  rw [if_neg (show ¬ gIw c9 0 15 = true by rw [h]; decide), ite_self]
theorem aPut_3 {S : aS} {b c9 : Nat} {n : Int32} (hb : b ≤ 7) (hc : c9 ≤ 15) (h : gIw n 0 999 = false) : aPut S (nI b) (nI c9) n = (-2, S) := by
  unfold aPut
  rw [if_pos (gIw_ok (by omega) hb (by decide)), if_pos (gIw_ok (by omega) hc (by decide)), if_neg (by rw [h]; decide)]
theorem aPut_4 {S : aS} {b c9 n : Nat} (hb : b ≤ 7) (hc : c9 ≤ 15) (hn : n ≤ 999) (h : aZ S (zIx b c9) = n) : aPut S (nI b) (nI c9) (nI n) = (-5, S) := by
  unfold aPut
  rw [if_pos (gIw_ok (by omega) hb (by decide)), if_pos (gIw_ok (by omega) hc (by decide)), if_pos (gIw_ok (by omega) hn (by decide)), nI_clamp (by omega), nI_clamp (by omega), nI_clamp (by omega), if_pos h]
theorem aPut_5 {S : aS} {b c9 n : Nat} (hb : b ≤ 7) (hc : c9 ≤ 15) (hn : n ≤ 999) (h : ¬ aZ S (zIx b c9) = n) : aPut S (nI b) (nI c9) (nI n) = (nI (aZ S (zIx b c9)), aPz (aRec S) (fU (aZ S) (zIx b c9) n)) := by
  unfold aPut
  rw [if_pos (gIw_ok (by omega) hb (by decide)), if_pos (gIw_ok (by omega) hc (by decide)), if_pos (gIw_ok (by omega) hn (by decide)), nI_clamp (by omega), nI_clamp (by omega), nI_clamp (by omega), if_neg h]
def aLock (S : aS) (b : Int32) (v : Nat) : Int32 × aS := if gIw b 0 7 = true then
  (if aZ S (104 + b.toNatClampNeg) = v then (-5, S) else (nI (gSum (fun q => fU (aZ S) (104 + b.toNatClampNeg) v (104 + q)) 8), aPz (aRec S) (fU (aZ S) (104 + b.toNatClampNeg) v)))
  else (-1, S)
theorem aLock_1 {S : aS} {b : Int32} {v : Nat} (h : gIw b 0 7 = false) : aLock S b v = (-1, S) := by
  unfold aLock
  rw [if_neg (by rw [h]; decide)]
theorem aLock_2 {S : aS} {b v : Nat} (hb : b ≤ 7) (h : aZ S (104 + b) = v) : aLock S (nI b) v = (-5, S) := by
  unfold aLock
  rw [if_pos (gIw_ok (by omega) hb (by decide)), nI_clamp (by omega), if_pos h]
theorem aLock_3 {S : aS} {b v : Nat} (hb : b ≤ 7) (h : ¬ aZ S (104 + b) = v) : aLock S (nI b) v = (nI (gSum (fun q => fU (aZ S) (104 + b) v (104 + q)) 8), aPz (aRec S) (fU (aZ S) (104 + b) v)) := by
  unfold aLock
  rw [if_pos (gIw_ok (by omega) hb (by decide)), nI_clamp (by omega), if_neg h]
def aShow (S : aS) (w b : Int32) : Int32 × aS := if gIw w 0 3 = true then if gIw b 0 7 = true then
  (if aZ S (100 + w.toNatClampNeg) = b.toNatClampNeg then (-5, S) else (nI (aZ S (100 + w.toNatClampNeg)), aPz (aRec S) (fU (aZ S) (100 + w.toNatClampNeg) b.toNatClampNeg)))
  else (-1, S) else (-1, S)
theorem aShow_1 {S : aS} {w b : Int32} (h : gIw w 0 3 = false) : aShow S w b = (-1, S) := by
  unfold aShow
  rw [if_neg (by rw [h]; decide)]
theorem aShow_2 {S : aS} {w b : Int32} (h : gIw b 0 7 = false) : aShow S w b = (-1, S) := by
  unfold aShow
  rw [if_neg (show ¬ gIw b 0 7 = true by rw [h]; decide), ite_self]
theorem aShow_3 {S : aS} {w b : Nat} (hw : w ≤ 3) (hb : b ≤ 7) (h : aZ S (100 + w) = b) : aShow S (nI w) (nI b) = (-5, S) := by
  unfold aShow
  rw [if_pos (gIw_ok (by omega) hw (by decide)), if_pos (gIw_ok (by omega) hb (by decide)), nI_clamp (by omega), nI_clamp (by omega), if_pos h]
theorem aShow_4 {S : aS} {w b : Nat} (hw : w ≤ 3) (hb : b ≤ 7) (h : ¬ aZ S (100 + w) = b) : aShow S (nI w) (nI b) = (nI (aZ S (100 + w)), aPz (aRec S) (fU (aZ S) (100 + w) b)) := by
  unfold aShow
  rw [if_pos (gIw_ok (by omega) hw (by decide)), if_pos (gIw_ok (by omega) hb (by decide)), nI_clamp (by omega), nI_clamp (by omega), if_neg h]
def zUn (z : Nat → Nat) (fr to : Nat) : Nat → Nat := gSum (fun c9 => if z (zIx fr c9) = z (zIx to c9) then 0 else 1)
def zCp (z : Nat → Nat) (fr to : Nat) : Nat → (Nat → Nat)
  | 0 => z
  | n + 1 => fU (zCp z fr to n) (zIx to n) (zCp z fr to n (zIx fr n))
def aCopy (S : aS) (fr to : Int32) : Int32 × aS := if gIw fr 0 7 = true then if gIw to 0 7 = true then
  (if zUn (aZ S) fr.toNatClampNeg to.toNatClampNeg 12 = 0 then (-5, S) else (nI (zUn (aZ S) fr.toNatClampNeg to.toNatClampNeg 12), aPz (aRec S) (zCp (aZ S) fr.toNatClampNeg to.toNatClampNeg 12)))
  else (-1, S) else (-1, S)
theorem aCopy_1 {S : aS} {w b : Int32} (h : gIw w 0 7 = false) : aCopy S w b = (-1, S) := by
  unfold aCopy
  rw [if_neg (by rw [h]; decide)]
theorem aCopy_2 {S : aS} {w b : Int32} (h : gIw b 0 7 = false) : aCopy S w b = (-1, S) := by
  unfold aCopy
  rw [if_neg (show ¬ gIw b 0 7 = true by rw [h]; decide), ite_self]
theorem aCopy_3 {S : aS} {w b : Nat} (hw : w ≤ 7) (hb : b ≤ 7) (h : zUn (aZ S) w b 12 = 0) : aCopy S (nI w) (nI b) = (-5, S) := by
  unfold aCopy
  rw [if_pos (gIw_ok (by omega) hw (by decide)), if_pos (gIw_ok (by omega) hb (by decide)), nI_clamp (by omega), nI_clamp (by omega), if_pos h]
theorem aCopy_4 {S : aS} {w b : Nat} (hw : w ≤ 7) (hb : b ≤ 7) (h : ¬ zUn (aZ S) w b 12 = 0) : aCopy S (nI w) (nI b) = (nI (zUn (aZ S) w b 12), aPz (aRec S) (zCp (aZ S) w b 12)) := by
  unfold aCopy
  rw [if_pos (gIw_ok (by omega) hw (by decide)), if_pos (gIw_ok (by omega) hb (by decide)), nI_clamp (by omega), nI_clamp (by omega), if_neg h]
def aSet (S : aS) (v : Int32) : Int32 × aS := if gIw v 0 1 = true then
  (if aZ S 112 = v.toNatClampNeg then (-5, S) else (nI (aZ S 112), aPz (aRec S) (fU (aZ S) 112 v.toNatClampNeg))) else (-2, S)
theorem aSet_1 {S : aS} {v : Int32} (h : gIw v 0 1 = false) : aSet S v = (-2, S) := by
  unfold aSet
  rw [if_neg (by rw [h]; decide)]
theorem aSet_2 {S : aS} {v : Nat} (hv : v ≤ 1) (h : aZ S 112 = v) : aSet S (nI v) = (-5, S) := by
  unfold aSet
  rw [if_pos (gIw_ok (by omega) hv (by decide)), nI_clamp (by omega), if_pos h]
theorem aSet_3 {S : aS} {v : Nat} (hv : v ≤ 1) (h : ¬ aZ S 112 = v) : aSet S (nI v) = (nI (aZ S 112), aPz (aRec S) (fU (aZ S) 112 v)) := by
  unfold aSet
  rw [if_pos (gIw_ok (by omega) hv (by decide)), nI_clamp (by omega), if_neg h]
def zBg (z : Nat → Nat) (p9 : Nat) : Nat → Nat := fU (fU (fU (fU z 114 p9) 113 0) 115 0) 116 0
def aBegin (S : aS) (p9 : Int32) : Int32 × aS := if gIw p9 0 63 = true then (nI (aZ S 114), aPz (aRec S) (zBg (aZ S) p9.toNatClampNeg)) else (-1, S)
theorem aBegin_1 {S : aS} {v : Int32} (h : gIw v 0 63 = false) : aBegin S v = (-1, S) := by
  unfold aBegin
  rw [if_neg (by rw [h]; decide)]
theorem aBegin_2 {S : aS} {v : Nat} (hv : v ≤ 63) : aBegin S (nI v) = (nI (aZ S 114), aPz (aRec S) (zBg (aZ S) v)) := by
  unfold aBegin
  rw [if_pos (gIw_ok (by omega) hv (by decide)), nI_clamp (by omega)]
def aRun (S : aS) (n : Int32) : Int32 × aS := if gIw n 1 999 = true then
  (if 0 < aZ S 115 then (-4, S) else if 999999 < aZ S 178 + n.toNatClampNeg then (-3, S) else (nI (zTk (aZ S) n.toNatClampNeg), aPz (aRec S) (zRun (aZ S) n.toNatClampNeg))) else (-2, S)
theorem aRun_1 {S : aS} {v : Int32} (h : gIw v 1 999 = false) : aRun S v = (-2, S) := by
  unfold aRun
  rw [if_neg (by rw [h]; decide)]
theorem aRun_2 {S : aS} {v : Nat} (h1 : 1 ≤ v) (hv : v ≤ 999) (h : 0 < aZ S 115) : aRun S (nI v) = (-4, S) := by
  unfold aRun
  rw [if_pos (gIw_ok h1 hv (by decide)), if_pos h]
theorem aRun_3 {S : aS} {v : Nat} (h1 : 1 ≤ v) (hv : v ≤ 999) (h : aZ S 115 = 0) (h2 : 999999 < aZ S 178 + v) : aRun S (nI v) = (-3, S) := by
  unfold aRun
  rw [if_pos (gIw_ok h1 hv (by decide)), if_neg (by omega), nI_clamp (by omega), if_pos h2]
theorem aRun_4 {S : aS} {v : Nat} (h1 : 1 ≤ v) (hv : v ≤ 999) (h : aZ S 115 = 0) (h2 : aZ S 178 + v ≤ 999999) : aRun S (nI v) = (nI (zTk (aZ S) v), aPz (aRec S) (zRun (aZ S) v)) := by
  unfold aRun
  rw [if_pos (gIw_ok h1 hv (by decide)), if_neg (by omega), nI_clamp (by omega), if_neg (by omega)]
def aType (S : aS) (ch : Nat) : Int32 × aS := if aL S = 80 then (-3, S) else (nI (aL S + 1), (aN S, aH S, aZ S, aK S, aKz S, aL S + 1, fU (aT S) (aL S) ch))
def aClear (S : aS) : Int32 × aS := (nI (aL S), (aN S, aH S, aZ S, aK S, aKz S, 0, aT S))
def aUndo (S : aS) : Int32 × aS := if aN S = 0 then (-5, S) else (nI (aN S - 1), (aN S - 1, aH S, aH S (aN S - 1), aK S, aKz S, aL S, aT S))
def aKeep (S : aS) : Int32 × aS := (nI (aZ S 114), (aN S, aH S, aZ S, 1, aZ S, aL S, aT S))
def aRest (S : aS) : Int32 × aS := if aK S = 0 then (-5, S) else (nI (aKz S 114), aPz (aRec S) (aKz S))
/-! what is told -/
def sCell (z : Nat → Nat) (b c9 : Int32) : Int32 := if gIw b 0 7 = true then if gIw c9 0 15 = true then nI (z (zIx b.toNatClampNeg c9.toNatClampNeg)) else -1 else -1
def zSame (z : Nat → Nat) (ad : Nat) : Nat → Int32
  | 0 => -5
  | d + 1 => if ¬ (63 - d = ad) ∧ zAt z (63 - d) = zAt z ad then nI (63 - d) else zSame z ad d
def sAddr (z : Nat → Nat) (ad w : Int32) : Int32 := if gIw ad 0 63 = true then if gIw w 0 3 = true then (match w.toNatClampNeg with
  | 0 => nI (z (zAt z ad.toNatClampNeg))
  | 1 => nI (zBk z ad.toNatClampNeg)
  | 2 => nI (ad.toNatClampNeg % 16)
  | _ => zSame z ad.toNatClampNeg 64) else -2 else -1
def zWin (z : Nat → Nat) (b : Nat) : Nat → Nat := gSum (fun w => if z (100 + w) = b then 2 ^ w else 0)
def zFil (z : Nat → Nat) (b : Nat) : Nat → Nat := gSum (fun c9 => if z (zIx b c9) = 0 then 0 else 1)
def zFrm (z : Nat → Nat) (b : Nat) : Nat → Nat := gSum (fun q => if z (118 + 3 * q) = b then 1 else 0)
def sBank (z : Nat → Nat) (b w : Int32) : Int32 := if gIw b 0 7 = true then if gIw w 0 5 = true then (match w.toNatClampNeg with
  | 0 => nI (z (104 + b.toNatClampNeg))
  | 1 => nI (zWin z b.toNatClampNeg 4)
  | 2 => nI (zFil z b.toNatClampNeg 12)
  | 3 => nI (zFrm z b.toNatClampNeg (z 116))
  | 4 => nI (z (182 + b.toNatClampNeg))
  | _ => nI (z (190 + b.toNatClampNeg))) else -2 else -1
def sWin (z : Nat → Nat) (w : Int32) : Int32 := if gIw w 0 3 = true then nI (z (100 + w.toNatClampNeg)) else -1
def sFrame (z : Nat → Nat) (r w : Int32) : Int32 := if r < 0 then -2 else if gIw w 0 2 = true then (if r.toNatClampNeg < z 116 then nI (z (117 + 3 * (z 116 - 1 - r.toNatClampNeg) + w.toNatClampNeg)) else -5) else -2
def sLate (z : Nat → Nat) (r w : Int32) : Int32 := if r < 0 then -2 else if gIw w 0 2 = true then (if r.toNatClampNeg < z 141 then nI (z (142 + 3 * r.toNatClampNeg + w.toNatClampNeg)) else -5) else -2
def sNext (z : Nat → Nat) (w : Int32) : Int32 := if gIw w 0 2 = true then (if 0 < z 115 then -5 else match w.toNatClampNeg with
  | 0 => nI (z (zAt z (z 114)))
  | 1 => nI (zStep z 115)
  | _ => nI (zStep z 114)) else -2
def zDif (y z : Nat → Nat) : Nat → Nat := gSum (fun j => if y j = z j then 0 else 1)
def sIf (z : Nat → Nat) (n w : Int32) : Int32 := if gIw n 1 999 = true then if gIw w 0 4 = true then (if 0 < z 115 then -4 else match w.toNatClampNeg with
  | 0 => nI (zTk z n.toNatClampNeg)
  | 1 => nI (zRun z n.toNatClampNeg 115)
  | 2 => nI (zRun z n.toNatClampNeg 113)
  | 3 => nI (zRun z n.toNatClampNeg 116)
  | _ => nI (zDif (zRun z n.toNatClampNeg) z 100)) else -2 else -2
/-- the first step, of at most some, behind which there are fewer frames; 0 if none -/
def zBack (z : Nat → Nat) : Nat → Nat
  | 0 => 0
  | n + 1 => if zBack z n = 0 ∧ zRun z n 115 = 0 ∧ zRun z (n + 1) 116 < z 116 then n + 1 else zBack z n
def sBack (z : Nat → Nat) : Int32 := if zBack z 500 = 0 then -5 else nI (zBack z 500)
def sCount (S : aS) (w : Int32) : Int32 := if gIw w 0 11 = true then (match w.toNatClampNeg with
  | 0 => nI (aZ S 113)
  | 1 => nI (aZ S 114)
  | 2 => nI (aZ S 116)
  | 3 => nI (aZ S 115)
  | 4 => nI (aZ S 178)
  | 5 => nI (aZ S 179)
  | 6 => nI (aZ S 180)
  | 7 => nI (aZ S 181)
  | 8 => nI (gSum (fun b => aZ S (104 + b)) 8)
  | 9 => nI (aZ S 112)
  | 10 => nI (aN S)
  | _ => nI (aL S)) else -2
end
section
/-! ===== the reference's calls ===== -/
theorem nI_nm5 {x : Nat} (h : x < 2 ^ 31) : ¬ nI x = -5 := by
  intro z
  have h1 := congrArg Int32.toInt z
  rw [nI_toInt h] at h1
  have h2 : (-5 : Int32).toInt = -5 := rfl
  omega
theorem gIw_out {v : Int32} {lo hi : Nat} (h : gIw v lo hi = false) : v.toInt < (lo : Int) ∨ (hi : Int) < v.toInt := by
  have h1 : ¬ ((lo : Int) ≤ v.toInt ∧ v.toInt ≤ (hi : Int)) := fun z => by rw [gIw_iff.mpr z] at h; cases h
  omega
set_option maxRecDepth 100000 in
set_option maxHeartbeats 4000000 in
/-- put -/
theorem c_X9_put (l : Launch) {X : gX} (hI : gInj X) {mem : gM} {f z a o k t r : Nat → Nat} {S : aS} {b c9 n : Int32} (hJ : aI S) (hr : aRf S f z o k t) : gMt l yX9_put cX9_put 4 (some .int) 2 44 X [.ref (gAd X 8 0), .int b, .int c9, .int n] (gM8 mem f z a o k t r) (fun v9 m9 => v9 = some (.int (aPut S b c9 n).1) ∧ aRm (aPut S b c9 n).2 mem m9) := by
  refine gMt.of (own := RX9) (by decide) rfl hI (by simp [Value.category]) (Nat.le_of_ble_eq_true rfl) ?_
  intro p e s m args below meth c ls H locs C hnm hl hR hS
  have hr0 := hr
  obtain ⟨r1, r2, r3, r4, r5, r6, r7, r8, r9, r10⟩ := hr
  subst r4
  have hz : zI (aZ S) := hJ.1.1
  have hg : zG (aZ S) := hJ.1.2.1
  have hB : aZ S 178 ≤ 999999 := hJ.1.2.2.1
  have h4 : f 3 ≤ 4 := by omega
  have h115 := hz.2.2.2.2.2.2.1
  have h116 := hz.2.2.2.2.2.2.2.1
  refine g_iload_n C hl dX9_put_0 rfl ?_
  refine g_callSi C hl.1 hR hS md_X9_isBank ml_X9_51 (c_X9_isBank l hI) rfl rfl ⟨Nat.le_of_ble_eq_true rfl, Nat.le_of_ble_eq_true rfl⟩ ⟨Nat.le_refl _, Nat.le_refl _⟩ (Nat.le_of_ble_eq_true rfl) dX9_put_1 (fun H locs hR hS => ?_)
  refine g_ifv_eq (tgt := 14) C dX9_put_4 (by decide) (by decide) (fun c4 => ?_) (fun b eb hb1 hb2 => ?_)
  · -- 4 T
    refine g_iconstM (-1) C dX9_put_14 (by decide) ?_
    refine g_iret C hR hS dX9_put_15 ?_
    rw [aPut_1 c4]
    exact ⟨rfl, _, _, _, _, _, _, _, rfl, hr0⟩
  · -- 4 F
    subst eb
    refine g_iload_n C hl dX9_put_7 rfl ?_
    refine g_callSi C hl.1 hR hS md_X9_isCell ml_X9_55 (c_X9_isCell l hI) rfl rfl ⟨Nat.le_of_ble_eq_true rfl, Nat.le_of_ble_eq_true rfl⟩ ⟨Nat.le_refl _, Nat.le_refl _⟩ (Nat.le_of_ble_eq_true rfl) dX9_put_8 (fun H locs hR hS => ?_)
    refine g_ifv_ne (tgt := 16) C dX9_put_11 (by decide) (by decide) (fun c9 ec9 hc91 hc92 => ?_) (fun c11 => ?_)
    · -- 11 T
      subst ec9
      refine g_iload_n C hl dX9_put_16 rfl ?_
      refine g_iconst 0 C dX9_put_17 (by decide) ?_
      refine g_sipush 999 C dX9_put_18 (by decide) ?_
      refine g_callSi C hl.1 hR hS md_X9_in ml_X9_28 (c_X9_in l hI (by decide) (by decide)) rfl rfl ⟨Nat.le_of_ble_eq_true rfl, Nat.le_of_ble_eq_true rfl⟩ ⟨Nat.le_refl _, Nat.le_refl _⟩ (Nat.le_of_ble_eq_true rfl) dX9_put_21 (fun H locs hR hS => ?_)
      refine g_ifv_eq (tgt := 40) C dX9_put_24 (by decide) (by decide) (fun c24 => ?_) (fun n en hn1 hn2 => ?_)
      · -- 24 T
        refine g_bipushM (-2) C dX9_put_40 (by decide) ?_
        refine g_iret C hR hS dX9_put_42 ?_
        rw [aPut_3 hb2 hc92 c24]
        exact ⟨rfl, _, _, _, _, _, _, _, rfl, hr0⟩
      · -- 24 F
        subst en
        refine g_aload_n C hl dX9_put_27 rfl ?_
        refine g_iload_n C hl dX9_put_28 rfl ?_
        refine g_iload_n C hl dX9_put_29 rfl ?_
        refine g_callSi C hl.1 hR hS md_X9_index ml_X9_36 (c_X9_index l hI (by omega) (by omega)) rfl rfl ⟨Nat.le_of_ble_eq_true rfl, Nat.le_of_ble_eq_true rfl⟩ ⟨Nat.le_refl _, Nat.le_refl _⟩ (Nat.le_of_ble_eq_true rfl) dX9_put_30 (fun H locs hR hS => ?_)
        refine g_iload_n C hl dX9_put_33 rfl ?_
        by_cases h9 : aZ S (zIx b c9) = n
        · -- 34 p
          refine g_callVi C hl.1 hR hS rc_X9 md_X9_change ml_X9_58 (c_X9_change_0 l hI h4 (by have := zIx_lt (b := b) (c := c9) (by omega) (by omega); omega) (by omega) (by have := hz.1 (zIx b c9) (zIx_lt (by omega) (by omega)); omega) h9) rfl rfl ⟨Nat.le_of_ble_eq_true rfl, Nat.le_of_ble_eq_true rfl⟩ ⟨Nat.le_refl _, Nat.le_refl _⟩ (Nat.le_of_ble_eq_true rfl) dX9_put_34 (fun H locs hR hS => ?_)
          refine g_goto (tgt := 42) C dX9_put_37 (by decide) ?_
          refine g_iret C hR hS dX9_put_42 ?_
          rw [aPut_4 hb2 hc92 hn2 h9]
          exact ⟨rfl, _, _, _, _, _, _, _, rfl, hr0⟩
        · -- 34 q
          refine g_callVi C hl.1 hR hS rc_X9 md_X9_change ml_X9_58 (c_X9_change_1 l hI h4 (by have := zIx_lt (b := b) (c := c9) (by omega) (by omega); omega) (by omega) (by have := hz.1 (zIx b c9) (zIx_lt (by omega) (by omega)); omega) h9) rfl rfl ⟨Nat.le_of_ble_eq_true rfl, Nat.le_of_ble_eq_true rfl⟩ ⟨Nat.le_refl _, Nat.le_refl _⟩ (Nat.le_of_ble_eq_true rfl) dX9_put_34 (fun H locs hR hS => ?_)
          refine g_goto (tgt := 42) C dX9_put_37 (by decide) ?_
          refine g_iret C hR hS dX9_put_42 ?_
          rw [aPut_5 hb2 hc92 hn2 h9]
          exact ⟨rfl, _, _, _, _, _, _, _, rfl, aRf_z (aRf_rec hr0)⟩
    · -- 11 F
      refine g_iconstM (-1) C dX9_put_14 (by decide) ?_
      refine g_iret C hR hS dX9_put_15 ?_
      rw [aPut_2 c11]
      exact ⟨rfl, _, _, _, _, _, _, _, rfl, hr0⟩
set_option maxRecDepth 100000 in
set_option maxHeartbeats 4000000 in
/-- lock -/
theorem c_X9_lock (l : Launch) {X : gX} (hI : gInj X) {mem : gM} {f z a o k t r : Nat → Nat} {S : aS} {b : Int32} {v : Nat} (hv : v < 2) (hJ : aI S) (hr : aRf S f z o k t) : gMt l yX9_lock cX9_lock 3 (some .int) 2 44 X [.ref (gAd X 8 0), .int b, .int (nI v)] (gM8 mem f z a o k t r) (fun v9 m9 => v9 = some (.int (aLock S b v).1) ∧ aRm (aLock S b v).2 mem m9) := by
  refine gMt.of (own := RX9) (by decide) rfl hI (by simp [Value.category]) (Nat.le_of_ble_eq_true rfl) ?_
  intro p e s m args below meth c ls H locs C hnm hl hR hS
  have hr0 := hr
  obtain ⟨r1, r2, r3, r4, r5, r6, r7, r8, r9, r10⟩ := hr
  subst r4
  have hz : zI (aZ S) := hJ.1.1
  have hg : zG (aZ S) := hJ.1.2.1
  have hB : aZ S 178 ≤ 999999 := hJ.1.2.2.1
  have h4 : f 3 ≤ 4 := by omega
  have h115 := hz.2.2.2.2.2.2.1
  have h116 := hz.2.2.2.2.2.2.2.1
  refine g_iload_n C hl dX9_lock_0 rfl ?_
  refine g_callSi C hl.1 hR hS md_X9_isBank ml_X9_51 (c_X9_isBank l hI) rfl rfl ⟨Nat.le_of_ble_eq_true rfl, Nat.le_of_ble_eq_true rfl⟩ ⟨Nat.le_refl _, Nat.le_refl _⟩ (Nat.le_of_ble_eq_true rfl) dX9_lock_1 (fun H locs hR hS => ?_)
  refine g_ifv_ne (tgt := 9) C dX9_lock_4 (by decide) (by decide) (fun b eb hb1 hb2 => ?_) (fun c4 => ?_)
  · -- 4 T
    subst eb
    refine g_aload_n C hl dX9_lock_9 rfl ?_
    refine g_bipush 104 C dX9_lock_10 (by decide) ?_
    refine g_iload_n C hl dX9_lock_12 rfl ?_
    refine g_iadd C dX9_lock_13 ?_
    refine g_iload_n C hl dX9_lock_14 rfl ?_
    refine g_if_eq (tgt := 22) C dX9_lock_15 (by decide) (by omega) (fun c15 => ?_) (fun c15 => ?_)
    · -- 15 T
      refine g_iconst 0 C dX9_lock_22 (by decide) ?_
      obtain rfl : v = 0 := by omega
      by_cases h9 : aZ S (104 + b) = 0
      · -- 23 p
        refine g_callVi C hl.1 hR hS rc_X9 md_X9_change ml_X9_58 (c_X9_change_0 l hI h4 (by omega) (by omega) (by have := hz.2.2.1 b (by omega); omega) h9) rfl rfl ⟨Nat.le_of_ble_eq_true rfl, Nat.le_of_ble_eq_true rfl⟩ ⟨Nat.le_refl _, Nat.le_refl _⟩ (Nat.le_of_ble_eq_true rfl) dX9_lock_23 (fun H locs hR hS => ?_)
        refine g_bipushM (-5) C dX9_lock_26 (by decide) ?_
        refine lv_icmp_ne (tgt := 36) C.1 C.2.1 dX9_lock_28 (by decide) (fun z9 => absurd rfl z9) (fun _ => ?_)
        refine g_bipushM (-5) C dX9_lock_31 (by decide) ?_
        refine g_goto (tgt := 40) C dX9_lock_33 (by decide) ?_
        refine g_iret C hR hS dX9_lock_40 ?_
        rw [aLock_2 hb2 h9]
        exact ⟨rfl, _, _, _, _, _, _, _, rfl, hr0⟩
      · -- 23 q
        refine g_callVi C hl.1 hR hS rc_X9 md_X9_change ml_X9_58 (c_X9_change_1 l hI h4 (by omega) (by omega) (by have := hz.2.2.1 b (by omega); omega) h9) rfl rfl ⟨Nat.le_of_ble_eq_true rfl, Nat.le_of_ble_eq_true rfl⟩ ⟨Nat.le_refl _, Nat.le_refl _⟩ (Nat.le_of_ble_eq_true rfl) dX9_lock_23 (fun H locs hR hS => ?_)
        refine g_bipushM (-5) C dX9_lock_26 (by decide) ?_
        refine lv_icmp_ne (tgt := 36) C.1 C.2.1 dX9_lock_28 (by decide) (fun _ => ?_) (fun z9 => absurd z9 (nI_nm5 (by have := hz.2.2.1 b (by omega); omega)))
        refine g_aload_n C hl dX9_lock_36 rfl ?_
        refine g_callVi C hl.1 hR hS rc_X9 md_X9_locked ml_X9_61 (c_X9_locked l hI) rfl rfl ⟨Nat.le_of_ble_eq_true rfl, Nat.le_of_ble_eq_true rfl⟩ ⟨Nat.le_refl _, Nat.le_refl _⟩ (Nat.le_of_ble_eq_true rfl) dX9_lock_37 (fun H locs hR hS => ?_)
        refine g_iret C hR hS dX9_lock_40 ?_
        rw [aLock_3 hb2 h9]
        exact ⟨rfl, _, _, _, _, _, _, _, rfl, aRf_z (aRf_rec hr0)⟩
    · -- 15 F
      refine g_iconst 1 C dX9_lock_18 (by decide) ?_
      obtain rfl : v = 1 := by omega
      refine g_goto (tgt := 23) C dX9_lock_19 (by decide) ?_
      by_cases h9 : aZ S (104 + b) = 1
      · -- 23 p
        refine g_callVi C hl.1 hR hS rc_X9 md_X9_change ml_X9_58 (c_X9_change_0 l hI h4 (by omega) (by omega) (by have := hz.2.2.1 b (by omega); omega) h9) rfl rfl ⟨Nat.le_of_ble_eq_true rfl, Nat.le_of_ble_eq_true rfl⟩ ⟨Nat.le_refl _, Nat.le_refl _⟩ (Nat.le_of_ble_eq_true rfl) dX9_lock_23 (fun H locs hR hS => ?_)
        refine g_bipushM (-5) C dX9_lock_26 (by decide) ?_
        refine lv_icmp_ne (tgt := 36) C.1 C.2.1 dX9_lock_28 (by decide) (fun z9 => absurd rfl z9) (fun _ => ?_)
        refine g_bipushM (-5) C dX9_lock_31 (by decide) ?_
        refine g_goto (tgt := 40) C dX9_lock_33 (by decide) ?_
        refine g_iret C hR hS dX9_lock_40 ?_
        rw [aLock_2 hb2 h9]
        exact ⟨rfl, _, _, _, _, _, _, _, rfl, hr0⟩
      · -- 23 q
        refine g_callVi C hl.1 hR hS rc_X9 md_X9_change ml_X9_58 (c_X9_change_1 l hI h4 (by omega) (by omega) (by have := hz.2.2.1 b (by omega); omega) h9) rfl rfl ⟨Nat.le_of_ble_eq_true rfl, Nat.le_of_ble_eq_true rfl⟩ ⟨Nat.le_refl _, Nat.le_refl _⟩ (Nat.le_of_ble_eq_true rfl) dX9_lock_23 (fun H locs hR hS => ?_)
        refine g_bipushM (-5) C dX9_lock_26 (by decide) ?_
        refine lv_icmp_ne (tgt := 36) C.1 C.2.1 dX9_lock_28 (by decide) (fun _ => ?_) (fun z9 => absurd z9 (nI_nm5 (by have := hz.2.2.1 b (by omega); omega)))
        refine g_aload_n C hl dX9_lock_36 rfl ?_
        refine g_callVi C hl.1 hR hS rc_X9 md_X9_locked ml_X9_61 (c_X9_locked l hI) rfl rfl ⟨Nat.le_of_ble_eq_true rfl, Nat.le_of_ble_eq_true rfl⟩ ⟨Nat.le_refl _, Nat.le_refl _⟩ (Nat.le_of_ble_eq_true rfl) dX9_lock_37 (fun H locs hR hS => ?_)
        refine g_iret C hR hS dX9_lock_40 ?_
        rw [aLock_3 hb2 h9]
        exact ⟨rfl, _, _, _, _, _, _, _, rfl, aRf_z (aRf_rec hr0)⟩
  · -- 4 F
    refine g_iconstM (-1) C dX9_lock_7 (by decide) ?_
    refine g_iret C hR hS dX9_lock_8 ?_
    rw [aLock_1 c4]
    exact ⟨rfl, _, _, _, _, _, _, _, rfl, hr0⟩
set_option maxRecDepth 100000 in
set_option maxHeartbeats 4000000 in
/-- show -/
theorem c_X9_show (l : Launch) {X : gX} (hI : gInj X) {mem : gM} {f z a o k t r : Nat → Nat} {S : aS} {w b : Int32} (hJ : aI S) (hr : aRf S f z o k t) : gMt l yX9_show cX9_show 3 (some .int) 2 44 X [.ref (gAd X 8 0), .int w, .int b] (gM8 mem f z a o k t r) (fun v9 m9 => v9 = some (.int (aShow S w b).1) ∧ aRm (aShow S w b).2 mem m9) := by
  refine gMt.of (own := RX9) (by decide) rfl hI (by simp [Value.category]) (Nat.le_of_ble_eq_true rfl) ?_
  intro p e s m args below meth c ls H locs C hnm hl hR hS
  have hr0 := hr
  obtain ⟨r1, r2, r3, r4, r5, r6, r7, r8, r9, r10⟩ := hr
  subst r4
  have hz : zI (aZ S) := hJ.1.1
  have hg : zG (aZ S) := hJ.1.2.1
  have hB : aZ S 178 ≤ 999999 := hJ.1.2.2.1
  have h4 : f 3 ≤ 4 := by omega
  have h115 := hz.2.2.2.2.2.2.1
  have h116 := hz.2.2.2.2.2.2.2.1
  refine g_iload_n C hl dX9_show_0 rfl ?_
  refine g_callSi C hl.1 hR hS md_X9_isWindow ml_X9_65 (c_X9_isWindow l hI) rfl rfl ⟨Nat.le_of_ble_eq_true rfl, Nat.le_of_ble_eq_true rfl⟩ ⟨Nat.le_refl _, Nat.le_refl _⟩ (Nat.le_of_ble_eq_true rfl) dX9_show_1 (fun H locs hR hS => ?_)
  refine g_ifv_eq (tgt := 26) C dX9_show_4 (by decide) (by decide) (fun c4 => ?_) (fun w ew hw1 hw2 => ?_)
  · -- 4 T
    refine g_iconstM (-1) C dX9_show_26 (by decide) ?_
    refine g_iret C hR hS dX9_show_27 ?_
    rw [aShow_1 c4]
    exact ⟨rfl, _, _, _, _, _, _, _, rfl, hr0⟩
  · -- 4 F
    subst ew
    refine g_iload_n C hl dX9_show_7 rfl ?_
    refine g_callSi C hl.1 hR hS md_X9_isBank ml_X9_51 (c_X9_isBank l hI) rfl rfl ⟨Nat.le_of_ble_eq_true rfl, Nat.le_of_ble_eq_true rfl⟩ ⟨Nat.le_refl _, Nat.le_refl _⟩ (Nat.le_of_ble_eq_true rfl) dX9_show_8 (fun H locs hR hS => ?_)
    refine g_ifv_eq (tgt := 26) C dX9_show_11 (by decide) (by decide) (fun c11 => ?_) (fun b eb hb1 hb2 => ?_)
    · -- 11 T
      refine g_iconstM (-1) C dX9_show_26 (by decide) ?_
      refine g_iret C hR hS dX9_show_27 ?_
      rw [aShow_2 c11]
      exact ⟨rfl, _, _, _, _, _, _, _, rfl, hr0⟩
    · -- 11 F
      subst eb
      refine g_aload_n C hl dX9_show_14 rfl ?_
      refine g_bipush 100 C dX9_show_15 (by decide) ?_
      refine g_iload_n C hl dX9_show_17 rfl ?_
      refine g_iadd C dX9_show_18 ?_
      refine g_iload_n C hl dX9_show_19 rfl ?_
      by_cases h9 : aZ S (100 + w) = b
      · -- 20 p
        refine g_callVi C hl.1 hR hS rc_X9 md_X9_change ml_X9_58 (c_X9_change_0 l hI h4 (by omega) (by omega) (by have := hz.2.1 w (by omega); omega) h9) rfl rfl ⟨Nat.le_of_ble_eq_true rfl, Nat.le_of_ble_eq_true rfl⟩ ⟨Nat.le_refl _, Nat.le_refl _⟩ (Nat.le_of_ble_eq_true rfl) dX9_show_20 (fun H locs hR hS => ?_)
        refine g_goto (tgt := 27) C dX9_show_23 (by decide) ?_
        refine g_iret C hR hS dX9_show_27 ?_
        rw [aShow_3 hw2 hb2 h9]
        exact ⟨rfl, _, _, _, _, _, _, _, rfl, hr0⟩
      · -- 20 q
        refine g_callVi C hl.1 hR hS rc_X9 md_X9_change ml_X9_58 (c_X9_change_1 l hI h4 (by omega) (by omega) (by have := hz.2.1 w (by omega); omega) h9) rfl rfl ⟨Nat.le_of_ble_eq_true rfl, Nat.le_of_ble_eq_true rfl⟩ ⟨Nat.le_refl _, Nat.le_refl _⟩ (Nat.le_of_ble_eq_true rfl) dX9_show_20 (fun H locs hR hS => ?_)
        refine g_goto (tgt := 27) C dX9_show_23 (by decide) ?_
        refine g_iret C hR hS dX9_show_27 ?_
        rw [aShow_4 hw2 hb2 h9]
        exact ⟨rfl, _, _, _, _, _, _, _, rfl, aRf_z (aRf_rec hr0)⟩
set_option maxRecDepth 100000 in
set_option maxHeartbeats 4000000 in
/-- set -/
theorem c_X9_set (l : Launch) {X : gX} (hI : gInj X) {mem : gM} {f z a o k t r : Nat → Nat} {S : aS} {v : Int32} (hJ : aI S) (hr : aRf S f z o k t) : gMt l yX9_set cX9_set 2 (some .int) 2 44 X [.ref (gAd X 8 0), .int v] (gM8 mem f z a o k t r) (fun v9 m9 => v9 = some (.int (aSet S v).1) ∧ aRm (aSet S v).2 mem m9) := by
  refine gMt.of (own := RX9) (by decide) rfl hI (by simp [Value.category]) (Nat.le_of_ble_eq_true rfl) ?_
  intro p e s m args below meth c ls H locs C hnm hl hR hS
  have hr0 := hr
  obtain ⟨r1, r2, r3, r4, r5, r6, r7, r8, r9, r10⟩ := hr
  subst r4
  have hz : zI (aZ S) := hJ.1.1
  have hg : zG (aZ S) := hJ.1.2.1
  have hB : aZ S 178 ≤ 999999 := hJ.1.2.2.1
  have h4 : f 3 ≤ 4 := by omega
  have h115 := hz.2.2.2.2.2.2.1
  have h116 := hz.2.2.2.2.2.2.2.1
  refine g_iload_n C hl dX9_set_0 rfl ?_
  refine g_iconst 0 C dX9_set_1 (by decide) ?_
  refine g_iconst 1 C dX9_set_2 (by decide) ?_
  refine g_callSi C hl.1 hR hS md_X9_in ml_X9_28 (c_X9_in l hI (by decide) (by decide)) rfl rfl ⟨Nat.le_of_ble_eq_true rfl, Nat.le_of_ble_eq_true rfl⟩ ⟨Nat.le_refl _, Nat.le_refl _⟩ (Nat.le_of_ble_eq_true rfl) dX9_set_3 (fun H locs hR hS => ?_)
  refine g_ifv_eq (tgt := 19) C dX9_set_6 (by decide) (by decide) (fun c6 => ?_) (fun v ev hv1 hv2 => ?_)
  · -- 6 T
    refine g_bipushM (-2) C dX9_set_19 (by decide) ?_
    refine g_iret C hR hS dX9_set_21 ?_
    rw [aSet_1 c6]
    exact ⟨rfl, _, _, _, _, _, _, _, rfl, hr0⟩
  · -- 6 F
    subst ev
    refine g_aload_n C hl dX9_set_9 rfl ?_
    refine g_bipush 112 C dX9_set_10 (by decide) ?_
    refine g_iload_n C hl dX9_set_12 rfl ?_
    by_cases h9 : aZ S 112 = v
    · -- 13 p
      refine g_callVi C hl.1 hR hS rc_X9 md_X9_change ml_X9_58 (c_X9_change_0 l hI h4 (by omega) (by omega) (by have := hz.2.2.2.1; omega) h9) rfl rfl ⟨Nat.le_of_ble_eq_true rfl, Nat.le_of_ble_eq_true rfl⟩ ⟨Nat.le_refl _, Nat.le_refl _⟩ (Nat.le_of_ble_eq_true rfl) dX9_set_13 (fun H locs hR hS => ?_)
      refine g_goto (tgt := 21) C dX9_set_16 (by decide) ?_
      refine g_iret C hR hS dX9_set_21 ?_
      rw [aSet_2 hv2 h9]
      exact ⟨rfl, _, _, _, _, _, _, _, rfl, hr0⟩
    · -- 13 q
      refine g_callVi C hl.1 hR hS rc_X9 md_X9_change ml_X9_58 (c_X9_change_1 l hI h4 (by omega) (by omega) (by have := hz.2.2.2.1; omega) h9) rfl rfl ⟨Nat.le_of_ble_eq_true rfl, Nat.le_of_ble_eq_true rfl⟩ ⟨Nat.le_refl _, Nat.le_refl _⟩ (Nat.le_of_ble_eq_true rfl) dX9_set_13 (fun H locs hR hS => ?_)
      refine g_goto (tgt := 21) C dX9_set_16 (by decide) ?_
      refine g_iret C hR hS dX9_set_21 ?_
      rw [aSet_3 hv2 h9]
      exact ⟨rfl, _, _, _, _, _, _, _, rfl, aRf_z (aRf_rec hr0)⟩
set_option maxRecDepth 100000 in
set_option maxHeartbeats 4000000 in
/-- begin -/
theorem c_X9_begin (l : Launch) {X : gX} (hI : gInj X) {mem : gM} {f z a o k t r : Nat → Nat} {S : aS} {v : Int32} (hJ : aI S) (hr : aRf S f z o k t) : gMt l yX9_begin cX9_begin 3 (some .int) 2 42 X [.ref (gAd X 8 0), .int v] (gM8 mem f z a o k t r) (fun v9 m9 => v9 = some (.int (aBegin S v).1) ∧ aRm (aBegin S v).2 mem m9) := by
  refine gMt.of (own := RX9) (by decide) rfl hI (by simp [Value.category]) (Nat.le_of_ble_eq_true rfl) ?_
  intro p e s m args below meth c ls H locs C hnm hl hR hS
  have hr0 := hr
  obtain ⟨r1, r2, r3, r4, r5, r6, r7, r8, r9, r10⟩ := hr
  subst r4
  have hz : zI (aZ S) := hJ.1.1
  have hg : zG (aZ S) := hJ.1.2.1
  have hB : aZ S 178 ≤ 999999 := hJ.1.2.2.1
  have h4 : f 3 ≤ 4 := by omega
  have h115 := hz.2.2.2.2.2.2.1
  have h116 := hz.2.2.2.2.2.2.2.1
  refine g_iload_n C hl dX9_begin_0 rfl ?_
  refine g_callSi C hl.1 hR hS md_X9_isAddress ml_X9_68 (c_X9_isAddress l hI) rfl rfl ⟨Nat.le_of_ble_eq_true rfl, Nat.le_of_ble_eq_true rfl⟩ ⟨Nat.le_refl _, Nat.le_refl _⟩ (Nat.le_of_ble_eq_true rfl) dX9_begin_1 (fun H locs hR hS => ?_)
  refine g_ifv_ne (tgt := 9) C dX9_begin_4 (by decide) (by decide) (fun v ev hv1 hv2 => ?_) (fun c4 => ?_)
  · -- 4 T
    subst ev
    refine g_aload_n C hl dX9_begin_9 rfl ?_
    refine g_callVv C hl.1 hR hS rc_X9 md_X9_record ml_X9_48 (c_X9_record l hI h4) rfl rfl ⟨Nat.le_of_ble_eq_true rfl, Nat.le_of_ble_eq_true rfl⟩ ⟨Nat.le_refl _, Nat.le_refl _⟩ (Nat.le_of_ble_eq_true rfl) dX9_begin_10 (fun H locs hR hS => ?_)
    refine g_aload_n C hl dX9_begin_13 rfl ?_
    refine gt_X9_0 C hR fl_X9_7 dX9_begin_14 ?_
    refine g_bipush 114 C dX9_begin_17 (by decide) ?_
    refine r_ald1 C hR (by omega) dX9_begin_19 ?_
    refine g_istore_n C hl dX9_begin_20 (Nat.le_of_ble_eq_true rfl) (fun ls hl => ?_)
    refine g_aload_n C hl dX9_begin_21 rfl ?_
    refine gt_X9_0 C hR fl_X9_7 dX9_begin_22 ?_
    refine g_bipush 114 C dX9_begin_25 (by decide) ?_
    refine g_iload_n C hl dX9_begin_27 rfl ?_
    refine r_ast1 C hR hS (by omega) dX9_begin_28 (fun H locs hR hS => ?_)
    refine g_aload_n C hl dX9_begin_29 rfl ?_
    refine gt_X9_0 C hR fl_X9_7 dX9_begin_30 ?_
    refine g_bipush 113 C dX9_begin_33 (by decide) ?_
    refine g_iconst 0 C dX9_begin_35 (by decide) ?_
    refine r_ast1 C hR hS (by omega) dX9_begin_36 (fun H locs hR hS => ?_)
    refine g_aload_n C hl dX9_begin_37 rfl ?_
    refine gt_X9_0 C hR fl_X9_7 dX9_begin_38 ?_
    refine g_bipush 115 C dX9_begin_41 (by decide) ?_
    refine g_iconst 0 C dX9_begin_43 (by decide) ?_
    refine r_ast1 C hR hS (by omega) dX9_begin_44 (fun H locs hR hS => ?_)
    refine g_aload_n C hl dX9_begin_45 rfl ?_
    refine gt_X9_0 C hR fl_X9_7 dX9_begin_46 ?_
    refine g_bipush 116 C dX9_begin_49 (by decide) ?_
    refine g_iconst 0 C dX9_begin_51 (by decide) ?_
    refine r_ast1 C hR hS (by omega) dX9_begin_52 (fun H locs hR hS => ?_)
    refine g_iload_n C hl dX9_begin_53 rfl ?_
    refine g_iret C hR hS dX9_begin_54 ?_
    rw [aBegin_2 hv2]
    exact ⟨rfl, _, _, _, _, _, _, _, rfl, aRf_z (aRf_rec hr0)⟩
  · -- 4 F
    refine g_iconstM (-1) C dX9_begin_7 (by decide) ?_
    refine g_iret C hR hS dX9_begin_8 ?_
    rw [aBegin_1 c4]
    exact ⟨rfl, _, _, _, _, _, _, _, rfl, hr0⟩
set_option maxRecDepth 100000 in
set_option maxHeartbeats 4000000 in
/-- run -/
theorem c_X9_run (l : Launch) {X : gX} (hI : gInj X) {mem : gM} {f z a o k t r : Nat → Nat} {S : aS} {v : Int32} (hJ : aI S) (hr : aRf S f z o k t) : gMt l yX9_run cX9_run 2 (some .int) 6 133 X [.ref (gAd X 8 0), .int v] (gM8 mem f z a o k t r) (fun v9 m9 => v9 = some (.int (aRun S v).1) ∧ aRm (aRun S v).2 mem m9) := by
  refine gMt.of (own := RX9) (by decide) rfl hI (by simp [Value.category]) (Nat.le_of_ble_eq_true rfl) ?_
  intro p e s m args below meth c ls H locs C hnm hl hR hS
  have hr0 := hr
  obtain ⟨r1, r2, r3, r4, r5, r6, r7, r8, r9, r10⟩ := hr
  subst r4
  have hz : zI (aZ S) := hJ.1.1
  have hg : zG (aZ S) := hJ.1.2.1
  have hB : aZ S 178 ≤ 999999 := hJ.1.2.2.1
  have h4 : f 3 ≤ 4 := by omega
  have h115 := hz.2.2.2.2.2.2.1
  have h116 := hz.2.2.2.2.2.2.2.1
  refine g_iload_n C hl dX9_run_0 rfl ?_
  refine g_iconst 1 C dX9_run_1 (by decide) ?_
  refine g_sipush 999 C dX9_run_2 (by decide) ?_
  refine g_callSi C hl.1 hR hS md_X9_in ml_X9_28 (c_X9_in l hI (by decide) (by decide)) rfl rfl ⟨Nat.le_of_ble_eq_true rfl, Nat.le_of_ble_eq_true rfl⟩ ⟨Nat.le_refl _, Nat.le_refl _⟩ (Nat.le_of_ble_eq_true rfl) dX9_run_5 (fun H locs hR hS => ?_)
  refine g_ifv_ne (tgt := 14) C dX9_run_8 (by decide) (by decide) (fun v ev hv1 hv2 => ?_) (fun c8 => ?_)
  · -- 8 T
    subst ev
    refine g_aload_n C hl dX9_run_14 rfl ?_
    refine gt_X9_0 C hR fl_X9_7 dX9_run_15 ?_
    refine g_bipush 115 C dX9_run_18 (by decide) ?_
    refine r_ald1 C hR (by omega) dX9_run_20 ?_
    refine g_if_le (tgt := 27) C dX9_run_21 (by decide) (by omega) (fun c21 => ?_) (fun c21 => ?_)
    · -- 21 T
      refine g_aload_n C hl dX9_run_27 rfl ?_
      refine gt_X9_0 C hR fl_X9_7 dX9_run_28 ?_
      refine g_sipush 178 C dX9_run_31 (by decide) ?_
      refine r_ald1 C hR (by omega) dX9_run_34 ?_
      refine g_iload_n C hl dX9_run_35 rfl ?_
      refine g_iadd C dX9_run_36 ?_
      refine g_ldc 999999 C cn_X9_101 rfl dX9_run_37 ?_
      refine g_icmp_le (tgt := 45) C dX9_run_39 (by decide) (by omega) (by omega) (fun c39 => ?_) (fun c39 => ?_)
      · -- 39 T
        refine g_aload_n C hl dX9_run_45 rfl ?_
        refine g_callVv C hl.1 hR hS rc_X9 md_X9_record ml_X9_48 (c_X9_record l hI h4) rfl rfl ⟨Nat.le_of_ble_eq_true rfl, Nat.le_of_ble_eq_true rfl⟩ ⟨Nat.le_refl _, Nat.le_refl _⟩ (Nat.le_of_ble_eq_true rfl) dX9_run_46 (fun H locs hR hS => ?_)
        refine g_aload_n C hl dX9_run_49 rfl ?_
        refine g_iload_n C hl dX9_run_50 rfl ?_
        refine g_callVi C hl.1 hR hS rc_X9 md_X9_doRun ml_X9_102 (c_X9_doRun l hI hz hg (by omega)) rfl rfl ⟨Nat.le_of_ble_eq_true rfl, Nat.le_of_ble_eq_true rfl⟩ ⟨Nat.le_refl _, Nat.le_refl _⟩ (Nat.le_of_ble_eq_true rfl) dX9_run_51 (fun H locs hR hS => ?_)
        refine g_iret C hR hS dX9_run_54 ?_
        rw [aRun_4 hv1 hv2 c21 c39]
        exact ⟨rfl, _, _, _, _, _, _, _, rfl, aRf_z (aRf_rec hr0)⟩
      · -- 39 F
        refine g_bipushM (-3) C dX9_run_42 (by decide) ?_
        refine g_iret C hR hS dX9_run_44 ?_
        rw [aRun_3 hv1 hv2 c21 c39]
        exact ⟨rfl, _, _, _, _, _, _, _, rfl, hr0⟩
    · -- 21 F
      refine g_bipushM (-4) C dX9_run_24 (by decide) ?_
      refine g_iret C hR hS dX9_run_26 ?_
      rw [aRun_2 hv1 hv2 c21]
      exact ⟨rfl, _, _, _, _, _, _, _, rfl, hr0⟩
  · -- 8 F
    refine g_bipushM (-2) C dX9_run_11 (by decide) ?_
    refine g_iret C hR hS dX9_run_13 ?_
    rw [aRun_1 c8]
    exact ⟨rfl, _, _, _, _, _, _, _, rfl, hr0⟩
set_option maxRecDepth 100000 in
set_option maxHeartbeats 4000000 in
/-- cell -/
theorem c_X9_cell (l : Launch) {X : gX} (hI : gInj X) {mem : gM} {f z a o k t r : Nat → Nat} {S : aS} {b c9 : Int32} (hJ : aI S) (hr : aRf S f z o k t) : gMt l yX9_cell cX9_cell 3 (some .int) 2 42 X [.ref (gAd X 8 0), .int b, .int c9] (gM8 mem f z a o k t r) (fun v9 m9 => v9 = some (.int (sCell (aZ S) b c9)) ∧ aRm S mem m9) := by
  refine gMt.of (own := RX9) (by decide) rfl hI (by simp [Value.category]) (Nat.le_of_ble_eq_true rfl) ?_
  intro p e s m args below meth c ls H locs C hnm hl hR hS
  have hr0 := hr
  obtain ⟨r1, r2, r3, r4, r5, r6, r7, r8, r9, r10⟩ := hr
  subst r4
  have hz : zI (aZ S) := hJ.1.1
  have hg : zG (aZ S) := hJ.1.2.1
  have hB : aZ S 178 ≤ 999999 := hJ.1.2.2.1
  have h4 : f 3 ≤ 4 := by omega
  have h115 := hz.2.2.2.2.2.2.1
  have h116 := hz.2.2.2.2.2.2.2.1
  refine g_iload_n C hl dX9_cell_0 rfl ?_
  refine g_callSi C hl.1 hR hS md_X9_isBank ml_X9_51 (c_X9_isBank l hI) rfl rfl ⟨Nat.le_of_ble_eq_true rfl, Nat.le_of_ble_eq_true rfl⟩ ⟨Nat.le_refl _, Nat.le_refl _⟩ (Nat.le_of_ble_eq_true rfl) dX9_cell_1 (fun H locs hR hS => ?_)
  refine g_ifv_eq (tgt := 27) C dX9_cell_4 (by decide) (by decide) (fun c4 => ?_) (fun b eb hb1 hb2 => ?_)
  · -- 4 T
    refine g_iconstM (-1) C dX9_cell_27 (by decide) ?_
    refine g_iret C hR hS dX9_cell_28 ?_
    unfold sCell
    rw [if_neg (by rw [c4]; decide)]
    exact ⟨rfl, _, _, _, _, _, _, _, rfl, hr0⟩
  · -- 4 F
    subst eb
    refine g_iload_n C hl dX9_cell_7 rfl ?_
    refine g_callSi C hl.1 hR hS md_X9_isCell ml_X9_55 (c_X9_isCell l hI) rfl rfl ⟨Nat.le_of_ble_eq_true rfl, Nat.le_of_ble_eq_true rfl⟩ ⟨Nat.le_refl _, Nat.le_refl _⟩ (Nat.le_of_ble_eq_true rfl) dX9_cell_8 (fun H locs hR hS => ?_)
    refine g_ifv_eq (tgt := 27) C dX9_cell_11 (by decide) (by decide) (fun c11 => ?_) (fun c9 ec9 hc91 hc92 => ?_)
    · -- 11 T
      refine g_iconstM (-1) C dX9_cell_27 (by decide) ?_
      refine g_iret C hR hS dX9_cell_28 ?_
      unfold sCell
      rw [if_neg (show ¬ gIw c9 0 15 = true by rw [c11]; decide), ite_self]
      exact ⟨rfl, _, _, _, _, _, _, _, rfl, hr0⟩
    · -- 11 F
      subst ec9
      refine g_aload_n C hl dX9_cell_14 rfl ?_
      refine gt_X9_0 C hR fl_X9_7 dX9_cell_15 ?_
      refine g_iload_n C hl dX9_cell_18 rfl ?_
      refine g_iload_n C hl dX9_cell_19 rfl ?_
      refine g_callSi C hl.1 hR hS md_X9_index ml_X9_36 (c_X9_index l hI (by omega) (by omega)) rfl rfl ⟨Nat.le_of_ble_eq_true rfl, Nat.le_of_ble_eq_true rfl⟩ ⟨Nat.le_refl _, Nat.le_refl _⟩ (Nat.le_of_ble_eq_true rfl) dX9_cell_20 (fun H locs hR hS => ?_)
      refine r_ald1 C hR (by have := zIx_lt (b := b) (c := c9) (by omega) (by omega); omega) dX9_cell_23 ?_
      refine g_goto (tgt := 28) C dX9_cell_24 (by decide) ?_
      refine g_iret C hR hS dX9_cell_28 ?_
      unfold sCell
      rw [if_pos (gIw_ok (by omega) hb2 (by decide)), if_pos (gIw_ok (by omega) hc92 (by decide)), nI_clamp (by omega), nI_clamp (by omega)]
      exact ⟨rfl, _, _, _, _, _, _, _, rfl, hr0⟩
set_option maxRecDepth 100000 in
set_option maxHeartbeats 4000000 in
/-- window -/
theorem c_X9_window (l : Launch) {X : gX} (hI : gInj X) {mem : gM} {f z a o k t r : Nat → Nat} {S : aS} {w : Int32} (hJ : aI S) (hr : aRf S f z o k t) : gMt l yX9_window cX9_window 2 (some .int) 2 42 X [.ref (gAd X 8 0), .int w] (gM8 mem f z a o k t r) (fun v9 m9 => v9 = some (.int (sWin (aZ S) w)) ∧ aRm S mem m9) := by
  refine gMt.of (own := RX9) (by decide) rfl hI (by simp [Value.category]) (Nat.le_of_ble_eq_true rfl) ?_
  intro p e s m args below meth c ls H locs C hnm hl hR hS
  have hr0 := hr
  obtain ⟨r1, r2, r3, r4, r5, r6, r7, r8, r9, r10⟩ := hr
  subst r4
  have hz : zI (aZ S) := hJ.1.1
  have hg : zG (aZ S) := hJ.1.2.1
  have hB : aZ S 178 ≤ 999999 := hJ.1.2.2.1
  have h4 : f 3 ≤ 4 := by omega
  have h115 := hz.2.2.2.2.2.2.1
  have h116 := hz.2.2.2.2.2.2.2.1
  refine g_iload_n C hl dX9_window_0 rfl ?_
  refine g_callSi C hl.1 hR hS md_X9_isWindow ml_X9_65 (c_X9_isWindow l hI) rfl rfl ⟨Nat.le_of_ble_eq_true rfl, Nat.le_of_ble_eq_true rfl⟩ ⟨Nat.le_refl _, Nat.le_refl _⟩ (Nat.le_of_ble_eq_true rfl) dX9_window_1 (fun H locs hR hS => ?_)
  refine g_ifv_eq (tgt := 19) C dX9_window_4 (by decide) (by decide) (fun c4 => ?_) (fun w ew hw1 hw2 => ?_)
  · -- 4 T
    refine g_iconstM (-1) C dX9_window_19 (by decide) ?_
    refine g_iret C hR hS dX9_window_20 ?_
    unfold sWin
    rw [if_neg (by rw [c4]; decide)]
    exact ⟨rfl, _, _, _, _, _, _, _, rfl, hr0⟩
  · -- 4 F
    subst ew
    refine g_aload_n C hl dX9_window_7 rfl ?_
    refine gt_X9_0 C hR fl_X9_7 dX9_window_8 ?_
    refine g_bipush 100 C dX9_window_11 (by decide) ?_
    refine g_iload_n C hl dX9_window_13 rfl ?_
    refine g_iadd C dX9_window_14 ?_
    refine r_ald1 C hR (by omega) dX9_window_15 ?_
    refine g_goto (tgt := 20) C dX9_window_16 (by decide) ?_
    refine g_iret C hR hS dX9_window_20 ?_
    unfold sWin
    rw [if_pos (gIw_ok (by omega) hw2 (by decide)), nI_clamp (by omega)]
    exact ⟨rfl, _, _, _, _, _, _, _, rfl, hr0⟩
end
section
/-! ===== the reference's calls, on ===== -/
theorem gMt.mono {l : Launch} {y : MethodName} {cc : ByteArray} {nL fr lo : Nat} {ret : Option FieldType} {X : gX} {av : List Value} {mem : gM} {post post' : Option Value → gM → Prop} (h : gMt l y cc nL ret fr lo X av mem post) (hp : ∀ v m, post v m → post' v m) : gMt l y cc nL ret fr lo X av mem post' := by
  intro p e ha hc hk s m args below hf happ hP hK
  obtain ⟨n, o, h1, h2, h3, h4, h5⟩ := h p e ha hc hk s m args below hf happ hP hK
  obtain ⟨⟨v, mem', q1, q2, q3⟩, q4⟩ := h4
  exact ⟨n, o, h1, h2, h3, ⟨⟨v, mem', q1, hp v mem' q2, q3⟩, q4⟩, h5⟩
theorem gSum_le {f : Nat → Nat} (h : ∀ i, f i ≤ 1) : ∀ n, gSum f n ≤ n
  | 0 => Nat.le_refl _
  | n + 1 => Nat.add_le_add (gSum_le h n) (h n)
theorem zUn_le {z : Nat → Nat} {a b : Nat} (n : Nat) : zUn z a b n ≤ n := gSum_le (fun i => by split <;> omega) n
theorem zCp_le {z : Nat → Nat} {a b : Nat} (hz : zI z) (ha : a < 8) (hb : b < 8) : ∀ n, n ≤ 12 → zI (zCp z a b n)
  | 0, _ => hz
  | n + 1, hn => by
    have h := zCp_le hz ha hb n (by omega)
    have h1 := h.1 _ (zIx_lt ha (show n < 16 by omega))
    have h2 := zIx_lt hb (show n < 16 by omega)
    exact h.upd9 (by omega) (by omega) (by omega) (by omega) (by omega) (by omega) (by omega) (by omega) (fun q hq => by omega) (by omega)
theorem g_iincI {p : Program} {l : Launch} {e : Env} {R : Room} {s : State} {m : MethodId} {args : Array Value} {below : List Frame} {meth : Method} {c : Code} {H : Heap} {locs : List Loc} {cells slots : Nat} {Q : State → Prop} {cc : ByteArray} {pc : Nat} {ls : Array Slot} {rest : List Value} {X : gX} {own : String} {ret : Option FieldType} {nL : Nat} {vs : List (Option Value)} {i : Nat} {n : Int} {x : Int32} (v : Int32) (C : gC X own cc ret nL p s m args meth c) (hl : gL ls vs) (hdg : decode cc pc = .ok (.iinc i n, 3)) (hi : vs[i]? = some (some (.int x))) (hv : x + Int32.ofInt n = v) (kk : ∀ ls' : Array Slot, gL ls' (vs.set i (some (.int v))) → W p l e R s m args below meth c H locs cells slots Q (F0 m (pc + 3) ls' rest)) : W p l e R s m args below meth c H locs cells slots Q (F0 m pc ls rest) := by
  have hlt := (List.getElem?_eq_some_iff.mp hi).1
  obtain ⟨q, hq⟩ := List.getElem?_of_mem (gLs_mem (q := (i, .int x)).mpr hi)
  exact lv_iinc (v := v) C.1 C.2.1 hdg hl.has hq hv hlt rfl (fun ls' h' => kk ls' (hl.set hlt rfl h'))
theorem zWin_lt {z : Nat → Nat} {b : Nat} : ∀ i, zWin z b i < 2 ^ i
  | 0 => Nat.lt_of_lt_of_eq (by decide : 0 < 1) rfl
  | i + 1 => by
    have h := zWin_lt (z := z) (b := b) i
    have e : zWin z b (i + 1) = zWin z b i + (if z (100 + i) = b then 2 ^ i else 0) := rfl
    rw [e, Nat.pow_succ]
    split <;> omega
theorem w_shl : ∀ i, i < 4 → nI 1 <<< (nI i &&& 31) = nI (2 ^ i) := by decide +kernel
theorem w_or0 : ∀ i, i < 4 → ∀ x, x < 16 → x < 2 ^ i → nI x ||| nI (2 ^ i) = nI (x + 2 ^ i) := by decide +kernel
theorem w_or {x i : Nat} (hi : i < 4) (h : x < 2 ^ i) : nI x ||| nI (2 ^ i) = nI (x + 2 ^ i) := by
  refine w_or0 i hi x ?_ h
  have h1 : 2 ^ i ≤ 2 ^ 3 := Nat.pow_le_pow_right (by decide) (by omega)
  omega
theorem w_orz0 : ∀ x, x < 16 → nI x ||| nI 0 = nI (x + 0) := by decide +kernel
theorem w_orz {x i : Nat} (hi : i < 4) (h : x < 2 ^ i) : nI x ||| nI 0 = nI (x + 0) := by
  refine w_orz0 x ?_
  have h1 : 2 ^ i ≤ 2 ^ 3 := Nat.pow_le_pow_right (by decide) (by omega)
  omega
set_option maxRecDepth 100000 in
set_option maxHeartbeats 4000000 in
/-- copyBank -/
theorem c_X9_copyBank (l : Launch) {X : gX} (hI : gInj X) {mem : gM} {f z a o k t r : Nat → Nat} {S : aS} {w b : Int32} (hJ : aI S) (hr : aRf S f z o k t) : gMt l yX9_copyBank cX9_copyBank 5 (some .int) 2 42 X [.ref (gAd X 8 0), .int w, .int b] (gM8 mem f z a o k t r) (fun v9 m9 => v9 = some (.int (aCopy S w b).1) ∧ aRm (aCopy S w b).2 mem m9) := by
  refine gMt.of (own := RX9) (by decide) rfl hI (by simp [Value.category]) (Nat.le_of_ble_eq_true rfl) ?_
  intro p e s m args below meth c ls H locs C hnm hl hR hS
  have hr0 := hr
  obtain ⟨r1, r2, r3, r4, r5, r6, r7, r8, r9, r10⟩ := hr
  subst r4
  have hz : zI (aZ S) := hJ.1.1
  have hg : zG (aZ S) := hJ.1.2.1
  have hB : aZ S 178 ≤ 999999 := hJ.1.2.2.1
  have h4 : f 3 ≤ 4 := by omega
  have h115 := hz.2.2.2.2.2.2.1
  have h116 := hz.2.2.2.2.2.2.2.1
  refine g_iload_n C hl dX9_copyBank_0 rfl ?_
  refine g_callSi C hl.1 hR hS md_X9_isBank ml_X9_51 (c_X9_isBank l hI) rfl rfl ⟨Nat.le_of_ble_eq_true rfl, Nat.le_of_ble_eq_true rfl⟩ ⟨Nat.le_refl _, Nat.le_refl _⟩ (Nat.le_of_ble_eq_true rfl) dX9_copyBank_1 (fun H locs hR hS => ?_)
  refine g_ifv_eq (tgt := 14) C dX9_copyBank_4 (by decide) (by decide) (fun c4 => ?_) (fun fr9 efr9 hfr91 hfr92 => ?_)
  · -- 4 T
    refine g_iconstM (-1) C dX9_copyBank_14 (by decide) ?_
    refine g_iret C hR hS dX9_copyBank_15 ?_
    rw [aCopy_1 c4]
    exact ⟨rfl, _, _, _, _, _, _, _, rfl, hr0⟩
  · -- 4 F
    subst efr9
    refine g_iload_n C hl dX9_copyBank_7 rfl ?_
    refine g_callSi C hl.1 hR hS md_X9_isBank ml_X9_51 (c_X9_isBank l hI) rfl rfl ⟨Nat.le_of_ble_eq_true rfl, Nat.le_of_ble_eq_true rfl⟩ ⟨Nat.le_refl _, Nat.le_refl _⟩ (Nat.le_of_ble_eq_true rfl) dX9_copyBank_8 (fun H locs hR hS => ?_)
    refine g_ifv_ne (tgt := 16) C dX9_copyBank_11 (by decide) (by decide) (fun to eto hto1 hto2 => ?_) (fun c11 => ?_)
    · -- 11 T
      subst eto
      have hfr := hfr92
      have hto := hto2
      have loop2 : ∀ (d i : Nat), i + d = 12 → ¬ zUn (aZ S) fr9 to 12 = 0 → ∀ (ls : Array Slot) (H : Heap) (locs : List Loc), gL ls [some (.ref (gAd X 8 0)), some (.int (nI fr9)), some (.int (nI to)), some (.int (nI (zUn (aZ S) fr9 to 12))), some (.int (nI i))] → gRep X (gM8 mem (fU f 3 (rN (f 3))) (zCp (aZ S) fr9 to i) a (oRec (f 3) o (aZ S)) k t r) H → va_S (gA X) s.heap H locs → W p l e { frames := 2, cells := 0, slots := 0, locals := 42 } s m args below meth c H locs 0 0 (MQ below (gQ X (fun v9 m9 => v9 = some (.int (aCopy S (nI fr9) (nI to)).1) ∧ aRm (aCopy S (nI fr9) (nI to)).2 mem m9)) args s 0 0 (gA X)) (F0 m 81 ls []) := by
        intro d
        induction d with
        | zero =>
          intro i hi c68 ls H locs  hl hR hS
          have hi2 : i = 12 := by omega
          subst hi2
          refine g_iload C hl dX9_copyBank_81 rfl ?_
          refine g_bipush 12 C dX9_copyBank_83 (by decide) ?_
          refine g_icmp_ge (tgt := 116) C dX9_copyBank_85 (by decide) (by omega) (by omega) (fun c85 => ?_) (fun z9 => absurd z9 (by omega))
          refine g_iload_n C hl dX9_copyBank_116 rfl ?_
          refine g_iret C hR hS dX9_copyBank_117 ?_
          rw [aCopy_4 hfr hto c68]
          exact ⟨rfl, _, _, _, _, _, _, _, rfl, aRf_z (aRf_rec hr0)⟩
        | succ d ih =>
          intro i hi c68 ls H locs  hl hR hS
          refine g_iload C hl dX9_copyBank_81 rfl ?_
          refine g_bipush 12 C dX9_copyBank_83 (by decide) ?_
          refine g_icmp_ge (tgt := 116) C dX9_copyBank_85 (by decide) (by omega) (by omega) (fun z9 => absurd z9 (by omega)) (fun c85 => ?_)
          refine g_aload_n C hl dX9_copyBank_88 rfl ?_
          refine gt_X9_0 C hR fl_X9_7 dX9_copyBank_89 ?_
          refine g_iload_n C hl dX9_copyBank_92 rfl ?_
          refine g_iload C hl dX9_copyBank_93 rfl ?_
          refine g_callSi C hl.1 hR hS md_X9_index ml_X9_36 (c_X9_index l hI (by omega) (by omega)) rfl rfl ⟨Nat.le_of_ble_eq_true rfl, Nat.le_of_ble_eq_true rfl⟩ ⟨Nat.le_refl _, Nat.le_refl _⟩ (Nat.le_of_ble_eq_true rfl) dX9_copyBank_95 (fun H locs hR hS => ?_)
          refine g_aload_n C hl dX9_copyBank_98 rfl ?_
          refine gt_X9_0 C hR fl_X9_7 dX9_copyBank_99 ?_
          refine g_iload_n C hl dX9_copyBank_102 rfl ?_
          refine g_iload C hl dX9_copyBank_103 rfl ?_
          refine g_callSi C hl.1 hR hS md_X9_index ml_X9_36 (c_X9_index l hI (by omega) (by omega)) rfl rfl ⟨Nat.le_of_ble_eq_true rfl, Nat.le_of_ble_eq_true rfl⟩ ⟨Nat.le_refl _, Nat.le_refl _⟩ (Nat.le_of_ble_eq_true rfl) dX9_copyBank_105 (fun H locs hR hS => ?_)
          refine r_ald1 C hR (by have := zIx_lt (b := fr9) (c := i) (by omega) (by omega); omega) dX9_copyBank_108 ?_
          refine r_ast1 C hR hS (by have := zIx_lt (b := to) (c := i) (by omega) (by omega); omega) dX9_copyBank_109 (fun H locs hR hS => ?_)
          refine g_iinc (k := 1) C hl dX9_copyBank_110 rfl (by decide) (fun ls hl => ?_)
          refine g_goto (tgt := 81) C dX9_copyBank_113 (by decide) ?_
          refine ih (i + 1) (by omega) c68 ls H locs hl ?_ hS
          exact hR
      have loop1 : ∀ (d i : Nat), i + d = 12 → ∀ (ls : Array Slot) (H : Heap) (locs : List Loc), gL ls [some (.ref (gAd X 8 0)), some (.int (nI fr9)), some (.int (nI to)), some (.int (nI (zUn (aZ S) fr9 to i))), some (.int (nI i))] → gRep X (gM8 mem f (aZ S) a o k t r) H → va_S (gA X) s.heap H locs → W p l e { frames := 2, cells := 0, slots := 0, locals := 42 } s m args below meth c H locs 0 0 (MQ below (gQ X (fun v9 m9 => v9 = some (.int (aCopy S (nI fr9) (nI to)).1) ∧ aRm (aCopy S (nI fr9) (nI to)).2 mem m9)) args s 0 0 (gA X)) (F0 m 21 ls []) := by
        intro d
        induction d with
        | zero =>
          intro i hi  ls H locs  hl hR hS
          have hi2 : i = 12 := by omega
          subst hi2
          refine g_iload C hl dX9_copyBank_21 rfl ?_
          refine g_bipush 12 C dX9_copyBank_23 (by decide) ?_
          refine g_icmp_ge (tgt := 67) C dX9_copyBank_25 (by decide) (by omega) (by omega) (fun c25 => ?_) (fun z9 => absurd z9 (by omega))
          refine g_iload_n C hl dX9_copyBank_67 rfl ?_
          refine g_if_ne (tgt := 74) C dX9_copyBank_68 (by decide) (by have := zUn_le (z := aZ S) (a := fr9) (b := to) 12; omega) (fun c68 => ?_) (fun c68 => ?_)
          · -- 68 T
            refine g_aload_n C hl dX9_copyBank_74 rfl ?_
            refine g_callVv C hl.1 hR hS rc_X9 md_X9_record ml_X9_48 (c_X9_record l hI h4) rfl rfl ⟨Nat.le_of_ble_eq_true rfl, Nat.le_of_ble_eq_true rfl⟩ ⟨Nat.le_refl _, Nat.le_refl _⟩ (Nat.le_of_ble_eq_true rfl) dX9_copyBank_75 (fun H locs hR hS => ?_)
            refine g_iconst 0 C dX9_copyBank_78 (by decide) ?_
            refine g_istore C hl dX9_copyBank_79 (Nat.le_of_ble_eq_true rfl) (fun ls hl => ?_)
            exact loop2 12 0 (by omega) c68 _ _ _ hl hR hS
          · -- 68 F
            refine g_bipushM (-5) C dX9_copyBank_71 (by decide) ?_
            refine g_iret C hR hS dX9_copyBank_73 ?_
            rw [aCopy_3 hfr hto c68]
            exact ⟨rfl, _, _, _, _, _, _, _, rfl, hr0⟩
        | succ d ih =>
          intro i hi  ls H locs  hl hR hS
          refine g_iload C hl dX9_copyBank_21 rfl ?_
          refine g_bipush 12 C dX9_copyBank_23 (by decide) ?_
          refine g_icmp_ge (tgt := 67) C dX9_copyBank_25 (by decide) (by omega) (by omega) (fun z9 => absurd z9 (by omega)) (fun c25 => ?_)
          refine g_iload_n C hl dX9_copyBank_28 rfl ?_
          refine g_aload_n C hl dX9_copyBank_29 rfl ?_
          refine gt_X9_0 C hR fl_X9_7 dX9_copyBank_30 ?_
          refine g_iload_n C hl dX9_copyBank_33 rfl ?_
          refine g_iload C hl dX9_copyBank_34 rfl ?_
          refine g_callSi C hl.1 hR hS md_X9_index ml_X9_36 (c_X9_index l hI (by omega) (by omega)) rfl rfl ⟨Nat.le_of_ble_eq_true rfl, Nat.le_of_ble_eq_true rfl⟩ ⟨Nat.le_refl _, Nat.le_refl _⟩ (Nat.le_of_ble_eq_true rfl) dX9_copyBank_36 (fun H locs hR hS => ?_)
          refine r_ald1 C hR (by have := zIx_lt (b := fr9) (c := i) (by omega) (by omega); omega) dX9_copyBank_39 ?_
          refine g_aload_n C hl dX9_copyBank_40 rfl ?_
          refine gt_X9_0 C hR fl_X9_7 dX9_copyBank_41 ?_
          refine g_iload_n C hl dX9_copyBank_44 rfl ?_
          refine g_iload C hl dX9_copyBank_45 rfl ?_
          refine g_callSi C hl.1 hR hS md_X9_index ml_X9_36 (c_X9_index l hI (by omega) (by omega)) rfl rfl ⟨Nat.le_of_ble_eq_true rfl, Nat.le_of_ble_eq_true rfl⟩ ⟨Nat.le_refl _, Nat.le_refl _⟩ (Nat.le_of_ble_eq_true rfl) dX9_copyBank_47 (fun H locs hR hS => ?_)
          refine r_ald1 C hR (by have := zIx_lt (b := to) (c := i) (by omega) (by omega); omega) dX9_copyBank_50 ?_
          refine g_icmp_eq (tgt := 58) C dX9_copyBank_51 (by decide) (by have := hz.1 (zIx fr9 i) (zIx_lt (by omega) (by omega)); omega) (by have := hz.1 (zIx to i) (zIx_lt (by omega) (by omega)); omega) (fun c51 => ?_) (fun c51 => ?_)
          · -- 51 T
            refine g_iconst 0 C dX9_copyBank_58 (by decide) ?_
            refine g_iadd C dX9_copyBank_59 ?_
            refine g_istore_n C hl dX9_copyBank_60 (Nat.le_of_ble_eq_true rfl) (fun ls hl => ?_)
            refine g_iinc (k := 1) C hl dX9_copyBank_61 rfl (by decide) (fun ls hl => ?_)
            refine g_goto (tgt := 21) C dX9_copyBank_64 (by decide) ?_
            have e9 : zUn (aZ S) fr9 to (i + 1) = zUn (aZ S) fr9 to i + (if aZ S (zIx fr9 i) = aZ S (zIx to i) then 0 else 1) := rfl
            first | rw [if_pos c51] at e9 | rw [if_neg c51] at e9
            rw [← e9] at hl
            refine ih (i + 1) (by omega)  ls H locs hl ?_ hS
            exact hR
          · -- 51 F
            refine g_iconst 1 C dX9_copyBank_54 (by decide) ?_
            refine g_goto (tgt := 59) C dX9_copyBank_55 (by decide) ?_
            refine g_iadd C dX9_copyBank_59 ?_
            refine g_istore_n C hl dX9_copyBank_60 (Nat.le_of_ble_eq_true rfl) (fun ls hl => ?_)
            refine g_iinc (k := 1) C hl dX9_copyBank_61 rfl (by decide) (fun ls hl => ?_)
            refine g_goto (tgt := 21) C dX9_copyBank_64 (by decide) ?_
            have e9 : zUn (aZ S) fr9 to (i + 1) = zUn (aZ S) fr9 to i + (if aZ S (zIx fr9 i) = aZ S (zIx to i) then 0 else 1) := rfl
            first | rw [if_pos c51] at e9 | rw [if_neg c51] at e9
            rw [← e9] at hl
            refine ih (i + 1) (by omega)  ls H locs hl ?_ hS
            exact hR
      refine g_iconst 0 C dX9_copyBank_16 (by decide) ?_
      refine g_istore_n C hl dX9_copyBank_17 (Nat.le_of_ble_eq_true rfl) (fun ls hl => ?_)
      refine g_iconst 0 C dX9_copyBank_18 (by decide) ?_
      refine g_istore C hl dX9_copyBank_19 (Nat.le_of_ble_eq_true rfl) (fun ls hl => ?_)
      exact loop1 12 0 (by omega) _ _ _ hl hR hS
    · -- 11 F
      refine g_iconstM (-1) C dX9_copyBank_14 (by decide) ?_
      refine g_iret C hR hS dX9_copyBank_15 ?_
      rw [aCopy_2 c11]
      exact ⟨rfl, _, _, _, _, _, _, _, rfl, hr0⟩
set_option maxRecDepth 100000 in
set_option maxHeartbeats 4000000 in
/-- type -/
theorem c_X9_type (l : Launch) {X : gX} (hI : gInj X) {mem : gM} {f z a o k t r : Nat → Nat} {S : aS} {ch : Nat} (hJ : aI S) (hr : aRf S f z o k t) : gMt l yX9_type cX9_type 2 (some .int) 0 0 X [.ref (gAd X 8 0), .int (nI ch)] (gM8 mem f z a o k t r) (fun v9 m9 => v9 = some (.int (aType S ch).1) ∧ aRm (aType S ch).2 mem m9) := by
  refine gMt.of (own := RX9) (by decide) rfl hI (by simp [Value.category]) (Nat.le_of_ble_eq_true rfl) ?_
  intro p e s m args below meth c ls H locs C hnm hl hR hS
  have hr0 := hr
  obtain ⟨r1, r2, r3, r4, r5, r6, r7, r8, r9, r10⟩ := hr
  subst r4
  have hz : zI (aZ S) := hJ.1.1
  have hg : zG (aZ S) := hJ.1.2.1
  have hB : aZ S 178 ≤ 999999 := hJ.1.2.2.1
  have h4 : f 3 ≤ 4 := by omega
  have h115 := hz.2.2.2.2.2.2.1
  have h116 := hz.2.2.2.2.2.2.2.1
  refine g_aload_n C hl dX9_type_0 rfl ?_
  refine rt_7 C hR fl_X9_105 dX9_type_1 ?_
  rw [r8]
  refine g_bipush 80 C dX9_type_4 (by decide) ?_
  refine g_icmp_ne (tgt := 12) C dX9_type_6 (by decide) (by omega) (by omega) (fun c6 => ?_) (fun c6 => ?_)
  · -- 6 T
    refine g_aload_n C hl dX9_type_12 rfl ?_
    refine gt_X9_6 C hR fl_X9_22 dX9_type_13 ?_
    refine g_aload_n C hl dX9_type_16 rfl ?_
    refine rt_7 C hR fl_X9_105 dX9_type_17 ?_
    rw [r8]
    refine g_iload_n C hl dX9_type_20 rfl ?_
    refine r_ast5 C hR hS (by omega) dX9_type_21 (fun H locs hR hS => ?_)
    refine g_aload_n C hl dX9_type_22 rfl ?_
    refine g_dup C dX9_type_23 rfl ?_
    refine rt_7 C hR fl_X9_105 dX9_type_24 ?_
    rw [r8]
    refine g_iconst 1 C dX9_type_27 (by decide) ?_
    refine g_iadd C dX9_type_28 ?_
    refine rp_7 C hR hS fl_X9_105 dX9_type_29 (fun H locs hR hS => ?_)
    refine g_aload_n C hl dX9_type_32 rfl ?_
    refine rt_7 C hR fl_X9_105 dX9_type_33 ?_
    rw [fU_s]
    refine g_iret C hR hS dX9_type_36 ?_
    unfold aType
    rw [if_neg c6]
    exact ⟨rfl, _, _, _, _, _, _, _, rfl, by show fU f 7 (aL S + 1) 3 = aN S; rw [fU_n _ _ (by omega)]; exact r1, r2, r3, rfl, by show fU f 7 (aL S + 1) 5 = aK S; rw [fU_n _ _ (by omega)]; exact r5, r6, r7, fU_s _ _ _, by show aL S + 1 ≤ 80; omega, fun j hj => by
          have hj2 : j < aL S + 1 := hj
          show fU t (aL S) ch j = fU (aT S) (aL S) ch j
          by_cases e : j = aL S
          · rw [e, fU_s, fU_s]
          · rw [fU_n _ _ e, fU_n _ _ e]; exact r10 j (by omega)⟩
  · -- 6 F
    refine g_bipushM (-3) C dX9_type_9 (by decide) ?_
    refine g_iret C hR hS dX9_type_11 ?_
    unfold aType
    rw [if_pos c6]
    exact ⟨rfl, _, _, _, _, _, _, _, rfl, hr0⟩
set_option maxRecDepth 100000 in
set_option maxHeartbeats 4000000 in
/-- clearText -/
theorem c_X9_clearText (l : Launch) {X : gX} (hI : gInj X) {mem : gM} {f z a o k t r : Nat → Nat} {S : aS}  (hJ : aI S) (hr : aRf S f z o k t) : gMt l yX9_clearText cX9_clearText 2 (some .int) 0 0 X [.ref (gAd X 8 0)] (gM8 mem f z a o k t r) (fun v9 m9 => v9 = some (.int (aClear S).1) ∧ aRm (aClear S).2 mem m9) := by
  refine gMt.of (own := RX9) (by decide) rfl hI (by simp [Value.category]) (Nat.le_of_ble_eq_true rfl) ?_
  intro p e s m args below meth c ls H locs C hnm hl hR hS
  have hr0 := hr
  obtain ⟨r1, r2, r3, r4, r5, r6, r7, r8, r9, r10⟩ := hr
  subst r4
  have hz : zI (aZ S) := hJ.1.1
  have hg : zG (aZ S) := hJ.1.2.1
  have hB : aZ S 178 ≤ 999999 := hJ.1.2.2.1
  have h4 : f 3 ≤ 4 := by omega
  have h115 := hz.2.2.2.2.2.2.1
  have h116 := hz.2.2.2.2.2.2.2.1
  refine g_aload_n C hl dX9_clearText_0 rfl ?_
  refine rt_7 C hR fl_X9_105 dX9_clearText_1 ?_
  rw [r8]
  refine g_istore_n C hl dX9_clearText_4 (Nat.le_of_ble_eq_true rfl) (fun ls hl => ?_)
  refine g_aload_n C hl dX9_clearText_5 rfl ?_
  refine g_iconst 0 C dX9_clearText_6 (by decide) ?_
  refine rp_7 C hR hS fl_X9_105 dX9_clearText_7 (fun H locs hR hS => ?_)
  refine g_iload_n C hl dX9_clearText_10 rfl ?_
  refine g_iret C hR hS dX9_clearText_11 ?_
  exact ⟨rfl, _, _, _, _, _, _, _, rfl, by show fU f 7 0 3 = aN S; rw [fU_n _ _ (by omega)]; exact r1, r2, r3, rfl, by show fU f 7 0 5 = aK S; rw [fU_n _ _ (by omega)]; exact r5, r6, r7, fU_s _ _ _, Nat.zero_le _, fun j hj => absurd hj (Nat.not_lt_zero j)⟩
set_option maxRecDepth 100000 in
set_option maxHeartbeats 4000000 in
/-- undo -/
theorem c_X9_undo_2 (l : Launch) {X : gX} (hI : gInj X) {mem : gM} {f z a o k t r y : Nat → Nat} (h0 : 0 < f 3) (h4 : f 3 ≤ 4) (hy : ∀ j, j < 198 → o (198 * (f 3 - 1) + j) = y j) : gF l yX9_undo cX9_undo 2 (some .int) 0 0 X [.ref (gAd X 8 0)] (gM8 mem f z a o k t r) (some (.int (nI (f 3 - 1)))) (gM8 mem (fU f 3 (f 3 - 1)) y a o k t r) := by
  refine gMt.of (own := RX9) (by decide) rfl hI (by simp [Value.category]) (Nat.le_of_ble_eq_true rfl) ?_
  intro p e s m args below meth c ls H locs C hnm hl hR hS
  have loop : ∀ (d i : Nat), i + d = 198 → ∀ (ls : Array Slot) (H : Heap) (locs : List Loc), gL ls [some (.ref (gAd X 8 0)), some (.int (nI i))] → gRep X (gM8 mem (fU f 3 (f 3 - 1)) (cpF o z (198 * (f 3 - 1)) 0 i) a o k t r) H → va_S (gA X) s.heap H locs → W p l e { frames := 0, cells := 0, slots := 0, locals := 0 } s m args below meth c H locs 0 0 (MQ below (gQ X (fun v m => v = some (.int (nI (f 3 - 1))) ∧ m = gM8 mem (fU f 3 (f 3 - 1)) y a o k t r)) args s 0 0 (gA X)) (F0 m 22 ls []) := by
    intro d
    induction d with
    | zero =>
      intro i hi  ls H locs  hl hR hS
      have hi2 : i = 198 := by omega
      subst hi2
      refine g_iload_n C hl dX9_undo_22 rfl ?_
      refine g_sipush 198 C dX9_undo_23 (by decide) ?_
      refine g_icmp_ge (tgt := 56) C dX9_undo_26 (by decide) (by omega) (by omega) (fun c26 => ?_) (fun z9 => absurd z9 (by omega))
      have hR := r_arr1 (g := y) hR (fun j hj => by rw [cpF_in (by omega) (by omega), Nat.sub_zero]; exact hy j hj)
      refine g_aload_n C hl dX9_undo_56 rfl ?_
      refine rt_3 C hR fl_X9_40 dX9_undo_57 ?_
      rw [fU_s]
      refine g_iret C hR hS dX9_undo_60 ?_
      exact ⟨rfl, rfl⟩
    | succ d ih =>
      intro i hi  ls H locs  hl hR hS
      refine g_iload_n C hl dX9_undo_22 rfl ?_
      refine g_sipush 198 C dX9_undo_23 (by decide) ?_
      refine g_icmp_ge (tgt := 56) C dX9_undo_26 (by decide) (by omega) (by omega) (fun z9 => absurd z9 (by omega)) (fun c26 => ?_)
      refine g_aload_n C hl dX9_undo_29 rfl ?_
      refine gt_X9_0 C hR fl_X9_7 dX9_undo_30 ?_
      refine g_iload_n C hl dX9_undo_33 rfl ?_
      refine g_aload_n C hl dX9_undo_34 rfl ?_
      refine gt_X9_2 C hR fl_X9_16 dX9_undo_35 ?_
      refine g_sipush 198 C dX9_undo_38 (by decide) ?_
      refine g_aload_n C hl dX9_undo_41 rfl ?_
      refine rt_3 C hR fl_X9_40 dX9_undo_42 ?_
      rw [fU_s]
      refine g_imul C dX9_undo_45 ?_
      refine g_iload_n C hl dX9_undo_46 rfl ?_
      refine g_iadd C dX9_undo_47 ?_
      refine r_ald3 C hR (by omega) dX9_undo_48 ?_
      refine r_ast1 C hR hS (by omega) dX9_undo_49 (fun H locs hR hS => ?_)
      refine g_iinc (k := 1) C hl dX9_undo_50 rfl (by decide) (fun ls hl => ?_)
      refine g_goto (tgt := 22) C dX9_undo_53 (by decide) ?_
      refine ih (i + 1) (by omega)  ls H locs hl ?_ hS
      rw [← cpF_s, Nat.zero_add]
      exact hR
  refine g_aload_n C hl dX9_undo_0 rfl ?_
  refine rt_3 C hR fl_X9_40 dX9_undo_1 ?_
  refine g_if_ne (tgt := 10) C dX9_undo_4 (by decide) (by omega) (fun c4 => ?_) (fun z9 => absurd z9 (by omega))
  refine g_aload_n C hl dX9_undo_10 rfl ?_
  refine g_dup C dX9_undo_11 rfl ?_
  refine rt_3 C hR fl_X9_40 dX9_undo_12 ?_
  refine g_iconst 1 C dX9_undo_15 (by decide) ?_
  refine g_isub C dX9_undo_16 (by omega) ?_
  refine rp_3 C hR hS fl_X9_40 dX9_undo_17 (fun H locs hR hS => ?_)
  refine g_iconst 0 C dX9_undo_20 (by decide) ?_
  refine g_istore_n C hl dX9_undo_21 (Nat.le_of_ble_eq_true rfl) (fun ls hl => ?_)
  exact loop 198 0 (by omega) _ _ _ hl (by rw [cpF_0]; exact hR) hS
theorem a_X9_undo (l : Launch) {X : gX} (hI : gInj X) {mem : gM} {f z a o k t r : Nat → Nat} {S : aS} (hJ : aI S) (hr : aRf S f z o k t) : gMt l yX9_undo cX9_undo 2 (some .int) 0 0 X [.ref (gAd X 8 0)] (gM8 mem f z a o k t r) (fun v9 m9 => v9 = some (.int (aUndo S).1) ∧ aRm (aUndo S).2 mem m9) := by
  have hr0 := hr
  obtain ⟨r1, r2, r3, r4, r5, r6, r7, r8, r9, r10⟩ := hr
  subst r4
  have hz : zI (aZ S) := hJ.1.1
  have hg : zG (aZ S) := hJ.1.2.1
  have hB : aZ S 178 ≤ 999999 := hJ.1.2.2.1
  have h4 : f 3 ≤ 4 := by omega
  have h115 := hz.2.2.2.2.2.2.1
  have h116 := hz.2.2.2.2.2.2.2.1
  unfold aUndo
  by_cases c : aN S = 0
  · rw [if_pos c]
    refine (c_X9_undo_0 l hI (by omega)).mono ?_
    rintro v9 m9 ⟨rfl, rfl⟩
    exact ⟨rfl, _, _, _, _, _, _, _, rfl, hr0⟩
  · rw [if_neg c]
    refine (c_X9_undo_2 l hI (y := aH S (aN S - 1)) (by omega) h4 (fun j hj => by rw [r1]; exact r3 _ (by omega) j hj)).mono ?_
    rintro v9 m9 ⟨rfl, rfl⟩
    rw [r1]
    exact ⟨rfl, _, _, _, _, _, _, _, rfl, fU_s _ _ _, by show aN S - 1 ≤ 4; omega, fun i hi j hj => r3 i (by have : i < aN S - 1 := hi; omega) j hj, rfl, by show fU f 3 (aN S - 1) 5 = aK S; rw [fU_n _ _ (by omega)]; exact r5, r6, r7, by show fU f 3 (aN S - 1) 7 = aL S; rw [fU_n _ _ (by omega)]; exact r8, r9, r10⟩
theorem a_X9_keep (l : Launch) {X : gX} (hI : gInj X) {mem : gM} {f z a o k t r : Nat → Nat} {S : aS} (hJ : aI S) (hr : aRf S f z o k t) : gMt l yX9_keep cX9_keep 2 (some .int) 0 0 X [.ref (gAd X 8 0)] (gM8 mem f z a o k t r) (fun v9 m9 => v9 = some (.int (aKeep S).1) ∧ aRm (aKeep S).2 mem m9) := by
  have hr0 := hr
  obtain ⟨r1, r2, r3, r4, r5, r6, r7, r8, r9, r10⟩ := hr
  subst r4
  have hz : zI (aZ S) := hJ.1.1
  have hg : zG (aZ S) := hJ.1.2.1
  have hB : aZ S 178 ≤ 999999 := hJ.1.2.2.1
  have h4 : f 3 ≤ 4 := by omega
  have h115 := hz.2.2.2.2.2.2.1
  have h116 := hz.2.2.2.2.2.2.2.1
  refine (c_X9_keep l hI).mono ?_
  rintro v9 m9 ⟨rfl, rfl⟩
  exact ⟨rfl, _, _, _, _, _, _, _, rfl, by show fU f 5 1 3 = aN S; rw [fU_n _ _ (by omega)]; exact r1, r2, r3, rfl, fU_s _ _ _, by show 1 < 2; decide, fun _ => rfl, by show fU f 5 1 7 = aL S; rw [fU_n _ _ (by omega)]; exact r8, r9, r10⟩
theorem a_X9_restore (l : Launch) {X : gX} (hI : gInj X) {mem : gM} {f z a o k t r : Nat → Nat} {S : aS} (hJ : aI S) (hr : aRf S f z o k t) : gMt l yX9_restore cX9_restore 2 (some .int) 1 21 X [.ref (gAd X 8 0)] (gM8 mem f z a o k t r) (fun v9 m9 => v9 = some (.int (aRest S).1) ∧ aRm (aRest S).2 mem m9) := by
  have hr0 := hr
  obtain ⟨r1, r2, r3, r4, r5, r6, r7, r8, r9, r10⟩ := hr
  subst r4
  have hz : zI (aZ S) := hJ.1.1
  have hg : zG (aZ S) := hJ.1.2.1
  have hB : aZ S 178 ≤ 999999 := hJ.1.2.2.1
  have h4 : f 3 ≤ 4 := by omega
  have h115 := hz.2.2.2.2.2.2.1
  have h116 := hz.2.2.2.2.2.2.2.1
  unfold aRest
  by_cases c : aK S = 0
  · rw [if_pos c]
    refine (c_X9_restore_0 l hI (by omega)).mono ?_
    rintro v9 m9 ⟨rfl, rfl⟩
    exact ⟨rfl, _, _, _, _, _, _, _, rfl, hr0⟩
  · rw [if_neg c]
    have ek := r7 (by omega)
    refine (c_X9_restore_1 l hI (by omega) h4).mono ?_
    rintro v9 m9 ⟨rfl, rfl⟩
    rw [← ek]
    exact ⟨rfl, _, _, _, _, _, _, _, rfl, aRf_z (aRf_rec hr0)⟩
end
