section
-- ===== PART A: goes FIRST, ahead of the names: the tables' words, and 'selects' of the private methods out of them =====
/-- a private method of a class that the tables say can be made, by its rows of tables_1 -/
def lw_okq (q : MethodName × Nat) : Prop := (q.1.cls ≠ "java/lang/invoke/MethodHandle" ∧ q.1.cls ≠ "java/lang/invoke/VarHandle") ∧ Cond.instantiable q.1.cls q.2 ∈ tables_1 ∧ Cond.privateMethod q.1 ∈ tables_1 ∧ Cond.instanceMethod q.1 ∈ tables_1
theorem lw_p0 : lw_okq (⟨"FarBanks$History", "dropOldest", "()V"⟩, 2) := ⟨⟨by decide +kernel, by decide +kernel⟩, List.mem_of_getElem? (i := 144) (by decide +kernel), List.mem_of_getElem? (i := 245) (by decide +kernel), List.mem_of_getElem? (i := 246) (by decide +kernel)⟩
theorem lw_p1 : lw_okq (⟨"FarBanks$Machine", "hindranceOf", "(II)I"⟩, 8) := ⟨⟨by decide +kernel, by decide +kernel⟩, List.mem_of_getElem? (i := 26) (by decide +kernel), List.mem_of_getElem? (i := 355) (by decide +kernel), List.mem_of_getElem? (i := 356) (by decide +kernel)⟩
theorem lw_p2 : lw_okq (⟨"FarBanks$Machine", "carryOut", "(III)V"⟩, 8) := ⟨⟨by decide +kernel, by decide +kernel⟩, List.mem_of_getElem? (i := 26) (by decide +kernel), List.mem_of_getElem? (i := 362) (by decide +kernel), List.mem_of_getElem? (i := 363) (by decide +kernel)⟩
theorem lw_p3 : lw_okq (⟨"FarBanks$Machine", "increase", "(I)V"⟩, 8) := ⟨⟨by decide +kernel, by decide +kernel⟩, List.mem_of_getElem? (i := 26) (by decide +kernel), List.mem_of_getElem? (i := 366) (by decide +kernel), List.mem_of_getElem? (i := 367) (by decide +kernel)⟩
theorem lw_p4 : lw_okq (⟨"FarBanks$Machine", "callFrom", "(II)V"⟩, 8) := ⟨⟨by decide +kernel, by decide +kernel⟩, List.mem_of_getElem? (i := 26) (by decide +kernel), List.mem_of_getElem? (i := 376) (by decide +kernel), List.mem_of_getElem? (i := 377) (by decide +kernel)⟩
theorem lw_p5 : lw_okq (⟨"FarBanks$Machine", "comeBack", "()V"⟩, 8) := ⟨⟨by decide +kernel, by decide +kernel⟩, List.mem_of_getElem? (i := 26) (by decide +kernel), List.mem_of_getElem? (i := 386) (by decide +kernel), List.mem_of_getElem? (i := 387) (by decide +kernel)⟩
theorem lw_p6 : lw_okq (⟨"FarBanks$Code", "readOrder", "(LFarBanks$Text;)I"⟩, 4) := ⟨⟨by decide +kernel, by decide +kernel⟩, List.mem_of_getElem? (i := 176) (by decide +kernel), List.mem_of_getElem? (i := 419) (by decide +kernel), List.mem_of_getElem? (i := 420) (by decide +kernel)⟩
theorem lw_p7 : lw_okq (⟨"FarBanks$Code", "readKind", "(LFarBanks$Text;)I"⟩, 4) := ⟨⟨by decide +kernel, by decide +kernel⟩, List.mem_of_getElem? (i := 176) (by decide +kernel), List.mem_of_getElem? (i := 423) (by decide +kernel), List.mem_of_getElem? (i := 424) (by decide +kernel)⟩
theorem lw_p8 : lw_okq (⟨"FarBanks$Code", "lengthOfBeginning", "(LFarBanks$Text;Ljava/lang/String;)I"⟩, 4) := ⟨⟨by decide +kernel, by decide +kernel⟩, List.mem_of_getElem? (i := 176) (by decide +kernel), List.mem_of_getElem? (i := 440) (by decide +kernel), List.mem_of_getElem? (i := 441) (by decide +kernel)⟩
theorem lw_p9 : lw_okq (⟨"FarBanks$Code", "readNumber", "(LFarBanks$Text;I)I"⟩, 4) := ⟨⟨by decide +kernel, by decide +kernel⟩, List.mem_of_getElem? (i := 176) (by decide +kernel), List.mem_of_getElem? (i := 499) (by decide +kernel), List.mem_of_getElem? (i := 500) (by decide +kernel)⟩
theorem lw_p10 : lw_okq (⟨"FarBanksModel", "record", "()V"⟩, 12) := ⟨⟨by decide +kernel, by decide +kernel⟩, List.mem_of_getElem? (i := 600) (by decide +kernel), List.mem_of_getElem? (i := 655) (by decide +kernel), List.mem_of_getElem? (i := 656) (by decide +kernel)⟩
theorem lw_p11 : lw_okq (⟨"FarBanksModel", "change", "(II)I"⟩, 12) := ⟨⟨by decide +kernel, by decide +kernel⟩, List.mem_of_getElem? (i := 600) (by decide +kernel), List.mem_of_getElem? (i := 675) (by decide +kernel), List.mem_of_getElem? (i := 676) (by decide +kernel)⟩
theorem lw_p12 : lw_okq (⟨"FarBanksModel", "locked", "()I"⟩, 12) := ⟨⟨by decide +kernel, by decide +kernel⟩, List.mem_of_getElem? (i := 600) (by decide +kernel), List.mem_of_getElem? (i := 683) (by decide +kernel), List.mem_of_getElem? (i := 684) (by decide +kernel)⟩
theorem lw_p13 : lw_okq (⟨"FarBanksModel", "doRun", "(I)I"⟩, 12) := ⟨⟨by decide +kernel, by decide +kernel⟩, List.mem_of_getElem? (i := 600) (by decide +kernel), List.mem_of_getElem? (i := 714) (by decide +kernel), List.mem_of_getElem? (i := 715) (by decide +kernel)⟩
theorem lw_p14 : lw_okq (⟨"FarBanksModel", "step", "()V"⟩, 12) := ⟨⟨by decide +kernel, by decide +kernel⟩, List.mem_of_getElem? (i := 600) (by decide +kernel), List.mem_of_getElem? (i := 718) (by decide +kernel), List.mem_of_getElem? (i := 719) (by decide +kernel)⟩
theorem lw_p15 : lw_okq (⟨"FarBanksModel", "indexAt", "(I)I"⟩, 12) := ⟨⟨by decide +kernel, by decide +kernel⟩, List.mem_of_getElem? (i := 600) (by decide +kernel), List.mem_of_getElem? (i := 722) (by decide +kernel), List.mem_of_getElem? (i := 723) (by decide +kernel)⟩
def lw_privs_1 : List (MethodName × Nat) := [(⟨"FarBanks$History", "dropOldest", "()V"⟩, 2), (⟨"FarBanks$Machine", "hindranceOf", "(II)I"⟩, 8), (⟨"FarBanks$Machine", "carryOut", "(III)V"⟩, 8), (⟨"FarBanks$Machine", "increase", "(I)V"⟩, 8), (⟨"FarBanks$Machine", "callFrom", "(II)V"⟩, 8), (⟨"FarBanks$Machine", "comeBack", "()V"⟩, 8), (⟨"FarBanks$Code", "readOrder", "(LFarBanks$Text;)I"⟩, 4), (⟨"FarBanks$Code", "readKind", "(LFarBanks$Text;)I"⟩, 4), (⟨"FarBanks$Code", "lengthOfBeginning", "(LFarBanks$Text;Ljava/lang/String;)I"⟩, 4), (⟨"FarBanks$Code", "readNumber", "(LFarBanks$Text;I)I"⟩, 4), (⟨"FarBanksModel", "record", "()V"⟩, 12), (⟨"FarBanksModel", "change", "(II)I"⟩, 12), (⟨"FarBanksModel", "locked", "()I"⟩, 12), (⟨"FarBanksModel", "doRun", "(I)I"⟩, 12), (⟨"FarBanksModel", "step", "()V"⟩, 12), (⟨"FarBanksModel", "indexAt", "(I)I"⟩, 12)]
theorem lw_r1 : ∀ q ∈ lw_privs_1, lw_okq q := List.forall_mem_cons.mpr ⟨lw_p0, List.forall_mem_cons.mpr ⟨lw_p1, List.forall_mem_cons.mpr ⟨lw_p2, List.forall_mem_cons.mpr ⟨lw_p3, List.forall_mem_cons.mpr ⟨lw_p4, List.forall_mem_cons.mpr ⟨lw_p5, List.forall_mem_cons.mpr ⟨lw_p6, List.forall_mem_cons.mpr ⟨lw_p7, List.forall_mem_cons.mpr ⟨lw_p8, List.forall_mem_cons.mpr ⟨lw_p9, List.forall_mem_cons.mpr ⟨lw_p10, List.forall_mem_cons.mpr ⟨lw_p11, List.forall_mem_cons.mpr ⟨lw_p12, List.forall_mem_cons.mpr ⟨lw_p13, List.forall_mem_cons.mpr ⟨lw_p14, List.forall_mem_cons.mpr ⟨lw_p15, fun _ h => absurd h List.not_mem_nil⟩⟩⟩⟩⟩⟩⟩⟩⟩⟩⟩⟩⟩⟩⟩⟩
theorem lw_p16 : lw_okq (⟨"FarBanksModel", "bankAt", "(I)I"⟩, 12) := ⟨⟨by decide +kernel, by decide +kernel⟩, List.mem_of_getElem? (i := 600) (by decide +kernel), List.mem_of_getElem? (i := 726) (by decide +kernel), List.mem_of_getElem? (i := 727) (by decide +kernel)⟩
theorem lw_p17 : lw_okq (⟨"FarBanksModel", "keepStep", "(II)V"⟩, 12) := ⟨⟨by decide +kernel, by decide +kernel⟩, List.mem_of_getElem? (i := 600) (by decide +kernel), List.mem_of_getElem? (i := 730) (by decide +kernel), List.mem_of_getElem? (i := 731) (by decide +kernel)⟩
theorem lw_p18 : lw_okq (⟨"FarBanksModel", "whyNot", "(II)I"⟩, 12) := ⟨⟨by decide +kernel, by decide +kernel⟩, List.mem_of_getElem? (i := 600) (by decide +kernel), List.mem_of_getElem? (i := 734) (by decide +kernel), List.mem_of_getElem? (i := 735) (by decide +kernel)⟩
theorem lw_p19 : lw_okq (⟨"FarBanksModel", "order", "(III)V"⟩, 12) := ⟨⟨by decide +kernel, by decide +kernel⟩, List.mem_of_getElem? (i := 600) (by decide +kernel), List.mem_of_getElem? (i := 738) (by decide +kernel), List.mem_of_getElem? (i := 739) (by decide +kernel)⟩
theorem lw_p20 : lw_okq (⟨"FarBanksModel", "write", "(I)V"⟩, 12) := ⟨⟨by decide +kernel, by decide +kernel⟩, List.mem_of_getElem? (i := 600) (by decide +kernel), List.mem_of_getElem? (i := 745) (by decide +kernel), List.mem_of_getElem? (i := 746) (by decide +kernel)⟩
theorem lw_p21 : lw_okq (⟨"FarBanksModel", "call", "(II)V"⟩, 12) := ⟨⟨by decide +kernel, by decide +kernel⟩, List.mem_of_getElem? (i := 600) (by decide +kernel), List.mem_of_getElem? (i := 749) (by decide +kernel), List.mem_of_getElem? (i := 750) (by decide +kernel)⟩
theorem lw_p22 : lw_okq (⟨"FarBanksModel", "back", "()V"⟩, 12) := ⟨⟨by decide +kernel, by decide +kernel⟩, List.mem_of_getElem? (i := 600) (by decide +kernel), List.mem_of_getElem? (i := 753) (by decide +kernel), List.mem_of_getElem? (i := 754) (by decide +kernel)⟩
theorem lw_p23 : lw_okq (⟨"FarBanksModel", "findFault", "()I"⟩, 12) := ⟨⟨by decide +kernel, by decide +kernel⟩, List.mem_of_getElem? (i := 600) (by decide +kernel), List.mem_of_getElem? (i := 769) (by decide +kernel), List.mem_of_getElem? (i := 770) (by decide +kernel)⟩
theorem lw_p24 : lw_okq (⟨"FarBanksModel", "takeOrder", "()I"⟩, 12) := ⟨⟨by decide +kernel, by decide +kernel⟩, List.mem_of_getElem? (i := 600) (by decide +kernel), List.mem_of_getElem? (i := 773) (by decide +kernel), List.mem_of_getElem? (i := 774) (by decide +kernel)⟩
theorem lw_p25 : lw_okq (⟨"FarBanksModel", "sign", "()I"⟩, 12) := ⟨⟨by decide +kernel, by decide +kernel⟩, List.mem_of_getElem? (i := 600) (by decide +kernel), List.mem_of_getElem? (i := 777) (by decide +kernel), List.mem_of_getElem? (i := 778) (by decide +kernel)⟩
theorem lw_p26 : lw_okq (⟨"FarBanksModel", "take", "(Z)V"⟩, 12) := ⟨⟨by decide +kernel, by decide +kernel⟩, List.mem_of_getElem? (i := 600) (by decide +kernel), List.mem_of_getElem? (i := 781) (by decide +kernel), List.mem_of_getElem? (i := 782) (by decide +kernel)⟩
theorem lw_p27 : lw_okq (⟨"FarBanksModel", "takeRest", "(IIII)V"⟩, 12) := ⟨⟨by decide +kernel, by decide +kernel⟩, List.mem_of_getElem? (i := 600) (by decide +kernel), List.mem_of_getElem? (i := 785) (by decide +kernel), List.mem_of_getElem? (i := 786) (by decide +kernel)⟩
theorem lw_p28 : lw_okq (⟨"FarBanksModel", "takeNumber", "(I)I"⟩, 12) := ⟨⟨by decide +kernel, by decide +kernel⟩, List.mem_of_getElem? (i := 600) (by decide +kernel), List.mem_of_getElem? (i := 789) (by decide +kernel), List.mem_of_getElem? (i := 790) (by decide +kernel)⟩
theorem lw_p29 : lw_okq (⟨"FarBanksModel", "sameAs", "(I)I"⟩, 12) := ⟨⟨by decide +kernel, by decide +kernel⟩, List.mem_of_getElem? (i := 600) (by decide +kernel), List.mem_of_getElem? (i := 801) (by decide +kernel), List.mem_of_getElem? (i := 802) (by decide +kernel)⟩
theorem lw_p30 : lw_okq (⟨"FarBanksModel", "windowsOf", "(I)I"⟩, 12) := ⟨⟨by decide +kernel, by decide +kernel⟩, List.mem_of_getElem? (i := 600) (by decide +kernel), List.mem_of_getElem? (i := 809) (by decide +kernel), List.mem_of_getElem? (i := 810) (by decide +kernel)⟩
theorem lw_p31 : lw_okq (⟨"FarBanksModel", "filled", "(I)I"⟩, 12) := ⟨⟨by decide +kernel, by decide +kernel⟩, List.mem_of_getElem? (i := 600) (by decide +kernel), List.mem_of_getElem? (i := 813) (by decide +kernel), List.mem_of_getElem? (i := 814) (by decide +kernel)⟩
def lw_privs_2 : List (MethodName × Nat) := [(⟨"FarBanksModel", "bankAt", "(I)I"⟩, 12), (⟨"FarBanksModel", "keepStep", "(II)V"⟩, 12), (⟨"FarBanksModel", "whyNot", "(II)I"⟩, 12), (⟨"FarBanksModel", "order", "(III)V"⟩, 12), (⟨"FarBanksModel", "write", "(I)V"⟩, 12), (⟨"FarBanksModel", "call", "(II)V"⟩, 12), (⟨"FarBanksModel", "back", "()V"⟩, 12), (⟨"FarBanksModel", "findFault", "()I"⟩, 12), (⟨"FarBanksModel", "takeOrder", "()I"⟩, 12), (⟨"FarBanksModel", "sign", "()I"⟩, 12), (⟨"FarBanksModel", "take", "(Z)V"⟩, 12), (⟨"FarBanksModel", "takeRest", "(IIII)V"⟩, 12), (⟨"FarBanksModel", "takeNumber", "(I)I"⟩, 12), (⟨"FarBanksModel", "sameAs", "(I)I"⟩, 12), (⟨"FarBanksModel", "windowsOf", "(I)I"⟩, 12), (⟨"FarBanksModel", "filled", "(I)I"⟩, 12)]
theorem lw_r2 : ∀ q ∈ lw_privs_2, lw_okq q := List.forall_mem_cons.mpr ⟨lw_p16, List.forall_mem_cons.mpr ⟨lw_p17, List.forall_mem_cons.mpr ⟨lw_p18, List.forall_mem_cons.mpr ⟨lw_p19, List.forall_mem_cons.mpr ⟨lw_p20, List.forall_mem_cons.mpr ⟨lw_p21, List.forall_mem_cons.mpr ⟨lw_p22, List.forall_mem_cons.mpr ⟨lw_p23, List.forall_mem_cons.mpr ⟨lw_p24, List.forall_mem_cons.mpr ⟨lw_p25, List.forall_mem_cons.mpr ⟨lw_p26, List.forall_mem_cons.mpr ⟨lw_p27, List.forall_mem_cons.mpr ⟨lw_p28, List.forall_mem_cons.mpr ⟨lw_p29, List.forall_mem_cons.mpr ⟨lw_p30, List.forall_mem_cons.mpr ⟨lw_p31, fun _ h => absurd h List.not_mem_nil⟩⟩⟩⟩⟩⟩⟩⟩⟩⟩⟩⟩⟩⟩⟩⟩
theorem lw_p32 : lw_okq (⟨"FarBanksModel", "framesTo", "(I)I"⟩, 12) := ⟨⟨by decide +kernel, by decide +kernel⟩, List.mem_of_getElem? (i := 600) (by decide +kernel), List.mem_of_getElem? (i := 817) (by decide +kernel), List.mem_of_getElem? (i := 818) (by decide +kernel)⟩
theorem lw_p33 : lw_okq (⟨"FarBanksModel", "putAside", "()V"⟩, 12) := ⟨⟨by decide +kernel, by decide +kernel⟩, List.mem_of_getElem? (i := 600) (by decide +kernel), List.mem_of_getElem? (i := 837) (by decide +kernel), List.mem_of_getElem? (i := 838) (by decide +kernel)⟩
theorem lw_p34 : lw_okq (⟨"FarBanksModel", "putBack", "()V"⟩, 12) := ⟨⟨by decide +kernel, by decide +kernel⟩, List.mem_of_getElem? (i := 600) (by decide +kernel), List.mem_of_getElem? (i := 841) (by decide +kernel), List.mem_of_getElem? (i := 842) (by decide +kernel)⟩
theorem lw_p35 : lw_okq (⟨"FarBanksModel", "unlikeCells", "()I"⟩, 12) := ⟨⟨by decide +kernel, by decide +kernel⟩, List.mem_of_getElem? (i := 600) (by decide +kernel), List.mem_of_getElem? (i := 849) (by decide +kernel), List.mem_of_getElem? (i := 850) (by decide +kernel)⟩
def lw_privs_3 : List (MethodName × Nat) := [(⟨"FarBanksModel", "framesTo", "(I)I"⟩, 12), (⟨"FarBanksModel", "putAside", "()V"⟩, 12), (⟨"FarBanksModel", "putBack", "()V"⟩, 12), (⟨"FarBanksModel", "unlikeCells", "()I"⟩, 12)]
theorem lw_r3 : ∀ q ∈ lw_privs_3, lw_okq q := List.forall_mem_cons.mpr ⟨lw_p32, List.forall_mem_cons.mpr ⟨lw_p33, List.forall_mem_cons.mpr ⟨lw_p34, List.forall_mem_cons.mpr ⟨lw_p35, fun _ h => absurd h List.not_mem_nil⟩⟩⟩⟩
def lw_privs : List (MethodName × Nat) := lw_privs_1 ++ (lw_privs_2 ++ (lw_privs_3))
def lw_tbl : List Cond := k2_sels lw_privs ++ tables_1
theorem lw_privs_ok : ∀ q ∈ lw_privs, lw_okq q := by
  show ∀ q ∈ lw_privs_1 ++ (lw_privs_2 ++ (lw_privs_3)), lw_okq q
  exact List.forall_mem_append.mpr ⟨lw_r1, List.forall_mem_append.mpr ⟨lw_r2, lw_r3⟩⟩
end
section
def RX0 : String := "FarBanks$Banks"
def TX0 : u_T := fun k => match k with
  | 0 => ("FarBanks$Banks", "cells", "LFarBanks$Row;", true)
  | 1 => ("FarBanks$Banks", "alone", "LFarBanks$Row;", true)
  | 2 => ("FarBanks$Banks", "shown", "LFarBanks$Row;", true)
  | 3 => ("FarBanks$Banks", "written", "LFarBanks$Row;", true)
  | _ => ("FarBanks$Banks", "refused", "LFarBanks$Row;", true)
def tyX0 : Nat → FieldType := fun k => match k with
  | 0 => .object "FarBanks$Row"
  | 1 => .object "FarBanks$Row"
  | 2 => .object "FarBanks$Row"
  | 3 => .object "FarBanks$Row"
  | _ => .object "FarBanks$Row"
abbrev wsX00 : List Cond := u_ws RX0 TX0 5
theorem nmX0 : ∀ a, a < 5 → ∀ b, b < 5 → a ≠ b → (TX0 a).2.1 ≠ (TX0 b).2.1 := by decide +kernel
theorem tyX0_ok : ∀ k, k < 5 → parseFieldDescriptor (TX0 k).2.2.1 = some (tyX0 k) := by decide +kernel
abbrev cX0_init : ByteArray := prog_2_method_1_code
def yX0_init : MethodName := ⟨RX0, "<init>", "()V"⟩
abbrev cX0_copyFrom : ByteArray := prog_2_method_2_code
def yX0_copyFrom : MethodName := ⟨RX0, "copyFrom", "(LFarBanks$Banks;)V"⟩
abbrev cX0_numberIn : ByteArray := prog_2_method_3_code
def yX0_numberIn : MethodName := ⟨RX0, "numberIn", "(II)I"⟩
abbrev cX0_fill : ByteArray := prog_2_method_4_code
def yX0_fill : MethodName := ⟨RX0, "fill", "(III)V"⟩
abbrev cX0_bankAt : ByteArray := prog_2_method_5_code
def yX0_bankAt : MethodName := ⟨RX0, "bankAt", "(I)I"⟩
abbrev cX0_numberAt : ByteArray := prog_2_method_6_code
def yX0_numberAt : MethodName := ⟨RX0, "numberAt", "(I)I"⟩
abbrev cX0_storeUnlessAlone : ByteArray := prog_2_method_7_code
def yX0_storeUnlessAlone : MethodName := ⟨RX0, "storeUnlessAlone", "(II)Z"⟩
abbrev cX0_isAlone : ByteArray := prog_2_method_8_code
def yX0_isAlone : MethodName := ⟨RX0, "isAlone", "(I)Z"⟩
abbrev cX0_differencesOf : ByteArray := prog_2_method_9_code
def yX0_differencesOf : MethodName := ⟨RX0, "differencesOf", "(II)I"⟩
abbrev cX0_copyCells : ByteArray := prog_2_method_10_code
def yX0_copyCells : MethodName := ⟨RX0, "copyCells", "(II)V"⟩
abbrev cX0_twinOf : ByteArray := prog_2_method_11_code
def yX0_twinOf : MethodName := ⟨RX0, "twinOf", "(I)I"⟩
abbrev cX0_windowsOf : ByteArray := prog_2_method_12_code
def yX0_windowsOf : MethodName := ⟨RX0, "windowsOf", "(I)I"⟩
abbrev cX0_usedCellsOf : ByteArray := prog_2_method_13_code
def yX0_usedCellsOf : MethodName := ⟨RX0, "usedCellsOf", "(I)I"⟩
abbrev cX0_indexOf : ByteArray := prog_2_method_14_code
def yX0_indexOf : MethodName := ⟨RX0, "indexOf", "(II)I"⟩
def RX1 : String := "FarBanks$Code"
def TX1 : u_T := fun k => match k with
  | 0 => ("FarBanks$Code", "orders", "LFarBanks$Row;", true)
  | 1 => ("FarBanks$Code", "size", "I", false)
  | 2 => ("FarBanks$Code", "position", "I", false)
  | _ => ("FarBanks$Code", "isSound", "Z", false)
def tyX1 : Nat → FieldType := fun k => match k with
  | 0 => .object "FarBanks$Row"
  | 1 => .int
  | 2 => .int
  | _ => .boolean
abbrev wsX10 : List Cond := u_ws RX1 TX1 4
theorem nmX1 : ∀ a, a < 4 → ∀ b, b < 4 → a ≠ b → (TX1 a).2.1 ≠ (TX1 b).2.1 := by decide +kernel
theorem tyX1_ok : ∀ k, k < 4 → parseFieldDescriptor (TX1 k).2.2.1 = some (tyX1 k) := by decide +kernel
abbrev cX1_init : ByteArray := prog_3_method_1_code
def yX1_init : MethodName := ⟨RX1, "<init>", "()V"⟩
abbrev cX1_readFrom : ByteArray := prog_3_method_2_code
def yX1_readFrom : MethodName := ⟨RX1, "readFrom", "(LFarBanks$Text;)V"⟩
abbrev cX1_readOrder : ByteArray := prog_3_method_3_code
def yX1_readOrder : MethodName := ⟨RX1, "readOrder", "(LFarBanks$Text;)I"⟩
abbrev cX1_readKind : ByteArray := prog_3_method_4_code
def yX1_readKind : MethodName := ⟨RX1, "readKind", "(LFarBanks$Text;)I"⟩
abbrev cX1_lengthOfBeginning : ByteArray := prog_3_method_5_code
def yX1_lengthOfBeginning : MethodName := ⟨RX1, "lengthOfBeginning", "(LFarBanks$Text;Ljava/lang/String;)I"⟩
abbrev cX1_readNumber : ByteArray := prog_3_method_6_code
def yX1_readNumber : MethodName := ⟨RX1, "readNumber", "(LFarBanks$Text;I)I"⟩
abbrev cX1_digitAt : ByteArray := prog_3_method_7_code
def yX1_digitAt : MethodName := ⟨RX1, "digitAt", "(LFarBanks$Text;I)I"⟩
abbrev cX1_mostFirst : ByteArray := prog_3_method_8_code
def yX1_mostFirst : MethodName := ⟨RX1, "mostFirst", "(I)I"⟩
abbrev cX1_mostSecond : ByteArray := prog_3_method_9_code
def yX1_mostSecond : MethodName := ⟨RX1, "mostSecond", "(I)I"⟩
abbrev cX1_wordOf : ByteArray := prog_3_method_10_code
def yX1_wordOf : MethodName := ⟨RX1, "wordOf", "(I)Ljava/lang/String;"⟩
def RX2 : String := "FarBanks$Frames"
def TX2 : u_T := fun k => match k with
  | 0 => ("FarBanks$Frames", "parts", "LFarBanks$Row;", true)
  | _ => ("FarBanks$Frames", "size", "I", false)
def tyX2 : Nat → FieldType := fun k => match k with
  | 0 => .object "FarBanks$Row"
  | _ => .int
abbrev wsX20 : List Cond := u_ws RX2 TX2 2
theorem nmX2 : ∀ a, a < 2 → ∀ b, b < 2 → a ≠ b → (TX2 a).2.1 ≠ (TX2 b).2.1 := by decide +kernel
theorem tyX2_ok : ∀ k, k < 2 → parseFieldDescriptor (TX2 k).2.2.1 = some (tyX2 k) := by decide +kernel
abbrev cX2_init : ByteArray := prog_4_method_1_code
def yX2_init : MethodName := ⟨RX2, "<init>", "()V"⟩
abbrev cX2_copyFrom : ByteArray := prog_4_method_2_code
def yX2_copyFrom : MethodName := ⟨RX2, "copyFrom", "(LFarBanks$Frames;)V"⟩
abbrev cX2_add : ByteArray := prog_4_method_3_code
def yX2_add : MethodName := ⟨RX2, "add", "(III)V"⟩
abbrev cX2_tell : ByteArray := prog_4_method_4_code
def yX2_tell : MethodName := ⟨RX2, "tell", "(II)I"⟩
abbrev cX2_howManyBackTo : ByteArray := prog_4_method_5_code
def yX2_howManyBackTo : MethodName := ⟨RX2, "howManyBackTo", "(I)I"⟩
def RX3 : String := "FarBanks$History"
def TX3 : u_T := fun k => match k with
  | 0 => ("FarBanks$History", "states", "[LFarBanks$Machine;", true)
  | _ => ("FarBanks$History", "size", "I", false)
def tyX3 : Nat → FieldType := fun k => match k with
  | 0 => .array (.object "FarBanks$Machine")
  | _ => .int
abbrev wsX30 : List Cond := u_ws RX3 TX3 2
theorem nmX3 : ∀ a, a < 2 → ∀ b, b < 2 → a ≠ b → (TX3 a).2.1 ≠ (TX3 b).2.1 := by decide +kernel
theorem tyX3_ok : ∀ k, k < 2 → parseFieldDescriptor (TX3 k).2.2.1 = some (tyX3 k) := by decide +kernel
abbrev cX3_init : ByteArray := prog_5_method_1_code
def yX3_init : MethodName := ⟨RX3, "<init>", "()V"⟩
abbrev cX3_remember : ByteArray := prog_5_method_2_code
def yX3_remember : MethodName := ⟨RX3, "remember", "(LFarBanks$Machine;)V"⟩
abbrev cX3_bringBack : ByteArray := prog_5_method_3_code
def yX3_bringBack : MethodName := ⟨RX3, "bringBack", "(LFarBanks$Machine;)V"⟩
abbrev cX3_dropOldest : ByteArray := prog_5_method_4_code
def yX3_dropOldest : MethodName := ⟨RX3, "dropOldest", "()V"⟩
def RX4 : String := "FarBanks$Machine"
def TX4 : u_T := fun k => match k with
  | 0 => ("FarBanks$Machine", "banks", "LFarBanks$Banks;", true)
  | 1 => ("FarBanks$Machine", "frames", "LFarBanks$Frames;", true)
  | 2 => ("FarBanks$Machine", "trail", "LFarBanks$Trail;", true)
  | 3 => ("FarBanks$Machine", "number", "I", false)
  | 4 => ("FarBanks$Machine", "place", "I", false)
  | 5 => ("FarBanks$Machine", "reason", "I", false)
  | 6 => ("FarBanks$Machine", "strict", "I", false)
  | _ => ("FarBanks$Machine", "calls", "I", false)
def tyX4 : Nat → FieldType := fun k => match k with
  | 0 => .object "FarBanks$Banks"
  | 1 => .object "FarBanks$Frames"
  | 2 => .object "FarBanks$Trail"
  | 3 => .int
  | 4 => .int
  | 5 => .int
  | 6 => .int
  | _ => .int
abbrev wsX40 : List Cond := u_ws RX4 TX4 8
theorem nmX4 : ∀ a, a < 8 → ∀ b, b < 8 → a ≠ b → (TX4 a).2.1 ≠ (TX4 b).2.1 := by decide +kernel
theorem tyX4_ok : ∀ k, k < 8 → parseFieldDescriptor (TX4 k).2.2.1 = some (tyX4 k) := by decide +kernel
abbrev cX4_init : ByteArray := prog_6_method_1_code
def yX4_init : MethodName := ⟨RX4, "<init>", "()V"⟩
abbrev cX4_copyFrom : ByteArray := prog_6_method_2_code
def yX4_copyFrom : MethodName := ⟨RX4, "copyFrom", "(LFarBanks$Machine;)V"⟩
abbrev cX4_startAt : ByteArray := prog_6_method_3_code
def yX4_startAt : MethodName := ⟨RX4, "startAt", "(I)V"⟩
abbrev cX4_takeSteps : ByteArray := prog_6_method_4_code
def yX4_takeSteps : MethodName := ⟨RX4, "takeSteps", "(I)I"⟩
abbrev cX4_step : ByteArray := prog_6_method_5_code
def yX4_step : MethodName := ⟨RX4, "step", "()V"⟩
abbrev cX4_hindranceOf : ByteArray := prog_6_method_6_code
def yX4_hindranceOf : MethodName := ⟨RX4, "hindranceOf", "(II)I"⟩
abbrev cX4_isBeyond : ByteArray := prog_6_method_7_code
def yX4_isBeyond : MethodName := ⟨RX4, "isBeyond", "(II)Z"⟩
abbrev cX4_carryOut : ByteArray := prog_6_method_8_code
def yX4_carryOut : MethodName := ⟨RX4, "carryOut", "(III)V"⟩
abbrev cX4_increase : ByteArray := prog_6_method_9_code
def yX4_increase : MethodName := ⟨RX4, "increase", "(I)V"⟩
abbrev cX4_callFrom : ByteArray := prog_6_method_10_code
def yX4_callFrom : MethodName := ⟨RX4, "callFrom", "(II)V"⟩
abbrev cX4_comeBack : ByteArray := prog_6_method_11_code
def yX4_comeBack : MethodName := ⟨RX4, "comeBack", "()V"⟩
def RX5 : String := "FarBanks$Row"
def TX5 : u_T := fun k => match k with
  | _ => ("FarBanks$Row", "numbers", "[I", true)
def tyX5 : Nat → FieldType := fun k => match k with
  | _ => .array .int
abbrev wsX50 : List Cond := u_ws RX5 TX5 1
theorem nmX5 : ∀ a, a < 1 → ∀ b, b < 1 → a ≠ b → (TX5 a).2.1 ≠ (TX5 b).2.1 := by decide +kernel
theorem tyX5_ok : ∀ k, k < 1 → parseFieldDescriptor (TX5 k).2.2.1 = some (tyX5 k) := by decide +kernel
abbrev cX5_init : ByteArray := prog_7_method_1_code
def yX5_init : MethodName := ⟨RX5, "<init>", "(I)V"⟩
abbrev cX5_read : ByteArray := prog_7_method_2_code
def yX5_read : MethodName := ⟨RX5, "read", "(I)I"⟩
abbrev cX5_write : ByteArray := prog_7_method_3_code
def yX5_write : MethodName := ⟨RX5, "write", "(II)V"⟩
abbrev cX5_sum : ByteArray := prog_7_method_4_code
def yX5_sum : MethodName := ⟨RX5, "sum", "()I"⟩
abbrev cX5_differencesTo : ByteArray := prog_7_method_5_code
def yX5_differencesTo : MethodName := ⟨RX5, "differencesTo", "(LFarBanks$Row;)I"⟩
abbrev cX5_copyFrom : ByteArray := prog_7_method_6_code
def yX5_copyFrom : MethodName := ⟨RX5, "copyFrom", "(LFarBanks$Row;)V"⟩
def RX6 : String := "FarBanks$Text"
def TX6 : u_T := fun k => match k with
  | 0 => ("FarBanks$Text", "characters", "[C", true)
  | _ => ("FarBanks$Text", "length", "I", false)
def tyX6 : Nat → FieldType := fun k => match k with
  | 0 => .array .char
  | _ => .int
abbrev wsX60 : List Cond := u_ws RX6 TX6 2
theorem nmX6 : ∀ a, a < 2 → ∀ b, b < 2 → a ≠ b → (TX6 a).2.1 ≠ (TX6 b).2.1 := by decide +kernel
theorem tyX6_ok : ∀ k, k < 2 → parseFieldDescriptor (TX6 k).2.2.1 = some (tyX6 k) := by decide +kernel
abbrev cX6_init : ByteArray := prog_8_method_1_code
def yX6_init : MethodName := ⟨RX6, "<init>", "()V"⟩
abbrev cX6_isFull : ByteArray := prog_8_method_2_code
def yX6_isFull : MethodName := ⟨RX6, "isFull", "()Z"⟩
abbrev cX6_append : ByteArray := prog_8_method_3_code
def yX6_append : MethodName := ⟨RX6, "append", "(C)V"⟩
abbrev cX6_at : ByteArray := prog_8_method_4_code
def yX6_at : MethodName := ⟨RX6, "at", "(I)I"⟩
def RX7 : String := "FarBanks$Trail"
def TX7 : u_T := fun k => match k with
  | 0 => ("FarBanks$Trail", "parts", "LFarBanks$Row;", true)
  | _ => ("FarBanks$Trail", "total", "I", false)
def tyX7 : Nat → FieldType := fun k => match k with
  | 0 => .object "FarBanks$Row"
  | _ => .int
abbrev wsX70 : List Cond := u_ws RX7 TX7 2
theorem nmX7 : ∀ a, a < 2 → ∀ b, b < 2 → a ≠ b → (TX7 a).2.1 ≠ (TX7 b).2.1 := by decide +kernel
theorem tyX7_ok : ∀ k, k < 2 → parseFieldDescriptor (TX7 k).2.2.1 = some (tyX7 k) := by decide +kernel
abbrev cX7_init : ByteArray := prog_9_method_1_code
def yX7_init : MethodName := ⟨RX7, "<init>", "()V"⟩
abbrev cX7_copyFrom : ByteArray := prog_9_method_2_code
def yX7_copyFrom : MethodName := ⟨RX7, "copyFrom", "(LFarBanks$Trail;)V"⟩
abbrev cX7_add : ByteArray := prog_9_method_3_code
def yX7_add : MethodName := ⟨RX7, "add", "(III)V"⟩
abbrev cX7_tell : ByteArray := prog_9_method_4_code
def yX7_tell : MethodName := ⟨RX7, "tell", "(II)I"⟩
def RX8 : String := "FarBanks"
def TX8 : u_T := fun k => match k with
  | 0 => ("FarBanks", "now", "LFarBanks$Machine;", true)
  | 1 => ("FarBanks", "trial", "LFarBanks$Machine;", true)
  | 2 => ("FarBanks", "snapshot", "LFarBanks$Machine;", true)
  | 3 => ("FarBanks", "history", "LFarBanks$History;", true)
  | 4 => ("FarBanks", "text", "LFarBanks$Text;", true)
  | 5 => ("FarBanks", "code", "LFarBanks$Code;", true)
  | _ => ("FarBanks", "hasSnapshot", "Z", false)
def tyX8 : Nat → FieldType := fun k => match k with
  | 0 => .object "FarBanks$Machine"
  | 1 => .object "FarBanks$Machine"
  | 2 => .object "FarBanks$Machine"
  | 3 => .object "FarBanks$History"
  | 4 => .object "FarBanks$Text"
  | 5 => .object "FarBanks$Code"
  | _ => .boolean
abbrev wsX80 : List Cond := u_ws RX8 TX8 7
theorem nmX8 : ∀ a, a < 7 → ∀ b, b < 7 → a ≠ b → (TX8 a).2.1 ≠ (TX8 b).2.1 := by decide +kernel
theorem tyX8_ok : ∀ k, k < 7 → parseFieldDescriptor (TX8 k).2.2.1 = some (tyX8 k) := by decide +kernel
abbrev cX8_init : ByteArray := prog_1_method_1_code
def yX8_init : MethodName := ⟨RX8, "<init>", "()V"⟩
abbrev cX8_put : ByteArray := prog_1_method_2_code
def yX8_put : MethodName := ⟨RX8, "put", "(III)I"⟩
abbrev cX8_lock : ByteArray := prog_1_method_3_code
def yX8_lock : MethodName := ⟨RX8, "lock", "(IZ)I"⟩
abbrev cX8_show : ByteArray := prog_1_method_4_code
def yX8_show : MethodName := ⟨RX8, "show", "(II)I"⟩
abbrev cX8_copyBank : ByteArray := prog_1_method_5_code
def yX8_copyBank : MethodName := ⟨RX8, "copyBank", "(II)I"⟩
abbrev cX8_set : ByteArray := prog_1_method_6_code
def yX8_set : MethodName := ⟨RX8, "set", "(I)I"⟩
abbrev cX8_begin : ByteArray := prog_1_method_7_code
def yX8_begin : MethodName := ⟨RX8, "begin", "(I)I"⟩
abbrev cX8_run : ByteArray := prog_1_method_8_code
def yX8_run : MethodName := ⟨RX8, "run", "(I)I"⟩
abbrev cX8_type : ByteArray := prog_1_method_9_code
def yX8_type : MethodName := ⟨RX8, "type", "(C)I"⟩
abbrev cX8_clearText : ByteArray := prog_1_method_10_code
def yX8_clearText : MethodName := ⟨RX8, "clearText", "()I"⟩
abbrev cX8_assemble : ByteArray := prog_1_method_11_code
def yX8_assemble : MethodName := ⟨RX8, "assemble", "(II)I"⟩
abbrev cX8_undo : ByteArray := prog_1_method_12_code
def yX8_undo : MethodName := ⟨RX8, "undo", "()I"⟩
abbrev cX8_keep : ByteArray := prog_1_method_13_code
def yX8_keep : MethodName := ⟨RX8, "keep", "()I"⟩
abbrev cX8_restore : ByteArray := prog_1_method_14_code
def yX8_restore : MethodName := ⟨RX8, "restore", "()I"⟩
abbrev cX8_cell : ByteArray := prog_1_method_15_code
def yX8_cell : MethodName := ⟨RX8, "cell", "(II)I"⟩
abbrev cX8_address : ByteArray := prog_1_method_16_code
def yX8_address : MethodName := ⟨RX8, "address", "(II)I"⟩
abbrev cX8_bank : ByteArray := prog_1_method_17_code
def yX8_bank : MethodName := ⟨RX8, "bank", "(II)I"⟩
abbrev cX8_window : ByteArray := prog_1_method_18_code
def yX8_window : MethodName := ⟨RX8, "window", "(I)I"⟩
abbrev cX8_frame : ByteArray := prog_1_method_19_code
def yX8_frame : MethodName := ⟨RX8, "frame", "(II)I"⟩
abbrev cX8_latest : ByteArray := prog_1_method_20_code
def yX8_latest : MethodName := ⟨RX8, "latest", "(II)I"⟩
abbrev cX8_next : ByteArray := prog_1_method_21_code
def yX8_next : MethodName := ⟨RX8, "next", "(I)I"⟩
abbrev cX8_ifRun : ByteArray := prog_1_method_22_code
def yX8_ifRun : MethodName := ⟨RX8, "ifRun", "(II)I"⟩
abbrev cX8_backIn : ByteArray := prog_1_method_23_code
def yX8_backIn : MethodName := ⟨RX8, "backIn", "()I"⟩
abbrev cX8_count : ByteArray := prog_1_method_24_code
def yX8_count : MethodName := ⟨RX8, "count", "(I)I"⟩
abbrev cX8_isBelow : ByteArray := prog_1_method_25_code
def yX8_isBelow : MethodName := ⟨RX8, "isBelow", "(II)Z"⟩
abbrev cX8_isStepsOfRun : ByteArray := prog_1_method_26_code
def yX8_isStepsOfRun : MethodName := ⟨RX8, "isStepsOfRun", "(I)Z"⟩
def RX9 : String := "FarBanksModel"
def TX9 : u_T := fun k => match k with
  | 0 => ("FarBanksModel", "z", "[I", true)
  | 1 => ("FarBanksModel", "aside", "[I", true)
  | 2 => ("FarBanksModel", "old", "[I", true)
  | 3 => ("FarBanksModel", "states", "I", false)
  | 4 => ("FarBanksModel", "kept", "[I", true)
  | 5 => ("FarBanksModel", "isKept", "Z", false)
  | 6 => ("FarBanksModel", "text", "[I", true)
  | 7 => ("FarBanksModel", "length", "I", false)
  | 8 => ("FarBanksModel", "place", "I", false)
  | 9 => ("FarBanksModel", "isWrong", "Z", false)
  | 10 => ("FarBanksModel", "orders", "[I", true)
  | _ => ("FarBanksModel", "many", "I", false)
def tyX9 : Nat → FieldType := fun k => match k with
  | 0 => .array .int
  | 1 => .array .int
  | 2 => .array .int
  | 3 => .int
  | 4 => .array .int
  | 5 => .boolean
  | 6 => .array .int
  | 7 => .int
  | 8 => .int
  | 9 => .boolean
  | 10 => .array .int
  | _ => .int
abbrev wsX90 : List Cond := u_ws RX9 TX9 12
theorem nmX9 : ∀ a, a < 12 → ∀ b, b < 12 → a ≠ b → (TX9 a).2.1 ≠ (TX9 b).2.1 := by decide +kernel
theorem tyX9_ok : ∀ k, k < 12 → parseFieldDescriptor (TX9 k).2.2.1 = some (tyX9 k) := by decide +kernel
abbrev cX9_init : ByteArray := prog_11_method_1_code
def yX9_init : MethodName := ⟨RX9, "<init>", "()V"⟩
abbrev cX9_in : ByteArray := prog_11_method_3_code
def yX9_in : MethodName := ⟨RX9, "in", "(III)Z"⟩
abbrev cX9_isBank : ByteArray := prog_11_method_4_code
def yX9_isBank : MethodName := ⟨RX9, "isBank", "(I)Z"⟩
abbrev cX9_isCell : ByteArray := prog_11_method_5_code
def yX9_isCell : MethodName := ⟨RX9, "isCell", "(I)Z"⟩
abbrev cX9_isWindow : ByteArray := prog_11_method_6_code
def yX9_isWindow : MethodName := ⟨RX9, "isWindow", "(I)Z"⟩
abbrev cX9_isAddress : ByteArray := prog_11_method_7_code
def yX9_isAddress : MethodName := ⟨RX9, "isAddress", "(I)Z"⟩
abbrev cX9_index : ByteArray := prog_11_method_8_code
def yX9_index : MethodName := ⟨RX9, "index", "(II)I"⟩
abbrev cX9_bankAt : ByteArray := prog_11_method_9_code
def yX9_bankAt : MethodName := ⟨RX9, "bankAt", "(I)I"⟩
abbrev cX9_indexAt : ByteArray := prog_11_method_10_code
def yX9_indexAt : MethodName := ⟨RX9, "indexAt", "(I)I"⟩
abbrev cX9_record : ByteArray := prog_11_method_11_code
def yX9_record : MethodName := ⟨RX9, "record", "()V"⟩
abbrev cX9_undo : ByteArray := prog_11_method_12_code
def yX9_undo : MethodName := ⟨RX9, "undo", "()I"⟩
abbrev cX9_keep : ByteArray := prog_11_method_13_code
def yX9_keep : MethodName := ⟨RX9, "keep", "()I"⟩
abbrev cX9_restore : ByteArray := prog_11_method_14_code
def yX9_restore : MethodName := ⟨RX9, "restore", "()I"⟩
abbrev cX9_putAside : ByteArray := prog_11_method_15_code
def yX9_putAside : MethodName := ⟨RX9, "putAside", "()V"⟩
abbrev cX9_putBack : ByteArray := prog_11_method_16_code
def yX9_putBack : MethodName := ⟨RX9, "putBack", "()V"⟩
abbrev cX9_change : ByteArray := prog_11_method_17_code
def yX9_change : MethodName := ⟨RX9, "change", "(II)I"⟩
abbrev cX9_put : ByteArray := prog_11_method_18_code
def yX9_put : MethodName := ⟨RX9, "put", "(III)I"⟩
abbrev cX9_locked : ByteArray := prog_11_method_19_code
def yX9_locked : MethodName := ⟨RX9, "locked", "()I"⟩
abbrev cX9_lock : ByteArray := prog_11_method_20_code
def yX9_lock : MethodName := ⟨RX9, "lock", "(IZ)I"⟩
abbrev cX9_show : ByteArray := prog_11_method_21_code
def yX9_show : MethodName := ⟨RX9, "show", "(II)I"⟩
abbrev cX9_copyBank : ByteArray := prog_11_method_22_code
def yX9_copyBank : MethodName := ⟨RX9, "copyBank", "(II)I"⟩
abbrev cX9_set : ByteArray := prog_11_method_23_code
def yX9_set : MethodName := ⟨RX9, "set", "(I)I"⟩
abbrev cX9_begin : ByteArray := prog_11_method_24_code
def yX9_begin : MethodName := ⟨RX9, "begin", "(I)I"⟩
abbrev cX9_sum : ByteArray := prog_11_method_25_code
def yX9_sum : MethodName := ⟨RX9, "sum", "(II)I"⟩
abbrev cX9_whyNot : ByteArray := prog_11_method_26_code
def yX9_whyNot : MethodName := ⟨RX9, "whyNot", "(II)I"⟩
abbrev cX9_write : ByteArray := prog_11_method_27_code
def yX9_write : MethodName := ⟨RX9, "write", "(I)V"⟩
abbrev cX9_call : ByteArray := prog_11_method_28_code
def yX9_call : MethodName := ⟨RX9, "call", "(II)V"⟩
abbrev cX9_back : ByteArray := prog_11_method_29_code
def yX9_back : MethodName := ⟨RX9, "back", "()V"⟩
abbrev cX9_order : ByteArray := prog_11_method_30_code
def yX9_order : MethodName := ⟨RX9, "order", "(III)V"⟩
abbrev cX9_keepStep : ByteArray := prog_11_method_31_code
def yX9_keepStep : MethodName := ⟨RX9, "keepStep", "(II)V"⟩
abbrev cX9_step : ByteArray := prog_11_method_32_code
def yX9_step : MethodName := ⟨RX9, "step", "()V"⟩
abbrev cX9_doRun : ByteArray := prog_11_method_33_code
def yX9_doRun : MethodName := ⟨RX9, "doRun", "(I)I"⟩
abbrev cX9_run : ByteArray := prog_11_method_34_code
def yX9_run : MethodName := ⟨RX9, "run", "(I)I"⟩
abbrev cX9_type : ByteArray := prog_11_method_35_code
def yX9_type : MethodName := ⟨RX9, "type", "(C)I"⟩
abbrev cX9_clearText : ByteArray := prog_11_method_36_code
def yX9_clearText : MethodName := ⟨RX9, "clearText", "()I"⟩
abbrev cX9_sign : ByteArray := prog_11_method_37_code
def yX9_sign : MethodName := ⟨RX9, "sign", "()I"⟩
abbrev cX9_take : ByteArray := prog_11_method_38_code
def yX9_take : MethodName := ⟨RX9, "take", "(Z)V"⟩
abbrev cX9_takeRest : ByteArray := prog_11_method_39_code
def yX9_takeRest : MethodName := ⟨RX9, "takeRest", "(IIII)V"⟩
abbrev cX9_takeNumber : ByteArray := prog_11_method_40_code
def yX9_takeNumber : MethodName := ⟨RX9, "takeNumber", "(I)I"⟩
abbrev cX9_takeOrder : ByteArray := prog_11_method_41_code
def yX9_takeOrder : MethodName := ⟨RX9, "takeOrder", "()I"⟩
abbrev cX9_findFault : ByteArray := prog_11_method_42_code
def yX9_findFault : MethodName := ⟨RX9, "findFault", "()I"⟩
abbrev cX9_assemble : ByteArray := prog_11_method_43_code
def yX9_assemble : MethodName := ⟨RX9, "assemble", "(II)I"⟩
abbrev cX9_cell : ByteArray := prog_11_method_44_code
def yX9_cell : MethodName := ⟨RX9, "cell", "(II)I"⟩
abbrev cX9_sameAs : ByteArray := prog_11_method_45_code
def yX9_sameAs : MethodName := ⟨RX9, "sameAs", "(I)I"⟩
abbrev cX9_address : ByteArray := prog_11_method_46_code
def yX9_address : MethodName := ⟨RX9, "address", "(II)I"⟩
abbrev cX9_windowsOf : ByteArray := prog_11_method_47_code
def yX9_windowsOf : MethodName := ⟨RX9, "windowsOf", "(I)I"⟩
abbrev cX9_filled : ByteArray := prog_11_method_48_code
def yX9_filled : MethodName := ⟨RX9, "filled", "(I)I"⟩
abbrev cX9_framesTo : ByteArray := prog_11_method_49_code
def yX9_framesTo : MethodName := ⟨RX9, "framesTo", "(I)I"⟩
abbrev cX9_bank : ByteArray := prog_11_method_50_code
def yX9_bank : MethodName := ⟨RX9, "bank", "(II)I"⟩
abbrev cX9_window : ByteArray := prog_11_method_51_code
def yX9_window : MethodName := ⟨RX9, "window", "(I)I"⟩
abbrev cX9_frame : ByteArray := prog_11_method_52_code
def yX9_frame : MethodName := ⟨RX9, "frame", "(II)I"⟩
abbrev cX9_latest : ByteArray := prog_11_method_53_code
def yX9_latest : MethodName := ⟨RX9, "latest", "(II)I"⟩
abbrev cX9_next : ByteArray := prog_11_method_54_code
def yX9_next : MethodName := ⟨RX9, "next", "(I)I"⟩
abbrev cX9_unlikeCells : ByteArray := prog_11_method_55_code
def yX9_unlikeCells : MethodName := ⟨RX9, "unlikeCells", "()I"⟩
abbrev cX9_ifRun : ByteArray := prog_11_method_56_code
def yX9_ifRun : MethodName := ⟨RX9, "ifRun", "(II)I"⟩
abbrev cX9_backIn : ByteArray := prog_11_method_57_code
def yX9_backIn : MethodName := ⟨RX9, "backIn", "()I"⟩
abbrev cX9_count : ByteArray := prog_11_method_58_code
def yX9_count : MethodName := ⟨RX9, "count", "(I)I"⟩
def RJ9 : String := "java/lang/Math"
def TJ9 : u_T := fun k => match k with
  | _ => ("", "", "", false)
def tyJ9 : Nat → FieldType := fun k => match k with
  | _ => .int
abbrev wsJ90 : List Cond := u_ws RJ9 TJ9 0
theorem nmJ9 : ∀ a, a < 0 → ∀ b, b < 0 → a ≠ b → (TJ9 a).2.1 ≠ (TJ9 b).2.1 := by decide +kernel
theorem tyJ9_ok : ∀ k, k < 0 → parseFieldDescriptor (TJ9 k).2.2.1 = some (tyJ9 k) := by decide +kernel
abbrev cJ9_max_7cf53 : ByteArray := prog_12_method_65_code
def yJ9_max_7cf53 : MethodName := ⟨RJ9, "max", "(II)I"⟩
abbrev cJ9_min_7cf53 : ByteArray := prog_12_method_69_code
def yJ9_min_7cf53 : MethodName := ⟨RJ9, "min", "(II)I"⟩
def RJ0 : String := "java/lang/String"
def TJ0 : u_T := fun k => match k with
  | _ => ("", "", "", false)
def tyJ0 : Nat → FieldType := fun k => match k with
  | _ => .int
abbrev wsJ00 : List Cond := u_ws RJ0 TJ0 0
theorem nmJ0 : ∀ a, a < 0 → ∀ b, b < 0 → a ≠ b → (TJ0 a).2.1 ≠ (TJ0 b).2.1 := by decide +kernel
theorem tyJ0_ok : ∀ k, k < 0 → parseFieldDescriptor (TJ0 k).2.2.1 = some (tyJ0 k) := by decide +kernel
abbrev cJ0_length_8abf5 : ByteArray := prog_13_method_54_code
def yJ0_length_8abf5 : MethodName := ⟨RJ0, "length", "()I"⟩
abbrev cJ0_charAt_5068e : ByteArray := prog_13_method_56_code
def yJ0_charAt_5068e : MethodName := ⟨RJ0, "charAt", "(I)C"⟩
abbrev cJ0_coder_7d493 : ByteArray := prog_13_method_152_code
def yJ0_coder_7d493 : MethodName := ⟨RJ0, "coder", "()B"⟩
abbrev cJ0_isLatin1_aae02 : ByteArray := prog_13_method_154_code
def yJ0_isLatin1_aae02 : MethodName := ⟨RJ0, "isLatin1", "()Z"⟩
abbrev cJ0_checkIndex_df160 : ByteArray := prog_13_method_155_code
def yJ0_checkIndex_df160 : MethodName := ⟨RJ0, "checkIndex", "(II)V"⟩
def RJ1 : String := "java/lang/StringLatin1"
def TJ1 : u_T := fun k => match k with
  | _ => ("", "", "", false)
def tyJ1 : Nat → FieldType := fun k => match k with
  | _ => .int
abbrev wsJ10 : List Cond := u_ws RJ1 TJ1 0
theorem nmJ1 : ∀ a, a < 0 → ∀ b, b < 0 → a ≠ b → (TJ1 a).2.1 ≠ (TJ1 b).2.1 := by decide +kernel
theorem tyJ1_ok : ∀ k, k < 0 → parseFieldDescriptor (TJ1 k).2.2.1 = some (tyJ1 k) := by decide +kernel
abbrev cJ1_charAt_3b067 : ByteArray := prog_14_method_2_code
def yJ1_charAt_3b067 : MethodName := ⟨RJ1, "charAt", "([BI)C"⟩
def RJ2 : String := "java/lang/StringUTF16"
def TJ2 : u_T := fun k => match k with
  | _ => ("", "", "", false)
def tyJ2 : Nat → FieldType := fun k => match k with
  | _ => .int
abbrev wsJ20 : List Cond := u_ws RJ2 TJ2 0
theorem nmJ2 : ∀ a, a < 0 → ∀ b, b < 0 → a ≠ b → (TJ2 a).2.1 ≠ (TJ2 b).2.1 := by decide +kernel
theorem tyJ2_ok : ∀ k, k < 0 → parseFieldDescriptor (TJ2 k).2.2.1 = some (tyJ2 k) := by decide +kernel
abbrev cJ2_getChar_3b067 : ByteArray := prog_15_method_5_code
def yJ2_getChar_3b067 : MethodName := ⟨RJ2, "getChar", "([BI)C"⟩
abbrev cJ2_length_9d52b : ByteArray := prog_15_method_6_code
def yJ2_length_9d52b : MethodName := ⟨RJ2, "length", "([B)I"⟩
abbrev cJ2_charAt_3b067 : ByteArray := prog_15_method_83_code
def yJ2_charAt_3b067 : MethodName := ⟨RJ2, "charAt", "([BI)C"⟩
abbrev cJ2_checkIndex_2214a : ByteArray := prog_15_method_91_code
def yJ2_checkIndex_2214a : MethodName := ⟨RJ2, "checkIndex", "(I[B)V"⟩
def RJ10 : String := "java/lang/System"
def TJ10 : u_T := fun k => match k with
  | _ => ("", "", "", false)
def tyJ10 : Nat → FieldType := fun k => match k with
  | _ => .int
abbrev wsJ100 : List Cond := u_ws RJ10 TJ10 0
theorem nmJ10 : ∀ a, a < 0 → ∀ b, b < 0 → a ≠ b → (TJ10 a).2.1 ≠ (TJ10 b).2.1 := by decide +kernel
theorem tyJ10_ok : ∀ k, k < 0 → parseFieldDescriptor (TJ10 k).2.2.1 = some (tyJ10 k) := by decide +kernel
def RJ3 : String := "jdk/internal/util/Preconditions"
def TJ3 : u_T := fun k => match k with
  | _ => ("", "", "", false)
def tyJ3 : Nat → FieldType := fun k => match k with
  | _ => .int
abbrev wsJ30 : List Cond := u_ws RJ3 TJ3 0
theorem nmJ3 : ∀ a, a < 0 → ∀ b, b < 0 → a ≠ b → (TJ3 a).2.1 ≠ (TJ3 b).2.1 := by decide +kernel
theorem tyJ3_ok : ∀ k, k < 0 → parseFieldDescriptor (TJ3 k).2.2.1 = some (tyJ3 k) := by decide +kernel
abbrev cJ3_checkIndex_8e157 : ByteArray := prog_17_method_11_code
def yJ3_checkIndex_8e157 : MethodName := ⟨RJ3, "checkIndex", "(IILjava/util/function/BiFunction;)I"⟩
def RL : String := "FarBanksLaw"
abbrev cL_law : ByteArray := code
def yL_law : MethodName := ⟨RL, "law", "([I)Z"⟩
abbrev vwCl : List vw_C := [(RX0, TX0, 5), (RX1, TX1, 4), (RX2, TX2, 2), (RX3, TX3, 2), (RX4, TX4, 8), (RX5, TX5, 1), (RX6, TX6, 2), (RX7, TX7, 2), (RX8, TX8, 7), (RX9, TX9, 12)]
end
section
/-! ===== the words: those of the tables that stay, by their places ===== -/
def wA : List Cond := lw_tbl.filter goodWord
theorem in_wA {w : Cond} (h : w ∈ lw_tbl) (g : goodWord w = true) : w ∈ wA := List.mem_filter.mpr ⟨h, g⟩
theorem wA_tbl : ∀ w ∈ wA, w ∈ lw_tbl := fun _ h => (List.mem_filter.mp h).1
theorem wA_good : GoodIn wA wA := fun w h => ⟨h, good_of_word (List.mem_filter.mp h).2⟩
theorem tb1 {w : Cond} (i : Nat) (h : tables_1_1[i]? = some w) : w ∈ lw_tbl := List.mem_append_right _ (List.mem_append_left _ (List.mem_of_getElem? h))
theorem tb2 {w : Cond} (i : Nat) (h : tables_1_2[i]? = some w) : w ∈ lw_tbl := List.mem_append_right _ (List.mem_append_right _ (List.mem_append_left _ (List.mem_of_getElem? h)))
theorem tb3 {w : Cond} (i : Nat) (h : tables_1_3[i]? = some w) : w ∈ lw_tbl := List.mem_append_right _ (List.mem_append_right _ (List.mem_append_right _ (List.mem_append_left _ (List.mem_of_getElem? h))))
theorem tb4 {w : Cond} (i : Nat) (h : tables_1_4[i]? = some w) : w ∈ lw_tbl := List.mem_append_right _ (List.mem_append_right _ (List.mem_append_right _ (List.mem_append_right _ (List.mem_of_getElem? h))))
theorem tbp {q : MethodName × Nat} (h : q ∈ lw_privs) : Cond.selects q.1.cls q.1 q.1 ∈ lw_tbl := List.mem_append_left _ (List.mem_map.mpr ⟨q, h, rfl⟩)
theorem tp1 {q : MethodName × Nat} (i : Nat) (h : lw_privs_1[i]? = some q) : q ∈ lw_privs := List.mem_append_left _ (List.mem_of_getElem? h)
theorem tp2 {q : MethodName × Nat} (i : Nat) (h : lw_privs_2[i]? = some q) : q ∈ lw_privs := List.mem_append_right _ (List.mem_append_left _ (List.mem_of_getElem? h))
theorem tp3 {q : MethodName × Nat} (i : Nat) (h : lw_privs_3[i]? = some q) : q ∈ lw_privs := List.mem_append_right _ (List.mem_append_right _ (List.mem_of_getElem? h))
theorem in_L : (Cond.initialized RL) ∈ wA := in_wA (tb1 0 rfl) rfl
theorem in_X8 : (Cond.initialized RX8) ∈ wA := in_wA (tb1 1 rfl) rfl
theorem in_X4 : (Cond.initialized RX4) ∈ wA := in_wA (tb1 2 rfl) rfl
theorem in_X0 : (Cond.initialized RX0) ∈ wA := in_wA (tb1 3 rfl) rfl
theorem in_X5 : (Cond.initialized RX5) ∈ wA := in_wA (tb1 4 rfl) rfl
theorem in_J9 : (Cond.initialized RJ9) ∈ wA := in_wA (tb1 5 rfl) rfl
theorem in_X2 : (Cond.initialized RX2) ∈ wA := in_wA (tb1 6 rfl) rfl
theorem in_X7 : (Cond.initialized RX7) ∈ wA := in_wA (tb1 7 rfl) rfl
theorem in_X3 : (Cond.initialized RX3) ∈ wA := in_wA (tb1 8 rfl) rfl
theorem in_X6 : (Cond.initialized RX6) ∈ wA := in_wA (tb1 9 rfl) rfl
theorem in_X1 : (Cond.initialized RX1) ∈ wA := in_wA (tb1 10 rfl) rfl
theorem in_X9 : (Cond.initialized RX9) ∈ wA := in_wA (tb1 11 rfl) rfl
theorem in_J10 : (Cond.initialized RJ10) ∈ wA := in_wA (tb1 12 rfl) rfl
theorem in_J0 : (Cond.initialized RJ0) ∈ wA := in_wA (tb1 13 rfl) rfl
theorem in_J1 : (Cond.initialized RJ1) ∈ wA := in_wA (tb1 14 rfl) rfl
theorem in_J3 : (Cond.initialized RJ3) ∈ wA := in_wA (tb1 15 rfl) rfl
theorem in_J2 : (Cond.initialized RJ2) ∈ wA := in_wA (tb1 16 rfl) rfl
theorem cl_L_7 : (Cond.classLink RL 7 RX8) ∈ wA := in_wA (tb1 17 rfl) rfl
theorem ib_X8 : (Cond.instantiable RX8 7) ∈ wA := in_wA (tb1 18 rfl) rfl
theorem ml_L_9 : (Cond.methodLink RL 9 yX8_init) ∈ wA := in_wA (tb1 19 rfl) rfl
theorem im_X8_init : (Cond.instanceMethod yX8_init) ∈ wA := in_wA (tb1 20 rfl) rfl
theorem co_X8_init : (Cond.code yX8_init cX8_init 1 none) ∈ wA := in_wA (tb1 21 rfl) rfl
theorem ml_X8_1 : (Cond.methodLink RX8 1 objectInit) ∈ wA := in_wA (tb1 22 rfl) rfl
theorem im_obj : (Cond.instanceMethod objectInit) ∈ wA := in_wA (tb1 23 rfl) rfl
theorem co_obj : (Cond.code objectInit ⟨#[0xb1]⟩ 1 none) ∈ wA := in_wA (tb1 24 rfl) rfl
theorem cl_X8_7 : (Cond.classLink RX8 7 RX4) ∈ wA := in_wA (tb1 25 rfl) rfl
theorem ib_X4 : (Cond.instantiable RX4 8) ∈ wA := in_wA (tb1 26 rfl) rfl
theorem im_X4_init : (Cond.instanceMethod yX4_init) ∈ wA := in_wA (tb1 28 rfl) rfl
theorem co_X4_init : (Cond.code yX4_init cX4_init 1 none) ∈ wA := in_wA (tb1 29 rfl) rfl
theorem ml_X4_3 : (Cond.methodLink RX4 3 objectInit) ∈ wA := in_wA (tb1 30 rfl) rfl
theorem cl_X4_9 : (Cond.classLink RX4 9 RX0) ∈ wA := in_wA (tb1 31 rfl) rfl
theorem ib_X0 : (Cond.instantiable RX0 5) ∈ wA := in_wA (tb1 32 rfl) rfl
theorem ml_X4_11 : (Cond.methodLink RX4 11 yX0_init) ∈ wA := in_wA (tb1 33 rfl) rfl
theorem im_X0_init : (Cond.instanceMethod yX0_init) ∈ wA := in_wA (tb1 34 rfl) rfl
theorem co_X0_init : (Cond.code yX0_init cX0_init 2 none) ∈ wA := in_wA (tb1 35 rfl) rfl
theorem ml_X0_3 : (Cond.methodLink RX0 3 objectInit) ∈ wA := in_wA (tb1 36 rfl) rfl
theorem cl_X0_9 : (Cond.classLink RX0 9 RX5) ∈ wA := in_wA (tb1 37 rfl) rfl
theorem ib_X5 : (Cond.instantiable RX5 1) ∈ wA := in_wA (tb1 38 rfl) rfl
theorem ml_X0_11 : (Cond.methodLink RX0 11 yX5_init) ∈ wA := in_wA (tb1 39 rfl) rfl
theorem im_X5_init : (Cond.instanceMethod yX5_init) ∈ wA := in_wA (tb1 40 rfl) rfl
theorem co_X5_init : (Cond.code yX5_init cX5_init 2 none) ∈ wA := in_wA (tb1 41 rfl) rfl
theorem ml_X5_1 : (Cond.methodLink RX5 1 objectInit) ∈ wA := in_wA (tb1 42 rfl) rfl
theorem ml_X5_7 : (Cond.methodLink RX5 7 Lib.Math.max.name) ∈ wA := in_wA (tb1 43 rfl) rfl
theorem st_max : (Cond.static Lib.Math.max.name) ∈ wA := in_wA (tb1 44 rfl) rfl
theorem co_max : (Cond.code Lib.Math.max.name Lib.Math.max.code 2 (some .int)) ∈ wA := in_wA (tb1 45 rfl) rfl
theorem fl_X5_13 : (Cond.fieldLink RX5 13 "FarBanks$Row" "numbers" "[I") ∈ wA := in_wA (tb1 46 rfl) rfl
theorem ac_int : (Cond.arrayClass .int) ∈ wA := in_wA (tb1 50 rfl) rfl
theorem ml_X0_32 : (Cond.methodLink RX0 32 yX5_write) ∈ wA := in_wA (tb1 51 rfl) rfl
theorem im_X5_write : (Cond.instanceMethod yX5_write) ∈ wA := in_wA (tb1 52 rfl) rfl
theorem se_X5_write : (Cond.selects RX5 yX5_write yX5_write) ∈ wA := in_wA (tb1 53 rfl) rfl
theorem co_X5_write : (Cond.code yX5_write cX5_write 3 none) ∈ wA := in_wA (tb1 54 rfl) rfl
theorem fl_X0_14 : (Cond.fieldLink RX0 14 "FarBanks$Banks" "cells" "LFarBanks$Row;") ∈ wA := in_wA (tb1 55 rfl) rfl
theorem fl_X0_20 : (Cond.fieldLink RX0 20 "FarBanks$Banks" "alone" "LFarBanks$Row;") ∈ wA := in_wA (tb1 57 rfl) rfl
theorem fl_X0_23 : (Cond.fieldLink RX0 23 "FarBanks$Banks" "shown" "LFarBanks$Row;") ∈ wA := in_wA (tb1 59 rfl) rfl
theorem fl_X0_26 : (Cond.fieldLink RX0 26 "FarBanks$Banks" "written" "LFarBanks$Row;") ∈ wA := in_wA (tb1 62 rfl) rfl
theorem fl_X0_29 : (Cond.fieldLink RX0 29 "FarBanks$Banks" "refused" "LFarBanks$Row;") ∈ wA := in_wA (tb1 64 rfl) rfl
theorem cl_X4_18 : (Cond.classLink RX4 18 RX2) ∈ wA := in_wA (tb1 77 rfl) rfl
theorem ib_X2 : (Cond.instantiable RX2 2) ∈ wA := in_wA (tb1 78 rfl) rfl
theorem im_X2_init : (Cond.instanceMethod yX2_init) ∈ wA := in_wA (tb1 80 rfl) rfl
theorem co_X2_init : (Cond.code yX2_init cX2_init 1 none) ∈ wA := in_wA (tb1 81 rfl) rfl
theorem ml_X2_3 : (Cond.methodLink RX2 3 objectInit) ∈ wA := in_wA (tb1 82 rfl) rfl
theorem cl_X2_9 : (Cond.classLink RX2 9 RX5) ∈ wA := in_wA (tb1 83 rfl) rfl
theorem ml_X2_13 : (Cond.methodLink RX2 13 yX5_init) ∈ wA := in_wA (tb1 84 rfl) rfl
theorem fl_X2_16 : (Cond.fieldLink RX2 16 "FarBanks$Frames" "parts" "LFarBanks$Row;") ∈ wA := in_wA (tb1 85 rfl) rfl
theorem fl_X2_24 : (Cond.fieldLink RX2 24 "FarBanks$Frames" "size" "I") ∈ wA := in_wA (tb1 86 rfl) rfl
theorem cl_X4_25 : (Cond.classLink RX4 25 RX7) ∈ wA := in_wA (tb1 94 rfl) rfl
theorem ib_X7 : (Cond.instantiable RX7 2) ∈ wA := in_wA (tb1 95 rfl) rfl
theorem im_X7_init : (Cond.instanceMethod yX7_init) ∈ wA := in_wA (tb1 97 rfl) rfl
theorem co_X7_init : (Cond.code yX7_init cX7_init 1 none) ∈ wA := in_wA (tb1 98 rfl) rfl
theorem ml_X7_3 : (Cond.methodLink RX7 3 objectInit) ∈ wA := in_wA (tb1 99 rfl) rfl
theorem cl_X7_9 : (Cond.classLink RX7 9 RX5) ∈ wA := in_wA (tb1 100 rfl) rfl
theorem ml_X7_13 : (Cond.methodLink RX7 13 yX5_init) ∈ wA := in_wA (tb1 101 rfl) rfl
theorem fl_X7_16 : (Cond.fieldLink RX7 16 "FarBanks$Trail" "parts" "LFarBanks$Row;") ∈ wA := in_wA (tb1 102 rfl) rfl
theorem fl_X7_24 : (Cond.fieldLink RX7 24 "FarBanks$Trail" "total" "I") ∈ wA := in_wA (tb1 103 rfl) rfl
theorem fl_X4_12 : (Cond.fieldLink RX4 12 "FarBanks$Machine" "banks" "LFarBanks$Banks;") ∈ wA := in_wA (tb1 110 rfl) rfl
theorem fl_X4_21 : (Cond.fieldLink RX4 21 "FarBanks$Machine" "frames" "LFarBanks$Frames;") ∈ wA := in_wA (tb1 112 rfl) rfl
theorem fl_X4_28 : (Cond.fieldLink RX4 28 "FarBanks$Machine" "trail" "LFarBanks$Trail;") ∈ wA := in_wA (tb1 114 rfl) rfl
theorem fl_X4_42 : (Cond.fieldLink RX4 42 "FarBanks$Machine" "number" "I") ∈ wA := in_wA (tb1 116 rfl) rfl
theorem fl_X4_46 : (Cond.fieldLink RX4 46 "FarBanks$Machine" "place" "I") ∈ wA := in_wA (tb1 118 rfl) rfl
theorem fl_X4_49 : (Cond.fieldLink RX4 49 "FarBanks$Machine" "reason" "I") ∈ wA := in_wA (tb1 120 rfl) rfl
theorem fl_X4_52 : (Cond.fieldLink RX4 52 "FarBanks$Machine" "strict" "I") ∈ wA := in_wA (tb1 122 rfl) rfl
theorem fl_X4_55 : (Cond.fieldLink RX4 55 "FarBanks$Machine" "calls" "I") ∈ wA := in_wA (tb1 124 rfl) rfl
theorem cl_X8_22 : (Cond.classLink RX8 22 RX3) ∈ wA := in_wA (tb1 143 rfl) rfl
theorem ib_X3 : (Cond.instantiable RX3 2) ∈ wA := in_wA (tb1 144 rfl) rfl
theorem ml_X8_24 : (Cond.methodLink RX8 24 yX3_init) ∈ wA := in_wA (tb1 145 rfl) rfl
theorem im_X3_init : (Cond.instanceMethod yX3_init) ∈ wA := in_wA (tb1 146 rfl) rfl
theorem co_X3_init : (Cond.code yX3_init cX3_init 2 none) ∈ wA := in_wA (tb1 147 rfl) rfl
theorem ml_X3_3 : (Cond.methodLink RX3 3 objectInit) ∈ wA := in_wA (tb1 148 rfl) rfl
theorem cl_X3_9 : (Cond.classLink RX3 9 RX4) ∈ wA := in_wA (tb1 149 rfl) rfl
theorem fl_X3_11 : (Cond.fieldLink RX3 11 "FarBanks$History" "states" "[LFarBanks$Machine;") ∈ wA := in_wA (tb1 152 rfl) rfl
theorem fl_X3_18 : (Cond.fieldLink RX3 18 "FarBanks$History" "size" "I") ∈ wA := in_wA (tb1 153 rfl) rfl
theorem cl_X8_29 : (Cond.classLink RX8 29 RX6) ∈ wA := in_wA (tb1 160 rfl) rfl
theorem ib_X6 : (Cond.instantiable RX6 2) ∈ wA := in_wA (tb1 161 rfl) rfl
theorem im_X6_init : (Cond.instanceMethod yX6_init) ∈ wA := in_wA (tb1 163 rfl) rfl
theorem co_X6_init : (Cond.code yX6_init cX6_init 1 none) ∈ wA := in_wA (tb1 164 rfl) rfl
theorem ml_X6_3 : (Cond.methodLink RX6 3 objectInit) ∈ wA := in_wA (tb1 165 rfl) rfl
theorem fl_X6_9 : (Cond.fieldLink RX6 9 "FarBanks$Text" "characters" "[C") ∈ wA := in_wA (tb1 166 rfl) rfl
theorem fl_X6_15 : (Cond.fieldLink RX6 15 "FarBanks$Text" "length" "I") ∈ wA := in_wA (tb1 167 rfl) rfl
theorem ac_char : (Cond.arrayClass .char) ∈ wA := in_wA (tb1 174 rfl) rfl
theorem cl_X8_36 : (Cond.classLink RX8 36 RX1) ∈ wA := in_wA (tb1 175 rfl) rfl
theorem ib_X1 : (Cond.instantiable RX1 4) ∈ wA := in_wA (tb1 176 rfl) rfl
theorem im_X1_init : (Cond.instanceMethod yX1_init) ∈ wA := in_wA (tb1 178 rfl) rfl
theorem co_X1_init : (Cond.code yX1_init cX1_init 1 none) ∈ wA := in_wA (tb1 179 rfl) rfl
theorem ml_X1_3 : (Cond.methodLink RX1 3 objectInit) ∈ wA := in_wA (tb1 180 rfl) rfl
theorem cl_X1_9 : (Cond.classLink RX1 9 RX5) ∈ wA := in_wA (tb1 181 rfl) rfl
theorem ml_X1_11 : (Cond.methodLink RX1 11 yX5_init) ∈ wA := in_wA (tb1 182 rfl) rfl
theorem fl_X1_14 : (Cond.fieldLink RX1 14 "FarBanks$Code" "orders" "LFarBanks$Row;") ∈ wA := in_wA (tb1 183 rfl) rfl
theorem fl_X1_20 : (Cond.fieldLink RX1 20 "FarBanks$Code" "size" "I") ∈ wA := in_wA (tb1 185 rfl) rfl
theorem fl_X1_24 : (Cond.fieldLink RX1 24 "FarBanks$Code" "position" "I") ∈ wA := in_wA (tb1 187 rfl) rfl
theorem fl_X1_35 : (Cond.fieldLink RX1 35 "FarBanks$Code" "isSound" "Z") ∈ wA := in_wA (tb1 189 rfl) rfl
theorem fl_X8_10 : (Cond.fieldLink RX8 10 "FarBanks" "now" "LFarBanks$Machine;") ∈ wA := in_wA (tb1 200 rfl) rfl
theorem fl_X8_16 : (Cond.fieldLink RX8 16 "FarBanks" "trial" "LFarBanks$Machine;") ∈ wA := in_wA (tb1 201 rfl) rfl
theorem fl_X8_19 : (Cond.fieldLink RX8 19 "FarBanks" "snapshot" "LFarBanks$Machine;") ∈ wA := in_wA (tb1 202 rfl) rfl
theorem fl_X8_25 : (Cond.fieldLink RX8 25 "FarBanks" "history" "LFarBanks$History;") ∈ wA := in_wA (tb1 203 rfl) rfl
theorem fl_X8_32 : (Cond.fieldLink RX8 32 "FarBanks" "text" "LFarBanks$Text;") ∈ wA := in_wA (tb1 204 rfl) rfl
theorem fl_X8_39 : (Cond.fieldLink RX8 39 "FarBanks" "code" "LFarBanks$Code;") ∈ wA := in_wA (tb1 205 rfl) rfl
theorem fl_X8_161 : (Cond.fieldLink RX8 161 "FarBanks" "hasSnapshot" "Z") ∈ wA := in_wA (tb1 206 rfl) rfl
theorem ml_L_13 : (Cond.methodLink RL 13 yX8_put) ∈ wA := in_wA (tb1 222 rfl) rfl
theorem im_X8_put : (Cond.instanceMethod yX8_put) ∈ wA := in_wA (tb1 223 rfl) rfl
theorem se_X8_put : (Cond.selects RX8 yX8_put yX8_put) ∈ wA := in_wA (tb1 224 rfl) rfl
theorem co_X8_put : (Cond.code yX8_put cX8_put 5 (some .int)) ∈ wA := in_wA (tb1 225 rfl) rfl
theorem ml_X8_43 : (Cond.methodLink RX8 43 yX8_isBelow) ∈ wA := in_wA (tb1 226 rfl) rfl
theorem st_X8_isBelow : (Cond.static yX8_isBelow) ∈ wA := in_wA (tb1 227 rfl) rfl
theorem co_X8_isBelow : (Cond.code yX8_isBelow cX8_isBelow 2 (some .boolean)) ∈ wA := in_wA (tb1 228 rfl) rfl
theorem ml_X8_51 : (Cond.methodLink RX8 51 yX0_numberIn) ∈ wA := in_wA (tb1 229 rfl) rfl
theorem im_X0_numberIn : (Cond.instanceMethod yX0_numberIn) ∈ wA := in_wA (tb1 230 rfl) rfl
theorem se_X0_numberIn : (Cond.selects RX0 yX0_numberIn yX0_numberIn) ∈ wA := in_wA (tb1 231 rfl) rfl
theorem co_X0_numberIn : (Cond.code yX0_numberIn cX0_numberIn 3 (some .int)) ∈ wA := in_wA (tb1 232 rfl) rfl
theorem ml_X0_40 : (Cond.methodLink RX0 40 yX0_indexOf) ∈ wA := in_wA (tb1 233 rfl) rfl
theorem st_X0_indexOf : (Cond.static yX0_indexOf) ∈ wA := in_wA (tb1 234 rfl) rfl
theorem co_X0_indexOf : (Cond.code yX0_indexOf cX0_indexOf 2 (some .int)) ∈ wA := in_wA (tb1 235 rfl) rfl
theorem ml_X0_44 : (Cond.methodLink RX0 44 yX5_read) ∈ wA := in_wA (tb1 236 rfl) rfl
theorem im_X5_read : (Cond.instanceMethod yX5_read) ∈ wA := in_wA (tb1 237 rfl) rfl
theorem se_X5_read : (Cond.selects RX5 yX5_read yX5_read) ∈ wA := in_wA (tb1 238 rfl) rfl
theorem co_X5_read : (Cond.code yX5_read cX5_read 2 (some .int)) ∈ wA := in_wA (tb1 239 rfl) rfl
theorem ml_X8_57 : (Cond.methodLink RX8 57 yX3_remember) ∈ wA := in_wA (tb2 0 rfl) rfl
theorem im_X3_remember : (Cond.instanceMethod yX3_remember) ∈ wA := in_wA (tb2 1 rfl) rfl
theorem se_X3_remember : (Cond.selects RX3 yX3_remember yX3_remember) ∈ wA := in_wA (tb2 2 rfl) rfl
theorem co_X3_remember : (Cond.code yX3_remember cX3_remember 2 none) ∈ wA := in_wA (tb2 3 rfl) rfl
theorem ml_X3_22 : (Cond.methodLink RX3 22 yX3_dropOldest) ∈ wA := in_wA (tb2 4 rfl) rfl
theorem im_X3_dropOldest : (Cond.instanceMethod yX3_dropOldest) ∈ wA := in_wA (tb2 6 rfl) rfl
theorem co_X3_dropOldest : (Cond.code yX3_dropOldest cX3_dropOldest 3 none) ∈ wA := in_wA (tb2 7 rfl) rfl
theorem ml_X3_25 : (Cond.methodLink RX3 25 yX4_copyFrom) ∈ wA := in_wA (tb2 8 rfl) rfl
theorem im_X4_copyFrom : (Cond.instanceMethod yX4_copyFrom) ∈ wA := in_wA (tb2 9 rfl) rfl
theorem se_X4_copyFrom : (Cond.selects RX4 yX4_copyFrom yX4_copyFrom) ∈ wA := in_wA (tb2 10 rfl) rfl
theorem co_X4_copyFrom : (Cond.code yX4_copyFrom cX4_copyFrom 2 none) ∈ wA := in_wA (tb2 11 rfl) rfl
theorem ml_X4_32 : (Cond.methodLink RX4 32 yX0_copyFrom) ∈ wA := in_wA (tb2 12 rfl) rfl
theorem im_X0_copyFrom : (Cond.instanceMethod yX0_copyFrom) ∈ wA := in_wA (tb2 13 rfl) rfl
theorem se_X0_copyFrom : (Cond.selects RX0 yX0_copyFrom yX0_copyFrom) ∈ wA := in_wA (tb2 14 rfl) rfl
theorem co_X0_copyFrom : (Cond.code yX0_copyFrom cX0_copyFrom 2 none) ∈ wA := in_wA (tb2 15 rfl) rfl
theorem ml_X0_36 : (Cond.methodLink RX0 36 yX5_copyFrom) ∈ wA := in_wA (tb2 16 rfl) rfl
theorem im_X5_copyFrom : (Cond.instanceMethod yX5_copyFrom) ∈ wA := in_wA (tb2 17 rfl) rfl
theorem se_X5_copyFrom : (Cond.selects RX5 yX5_copyFrom yX5_copyFrom) ∈ wA := in_wA (tb2 18 rfl) rfl
theorem co_X5_copyFrom : (Cond.code yX5_copyFrom cX5_copyFrom 2 none) ∈ wA := in_wA (tb2 19 rfl) rfl
theorem ml_X5_23 : (Cond.methodLink RX5 23 Lib.Math.min.name) ∈ wA := in_wA (tb2 20 rfl) rfl
theorem st_min : (Cond.static Lib.Math.min.name) ∈ wA := in_wA (tb2 21 rfl) rfl
theorem co_min : (Cond.code Lib.Math.min.name Lib.Math.min.code 2 (some .int)) ∈ wA := in_wA (tb2 22 rfl) rfl
theorem ml_X5_26 : (Cond.methodLink RX5 26 arraycopyName) ∈ wA := in_wA (tb2 23 rfl) rfl
theorem st_acopy : (Cond.static arraycopyName) ∈ wA := in_wA (tb2 24 rfl) rfl
theorem nt_acopy : (Cond.native arraycopyName) ∈ wA := in_wA (tb2 25 rfl) rfl
theorem ml_X4_36 : (Cond.methodLink RX4 36 yX2_copyFrom) ∈ wA := in_wA (tb2 26 rfl) rfl
theorem im_X2_copyFrom : (Cond.instanceMethod yX2_copyFrom) ∈ wA := in_wA (tb2 27 rfl) rfl
theorem se_X2_copyFrom : (Cond.selects RX2 yX2_copyFrom yX2_copyFrom) ∈ wA := in_wA (tb2 28 rfl) rfl
theorem co_X2_copyFrom : (Cond.code yX2_copyFrom cX2_copyFrom 2 none) ∈ wA := in_wA (tb2 29 rfl) rfl
theorem ml_X2_20 : (Cond.methodLink RX2 20 yX5_copyFrom) ∈ wA := in_wA (tb2 30 rfl) rfl
theorem ml_X4_39 : (Cond.methodLink RX4 39 yX7_copyFrom) ∈ wA := in_wA (tb2 31 rfl) rfl
theorem im_X7_copyFrom : (Cond.instanceMethod yX7_copyFrom) ∈ wA := in_wA (tb2 32 rfl) rfl
theorem se_X7_copyFrom : (Cond.selects RX7 yX7_copyFrom yX7_copyFrom) ∈ wA := in_wA (tb2 33 rfl) rfl
theorem co_X7_copyFrom : (Cond.code yX7_copyFrom cX7_copyFrom 2 none) ∈ wA := in_wA (tb2 34 rfl) rfl
theorem ml_X7_20 : (Cond.methodLink RX7 20 yX5_copyFrom) ∈ wA := in_wA (tb2 35 rfl) rfl
theorem ml_X8_61 : (Cond.methodLink RX8 61 yX0_fill) ∈ wA := in_wA (tb2 36 rfl) rfl
theorem im_X0_fill : (Cond.instanceMethod yX0_fill) ∈ wA := in_wA (tb2 37 rfl) rfl
theorem se_X0_fill : (Cond.selects RX0 yX0_fill yX0_fill) ∈ wA := in_wA (tb2 38 rfl) rfl
theorem co_X0_fill : (Cond.code yX0_fill cX0_fill 4 none) ∈ wA := in_wA (tb2 39 rfl) rfl
theorem ml_L_18 : (Cond.methodLink RL 18 yX8_lock) ∈ wA := in_wA (tb2 40 rfl) rfl
theorem im_X8_lock : (Cond.instanceMethod yX8_lock) ∈ wA := in_wA (tb2 41 rfl) rfl
theorem se_X8_lock : (Cond.selects RX8 yX8_lock yX8_lock) ∈ wA := in_wA (tb2 42 rfl) rfl
theorem co_X8_lock : (Cond.code yX8_lock cX8_lock 3 (some .int)) ∈ wA := in_wA (tb2 43 rfl) rfl
theorem ml_X8_65 : (Cond.methodLink RX8 65 yX0_isAlone) ∈ wA := in_wA (tb2 44 rfl) rfl
theorem im_X0_isAlone : (Cond.instanceMethod yX0_isAlone) ∈ wA := in_wA (tb2 45 rfl) rfl
theorem se_X0_isAlone : (Cond.selects RX0 yX0_isAlone yX0_isAlone) ∈ wA := in_wA (tb2 46 rfl) rfl
theorem co_X0_isAlone : (Cond.code yX0_isAlone cX0_isAlone 2 (some .boolean)) ∈ wA := in_wA (tb2 47 rfl) rfl
theorem ml_X8_73 : (Cond.methodLink RX8 73 yX5_write) ∈ wA := in_wA (tb2 48 rfl) rfl
theorem ml_X8_79 : (Cond.methodLink RX8 79 yX5_sum) ∈ wA := in_wA (tb2 49 rfl) rfl
theorem im_X5_sum : (Cond.instanceMethod yX5_sum) ∈ wA := in_wA (tb2 50 rfl) rfl
theorem se_X5_sum : (Cond.selects RX5 yX5_sum yX5_sum) ∈ wA := in_wA (tb2 51 rfl) rfl
theorem co_X5_sum : (Cond.code yX5_sum cX5_sum 6 (some .int)) ∈ wA := in_wA (tb2 52 rfl) rfl
theorem ml_L_23 : (Cond.methodLink RL 23 yX8_show) ∈ wA := in_wA (tb2 53 rfl) rfl
theorem im_X8_show : (Cond.instanceMethod yX8_show) ∈ wA := in_wA (tb2 54 rfl) rfl
theorem se_X8_show : (Cond.selects RX8 yX8_show yX8_show) ∈ wA := in_wA (tb2 55 rfl) rfl
theorem co_X8_show : (Cond.code yX8_show cX8_show 4 (some .int)) ∈ wA := in_wA (tb2 56 rfl) rfl
theorem ml_X8_86 : (Cond.methodLink RX8 86 yX5_read) ∈ wA := in_wA (tb2 57 rfl) rfl
theorem ml_L_28 : (Cond.methodLink RL 28 yX8_copyBank) ∈ wA := in_wA (tb2 58 rfl) rfl
theorem im_X8_copyBank : (Cond.instanceMethod yX8_copyBank) ∈ wA := in_wA (tb2 59 rfl) rfl
theorem se_X8_copyBank : (Cond.selects RX8 yX8_copyBank yX8_copyBank) ∈ wA := in_wA (tb2 60 rfl) rfl
theorem co_X8_copyBank : (Cond.code yX8_copyBank cX8_copyBank 4 (some .int)) ∈ wA := in_wA (tb2 61 rfl) rfl
theorem ml_X8_90 : (Cond.methodLink RX8 90 yX0_differencesOf) ∈ wA := in_wA (tb2 62 rfl) rfl
theorem im_X0_differencesOf : (Cond.instanceMethod yX0_differencesOf) ∈ wA := in_wA (tb2 63 rfl) rfl
theorem se_X0_differencesOf : (Cond.selects RX0 yX0_differencesOf yX0_differencesOf) ∈ wA := in_wA (tb2 64 rfl) rfl
theorem co_X0_differencesOf : (Cond.code yX0_differencesOf cX0_differencesOf 5 (some .int)) ∈ wA := in_wA (tb2 65 rfl) rfl
theorem ml_X0_51 : (Cond.methodLink RX0 51 yX0_numberIn) ∈ wA := in_wA (tb2 66 rfl) rfl
theorem ml_X8_93 : (Cond.methodLink RX8 93 yX0_copyCells) ∈ wA := in_wA (tb2 67 rfl) rfl
theorem im_X0_copyCells : (Cond.instanceMethod yX0_copyCells) ∈ wA := in_wA (tb2 68 rfl) rfl
theorem se_X0_copyCells : (Cond.selects RX0 yX0_copyCells yX0_copyCells) ∈ wA := in_wA (tb2 69 rfl) rfl
theorem co_X0_copyCells : (Cond.code yX0_copyCells cX0_copyCells 4 none) ∈ wA := in_wA (tb2 70 rfl) rfl
theorem ml_X0_58 : (Cond.methodLink RX0 58 yX0_fill) ∈ wA := in_wA (tb2 71 rfl) rfl
theorem ml_L_32 : (Cond.methodLink RL 32 yX8_set) ∈ wA := in_wA (tb2 72 rfl) rfl
theorem im_X8_set : (Cond.instanceMethod yX8_set) ∈ wA := in_wA (tb2 73 rfl) rfl
theorem se_X8_set : (Cond.selects RX8 yX8_set yX8_set) ∈ wA := in_wA (tb2 74 rfl) rfl
theorem co_X8_set : (Cond.code yX8_set cX8_set 3 (some .int)) ∈ wA := in_wA (tb2 75 rfl) rfl
theorem ml_L_37 : (Cond.methodLink RL 37 yX8_begin) ∈ wA := in_wA (tb2 76 rfl) rfl
theorem im_X8_begin : (Cond.instanceMethod yX8_begin) ∈ wA := in_wA (tb2 77 rfl) rfl
theorem se_X8_begin : (Cond.selects RX8 yX8_begin yX8_begin) ∈ wA := in_wA (tb2 78 rfl) rfl
theorem co_X8_begin : (Cond.code yX8_begin cX8_begin 3 (some .int)) ∈ wA := in_wA (tb2 79 rfl) rfl
theorem ml_X8_103 : (Cond.methodLink RX8 103 yX4_startAt) ∈ wA := in_wA (tb2 80 rfl) rfl
theorem im_X4_startAt : (Cond.instanceMethod yX4_startAt) ∈ wA := in_wA (tb2 81 rfl) rfl
theorem se_X4_startAt : (Cond.selects RX4 yX4_startAt yX4_startAt) ∈ wA := in_wA (tb2 82 rfl) rfl
theorem co_X4_startAt : (Cond.code yX4_startAt cX4_startAt 2 none) ∈ wA := in_wA (tb2 83 rfl) rfl
theorem ml_L_41 : (Cond.methodLink RL 41 yX8_run) ∈ wA := in_wA (tb2 84 rfl) rfl
theorem im_X8_run : (Cond.instanceMethod yX8_run) ∈ wA := in_wA (tb2 85 rfl) rfl
theorem se_X8_run : (Cond.selects RX8 yX8_run yX8_run) ∈ wA := in_wA (tb2 86 rfl) rfl
theorem co_X8_run : (Cond.code yX8_run cX8_run 2 (some .int)) ∈ wA := in_wA (tb2 87 rfl) rfl
theorem ml_X8_107 : (Cond.methodLink RX8 107 yX8_isStepsOfRun) ∈ wA := in_wA (tb2 88 rfl) rfl
theorem st_X8_isStepsOfRun : (Cond.static yX8_isStepsOfRun) ∈ wA := in_wA (tb2 89 rfl) rfl
theorem co_X8_isStepsOfRun : (Cond.code yX8_isStepsOfRun cX8_isStepsOfRun 1 (some .boolean)) ∈ wA := in_wA (tb2 90 rfl) rfl
theorem cn_X8_122 : (Cond.constant RX8 122 (999999 : Int32)) ∈ wA := in_wA (tb2 91 rfl) rfl
theorem ml_X8_123 : (Cond.methodLink RX8 123 yX4_takeSteps) ∈ wA := in_wA (tb2 92 rfl) rfl
theorem im_X4_takeSteps : (Cond.instanceMethod yX4_takeSteps) ∈ wA := in_wA (tb2 93 rfl) rfl
theorem se_X4_takeSteps : (Cond.selects RX4 yX4_takeSteps yX4_takeSteps) ∈ wA := in_wA (tb2 94 rfl) rfl
theorem co_X4_takeSteps : (Cond.code yX4_takeSteps cX4_takeSteps 3 (some .int)) ∈ wA := in_wA (tb2 95 rfl) rfl
theorem ml_X4_61 : (Cond.methodLink RX4 61 yX4_step) ∈ wA := in_wA (tb2 96 rfl) rfl
theorem im_X4_step : (Cond.instanceMethod yX4_step) ∈ wA := in_wA (tb2 97 rfl) rfl
theorem se_X4_step : (Cond.selects RX4 yX4_step yX4_step) ∈ wA := in_wA (tb2 98 rfl) rfl
theorem co_X4_step : (Cond.code yX4_step cX4_step 5 none) ∈ wA := in_wA (tb2 99 rfl) rfl
theorem ml_X4_64 : (Cond.methodLink RX4 64 yX0_numberAt) ∈ wA := in_wA (tb2 100 rfl) rfl
theorem im_X0_numberAt : (Cond.instanceMethod yX0_numberAt) ∈ wA := in_wA (tb2 101 rfl) rfl
theorem se_X0_numberAt : (Cond.selects RX0 yX0_numberAt yX0_numberAt) ∈ wA := in_wA (tb2 102 rfl) rfl
theorem co_X0_numberAt : (Cond.code yX0_numberAt cX0_numberAt 2 (some .int)) ∈ wA := in_wA (tb2 103 rfl) rfl
theorem ml_X0_48 : (Cond.methodLink RX0 48 yX0_bankAt) ∈ wA := in_wA (tb2 104 rfl) rfl
theorem im_X0_bankAt : (Cond.instanceMethod yX0_bankAt) ∈ wA := in_wA (tb2 105 rfl) rfl
theorem se_X0_bankAt : (Cond.selects RX0 yX0_bankAt yX0_bankAt) ∈ wA := in_wA (tb2 106 rfl) rfl
theorem co_X0_bankAt : (Cond.code yX0_bankAt cX0_bankAt 2 (some .int)) ∈ wA := in_wA (tb2 107 rfl) rfl
theorem ml_X4_68 : (Cond.methodLink RX4 68 yX0_bankAt) ∈ wA := in_wA (tb2 108 rfl) rfl
theorem ml_X4_71 : (Cond.methodLink RX4 71 yX7_add) ∈ wA := in_wA (tb2 109 rfl) rfl
theorem im_X7_add : (Cond.instanceMethod yX7_add) ∈ wA := in_wA (tb2 110 rfl) rfl
theorem se_X7_add : (Cond.selects RX7 yX7_add yX7_add) ∈ wA := in_wA (tb2 111 rfl) rfl
theorem co_X7_add : (Cond.code yX7_add cX7_add 5 none) ∈ wA := in_wA (tb2 112 rfl) rfl
theorem ml_X7_28 : (Cond.methodLink RX7 28 yX5_write) ∈ wA := in_wA (tb2 113 rfl) rfl
theorem ml_X4_75 : (Cond.methodLink RX4 75 yX4_hindranceOf) ∈ wA := in_wA (tb2 114 rfl) rfl
theorem im_X4_hindranceOf : (Cond.instanceMethod yX4_hindranceOf) ∈ wA := in_wA (tb2 116 rfl) rfl
theorem co_X4_hindranceOf : (Cond.code yX4_hindranceOf cX4_hindranceOf 3 (some .int)) ∈ wA := in_wA (tb2 117 rfl) rfl
theorem ml_X4_82 : (Cond.methodLink RX4 82 yX4_isBeyond) ∈ wA := in_wA (tb2 118 rfl) rfl
theorem st_X4_isBeyond : (Cond.static yX4_isBeyond) ∈ wA := in_wA (tb2 119 rfl) rfl
theorem co_X4_isBeyond : (Cond.code yX4_isBeyond cX4_isBeyond 2 (some .boolean)) ∈ wA := in_wA (tb2 120 rfl) rfl
theorem ml_X4_79 : (Cond.methodLink RX4 79 yX4_carryOut) ∈ wA := in_wA (tb2 121 rfl) rfl
theorem im_X4_carryOut : (Cond.instanceMethod yX4_carryOut) ∈ wA := in_wA (tb2 123 rfl) rfl
theorem co_X4_carryOut : (Cond.code yX4_carryOut cX4_carryOut 4 none) ∈ wA := in_wA (tb2 124 rfl) rfl
theorem ml_X4_86 : (Cond.methodLink RX4 86 yX4_increase) ∈ wA := in_wA (tb2 125 rfl) rfl
theorem im_X4_increase : (Cond.instanceMethod yX4_increase) ∈ wA := in_wA (tb2 127 rfl) rfl
theorem co_X4_increase : (Cond.code yX4_increase cX4_increase 3 none) ∈ wA := in_wA (tb2 128 rfl) rfl
theorem ml_X4_90 : (Cond.methodLink RX4 90 yX0_storeUnlessAlone) ∈ wA := in_wA (tb2 129 rfl) rfl
theorem im_X0_storeUnlessAlone : (Cond.instanceMethod yX0_storeUnlessAlone) ∈ wA := in_wA (tb2 130 rfl) rfl
theorem se_X0_storeUnlessAlone : (Cond.selects RX0 yX0_storeUnlessAlone yX0_storeUnlessAlone) ∈ wA := in_wA (tb2 131 rfl) rfl
theorem co_X0_storeUnlessAlone : (Cond.code yX0_storeUnlessAlone cX0_storeUnlessAlone 4 (some .boolean)) ∈ wA := in_wA (tb2 132 rfl) rfl
theorem ml_X0_54 : (Cond.methodLink RX0 54 yX0_isAlone) ∈ wA := in_wA (tb2 133 rfl) rfl
theorem ml_X4_97 : (Cond.methodLink RX4 97 yX5_write) ∈ wA := in_wA (tb2 134 rfl) rfl
theorem ml_X4_103 : (Cond.methodLink RX4 103 yX4_callFrom) ∈ wA := in_wA (tb2 135 rfl) rfl
theorem im_X4_callFrom : (Cond.instanceMethod yX4_callFrom) ∈ wA := in_wA (tb2 137 rfl) rfl
theorem co_X4_callFrom : (Cond.code yX4_callFrom cX4_callFrom 3 none) ∈ wA := in_wA (tb2 138 rfl) rfl
theorem ml_X4_109 : (Cond.methodLink RX4 109 yX5_read) ∈ wA := in_wA (tb2 139 rfl) rfl
theorem ml_X4_112 : (Cond.methodLink RX4 112 yX2_add) ∈ wA := in_wA (tb2 140 rfl) rfl
theorem im_X2_add : (Cond.instanceMethod yX2_add) ∈ wA := in_wA (tb2 141 rfl) rfl
theorem se_X2_add : (Cond.selects RX2 yX2_add yX2_add) ∈ wA := in_wA (tb2 142 rfl) rfl
theorem co_X2_add : (Cond.code yX2_add cX2_add 5 none) ∈ wA := in_wA (tb2 143 rfl) rfl
theorem ml_X2_28 : (Cond.methodLink RX2 28 yX5_write) ∈ wA := in_wA (tb2 144 rfl) rfl
theorem ml_X4_106 : (Cond.methodLink RX4 106 yX4_comeBack) ∈ wA := in_wA (tb2 145 rfl) rfl
theorem im_X4_comeBack : (Cond.instanceMethod yX4_comeBack) ∈ wA := in_wA (tb2 147 rfl) rfl
theorem co_X4_comeBack : (Cond.code yX4_comeBack cX4_comeBack 1 none) ∈ wA := in_wA (tb2 148 rfl) rfl
theorem ml_X4_113 : (Cond.methodLink RX4 113 yX2_tell) ∈ wA := in_wA (tb2 149 rfl) rfl
theorem im_X2_tell : (Cond.instanceMethod yX2_tell) ∈ wA := in_wA (tb2 150 rfl) rfl
theorem se_X2_tell : (Cond.selects RX2 yX2_tell yX2_tell) ∈ wA := in_wA (tb2 151 rfl) rfl
theorem co_X2_tell : (Cond.code yX2_tell cX2_tell 3 (some .int)) ∈ wA := in_wA (tb2 152 rfl) rfl
theorem ml_X2_32 : (Cond.methodLink RX2 32 yX5_read) ∈ wA := in_wA (tb2 153 rfl) rfl
theorem ml_L_45 : (Cond.methodLink RL 45 yX8_type) ∈ wA := in_wA (tb2 154 rfl) rfl
theorem im_X8_type : (Cond.instanceMethod yX8_type) ∈ wA := in_wA (tb2 155 rfl) rfl
theorem se_X8_type : (Cond.selects RX8 yX8_type yX8_type) ∈ wA := in_wA (tb2 156 rfl) rfl
theorem co_X8_type : (Cond.code yX8_type cX8_type 2 (some .int)) ∈ wA := in_wA (tb2 157 rfl) rfl
theorem ml_X8_126 : (Cond.methodLink RX8 126 yX6_isFull) ∈ wA := in_wA (tb2 158 rfl) rfl
theorem im_X6_isFull : (Cond.instanceMethod yX6_isFull) ∈ wA := in_wA (tb2 159 rfl) rfl
theorem se_X6_isFull : (Cond.selects RX6 yX6_isFull yX6_isFull) ∈ wA := in_wA (tb2 160 rfl) rfl
theorem co_X6_isFull : (Cond.code yX6_isFull cX6_isFull 1 (some .boolean)) ∈ wA := in_wA (tb2 161 rfl) rfl
theorem ml_X8_130 : (Cond.methodLink RX8 130 yX6_append) ∈ wA := in_wA (tb2 162 rfl) rfl
theorem im_X6_append : (Cond.instanceMethod yX6_append) ∈ wA := in_wA (tb2 163 rfl) rfl
theorem se_X6_append : (Cond.selects RX6 yX6_append yX6_append) ∈ wA := in_wA (tb2 164 rfl) rfl
theorem co_X6_append : (Cond.code yX6_append cX6_append 2 none) ∈ wA := in_wA (tb2 165 rfl) rfl
theorem ml_L_50 : (Cond.methodLink RL 50 yX8_clearText) ∈ wA := in_wA (tb2 166 rfl) rfl
theorem im_X8_clearText : (Cond.instanceMethod yX8_clearText) ∈ wA := in_wA (tb2 167 rfl) rfl
theorem se_X8_clearText : (Cond.selects RX8 yX8_clearText yX8_clearText) ∈ wA := in_wA (tb2 168 rfl) rfl
theorem co_X8_clearText : (Cond.code yX8_clearText cX8_clearText 2 (some .int)) ∈ wA := in_wA (tb2 169 rfl) rfl
theorem ml_L_55 : (Cond.methodLink RL 55 yX8_assemble) ∈ wA := in_wA (tb2 170 rfl) rfl
theorem im_X8_assemble : (Cond.instanceMethod yX8_assemble) ∈ wA := in_wA (tb2 171 rfl) rfl
theorem se_X8_assemble : (Cond.selects RX8 yX8_assemble yX8_assemble) ∈ wA := in_wA (tb2 172 rfl) rfl
theorem co_X8_assemble : (Cond.code yX8_assemble cX8_assemble 4 (some .int)) ∈ wA := in_wA (tb2 173 rfl) rfl
theorem ml_X8_137 : (Cond.methodLink RX8 137 yX1_readFrom) ∈ wA := in_wA (tb2 174 rfl) rfl
theorem im_X1_readFrom : (Cond.instanceMethod yX1_readFrom) ∈ wA := in_wA (tb2 175 rfl) rfl
theorem se_X1_readFrom : (Cond.selects RX1 yX1_readFrom yX1_readFrom) ∈ wA := in_wA (tb2 176 rfl) rfl
theorem co_X1_readFrom : (Cond.code yX1_readFrom cX1_readFrom 3 none) ∈ wA := in_wA (tb2 177 rfl) rfl
theorem ml_X1_27 : (Cond.methodLink RX1 27 yX1_readOrder) ∈ wA := in_wA (tb2 178 rfl) rfl
theorem im_X1_readOrder : (Cond.instanceMethod yX1_readOrder) ∈ wA := in_wA (tb2 180 rfl) rfl
theorem co_X1_readOrder : (Cond.code yX1_readOrder cX1_readOrder 4 (some .int)) ∈ wA := in_wA (tb2 181 rfl) rfl
theorem ml_X1_45 : (Cond.methodLink RX1 45 yX1_readKind) ∈ wA := in_wA (tb2 182 rfl) rfl
theorem im_X1_readKind : (Cond.instanceMethod yX1_readKind) ∈ wA := in_wA (tb2 184 rfl) rfl
theorem co_X1_readKind : (Cond.code yX1_readKind cX1_readKind 6 (some .int)) ∈ wA := in_wA (tb2 185 rfl) rfl
theorem ml_X1_58 : (Cond.methodLink RX1 58 yX1_wordOf) ∈ wA := in_wA (tb2 186 rfl) rfl
theorem st_X1_wordOf : (Cond.static yX1_wordOf) ∈ wA := in_wA (tb2 187 rfl) rfl
theorem co_X1_wordOf : (Cond.code yX1_wordOf cX1_wordOf 1 (some (.object "java/lang/String"))) ∈ wA := in_wA (tb2 188 rfl) rfl
theorem ml_X1_62 : (Cond.methodLink RX1 62 yX1_lengthOfBeginning) ∈ wA := in_wA (tb2 199 rfl) rfl
theorem im_X1_lengthOfBeginning : (Cond.instanceMethod yX1_lengthOfBeginning) ∈ wA := in_wA (tb2 201 rfl) rfl
theorem co_X1_lengthOfBeginning : (Cond.code yX1_lengthOfBeginning cX1_lengthOfBeginning 4 (some .int)) ∈ wA := in_wA (tb2 202 rfl) rfl
theorem ml_X1_66 : (Cond.methodLink RX1 66 yJ0_length_8abf5) ∈ wA := in_wA (tb2 203 rfl) rfl
theorem im_J0_length_8abf5 : (Cond.instanceMethod yJ0_length_8abf5) ∈ wA := in_wA (tb2 204 rfl) rfl
theorem se_J0_length_8abf5 : (Cond.selects RJ0 yJ0_length_8abf5 yJ0_length_8abf5) ∈ wA := in_wA (tb2 205 rfl) rfl
theorem co_J0_length_8abf5 : (Cond.code yJ0_length_8abf5 cJ0_length_8abf5 1 (some .int)) ∈ wA := in_wA (tb2 206 rfl) rfl
theorem ml_J0_335 : (Cond.methodLink RJ0 335 yJ0_coder_7d493) ∈ wA := in_wA (tb2 207 rfl) rfl
theorem im_J0_coder_7d493 : (Cond.instanceMethod yJ0_coder_7d493) ∈ wA := in_wA (tb2 208 rfl) rfl
theorem se_J0_coder_7d493 : (Cond.selects RJ0 yJ0_coder_7d493 yJ0_coder_7d493) ∈ wA := in_wA (tb2 209 rfl) rfl
theorem co_J0_coder_7d493 : (Cond.code yJ0_coder_7d493 cJ0_coder_7d493 1 (some .byte)) ∈ wA := in_wA (tb2 210 rfl) rfl
theorem fl_J0_38 : (Cond.fieldLink RJ0 38 "java/lang/String" "COMPACT_STRINGS" "Z") ∈ wA := in_wA (tb2 211 rfl) rfl
theorem ml_X1_39 : (Cond.methodLink RX1 39 yX6_at) ∈ wA := in_wA (tb2 213 rfl) rfl
theorem im_X6_at : (Cond.instanceMethod yX6_at) ∈ wA := in_wA (tb2 214 rfl) rfl
theorem se_X6_at : (Cond.selects RX6 yX6_at yX6_at) ∈ wA := in_wA (tb2 215 rfl) rfl
theorem co_X6_at : (Cond.code yX6_at cX6_at 2 (some .int)) ∈ wA := in_wA (tb2 216 rfl) rfl
theorem ml_X1_72 : (Cond.methodLink RX1 72 yJ0_charAt_5068e) ∈ wA := in_wA (tb2 217 rfl) rfl
theorem im_J0_charAt_5068e : (Cond.instanceMethod yJ0_charAt_5068e) ∈ wA := in_wA (tb2 218 rfl) rfl
theorem se_J0_charAt_5068e : (Cond.selects RJ0 yJ0_charAt_5068e yJ0_charAt_5068e) ∈ wA := in_wA (tb2 219 rfl) rfl
theorem co_J0_charAt_5068e : (Cond.code yJ0_charAt_5068e cJ0_charAt_5068e 2 (some .char)) ∈ wA := in_wA (tb2 220 rfl) rfl
theorem ml_J0_492 : (Cond.methodLink RJ0 492 yJ0_isLatin1_aae02) ∈ wA := in_wA (tb2 221 rfl) rfl
theorem im_J0_isLatin1_aae02 : (Cond.instanceMethod yJ0_isLatin1_aae02) ∈ wA := in_wA (tb2 222 rfl) rfl
theorem se_J0_isLatin1_aae02 : (Cond.selects RJ0 yJ0_isLatin1_aae02 yJ0_isLatin1_aae02) ∈ wA := in_wA (tb2 223 rfl) rfl
theorem co_J0_isLatin1_aae02 : (Cond.code yJ0_isLatin1_aae02 cJ0_isLatin1_aae02 1 (some .boolean)) ∈ wA := in_wA (tb2 224 rfl) rfl
theorem ml_J0_495 : (Cond.methodLink RJ0 495 yJ1_charAt_3b067) ∈ wA := in_wA (tb2 225 rfl) rfl
theorem st_J1_charAt_3b067 : (Cond.static yJ1_charAt_3b067) ∈ wA := in_wA (tb2 226 rfl) rfl
theorem co_J1_charAt_3b067 : (Cond.code yJ1_charAt_3b067 cJ1_charAt_3b067 2 (some .char)) ∈ wA := in_wA (tb2 227 rfl) rfl
theorem ml_J1_9 : (Cond.methodLink RJ1 9 yJ0_checkIndex_df160) ∈ wA := in_wA (tb2 228 rfl) rfl
theorem st_J0_checkIndex_df160 : (Cond.static yJ0_checkIndex_df160) ∈ wA := in_wA (tb2 229 rfl) rfl
theorem co_J0_checkIndex_df160 : (Cond.code yJ0_checkIndex_df160 cJ0_checkIndex_df160 2 none) ∈ wA := in_wA (tb2 230 rfl) rfl
theorem fl_J0_1053 : (Cond.fieldLink RJ0 1053 "jdk/internal/util/Preconditions" "SIOOBE_FORMATTER" "Ljava/util/function/BiFunction;") ∈ wA := in_wA (tb2 231 rfl) rfl
theorem ml_J0_1059 : (Cond.methodLink RJ0 1059 yJ3_checkIndex_8e157) ∈ wA := in_wA (tb2 233 rfl) rfl
theorem st_J3_checkIndex_8e157 : (Cond.static yJ3_checkIndex_8e157) ∈ wA := in_wA (tb2 234 rfl) rfl
theorem co_J3_checkIndex_8e157 : (Cond.code yJ3_checkIndex_8e157 cJ3_checkIndex_8e157 3 (some .int)) ∈ wA := in_wA (tb2 235 rfl) rfl
theorem ml_J0_498 : (Cond.methodLink RJ0 498 yJ2_charAt_3b067) ∈ wA := in_wA (tb2 236 rfl) rfl
theorem st_J2_charAt_3b067 : (Cond.static yJ2_charAt_3b067) ∈ wA := in_wA (tb2 237 rfl) rfl
theorem co_J2_charAt_3b067 : (Cond.code yJ2_charAt_3b067 cJ2_charAt_3b067 2 (some .char)) ∈ wA := in_wA (tb2 238 rfl) rfl
theorem ml_J2_67 : (Cond.methodLink RJ2 67 yJ2_checkIndex_2214a) ∈ wA := in_wA (tb2 239 rfl) rfl
theorem st_J2_checkIndex_2214a : (Cond.static yJ2_checkIndex_2214a) ∈ wA := in_wA (tb3 0 rfl) rfl
theorem co_J2_checkIndex_2214a : (Cond.code yJ2_checkIndex_2214a cJ2_checkIndex_2214a 2 none) ∈ wA := in_wA (tb3 1 rfl) rfl
theorem ml_J2_48 : (Cond.methodLink RJ2 48 yJ2_length_9d52b) ∈ wA := in_wA (tb3 2 rfl) rfl
theorem st_J2_length_9d52b : (Cond.static yJ2_length_9d52b) ∈ wA := in_wA (tb3 3 rfl) rfl
theorem co_J2_length_9d52b : (Cond.code yJ2_length_9d52b cJ2_length_9d52b 1 (some .int)) ∈ wA := in_wA (tb3 4 rfl) rfl
theorem ml_J2_414 : (Cond.methodLink RJ2 414 yJ0_checkIndex_df160) ∈ wA := in_wA (tb3 5 rfl) rfl
theorem ml_J2_71 : (Cond.methodLink RJ2 71 yJ2_getChar_3b067) ∈ wA := in_wA (tb3 6 rfl) rfl
theorem st_J2_getChar_3b067 : (Cond.static yJ2_getChar_3b067) ∈ wA := in_wA (tb3 7 rfl) rfl
theorem co_J2_getChar_3b067 : (Cond.code yJ2_getChar_3b067 cJ2_getChar_3b067 2 (some .char)) ∈ wA := in_wA (tb3 8 rfl) rfl
theorem fl_J2_44 : (Cond.fieldLink RJ2 44 "java/lang/StringUTF16" "$assertionsDisabled" "Z") ∈ wA := in_wA (tb3 9 rfl) rfl
theorem fl_J2_59 : (Cond.fieldLink RJ2 59 "java/lang/StringUTF16" "HI_BYTE_SHIFT" "I") ∈ wA := in_wA (tb3 11 rfl) rfl
theorem fl_J2_63 : (Cond.fieldLink RJ2 63 "java/lang/StringUTF16" "LO_BYTE_SHIFT" "I") ∈ wA := in_wA (tb3 13 rfl) rfl
theorem ml_X1_48 : (Cond.methodLink RX1 48 yX1_mostFirst) ∈ wA := in_wA (tb3 15 rfl) rfl
theorem st_X1_mostFirst : (Cond.static yX1_mostFirst) ∈ wA := in_wA (tb3 16 rfl) rfl
theorem co_X1_mostFirst : (Cond.code yX1_mostFirst cX1_mostFirst 1 (some .int)) ∈ wA := in_wA (tb3 17 rfl) rfl
theorem ml_X1_51 : (Cond.methodLink RX1 51 yX1_readNumber) ∈ wA := in_wA (tb3 18 rfl) rfl
theorem im_X1_readNumber : (Cond.instanceMethod yX1_readNumber) ∈ wA := in_wA (tb3 20 rfl) rfl
theorem co_X1_readNumber : (Cond.code yX1_readNumber cX1_readNumber 5 (some .int)) ∈ wA := in_wA (tb3 21 rfl) rfl
theorem ml_X1_76 : (Cond.methodLink RX1 76 yX1_digitAt) ∈ wA := in_wA (tb3 22 rfl) rfl
theorem st_X1_digitAt : (Cond.static yX1_digitAt) ∈ wA := in_wA (tb3 23 rfl) rfl
theorem co_X1_digitAt : (Cond.code yX1_digitAt cX1_digitAt 3 (some .int)) ∈ wA := in_wA (tb3 24 rfl) rfl
theorem ml_X1_55 : (Cond.methodLink RX1 55 yX1_mostSecond) ∈ wA := in_wA (tb3 25 rfl) rfl
theorem st_X1_mostSecond : (Cond.static yX1_mostSecond) ∈ wA := in_wA (tb3 26 rfl) rfl
theorem co_X1_mostSecond : (Cond.code yX1_mostSecond cX1_mostSecond 1 (some .int)) ∈ wA := in_wA (tb3 27 rfl) rfl
theorem ml_X1_31 : (Cond.methodLink RX1 31 yX5_write) ∈ wA := in_wA (tb3 28 rfl) rfl
theorem ac_byte : (Cond.arrayClass .byte) ∈ wA := in_wA (tb3 29 rfl) rfl
theorem ml_L_59 : (Cond.methodLink RL 59 yX8_undo) ∈ wA := in_wA (tb3 30 rfl) rfl
theorem im_X8_undo : (Cond.instanceMethod yX8_undo) ∈ wA := in_wA (tb3 31 rfl) rfl
theorem se_X8_undo : (Cond.selects RX8 yX8_undo yX8_undo) ∈ wA := in_wA (tb3 32 rfl) rfl
theorem co_X8_undo : (Cond.code yX8_undo cX8_undo 1 (some .int)) ∈ wA := in_wA (tb3 33 rfl) rfl
theorem ml_X8_155 : (Cond.methodLink RX8 155 yX3_bringBack) ∈ wA := in_wA (tb3 34 rfl) rfl
theorem im_X3_bringBack : (Cond.instanceMethod yX3_bringBack) ∈ wA := in_wA (tb3 35 rfl) rfl
theorem se_X3_bringBack : (Cond.selects RX3 yX3_bringBack yX3_bringBack) ∈ wA := in_wA (tb3 36 rfl) rfl
theorem co_X3_bringBack : (Cond.code yX3_bringBack cX3_bringBack 2 none) ∈ wA := in_wA (tb3 37 rfl) rfl
theorem ml_L_63 : (Cond.methodLink RL 63 yX8_keep) ∈ wA := in_wA (tb3 38 rfl) rfl
theorem im_X8_keep : (Cond.instanceMethod yX8_keep) ∈ wA := in_wA (tb3 39 rfl) rfl
theorem se_X8_keep : (Cond.selects RX8 yX8_keep yX8_keep) ∈ wA := in_wA (tb3 40 rfl) rfl
theorem co_X8_keep : (Cond.code yX8_keep cX8_keep 1 (some .int)) ∈ wA := in_wA (tb3 41 rfl) rfl
theorem ml_X8_158 : (Cond.methodLink RX8 158 yX4_copyFrom) ∈ wA := in_wA (tb3 42 rfl) rfl
theorem ml_L_67 : (Cond.methodLink RL 67 yX8_restore) ∈ wA := in_wA (tb3 43 rfl) rfl
theorem im_X8_restore : (Cond.instanceMethod yX8_restore) ∈ wA := in_wA (tb3 44 rfl) rfl
theorem se_X8_restore : (Cond.selects RX8 yX8_restore yX8_restore) ∈ wA := in_wA (tb3 45 rfl) rfl
theorem co_X8_restore : (Cond.code yX8_restore cX8_restore 1 (some .int)) ∈ wA := in_wA (tb3 46 rfl) rfl
theorem ml_L_71 : (Cond.methodLink RL 71 yX8_cell) ∈ wA := in_wA (tb3 47 rfl) rfl
theorem im_X8_cell : (Cond.instanceMethod yX8_cell) ∈ wA := in_wA (tb3 48 rfl) rfl
theorem se_X8_cell : (Cond.selects RX8 yX8_cell yX8_cell) ∈ wA := in_wA (tb3 49 rfl) rfl
theorem co_X8_cell : (Cond.code yX8_cell cX8_cell 3 (some .int)) ∈ wA := in_wA (tb3 50 rfl) rfl
theorem ml_L_75 : (Cond.methodLink RL 75 yX8_address) ∈ wA := in_wA (tb3 51 rfl) rfl
theorem im_X8_address : (Cond.instanceMethod yX8_address) ∈ wA := in_wA (tb3 52 rfl) rfl
theorem se_X8_address : (Cond.selects RX8 yX8_address yX8_address) ∈ wA := in_wA (tb3 53 rfl) rfl
theorem co_X8_address : (Cond.code yX8_address cX8_address 3 (some .int)) ∈ wA := in_wA (tb3 54 rfl) rfl
theorem ml_X8_164 : (Cond.methodLink RX8 164 yX0_numberAt) ∈ wA := in_wA (tb3 55 rfl) rfl
theorem ml_X8_167 : (Cond.methodLink RX8 167 yX0_bankAt) ∈ wA := in_wA (tb3 56 rfl) rfl
theorem ml_X8_170 : (Cond.methodLink RX8 170 yX0_twinOf) ∈ wA := in_wA (tb3 57 rfl) rfl
theorem im_X0_twinOf : (Cond.instanceMethod yX0_twinOf) ∈ wA := in_wA (tb3 58 rfl) rfl
theorem se_X0_twinOf : (Cond.selects RX0 yX0_twinOf yX0_twinOf) ∈ wA := in_wA (tb3 59 rfl) rfl
theorem co_X0_twinOf : (Cond.code yX0_twinOf cX0_twinOf 6 (some .int)) ∈ wA := in_wA (tb3 60 rfl) rfl
theorem ml_L_79 : (Cond.methodLink RL 79 yX8_bank) ∈ wA := in_wA (tb3 61 rfl) rfl
theorem im_X8_bank : (Cond.instanceMethod yX8_bank) ∈ wA := in_wA (tb3 62 rfl) rfl
theorem se_X8_bank : (Cond.selects RX8 yX8_bank yX8_bank) ∈ wA := in_wA (tb3 63 rfl) rfl
theorem co_X8_bank : (Cond.code yX8_bank cX8_bank 3 (some .int)) ∈ wA := in_wA (tb3 64 rfl) rfl
theorem ml_X8_173 : (Cond.methodLink RX8 173 yX0_windowsOf) ∈ wA := in_wA (tb3 65 rfl) rfl
theorem im_X0_windowsOf : (Cond.instanceMethod yX0_windowsOf) ∈ wA := in_wA (tb3 66 rfl) rfl
theorem se_X0_windowsOf : (Cond.selects RX0 yX0_windowsOf yX0_windowsOf) ∈ wA := in_wA (tb3 67 rfl) rfl
theorem co_X0_windowsOf : (Cond.code yX0_windowsOf cX0_windowsOf 4 (some .int)) ∈ wA := in_wA (tb3 68 rfl) rfl
theorem ml_X8_176 : (Cond.methodLink RX8 176 yX0_usedCellsOf) ∈ wA := in_wA (tb3 69 rfl) rfl
theorem im_X0_usedCellsOf : (Cond.instanceMethod yX0_usedCellsOf) ∈ wA := in_wA (tb3 70 rfl) rfl
theorem se_X0_usedCellsOf : (Cond.selects RX0 yX0_usedCellsOf yX0_usedCellsOf) ∈ wA := in_wA (tb3 71 rfl) rfl
theorem co_X0_usedCellsOf : (Cond.code yX0_usedCellsOf cX0_usedCellsOf 4 (some .int)) ∈ wA := in_wA (tb3 72 rfl) rfl
theorem ml_X8_183 : (Cond.methodLink RX8 183 yX2_howManyBackTo) ∈ wA := in_wA (tb3 73 rfl) rfl
theorem im_X2_howManyBackTo : (Cond.instanceMethod yX2_howManyBackTo) ∈ wA := in_wA (tb3 74 rfl) rfl
theorem se_X2_howManyBackTo : (Cond.selects RX2 yX2_howManyBackTo yX2_howManyBackTo) ∈ wA := in_wA (tb3 75 rfl) rfl
theorem co_X2_howManyBackTo : (Cond.code yX2_howManyBackTo cX2_howManyBackTo 4 (some .int)) ∈ wA := in_wA (tb3 76 rfl) rfl
theorem ml_X2_36 : (Cond.methodLink RX2 36 yX2_tell) ∈ wA := in_wA (tb3 77 rfl) rfl
theorem ml_L_83 : (Cond.methodLink RL 83 yX8_window) ∈ wA := in_wA (tb3 78 rfl) rfl
theorem im_X8_window : (Cond.instanceMethod yX8_window) ∈ wA := in_wA (tb3 79 rfl) rfl
theorem se_X8_window : (Cond.selects RX8 yX8_window yX8_window) ∈ wA := in_wA (tb3 80 rfl) rfl
theorem co_X8_window : (Cond.code yX8_window cX8_window 2 (some .int)) ∈ wA := in_wA (tb3 81 rfl) rfl
theorem ml_L_87 : (Cond.methodLink RL 87 yX8_frame) ∈ wA := in_wA (tb3 82 rfl) rfl
theorem im_X8_frame : (Cond.instanceMethod yX8_frame) ∈ wA := in_wA (tb3 83 rfl) rfl
theorem se_X8_frame : (Cond.selects RX8 yX8_frame yX8_frame) ∈ wA := in_wA (tb3 84 rfl) rfl
theorem co_X8_frame : (Cond.code yX8_frame cX8_frame 3 (some .int)) ∈ wA := in_wA (tb3 85 rfl) rfl
theorem ml_X8_195 : (Cond.methodLink RX8 195 yX2_tell) ∈ wA := in_wA (tb3 86 rfl) rfl
theorem ml_L_91 : (Cond.methodLink RL 91 yX8_latest) ∈ wA := in_wA (tb3 87 rfl) rfl
theorem im_X8_latest : (Cond.instanceMethod yX8_latest) ∈ wA := in_wA (tb3 88 rfl) rfl
theorem se_X8_latest : (Cond.selects RX8 yX8_latest yX8_latest) ∈ wA := in_wA (tb3 89 rfl) rfl
theorem co_X8_latest : (Cond.code yX8_latest cX8_latest 3 (some .int)) ∈ wA := in_wA (tb3 90 rfl) rfl
theorem ml_X8_198 : (Cond.methodLink RX8 198 Lib.Math.min.name) ∈ wA := in_wA (tb3 91 rfl) rfl
theorem ml_X8_203 : (Cond.methodLink RX8 203 yX7_tell) ∈ wA := in_wA (tb3 92 rfl) rfl
theorem im_X7_tell : (Cond.instanceMethod yX7_tell) ∈ wA := in_wA (tb3 93 rfl) rfl
theorem se_X7_tell : (Cond.selects RX7 yX7_tell yX7_tell) ∈ wA := in_wA (tb3 94 rfl) rfl
theorem co_X7_tell : (Cond.code yX7_tell cX7_tell 3 (some .int)) ∈ wA := in_wA (tb3 95 rfl) rfl
theorem ml_X7_32 : (Cond.methodLink RX7 32 yX5_read) ∈ wA := in_wA (tb3 96 rfl) rfl
theorem ml_L_95 : (Cond.methodLink RL 95 yX8_next) ∈ wA := in_wA (tb3 97 rfl) rfl
theorem im_X8_next : (Cond.instanceMethod yX8_next) ∈ wA := in_wA (tb3 98 rfl) rfl
theorem se_X8_next : (Cond.selects RX8 yX8_next yX8_next) ∈ wA := in_wA (tb3 99 rfl) rfl
theorem co_X8_next : (Cond.code yX8_next cX8_next 2 (some .int)) ∈ wA := in_wA (tb3 100 rfl) rfl
theorem ml_X8_204 : (Cond.methodLink RX8 204 yX4_step) ∈ wA := in_wA (tb3 101 rfl) rfl
theorem ml_L_99 : (Cond.methodLink RL 99 yX8_ifRun) ∈ wA := in_wA (tb3 102 rfl) rfl
theorem im_X8_ifRun : (Cond.instanceMethod yX8_ifRun) ∈ wA := in_wA (tb3 103 rfl) rfl
theorem se_X8_ifRun : (Cond.selects RX8 yX8_ifRun yX8_ifRun) ∈ wA := in_wA (tb3 104 rfl) rfl
theorem co_X8_ifRun : (Cond.code yX8_ifRun cX8_ifRun 4 (some .int)) ∈ wA := in_wA (tb3 105 rfl) rfl
theorem ml_X8_213 : (Cond.methodLink RX8 213 yX5_differencesTo) ∈ wA := in_wA (tb3 106 rfl) rfl
theorem im_X5_differencesTo : (Cond.instanceMethod yX5_differencesTo) ∈ wA := in_wA (tb3 107 rfl) rfl
theorem se_X5_differencesTo : (Cond.selects RX5 yX5_differencesTo yX5_differencesTo) ∈ wA := in_wA (tb3 108 rfl) rfl
theorem co_X5_differencesTo : (Cond.code yX5_differencesTo cX5_differencesTo 4 (some .int)) ∈ wA := in_wA (tb3 109 rfl) rfl
theorem ml_X5_19 : (Cond.methodLink RX5 19 yX5_read) ∈ wA := in_wA (tb3 110 rfl) rfl
theorem ml_L_103 : (Cond.methodLink RL 103 yX8_backIn) ∈ wA := in_wA (tb3 111 rfl) rfl
theorem im_X8_backIn : (Cond.instanceMethod yX8_backIn) ∈ wA := in_wA (tb3 112 rfl) rfl
theorem se_X8_backIn : (Cond.selects RX8 yX8_backIn yX8_backIn) ∈ wA := in_wA (tb3 113 rfl) rfl
theorem co_X8_backIn : (Cond.code yX8_backIn cX8_backIn 3 (some .int)) ∈ wA := in_wA (tb3 114 rfl) rfl
theorem ml_L_107 : (Cond.methodLink RL 107 yX8_count) ∈ wA := in_wA (tb3 115 rfl) rfl
theorem im_X8_count : (Cond.instanceMethod yX8_count) ∈ wA := in_wA (tb3 116 rfl) rfl
theorem se_X8_count : (Cond.selects RX8 yX8_count yX8_count) ∈ wA := in_wA (tb3 117 rfl) rfl
theorem co_X8_count : (Cond.code yX8_count cX8_count 2 (some .int)) ∈ wA := in_wA (tb3 118 rfl) rfl
theorem cl_L_10 : (Cond.classLink RL 10 RX9) ∈ wA := in_wA (tb3 119 rfl) rfl
theorem ib_X9 : (Cond.instantiable RX9 12) ∈ wA := in_wA (tb3 120 rfl) rfl
theorem ml_L_12 : (Cond.methodLink RL 12 yX9_init) ∈ wA := in_wA (tb3 121 rfl) rfl
theorem im_X9_init : (Cond.instanceMethod yX9_init) ∈ wA := in_wA (tb3 122 rfl) rfl
theorem co_X9_init : (Cond.code yX9_init cX9_init 2 none) ∈ wA := in_wA (tb3 123 rfl) rfl
theorem ml_X9_1 : (Cond.methodLink RX9 1 objectInit) ∈ wA := in_wA (tb3 124 rfl) rfl
theorem fl_X9_7 : (Cond.fieldLink RX9 7 "FarBanksModel" "z" "[I") ∈ wA := in_wA (tb3 125 rfl) rfl
theorem fl_X9_13 : (Cond.fieldLink RX9 13 "FarBanksModel" "aside" "[I") ∈ wA := in_wA (tb3 126 rfl) rfl
theorem fl_X9_16 : (Cond.fieldLink RX9 16 "FarBanksModel" "old" "[I") ∈ wA := in_wA (tb3 127 rfl) rfl
theorem fl_X9_40 : (Cond.fieldLink RX9 40 "FarBanksModel" "states" "I") ∈ wA := in_wA (tb3 128 rfl) rfl
theorem fl_X9_19 : (Cond.fieldLink RX9 19 "FarBanksModel" "kept" "[I") ∈ wA := in_wA (tb3 129 rfl) rfl
theorem fl_X9_44 : (Cond.fieldLink RX9 44 "FarBanksModel" "isKept" "Z") ∈ wA := in_wA (tb3 130 rfl) rfl
theorem fl_X9_22 : (Cond.fieldLink RX9 22 "FarBanksModel" "text" "[I") ∈ wA := in_wA (tb3 131 rfl) rfl
theorem fl_X9_105 : (Cond.fieldLink RX9 105 "FarBanksModel" "length" "I") ∈ wA := in_wA (tb3 132 rfl) rfl
theorem fl_X9_108 : (Cond.fieldLink RX9 108 "FarBanksModel" "place" "I") ∈ wA := in_wA (tb3 133 rfl) rfl
theorem fl_X9_111 : (Cond.fieldLink RX9 111 "FarBanksModel" "isWrong" "Z") ∈ wA := in_wA (tb3 134 rfl) rfl
theorem fl_X9_25 : (Cond.fieldLink RX9 25 "FarBanksModel" "orders" "[I") ∈ wA := in_wA (tb3 135 rfl) rfl
theorem fl_X9_128 : (Cond.fieldLink RX9 128 "FarBanksModel" "many" "I") ∈ wA := in_wA (tb3 136 rfl) rfl
theorem ml_L_62 : (Cond.methodLink RL 62 yX9_undo) ∈ wA := in_wA (tb3 162 rfl) rfl
theorem im_X9_undo : (Cond.instanceMethod yX9_undo) ∈ wA := in_wA (tb3 163 rfl) rfl
theorem se_X9_undo : (Cond.selects RX9 yX9_undo yX9_undo) ∈ wA := in_wA (tb3 164 rfl) rfl
theorem co_X9_undo : (Cond.code yX9_undo cX9_undo 2 (some .int)) ∈ wA := in_wA (tb3 165 rfl) rfl
theorem ml_L_66 : (Cond.methodLink RL 66 yX9_keep) ∈ wA := in_wA (tb3 166 rfl) rfl
theorem im_X9_keep : (Cond.instanceMethod yX9_keep) ∈ wA := in_wA (tb3 167 rfl) rfl
theorem se_X9_keep : (Cond.selects RX9 yX9_keep yX9_keep) ∈ wA := in_wA (tb3 168 rfl) rfl
theorem co_X9_keep : (Cond.code yX9_keep cX9_keep 2 (some .int)) ∈ wA := in_wA (tb3 169 rfl) rfl
theorem ml_L_70 : (Cond.methodLink RL 70 yX9_restore) ∈ wA := in_wA (tb3 170 rfl) rfl
theorem im_X9_restore : (Cond.instanceMethod yX9_restore) ∈ wA := in_wA (tb3 171 rfl) rfl
theorem se_X9_restore : (Cond.selects RX9 yX9_restore yX9_restore) ∈ wA := in_wA (tb3 172 rfl) rfl
theorem co_X9_restore : (Cond.code yX9_restore cX9_restore 2 (some .int)) ∈ wA := in_wA (tb3 173 rfl) rfl
theorem ml_X9_48 : (Cond.methodLink RX9 48 yX9_record) ∈ wA := in_wA (tb3 174 rfl) rfl
theorem im_X9_record : (Cond.instanceMethod yX9_record) ∈ wA := in_wA (tb3 176 rfl) rfl
theorem co_X9_record : (Cond.code yX9_record cX9_record 2 none) ∈ wA := in_wA (tb3 177 rfl) rfl
theorem ml_L_17 : (Cond.methodLink RL 17 yX9_put) ∈ wA := in_wA (tb3 178 rfl) rfl
theorem im_X9_put : (Cond.instanceMethod yX9_put) ∈ wA := in_wA (tb3 179 rfl) rfl
theorem se_X9_put : (Cond.selects RX9 yX9_put yX9_put) ∈ wA := in_wA (tb3 180 rfl) rfl
theorem co_X9_put : (Cond.code yX9_put cX9_put 4 (some .int)) ∈ wA := in_wA (tb3 181 rfl) rfl
theorem ml_X9_51 : (Cond.methodLink RX9 51 yX9_isBank) ∈ wA := in_wA (tb3 182 rfl) rfl
theorem st_X9_isBank : (Cond.static yX9_isBank) ∈ wA := in_wA (tb3 183 rfl) rfl
theorem co_X9_isBank : (Cond.code yX9_isBank cX9_isBank 1 (some .boolean)) ∈ wA := in_wA (tb3 184 rfl) rfl
theorem ml_X9_28 : (Cond.methodLink RX9 28 yX9_in) ∈ wA := in_wA (tb3 185 rfl) rfl
theorem st_X9_in : (Cond.static yX9_in) ∈ wA := in_wA (tb3 186 rfl) rfl
theorem co_X9_in : (Cond.code yX9_in cX9_in 3 (some .boolean)) ∈ wA := in_wA (tb3 187 rfl) rfl
theorem ml_X9_55 : (Cond.methodLink RX9 55 yX9_isCell) ∈ wA := in_wA (tb3 188 rfl) rfl
theorem st_X9_isCell : (Cond.static yX9_isCell) ∈ wA := in_wA (tb3 189 rfl) rfl
theorem co_X9_isCell : (Cond.code yX9_isCell cX9_isCell 1 (some .boolean)) ∈ wA := in_wA (tb3 190 rfl) rfl
theorem ml_X9_36 : (Cond.methodLink RX9 36 yX9_index) ∈ wA := in_wA (tb3 191 rfl) rfl
theorem st_X9_index : (Cond.static yX9_index) ∈ wA := in_wA (tb3 192 rfl) rfl
theorem co_X9_index : (Cond.code yX9_index cX9_index 2 (some .int)) ∈ wA := in_wA (tb3 193 rfl) rfl
theorem ml_X9_58 : (Cond.methodLink RX9 58 yX9_change) ∈ wA := in_wA (tb3 194 rfl) rfl
theorem im_X9_change : (Cond.instanceMethod yX9_change) ∈ wA := in_wA (tb3 196 rfl) rfl
theorem co_X9_change : (Cond.code yX9_change cX9_change 4 (some .int)) ∈ wA := in_wA (tb3 197 rfl) rfl
theorem ml_L_22 : (Cond.methodLink RL 22 yX9_lock) ∈ wA := in_wA (tb3 198 rfl) rfl
theorem im_X9_lock : (Cond.instanceMethod yX9_lock) ∈ wA := in_wA (tb3 199 rfl) rfl
theorem se_X9_lock : (Cond.selects RX9 yX9_lock yX9_lock) ∈ wA := in_wA (tb3 200 rfl) rfl
theorem co_X9_lock : (Cond.code yX9_lock cX9_lock 3 (some .int)) ∈ wA := in_wA (tb3 201 rfl) rfl
theorem ml_X9_61 : (Cond.methodLink RX9 61 yX9_locked) ∈ wA := in_wA (tb3 202 rfl) rfl
theorem im_X9_locked : (Cond.instanceMethod yX9_locked) ∈ wA := in_wA (tb3 204 rfl) rfl
theorem co_X9_locked : (Cond.code yX9_locked cX9_locked 3 (some .int)) ∈ wA := in_wA (tb3 205 rfl) rfl
theorem ml_L_27 : (Cond.methodLink RL 27 yX9_show) ∈ wA := in_wA (tb3 206 rfl) rfl
theorem im_X9_show : (Cond.instanceMethod yX9_show) ∈ wA := in_wA (tb3 207 rfl) rfl
theorem se_X9_show : (Cond.selects RX9 yX9_show yX9_show) ∈ wA := in_wA (tb3 208 rfl) rfl
theorem co_X9_show : (Cond.code yX9_show cX9_show 3 (some .int)) ∈ wA := in_wA (tb3 209 rfl) rfl
theorem ml_X9_65 : (Cond.methodLink RX9 65 yX9_isWindow) ∈ wA := in_wA (tb3 210 rfl) rfl
theorem st_X9_isWindow : (Cond.static yX9_isWindow) ∈ wA := in_wA (tb3 211 rfl) rfl
theorem co_X9_isWindow : (Cond.code yX9_isWindow cX9_isWindow 1 (some .boolean)) ∈ wA := in_wA (tb3 212 rfl) rfl
theorem ml_L_31 : (Cond.methodLink RL 31 yX9_copyBank) ∈ wA := in_wA (tb3 213 rfl) rfl
theorem im_X9_copyBank : (Cond.instanceMethod yX9_copyBank) ∈ wA := in_wA (tb3 214 rfl) rfl
theorem se_X9_copyBank : (Cond.selects RX9 yX9_copyBank yX9_copyBank) ∈ wA := in_wA (tb3 215 rfl) rfl
theorem co_X9_copyBank : (Cond.code yX9_copyBank cX9_copyBank 5 (some .int)) ∈ wA := in_wA (tb3 216 rfl) rfl
theorem ml_L_36 : (Cond.methodLink RL 36 yX9_set) ∈ wA := in_wA (tb3 217 rfl) rfl
theorem im_X9_set : (Cond.instanceMethod yX9_set) ∈ wA := in_wA (tb3 218 rfl) rfl
theorem se_X9_set : (Cond.selects RX9 yX9_set yX9_set) ∈ wA := in_wA (tb3 219 rfl) rfl
theorem co_X9_set : (Cond.code yX9_set cX9_set 2 (some .int)) ∈ wA := in_wA (tb3 220 rfl) rfl
theorem ml_L_40 : (Cond.methodLink RL 40 yX9_begin) ∈ wA := in_wA (tb3 221 rfl) rfl
theorem im_X9_begin : (Cond.instanceMethod yX9_begin) ∈ wA := in_wA (tb3 222 rfl) rfl
theorem se_X9_begin : (Cond.selects RX9 yX9_begin yX9_begin) ∈ wA := in_wA (tb3 223 rfl) rfl
theorem co_X9_begin : (Cond.code yX9_begin cX9_begin 3 (some .int)) ∈ wA := in_wA (tb3 224 rfl) rfl
theorem ml_X9_68 : (Cond.methodLink RX9 68 yX9_isAddress) ∈ wA := in_wA (tb3 225 rfl) rfl
theorem st_X9_isAddress : (Cond.static yX9_isAddress) ∈ wA := in_wA (tb3 226 rfl) rfl
theorem co_X9_isAddress : (Cond.code yX9_isAddress cX9_isAddress 1 (some .boolean)) ∈ wA := in_wA (tb3 227 rfl) rfl
theorem ml_L_44 : (Cond.methodLink RL 44 yX9_run) ∈ wA := in_wA (tb3 228 rfl) rfl
theorem im_X9_run : (Cond.instanceMethod yX9_run) ∈ wA := in_wA (tb3 229 rfl) rfl
theorem se_X9_run : (Cond.selects RX9 yX9_run yX9_run) ∈ wA := in_wA (tb3 230 rfl) rfl
theorem co_X9_run : (Cond.code yX9_run cX9_run 2 (some .int)) ∈ wA := in_wA (tb3 231 rfl) rfl
theorem cn_X9_101 : (Cond.constant RX9 101 (999999 : Int32)) ∈ wA := in_wA (tb3 232 rfl) rfl
theorem ml_X9_102 : (Cond.methodLink RX9 102 yX9_doRun) ∈ wA := in_wA (tb3 233 rfl) rfl
theorem im_X9_doRun : (Cond.instanceMethod yX9_doRun) ∈ wA := in_wA (tb3 235 rfl) rfl
theorem co_X9_doRun : (Cond.code yX9_doRun cX9_doRun 3 (some .int)) ∈ wA := in_wA (tb3 236 rfl) rfl
theorem ml_X9_98 : (Cond.methodLink RX9 98 yX9_step) ∈ wA := in_wA (tb3 237 rfl) rfl
theorem im_X9_step : (Cond.instanceMethod yX9_step) ∈ wA := in_wA (tb3 239 rfl) rfl
theorem co_X9_step : (Cond.code yX9_step cX9_step 5 none) ∈ wA := in_wA (tb4 0 rfl) rfl
theorem ml_X9_71 : (Cond.methodLink RX9 71 yX9_indexAt) ∈ wA := in_wA (tb4 1 rfl) rfl
theorem im_X9_indexAt : (Cond.instanceMethod yX9_indexAt) ∈ wA := in_wA (tb4 3 rfl) rfl
theorem co_X9_indexAt : (Cond.code yX9_indexAt cX9_indexAt 2 (some .int)) ∈ wA := in_wA (tb4 4 rfl) rfl
theorem ml_X9_32 : (Cond.methodLink RX9 32 yX9_bankAt) ∈ wA := in_wA (tb4 5 rfl) rfl
theorem im_X9_bankAt : (Cond.instanceMethod yX9_bankAt) ∈ wA := in_wA (tb4 7 rfl) rfl
theorem co_X9_bankAt : (Cond.code yX9_bankAt cX9_bankAt 2 (some .int)) ∈ wA := in_wA (tb4 8 rfl) rfl
theorem ml_X9_88 : (Cond.methodLink RX9 88 yX9_keepStep) ∈ wA := in_wA (tb4 9 rfl) rfl
theorem im_X9_keepStep : (Cond.instanceMethod yX9_keepStep) ∈ wA := in_wA (tb4 11 rfl) rfl
theorem co_X9_keepStep : (Cond.code yX9_keepStep cX9_keepStep 4 none) ∈ wA := in_wA (tb4 12 rfl) rfl
theorem ml_X9_91 : (Cond.methodLink RX9 91 yX9_whyNot) ∈ wA := in_wA (tb4 13 rfl) rfl
theorem im_X9_whyNot : (Cond.instanceMethod yX9_whyNot) ∈ wA := in_wA (tb4 15 rfl) rfl
theorem co_X9_whyNot : (Cond.code yX9_whyNot cX9_whyNot 4 (some .int)) ∈ wA := in_wA (tb4 16 rfl) rfl
theorem ml_X9_94 : (Cond.methodLink RX9 94 yX9_order) ∈ wA := in_wA (tb4 17 rfl) rfl
theorem im_X9_order : (Cond.instanceMethod yX9_order) ∈ wA := in_wA (tb4 19 rfl) rfl
theorem co_X9_order : (Cond.code yX9_order cX9_order 4 none) ∈ wA := in_wA (tb4 20 rfl) rfl
theorem ml_X9_74 : (Cond.methodLink RX9 74 yX9_sum) ∈ wA := in_wA (tb4 21 rfl) rfl
theorem st_X9_sum : (Cond.static yX9_sum) ∈ wA := in_wA (tb4 22 rfl) rfl
theorem co_X9_sum : (Cond.code yX9_sum cX9_sum 2 (some .int)) ∈ wA := in_wA (tb4 23 rfl) rfl
theorem ml_X9_77 : (Cond.methodLink RX9 77 yX9_write) ∈ wA := in_wA (tb4 24 rfl) rfl
theorem im_X9_write : (Cond.instanceMethod yX9_write) ∈ wA := in_wA (tb4 26 rfl) rfl
theorem co_X9_write : (Cond.code yX9_write cX9_write 3 none) ∈ wA := in_wA (tb4 27 rfl) rfl
theorem ml_X9_81 : (Cond.methodLink RX9 81 yX9_call) ∈ wA := in_wA (tb4 28 rfl) rfl
theorem im_X9_call : (Cond.instanceMethod yX9_call) ∈ wA := in_wA (tb4 30 rfl) rfl
theorem co_X9_call : (Cond.code yX9_call cX9_call 4 none) ∈ wA := in_wA (tb4 31 rfl) rfl
theorem ml_X9_85 : (Cond.methodLink RX9 85 yX9_back) ∈ wA := in_wA (tb4 32 rfl) rfl
theorem im_X9_back : (Cond.instanceMethod yX9_back) ∈ wA := in_wA (tb4 34 rfl) rfl
theorem co_X9_back : (Cond.code yX9_back cX9_back 2 none) ∈ wA := in_wA (tb4 35 rfl) rfl
theorem ml_L_49 : (Cond.methodLink RL 49 yX9_type) ∈ wA := in_wA (tb4 36 rfl) rfl
theorem im_X9_type : (Cond.instanceMethod yX9_type) ∈ wA := in_wA (tb4 37 rfl) rfl
theorem se_X9_type : (Cond.selects RX9 yX9_type yX9_type) ∈ wA := in_wA (tb4 38 rfl) rfl
theorem co_X9_type : (Cond.code yX9_type cX9_type 2 (some .int)) ∈ wA := in_wA (tb4 39 rfl) rfl
theorem ml_L_54 : (Cond.methodLink RL 54 yX9_clearText) ∈ wA := in_wA (tb4 40 rfl) rfl
theorem im_X9_clearText : (Cond.instanceMethod yX9_clearText) ∈ wA := in_wA (tb4 41 rfl) rfl
theorem se_X9_clearText : (Cond.selects RX9 yX9_clearText yX9_clearText) ∈ wA := in_wA (tb4 42 rfl) rfl
theorem co_X9_clearText : (Cond.code yX9_clearText cX9_clearText 2 (some .int)) ∈ wA := in_wA (tb4 43 rfl) rfl
theorem ml_L_58 : (Cond.methodLink RL 58 yX9_assemble) ∈ wA := in_wA (tb4 44 rfl) rfl
theorem im_X9_assemble : (Cond.instanceMethod yX9_assemble) ∈ wA := in_wA (tb4 45 rfl) rfl
theorem se_X9_assemble : (Cond.selects RX9 yX9_assemble yX9_assemble) ∈ wA := in_wA (tb4 46 rfl) rfl
theorem co_X9_assemble : (Cond.code yX9_assemble cX9_assemble 5 (some .int)) ∈ wA := in_wA (tb4 47 rfl) rfl
theorem ml_X9_134 : (Cond.methodLink RX9 134 yX9_findFault) ∈ wA := in_wA (tb4 48 rfl) rfl
theorem im_X9_findFault : (Cond.instanceMethod yX9_findFault) ∈ wA := in_wA (tb4 50 rfl) rfl
theorem co_X9_findFault : (Cond.code yX9_findFault cX9_findFault 2 (some .int)) ∈ wA := in_wA (tb4 51 rfl) rfl
theorem ml_X9_131 : (Cond.methodLink RX9 131 yX9_takeOrder) ∈ wA := in_wA (tb4 52 rfl) rfl
theorem im_X9_takeOrder : (Cond.instanceMethod yX9_takeOrder) ∈ wA := in_wA (tb4 54 rfl) rfl
theorem co_X9_takeOrder : (Cond.code yX9_takeOrder cX9_takeOrder 2 (some .int)) ∈ wA := in_wA (tb4 55 rfl) rfl
theorem ml_X9_114 : (Cond.methodLink RX9 114 yX9_sign) ∈ wA := in_wA (tb4 56 rfl) rfl
theorem im_X9_sign : (Cond.instanceMethod yX9_sign) ∈ wA := in_wA (tb4 58 rfl) rfl
theorem co_X9_sign : (Cond.code yX9_sign cX9_sign 1 (some .int)) ∈ wA := in_wA (tb4 59 rfl) rfl
theorem ml_X9_117 : (Cond.methodLink RX9 117 yX9_take) ∈ wA := in_wA (tb4 60 rfl) rfl
theorem im_X9_take : (Cond.instanceMethod yX9_take) ∈ wA := in_wA (tb4 62 rfl) rfl
theorem co_X9_take : (Cond.code yX9_take cX9_take 2 none) ∈ wA := in_wA (tb4 63 rfl) rfl
theorem ml_X9_121 : (Cond.methodLink RX9 121 yX9_takeRest) ∈ wA := in_wA (tb4 64 rfl) rfl
theorem im_X9_takeRest : (Cond.instanceMethod yX9_takeRest) ∈ wA := in_wA (tb4 66 rfl) rfl
theorem co_X9_takeRest : (Cond.code yX9_takeRest cX9_takeRest 5 none) ∈ wA := in_wA (tb4 67 rfl) rfl
theorem ml_X9_125 : (Cond.methodLink RX9 125 yX9_takeNumber) ∈ wA := in_wA (tb4 68 rfl) rfl
theorem im_X9_takeNumber : (Cond.instanceMethod yX9_takeNumber) ∈ wA := in_wA (tb4 70 rfl) rfl
theorem co_X9_takeNumber : (Cond.code yX9_takeNumber cX9_takeNumber 3 (some .int)) ∈ wA := in_wA (tb4 71 rfl) rfl
theorem ml_L_74 : (Cond.methodLink RL 74 yX9_cell) ∈ wA := in_wA (tb4 72 rfl) rfl
theorem im_X9_cell : (Cond.instanceMethod yX9_cell) ∈ wA := in_wA (tb4 73 rfl) rfl
theorem se_X9_cell : (Cond.selects RX9 yX9_cell yX9_cell) ∈ wA := in_wA (tb4 74 rfl) rfl
theorem co_X9_cell : (Cond.code yX9_cell cX9_cell 3 (some .int)) ∈ wA := in_wA (tb4 75 rfl) rfl
theorem ml_L_78 : (Cond.methodLink RL 78 yX9_address) ∈ wA := in_wA (tb4 76 rfl) rfl
theorem im_X9_address : (Cond.instanceMethod yX9_address) ∈ wA := in_wA (tb4 77 rfl) rfl
theorem se_X9_address : (Cond.selects RX9 yX9_address yX9_address) ∈ wA := in_wA (tb4 78 rfl) rfl
theorem co_X9_address : (Cond.code yX9_address cX9_address 3 (some .int)) ∈ wA := in_wA (tb4 79 rfl) rfl
theorem ml_X9_137 : (Cond.methodLink RX9 137 yX9_sameAs) ∈ wA := in_wA (tb4 80 rfl) rfl
theorem im_X9_sameAs : (Cond.instanceMethod yX9_sameAs) ∈ wA := in_wA (tb4 82 rfl) rfl
theorem co_X9_sameAs : (Cond.code yX9_sameAs cX9_sameAs 4 (some .int)) ∈ wA := in_wA (tb4 83 rfl) rfl
theorem ml_L_82 : (Cond.methodLink RL 82 yX9_bank) ∈ wA := in_wA (tb4 84 rfl) rfl
theorem im_X9_bank : (Cond.instanceMethod yX9_bank) ∈ wA := in_wA (tb4 85 rfl) rfl
theorem se_X9_bank : (Cond.selects RX9 yX9_bank yX9_bank) ∈ wA := in_wA (tb4 86 rfl) rfl
theorem co_X9_bank : (Cond.code yX9_bank cX9_bank 3 (some .int)) ∈ wA := in_wA (tb4 87 rfl) rfl
theorem ml_X9_140 : (Cond.methodLink RX9 140 yX9_windowsOf) ∈ wA := in_wA (tb4 88 rfl) rfl
theorem im_X9_windowsOf : (Cond.instanceMethod yX9_windowsOf) ∈ wA := in_wA (tb4 90 rfl) rfl
theorem co_X9_windowsOf : (Cond.code yX9_windowsOf cX9_windowsOf 4 (some .int)) ∈ wA := in_wA (tb4 91 rfl) rfl
theorem ml_X9_143 : (Cond.methodLink RX9 143 yX9_filled) ∈ wA := in_wA (tb4 92 rfl) rfl
theorem im_X9_filled : (Cond.instanceMethod yX9_filled) ∈ wA := in_wA (tb4 94 rfl) rfl
theorem co_X9_filled : (Cond.code yX9_filled cX9_filled 4 (some .int)) ∈ wA := in_wA (tb4 95 rfl) rfl
theorem ml_X9_146 : (Cond.methodLink RX9 146 yX9_framesTo) ∈ wA := in_wA (tb4 96 rfl) rfl
theorem im_X9_framesTo : (Cond.instanceMethod yX9_framesTo) ∈ wA := in_wA (tb4 98 rfl) rfl
theorem co_X9_framesTo : (Cond.code yX9_framesTo cX9_framesTo 4 (some .int)) ∈ wA := in_wA (tb4 99 rfl) rfl
theorem ml_L_86 : (Cond.methodLink RL 86 yX9_window) ∈ wA := in_wA (tb4 100 rfl) rfl
theorem im_X9_window : (Cond.instanceMethod yX9_window) ∈ wA := in_wA (tb4 101 rfl) rfl
theorem se_X9_window : (Cond.selects RX9 yX9_window yX9_window) ∈ wA := in_wA (tb4 102 rfl) rfl
theorem co_X9_window : (Cond.code yX9_window cX9_window 2 (some .int)) ∈ wA := in_wA (tb4 103 rfl) rfl
theorem ml_L_90 : (Cond.methodLink RL 90 yX9_frame) ∈ wA := in_wA (tb4 104 rfl) rfl
theorem im_X9_frame : (Cond.instanceMethod yX9_frame) ∈ wA := in_wA (tb4 105 rfl) rfl
theorem se_X9_frame : (Cond.selects RX9 yX9_frame yX9_frame) ∈ wA := in_wA (tb4 106 rfl) rfl
theorem co_X9_frame : (Cond.code yX9_frame cX9_frame 3 (some .int)) ∈ wA := in_wA (tb4 107 rfl) rfl
theorem ml_L_94 : (Cond.methodLink RL 94 yX9_latest) ∈ wA := in_wA (tb4 108 rfl) rfl
theorem im_X9_latest : (Cond.instanceMethod yX9_latest) ∈ wA := in_wA (tb4 109 rfl) rfl
theorem se_X9_latest : (Cond.selects RX9 yX9_latest yX9_latest) ∈ wA := in_wA (tb4 110 rfl) rfl
theorem co_X9_latest : (Cond.code yX9_latest cX9_latest 3 (some .int)) ∈ wA := in_wA (tb4 111 rfl) rfl
theorem ml_L_98 : (Cond.methodLink RL 98 yX9_next) ∈ wA := in_wA (tb4 112 rfl) rfl
theorem im_X9_next : (Cond.instanceMethod yX9_next) ∈ wA := in_wA (tb4 113 rfl) rfl
theorem se_X9_next : (Cond.selects RX9 yX9_next yX9_next) ∈ wA := in_wA (tb4 114 rfl) rfl
theorem co_X9_next : (Cond.code yX9_next cX9_next 4 (some .int)) ∈ wA := in_wA (tb4 115 rfl) rfl
theorem ml_X9_149 : (Cond.methodLink RX9 149 yX9_putAside) ∈ wA := in_wA (tb4 116 rfl) rfl
theorem im_X9_putAside : (Cond.instanceMethod yX9_putAside) ∈ wA := in_wA (tb4 118 rfl) rfl
theorem co_X9_putAside : (Cond.code yX9_putAside cX9_putAside 2 none) ∈ wA := in_wA (tb4 119 rfl) rfl
theorem ml_X9_152 : (Cond.methodLink RX9 152 yX9_putBack) ∈ wA := in_wA (tb4 120 rfl) rfl
theorem im_X9_putBack : (Cond.instanceMethod yX9_putBack) ∈ wA := in_wA (tb4 122 rfl) rfl
theorem co_X9_putBack : (Cond.code yX9_putBack cX9_putBack 2 none) ∈ wA := in_wA (tb4 123 rfl) rfl
theorem ml_L_102 : (Cond.methodLink RL 102 yX9_ifRun) ∈ wA := in_wA (tb4 124 rfl) rfl
theorem im_X9_ifRun : (Cond.instanceMethod yX9_ifRun) ∈ wA := in_wA (tb4 125 rfl) rfl
theorem se_X9_ifRun : (Cond.selects RX9 yX9_ifRun yX9_ifRun) ∈ wA := in_wA (tb4 126 rfl) rfl
theorem co_X9_ifRun : (Cond.code yX9_ifRun cX9_ifRun 5 (some .int)) ∈ wA := in_wA (tb4 127 rfl) rfl
theorem ml_X9_155 : (Cond.methodLink RX9 155 yX9_unlikeCells) ∈ wA := in_wA (tb4 128 rfl) rfl
theorem im_X9_unlikeCells : (Cond.instanceMethod yX9_unlikeCells) ∈ wA := in_wA (tb4 130 rfl) rfl
theorem co_X9_unlikeCells : (Cond.code yX9_unlikeCells cX9_unlikeCells 3 (some .int)) ∈ wA := in_wA (tb4 131 rfl) rfl
theorem ml_L_106 : (Cond.methodLink RL 106 yX9_backIn) ∈ wA := in_wA (tb4 132 rfl) rfl
theorem im_X9_backIn : (Cond.instanceMethod yX9_backIn) ∈ wA := in_wA (tb4 133 rfl) rfl
theorem se_X9_backIn : (Cond.selects RX9 yX9_backIn yX9_backIn) ∈ wA := in_wA (tb4 134 rfl) rfl
theorem co_X9_backIn : (Cond.code yX9_backIn cX9_backIn 4 (some .int)) ∈ wA := in_wA (tb4 135 rfl) rfl
theorem ml_L_110 : (Cond.methodLink RL 110 yX9_count) ∈ wA := in_wA (tb4 136 rfl) rfl
theorem im_X9_count : (Cond.instanceMethod yX9_count) ∈ wA := in_wA (tb4 137 rfl) rfl
theorem se_X9_count : (Cond.selects RX9 yX9_count yX9_count) ∈ wA := in_wA (tb4 138 rfl) rfl
theorem co_X9_count : (Cond.code yX9_count cX9_count 2 (some .int)) ∈ wA := in_wA (tb4 139 rfl) rfl
theorem fl_J0_9 : (Cond.fieldLink RJ0 9 "java/lang/String" "value" "[B") ∈ wA := in_wA (tb4 140 rfl) rfl
theorem fl_J0_15 : (Cond.fieldLink RJ0 15 "java/lang/String" "coder" "B") ∈ wA := in_wA (tb4 141 rfl) rfl
theorem se_X3_dropOldest : (Cond.selects RX3 yX3_dropOldest yX3_dropOldest) ∈ wA := in_wA (tbp (tp1 0 rfl)) rfl
theorem se_X4_hindranceOf : (Cond.selects RX4 yX4_hindranceOf yX4_hindranceOf) ∈ wA := in_wA (tbp (tp1 1 rfl)) rfl
theorem se_X4_carryOut : (Cond.selects RX4 yX4_carryOut yX4_carryOut) ∈ wA := in_wA (tbp (tp1 2 rfl)) rfl
theorem se_X4_increase : (Cond.selects RX4 yX4_increase yX4_increase) ∈ wA := in_wA (tbp (tp1 3 rfl)) rfl
theorem se_X4_callFrom : (Cond.selects RX4 yX4_callFrom yX4_callFrom) ∈ wA := in_wA (tbp (tp1 4 rfl)) rfl
theorem se_X4_comeBack : (Cond.selects RX4 yX4_comeBack yX4_comeBack) ∈ wA := in_wA (tbp (tp1 5 rfl)) rfl
theorem se_X1_readOrder : (Cond.selects RX1 yX1_readOrder yX1_readOrder) ∈ wA := in_wA (tbp (tp1 6 rfl)) rfl
theorem se_X1_readKind : (Cond.selects RX1 yX1_readKind yX1_readKind) ∈ wA := in_wA (tbp (tp1 7 rfl)) rfl
theorem se_X1_lengthOfBeginning : (Cond.selects RX1 yX1_lengthOfBeginning yX1_lengthOfBeginning) ∈ wA := in_wA (tbp (tp1 8 rfl)) rfl
theorem se_X1_readNumber : (Cond.selects RX1 yX1_readNumber yX1_readNumber) ∈ wA := in_wA (tbp (tp1 9 rfl)) rfl
theorem se_X9_record : (Cond.selects RX9 yX9_record yX9_record) ∈ wA := in_wA (tbp (tp1 10 rfl)) rfl
theorem se_X9_change : (Cond.selects RX9 yX9_change yX9_change) ∈ wA := in_wA (tbp (tp1 11 rfl)) rfl
theorem se_X9_locked : (Cond.selects RX9 yX9_locked yX9_locked) ∈ wA := in_wA (tbp (tp1 12 rfl)) rfl
theorem se_X9_doRun : (Cond.selects RX9 yX9_doRun yX9_doRun) ∈ wA := in_wA (tbp (tp1 13 rfl)) rfl
theorem se_X9_step : (Cond.selects RX9 yX9_step yX9_step) ∈ wA := in_wA (tbp (tp1 14 rfl)) rfl
theorem se_X9_indexAt : (Cond.selects RX9 yX9_indexAt yX9_indexAt) ∈ wA := in_wA (tbp (tp1 15 rfl)) rfl
theorem se_X9_bankAt : (Cond.selects RX9 yX9_bankAt yX9_bankAt) ∈ wA := in_wA (tbp (tp2 0 rfl)) rfl
theorem se_X9_keepStep : (Cond.selects RX9 yX9_keepStep yX9_keepStep) ∈ wA := in_wA (tbp (tp2 1 rfl)) rfl
theorem se_X9_whyNot : (Cond.selects RX9 yX9_whyNot yX9_whyNot) ∈ wA := in_wA (tbp (tp2 2 rfl)) rfl
theorem se_X9_order : (Cond.selects RX9 yX9_order yX9_order) ∈ wA := in_wA (tbp (tp2 3 rfl)) rfl
theorem se_X9_write : (Cond.selects RX9 yX9_write yX9_write) ∈ wA := in_wA (tbp (tp2 4 rfl)) rfl
theorem se_X9_call : (Cond.selects RX9 yX9_call yX9_call) ∈ wA := in_wA (tbp (tp2 5 rfl)) rfl
theorem se_X9_back : (Cond.selects RX9 yX9_back yX9_back) ∈ wA := in_wA (tbp (tp2 6 rfl)) rfl
theorem se_X9_findFault : (Cond.selects RX9 yX9_findFault yX9_findFault) ∈ wA := in_wA (tbp (tp2 7 rfl)) rfl
theorem se_X9_takeOrder : (Cond.selects RX9 yX9_takeOrder yX9_takeOrder) ∈ wA := in_wA (tbp (tp2 8 rfl)) rfl
theorem se_X9_sign : (Cond.selects RX9 yX9_sign yX9_sign) ∈ wA := in_wA (tbp (tp2 9 rfl)) rfl
theorem se_X9_take : (Cond.selects RX9 yX9_take yX9_take) ∈ wA := in_wA (tbp (tp2 10 rfl)) rfl
theorem se_X9_takeRest : (Cond.selects RX9 yX9_takeRest yX9_takeRest) ∈ wA := in_wA (tbp (tp2 11 rfl)) rfl
theorem se_X9_takeNumber : (Cond.selects RX9 yX9_takeNumber yX9_takeNumber) ∈ wA := in_wA (tbp (tp2 12 rfl)) rfl
theorem se_X9_sameAs : (Cond.selects RX9 yX9_sameAs yX9_sameAs) ∈ wA := in_wA (tbp (tp2 13 rfl)) rfl
theorem se_X9_windowsOf : (Cond.selects RX9 yX9_windowsOf yX9_windowsOf) ∈ wA := in_wA (tbp (tp2 14 rfl)) rfl
theorem se_X9_filled : (Cond.selects RX9 yX9_filled yX9_filled) ∈ wA := in_wA (tbp (tp2 15 rfl)) rfl
theorem se_X9_framesTo : (Cond.selects RX9 yX9_framesTo yX9_framesTo) ∈ wA := in_wA (tbp (tp3 0 rfl)) rfl
theorem se_X9_putAside : (Cond.selects RX9 yX9_putAside yX9_putAside) ∈ wA := in_wA (tbp (tp3 1 rfl)) rfl
theorem se_X9_putBack : (Cond.selects RX9 yX9_putBack yX9_putBack) ∈ wA := in_wA (tbp (tp3 2 rfl)) rfl
theorem se_X9_unlikeCells : (Cond.selects RX9 yX9_unlikeCells yX9_unlikeCells) ∈ wA := in_wA (tbp (tp3 3 rfl)) rfl
theorem ilX0 : ∀ w ∈ u_ws RX0 TX0 5, w ∈ wA := by
  have e : u_ws RX0 TX0 5 = [Cond.laysFinal "FarBanks$Banks" "FarBanks$Banks" "cells" "LFarBanks$Row;", Cond.laysFinal "FarBanks$Banks" "FarBanks$Banks" "alone" "LFarBanks$Row;", Cond.laysFinal "FarBanks$Banks" "FarBanks$Banks" "shown" "LFarBanks$Row;", Cond.laysFinal "FarBanks$Banks" "FarBanks$Banks" "written" "LFarBanks$Row;", Cond.laysFinal "FarBanks$Banks" "FarBanks$Banks" "refused" "LFarBanks$Row;"] := rfl
  rw [e]
  exact List.forall_mem_cons.mpr ⟨in_wA (tb1 66 rfl) rfl, List.forall_mem_cons.mpr ⟨in_wA (tb1 68 rfl) rfl, List.forall_mem_cons.mpr ⟨in_wA (tb1 70 rfl) rfl, List.forall_mem_cons.mpr ⟨in_wA (tb1 72 rfl) rfl, List.forall_mem_cons.mpr ⟨in_wA (tb1 74 rfl) rfl, fun _ h => absurd h List.not_mem_nil⟩⟩⟩⟩⟩
theorem ilX1 : ∀ w ∈ u_ws RX1 TX1 4, w ∈ wA := by
  have e : u_ws RX1 TX1 4 = [Cond.laysFinal "FarBanks$Code" "FarBanks$Code" "orders" "LFarBanks$Row;", Cond.lays "FarBanks$Code" "FarBanks$Code" "size" "I", Cond.lays "FarBanks$Code" "FarBanks$Code" "position" "I", Cond.lays "FarBanks$Code" "FarBanks$Code" "isSound" "Z"] := rfl
  rw [e]
  exact List.forall_mem_cons.mpr ⟨in_wA (tb1 191 rfl) rfl, List.forall_mem_cons.mpr ⟨in_wA (tb1 193 rfl) rfl, List.forall_mem_cons.mpr ⟨in_wA (tb1 195 rfl) rfl, List.forall_mem_cons.mpr ⟨in_wA (tb1 197 rfl) rfl, fun _ h => absurd h List.not_mem_nil⟩⟩⟩⟩
theorem ilX2 : ∀ w ∈ u_ws RX2 TX2 2, w ∈ wA := by
  have e : u_ws RX2 TX2 2 = [Cond.laysFinal "FarBanks$Frames" "FarBanks$Frames" "parts" "LFarBanks$Row;", Cond.lays "FarBanks$Frames" "FarBanks$Frames" "size" "I"] := rfl
  rw [e]
  exact List.forall_mem_cons.mpr ⟨in_wA (tb1 89 rfl) rfl, List.forall_mem_cons.mpr ⟨in_wA (tb1 91 rfl) rfl, fun _ h => absurd h List.not_mem_nil⟩⟩
theorem ilX3 : ∀ w ∈ u_ws RX3 TX3 2, w ∈ wA := by
  have e : u_ws RX3 TX3 2 = [Cond.laysFinal "FarBanks$History" "FarBanks$History" "states" "[LFarBanks$Machine;", Cond.lays "FarBanks$History" "FarBanks$History" "size" "I"] := rfl
  rw [e]
  exact List.forall_mem_cons.mpr ⟨in_wA (tb1 155 rfl) rfl, List.forall_mem_cons.mpr ⟨in_wA (tb1 157 rfl) rfl, fun _ h => absurd h List.not_mem_nil⟩⟩
theorem ilX4 : ∀ w ∈ u_ws RX4 TX4 8, w ∈ wA := by
  have e : u_ws RX4 TX4 8 = [Cond.laysFinal "FarBanks$Machine" "FarBanks$Machine" "banks" "LFarBanks$Banks;", Cond.laysFinal "FarBanks$Machine" "FarBanks$Machine" "frames" "LFarBanks$Frames;", Cond.laysFinal "FarBanks$Machine" "FarBanks$Machine" "trail" "LFarBanks$Trail;", Cond.lays "FarBanks$Machine" "FarBanks$Machine" "number" "I", Cond.lays "FarBanks$Machine" "FarBanks$Machine" "place" "I", Cond.lays "FarBanks$Machine" "FarBanks$Machine" "reason" "I", Cond.lays "FarBanks$Machine" "FarBanks$Machine" "strict" "I", Cond.lays "FarBanks$Machine" "FarBanks$Machine" "calls" "I"] := rfl
  rw [e]
  exact List.forall_mem_cons.mpr ⟨in_wA (tb1 126 rfl) rfl, List.forall_mem_cons.mpr ⟨in_wA (tb1 128 rfl) rfl, List.forall_mem_cons.mpr ⟨in_wA (tb1 130 rfl) rfl, List.forall_mem_cons.mpr ⟨in_wA (tb1 132 rfl) rfl, List.forall_mem_cons.mpr ⟨in_wA (tb1 134 rfl) rfl, List.forall_mem_cons.mpr ⟨in_wA (tb1 136 rfl) rfl, List.forall_mem_cons.mpr ⟨in_wA (tb1 138 rfl) rfl, List.forall_mem_cons.mpr ⟨in_wA (tb1 140 rfl) rfl, fun _ h => absurd h List.not_mem_nil⟩⟩⟩⟩⟩⟩⟩⟩
theorem ilX5 : ∀ w ∈ u_ws RX5 TX5 1, w ∈ wA := by
  have e : u_ws RX5 TX5 1 = [Cond.laysFinal "FarBanks$Row" "FarBanks$Row" "numbers" "[I"] := rfl
  rw [e]
  exact List.forall_mem_cons.mpr ⟨in_wA (tb1 47 rfl) rfl, fun _ h => absurd h List.not_mem_nil⟩
theorem ilX6 : ∀ w ∈ u_ws RX6 TX6 2, w ∈ wA := by
  have e : u_ws RX6 TX6 2 = [Cond.laysFinal "FarBanks$Text" "FarBanks$Text" "characters" "[C", Cond.lays "FarBanks$Text" "FarBanks$Text" "length" "I"] := rfl
  rw [e]
  exact List.forall_mem_cons.mpr ⟨in_wA (tb1 169 rfl) rfl, List.forall_mem_cons.mpr ⟨in_wA (tb1 171 rfl) rfl, fun _ h => absurd h List.not_mem_nil⟩⟩
theorem ilX7 : ∀ w ∈ u_ws RX7 TX7 2, w ∈ wA := by
  have e : u_ws RX7 TX7 2 = [Cond.laysFinal "FarBanks$Trail" "FarBanks$Trail" "parts" "LFarBanks$Row;", Cond.lays "FarBanks$Trail" "FarBanks$Trail" "total" "I"] := rfl
  rw [e]
  exact List.forall_mem_cons.mpr ⟨in_wA (tb1 105 rfl) rfl, List.forall_mem_cons.mpr ⟨in_wA (tb1 107 rfl) rfl, fun _ h => absurd h List.not_mem_nil⟩⟩
theorem ilX8 : ∀ w ∈ u_ws RX8 TX8 7, w ∈ wA := by
  have e : u_ws RX8 TX8 7 = [Cond.laysFinal "FarBanks" "FarBanks" "now" "LFarBanks$Machine;", Cond.laysFinal "FarBanks" "FarBanks" "trial" "LFarBanks$Machine;", Cond.laysFinal "FarBanks" "FarBanks" "snapshot" "LFarBanks$Machine;", Cond.laysFinal "FarBanks" "FarBanks" "history" "LFarBanks$History;", Cond.laysFinal "FarBanks" "FarBanks" "text" "LFarBanks$Text;", Cond.laysFinal "FarBanks" "FarBanks" "code" "LFarBanks$Code;", Cond.lays "FarBanks" "FarBanks" "hasSnapshot" "Z"] := rfl
  rw [e]
  exact List.forall_mem_cons.mpr ⟨in_wA (tb1 207 rfl) rfl, List.forall_mem_cons.mpr ⟨in_wA (tb1 209 rfl) rfl, List.forall_mem_cons.mpr ⟨in_wA (tb1 211 rfl) rfl, List.forall_mem_cons.mpr ⟨in_wA (tb1 213 rfl) rfl, List.forall_mem_cons.mpr ⟨in_wA (tb1 215 rfl) rfl, List.forall_mem_cons.mpr ⟨in_wA (tb1 217 rfl) rfl, List.forall_mem_cons.mpr ⟨in_wA (tb1 219 rfl) rfl, fun _ h => absurd h List.not_mem_nil⟩⟩⟩⟩⟩⟩⟩
theorem ilX9 : ∀ w ∈ u_ws RX9 TX9 12, w ∈ wA := by
  have e : u_ws RX9 TX9 12 = [Cond.laysFinal "FarBanksModel" "FarBanksModel" "z" "[I", Cond.laysFinal "FarBanksModel" "FarBanksModel" "aside" "[I", Cond.laysFinal "FarBanksModel" "FarBanksModel" "old" "[I", Cond.lays "FarBanksModel" "FarBanksModel" "states" "I", Cond.laysFinal "FarBanksModel" "FarBanksModel" "kept" "[I", Cond.lays "FarBanksModel" "FarBanksModel" "isKept" "Z", Cond.laysFinal "FarBanksModel" "FarBanksModel" "text" "[I", Cond.lays "FarBanksModel" "FarBanksModel" "length" "I", Cond.lays "FarBanksModel" "FarBanksModel" "place" "I", Cond.lays "FarBanksModel" "FarBanksModel" "isWrong" "Z", Cond.laysFinal "FarBanksModel" "FarBanksModel" "orders" "[I", Cond.lays "FarBanksModel" "FarBanksModel" "many" "I"] := rfl
  rw [e]
  exact List.forall_mem_cons.mpr ⟨in_wA (tb3 137 rfl) rfl, List.forall_mem_cons.mpr ⟨in_wA (tb3 139 rfl) rfl, List.forall_mem_cons.mpr ⟨in_wA (tb3 141 rfl) rfl, List.forall_mem_cons.mpr ⟨in_wA (tb3 143 rfl) rfl, List.forall_mem_cons.mpr ⟨in_wA (tb3 145 rfl) rfl, List.forall_mem_cons.mpr ⟨in_wA (tb3 147 rfl) rfl, List.forall_mem_cons.mpr ⟨in_wA (tb3 149 rfl) rfl, List.forall_mem_cons.mpr ⟨in_wA (tb3 151 rfl) rfl, List.forall_mem_cons.mpr ⟨in_wA (tb3 153 rfl) rfl, List.forall_mem_cons.mpr ⟨in_wA (tb3 155 rfl) rfl, List.forall_mem_cons.mpr ⟨in_wA (tb3 157 rfl) rfl, List.forall_mem_cons.mpr ⟨in_wA (tb3 159 rfl) rfl, fun _ h => absurd h List.not_mem_nil⟩⟩⟩⟩⟩⟩⟩⟩⟩⟩⟩⟩
end
section
/-! ===== the logical memory: group, object, slot; every int of a field or an array is nI of a Nat ===== -/
def fU {α : Type} (f : Nat → α) (i : Nat) (x : α) : Nat → α := fun j => if j = i then x else f j
theorem fU_s {α : Type} (f : Nat → α) (i : Nat) (x : α) : fU f i x i = x := if_pos rfl
theorem fU_n {α : Type} (f : Nat → α) {i j : Nat} (x : α) (h : ¬ j = i) : fU f i x j = f j := if_neg h
theorem fU_u {α : Type} (f : Nat → α) (i : Nat) (x y : α) : fU (fU f i x) i y = fU f i y := by
  funext j
  unfold fU
  by_cases h : j = i
  · rw [if_pos h, if_pos h]
  · rw [if_neg h, if_neg h, if_neg h]
theorem fU_self {α : Type} (f : Nat → α) (i : Nat) : fU f i (f i) = f := by
  funext j
  unfold fU
  by_cases h : j = i
  · rw [if_pos h, h]
  · rw [if_neg h]
theorem fU_map {α β : Type} (h : α → β) (f : Nat → α) (i : Nat) (x : α) (j : Nat) : h (fU f i x j) = fU (fun k => h (f k)) i (h x) j := by
  unfold fU
  by_cases e : j = i
  · rw [if_pos e, if_pos e]
  · rw [if_neg e, if_neg e]
abbrev gM : Type := Nat → Nat → Nat → Nat
/-- an object's slots anew -/
def gP (mem : gM) (k o : Nat) (f : Nat → Nat) : gM := fU mem k (fU (mem k) o f)
theorem gP_s (mem : gM) (k o : Nat) (f : Nat → Nat) : gP mem k o f k o = f := by unfold gP; rw [fU_s, fU_s]
theorem gP_k (mem : gM) (k o : Nat) (f : Nat → Nat) : gP mem k o f k = fU (mem k) o f := by unfold gP; rw [fU_s]
theorem gP_n (mem : gM) {k o k' o' : Nat} (f : Nat → Nat) (h : ¬ (k' = k ∧ o' = o)) : gP mem k o f k' o' = mem k' o' := by
  unfold gP
  by_cases e : k' = k
  · subst e
    rw [fU_s, fU_n _ _ (fun z => h ⟨rfl, z⟩)]
  · rw [fU_n _ _ e]
theorem gP_nk (mem : gM) {k o k' : Nat} (f : Nat → Nat) (h : ¬ k' = k) : gP mem k o f k' = mem k' := by
  unfold gP
  rw [fU_n _ _ h]
theorem gP_u (mem : gM) (k o : Nat) (f g : Nat → Nat) : gP (gP mem k o f) k o g = gP mem k o g := by
  unfold gP
  rw [fU_s, fU_u, fU_u]
theorem gP_self (mem : gM) (k o : Nat) : gP mem k o (mem k o) = mem := by
  unfold gP
  rw [fU_self, fU_self]
/-! what the addresses are, the array classes (0 int, 1 char, 2 Machine), where our own cells begin, the Strings and their bytes -/
abbrev gX : Type := va_G × (Nat → Nat → Nat) × (Nat → ClassId) × Nat × (Nat → Nat) × (Nat → Nat)
def gD (X : gX) : va_G := X.1
def gAd (X : gX) : Nat → Nat → Nat := X.2.1
def gCl (X : gX) : Nat → ClassId := X.2.2.1
def gSz (X : gX) : Nat := X.2.2.2.1
def gKs (X : gX) : Nat → Nat := X.2.2.2.2.1
def gVs (X : gX) : Nat → Nat := X.2.2.2.2.2
def gA (X : gX) : Nat → Prop := fun q => gSz X ≤ q
def gAr (X : gX) (n : Nat) (g : Nat → Nat) : va_E := .inl (gCl X 0, n, .inl (fun j => nI (g j)))
def gRw (X : gX) (k a : Nat) : va_E := .inr (5, [.ref (gAd X k a)])
def gEm (X : gX) (k : Nat) (g : Nat → Nat) (o : Nat) : va_E := match o with
  | 0 => .inr (4, [.ref (gAd X k 1), .ref (gAd X k 12), .ref (gAd X k 15), .int (nI (g 3)), .int (nI (g 4)), .int (nI (g 5)), .int (nI (g 6)), .int (nI (g 7))])
  | 1 => .inr (0, [.ref (gAd X k 2), .ref (gAd X k 4), .ref (gAd X k 6), .ref (gAd X k 8), .ref (gAd X k 10)])
  | 2 => gRw X k 3
  | 3 => gAr X 100 g
  | 4 => gRw X k 5
  | 5 => gAr X 8 g
  | 6 => gRw X k 7
  | 7 => gAr X 4 g
  | 8 => gRw X k 9
  | 9 => gAr X 8 g
  | 10 => gRw X k 11
  | 11 => gAr X 8 g
  | 12 => .inr (2, [.ref (gAd X k 13), .int (nI (g 1))])
  | 13 => gRw X k 14
  | 14 => gAr X 24 g
  | 15 => .inr (7, [.ref (gAd X k 16), .int (nI (g 1))])
  | 16 => gRw X k 17
  | _ => gAr X 36 g
def gEf (X : gX) (g : Nat → Nat) (o : Nat) : va_E := match o with
  | 0 => .inr (8, [.ref (gAd X 0 0), .ref (gAd X 1 0), .ref (gAd X 2 0), .ref (gAd X 7 1), .ref (gAd X 7 3), .ref (gAd X 7 5), .int (nI (g 6))])
  | 1 => .inr (3, [.ref (gAd X 7 2), .int (nI (g 1))])
  | 2 => .inl (gCl X 2, 4, .inr (.inr (.inr (.inr (fun j => some (gAd X (g j) 0))))))
  | 3 => .inr (6, [.ref (gAd X 7 4), .int (nI (g 1))])
  | 4 => .inl (gCl X 1, 80, .inl (fun j => nI (g j)))
  | 5 => .inr (1, [.ref (gAd X 7 6), .int (nI (g 1)), .int (nI (g 2)), .int (nI (g 3))])
  | 6 => gRw X 7 7
  | _ => gAr X 16 g
def gEr (X : gX) (g : Nat → Nat) (o : Nat) : va_E := match o with
  | 0 => .inr (9, [.ref (gAd X 8 1), .ref (gAd X 8 2), .ref (gAd X 8 3), .int (nI (g 3)), .ref (gAd X 8 4), .int (nI (g 5)), .ref (gAd X 8 5), .int (nI (g 7)), .int (nI (g 8)), .int (nI (g 9)), .ref (gAd X 8 6), .int (nI (g 11))])
  | 1 => gAr X 198 g
  | 2 => gAr X 198 g
  | 3 => gAr X 792 g
  | 4 => gAr X 198 g
  | 5 => gAr X 80 g
  | _ => gAr X 16 g
/-- what an object's cell holds, by its slots -/
def gE (X : gX) (k o : Nat) (g : Nat → Nat) : va_E := if k < 7 then gEm X k g o else if k = 7 then gEf X g o else gEr X g o
theorem gE_m {X : gX} {k : Nat} (h : k < 7) (o : Nat) (g : Nat → Nat) : gE X k o g = gEm X k g o := if_pos h
theorem gE_f (X : gX) (o : Nat) (g : Nat → Nat) : gE X 7 o g = gEf X g o := rfl
theorem gE_r (X : gX) (o : Nat) (g : Nat → Nat) : gE X 8 o g = gEr X g o := rfl
def gIds : List (Nat × Nat) := (List.range 7).flatMap (fun k => (List.range 18).map (fun o => (k, o))) ++ ((List.range 8).map (fun o => (7, o)) ++ (List.range 7).map (fun o => (8, o)))
theorem gI_m {k o : Nat} (hk : k < 7) (ho : o < 18) : (k, o) ∈ gIds := List.mem_append_left _ (List.mem_flatMap.mpr ⟨k, List.mem_range.mpr hk, List.mem_map.mpr ⟨o, List.mem_range.mpr ho, rfl⟩⟩)
theorem gI_f {o : Nat} (ho : o < 8) : (7, o) ∈ gIds := List.mem_append_right _ (List.mem_append_left _ (List.mem_map.mpr ⟨o, List.mem_range.mpr ho, rfl⟩))
theorem gI_r {o : Nat} (ho : o < 7) : (8, o) ∈ gIds := List.mem_append_right _ (List.mem_append_right _ (List.mem_map.mpr ⟨o, List.mem_range.mpr ho, rfl⟩))
theorem gIds_len : gIds.length = 141 := by decide +kernel
theorem gIds_inj0 : ∀ i, i < 141 → ∀ j, j < 141 → gIds[i]? = gIds[j]? → i = j := by decide +kernel
theorem gIds_inj {i j : Nat} {q : Nat × Nat} (hi : gIds[i]? = some q) (hj : gIds[j]? = some q) : i = j := by
  have h1 : i < gIds.length := (List.getElem?_eq_some_iff.mp hi).1
  have h2 : j < gIds.length := (List.getElem?_eq_some_iff.mp hj).1
  rw [gIds_len] at h1 h2
  exact gIds_inj0 i h1 j h2 (hi.trans hj.symm)
def gWs (X : gX) (mem : gM) : va_W := gIds.map (fun q => (gAd X q.1 q.2, gE X q.1 q.2 (mem q.1 q.2)))
theorem gWs_at {X : gX} {mem : gM} {q0 k o : Nat} (h : gIds[q0]? = some (k, o)) : (gWs X mem)[q0]? = some (gAd X k o, gE X k o (mem k o)) := by
  unfold gWs
  rw [List.getElem?_map, h]
  rfl
theorem gWs_set {X : gX} {mem : gM} {q0 k o : Nat} (h : gIds[q0]? = some (k, o)) (f : Nat → Nat) : (gWs X mem).set q0 (gAd X k o, gE X k o f) = gWs X (gP mem k o f) := by
  have hl : q0 < (gWs X mem).length := (List.getElem?_eq_some_iff.mp (gWs_at (X := X) (mem := mem) h)).1
  apply List.ext_getElem?
  intro j
  by_cases hj : j = q0
  · subst hj
    rw [List.getElem?_set_self hl, gWs_at h, gP_s]
  · rw [List.getElem?_set_ne (Ne.symm hj)]
    cases hq : gIds[j]? with
    | none =>
      unfold gWs
      rw [List.getElem?_map, List.getElem?_map, hq]
      rfl
    | some q =>
      obtain ⟨k', o'⟩ := q
      rw [gWs_at hq, gWs_at hq, gP_n]
      rintro ⟨e1, e2⟩
      subst e1
      subst e2
      exact hj (gIds_inj hq h)
def gRep (X : gX) (mem : gM) (H : Heap) : Prop := va_P (gD X) vwCl (gWs X mem) H
def gInj (X : gX) : Prop := ∀ mem : gM, va_D (gA X) (gWs X mem)
def gTy (X : gX) : List (ClassId × FieldType) := [(gCl X 0, .int), (gCl X 1, .char), (gCl X 2, .object RX4)]
/-- two memories that agree where a cell can show it -/
theorem gRep_congr {X : gX} {mem mem' : gM} {H : Heap} (h : gRep X mem H) (he : ∀ k o, (k, o) ∈ gIds → ∀ D cl, va_at D cl (gAd X k o, gE X k o (mem k o)) H → va_at D cl (gAd X k o, gE X k o (mem' k o)) H) : gRep X mem' H := by
  intro k q hq
  unfold gWs at hq
  rw [List.getElem?_map] at hq
  cases hi : gIds[k]? with
  | none => rw [hi] at hq; cases hq
  | some z =>
    obtain ⟨k', o'⟩ := z
    rw [hi] at hq
    cases hq
    exact he k' o' (List.mem_of_getElem? hi) _ _ (h k _ (gWs_at hi))
/-- an int array's cell is what stands below its length -/
theorem gAr_congr {X : gX} {D : va_G} {cl : List vw_C} {a n : Nat} {f g : Nat → Nat} {H : Heap} (he : ∀ j, j < n → f j = g j) (h : va_at D cl (a, gAr X n f) H) : va_at D cl (a, gAr X n g) H := by
  have e : vp_cell (gCl X 0) (n, .inl (fun j => nI (f j))) = vp_cell (gCl X 0) (n, .inl (fun j => nI (g j))) := by
    rw [vp_cell_i, vp_cell_i]
    unfold arrV
    congr 1
    apply Array.ext
    · simp
    · intro i h1 h2
      simp only [Array.getElem_ofFn]
      rw [he i (by simpa using h1)]
  show H[a]? = some (vp_cell (gCl X 0) (n, .inl (fun j => nI (g j))))
  rw [← e]
  exact h
end
section
def gNf : List (String × Nat × String × String × String × String) := [(RX8, 210, "FarBanks$Banks", "cells", "LFarBanks$Row;", "FarBanks"), (RX8, 69, "FarBanks$Banks", "alone", "LFarBanks$Row;", "FarBanks"), (RX8, 83, "FarBanks$Banks", "shown", "LFarBanks$Row;", "FarBanks"), (RX4, 93, "FarBanks$Banks", "shown", "LFarBanks$Row;", "FarBanks"), (RX8, 188, "FarBanks$Banks", "written", "LFarBanks$Row;", "FarBanks"), (RX8, 191, "FarBanks$Banks", "refused", "LFarBanks$Row;", "FarBanks"), (RX4, 58, "FarBanks$Frames", "size", "I", "FarBanks"), (RX8, 194, "FarBanks$Frames", "size", "I", "FarBanks"), (RX8, 117, "FarBanks$Trail", "total", "I", "FarBanks"), (RX8, 47, "FarBanks$Machine", "banks", "LFarBanks$Banks;", "FarBanks"), (RX8, 179, "FarBanks$Machine", "frames", "LFarBanks$Frames;", "FarBanks"), (RX8, 113, "FarBanks$Machine", "trail", "LFarBanks$Trail;", "FarBanks"), (RX8, 207, "FarBanks$Machine", "number", "I", "FarBanks"), (RX8, 100, "FarBanks$Machine", "place", "I", "FarBanks"), (RX8, 110, "FarBanks$Machine", "reason", "I", "FarBanks"), (RX8, 96, "FarBanks$Machine", "strict", "I", "FarBanks"), (RX8, 217, "FarBanks$Machine", "calls", "I", "FarBanks"), (RX8, 154, "FarBanks$History", "size", "I", "FarBanks"), (RX8, 134, "FarBanks$Text", "length", "I", "FarBanks"), (RX8, 151, "FarBanks$Code", "orders", "LFarBanks$Row;", "FarBanks"), (RX8, 148, "FarBanks$Code", "size", "I", "FarBanks"), (RX8, 145, "FarBanks$Code", "position", "I", "FarBanks"), (RX8, 141, "FarBanks$Code", "isSound", "Z", "FarBanks")]
def gNm : List (String × Nat × MethodName × String) := [(RX8, 9, yX4_init, "FarBanks"), (RX4, 20, yX2_init, "FarBanks"), (RX4, 27, yX7_init, "FarBanks"), (RX3, 17, yX4_init, "FarBanks"), (RX8, 31, yX6_init, "FarBanks"), (RX8, 38, yX1_init, "FarBanks")]
theorem fn_X8_210 : (RX8, 210, "FarBanks$Banks", "cells", "LFarBanks$Row;", "FarBanks") ∈ gNf := List.mem_of_getElem? (i := 0) rfl
theorem fn_X8_69 : (RX8, 69, "FarBanks$Banks", "alone", "LFarBanks$Row;", "FarBanks") ∈ gNf := List.mem_of_getElem? (i := 1) rfl
theorem fn_X8_83 : (RX8, 83, "FarBanks$Banks", "shown", "LFarBanks$Row;", "FarBanks") ∈ gNf := List.mem_of_getElem? (i := 2) rfl
theorem fn_X4_93 : (RX4, 93, "FarBanks$Banks", "shown", "LFarBanks$Row;", "FarBanks") ∈ gNf := List.mem_of_getElem? (i := 3) rfl
theorem fn_X8_188 : (RX8, 188, "FarBanks$Banks", "written", "LFarBanks$Row;", "FarBanks") ∈ gNf := List.mem_of_getElem? (i := 4) rfl
theorem fn_X8_191 : (RX8, 191, "FarBanks$Banks", "refused", "LFarBanks$Row;", "FarBanks") ∈ gNf := List.mem_of_getElem? (i := 5) rfl
theorem fn_X4_58 : (RX4, 58, "FarBanks$Frames", "size", "I", "FarBanks") ∈ gNf := List.mem_of_getElem? (i := 6) rfl
theorem fn_X8_194 : (RX8, 194, "FarBanks$Frames", "size", "I", "FarBanks") ∈ gNf := List.mem_of_getElem? (i := 7) rfl
theorem fn_X8_117 : (RX8, 117, "FarBanks$Trail", "total", "I", "FarBanks") ∈ gNf := List.mem_of_getElem? (i := 8) rfl
theorem fn_X8_47 : (RX8, 47, "FarBanks$Machine", "banks", "LFarBanks$Banks;", "FarBanks") ∈ gNf := List.mem_of_getElem? (i := 9) rfl
theorem fn_X8_179 : (RX8, 179, "FarBanks$Machine", "frames", "LFarBanks$Frames;", "FarBanks") ∈ gNf := List.mem_of_getElem? (i := 10) rfl
theorem fn_X8_113 : (RX8, 113, "FarBanks$Machine", "trail", "LFarBanks$Trail;", "FarBanks") ∈ gNf := List.mem_of_getElem? (i := 11) rfl
theorem fn_X8_207 : (RX8, 207, "FarBanks$Machine", "number", "I", "FarBanks") ∈ gNf := List.mem_of_getElem? (i := 12) rfl
theorem fn_X8_100 : (RX8, 100, "FarBanks$Machine", "place", "I", "FarBanks") ∈ gNf := List.mem_of_getElem? (i := 13) rfl
theorem fn_X8_110 : (RX8, 110, "FarBanks$Machine", "reason", "I", "FarBanks") ∈ gNf := List.mem_of_getElem? (i := 14) rfl
theorem fn_X8_96 : (RX8, 96, "FarBanks$Machine", "strict", "I", "FarBanks") ∈ gNf := List.mem_of_getElem? (i := 15) rfl
theorem fn_X8_217 : (RX8, 217, "FarBanks$Machine", "calls", "I", "FarBanks") ∈ gNf := List.mem_of_getElem? (i := 16) rfl
theorem fn_X8_154 : (RX8, 154, "FarBanks$History", "size", "I", "FarBanks") ∈ gNf := List.mem_of_getElem? (i := 17) rfl
theorem fn_X8_134 : (RX8, 134, "FarBanks$Text", "length", "I", "FarBanks") ∈ gNf := List.mem_of_getElem? (i := 18) rfl
theorem fn_X8_151 : (RX8, 151, "FarBanks$Code", "orders", "LFarBanks$Row;", "FarBanks") ∈ gNf := List.mem_of_getElem? (i := 19) rfl
theorem fn_X8_148 : (RX8, 148, "FarBanks$Code", "size", "I", "FarBanks") ∈ gNf := List.mem_of_getElem? (i := 20) rfl
theorem fn_X8_145 : (RX8, 145, "FarBanks$Code", "position", "I", "FarBanks") ∈ gNf := List.mem_of_getElem? (i := 21) rfl
theorem fn_X8_141 : (RX8, 141, "FarBanks$Code", "isSound", "Z", "FarBanks") ∈ gNf := List.mem_of_getElem? (i := 22) rfl
theorem mn_X8_9 : (RX8, 9, yX4_init, "FarBanks") ∈ gNm := List.mem_of_getElem? (i := 0) rfl
theorem mn_X4_20 : (RX4, 20, yX2_init, "FarBanks") ∈ gNm := List.mem_of_getElem? (i := 1) rfl
theorem mn_X4_27 : (RX4, 27, yX7_init, "FarBanks") ∈ gNm := List.mem_of_getElem? (i := 2) rfl
theorem mn_X3_17 : (RX3, 17, yX4_init, "FarBanks") ∈ gNm := List.mem_of_getElem? (i := 3) rfl
theorem mn_X8_31 : (RX8, 31, yX6_init, "FarBanks") ∈ gNm := List.mem_of_getElem? (i := 4) rfl
theorem mn_X8_38 : (RX8, 38, yX1_init, "FarBanks") ∈ gNm := List.mem_of_getElem? (i := 5) rfl
theorem gNf_tbl : ∀ q ∈ gNf, Cond.fieldLinkNest q.1 q.2.1 q.2.2.1 q.2.2.2.1 q.2.2.2.2.1 q.2.2.2.2.2 ∈ lw_tbl := List.forall_mem_cons.mpr ⟨tb1 56 rfl, List.forall_mem_cons.mpr ⟨tb1 58 rfl, List.forall_mem_cons.mpr ⟨tb1 60 rfl, List.forall_mem_cons.mpr ⟨tb1 61 rfl, List.forall_mem_cons.mpr ⟨tb1 63 rfl, List.forall_mem_cons.mpr ⟨tb1 65 rfl, List.forall_mem_cons.mpr ⟨tb1 87 rfl, List.forall_mem_cons.mpr ⟨tb1 88 rfl, List.forall_mem_cons.mpr ⟨tb1 104 rfl, List.forall_mem_cons.mpr ⟨tb1 111 rfl, List.forall_mem_cons.mpr ⟨tb1 113 rfl, List.forall_mem_cons.mpr ⟨tb1 115 rfl, List.forall_mem_cons.mpr ⟨tb1 117 rfl, List.forall_mem_cons.mpr ⟨tb1 119 rfl, List.forall_mem_cons.mpr ⟨tb1 121 rfl, List.forall_mem_cons.mpr ⟨tb1 123 rfl, List.forall_mem_cons.mpr ⟨tb1 125 rfl, List.forall_mem_cons.mpr ⟨tb1 154 rfl, List.forall_mem_cons.mpr ⟨tb1 168 rfl, List.forall_mem_cons.mpr ⟨tb1 184 rfl, List.forall_mem_cons.mpr ⟨tb1 186 rfl, List.forall_mem_cons.mpr ⟨tb1 188 rfl, List.forall_mem_cons.mpr ⟨tb1 190 rfl, fun _ h => absurd h List.not_mem_nil⟩⟩⟩⟩⟩⟩⟩⟩⟩⟩⟩⟩⟩⟩⟩⟩⟩⟩⟩⟩⟩⟩⟩
theorem gNm_tbl : ∀ q ∈ gNm, Cond.methodLinkNest q.1 q.2.1 q.2.2.1 q.2.2.2 ∈ lw_tbl := List.forall_mem_cons.mpr ⟨tb1 27 rfl, List.forall_mem_cons.mpr ⟨tb1 79 rfl, List.forall_mem_cons.mpr ⟨tb1 96 rfl, List.forall_mem_cons.mpr ⟨tb1 151 rfl, List.forall_mem_cons.mpr ⟨tb1 162 rfl, List.forall_mem_cons.mpr ⟨tb1 177 rfl, fun _ h => absurd h List.not_mem_nil⟩⟩⟩⟩⟩⟩
def gTx : Nat → String × Nat := fun i => match i with
  | 0 => ("halt", 79)
  | 1 => ("load", 81)
  | 2 => ("add", 83)
  | 3 => ("store", 85)
  | 4 => ("jump", 87)
  | 5 => ("zero", 89)
  | 6 => ("show", 91)
  | 7 => ("call", 93)
  | 8 => ("back", 95)
  | _ => ("plus", 97)
def gLen : List Nat := [4, 4, 3, 5, 4, 4, 4, 4, 4, 4]
def gByt : List (List Int32) := [[104, 97, 108, 116], [108, 111, 97, 100], [97, 100, 100], [115, 116, 111, 114, 101], [106, 117, 109, 112], [122, 101, 114, 111], [115, 104, 111, 119], [99, 97, 108, 108], [98, 97, 99, 107], [112, 108, 117, 115]]
/-! ===== what stands still: tables, nest words, Strings, statics of the JDK ===== -/
def gNst (U : State) : Prop := (∀ q ∈ gNf, va_Nw (.fieldLinkNest q.1 q.2.1 q.2.2.1 q.2.2.2.1 q.2.2.2.2.1 q.2.2.2.2.2) U) ∧ ∀ q ∈ gNm, va_Nw (.methodLinkNest q.1 q.2.1 q.2.2.1 q.2.2.2) U
def gEnv (X : gX) (U : State) (H : Heap) : Prop :=
  va_K (gD X) vwCl (gTy X) U ∧ gNst U ∧ gSz X ≤ H.size ∧ vk_S 10 gLen gByt (gKs X) (gVs X) (gA X) U H ∧ (∀ i, i < 10 → vk_R RX1 (gTx i).2 (gTx i).1 (gKs X i) U) ∧ va_Z "java/lang/String" "COMPACT_STRINGS" "Z" (.int 1) (gA X) U H ∧ va_Zq "jdk/internal/util/Preconditions" "SIOOBE_FORMATTER" "Ljava/util/function/BiFunction;" (gA X) U H
theorem gEnv.to {X : gX} {s t : State} {H0 H1 : Heap} (h : gEnv X s H0) (hW : s.WarmedH t.vm) (hz : H0.size ≤ H1.size) (hq : ∀ q : Nat, q < H0.size → ¬ gA X q → H1[q]? = H0[q]?) : gEnv X t H1 := by
  obtain ⟨h1, h2, h3, h4, h5, h6, h7⟩ := h
  exact ⟨va_K.moved hW.alike h1, ⟨fun q hq => va_Nw.warmF hW (h2.1 q hq), fun q hq => va_Nw.warmM hW (h2.2 q hq)⟩, Nat.le_trans h3 hz, (vk_S.moved hW.alike h4).kept hq, fun i hi => (h5 i hi).warm hW, (va_Z.moved hW.alike h6).kept hq, (va_Zq.moved hW.alike h7).kept hq⟩
def gB (X : gX) (mem : gM) (U : State) : Prop := gRep X mem U.heap ∧ gEnv X U U.heap
def gQ (X : gX) (post : Option Value → gM → Prop) : Array Value → State → Outcome → State → Prop := fun _ st oc t => (∃ (v : Option Value) (mem' : gM), oc = .returned v ∧ post v mem' ∧ gB X mem' t) ∧ va_F (gA X) st t
/-- a method's contract: from any heap that holds mem it ends, with an answer and a memory of which 'post' holds -/
def gMt (l : Launch) (y : MethodName) (cc : ByteArray) (nL : Nat) (ret : Option FieldType) (fr lo : Nat) (X : gX) (av : List Value) (mem : gM) (post : Option Value → gM → Prop) : Prop :=
  Met l y (.code y cc nL ret :: wA) { frames := fr, cells := 0, slots := 0, locals := lo } (va_Pc av (gB X mem)) (gQ X post) 0 0 (gA X)
/-- the same, with the answer and the memory told -/
def gF (l : Launch) (y : MethodName) (cc : ByteArray) (nL : Nat) (ret : Option FieldType) (fr lo : Nat) (X : gX) (av : List Value) (mem : gM) (r : Option Value) (mem2 : gM) : Prop :=
  gMt l y cc nL ret fr lo X av mem (fun v m => v = r ∧ m = mem2)
/-- where a body stands: the machine, its code, the words, what stands still -/
def gC (X : gX) (own : String) (cc : ByteArray) (ret : Option FieldType) (nL : Nat) (p : Program) (s : State) (m : MethodId) (args : Array Value) (meth : Method) (c : Code) : Prop :=
  p.tables.exec = Jvm.exec ∧ c.code = cc ∧ meth.sig.returnType = ret ∧ c.maxLocals = nL ∧ s.vm.findClass own = some m.cls ∧ (∀ w ∈ wA, w.before args s = true) ∧ meth.locks = false ∧ gInj X ∧ gEnv X s s.heap
/-! locals -/
def gL (ls : Array Slot) (vs : List (Option Value)) : Prop := ls.size = vs.length ∧ lv_wf ls ∧ ∀ (i : Nat) (v : Value), vs[i]? = some (some v) → v.category = 1 ∧ ls[i]? = some (.val v)
theorem gL.at {ls : Array Slot} {vs : List (Option Value)} (h : gL ls vs) (i : Nat) {v : Value} (hi : vs[i]? = some (some v)) : ls[i]? = some (.val v) := (h.2.2 i v hi).2
def gLs (vs : List (Option Value)) : List (Nat × Value) := (List.range vs.length).filterMap (fun i => (vs[i]?.join).map (fun v => (i, v)))
theorem gLs_mem {vs : List (Option Value)} {q : Nat × Value} : q ∈ gLs vs ↔ vs[q.1]? = some (some q.2) := by
  unfold gLs
  rw [List.mem_filterMap]
  constructor
  · rintro ⟨i, -, hi⟩
    cases h : vs[i]? with
    | none => rw [h] at hi; cases hi
    | some o =>
      cases o with
      | none => rw [h] at hi; cases hi
      | some v => rw [h] at hi; cases hi; exact h
  · intro h
    exact ⟨q.1, List.mem_range.mpr (List.getElem?_eq_some_iff.mp h).1, by rw [h]; rfl⟩
theorem gL.has {ls : Array Slot} {vs : List (Option Value)} (h : gL ls vs) : lv_has ls vs.length (gLs vs) := ⟨h.1, h.2.1, fun q hq => (h.2.2 q.1 q.2 (gLs_mem.mp hq)).2⟩
theorem gL.set {ls ls' : Array Slot} {vs : List (Option Value)} {i : Nat} {v : Value} (h : gL ls vs) (hi : i < vs.length) (hc : v.category = 1) (h' : lv_has ls' vs.length ((i, v) :: (gLs vs).filter (fun q => !(q.1 == i) && !(q.1 + 1 == i && q.2.category == 2)))) : gL ls' (vs.set i (some v)) := by
  refine ⟨by rw [List.length_set]; exact h'.1, h'.2.1, fun j w hj => ?_⟩
  by_cases e : j = i
  · subst e
    rw [List.getElem?_set_self hi] at hj
    cases hj
    exact ⟨hc, h'.2.2 (j, v) List.mem_cons_self⟩
  · rw [List.getElem?_set_ne (Ne.symm e)] at hj
    obtain ⟨c1, -⟩ := h.2.2 j w hj
    refine ⟨c1, h'.2.2 (j, w) (List.mem_cons_of_mem _ (List.mem_filter.mpr ⟨gLs_mem.mpr hj, ?_⟩))⟩
    simp [e, c1]
theorem gL.entry (vs : List Value) (n : Nat) (hc : ∀ v ∈ vs, v.category = 1) (hn : vs.length ≤ n) : gL ((lg_sl vs ++ List.replicate (n - (lg_sl vs).length) Slot.unset).toArray) (vs.map some ++ List.replicate (n - vs.length) none) := by
  have e : ∀ us : List Value, (∀ v ∈ us, v.category = 1) → lg_sl us = us.map Slot.val := by
    intro us
    induction us with
    | nil => intro _; rfl
    | cons a t ih =>
      intro h
      have ha : ¬ a.category = 2 := by rw [h a List.mem_cons_self]; decide
      show (if a.category = 2 then [Slot.val a, .second] else [Slot.val a]) ++ lg_sl t = _
      rw [if_neg ha, ih (fun v hv => h v (List.mem_cons_of_mem _ hv))]
      rfl
  rw [e vs hc, List.length_map]
  have hget : ∀ j : Nat, ((vs.map Slot.val ++ List.replicate (n - vs.length) Slot.unset).toArray)[j]? = if j < vs.length then (vs[j]?).map Slot.val else if j < n then some Slot.unset else none := by
    intro j
    rw [List.getElem?_toArray]
    by_cases h1 : j < vs.length
    · rw [if_pos h1, List.getElem?_append_left (by rw [List.length_map]; exact h1), List.getElem?_map]
    · rw [if_neg h1, List.getElem?_append_right (by rw [List.length_map]; omega), List.length_map, List.getElem?_replicate]
      by_cases h2 : j < n
      · rw [if_pos h2, if_pos (by omega)]
      · rw [if_neg h2, if_neg (by omega)]
  refine ⟨by simp, ⟨fun i v hi hv => ?_, fun i hi => ?_⟩, fun i v hi => ?_⟩
  · rw [hget i] at hi
    by_cases h1 : i < vs.length
    · rw [if_pos h1, List.getElem?_eq_getElem h1] at hi
      cases hi
      rw [hc _ (List.getElem_mem h1)] at hv
      cases hv
    · rw [if_neg h1] at hi
      by_cases h2 : i < n
      · rw [if_pos h2] at hi; cases hi
      · rw [if_neg h2] at hi; cases hi
  · rw [hget i] at hi
    by_cases h1 : i < vs.length
    · rw [if_pos h1, List.getElem?_eq_getElem h1] at hi
      cases hi
    · rw [if_neg h1] at hi
      by_cases h2 : i < n
      · rw [if_pos h2] at hi; cases hi
      · rw [if_neg h2] at hi; cases hi
  · by_cases h1 : i < vs.length
    · rw [List.getElem?_append_left (by rw [List.length_map]; exact h1), List.getElem?_map, List.getElem?_eq_getElem h1] at hi
      cases hi
      refine ⟨hc _ (List.getElem_mem h1), ?_⟩
      rw [hget i, if_pos h1, List.getElem?_eq_getElem h1]
      rfl
    · rw [List.getElem?_append_right (by rw [List.length_map]; omega), List.getElem?_replicate] at hi
      by_cases h2 : i - (vs.map some).length < n - vs.length
      · rw [if_pos h2] at hi; cases hi
      · rw [if_neg h2] at hi; cases hi
/-- a body walked is a contract -/
theorem gMt.of {l : Launch} {own : String} {y : MethodName} {cc : ByteArray} {nL : Nat} {ret : Option FieldType} {fr lo : Nat} {X : gX} {av : List Value} {mem : gM} {post : Option Value → gM → Prop} (hy : plainName y.cls = true) (ho : y.cls = own) (hI : gInj X) (hc : ∀ v ∈ av, v.category = 1) (hn : av.length ≤ nL)
    (body : ∀ (p : Program) (e : Env) (s : State) (m : MethodId) (args : Array Value) (below : List Frame) (meth : Method) (c : Code) (ls : Array Slot) (H : Heap) (locs : List Loc), gC X own cc ret nL p s m args meth c → meth.name = y.name → gL ls (av.map some ++ List.replicate (nL - av.length) none) → gRep X mem H → va_S (gA X) s.heap H locs →
      W p l e { frames := fr, cells := 0, slots := 0, locals := lo } s m args below meth c H locs 0 0 (MQ below (gQ X post) args s 0 0 (gA X)) (F0 m 0 ls [])) : gMt l y cc nL ret fr lo X av mem post := by
  refine Met.ofW (cc := cc) (maxL := nL) (ret := ret) hy rfl ?_
  intro p e s m args below meth c s₁ B hml hv
  obtain ⟨rfl, hR, hE⟩ := hv
  have hts := atoms_spec (ws := Cond.code y cc nL ret :: wA) B.pre
  rw [lg_entry_eq]
  exact body p e s m _ below meth c _ s.heap [] ⟨B.exec, B.bytes, B.returns, hml, by rw [← ho]; exact findClass_of_methodNamed B.named, fun w hw => hts w (List.mem_cons_of_mem _ hw), B.notSynchronized, hI, hE⟩ (name_of_methodNamed B.named B.method).1 (gL.entry av nL hc hn) hR va_S.rf
section GB
variable {p : Program} {l : Launch} {e : Env} {R : Room} {s : State} {m : MethodId} {args : Array Value} {below : List Frame} {meth : Method} {c : Code} {H : Heap} {locs : List Loc} {cells slots : Nat} {Q : State → Prop}
variable {cc : ByteArray} {pc : Nat} {ls : Array Slot} {rest : List Value} {X : gX} {own : String} {ret : Option FieldType} {nL : Nat} {mem : gM}
theorem gC.env {H1 : Heap} {t : State} {locs1 : List Loc} (C : gC X own cc ret nL p s m args meth c) (hS : va_S (gA X) s.heap H1 locs1) (ht : t.heap = H1) (hW : s.WarmedH t.vm) : gEnv X t t.heap := by
  obtain ⟨-, -, -, -, -, -, -, -, hE⟩ := C
  rw [ht]
  exact hE.to hW hS.1 hS.2.1
/-! ends -/
theorem g_iret {R0 : Room} {post : Option Value → gM → Prop} {v : Int32} (C : gC X own cc (some .int) nL p s m args meth c) (hR : gRep X mem H) (hS : va_S (gA X) s.heap H locs) (hdg : decode cc pc = .ok (.ireturn, 1)) (hp : post (some (.int v)) mem) : W p l e R0 s m args below meth c H locs 0 0 (MQ below (gQ X post) args s 0 0 (gA X)) (F0 m pc ls [.int v]) := by
  have C' := C
  obtain ⟨hx, hb, hr, -, -, -, hlocks, -, -⟩ := C
  exact W.iret hx hb hr (fun t ht hW => ⟨⟨_, mem, rfl, hp, by rw [ht]; exact hR, C'.env hS ht hW⟩, hS.F ht⟩) hS.2.2 hdg hlocks
theorem g_zret {R0 : Room} {post : Option Value → gM → Prop} {v : Int32} {ty : FieldType} (C : gC X own cc (some ty) nL p s m args meth c) (hR : gRep X mem H) (hS : va_S (gA X) s.heap H locs) (hdg : decode cc pc = .ok (.ireturn, 1)) (hn : narrow ty (.int v) = .int v) (hp : post (some (.int v)) mem) : W p l e R0 s m args below meth c H locs 0 0 (MQ below (gQ X post) args s 0 0 (gA X)) (F0 m pc ls [.int v]) := by
  have C' := C
  obtain ⟨hx, hb, hr, -, -, -, hlocks, -, -⟩ := C
  exact W.zret hx hb hr hn (fun t ht hW => ⟨⟨_, mem, rfl, hp, by rw [ht]; exact hR, C'.env hS ht hW⟩, hS.F ht⟩) hS.2.2 hdg hlocks
theorem g_vret {R0 : Room} {post : Option Value → gM → Prop} (C : gC X own cc none nL p s m args meth c) (hR : gRep X mem H) (hS : va_S (gA X) s.heap H locs) (hdg : decode cc pc = .ok (.return_, 1)) (hp : post none mem) : W p l e R0 s m args below meth c H locs 0 0 (MQ below (gQ X post) args s 0 0 (gA X)) (F0 m pc ls []) := by
  have C' := C
  obtain ⟨hx, hb, hr, -, -, -, hlocks, -, -⟩ := C
  exact W.vret hx hb hr (fun t ht hW => ⟨⟨_, mem, rfl, hp, by rw [ht]; exact hR, C'.env hS ht hW⟩, hS.F ht⟩) hS.2.2 hdg hlocks
theorem g_aret {R0 : Room} {post : Option Value → gM → Prop} {a : Nat} {cn : String} (C : gC X own cc (some (.object cn)) nL p s m args meth c) (hR : gRep X mem H) (hS : va_S (gA X) s.heap H locs) (hdg : decode cc pc = .ok (.areturn, 1)) (hp : post (some (.ref a)) mem) : W p l e R0 s m args below meth c H locs 0 0 (MQ below (gQ X post) args s 0 0 (gA X)) (F0 m pc ls [.ref a]) := by
  have C' := C
  obtain ⟨hx, hb, hr, -, -, -, hlocks, -, -⟩ := C
  exact W.aret hx hb hr (Or.inl ⟨_, rfl⟩) (Or.inr ⟨_, rfl⟩) (fun t ht hW => ⟨⟨_, mem, rfl, hp, by rw [ht]; exact hR, C'.env hS ht hW⟩, hS.F ht⟩) hS.2.2 hdg hlocks
/-! locals and numbers -/
theorem g_iload_n {vs : List (Option Value)} {k : Fin 4} {x : Int32} (C : gC X own cc ret nL p s m args meth c) (hl : gL ls vs) (hdg : decode cc pc = .ok (.iload_n k, 1)) (hi : vs[(k : Nat)]? = some (some (.int x))) (kk : W p l e R s m args below meth c H locs cells slots Q (F0 m (pc + 1) ls (.int x :: rest))) : W p l e R s m args below meth c H locs cells slots Q (F0 m pc ls rest) := lv_iload_n C.1 C.2.1 hdg rfl (hl.at _ hi) kk
theorem g_iload {vs : List (Option Value)} {i : Nat} {x : Int32} (C : gC X own cc ret nL p s m args meth c) (hl : gL ls vs) (hdg : decode cc pc = .ok (.iload i, 2)) (hi : vs[i]? = some (some (.int x))) (kk : W p l e R s m args below meth c H locs cells slots Q (F0 m (pc + 2) ls (.int x :: rest))) : W p l e R s m args below meth c H locs cells slots Q (F0 m pc ls rest) := lv_iload C.1 C.2.1 hdg (hl.at _ hi) kk
theorem g_aload_n {vs : List (Option Value)} {k : Fin 4} {x : Nat} (C : gC X own cc ret nL p s m args meth c) (hl : gL ls vs) (hdg : decode cc pc = .ok (.aload_n k, 1)) (hi : vs[(k : Nat)]? = some (some (.ref x))) (kk : W p l e R s m args below meth c H locs cells slots Q (F0 m (pc + 1) ls (.ref x :: rest))) : W p l e R s m args below meth c H locs cells slots Q (F0 m pc ls rest) := lv_aload_n C.1 C.2.1 hdg rfl (hl.at _ hi) kk
theorem g_aload {vs : List (Option Value)} {i : Nat} {x : Nat} (C : gC X own cc ret nL p s m args meth c) (hl : gL ls vs) (hdg : decode cc pc = .ok (.aload i, 2)) (hi : vs[i]? = some (some (.ref x))) (kk : W p l e R s m args below meth c H locs cells slots Q (F0 m (pc + 2) ls (.ref x :: rest))) : W p l e R s m args below meth c H locs cells slots Q (F0 m pc ls rest) := lv_aload C.1 C.2.1 hdg (hl.at _ hi) kk
theorem g_istore_n {vs : List (Option Value)} {k : Fin 4} {x : Int32} (C : gC X own cc ret nL p s m args meth c) (hl : gL ls vs) (hdg : decode cc pc = .ok (.istore_n k, 1)) (hi : (k : Nat) < vs.length) (kk : ∀ ls' : Array Slot, gL ls' (vs.set k (some (.int x))) → W p l e R s m args below meth c H locs cells slots Q (F0 m (pc + 1) ls' rest)) : W p l e R s m args below meth c H locs cells slots Q (F0 m pc ls (.int x :: rest)) := lv_istore_n C.1 C.2.1 hdg rfl hl.has hi rfl (fun ls' h' => kk ls' (hl.set hi rfl h'))
theorem g_istore {vs : List (Option Value)} {i : Nat} {x : Int32} (C : gC X own cc ret nL p s m args meth c) (hl : gL ls vs) (hdg : decode cc pc = .ok (.istore i, 2)) (hi : i < vs.length) (kk : ∀ ls' : Array Slot, gL ls' (vs.set i (some (.int x))) → W p l e R s m args below meth c H locs cells slots Q (F0 m (pc + 2) ls' rest)) : W p l e R s m args below meth c H locs cells slots Q (F0 m pc ls (.int x :: rest)) := lv_istore C.1 C.2.1 hdg hl.has hi rfl (fun ls' h' => kk ls' (hl.set hi rfl h'))
theorem g_astore_n {vs : List (Option Value)} {k : Fin 4} {x : Nat} (C : gC X own cc ret nL p s m args meth c) (hl : gL ls vs) (hdg : decode cc pc = .ok (.astore_n k, 1)) (hi : (k : Nat) < vs.length) (kk : ∀ ls' : Array Slot, gL ls' (vs.set k (some (.ref x))) → W p l e R s m args below meth c H locs cells slots Q (F0 m (pc + 1) ls' rest)) : W p l e R s m args below meth c H locs cells slots Q (F0 m pc ls (.ref x :: rest)) := lv_astore_n C.1 C.2.1 hdg rfl hl.has hi rfl (fun ls' h' => kk ls' (hl.set hi rfl h'))
theorem g_astore {vs : List (Option Value)} {i : Nat} {x : Nat} (C : gC X own cc ret nL p s m args meth c) (hl : gL ls vs) (hdg : decode cc pc = .ok (.astore i, 2)) (hi : i < vs.length) (kk : ∀ ls' : Array Slot, gL ls' (vs.set i (some (.ref x))) → W p l e R s m args below meth c H locs cells slots Q (F0 m (pc + 2) ls' rest)) : W p l e R s m args below meth c H locs cells slots Q (F0 m pc ls (.ref x :: rest)) := lv_astore C.1 C.2.1 hdg hl.has hi rfl (fun ls' h' => kk ls' (hl.set hi rfl h'))
/-- a local that is a Nat grows -/
theorem g_iinc {vs : List (Option Value)} {i k a : Nat} {n : Int} (C : gC X own cc ret nL p s m args meth c) (hl : gL ls vs) (hdg : decode cc pc = .ok (.iinc i n, 3)) (hi : vs[i]? = some (some (.int (nI a)))) (hn : Int32.ofInt n = nI k) (kk : ∀ ls' : Array Slot, gL ls' (vs.set i (some (.int (nI (a + k))))) → W p l e R s m args below meth c H locs cells slots Q (F0 m (pc + 3) ls' rest)) : W p l e R s m args below meth c H locs cells slots Q (F0 m pc ls rest) := by
  have hlt := (List.getElem?_eq_some_iff.mp hi).1
  obtain ⟨q, hq⟩ := List.getElem?_of_mem (gLs_mem (q := (i, .int (nI a))).mpr hi)
  exact lv_iinc (v := nI (a + k)) C.1 C.2.1 hdg hl.has hq (by rw [hn, nI_add]) hlt rfl (fun ls' h' => kk ls' (hl.set hlt rfl h'))
/-- a local that is a Nat falls -/
theorem g_idec {vs : List (Option Value)} {i a : Nat} {n : Int} (C : gC X own cc ret nL p s m args meth c) (hl : gL ls vs) (hdg : decode cc pc = .ok (.iinc i n, 3)) (hi : vs[i]? = some (some (.int (nI (a + 1))))) (hn : Int32.ofInt n = -1) (kk : ∀ ls' : Array Slot, gL ls' (vs.set i (some (.int (nI a)))) → W p l e R s m args below meth c H locs cells slots Q (F0 m (pc + 3) ls' rest)) : W p l e R s m args below meth c H locs cells slots Q (F0 m pc ls rest) := by
  have hlt := (List.getElem?_eq_some_iff.mp hi).1
  obtain ⟨q, hq⟩ := List.getElem?_of_mem (gLs_mem (q := (i, .int (nI (a + 1)))).mpr hi)
  exact lv_iinc (v := nI a) C.1 C.2.1 hdg hl.has hq (by rw [hn, pk_m1]) hlt rfl (fun ls' h' => kk ls' (hl.set hlt rfl h'))
theorem g_iconst {n : Int} (k : Nat) (C : gC X own cc ret nL p s m args meth c) (hdg : decode cc pc = .ok (.iconst n, 1)) (hn : Int32.ofInt n = nI k) (kk : W p l e R s m args below meth c H locs cells slots Q (F0 m (pc + 1) ls (.int (nI k) :: rest))) : W p l e R s m args below meth c H locs cells slots Q (F0 m pc ls rest) := lv_iconst C.1 C.2.1 hdg hn kk
theorem g_iconstM {n : Int} (v : Int32) (C : gC X own cc ret nL p s m args meth c) (hdg : decode cc pc = .ok (.iconst n, 1)) (hn : Int32.ofInt n = v) (kk : W p l e R s m args below meth c H locs cells slots Q (F0 m (pc + 1) ls (.int v :: rest))) : W p l e R s m args below meth c H locs cells slots Q (F0 m pc ls rest) := lv_iconst C.1 C.2.1 hdg hn kk
theorem g_bipush {n : Int} (k : Nat) (C : gC X own cc ret nL p s m args meth c) (hdg : decode cc pc = .ok (.bipush n, 2)) (hn : (Int8.ofInt n).toInt32 = nI k) (kk : W p l e R s m args below meth c H locs cells slots Q (F0 m (pc + 2) ls (.int (nI k) :: rest))) : W p l e R s m args below meth c H locs cells slots Q (F0 m pc ls rest) := lv_bipush C.1 C.2.1 hdg hn kk
theorem g_bipushM {n : Int} (v : Int32) (C : gC X own cc ret nL p s m args meth c) (hdg : decode cc pc = .ok (.bipush n, 2)) (hn : (Int8.ofInt n).toInt32 = v) (kk : W p l e R s m args below meth c H locs cells slots Q (F0 m (pc + 2) ls (.int v :: rest))) : W p l e R s m args below meth c H locs cells slots Q (F0 m pc ls rest) := lv_bipush C.1 C.2.1 hdg hn kk
theorem g_sipush {n : Int} (k : Nat) (C : gC X own cc ret nL p s m args meth c) (hdg : decode cc pc = .ok (.sipush n, 3)) (hn : (Int16.ofInt n).toInt32 = nI k) (kk : W p l e R s m args below meth c H locs cells slots Q (F0 m (pc + 3) ls (.int (nI k) :: rest))) : W p l e R s m args below meth c H locs cells slots Q (F0 m pc ls rest) := lv_sipush C.1 C.2.1 hdg hn kk
theorem g_ldc {index : Nat} {v : Int32} (k : Nat) (C : gC X own cc ret nL p s m args meth c) (hw : Cond.constant own index v ∈ wA) (hv : v = nI k) (hdg : decode cc pc = .ok (.ldc index, 2)) (kk : W p l e R s m args below meth c H locs cells slots Q (F0 m (pc + 2) ls (.int (nI k) :: rest))) : W p l e R s m args below meth c H locs cells slots Q (F0 m pc ls rest) := by
  subst hv
  obtain ⟨hx, hb, -, -, hown, hA, -, -, -⟩ := C
  exact lv_ldc hx hb hown (hA _ hw) hdg kk
theorem g_iadd {a b : Nat} (C : gC X own cc ret nL p s m args meth c) (hdg : decode cc pc = .ok (.iadd, 1)) (kk : W p l e R s m args below meth c H locs cells slots Q (F0 m (pc + 1) ls (.int (nI (a + b)) :: rest))) : W p l e R s m args below meth c H locs cells slots Q (F0 m pc ls (.int (nI b) :: .int (nI a) :: rest)) := lv_iadd C.1 C.2.1 hdg (by rw [nI_add]; exact kk)
theorem g_isub {a b : Nat} (C : gC X own cc ret nL p s m args meth c) (hdg : decode cc pc = .ok (.isub, 1)) (h : b ≤ a) (kk : W p l e R s m args below meth c H locs cells slots Q (F0 m (pc + 1) ls (.int (nI (a - b)) :: rest))) : W p l e R s m args below meth c H locs cells slots Q (F0 m pc ls (.int (nI b) :: .int (nI a) :: rest)) := lv_isub C.1 C.2.1 hdg (by rw [pk_sub h]; exact kk)
theorem g_imul {a b : Nat} (C : gC X own cc ret nL p s m args meth c) (hdg : decode cc pc = .ok (.imul, 1)) (kk : W p l e R s m args below meth c H locs cells slots Q (F0 m (pc + 1) ls (.int (nI (a * b)) :: rest))) : W p l e R s m args below meth c H locs cells slots Q (F0 m pc ls (.int (nI b) :: .int (nI a) :: rest)) := lv_imul C.1 C.2.1 hdg (by rw [pk_mul]; exact kk)
theorem g_idiv {a b : Nat} (C : gC X own cc ret nL p s m args meth c) (hdg : decode cc pc = .ok (.idiv, 1)) (ha : a < 2 ^ 31) (h0 : 0 < b) (hb : b < 2 ^ 31) (kk : W p l e R s m args below meth c H locs cells slots Q (F0 m (pc + 1) ls (.int (nI (a / b)) :: rest))) : W p l e R s m args below meth c H locs cells slots Q (F0 m pc ls (.int (nI b) :: .int (nI a) :: rest)) := lv_idiv C.1 C.2.1 hdg (nI_ne0 h0 hb) (by rw [pk_div ha h0 hb]; exact kk)
theorem g_irem {a b : Nat} (C : gC X own cc ret nL p s m args meth c) (hdg : decode cc pc = .ok (.irem, 1)) (ha : a < 2 ^ 31) (h0 : 0 < b) (hb : b < 2 ^ 31) (kk : W p l e R s m args below meth c H locs cells slots Q (F0 m (pc + 1) ls (.int (nI (a % b)) :: rest))) : W p l e R s m args below meth c H locs cells slots Q (F0 m pc ls (.int (nI b) :: .int (nI a) :: rest)) := lv_irem C.1 C.2.1 hdg (nI_ne0 h0 hb) (by rw [pk_rem ha h0 hb]; exact kk)
theorem g_dup {v : Value} (C : gC X own cc ret nL p s m args meth c) (hdg : decode cc pc = .ok (.dup, 1)) (hc : v.category = 1) (kk : W p l e R s m args below meth c H locs cells slots Q (F0 m (pc + 1) ls (v :: v :: rest))) : W p l e R s m args below meth c H locs cells slots Q (F0 m pc ls (v :: rest)) := lv_dup C.1 C.2.1 hdg hc kk
theorem g_dup2 {v w : Value} (C : gC X own cc ret nL p s m args meth c) (hdg : decode cc pc = .ok (.dup2, 1)) (hv : v.category = 1) (hw : w.category = 1) (kk : W p l e R s m args below meth c H locs cells slots Q (F0 m (pc + 1) ls (v :: w :: v :: w :: rest))) : W p l e R s m args below meth c H locs cells slots Q (F0 m pc ls (v :: w :: rest)) := lv_dup2_11 C.1 C.2.1 hdg hv hw kk
theorem g_pop {v : Value} (C : gC X own cc ret nL p s m args meth c) (hdg : decode cc pc = .ok (.pop, 1)) (hc : v.category = 1) (kk : W p l e R s m args below meth c H locs cells slots Q (F0 m (pc + 1) ls rest)) : W p l e R s m args below meth c H locs cells slots Q (F0 m pc ls (v :: rest)) := lv_pop C.1 C.2.1 hdg hc kk
theorem g_goto {off : Int} {tgt : Nat} (C : gC X own cc ret nL p s m args meth c) (hdg : decode cc pc = .ok (.goto off, 3)) (ht : (pc : Int) + off = (tgt : Int)) (kk : W p l e R s m args below meth c H locs cells slots Q (F0 m tgt ls rest)) : W p l e R s m args below meth c H locs cells slots Q (F0 m pc ls rest) := lv_goto C.1 C.2.1 hdg ht kk
end GB
end
